/-! the law: its 32 calls -/
section LAWC
variable {d : Nat} {M M' : MT} {Q : V → MI → Nat → MR → Prop} {n : Nat} {mr : MR} {kc ks : Nat} {mi : MI} {pc pc' : Nat} {ls st : List V}
theorem c_v1m {g j idx : Nat} {a1 : V} (hd : Dc M pc (.invokevirtual idx) 3 pc') (hc : okM M' 1 ∧ MLV (mY M).cls idx M' ∧ (∃ q, vwCl[(kd j).1]? = some q ∧ q.1 = (mY M').cls)) {ty : FieldType} (hr : mT M' = some ty) (hw : wdV st ≤ 8) (hK : kc + mK M' ≤ mK M) (hS : ks + mS M' ≤ mS M)
    (hT : Tx d M' [vR (some (g, j)), a1] mi n mr (fun v mi' n' mr' => Run (d + 1) M Q (n', mr', kc + mK M', ks + mS M') mi' pc' ls (v :: st))) : Run (d + 1) M Q (n, mr, kc, ks) mi pc ls (a1 :: vR (some (g, j)) :: st) := by
  obtain ⟨h1, h2, h3⟩ := hc
  refine s_invV (S := (n, mr, kc, ks)) (as := [a1]) hd h1 h2 h3 rfl hw ⟨hK, hS⟩ ?_
  simp only [pushV_some hr]
  exact hT
end LAWC
/-- behind a call -/
def Nxt (Q : V → MI → Nat → MR → Prop) (i B : Int) (kc ks : Nat) (mi : MI) : Prop := ∀ m2 n2 r2 kc' ks', kc' ≤ kc + 37 → ks' ≤ ks + 2816 → Scr mi m2 → LSt B m2 n2 r2 → Run 21 mt_L_law Q (n2, r2, kc', ks') m2 1042 [vX 1, vR (some (0, 0)), vR (some (0, 80)), vI i] []
section LAWD
variable {Q : V → MI → Nat → MR → Prop} {n : Nat} {mr : MR} {kc ks : Nat} {mi : MI} {i B a : Int}
theorem law_feed (hS : LSt B mi n mr) (hM : B + 64 ≤ 1000000) (hi0 : 0 ≤ i) (hi1 : i + 6 ≤ mi 0 111 0) (hL : mi 0 111 0 ≤ 3072) (hkc : kc + 37 ≤ mK mt_L_law) (hks : ks + 2816 ≤ mS mt_L_law) (hN : Nxt Q i (B + 64) kc ks mi) (ha : a = 0) : Run 21 mt_L_law Q (n, mr, kc, ks) mi 33 [vX 1, vR (some (0, 0)), vR (some (0, 80)), vI i] [vI a] := by
  have hk1 : kc ≤ mK mt_L_law := Nat.le_trans (Nat.le_add_right _ _) hkc
  have hk2 : ks ≤ mS mt_L_law := Nat.le_trans (Nat.le_add_right _ _) hks
  refine s_tabC (k0 := 0) (tgt := 176) (dc kc_L_law_0 21 rfl) ?_ rfl rfl rfl <| r_aload_n (dc kc_L_law_0 22 rfl) rfl <| s_aload_nX (dc kc_L_law_0 23 rfl) rfl <| s_iload_n (dc kc_L_law_0 24 rfl) rfl <| k_i (dc kc_L_law_0 25 rfl) rfl <| b_iadd (dc kc_L_law_0 26 rfl) (by first | omega | (simp [up] <;> omega)) (by first | omega | (simp [up] <;> omega)) <| s_sld (dc kc_L_law_0 27 rfl) (by first | omega | (simp [up] <;> omega)) (by first | omega | (simp [up] <;> omega)) <| s_aload_nX (dc kc_L_law_0 28 rfl) rfl <| s_iload_n (dc kc_L_law_0 29 rfl) rfl <| k_i (dc kc_L_law_0 30 rfl) rfl <| b_iadd (dc kc_L_law_0 31 rfl) (by first | omega | (simp [up] <;> omega)) (by first | omega | (simp [up] <;> omega)) <| s_sld (dc kc_L_law_0 32 rfl) (by first | omega | (simp [up] <;> omega)) (by first | omega | (simp [up] <;> omega)) <| s_aload_nX (dc kc_L_law_0 33 rfl) rfl <| s_iload_n (dc kc_L_law_0 34 rfl) rfl <| k_i (dc kc_L_law_0 35 rfl) rfl <| b_iadd (dc kc_L_law_0 36 rfl) (by first | omega | (simp [up] <;> omega)) (by first | omega | (simp [up] <;> omega)) <| s_sld (dc kc_L_law_0 37 rfl) (by first | omega | (simp [up] <;> omega)) (by first | omega | (simp [up] <;> omega)) <| s_aload_nX (dc kc_L_law_0 38 rfl) rfl <| s_iload_n (dc kc_L_law_0 39 rfl) rfl <| k_i (dc kc_L_law_1 0 rfl) rfl <| b_iadd (dc kc_L_law_1 1 rfl) (by first | omega | (simp [up] <;> omega)) (by first | omega | (simp [up] <;> omega)) <| s_sld (dc kc_L_law_1 2 rfl) (by first | omega | (simp [up] <;> omega)) (by first | omega | (simp [up] <;> omega)) <| s_aload_nX (dc kc_L_law_1 3 rfl) rfl <| s_iload_n (dc kc_L_law_1 4 rfl) rfl <| k_i (dc kc_L_law_1 5 rfl) rfl <| b_iadd (dc kc_L_law_1 6 rfl) (by first | omega | (simp [up] <;> omega)) (by first | omega | (simp [up] <;> omega)) <| s_sld (dc kc_L_law_1 7 rfl) (by first | omega | (simp [up] <;> omega)) (by first | omega | (simp [up] <;> omega)) <| c_v5r (dc kc_L_law_1 8 rfl) cl_L_13 rfl (Nat.le_of_ble_eq_true rfl) (by assumption) (by assumption) ?_
  · exact ha
  refine b_feed (B' := B + 64) hS (by omega) _ (fun x m1 n1 r1 sc1 hf => ?_)
  have e111 : m1 0 111 0 = mi 0 111 0 := by rw [sc1.2]
  refine r_aload_n (dc kc_L_law_1 9 rfl) rfl <| s_aload_nX (dc kc_L_law_1 10 rfl) rfl <| s_iload_n (dc kc_L_law_1 11 rfl) rfl <| k_i (dc kc_L_law_1 12 rfl) rfl <| b_iadd (dc kc_L_law_1 13 rfl) (by first | omega | (simp [up] <;> omega)) (by first | omega | (simp [up] <;> omega)) <| s_sld (dc kc_L_law_1 14 rfl) (by first | omega | (simp [up] <;> omega)) (by first | omega | (simp [up] <;> omega)) <| s_aload_nX (dc kc_L_law_1 15 rfl) rfl <| s_iload_n (dc kc_L_law_1 16 rfl) rfl <| k_i (dc kc_L_law_1 17 rfl) rfl <| b_iadd (dc kc_L_law_1 18 rfl) (by first | omega | (simp [up] <;> omega)) (by first | omega | (simp [up] <;> omega)) <| s_sld (dc kc_L_law_1 19 rfl) (by first | omega | (simp [up] <;> omega)) (by first | omega | (simp [up] <;> omega)) <| s_aload_nX (dc kc_L_law_1 20 rfl) rfl <| s_iload_n (dc kc_L_law_1 21 rfl) rfl <| k_i (dc kc_L_law_1 22 rfl) rfl <| b_iadd (dc kc_L_law_1 23 rfl) (by first | omega | (simp [up] <;> omega)) (by first | omega | (simp [up] <;> omega)) <| s_sld (dc kc_L_law_1 24 rfl) (by first | omega | (simp [up] <;> omega)) (by first | omega | (simp [up] <;> omega)) <| s_aload_nX (dc kc_L_law_1 25 rfl) rfl <| s_iload_n (dc kc_L_law_1 26 rfl) rfl <| k_i (dc kc_L_law_1 27 rfl) rfl <| b_iadd (dc kc_L_law_1 28 rfl) (by first | omega | (simp [up] <;> omega)) (by first | omega | (simp [up] <;> omega)) <| s_sld (dc kc_L_law_1 29 rfl) (by first | omega | (simp [up] <;> omega)) (by first | omega | (simp [up] <;> omega)) <| s_aload_nX (dc kc_L_law_1 30 rfl) rfl <| s_iload_n (dc kc_L_law_1 31 rfl) rfl <| k_i (dc kc_L_law_1 32 rfl) rfl <| b_iadd (dc kc_L_law_1 33 rfl) (by first | omega | (simp [up] <;> omega)) (by first | omega | (simp [up] <;> omega)) <| s_sld (dc kc_L_law_1 34 rfl) (by first | omega | (simp [up] <;> omega)) (by first | omega | (simp [up] <;> omega)) <| c_v5r (dc kc_L_law_1 35 rfl) cl_L_17 rfl (Nat.le_of_ble_eq_true rfl) (by assumption) (by assumption) ?_
  rw [sc1.1]
  refine hf _ (fun m2 n2 r2 sc2 hS2 => ?_)
  refine s_icmp_eq (tgt := 1042) (dc kc_L_law_1 36 rfl) rfl (fun c234 => (?_)) (fun c234 => (k_i (dc kc_L_law_1 37 rfl) rfl <| s_zreturn (dc kc_L_law_1 38 rfl) rfl (by first | exact Or.inl rfl | exact Or.inr rfl | exact bi_01 | assumption) (by assumption) (by assumption) ?_))
  · exact hN m2 n2 r2 _ _ (Nat.le_add_right _ _) (Nat.le_add_right _ _) sc2 hS2
  · exact absurd rfl c234
theorem law_end (hS : LSt B mi n mr) (hM : B + 64 ≤ 1000000) (hi0 : 0 ≤ i) (hi1 : i + 6 ≤ mi 0 111 0) (hL : mi 0 111 0 ≤ 3072) (hkc : kc + 37 ≤ mK mt_L_law) (hks : ks + 2816 ≤ mS mt_L_law) (hN : Nxt Q i (B + 64) kc ks mi) (ha : a = 1) : Run 21 mt_L_law Q (n, mr, kc, ks) mi 33 [vX 1, vR (some (0, 0)), vR (some (0, 80)), vI i] [vI a] := by
  have hk1 : kc ≤ mK mt_L_law := Nat.le_trans (Nat.le_add_right _ _) hkc
  have hk2 : ks ≤ mS mt_L_law := Nat.le_trans (Nat.le_add_right _ _) hks
  refine s_tabC (k0 := 1) (tgt := 239) (dc kc_L_law_0 21 rfl) ?_ rfl rfl rfl <| r_aload_n (dc kc_L_law_1 39 rfl) rfl <| s_aload_nX (dc kc_L_law_2 0 rfl) rfl <| s_iload_n (dc kc_L_law_2 1 rfl) rfl <| k_i (dc kc_L_law_2 2 rfl) rfl <| b_iadd (dc kc_L_law_2 3 rfl) (by first | omega | (simp [up] <;> omega)) (by first | omega | (simp [up] <;> omega)) <| s_sld (dc kc_L_law_2 4 rfl) (by first | omega | (simp [up] <;> omega)) (by first | omega | (simp [up] <;> omega)) <| c_v1r (dc kc_L_law_2 5 rfl) cl_L_18 rfl (Nat.le_of_ble_eq_true rfl) (by assumption) (by assumption) ?_
  · exact ha
  refine b_end (B' := B + 64) hS (by omega) _ (fun x m1 n1 r1 sc1 hf => ?_)
  have e111 : m1 0 111 0 = mi 0 111 0 := by rw [sc1.2]
  refine r_aload_n (dc kc_L_law_2 6 rfl) rfl <| s_aload_nX (dc kc_L_law_2 7 rfl) rfl <| s_iload_n (dc kc_L_law_2 8 rfl) rfl <| k_i (dc kc_L_law_2 9 rfl) rfl <| b_iadd (dc kc_L_law_2 10 rfl) (by first | omega | (simp [up] <;> omega)) (by first | omega | (simp [up] <;> omega)) <| s_sld (dc kc_L_law_2 11 rfl) (by first | omega | (simp [up] <;> omega)) (by first | omega | (simp [up] <;> omega)) <| c_v1r (dc kc_L_law_2 12 rfl) cl_L_22 rfl (Nat.le_of_ble_eq_true rfl) (by assumption) (by assumption) ?_
  rw [sc1.1]
  refine hf _ (fun m2 n2 r2 sc2 hS2 => ?_)
  refine s_icmp_eq (tgt := 1042) (dc kc_L_law_2 13 rfl) rfl (fun c257 => (?_)) (fun c257 => (k_i (dc kc_L_law_2 14 rfl) rfl <| s_zreturn (dc kc_L_law_2 15 rfl) rfl (by first | exact Or.inl rfl | exact Or.inr rfl | exact bi_01 | assumption) (by assumption) (by assumption) ?_))
  · exact hN m2 n2 r2 _ _ (Nat.le_add_right _ _) (Nat.le_add_right _ _) sc2 hS2
  · exact absurd rfl c257
theorem law_laws (hS : LSt B mi n mr) (hM : B + 64 ≤ 1000000) (hi0 : 0 ≤ i) (hi1 : i + 6 ≤ mi 0 111 0) (hL : mi 0 111 0 ≤ 3072) (hkc : kc + 37 ≤ mK mt_L_law) (hks : ks + 2816 ≤ mS mt_L_law) (hN : Nxt Q i (B + 64) kc ks mi) (ha : a = 2) : Run 21 mt_L_law Q (n, mr, kc, ks) mi 33 [vX 1, vR (some (0, 0)), vR (some (0, 80)), vI i] [vI a] := by
  have hk1 : kc ≤ mK mt_L_law := Nat.le_trans (Nat.le_add_right _ _) hkc
  have hk2 : ks ≤ mS mt_L_law := Nat.le_trans (Nat.le_add_right _ _) hks
  refine s_tabC (k0 := 2) (tgt := 262) (dc kc_L_law_0 21 rfl) ?_ rfl rfl rfl <| r_aload_n (dc kc_L_law_2 16 rfl) rfl <| c_v0r (dc kc_L_law_2 17 rfl) cl_L_23 rfl (Nat.le_of_ble_eq_true rfl) (by assumption) (by assumption) ?_
  · exact ha
  refine b_laws (B' := B + 64) hS (by omega) _ (fun x m1 n1 r1 sc1 hf => ?_)
  have e111 : m1 0 111 0 = mi 0 111 0 := by rw [sc1.2]
  refine r_aload_n (dc kc_L_law_2 18 rfl) rfl <| c_v0r (dc kc_L_law_2 19 rfl) cl_L_27 rfl (Nat.le_of_ble_eq_true rfl) (by assumption) (by assumption) ?_
  refine hf _ (fun m2 n2 r2 sc2 hS2 => ?_)
  refine s_icmp_eq (tgt := 1042) (dc kc_L_law_2 20 rfl) rfl (fun c270 => (?_)) (fun c270 => (k_i (dc kc_L_law_2 21 rfl) rfl <| s_zreturn (dc kc_L_law_2 22 rfl) rfl (by first | exact Or.inl rfl | exact Or.inr rfl | exact bi_01 | assumption) (by assumption) (by assumption) ?_))
  · exact hN m2 n2 r2 _ _ (Nat.le_add_right _ _) (Nat.le_add_right _ _) sc2 hS2
  · exact absurd rfl c270
theorem law_lines (hS : LSt B mi n mr) (hM : B + 64 ≤ 1000000) (hi0 : 0 ≤ i) (hi1 : i + 6 ≤ mi 0 111 0) (hL : mi 0 111 0 ≤ 3072) (hkc : kc + 37 ≤ mK mt_L_law) (hks : ks + 2816 ≤ mS mt_L_law) (hN : Nxt Q i (B + 64) kc ks mi) (ha : a = 3) : Run 21 mt_L_law Q (n, mr, kc, ks) mi 33 [vX 1, vR (some (0, 0)), vR (some (0, 80)), vI i] [vI a] := by
  have hk1 : kc ≤ mK mt_L_law := Nat.le_trans (Nat.le_add_right _ _) hkc
  have hk2 : ks ≤ mS mt_L_law := Nat.le_trans (Nat.le_add_right _ _) hks
  refine s_tabC (k0 := 3) (tgt := 275) (dc kc_L_law_0 21 rfl) ?_ rfl rfl rfl <| r_aload_n (dc kc_L_law_2 23 rfl) rfl <| c_v0r (dc kc_L_law_2 24 rfl) cl_L_28 rfl (Nat.le_of_ble_eq_true rfl) (by assumption) (by assumption) ?_
  · exact ha
  refine b_lines (B' := B + 64) hS (by omega) _ (fun x m1 n1 r1 sc1 hf => ?_)
  have e111 : m1 0 111 0 = mi 0 111 0 := by rw [sc1.2]
  refine r_aload_n (dc kc_L_law_2 25 rfl) rfl <| c_v0r (dc kc_L_law_2 26 rfl) cl_L_31 rfl (Nat.le_of_ble_eq_true rfl) (by assumption) (by assumption) ?_
  refine hf _ (fun m2 n2 r2 sc2 hS2 => ?_)
  refine s_icmp_eq (tgt := 1042) (dc kc_L_law_2 27 rfl) rfl (fun c283 => (?_)) (fun c283 => (k_i (dc kc_L_law_2 28 rfl) rfl <| s_zreturn (dc kc_L_law_2 29 rfl) rfl (by first | exact Or.inl rfl | exact Or.inr rfl | exact bi_01 | assumption) (by assumption) (by assumption) ?_))
  · exact hN m2 n2 r2 _ _ (Nat.le_add_right _ _) (Nat.le_add_right _ _) sc2 hS2
  · exact absurd rfl c283
theorem law_fault (hS : LSt B mi n mr) (hM : B + 64 ≤ 1000000) (hi0 : 0 ≤ i) (hi1 : i + 6 ≤ mi 0 111 0) (hL : mi 0 111 0 ≤ 3072) (hkc : kc + 37 ≤ mK mt_L_law) (hks : ks + 2816 ≤ mS mt_L_law) (hN : Nxt Q i (B + 64) kc ks mi) (ha : a = 4) : Run 21 mt_L_law Q (n, mr, kc, ks) mi 33 [vX 1, vR (some (0, 0)), vR (some (0, 80)), vI i] [vI a] := by
  have hk1 : kc ≤ mK mt_L_law := Nat.le_trans (Nat.le_add_right _ _) hkc
  have hk2 : ks ≤ mS mt_L_law := Nat.le_trans (Nat.le_add_right _ _) hks
  refine s_tabC (k0 := 4) (tgt := 288) (dc kc_L_law_0 21 rfl) ?_ rfl rfl rfl <| r_aload_n (dc kc_L_law_2 30 rfl) rfl <| c_v0r (dc kc_L_law_2 31 rfl) cl_L_32 rfl (Nat.le_of_ble_eq_true rfl) (by assumption) (by assumption) ?_
  · exact ha
  refine b_fault (B' := B + 64) hS (by omega) _ (fun x m1 n1 r1 sc1 hf => ?_)
  have e111 : m1 0 111 0 = mi 0 111 0 := by rw [sc1.2]
  refine r_aload_n (dc kc_L_law_2 32 rfl) rfl <| c_v0r (dc kc_L_law_2 33 rfl) cl_L_35 rfl (Nat.le_of_ble_eq_true rfl) (by assumption) (by assumption) ?_
  refine hf _ (fun m2 n2 r2 sc2 hS2 => ?_)
  refine s_icmp_eq (tgt := 1042) (dc kc_L_law_2 34 rfl) rfl (fun c296 => (?_)) (fun c296 => (k_i (dc kc_L_law_2 35 rfl) rfl <| s_zreturn (dc kc_L_law_2 36 rfl) rfl (by first | exact Or.inl rfl | exact Or.inr rfl | exact bi_01 | assumption) (by assumption) (by assumption) ?_))
  · exact hN m2 n2 r2 _ _ (Nat.le_add_right _ _) (Nat.le_add_right _ _) sc2 hS2
  · exact absurd rfl c296
theorem law_holds (hS : LSt B mi n mr) (hM : B + 64 ≤ 1000000) (hi0 : 0 ≤ i) (hi1 : i + 6 ≤ mi 0 111 0) (hL : mi 0 111 0 ≤ 3072) (hkc : kc + 37 ≤ mK mt_L_law) (hks : ks + 2816 ≤ mS mt_L_law) (hN : Nxt Q i (B + 64) kc ks mi) (ha : a = 5) : Run 21 mt_L_law Q (n, mr, kc, ks) mi 33 [vX 1, vR (some (0, 0)), vR (some (0, 80)), vI i] [vI a] := by
  have hk1 : kc ≤ mK mt_L_law := Nat.le_trans (Nat.le_add_right _ _) hkc
  have hk2 : ks ≤ mS mt_L_law := Nat.le_trans (Nat.le_add_right _ _) hks
  refine s_tabC (k0 := 5) (tgt := 301) (dc kc_L_law_0 21 rfl) ?_ rfl rfl rfl <| r_aload_n (dc kc_L_law_2 37 rfl) rfl <| s_aload_nX (dc kc_L_law_2 38 rfl) rfl <| s_iload_n (dc kc_L_law_2 39 rfl) rfl <| k_i (dc kc_L_law_3 0 rfl) rfl <| b_iadd (dc kc_L_law_3 1 rfl) (by first | omega | (simp [up] <;> omega)) (by first | omega | (simp [up] <;> omega)) <| s_sld (dc kc_L_law_3 2 rfl) (by first | omega | (simp [up] <;> omega)) (by first | omega | (simp [up] <;> omega)) <| c_v1r (dc kc_L_law_3 3 rfl) cl_L_36 rfl (Nat.le_of_ble_eq_true rfl) (by assumption) (by assumption) ?_
  · exact ha
  refine b_holds (B' := B + 64) hS (by omega) _ (fun x m1 n1 r1 sc1 hf => ?_)
  have e111 : m1 0 111 0 = mi 0 111 0 := by rw [sc1.2]
  refine r_aload_n (dc kc_L_law_3 4 rfl) rfl <| s_aload_nX (dc kc_L_law_3 5 rfl) rfl <| s_iload_n (dc kc_L_law_3 6 rfl) rfl <| k_i (dc kc_L_law_3 7 rfl) rfl <| b_iadd (dc kc_L_law_3 8 rfl) (by first | omega | (simp [up] <;> omega)) (by first | omega | (simp [up] <;> omega)) <| s_sld (dc kc_L_law_3 9 rfl) (by first | omega | (simp [up] <;> omega)) (by first | omega | (simp [up] <;> omega)) <| c_v1r (dc kc_L_law_3 10 rfl) cl_L_39 rfl (Nat.le_of_ble_eq_true rfl) (by assumption) (by assumption) ?_
  rw [sc1.1]
  refine hf _ (fun m2 n2 r2 sc2 hS2 => ?_)
  refine s_icmp_eq (tgt := 1042) (dc kc_L_law_3 11 rfl) rfl (fun c319 => (?_)) (fun c319 => (k_i (dc kc_L_law_3 12 rfl) rfl <| s_zreturn (dc kc_L_law_3 13 rfl) rfl (by first | exact Or.inl rfl | exact Or.inr rfl | exact bi_01 | assumption) (by assumption) (by assumption) ?_))
  · exact hN m2 n2 r2 _ _ (Nat.le_add_right _ _) (Nat.le_add_right _ _) sc2 hS2
  · exact absurd rfl c319
theorem law_bears (hS : LSt B mi n mr) (hM : B + 64 ≤ 1000000) (hi0 : 0 ≤ i) (hi1 : i + 6 ≤ mi 0 111 0) (hL : mi 0 111 0 ≤ 3072) (hkc : kc + 37 ≤ mK mt_L_law) (hks : ks + 2816 ≤ mS mt_L_law) (hN : Nxt Q i (B + 64) kc ks mi) (ha : a = 6) : Run 21 mt_L_law Q (n, mr, kc, ks) mi 33 [vX 1, vR (some (0, 0)), vR (some (0, 80)), vI i] [vI a] := by
  have hk1 : kc ≤ mK mt_L_law := Nat.le_trans (Nat.le_add_right _ _) hkc
  have hk2 : ks ≤ mS mt_L_law := Nat.le_trans (Nat.le_add_right _ _) hks
  refine s_tabC (k0 := 6) (tgt := 324) (dc kc_L_law_0 21 rfl) ?_ rfl rfl rfl <| r_aload_n (dc kc_L_law_3 14 rfl) rfl <| s_aload_nX (dc kc_L_law_3 15 rfl) rfl <| s_iload_n (dc kc_L_law_3 16 rfl) rfl <| k_i (dc kc_L_law_3 17 rfl) rfl <| b_iadd (dc kc_L_law_3 18 rfl) (by first | omega | (simp [up] <;> omega)) (by first | omega | (simp [up] <;> omega)) <| s_sld (dc kc_L_law_3 19 rfl) (by first | omega | (simp [up] <;> omega)) (by first | omega | (simp [up] <;> omega)) <| c_v1r (dc kc_L_law_3 20 rfl) cl_L_40 rfl (Nat.le_of_ble_eq_true rfl) (by assumption) (by assumption) ?_
  · exact ha
  refine b_bears (B' := B + 64) hS (by omega) _ (fun x m1 n1 r1 sc1 hf => ?_)
  have e111 : m1 0 111 0 = mi 0 111 0 := by rw [sc1.2]
  refine r_aload_n (dc kc_L_law_3 21 rfl) rfl <| s_aload_nX (dc kc_L_law_3 22 rfl) rfl <| s_iload_n (dc kc_L_law_3 23 rfl) rfl <| k_i (dc kc_L_law_3 24 rfl) rfl <| b_iadd (dc kc_L_law_3 25 rfl) (by first | omega | (simp [up] <;> omega)) (by first | omega | (simp [up] <;> omega)) <| s_sld (dc kc_L_law_3 26 rfl) (by first | omega | (simp [up] <;> omega)) (by first | omega | (simp [up] <;> omega)) <| c_v1r (dc kc_L_law_3 27 rfl) cl_L_43 rfl (Nat.le_of_ble_eq_true rfl) (by assumption) (by assumption) ?_
  rw [sc1.1]
  refine hf _ (fun m2 n2 r2 sc2 hS2 => ?_)
  refine s_icmp_eq (tgt := 1042) (dc kc_L_law_3 28 rfl) rfl (fun c342 => (?_)) (fun c342 => (k_i (dc kc_L_law_3 29 rfl) rfl <| s_zreturn (dc kc_L_law_3 30 rfl) rfl (by first | exact Or.inl rfl | exact Or.inr rfl | exact bi_01 | assumption) (by assumption) (by assumption) ?_))
  · exact hN m2 n2 r2 _ _ (Nat.le_add_right _ _) (Nat.le_add_right _ _) sc2 hS2
  · exact absurd rfl c342
theorem law_asked (hS : LSt B mi n mr) (hM : B + 64 ≤ 1000000) (hi0 : 0 ≤ i) (hi1 : i + 6 ≤ mi 0 111 0) (hL : mi 0 111 0 ≤ 3072) (hkc : kc + 37 ≤ mK mt_L_law) (hks : ks + 2816 ≤ mS mt_L_law) (hN : Nxt Q i (B + 64) kc ks mi) (ha : a = 7) : Run 21 mt_L_law Q (n, mr, kc, ks) mi 33 [vX 1, vR (some (0, 0)), vR (some (0, 80)), vI i] [vI a] := by
  have hk1 : kc ≤ mK mt_L_law := Nat.le_trans (Nat.le_add_right _ _) hkc
  have hk2 : ks ≤ mS mt_L_law := Nat.le_trans (Nat.le_add_right _ _) hks
  refine s_tabC (k0 := 7) (tgt := 347) (dc kc_L_law_0 21 rfl) ?_ rfl rfl rfl <| r_aload_n (dc kc_L_law_3 31 rfl) rfl <| s_aload_nX (dc kc_L_law_3 32 rfl) rfl <| s_iload_n (dc kc_L_law_3 33 rfl) rfl <| k_i (dc kc_L_law_3 34 rfl) rfl <| b_iadd (dc kc_L_law_3 35 rfl) (by first | omega | (simp [up] <;> omega)) (by first | omega | (simp [up] <;> omega)) <| s_sld (dc kc_L_law_3 36 rfl) (by first | omega | (simp [up] <;> omega)) (by first | omega | (simp [up] <;> omega)) <| c_v1r (dc kc_L_law_3 37 rfl) cl_L_44 rfl (Nat.le_of_ble_eq_true rfl) (by assumption) (by assumption) ?_
  · exact ha
  refine b_asked (B' := B + 64) hS (by omega) _ (fun x m1 n1 r1 sc1 hf => ?_)
  have e111 : m1 0 111 0 = mi 0 111 0 := by rw [sc1.2]
  refine r_aload_n (dc kc_L_law_3 38 rfl) rfl <| s_aload_nX (dc kc_L_law_3 39 rfl) rfl <| s_iload_n (dc kc_L_law_4 0 rfl) rfl <| k_i (dc kc_L_law_4 1 rfl) rfl <| b_iadd (dc kc_L_law_4 2 rfl) (by first | omega | (simp [up] <;> omega)) (by first | omega | (simp [up] <;> omega)) <| s_sld (dc kc_L_law_4 3 rfl) (by first | omega | (simp [up] <;> omega)) (by first | omega | (simp [up] <;> omega)) <| c_v1r (dc kc_L_law_4 4 rfl) cl_L_47 rfl (Nat.le_of_ble_eq_true rfl) (by assumption) (by assumption) ?_
  rw [sc1.1]
  refine hf _ (fun m2 n2 r2 sc2 hS2 => ?_)
  refine s_icmp_eq (tgt := 1042) (dc kc_L_law_4 5 rfl) rfl (fun c365 => (?_)) (fun c365 => (k_i (dc kc_L_law_4 6 rfl) rfl <| s_zreturn (dc kc_L_law_4 7 rfl) rfl (by first | exact Or.inl rfl | exact Or.inr rfl | exact bi_01 | assumption) (by assumption) (by assumption) ?_))
  · exact hN m2 n2 r2 _ _ (Nat.le_add_right _ _) (Nat.le_add_right _ _) sc2 hS2
  · exact absurd rfl c365
theorem law_cell (hS : LSt B mi n mr) (hM : B + 64 ≤ 1000000) (hi0 : 0 ≤ i) (hi1 : i + 6 ≤ mi 0 111 0) (hL : mi 0 111 0 ≤ 3072) (hkc : kc + 37 ≤ mK mt_L_law) (hks : ks + 2816 ≤ mS mt_L_law) (hN : Nxt Q i (B + 64) kc ks mi) (ha : a = 8) : Run 21 mt_L_law Q (n, mr, kc, ks) mi 33 [vX 1, vR (some (0, 0)), vR (some (0, 80)), vI i] [vI a] := by
  have hk1 : kc ≤ mK mt_L_law := Nat.le_trans (Nat.le_add_right _ _) hkc
  have hk2 : ks ≤ mS mt_L_law := Nat.le_trans (Nat.le_add_right _ _) hks
  refine s_tabC (k0 := 8) (tgt := 370) (dc kc_L_law_0 21 rfl) ?_ rfl rfl rfl <| r_aload_n (dc kc_L_law_4 8 rfl) rfl <| s_aload_nX (dc kc_L_law_4 9 rfl) rfl <| s_iload_n (dc kc_L_law_4 10 rfl) rfl <| k_i (dc kc_L_law_4 11 rfl) rfl <| b_iadd (dc kc_L_law_4 12 rfl) (by first | omega | (simp [up] <;> omega)) (by first | omega | (simp [up] <;> omega)) <| s_sld (dc kc_L_law_4 13 rfl) (by first | omega | (simp [up] <;> omega)) (by first | omega | (simp [up] <;> omega)) <| s_aload_nX (dc kc_L_law_4 14 rfl) rfl <| s_iload_n (dc kc_L_law_4 15 rfl) rfl <| k_i (dc kc_L_law_4 16 rfl) rfl <| b_iadd (dc kc_L_law_4 17 rfl) (by first | omega | (simp [up] <;> omega)) (by first | omega | (simp [up] <;> omega)) <| s_sld (dc kc_L_law_4 18 rfl) (by first | omega | (simp [up] <;> omega)) (by first | omega | (simp [up] <;> omega)) <| c_v2r (dc kc_L_law_4 19 rfl) cl_L_48 rfl (Nat.le_of_ble_eq_true rfl) (by assumption) (by assumption) ?_
  · exact ha
  refine b_cell (B' := B + 64) hS (by omega) _ (fun x m1 n1 r1 sc1 hf => ?_)
  have e111 : m1 0 111 0 = mi 0 111 0 := by rw [sc1.2]
  refine r_aload_n (dc kc_L_law_4 20 rfl) rfl <| s_aload_nX (dc kc_L_law_4 21 rfl) rfl <| s_iload_n (dc kc_L_law_4 22 rfl) rfl <| k_i (dc kc_L_law_4 23 rfl) rfl <| b_iadd (dc kc_L_law_4 24 rfl) (by first | omega | (simp [up] <;> omega)) (by first | omega | (simp [up] <;> omega)) <| s_sld (dc kc_L_law_4 25 rfl) (by first | omega | (simp [up] <;> omega)) (by first | omega | (simp [up] <;> omega)) <| s_aload_nX (dc kc_L_law_4 26 rfl) rfl <| s_iload_n (dc kc_L_law_4 27 rfl) rfl <| k_i (dc kc_L_law_4 28 rfl) rfl <| b_iadd (dc kc_L_law_4 29 rfl) (by first | omega | (simp [up] <;> omega)) (by first | omega | (simp [up] <;> omega)) <| s_sld (dc kc_L_law_4 30 rfl) (by first | omega | (simp [up] <;> omega)) (by first | omega | (simp [up] <;> omega)) <| c_v2r (dc kc_L_law_4 31 rfl) cl_L_52 rfl (Nat.le_of_ble_eq_true rfl) (by assumption) (by assumption) ?_
  rw [sc1.1]
  refine hf _ (fun m2 n2 r2 sc2 hS2 => ?_)
  refine s_icmp_eq (tgt := 1042) (dc kc_L_law_4 32 rfl) rfl (fun c398 => (?_)) (fun c398 => (k_i (dc kc_L_law_4 33 rfl) rfl <| s_zreturn (dc kc_L_law_4 34 rfl) rfl (by first | exact Or.inl rfl | exact Or.inr rfl | exact bi_01 | assumption) (by assumption) (by assumption) ?_))
  · exact hN m2 n2 r2 _ _ (Nat.le_add_right _ _) (Nat.le_add_right _ _) sc2 hS2
  · exact absurd rfl c398
theorem law_way (hS : LSt B mi n mr) (hM : B + 64 ≤ 1000000) (hi0 : 0 ≤ i) (hi1 : i + 6 ≤ mi 0 111 0) (hL : mi 0 111 0 ≤ 3072) (hkc : kc + 37 ≤ mK mt_L_law) (hks : ks + 2816 ≤ mS mt_L_law) (hN : Nxt Q i (B + 64) kc ks mi) (ha : a = 9) : Run 21 mt_L_law Q (n, mr, kc, ks) mi 33 [vX 1, vR (some (0, 0)), vR (some (0, 80)), vI i] [vI a] := by
  have hk1 : kc ≤ mK mt_L_law := Nat.le_trans (Nat.le_add_right _ _) hkc
  have hk2 : ks ≤ mS mt_L_law := Nat.le_trans (Nat.le_add_right _ _) hks
  refine s_tabC (k0 := 9) (tgt := 403) (dc kc_L_law_0 21 rfl) ?_ rfl rfl rfl <| r_aload_n (dc kc_L_law_4 35 rfl) rfl <| s_aload_nX (dc kc_L_law_4 36 rfl) rfl <| s_iload_n (dc kc_L_law_4 37 rfl) rfl <| k_i (dc kc_L_law_4 38 rfl) rfl <| b_iadd (dc kc_L_law_4 39 rfl) (by first | omega | (simp [up] <;> omega)) (by first | omega | (simp [up] <;> omega)) <| s_sld (dc kc_L_law_5 0 rfl) (by first | omega | (simp [up] <;> omega)) (by first | omega | (simp [up] <;> omega)) <| s_aload_nX (dc kc_L_law_5 1 rfl) rfl <| s_iload_n (dc kc_L_law_5 2 rfl) rfl <| k_i (dc kc_L_law_5 3 rfl) rfl <| b_iadd (dc kc_L_law_5 4 rfl) (by first | omega | (simp [up] <;> omega)) (by first | omega | (simp [up] <;> omega)) <| s_sld (dc kc_L_law_5 5 rfl) (by first | omega | (simp [up] <;> omega)) (by first | omega | (simp [up] <;> omega)) <| c_v2r (dc kc_L_law_5 6 rfl) cl_L_53 rfl (Nat.le_of_ble_eq_true rfl) (by assumption) (by assumption) ?_
  · exact ha
  refine b_way (B' := B + 64) hS (by omega) _ (fun x m1 n1 r1 sc1 hf => ?_)
  have e111 : m1 0 111 0 = mi 0 111 0 := by rw [sc1.2]
  refine r_aload_n (dc kc_L_law_5 7 rfl) rfl <| s_aload_nX (dc kc_L_law_5 8 rfl) rfl <| s_iload_n (dc kc_L_law_5 9 rfl) rfl <| k_i (dc kc_L_law_5 10 rfl) rfl <| b_iadd (dc kc_L_law_5 11 rfl) (by first | omega | (simp [up] <;> omega)) (by first | omega | (simp [up] <;> omega)) <| s_sld (dc kc_L_law_5 12 rfl) (by first | omega | (simp [up] <;> omega)) (by first | omega | (simp [up] <;> omega)) <| s_aload_nX (dc kc_L_law_5 13 rfl) rfl <| s_iload_n (dc kc_L_law_5 14 rfl) rfl <| k_i (dc kc_L_law_5 15 rfl) rfl <| b_iadd (dc kc_L_law_5 16 rfl) (by first | omega | (simp [up] <;> omega)) (by first | omega | (simp [up] <;> omega)) <| s_sld (dc kc_L_law_5 17 rfl) (by first | omega | (simp [up] <;> omega)) (by first | omega | (simp [up] <;> omega)) <| c_v2r (dc kc_L_law_5 18 rfl) cl_L_56 rfl (Nat.le_of_ble_eq_true rfl) (by assumption) (by assumption) ?_
  rw [sc1.1]
  refine hf _ (fun m2 n2 r2 sc2 hS2 => ?_)
  refine s_icmp_eq (tgt := 1042) (dc kc_L_law_5 19 rfl) rfl (fun c431 => (?_)) (fun c431 => (k_i (dc kc_L_law_5 20 rfl) rfl <| s_zreturn (dc kc_L_law_5 21 rfl) rfl (by first | exact Or.inl rfl | exact Or.inr rfl | exact bi_01 | assumption) (by assumption) (by assumption) ?_))
  · exact hN m2 n2 r2 _ _ (Nat.le_add_right _ _) (Nat.le_add_right _ _) sc2 hS2
  · exact absurd rfl c431
theorem law_flip (hS : LSt B mi n mr) (hM : B + 64 ≤ 1000000) (hi0 : 0 ≤ i) (hi1 : i + 6 ≤ mi 0 111 0) (hL : mi 0 111 0 ≤ 3072) (hkc : kc + 37 ≤ mK mt_L_law) (hks : ks + 2816 ≤ mS mt_L_law) (hN : Nxt Q i (B + 64) kc ks mi) (ha : a = 10) : Run 21 mt_L_law Q (n, mr, kc, ks) mi 33 [vX 1, vR (some (0, 0)), vR (some (0, 80)), vI i] [vI a] := by
  have hk1 : kc ≤ mK mt_L_law := Nat.le_trans (Nat.le_add_right _ _) hkc
  have hk2 : ks ≤ mS mt_L_law := Nat.le_trans (Nat.le_add_right _ _) hks
  refine s_tabC (k0 := 10) (tgt := 436) (dc kc_L_law_0 21 rfl) ?_ rfl rfl rfl <| r_aload_n (dc kc_L_law_5 22 rfl) rfl <| s_aload_nX (dc kc_L_law_5 23 rfl) rfl <| s_iload_n (dc kc_L_law_5 24 rfl) rfl <| k_i (dc kc_L_law_5 25 rfl) rfl <| b_iadd (dc kc_L_law_5 26 rfl) (by first | omega | (simp [up] <;> omega)) (by first | omega | (simp [up] <;> omega)) <| s_sld (dc kc_L_law_5 27 rfl) (by first | omega | (simp [up] <;> omega)) (by first | omega | (simp [up] <;> omega)) <| s_aload_nX (dc kc_L_law_5 28 rfl) rfl <| s_iload_n (dc kc_L_law_5 29 rfl) rfl <| k_i (dc kc_L_law_5 30 rfl) rfl <| b_iadd (dc kc_L_law_5 31 rfl) (by first | omega | (simp [up] <;> omega)) (by first | omega | (simp [up] <;> omega)) <| s_sld (dc kc_L_law_5 32 rfl) (by first | omega | (simp [up] <;> omega)) (by first | omega | (simp [up] <;> omega)) <| c_v2r (dc kc_L_law_5 33 rfl) cl_L_57 rfl (Nat.le_of_ble_eq_true rfl) (by assumption) (by assumption) ?_
  · exact ha
  refine b_flip (B' := B + 64) hS (by omega) _ (fun x m1 n1 r1 sc1 hf => ?_)
  have e111 : m1 0 111 0 = mi 0 111 0 := by rw [sc1.2]
  refine r_aload_n (dc kc_L_law_5 34 rfl) rfl <| s_aload_nX (dc kc_L_law_5 35 rfl) rfl <| s_iload_n (dc kc_L_law_5 36 rfl) rfl <| k_i (dc kc_L_law_5 37 rfl) rfl <| b_iadd (dc kc_L_law_5 38 rfl) (by first | omega | (simp [up] <;> omega)) (by first | omega | (simp [up] <;> omega)) <| s_sld (dc kc_L_law_5 39 rfl) (by first | omega | (simp [up] <;> omega)) (by first | omega | (simp [up] <;> omega)) <| s_aload_nX (dc kc_L_law_6 0 rfl) rfl <| s_iload_n (dc kc_L_law_6 1 rfl) rfl <| k_i (dc kc_L_law_6 2 rfl) rfl <| b_iadd (dc kc_L_law_6 3 rfl) (by first | omega | (simp [up] <;> omega)) (by first | omega | (simp [up] <;> omega)) <| s_sld (dc kc_L_law_6 4 rfl) (by first | omega | (simp [up] <;> omega)) (by first | omega | (simp [up] <;> omega)) <| c_v2r (dc kc_L_law_6 5 rfl) cl_L_60 rfl (Nat.le_of_ble_eq_true rfl) (by assumption) (by assumption) ?_
  rw [sc1.1]
  refine hf _ (fun m2 n2 r2 sc2 hS2 => ?_)
  refine s_icmp_eq (tgt := 1042) (dc kc_L_law_6 6 rfl) rfl (fun c464 => (?_)) (fun c464 => (k_i (dc kc_L_law_6 7 rfl) rfl <| s_zreturn (dc kc_L_law_6 8 rfl) rfl (by first | exact Or.inl rfl | exact Or.inr rfl | exact bi_01 | assumption) (by assumption) (by assumption) ?_))
  · exact hN m2 n2 r2 _ _ (Nat.le_add_right _ _) (Nat.le_add_right _ _) sc2 hS2
  · exact absurd rfl c464
theorem law_row (hS : LSt B mi n mr) (hM : B + 64 ≤ 1000000) (hi0 : 0 ≤ i) (hi1 : i + 6 ≤ mi 0 111 0) (hL : mi 0 111 0 ≤ 3072) (hkc : kc + 37 ≤ mK mt_L_law) (hks : ks + 2816 ≤ mS mt_L_law) (hN : Nxt Q i (B + 64) kc ks mi) (ha : a = 11) : Run 21 mt_L_law Q (n, mr, kc, ks) mi 33 [vX 1, vR (some (0, 0)), vR (some (0, 80)), vI i] [vI a] := by
  have hk1 : kc ≤ mK mt_L_law := Nat.le_trans (Nat.le_add_right _ _) hkc
  have hk2 : ks ≤ mS mt_L_law := Nat.le_trans (Nat.le_add_right _ _) hks
  refine s_tabC (k0 := 11) (tgt := 469) (dc kc_L_law_0 21 rfl) ?_ rfl rfl rfl <| r_aload_n (dc kc_L_law_6 9 rfl) rfl <| s_aload_nX (dc kc_L_law_6 10 rfl) rfl <| s_iload_n (dc kc_L_law_6 11 rfl) rfl <| k_i (dc kc_L_law_6 12 rfl) rfl <| b_iadd (dc kc_L_law_6 13 rfl) (by first | omega | (simp [up] <;> omega)) (by first | omega | (simp [up] <;> omega)) <| s_sld (dc kc_L_law_6 14 rfl) (by first | omega | (simp [up] <;> omega)) (by first | omega | (simp [up] <;> omega)) <| c_v1r (dc kc_L_law_6 15 rfl) cl_L_61 rfl (Nat.le_of_ble_eq_true rfl) (by assumption) (by assumption) ?_
  · exact ha
  refine b_row (B' := B + 64) hS (by omega) _ (fun x m1 n1 r1 sc1 hf => ?_)
  have e111 : m1 0 111 0 = mi 0 111 0 := by rw [sc1.2]
  refine r_aload_n (dc kc_L_law_6 16 rfl) rfl <| s_aload_nX (dc kc_L_law_6 17 rfl) rfl <| s_iload_n (dc kc_L_law_6 18 rfl) rfl <| k_i (dc kc_L_law_6 19 rfl) rfl <| b_iadd (dc kc_L_law_6 20 rfl) (by first | omega | (simp [up] <;> omega)) (by first | omega | (simp [up] <;> omega)) <| s_sld (dc kc_L_law_6 21 rfl) (by first | omega | (simp [up] <;> omega)) (by first | omega | (simp [up] <;> omega)) <| c_v1r (dc kc_L_law_6 22 rfl) cl_L_64 rfl (Nat.le_of_ble_eq_true rfl) (by assumption) (by assumption) ?_
  rw [sc1.1]
  refine hf _ (fun m2 n2 r2 sc2 hS2 => ?_)
  refine s_icmp_eq (tgt := 1042) (dc kc_L_law_6 23 rfl) rfl (fun c487 => (?_)) (fun c487 => (k_i (dc kc_L_law_6 24 rfl) rfl <| s_zreturn (dc kc_L_law_6 25 rfl) rfl (by first | exact Or.inl rfl | exact Or.inr rfl | exact bi_01 | assumption) (by assumption) (by assumption) ?_))
  · exact hN m2 n2 r2 _ _ (Nat.le_add_right _ _) (Nat.le_add_right _ _) sc2 hS2
  · exact absurd rfl c487
theorem law_lots (hS : LSt B mi n mr) (hM : B + 64 ≤ 1000000) (hi0 : 0 ≤ i) (hi1 : i + 6 ≤ mi 0 111 0) (hL : mi 0 111 0 ≤ 3072) (hkc : kc + 37 ≤ mK mt_L_law) (hks : ks + 2816 ≤ mS mt_L_law) (hN : Nxt Q i (B + 64) kc ks mi) (ha : a = 12) : Run 21 mt_L_law Q (n, mr, kc, ks) mi 33 [vX 1, vR (some (0, 0)), vR (some (0, 80)), vI i] [vI a] := by
  have hk1 : kc ≤ mK mt_L_law := Nat.le_trans (Nat.le_add_right _ _) hkc
  have hk2 : ks ≤ mS mt_L_law := Nat.le_trans (Nat.le_add_right _ _) hks
  refine s_tabC (k0 := 12) (tgt := 492) (dc kc_L_law_0 21 rfl) ?_ rfl rfl rfl <| r_aload_n (dc kc_L_law_6 26 rfl) rfl <| s_aload_nX (dc kc_L_law_6 27 rfl) rfl <| s_iload_n (dc kc_L_law_6 28 rfl) rfl <| k_i (dc kc_L_law_6 29 rfl) rfl <| b_iadd (dc kc_L_law_6 30 rfl) (by first | omega | (simp [up] <;> omega)) (by first | omega | (simp [up] <;> omega)) <| s_sld (dc kc_L_law_6 31 rfl) (by first | omega | (simp [up] <;> omega)) (by first | omega | (simp [up] <;> omega)) <| s_aload_nX (dc kc_L_law_6 32 rfl) rfl <| s_iload_n (dc kc_L_law_6 33 rfl) rfl <| k_i (dc kc_L_law_6 34 rfl) rfl <| b_iadd (dc kc_L_law_6 35 rfl) (by first | omega | (simp [up] <;> omega)) (by first | omega | (simp [up] <;> omega)) <| s_sld (dc kc_L_law_6 36 rfl) (by first | omega | (simp [up] <;> omega)) (by first | omega | (simp [up] <;> omega)) <| c_v2r (dc kc_L_law_6 37 rfl) cl_L_65 rfl (Nat.le_of_ble_eq_true rfl) (by assumption) (by assumption) ?_
  · exact ha
  refine b_lots (B' := B + 64) hS (by omega) _ (fun x m1 n1 r1 sc1 hf => ?_)
  have e111 : m1 0 111 0 = mi 0 111 0 := by rw [sc1.2]
  refine r_aload_n (dc kc_L_law_6 38 rfl) rfl <| s_aload_nX (dc kc_L_law_6 39 rfl) rfl <| s_iload_n (dc kc_L_law_7 0 rfl) rfl <| k_i (dc kc_L_law_7 1 rfl) rfl <| b_iadd (dc kc_L_law_7 2 rfl) (by first | omega | (simp [up] <;> omega)) (by first | omega | (simp [up] <;> omega)) <| s_sld (dc kc_L_law_7 3 rfl) (by first | omega | (simp [up] <;> omega)) (by first | omega | (simp [up] <;> omega)) <| s_aload_nX (dc kc_L_law_7 4 rfl) rfl <| s_iload_n (dc kc_L_law_7 5 rfl) rfl <| k_i (dc kc_L_law_7 6 rfl) rfl <| b_iadd (dc kc_L_law_7 7 rfl) (by first | omega | (simp [up] <;> omega)) (by first | omega | (simp [up] <;> omega)) <| s_sld (dc kc_L_law_7 8 rfl) (by first | omega | (simp [up] <;> omega)) (by first | omega | (simp [up] <;> omega)) <| c_v2r (dc kc_L_law_7 9 rfl) cl_L_68 rfl (Nat.le_of_ble_eq_true rfl) (by assumption) (by assumption) ?_
  rw [sc1.1]
  refine hf _ (fun m2 n2 r2 sc2 hS2 => ?_)
  refine s_icmp_eq (tgt := 1042) (dc kc_L_law_7 10 rfl) rfl (fun c520 => (?_)) (fun c520 => (k_i (dc kc_L_law_7 11 rfl) rfl <| s_zreturn (dc kc_L_law_7 12 rfl) rfl (by first | exact Or.inl rfl | exact Or.inr rfl | exact bi_01 | assumption) (by assumption) (by assumption) ?_))
  · exact hN m2 n2 r2 _ _ (Nat.le_add_right _ _) (Nat.le_add_right _ _) sc2 hS2
  · exact absurd rfl c520
theorem law_watch (hS : LSt B mi n mr) (hM : B + 64 ≤ 1000000) (hi0 : 0 ≤ i) (hi1 : i + 6 ≤ mi 0 111 0) (hL : mi 0 111 0 ≤ 3072) (hkc : kc + 37 ≤ mK mt_L_law) (hks : ks + 2816 ≤ mS mt_L_law) (hN : Nxt Q i (B + 64) kc ks mi) (ha : a = 13) : Run 21 mt_L_law Q (n, mr, kc, ks) mi 33 [vX 1, vR (some (0, 0)), vR (some (0, 80)), vI i] [vI a] := by
  have hk1 : kc ≤ mK mt_L_law := Nat.le_trans (Nat.le_add_right _ _) hkc
  have hk2 : ks ≤ mS mt_L_law := Nat.le_trans (Nat.le_add_right _ _) hks
  refine s_tabC (k0 := 13) (tgt := 525) (dc kc_L_law_0 21 rfl) ?_ rfl rfl rfl <| r_aload_n (dc kc_L_law_7 13 rfl) rfl <| s_aload_nX (dc kc_L_law_7 14 rfl) rfl <| s_iload_n (dc kc_L_law_7 15 rfl) rfl <| k_i (dc kc_L_law_7 16 rfl) rfl <| b_iadd (dc kc_L_law_7 17 rfl) (by first | omega | (simp [up] <;> omega)) (by first | omega | (simp [up] <;> omega)) <| s_sld (dc kc_L_law_7 18 rfl) (by first | omega | (simp [up] <;> omega)) (by first | omega | (simp [up] <;> omega)) <| c_v1r (dc kc_L_law_7 19 rfl) cl_L_69 rfl (Nat.le_of_ble_eq_true rfl) (by assumption) (by assumption) ?_
  · exact ha
  refine b_watch (B' := B + 64) hS (by omega) _ (fun x m1 n1 r1 sc1 hf => ?_)
  have e111 : m1 0 111 0 = mi 0 111 0 := by rw [sc1.2]
  refine r_aload_n (dc kc_L_law_7 20 rfl) rfl <| s_aload_nX (dc kc_L_law_7 21 rfl) rfl <| s_iload_n (dc kc_L_law_7 22 rfl) rfl <| k_i (dc kc_L_law_7 23 rfl) rfl <| b_iadd (dc kc_L_law_7 24 rfl) (by first | omega | (simp [up] <;> omega)) (by first | omega | (simp [up] <;> omega)) <| s_sld (dc kc_L_law_7 25 rfl) (by first | omega | (simp [up] <;> omega)) (by first | omega | (simp [up] <;> omega)) <| c_v1r (dc kc_L_law_7 26 rfl) cl_L_72 rfl (Nat.le_of_ble_eq_true rfl) (by assumption) (by assumption) ?_
  rw [sc1.1]
  refine hf _ (fun m2 n2 r2 sc2 hS2 => ?_)
  refine s_icmp_eq (tgt := 1042) (dc kc_L_law_7 27 rfl) rfl (fun c543 => (?_)) (fun c543 => (k_i (dc kc_L_law_7 28 rfl) rfl <| s_zreturn (dc kc_L_law_7 29 rfl) rfl (by first | exact Or.inl rfl | exact Or.inr rfl | exact bi_01 | assumption) (by assumption) (by assumption) ?_))
  · exact hN m2 n2 r2 _ _ (Nat.le_add_right _ _) (Nat.le_add_right _ _) sc2 hS2
  · exact absurd rfl c543
theorem law_routine (hS : LSt B mi n mr) (hM : B + 64 ≤ 1000000) (hi0 : 0 ≤ i) (hi1 : i + 6 ≤ mi 0 111 0) (hL : mi 0 111 0 ≤ 3072) (hkc : kc + 37 ≤ mK mt_L_law) (hks : ks + 2816 ≤ mS mt_L_law) (hN : Nxt Q i (B + 64) kc ks mi) (ha : a = 14) : Run 21 mt_L_law Q (n, mr, kc, ks) mi 33 [vX 1, vR (some (0, 0)), vR (some (0, 80)), vI i] [vI a] := by
  have hk1 : kc ≤ mK mt_L_law := Nat.le_trans (Nat.le_add_right _ _) hkc
  have hk2 : ks ≤ mS mt_L_law := Nat.le_trans (Nat.le_add_right _ _) hks
  refine s_tabC (k0 := 14) (tgt := 548) (dc kc_L_law_0 21 rfl) ?_ rfl rfl rfl <| r_aload_n (dc kc_L_law_7 30 rfl) rfl <| s_aload_nX (dc kc_L_law_7 31 rfl) rfl <| s_iload_n (dc kc_L_law_7 32 rfl) rfl <| k_i (dc kc_L_law_7 33 rfl) rfl <| b_iadd (dc kc_L_law_7 34 rfl) (by first | omega | (simp [up] <;> omega)) (by first | omega | (simp [up] <;> omega)) <| s_sld (dc kc_L_law_7 35 rfl) (by first | omega | (simp [up] <;> omega)) (by first | omega | (simp [up] <;> omega)) <| s_aload_nX (dc kc_L_law_7 36 rfl) rfl <| s_iload_n (dc kc_L_law_7 37 rfl) rfl <| k_i (dc kc_L_law_7 38 rfl) rfl <| b_iadd (dc kc_L_law_7 39 rfl) (by first | omega | (simp [up] <;> omega)) (by first | omega | (simp [up] <;> omega)) <| s_sld (dc kc_L_law_8 0 rfl) (by first | omega | (simp [up] <;> omega)) (by first | omega | (simp [up] <;> omega)) <| c_v2r (dc kc_L_law_8 1 rfl) cl_L_73 rfl (Nat.le_of_ble_eq_true rfl) (by assumption) (by assumption) ?_
  · exact ha
  refine b_routine (B' := B + 64) hS (by omega) _ (fun x m1 n1 r1 sc1 hf => ?_)
  have e111 : m1 0 111 0 = mi 0 111 0 := by rw [sc1.2]
  refine r_aload_n (dc kc_L_law_8 2 rfl) rfl <| s_aload_nX (dc kc_L_law_8 3 rfl) rfl <| s_iload_n (dc kc_L_law_8 4 rfl) rfl <| k_i (dc kc_L_law_8 5 rfl) rfl <| b_iadd (dc kc_L_law_8 6 rfl) (by first | omega | (simp [up] <;> omega)) (by first | omega | (simp [up] <;> omega)) <| s_sld (dc kc_L_law_8 7 rfl) (by first | omega | (simp [up] <;> omega)) (by first | omega | (simp [up] <;> omega)) <| s_aload_nX (dc kc_L_law_8 8 rfl) rfl <| s_iload_n (dc kc_L_law_8 9 rfl) rfl <| k_i (dc kc_L_law_8 10 rfl) rfl <| b_iadd (dc kc_L_law_8 11 rfl) (by first | omega | (simp [up] <;> omega)) (by first | omega | (simp [up] <;> omega)) <| s_sld (dc kc_L_law_8 12 rfl) (by first | omega | (simp [up] <;> omega)) (by first | omega | (simp [up] <;> omega)) <| c_v2r (dc kc_L_law_8 13 rfl) cl_L_76 rfl (Nat.le_of_ble_eq_true rfl) (by assumption) (by assumption) ?_
  rw [sc1.1]
  refine hf _ (fun m2 n2 r2 sc2 hS2 => ?_)
  refine s_icmp_eq (tgt := 1042) (dc kc_L_law_8 14 rfl) rfl (fun c576 => (?_)) (fun c576 => (k_i (dc kc_L_law_8 15 rfl) rfl <| s_zreturn (dc kc_L_law_8 16 rfl) rfl (by first | exact Or.inl rfl | exact Or.inr rfl | exact bi_01 | assumption) (by assumption) (by assumption) ?_))
  · exact hN m2 n2 r2 _ _ (Nat.le_add_right _ _) (Nat.le_add_right _ _) sc2 hS2
  · exact absurd rfl c576
theorem law_step (hS : LSt B mi n mr) (hM : B + 64 ≤ 1000000) (hi0 : 0 ≤ i) (hi1 : i + 6 ≤ mi 0 111 0) (hL : mi 0 111 0 ≤ 3072) (hkc : kc + 37 ≤ mK mt_L_law) (hks : ks + 2816 ≤ mS mt_L_law) (hN : Nxt Q i (B + 64) kc ks mi) (ha : a = 15) : Run 21 mt_L_law Q (n, mr, kc, ks) mi 33 [vX 1, vR (some (0, 0)), vR (some (0, 80)), vI i] [vI a] := by
  have hk1 : kc ≤ mK mt_L_law := Nat.le_trans (Nat.le_add_right _ _) hkc
  have hk2 : ks ≤ mS mt_L_law := Nat.le_trans (Nat.le_add_right _ _) hks
  refine s_tabC (k0 := 15) (tgt := 581) (dc kc_L_law_0 21 rfl) ?_ rfl rfl rfl <| r_aload_n (dc kc_L_law_8 17 rfl) rfl <| s_aload_nX (dc kc_L_law_8 18 rfl) rfl <| s_iload_n (dc kc_L_law_8 19 rfl) rfl <| k_i (dc kc_L_law_8 20 rfl) rfl <| b_iadd (dc kc_L_law_8 21 rfl) (by first | omega | (simp [up] <;> omega)) (by first | omega | (simp [up] <;> omega)) <| s_sld (dc kc_L_law_8 22 rfl) (by first | omega | (simp [up] <;> omega)) (by first | omega | (simp [up] <;> omega)) <| c_v1r (dc kc_L_law_8 23 rfl) cl_L_77 rfl (Nat.le_of_ble_eq_true rfl) (by assumption) (by assumption) ?_
  · exact ha
  refine b_step (B' := B + 64) hS (by omega) (by omega) _ (fun x m1 n1 r1 sc1 hf => ?_)
  have e111 : m1 0 111 0 = mi 0 111 0 := by rw [sc1.2]
  refine r_aload_n (dc kc_L_law_8 24 rfl) rfl <| s_aload_nX (dc kc_L_law_8 25 rfl) rfl <| s_iload_n (dc kc_L_law_8 26 rfl) rfl <| k_i (dc kc_L_law_8 27 rfl) rfl <| b_iadd (dc kc_L_law_8 28 rfl) (by first | omega | (simp [up] <;> omega)) (by first | omega | (simp [up] <;> omega)) <| s_sld (dc kc_L_law_8 29 rfl) (by first | omega | (simp [up] <;> omega)) (by first | omega | (simp [up] <;> omega)) <| c_v1r (dc kc_L_law_8 30 rfl) cl_L_80 rfl (Nat.le_of_ble_eq_true rfl) (by assumption) (by assumption) ?_
  rw [sc1.1]
  refine hf _ (fun m2 n2 r2 sc2 hS2 => ?_)
  refine s_icmp_eq (tgt := 1042) (dc kc_L_law_8 31 rfl) rfl (fun c599 => (?_)) (fun c599 => (k_i (dc kc_L_law_8 32 rfl) rfl <| s_zreturn (dc kc_L_law_8 33 rfl) rfl (by first | exact Or.inl rfl | exact Or.inr rfl | exact bi_01 | assumption) (by assumption) (by assumption) ?_))
  · exact hN m2 n2 r2 _ _ (Nat.le_add_right _ _) (Nat.le_add_right _ _) sc2 hS2
  · exact absurd rfl c599
theorem law_seen (hS : LSt B mi n mr) (hM : B + 64 ≤ 1000000) (hi0 : 0 ≤ i) (hi1 : i + 6 ≤ mi 0 111 0) (hL : mi 0 111 0 ≤ 3072) (hkc : kc + 37 ≤ mK mt_L_law) (hks : ks + 2816 ≤ mS mt_L_law) (hN : Nxt Q i (B + 64) kc ks mi) (ha : a = 16) : Run 21 mt_L_law Q (n, mr, kc, ks) mi 33 [vX 1, vR (some (0, 0)), vR (some (0, 80)), vI i] [vI a] := by
  have hk1 : kc ≤ mK mt_L_law := Nat.le_trans (Nat.le_add_right _ _) hkc
  have hk2 : ks ≤ mS mt_L_law := Nat.le_trans (Nat.le_add_right _ _) hks
  refine s_tabC (k0 := 16) (tgt := 604) (dc kc_L_law_0 21 rfl) ?_ rfl rfl rfl <| r_aload_n (dc kc_L_law_8 34 rfl) rfl <| s_aload_nX (dc kc_L_law_8 35 rfl) rfl <| s_iload_n (dc kc_L_law_8 36 rfl) rfl <| k_i (dc kc_L_law_8 37 rfl) rfl <| b_iadd (dc kc_L_law_8 38 rfl) (by first | omega | (simp [up] <;> omega)) (by first | omega | (simp [up] <;> omega)) <| s_sld (dc kc_L_law_8 39 rfl) (by first | omega | (simp [up] <;> omega)) (by first | omega | (simp [up] <;> omega)) <| s_aload_nX (dc kc_L_law_9 0 rfl) rfl <| s_iload_n (dc kc_L_law_9 1 rfl) rfl <| k_i (dc kc_L_law_9 2 rfl) rfl <| b_iadd (dc kc_L_law_9 3 rfl) (by first | omega | (simp [up] <;> omega)) (by first | omega | (simp [up] <;> omega)) <| s_sld (dc kc_L_law_9 4 rfl) (by first | omega | (simp [up] <;> omega)) (by first | omega | (simp [up] <;> omega)) <| c_v2r (dc kc_L_law_9 5 rfl) cl_L_81 rfl (Nat.le_of_ble_eq_true rfl) (by assumption) (by assumption) ?_
  · exact ha
  refine b_seen (B' := B + 64) hS (by omega) _ (fun x m1 n1 r1 sc1 hf => ?_)
  have e111 : m1 0 111 0 = mi 0 111 0 := by rw [sc1.2]
  refine r_aload_n (dc kc_L_law_9 6 rfl) rfl <| s_aload_nX (dc kc_L_law_9 7 rfl) rfl <| s_iload_n (dc kc_L_law_9 8 rfl) rfl <| k_i (dc kc_L_law_9 9 rfl) rfl <| b_iadd (dc kc_L_law_9 10 rfl) (by first | omega | (simp [up] <;> omega)) (by first | omega | (simp [up] <;> omega)) <| s_sld (dc kc_L_law_9 11 rfl) (by first | omega | (simp [up] <;> omega)) (by first | omega | (simp [up] <;> omega)) <| s_aload_nX (dc kc_L_law_9 12 rfl) rfl <| s_iload_n (dc kc_L_law_9 13 rfl) rfl <| k_i (dc kc_L_law_9 14 rfl) rfl <| b_iadd (dc kc_L_law_9 15 rfl) (by first | omega | (simp [up] <;> omega)) (by first | omega | (simp [up] <;> omega)) <| s_sld (dc kc_L_law_9 16 rfl) (by first | omega | (simp [up] <;> omega)) (by first | omega | (simp [up] <;> omega)) <| c_v2r (dc kc_L_law_9 17 rfl) cl_L_84 rfl (Nat.le_of_ble_eq_true rfl) (by assumption) (by assumption) ?_
  rw [sc1.1]
  refine hf _ (fun m2 n2 r2 sc2 hS2 => ?_)
  refine s_icmp_eq (tgt := 1042) (dc kc_L_law_9 18 rfl) rfl (fun c632 => (?_)) (fun c632 => (k_i (dc kc_L_law_9 19 rfl) rfl <| s_zreturn (dc kc_L_law_9 20 rfl) rfl (by first | exact Or.inl rfl | exact Or.inr rfl | exact bi_01 | assumption) (by assumption) (by assumption) ?_))
  · exact hN m2 n2 r2 _ _ (Nat.le_add_right _ _) (Nat.le_add_right _ _) sc2 hS2
  · exact absurd rfl c632
theorem law_all (hS : LSt B mi n mr) (hM : B + 64 ≤ 1000000) (hi0 : 0 ≤ i) (hi1 : i + 6 ≤ mi 0 111 0) (hL : mi 0 111 0 ≤ 3072) (hkc : kc + 37 ≤ mK mt_L_law) (hks : ks + 2816 ≤ mS mt_L_law) (hN : Nxt Q i (B + 64) kc ks mi) (ha : a = 17) : Run 21 mt_L_law Q (n, mr, kc, ks) mi 33 [vX 1, vR (some (0, 0)), vR (some (0, 80)), vI i] [vI a] := by
  have hk1 : kc ≤ mK mt_L_law := Nat.le_trans (Nat.le_add_right _ _) hkc
  have hk2 : ks ≤ mS mt_L_law := Nat.le_trans (Nat.le_add_right _ _) hks
  refine s_tabC (k0 := 17) (tgt := 637) (dc kc_L_law_0 21 rfl) ?_ rfl rfl rfl <| r_aload_n (dc kc_L_law_9 21 rfl) rfl <| s_aload_nX (dc kc_L_law_9 22 rfl) rfl <| s_iload_n (dc kc_L_law_9 23 rfl) rfl <| k_i (dc kc_L_law_9 24 rfl) rfl <| b_iadd (dc kc_L_law_9 25 rfl) (by first | omega | (simp [up] <;> omega)) (by first | omega | (simp [up] <;> omega)) <| s_sld (dc kc_L_law_9 26 rfl) (by first | omega | (simp [up] <;> omega)) (by first | omega | (simp [up] <;> omega)) <| c_v1r (dc kc_L_law_9 27 rfl) cl_L_85 rfl (Nat.le_of_ble_eq_true rfl) (by assumption) (by assumption) ?_
  · exact ha
  refine b_all (B' := B + 64) hS (by omega) _ (fun x m1 n1 r1 sc1 hf => ?_)
  have e111 : m1 0 111 0 = mi 0 111 0 := by rw [sc1.2]
  refine r_aload_n (dc kc_L_law_9 28 rfl) rfl <| s_aload_nX (dc kc_L_law_9 29 rfl) rfl <| s_iload_n (dc kc_L_law_9 30 rfl) rfl <| k_i (dc kc_L_law_9 31 rfl) rfl <| b_iadd (dc kc_L_law_9 32 rfl) (by first | omega | (simp [up] <;> omega)) (by first | omega | (simp [up] <;> omega)) <| s_sld (dc kc_L_law_9 33 rfl) (by first | omega | (simp [up] <;> omega)) (by first | omega | (simp [up] <;> omega)) <| c_v1r (dc kc_L_law_9 34 rfl) cl_L_88 rfl (Nat.le_of_ble_eq_true rfl) (by assumption) (by assumption) ?_
  rw [sc1.1]
  refine hf _ (fun m2 n2 r2 sc2 hS2 => ?_)
  refine s_icmp_eq (tgt := 1042) (dc kc_L_law_9 35 rfl) rfl (fun c655 => (?_)) (fun c655 => (k_i (dc kc_L_law_9 36 rfl) rfl <| s_zreturn (dc kc_L_law_9 37 rfl) rfl (by first | exact Or.inl rfl | exact Or.inr rfl | exact bi_01 | assumption) (by assumption) (by assumption) ?_))
  · exact hN m2 n2 r2 _ _ (Nat.le_add_right _ _) (Nat.le_add_right _ _) sc2 hS2
  · exact absurd rfl c655
theorem law_out (hS : LSt B mi n mr) (hM : B + 64 ≤ 1000000) (hi0 : 0 ≤ i) (hi1 : i + 6 ≤ mi 0 111 0) (hL : mi 0 111 0 ≤ 3072) (hkc : kc + 37 ≤ mK mt_L_law) (hks : ks + 2816 ≤ mS mt_L_law) (hN : Nxt Q i (B + 64) kc ks mi) (ha : a = 18) : Run 21 mt_L_law Q (n, mr, kc, ks) mi 33 [vX 1, vR (some (0, 0)), vR (some (0, 80)), vI i] [vI a] := by
  have hk1 : kc ≤ mK mt_L_law := Nat.le_trans (Nat.le_add_right _ _) hkc
  have hk2 : ks ≤ mS mt_L_law := Nat.le_trans (Nat.le_add_right _ _) hks
  refine s_tabC (k0 := 18) (tgt := 660) (dc kc_L_law_0 21 rfl) ?_ rfl rfl rfl <| r_aload_n (dc kc_L_law_9 38 rfl) rfl <| s_aload_nX (dc kc_L_law_9 39 rfl) rfl <| s_iload_n (dc kc_L_law_10 0 rfl) rfl <| k_i (dc kc_L_law_10 1 rfl) rfl <| b_iadd (dc kc_L_law_10 2 rfl) (by first | omega | (simp [up] <;> omega)) (by first | omega | (simp [up] <;> omega)) <| s_sld (dc kc_L_law_10 3 rfl) (by first | omega | (simp [up] <;> omega)) (by first | omega | (simp [up] <;> omega)) <| c_v1r (dc kc_L_law_10 4 rfl) cl_L_89 rfl (Nat.le_of_ble_eq_true rfl) (by assumption) (by assumption) ?_
  · exact ha
  refine b_out (B' := B + 64) hS (by omega) _ (fun x m1 n1 r1 sc1 hf => ?_)
  have e111 : m1 0 111 0 = mi 0 111 0 := by rw [sc1.2]
  refine r_aload_n (dc kc_L_law_10 5 rfl) rfl <| s_aload_nX (dc kc_L_law_10 6 rfl) rfl <| s_iload_n (dc kc_L_law_10 7 rfl) rfl <| k_i (dc kc_L_law_10 8 rfl) rfl <| b_iadd (dc kc_L_law_10 9 rfl) (by first | omega | (simp [up] <;> omega)) (by first | omega | (simp [up] <;> omega)) <| s_sld (dc kc_L_law_10 10 rfl) (by first | omega | (simp [up] <;> omega)) (by first | omega | (simp [up] <;> omega)) <| c_v1r (dc kc_L_law_10 11 rfl) cl_L_92 rfl (Nat.le_of_ble_eq_true rfl) (by assumption) (by assumption) ?_
  rw [sc1.1]
  refine hf _ (fun m2 n2 r2 sc2 hS2 => ?_)
  refine s_icmp_eq (tgt := 1042) (dc kc_L_law_10 12 rfl) rfl (fun c678 => (?_)) (fun c678 => (k_i (dc kc_L_law_10 13 rfl) rfl <| s_zreturn (dc kc_L_law_10 14 rfl) rfl (by first | exact Or.inl rfl | exact Or.inr rfl | exact bi_01 | assumption) (by assumption) (by assumption) ?_))
  · exact hN m2 n2 r2 _ _ (Nat.le_add_right _ _) (Nat.le_add_right _ _) sc2 hS2
  · exact absurd rfl c678
theorem law_price (hS : LSt B mi n mr) (hM : B + 64 ≤ 1000000) (hi0 : 0 ≤ i) (hi1 : i + 6 ≤ mi 0 111 0) (hL : mi 0 111 0 ≤ 3072) (hkc : kc + 37 ≤ mK mt_L_law) (hks : ks + 2816 ≤ mS mt_L_law) (hN : Nxt Q i (B + 64) kc ks mi) (ha : a = 19) : Run 21 mt_L_law Q (n, mr, kc, ks) mi 33 [vX 1, vR (some (0, 0)), vR (some (0, 80)), vI i] [vI a] := by
  have hk1 : kc ≤ mK mt_L_law := Nat.le_trans (Nat.le_add_right _ _) hkc
  have hk2 : ks ≤ mS mt_L_law := Nat.le_trans (Nat.le_add_right _ _) hks
  refine s_tabC (k0 := 19) (tgt := 683) (dc kc_L_law_0 21 rfl) ?_ rfl rfl rfl <| r_aload_n (dc kc_L_law_10 15 rfl) rfl <| s_aload_nX (dc kc_L_law_10 16 rfl) rfl <| s_iload_n (dc kc_L_law_10 17 rfl) rfl <| k_i (dc kc_L_law_10 18 rfl) rfl <| b_iadd (dc kc_L_law_10 19 rfl) (by first | omega | (simp [up] <;> omega)) (by first | omega | (simp [up] <;> omega)) <| s_sld (dc kc_L_law_10 20 rfl) (by first | omega | (simp [up] <;> omega)) (by first | omega | (simp [up] <;> omega)) <| s_aload_nX (dc kc_L_law_10 21 rfl) rfl <| s_iload_n (dc kc_L_law_10 22 rfl) rfl <| k_i (dc kc_L_law_10 23 rfl) rfl <| b_iadd (dc kc_L_law_10 24 rfl) (by first | omega | (simp [up] <;> omega)) (by first | omega | (simp [up] <;> omega)) <| s_sld (dc kc_L_law_10 25 rfl) (by first | omega | (simp [up] <;> omega)) (by first | omega | (simp [up] <;> omega)) <| c_v2r (dc kc_L_law_10 26 rfl) cl_L_93 rfl (Nat.le_of_ble_eq_true rfl) (by assumption) (by assumption) ?_
  · exact ha
  refine b_price (B' := B + 64) hS (by omega) _ (fun x m1 n1 r1 sc1 hf => ?_)
  have e111 : m1 0 111 0 = mi 0 111 0 := by rw [sc1.2]
  refine r_aload_n (dc kc_L_law_10 27 rfl) rfl <| s_aload_nX (dc kc_L_law_10 28 rfl) rfl <| s_iload_n (dc kc_L_law_10 29 rfl) rfl <| k_i (dc kc_L_law_10 30 rfl) rfl <| b_iadd (dc kc_L_law_10 31 rfl) (by first | omega | (simp [up] <;> omega)) (by first | omega | (simp [up] <;> omega)) <| s_sld (dc kc_L_law_10 32 rfl) (by first | omega | (simp [up] <;> omega)) (by first | omega | (simp [up] <;> omega)) <| s_aload_nX (dc kc_L_law_10 33 rfl) rfl <| s_iload_n (dc kc_L_law_10 34 rfl) rfl <| k_i (dc kc_L_law_10 35 rfl) rfl <| b_iadd (dc kc_L_law_10 36 rfl) (by first | omega | (simp [up] <;> omega)) (by first | omega | (simp [up] <;> omega)) <| s_sld (dc kc_L_law_10 37 rfl) (by first | omega | (simp [up] <;> omega)) (by first | omega | (simp [up] <;> omega)) <| c_v2r (dc kc_L_law_10 38 rfl) cl_L_96 rfl (Nat.le_of_ble_eq_true rfl) (by assumption) (by assumption) ?_
  rw [sc1.1]
  refine hf _ (fun m2 n2 r2 sc2 hS2 => ?_)
  refine s_icmp_eq (tgt := 1042) (dc kc_L_law_10 39 rfl) rfl (fun c711 => (?_)) (fun c711 => (k_i (dc kc_L_law_11 0 rfl) rfl <| s_zreturn (dc kc_L_law_11 1 rfl) rfl (by first | exact Or.inl rfl | exact Or.inr rfl | exact bi_01 | assumption) (by assumption) (by assumption) ?_))
  · exact hN m2 n2 r2 _ _ (Nat.le_add_right _ _) (Nat.le_add_right _ _) sc2 hS2
  · exact absurd rfl c711
theorem law_copy (hS : LSt B mi n mr) (hM : B + 64 ≤ 1000000) (hi0 : 0 ≤ i) (hi1 : i + 6 ≤ mi 0 111 0) (hL : mi 0 111 0 ≤ 3072) (hkc : kc + 37 ≤ mK mt_L_law) (hks : ks + 2816 ≤ mS mt_L_law) (hN : Nxt Q i (B + 64) kc ks mi) (ha : a = 20) : Run 21 mt_L_law Q (n, mr, kc, ks) mi 33 [vX 1, vR (some (0, 0)), vR (some (0, 80)), vI i] [vI a] := by
  have hk1 : kc ≤ mK mt_L_law := Nat.le_trans (Nat.le_add_right _ _) hkc
  have hk2 : ks ≤ mS mt_L_law := Nat.le_trans (Nat.le_add_right _ _) hks
  refine s_tabC (k0 := 20) (tgt := 716) (dc kc_L_law_0 21 rfl) ?_ rfl rfl rfl <| r_aload_n (dc kc_L_law_11 2 rfl) rfl <| c_v0r (dc kc_L_law_11 3 rfl) cl_L_97 rfl (Nat.le_of_ble_eq_true rfl) (by assumption) (by assumption) ?_
  · exact ha
  refine b_copy (B' := B + 64) hS (by omega) _ (fun x m1 n1 r1 sc1 hf => ?_)
  have e111 : m1 0 111 0 = mi 0 111 0 := by rw [sc1.2]
  refine r_aload_n (dc kc_L_law_11 4 rfl) rfl <| c_v0r (dc kc_L_law_11 5 rfl) cl_L_100 rfl (Nat.le_of_ble_eq_true rfl) (by assumption) (by assumption) ?_
  refine hf _ (fun m2 n2 r2 sc2 hS2 => ?_)
  refine s_icmp_eq (tgt := 1042) (dc kc_L_law_11 6 rfl) rfl (fun c724 => (?_)) (fun c724 => (k_i (dc kc_L_law_11 7 rfl) rfl <| s_zreturn (dc kc_L_law_11 8 rfl) rfl (by first | exact Or.inl rfl | exact Or.inr rfl | exact bi_01 | assumption) (by assumption) (by assumption) ?_))
  · exact hN m2 n2 r2 _ _ (Nat.le_add_right _ _) (Nat.le_add_right _ _) sc2 hS2
  · exact absurd rfl c724
theorem law_weighty (hS : LSt B mi n mr) (hM : B + 64 ≤ 1000000) (hi0 : 0 ≤ i) (hi1 : i + 6 ≤ mi 0 111 0) (hL : mi 0 111 0 ≤ 3072) (hkc : kc + 37 ≤ mK mt_L_law) (hks : ks + 2816 ≤ mS mt_L_law) (hN : Nxt Q i (B + 64) kc ks mi) (ha : a = 21) : Run 21 mt_L_law Q (n, mr, kc, ks) mi 33 [vX 1, vR (some (0, 0)), vR (some (0, 80)), vI i] [vI a] := by
  have hk1 : kc ≤ mK mt_L_law := Nat.le_trans (Nat.le_add_right _ _) hkc
  have hk2 : ks ≤ mS mt_L_law := Nat.le_trans (Nat.le_add_right _ _) hks
  refine s_tabC (k0 := 21) (tgt := 729) (dc kc_L_law_0 21 rfl) ?_ rfl rfl rfl <| r_aload_n (dc kc_L_law_11 9 rfl) rfl <| s_aload_nX (dc kc_L_law_11 10 rfl) rfl <| s_iload_n (dc kc_L_law_11 11 rfl) rfl <| k_i (dc kc_L_law_11 12 rfl) rfl <| b_iadd (dc kc_L_law_11 13 rfl) (by first | omega | (simp [up] <;> omega)) (by first | omega | (simp [up] <;> omega)) <| s_sld (dc kc_L_law_11 14 rfl) (by first | omega | (simp [up] <;> omega)) (by first | omega | (simp [up] <;> omega)) <| c_v1r (dc kc_L_law_11 15 rfl) cl_L_101 rfl (Nat.le_of_ble_eq_true rfl) (by assumption) (by assumption) ?_
  · exact ha
  refine b_weighty (B' := B + 64) hS (by omega) _ (fun x m1 n1 r1 sc1 hf => ?_)
  have e111 : m1 0 111 0 = mi 0 111 0 := by rw [sc1.2]
  refine r_aload_n (dc kc_L_law_11 16 rfl) rfl <| s_aload_nX (dc kc_L_law_11 17 rfl) rfl <| s_iload_n (dc kc_L_law_11 18 rfl) rfl <| k_i (dc kc_L_law_11 19 rfl) rfl <| b_iadd (dc kc_L_law_11 20 rfl) (by first | omega | (simp [up] <;> omega)) (by first | omega | (simp [up] <;> omega)) <| s_sld (dc kc_L_law_11 21 rfl) (by first | omega | (simp [up] <;> omega)) (by first | omega | (simp [up] <;> omega)) <| c_v1r (dc kc_L_law_11 22 rfl) cl_L_104 rfl (Nat.le_of_ble_eq_true rfl) (by assumption) (by assumption) ?_
  rw [sc1.1]
  refine hf _ (fun m2 n2 r2 sc2 hS2 => ?_)
  refine s_icmp_eq (tgt := 1042) (dc kc_L_law_11 23 rfl) rfl (fun c747 => (?_)) (fun c747 => (k_i (dc kc_L_law_11 24 rfl) rfl <| s_zreturn (dc kc_L_law_11 25 rfl) rfl (by first | exact Or.inl rfl | exact Or.inr rfl | exact bi_01 | assumption) (by assumption) (by assumption) ?_))
  · exact hN m2 n2 r2 _ _ (Nat.le_add_right _ _) (Nat.le_add_right _ _) sc2 hS2
  · exact absurd rfl c747
theorem law_least (hS : LSt B mi n mr) (hM : B + 64 ≤ 1000000) (hi0 : 0 ≤ i) (hi1 : i + 6 ≤ mi 0 111 0) (hL : mi 0 111 0 ≤ 3072) (hkc : kc + 37 ≤ mK mt_L_law) (hks : ks + 2816 ≤ mS mt_L_law) (hN : Nxt Q i (B + 64) kc ks mi) (ha : a = 22) : Run 21 mt_L_law Q (n, mr, kc, ks) mi 33 [vX 1, vR (some (0, 0)), vR (some (0, 80)), vI i] [vI a] := by
  have hk1 : kc ≤ mK mt_L_law := Nat.le_trans (Nat.le_add_right _ _) hkc
  have hk2 : ks ≤ mS mt_L_law := Nat.le_trans (Nat.le_add_right _ _) hks
  refine s_tabC (k0 := 22) (tgt := 752) (dc kc_L_law_0 21 rfl) ?_ rfl rfl rfl <| r_aload_n (dc kc_L_law_11 26 rfl) rfl <| s_aload_nX (dc kc_L_law_11 27 rfl) rfl <| s_iload_n (dc kc_L_law_11 28 rfl) rfl <| k_i (dc kc_L_law_11 29 rfl) rfl <| b_iadd (dc kc_L_law_11 30 rfl) (by first | omega | (simp [up] <;> omega)) (by first | omega | (simp [up] <;> omega)) <| s_sld (dc kc_L_law_11 31 rfl) (by first | omega | (simp [up] <;> omega)) (by first | omega | (simp [up] <;> omega)) <| s_aload_nX (dc kc_L_law_11 32 rfl) rfl <| s_iload_n (dc kc_L_law_11 33 rfl) rfl <| k_i (dc kc_L_law_11 34 rfl) rfl <| b_iadd (dc kc_L_law_11 35 rfl) (by first | omega | (simp [up] <;> omega)) (by first | omega | (simp [up] <;> omega)) <| s_sld (dc kc_L_law_11 36 rfl) (by first | omega | (simp [up] <;> omega)) (by first | omega | (simp [up] <;> omega)) <| c_v2r (dc kc_L_law_11 37 rfl) cl_L_105 rfl (Nat.le_of_ble_eq_true rfl) (by assumption) (by assumption) ?_
  · exact ha
  refine b_least (B' := B + 64) hS (by omega) _ (fun x m1 n1 r1 sc1 hf => ?_)
  have e111 : m1 0 111 0 = mi 0 111 0 := by rw [sc1.2]
  refine r_aload_n (dc kc_L_law_11 38 rfl) rfl <| s_aload_nX (dc kc_L_law_11 39 rfl) rfl <| s_iload_n (dc kc_L_law_12 0 rfl) rfl <| k_i (dc kc_L_law_12 1 rfl) rfl <| b_iadd (dc kc_L_law_12 2 rfl) (by first | omega | (simp [up] <;> omega)) (by first | omega | (simp [up] <;> omega)) <| s_sld (dc kc_L_law_12 3 rfl) (by first | omega | (simp [up] <;> omega)) (by first | omega | (simp [up] <;> omega)) <| s_aload_nX (dc kc_L_law_12 4 rfl) rfl <| s_iload_n (dc kc_L_law_12 5 rfl) rfl <| k_i (dc kc_L_law_12 6 rfl) rfl <| b_iadd (dc kc_L_law_12 7 rfl) (by first | omega | (simp [up] <;> omega)) (by first | omega | (simp [up] <;> omega)) <| s_sld (dc kc_L_law_12 8 rfl) (by first | omega | (simp [up] <;> omega)) (by first | omega | (simp [up] <;> omega)) <| c_v2r (dc kc_L_law_12 9 rfl) cl_L_108 rfl (Nat.le_of_ble_eq_true rfl) (by assumption) (by assumption) ?_
  rw [sc1.1]
  refine hf _ (fun m2 n2 r2 sc2 hS2 => ?_)
  refine s_icmp_eq (tgt := 1042) (dc kc_L_law_12 10 rfl) rfl (fun c780 => (?_)) (fun c780 => (k_i (dc kc_L_law_12 11 rfl) rfl <| s_zreturn (dc kc_L_law_12 12 rfl) rfl (by first | exact Or.inl rfl | exact Or.inr rfl | exact bi_01 | assumption) (by assumption) (by assumption) ?_))
  · exact hN m2 n2 r2 _ _ (Nat.le_add_right _ _) (Nat.le_add_right _ _) sc2 hS2
  · exact absurd rfl c780
theorem law_mends (hS : LSt B mi n mr) (hM : B + 64 ≤ 1000000) (hi0 : 0 ≤ i) (hi1 : i + 6 ≤ mi 0 111 0) (hL : mi 0 111 0 ≤ 3072) (hkc : kc + 37 ≤ mK mt_L_law) (hks : ks + 2816 ≤ mS mt_L_law) (hN : Nxt Q i (B + 64) kc ks mi) (ha : a = 23) : Run 21 mt_L_law Q (n, mr, kc, ks) mi 33 [vX 1, vR (some (0, 0)), vR (some (0, 80)), vI i] [vI a] := by
  have hk1 : kc ≤ mK mt_L_law := Nat.le_trans (Nat.le_add_right _ _) hkc
  have hk2 : ks ≤ mS mt_L_law := Nat.le_trans (Nat.le_add_right _ _) hks
  refine s_tabC (k0 := 23) (tgt := 785) (dc kc_L_law_0 21 rfl) ?_ rfl rfl rfl <| r_aload_n (dc kc_L_law_12 13 rfl) rfl <| s_aload_nX (dc kc_L_law_12 14 rfl) rfl <| s_iload_n (dc kc_L_law_12 15 rfl) rfl <| k_i (dc kc_L_law_12 16 rfl) rfl <| b_iadd (dc kc_L_law_12 17 rfl) (by first | omega | (simp [up] <;> omega)) (by first | omega | (simp [up] <;> omega)) <| s_sld (dc kc_L_law_12 18 rfl) (by first | omega | (simp [up] <;> omega)) (by first | omega | (simp [up] <;> omega)) <| s_aload_nX (dc kc_L_law_12 19 rfl) rfl <| s_iload_n (dc kc_L_law_12 20 rfl) rfl <| k_i (dc kc_L_law_12 21 rfl) rfl <| b_iadd (dc kc_L_law_12 22 rfl) (by first | omega | (simp [up] <;> omega)) (by first | omega | (simp [up] <;> omega)) <| s_sld (dc kc_L_law_12 23 rfl) (by first | omega | (simp [up] <;> omega)) (by first | omega | (simp [up] <;> omega)) <| s_aload_nX (dc kc_L_law_12 24 rfl) rfl <| s_iload_n (dc kc_L_law_12 25 rfl) rfl <| k_i (dc kc_L_law_12 26 rfl) rfl <| b_iadd (dc kc_L_law_12 27 rfl) (by first | omega | (simp [up] <;> omega)) (by first | omega | (simp [up] <;> omega)) <| s_sld (dc kc_L_law_12 28 rfl) (by first | omega | (simp [up] <;> omega)) (by first | omega | (simp [up] <;> omega)) <| s_aload_nX (dc kc_L_law_12 29 rfl) rfl <| s_iload_n (dc kc_L_law_12 30 rfl) rfl <| k_i (dc kc_L_law_12 31 rfl) rfl <| b_iadd (dc kc_L_law_12 32 rfl) (by first | omega | (simp [up] <;> omega)) (by first | omega | (simp [up] <;> omega)) <| s_sld (dc kc_L_law_12 33 rfl) (by first | omega | (simp [up] <;> omega)) (by first | omega | (simp [up] <;> omega)) <| c_v4r (dc kc_L_law_12 34 rfl) cl_L_109 rfl (Nat.le_of_ble_eq_true rfl) (by assumption) (by assumption) ?_
  · exact ha
  refine b_mends (B' := B + 64) hS (by omega) _ (fun x m1 n1 r1 sc1 hf => ?_)
  have e111 : m1 0 111 0 = mi 0 111 0 := by rw [sc1.2]
  refine r_aload_n (dc kc_L_law_12 35 rfl) rfl <| s_aload_nX (dc kc_L_law_12 36 rfl) rfl <| s_iload_n (dc kc_L_law_12 37 rfl) rfl <| k_i (dc kc_L_law_12 38 rfl) rfl <| b_iadd (dc kc_L_law_12 39 rfl) (by first | omega | (simp [up] <;> omega)) (by first | omega | (simp [up] <;> omega)) <| s_sld (dc kc_L_law_13 0 rfl) (by first | omega | (simp [up] <;> omega)) (by first | omega | (simp [up] <;> omega)) <| s_aload_nX (dc kc_L_law_13 1 rfl) rfl <| s_iload_n (dc kc_L_law_13 2 rfl) rfl <| k_i (dc kc_L_law_13 3 rfl) rfl <| b_iadd (dc kc_L_law_13 4 rfl) (by first | omega | (simp [up] <;> omega)) (by first | omega | (simp [up] <;> omega)) <| s_sld (dc kc_L_law_13 5 rfl) (by first | omega | (simp [up] <;> omega)) (by first | omega | (simp [up] <;> omega)) <| s_aload_nX (dc kc_L_law_13 6 rfl) rfl <| s_iload_n (dc kc_L_law_13 7 rfl) rfl <| k_i (dc kc_L_law_13 8 rfl) rfl <| b_iadd (dc kc_L_law_13 9 rfl) (by first | omega | (simp [up] <;> omega)) (by first | omega | (simp [up] <;> omega)) <| s_sld (dc kc_L_law_13 10 rfl) (by first | omega | (simp [up] <;> omega)) (by first | omega | (simp [up] <;> omega)) <| s_aload_nX (dc kc_L_law_13 11 rfl) rfl <| s_iload_n (dc kc_L_law_13 12 rfl) rfl <| k_i (dc kc_L_law_13 13 rfl) rfl <| b_iadd (dc kc_L_law_13 14 rfl) (by first | omega | (simp [up] <;> omega)) (by first | omega | (simp [up] <;> omega)) <| s_sld (dc kc_L_law_13 15 rfl) (by first | omega | (simp [up] <;> omega)) (by first | omega | (simp [up] <;> omega)) <| c_v4r (dc kc_L_law_13 16 rfl) cl_L_113 rfl (Nat.le_of_ble_eq_true rfl) (by assumption) (by assumption) ?_
  rw [sc1.1]
  refine hf _ (fun m2 n2 r2 sc2 hS2 => ?_)
  refine s_icmp_eq (tgt := 1042) (dc kc_L_law_13 17 rfl) rfl (fun c833 => (?_)) (fun c833 => (k_i (dc kc_L_law_13 18 rfl) rfl <| s_zreturn (dc kc_L_law_13 19 rfl) rfl (by first | exact Or.inl rfl | exact Or.inr rfl | exact bi_01 | assumption) (by assumption) (by assumption) ?_))
  · exact hN m2 n2 r2 _ _ (Nat.le_add_right _ _) (Nat.le_add_right _ _) sc2 hS2
  · exact absurd rfl c833
theorem law_mend (hS : LSt B mi n mr) (hM : B + 64 ≤ 1000000) (hi0 : 0 ≤ i) (hi1 : i + 6 ≤ mi 0 111 0) (hL : mi 0 111 0 ≤ 3072) (hkc : kc + 37 ≤ mK mt_L_law) (hks : ks + 2816 ≤ mS mt_L_law) (hN : Nxt Q i (B + 64) kc ks mi) (ha : a = 24) : Run 21 mt_L_law Q (n, mr, kc, ks) mi 33 [vX 1, vR (some (0, 0)), vR (some (0, 80)), vI i] [vI a] := by
  have hk1 : kc ≤ mK mt_L_law := Nat.le_trans (Nat.le_add_right _ _) hkc
  have hk2 : ks ≤ mS mt_L_law := Nat.le_trans (Nat.le_add_right _ _) hks
  refine s_tabC (k0 := 24) (tgt := 838) (dc kc_L_law_0 21 rfl) ?_ rfl rfl rfl <| r_aload_n (dc kc_L_law_13 20 rfl) rfl <| s_aload_nX (dc kc_L_law_13 21 rfl) rfl <| s_iload_n (dc kc_L_law_13 22 rfl) rfl <| k_i (dc kc_L_law_13 23 rfl) rfl <| b_iadd (dc kc_L_law_13 24 rfl) (by first | omega | (simp [up] <;> omega)) (by first | omega | (simp [up] <;> omega)) <| s_sld (dc kc_L_law_13 25 rfl) (by first | omega | (simp [up] <;> omega)) (by first | omega | (simp [up] <;> omega)) <| s_aload_nX (dc kc_L_law_13 26 rfl) rfl <| s_iload_n (dc kc_L_law_13 27 rfl) rfl <| k_i (dc kc_L_law_13 28 rfl) rfl <| b_iadd (dc kc_L_law_13 29 rfl) (by first | omega | (simp [up] <;> omega)) (by first | omega | (simp [up] <;> omega)) <| s_sld (dc kc_L_law_13 30 rfl) (by first | omega | (simp [up] <;> omega)) (by first | omega | (simp [up] <;> omega)) <| c_v2r (dc kc_L_law_13 31 rfl) cl_L_114 rfl (Nat.le_of_ble_eq_true rfl) (by assumption) (by assumption) ?_
  · exact ha
  refine b_mend (B' := B + 64) hS (by omega) _ (fun x m1 n1 r1 sc1 hf => ?_)
  have e111 : m1 0 111 0 = mi 0 111 0 := by rw [sc1.2]
  refine r_aload_n (dc kc_L_law_13 32 rfl) rfl <| s_aload_nX (dc kc_L_law_13 33 rfl) rfl <| s_iload_n (dc kc_L_law_13 34 rfl) rfl <| k_i (dc kc_L_law_13 35 rfl) rfl <| b_iadd (dc kc_L_law_13 36 rfl) (by first | omega | (simp [up] <;> omega)) (by first | omega | (simp [up] <;> omega)) <| s_sld (dc kc_L_law_13 37 rfl) (by first | omega | (simp [up] <;> omega)) (by first | omega | (simp [up] <;> omega)) <| s_aload_nX (dc kc_L_law_13 38 rfl) rfl <| s_iload_n (dc kc_L_law_13 39 rfl) rfl <| k_i (dc kc_L_law_14 0 rfl) rfl <| b_iadd (dc kc_L_law_14 1 rfl) (by first | omega | (simp [up] <;> omega)) (by first | omega | (simp [up] <;> omega)) <| s_sld (dc kc_L_law_14 2 rfl) (by first | omega | (simp [up] <;> omega)) (by first | omega | (simp [up] <;> omega)) <| c_v2r (dc kc_L_law_14 3 rfl) cl_L_117 rfl (Nat.le_of_ble_eq_true rfl) (by assumption) (by assumption) ?_
  rw [sc1.1]
  refine hf _ (fun m2 n2 r2 sc2 hS2 => ?_)
  refine s_icmp_eq (tgt := 1042) (dc kc_L_law_14 4 rfl) rfl (fun c866 => (?_)) (fun c866 => (k_i (dc kc_L_law_14 5 rfl) rfl <| s_zreturn (dc kc_L_law_14 6 rfl) rfl (by first | exact Or.inl rfl | exact Or.inr rfl | exact bi_01 | assumption) (by assumption) (by assumption) ?_))
  · exact hN m2 n2 r2 _ _ (Nat.le_add_right _ _) (Nat.le_add_right _ _) sc2 hS2
  · exact absurd rfl c866
theorem law_sure (hS : LSt B mi n mr) (hM : B + 64 ≤ 1000000) (hi0 : 0 ≤ i) (hi1 : i + 6 ≤ mi 0 111 0) (hL : mi 0 111 0 ≤ 3072) (hkc : kc + 37 ≤ mK mt_L_law) (hks : ks + 2816 ≤ mS mt_L_law) (hN : Nxt Q i (B + 64) kc ks mi) (ha : a = 25) : Run 21 mt_L_law Q (n, mr, kc, ks) mi 33 [vX 1, vR (some (0, 0)), vR (some (0, 80)), vI i] [vI a] := by
  have hk1 : kc ≤ mK mt_L_law := Nat.le_trans (Nat.le_add_right _ _) hkc
  have hk2 : ks ≤ mS mt_L_law := Nat.le_trans (Nat.le_add_right _ _) hks
  refine s_tabC (k0 := 25) (tgt := 871) (dc kc_L_law_0 21 rfl) ?_ rfl rfl rfl <| r_aload_n (dc kc_L_law_14 7 rfl) rfl <| s_aload_nX (dc kc_L_law_14 8 rfl) rfl <| s_iload_n (dc kc_L_law_14 9 rfl) rfl <| k_i (dc kc_L_law_14 10 rfl) rfl <| b_iadd (dc kc_L_law_14 11 rfl) (by first | omega | (simp [up] <;> omega)) (by first | omega | (simp [up] <;> omega)) <| s_sld (dc kc_L_law_14 12 rfl) (by first | omega | (simp [up] <;> omega)) (by first | omega | (simp [up] <;> omega)) <| c_v1r (dc kc_L_law_14 13 rfl) cl_L_118 rfl (Nat.le_of_ble_eq_true rfl) (by assumption) (by assumption) ?_
  · exact ha
  refine b_sure (B' := B + 64) hS (by omega) _ (fun x m1 n1 r1 sc1 hf => ?_)
  have e111 : m1 0 111 0 = mi 0 111 0 := by rw [sc1.2]
  refine r_aload_n (dc kc_L_law_14 14 rfl) rfl <| s_aload_nX (dc kc_L_law_14 15 rfl) rfl <| s_iload_n (dc kc_L_law_14 16 rfl) rfl <| k_i (dc kc_L_law_14 17 rfl) rfl <| b_iadd (dc kc_L_law_14 18 rfl) (by first | omega | (simp [up] <;> omega)) (by first | omega | (simp [up] <;> omega)) <| s_sld (dc kc_L_law_14 19 rfl) (by first | omega | (simp [up] <;> omega)) (by first | omega | (simp [up] <;> omega)) <| c_v1r (dc kc_L_law_14 20 rfl) cl_L_121 rfl (Nat.le_of_ble_eq_true rfl) (by assumption) (by assumption) ?_
  rw [sc1.1]
  refine hf _ (fun m2 n2 r2 sc2 hS2 => ?_)
  refine s_icmp_eq (tgt := 1042) (dc kc_L_law_14 21 rfl) rfl (fun c889 => (?_)) (fun c889 => (k_i (dc kc_L_law_14 22 rfl) rfl <| s_zreturn (dc kc_L_law_14 23 rfl) rfl (by first | exact Or.inl rfl | exact Or.inr rfl | exact bi_01 | assumption) (by assumption) (by assumption) ?_))
  · exact hN m2 n2 r2 _ _ (Nat.le_add_right _ _) (Nat.le_add_right _ _) sc2 hS2
  · exact absurd rfl c889
theorem law_spread (hS : LSt B mi n mr) (hM : B + 64 ≤ 1000000) (hi0 : 0 ≤ i) (hi1 : i + 6 ≤ mi 0 111 0) (hL : mi 0 111 0 ≤ 3072) (hkc : kc + 37 ≤ mK mt_L_law) (hks : ks + 2816 ≤ mS mt_L_law) (hN : Nxt Q i (B + 64) kc ks mi) (ha : a = 26) : Run 21 mt_L_law Q (n, mr, kc, ks) mi 33 [vX 1, vR (some (0, 0)), vR (some (0, 80)), vI i] [vI a] := by
  have hk1 : kc ≤ mK mt_L_law := Nat.le_trans (Nat.le_add_right _ _) hkc
  have hk2 : ks ≤ mS mt_L_law := Nat.le_trans (Nat.le_add_right _ _) hks
  refine s_tabC (k0 := 26) (tgt := 894) (dc kc_L_law_0 21 rfl) ?_ rfl rfl rfl <| r_aload_n (dc kc_L_law_14 24 rfl) rfl <| s_aload_nX (dc kc_L_law_14 25 rfl) rfl <| s_iload_n (dc kc_L_law_14 26 rfl) rfl <| k_i (dc kc_L_law_14 27 rfl) rfl <| b_iadd (dc kc_L_law_14 28 rfl) (by first | omega | (simp [up] <;> omega)) (by first | omega | (simp [up] <;> omega)) <| s_sld (dc kc_L_law_14 29 rfl) (by first | omega | (simp [up] <;> omega)) (by first | omega | (simp [up] <;> omega)) <| s_aload_nX (dc kc_L_law_14 30 rfl) rfl <| s_iload_n (dc kc_L_law_14 31 rfl) rfl <| k_i (dc kc_L_law_14 32 rfl) rfl <| b_iadd (dc kc_L_law_14 33 rfl) (by first | omega | (simp [up] <;> omega)) (by first | omega | (simp [up] <;> omega)) <| s_sld (dc kc_L_law_14 34 rfl) (by first | omega | (simp [up] <;> omega)) (by first | omega | (simp [up] <;> omega)) <| c_v2r (dc kc_L_law_14 35 rfl) cl_L_122 rfl (Nat.le_of_ble_eq_true rfl) (by assumption) (by assumption) ?_
  · exact ha
  refine b_spread (B' := B + 64) hS (by omega) _ (fun x m1 n1 r1 sc1 hf => ?_)
  have e111 : m1 0 111 0 = mi 0 111 0 := by rw [sc1.2]
  refine r_aload_n (dc kc_L_law_14 36 rfl) rfl <| s_aload_nX (dc kc_L_law_14 37 rfl) rfl <| s_iload_n (dc kc_L_law_14 38 rfl) rfl <| k_i (dc kc_L_law_14 39 rfl) rfl <| b_iadd (dc kc_L_law_15 0 rfl) (by first | omega | (simp [up] <;> omega)) (by first | omega | (simp [up] <;> omega)) <| s_sld (dc kc_L_law_15 1 rfl) (by first | omega | (simp [up] <;> omega)) (by first | omega | (simp [up] <;> omega)) <| s_aload_nX (dc kc_L_law_15 2 rfl) rfl <| s_iload_n (dc kc_L_law_15 3 rfl) rfl <| k_i (dc kc_L_law_15 4 rfl) rfl <| b_iadd (dc kc_L_law_15 5 rfl) (by first | omega | (simp [up] <;> omega)) (by first | omega | (simp [up] <;> omega)) <| s_sld (dc kc_L_law_15 6 rfl) (by first | omega | (simp [up] <;> omega)) (by first | omega | (simp [up] <;> omega)) <| c_v2r (dc kc_L_law_15 7 rfl) cl_L_125 rfl (Nat.le_of_ble_eq_true rfl) (by assumption) (by assumption) ?_
  rw [sc1.1]
  refine hf _ (fun m2 n2 r2 sc2 hS2 => ?_)
  refine s_icmp_eq (tgt := 1042) (dc kc_L_law_15 8 rfl) rfl (fun c922 => (?_)) (fun c922 => (k_i (dc kc_L_law_15 9 rfl) rfl <| s_zreturn (dc kc_L_law_15 10 rfl) rfl (by first | exact Or.inl rfl | exact Or.inr rfl | exact bi_01 | assumption) (by assumption) (by assumption) ?_))
  · exact hN m2 n2 r2 _ _ (Nat.le_add_right _ _) (Nat.le_add_right _ _) sc2 hS2
  · exact absurd rfl c922
theorem law_again (hS : LSt B mi n mr) (hM : B + 64 ≤ 1000000) (hi0 : 0 ≤ i) (hi1 : i + 6 ≤ mi 0 111 0) (hL : mi 0 111 0 ≤ 3072) (hkc : kc + 37 ≤ mK mt_L_law) (hks : ks + 2816 ≤ mS mt_L_law) (hN : Nxt Q i (B + 64) kc ks mi) (ha : a = 27) : Run 21 mt_L_law Q (n, mr, kc, ks) mi 33 [vX 1, vR (some (0, 0)), vR (some (0, 80)), vI i] [vI a] := by
  have hk1 : kc ≤ mK mt_L_law := Nat.le_trans (Nat.le_add_right _ _) hkc
  have hk2 : ks ≤ mS mt_L_law := Nat.le_trans (Nat.le_add_right _ _) hks
  have hkA : kc + mK mt_X11_again ≤ mK mt_L_law := hkc
  have hsA : ks + mS mt_X11_again ≤ mS mt_L_law := hks
  refine s_tabC (k0 := 27) (tgt := 927) (dc kc_L_law_0 21 rfl) ?_ rfl rfl rfl <| r_aload_n (dc kc_L_law_15 11 rfl) rfl <| s_aload_nX (dc kc_L_law_15 12 rfl) rfl <| s_iload_n (dc kc_L_law_15 13 rfl) rfl <| k_i (dc kc_L_law_15 14 rfl) rfl <| b_iadd (dc kc_L_law_15 15 rfl) (by first | omega | (simp [up] <;> omega)) (by first | omega | (simp [up] <;> omega)) <| s_sld (dc kc_L_law_15 16 rfl) (by first | omega | (simp [up] <;> omega)) (by first | omega | (simp [up] <;> omega)) <| c_v1m (dc kc_L_law_15 17 rfl) cl_L_126 rfl (Nat.le_of_ble_eq_true rfl) (by assumption) (by assumption) ?_
  · exact ha
  refine b_again (B' := B + 64) hS (by omega) _ (fun x m1 n1 r1 sc1 hf => ?_)
  have e111 : m1 0 111 0 = mi 0 111 0 := by rw [sc1.2]
  refine r_aload_n (dc kc_L_law_15 18 rfl) rfl <| s_aload_nX (dc kc_L_law_15 19 rfl) rfl <| s_iload_n (dc kc_L_law_15 20 rfl) rfl <| k_i (dc kc_L_law_15 21 rfl) rfl <| b_iadd (dc kc_L_law_15 22 rfl) (by first | omega | (simp [up] <;> omega)) (by first | omega | (simp [up] <;> omega)) <| s_sld (dc kc_L_law_15 23 rfl) (by first | omega | (simp [up] <;> omega)) (by first | omega | (simp [up] <;> omega)) <| c_v1r (dc kc_L_law_15 24 rfl) cl_L_129 rfl (Nat.le_of_ble_eq_true rfl) (by assumption) (by assumption) ?_
  rw [sc1.1]
  refine hf _ (fun m2 n2 r2 sc2 hS2 => ?_)
  refine s_icmp_eq (tgt := 1042) (dc kc_L_law_15 25 rfl) rfl (fun c945 => (?_)) (fun c945 => (k_i (dc kc_L_law_15 26 rfl) rfl <| s_zreturn (dc kc_L_law_15 27 rfl) rfl (by first | exact Or.inl rfl | exact Or.inr rfl | exact bi_01 | assumption) (by assumption) (by assumption) ?_))
  · exact hN m2 n2 r2 _ _ (Nat.le_refl _) (Nat.le_refl _) sc2 hS2
  · exact absurd rfl c945
theorem law_putIn (hS : LSt B mi n mr) (hM : B + 64 ≤ 1000000) (hi0 : 0 ≤ i) (hi1 : i + 6 ≤ mi 0 111 0) (hL : mi 0 111 0 ≤ 3072) (hkc : kc + 37 ≤ mK mt_L_law) (hks : ks + 2816 ≤ mS mt_L_law) (hN : Nxt Q i (B + 64) kc ks mi) (ha : a = 28) : Run 21 mt_L_law Q (n, mr, kc, ks) mi 33 [vX 1, vR (some (0, 0)), vR (some (0, 80)), vI i] [vI a] := by
  have hk1 : kc ≤ mK mt_L_law := Nat.le_trans (Nat.le_add_right _ _) hkc
  have hk2 : ks ≤ mS mt_L_law := Nat.le_trans (Nat.le_add_right _ _) hks
  refine s_tabC (k0 := 28) (tgt := 950) (dc kc_L_law_0 21 rfl) ?_ rfl rfl rfl <| r_aload_n (dc kc_L_law_15 28 rfl) rfl <| s_aload_nX (dc kc_L_law_15 29 rfl) rfl <| s_iload_n (dc kc_L_law_15 30 rfl) rfl <| k_i (dc kc_L_law_15 31 rfl) rfl <| b_iadd (dc kc_L_law_15 32 rfl) (by first | omega | (simp [up] <;> omega)) (by first | omega | (simp [up] <;> omega)) <| s_sld (dc kc_L_law_15 33 rfl) (by first | omega | (simp [up] <;> omega)) (by first | omega | (simp [up] <;> omega)) <| s_aload_nX (dc kc_L_law_15 34 rfl) rfl <| s_iload_n (dc kc_L_law_15 35 rfl) rfl <| k_i (dc kc_L_law_15 36 rfl) rfl <| b_iadd (dc kc_L_law_15 37 rfl) (by first | omega | (simp [up] <;> omega)) (by first | omega | (simp [up] <;> omega)) <| s_sld (dc kc_L_law_15 38 rfl) (by first | omega | (simp [up] <;> omega)) (by first | omega | (simp [up] <;> omega)) <| c_v2r (dc kc_L_law_15 39 rfl) cl_L_130 rfl (Nat.le_of_ble_eq_true rfl) (by assumption) (by assumption) ?_
  · exact ha
  refine b_putIn (B' := B + 64) hS (by omega) _ (fun x m1 n1 r1 sc1 hf => ?_)
  have e111 : m1 0 111 0 = mi 0 111 0 := by rw [sc1.2]
  refine r_aload_n (dc kc_L_law_16 0 rfl) rfl <| s_aload_nX (dc kc_L_law_16 1 rfl) rfl <| s_iload_n (dc kc_L_law_16 2 rfl) rfl <| k_i (dc kc_L_law_16 3 rfl) rfl <| b_iadd (dc kc_L_law_16 4 rfl) (by first | omega | (simp [up] <;> omega)) (by first | omega | (simp [up] <;> omega)) <| s_sld (dc kc_L_law_16 5 rfl) (by first | omega | (simp [up] <;> omega)) (by first | omega | (simp [up] <;> omega)) <| s_aload_nX (dc kc_L_law_16 6 rfl) rfl <| s_iload_n (dc kc_L_law_16 7 rfl) rfl <| k_i (dc kc_L_law_16 8 rfl) rfl <| b_iadd (dc kc_L_law_16 9 rfl) (by first | omega | (simp [up] <;> omega)) (by first | omega | (simp [up] <;> omega)) <| s_sld (dc kc_L_law_16 10 rfl) (by first | omega | (simp [up] <;> omega)) (by first | omega | (simp [up] <;> omega)) <| c_v2r (dc kc_L_law_16 11 rfl) cl_L_133 rfl (Nat.le_of_ble_eq_true rfl) (by assumption) (by assumption) ?_
  rw [sc1.1]
  refine hf _ (fun m2 n2 r2 sc2 hS2 => ?_)
  refine s_icmp_eq (tgt := 1042) (dc kc_L_law_16 12 rfl) rfl (fun c978 => (?_)) (fun c978 => (k_i (dc kc_L_law_16 13 rfl) rfl <| s_zreturn (dc kc_L_law_16 14 rfl) rfl (by first | exact Or.inl rfl | exact Or.inr rfl | exact bi_01 | assumption) (by assumption) (by assumption) ?_))
  · exact hN m2 n2 r2 _ _ (Nat.le_add_right _ _) (Nat.le_add_right _ _) sc2 hS2
  · exact absurd rfl c978
theorem law_image (hS : LSt B mi n mr) (hM : B + 64 ≤ 1000000) (hi0 : 0 ≤ i) (hi1 : i + 6 ≤ mi 0 111 0) (hL : mi 0 111 0 ≤ 3072) (hkc : kc + 37 ≤ mK mt_L_law) (hks : ks + 2816 ≤ mS mt_L_law) (hN : Nxt Q i (B + 64) kc ks mi) (ha : a = 29) : Run 21 mt_L_law Q (n, mr, kc, ks) mi 33 [vX 1, vR (some (0, 0)), vR (some (0, 80)), vI i] [vI a] := by
  have hk1 : kc ≤ mK mt_L_law := Nat.le_trans (Nat.le_add_right _ _) hkc
  have hk2 : ks ≤ mS mt_L_law := Nat.le_trans (Nat.le_add_right _ _) hks
  have hkA : kc + mK mt_X11_image ≤ mK mt_L_law := hkc
  have hsA : ks + mS mt_X11_image ≤ mS mt_L_law := hks
  refine s_tabC (k0 := 29) (tgt := 983) (dc kc_L_law_0 21 rfl) ?_ rfl rfl rfl <| r_aload_n (dc kc_L_law_16 15 rfl) rfl <| s_aload_nX (dc kc_L_law_16 16 rfl) rfl <| s_iload_n (dc kc_L_law_16 17 rfl) rfl <| k_i (dc kc_L_law_16 18 rfl) rfl <| b_iadd (dc kc_L_law_16 19 rfl) (by first | omega | (simp [up] <;> omega)) (by first | omega | (simp [up] <;> omega)) <| s_sld (dc kc_L_law_16 20 rfl) (by first | omega | (simp [up] <;> omega)) (by first | omega | (simp [up] <;> omega)) <| c_v1m (dc kc_L_law_16 21 rfl) cl_L_134 rfl (Nat.le_of_ble_eq_true rfl) (by assumption) (by assumption) ?_
  · exact ha
  refine b_image (B' := B + 64) hS (by omega) _ (fun x m1 n1 r1 sc1 hf => ?_)
  have e111 : m1 0 111 0 = mi 0 111 0 := by rw [sc1.2]
  refine r_aload_n (dc kc_L_law_16 22 rfl) rfl <| s_aload_nX (dc kc_L_law_16 23 rfl) rfl <| s_iload_n (dc kc_L_law_16 24 rfl) rfl <| k_i (dc kc_L_law_16 25 rfl) rfl <| b_iadd (dc kc_L_law_16 26 rfl) (by first | omega | (simp [up] <;> omega)) (by first | omega | (simp [up] <;> omega)) <| s_sld (dc kc_L_law_16 27 rfl) (by first | omega | (simp [up] <;> omega)) (by first | omega | (simp [up] <;> omega)) <| c_v1r (dc kc_L_law_16 28 rfl) cl_L_137 rfl (Nat.le_of_ble_eq_true rfl) (by assumption) (by assumption) ?_
  rw [sc1.1]
  refine hf _ (fun m2 n2 r2 sc2 hS2 => ?_)
  refine s_icmp_eq (tgt := 1042) (dc kc_L_law_16 29 rfl) rfl (fun c1001 => (?_)) (fun c1001 => (k_i (dc kc_L_law_16 30 rfl) rfl <| s_zreturn (dc kc_L_law_16 31 rfl) rfl (by first | exact Or.inl rfl | exact Or.inr rfl | exact bi_01 | assumption) (by assumption) (by assumption) ?_))
  · exact hN m2 n2 r2 _ _ (Nat.le_refl _) (Nat.le_refl _) sc2 hS2
  · exact absurd rfl c1001
theorem law_back (hS : LSt B mi n mr) (hM : B + 64 ≤ 1000000) (hi0 : 0 ≤ i) (hi1 : i + 6 ≤ mi 0 111 0) (hL : mi 0 111 0 ≤ 3072) (hkc : kc + 37 ≤ mK mt_L_law) (hks : ks + 2816 ≤ mS mt_L_law) (hN : Nxt Q i (B + 64) kc ks mi) (ha : a = 30) : Run 21 mt_L_law Q (n, mr, kc, ks) mi 33 [vX 1, vR (some (0, 0)), vR (some (0, 80)), vI i] [vI a] := by
  have hk1 : kc ≤ mK mt_L_law := Nat.le_trans (Nat.le_add_right _ _) hkc
  have hk2 : ks ≤ mS mt_L_law := Nat.le_trans (Nat.le_add_right _ _) hks
  refine s_tabC (k0 := 30) (tgt := 1006) (dc kc_L_law_0 21 rfl) ?_ rfl rfl rfl <| r_aload_n (dc kc_L_law_16 32 rfl) rfl <| s_aload_nX (dc kc_L_law_16 33 rfl) rfl <| s_iload_n (dc kc_L_law_16 34 rfl) rfl <| k_i (dc kc_L_law_16 35 rfl) rfl <| b_iadd (dc kc_L_law_16 36 rfl) (by first | omega | (simp [up] <;> omega)) (by first | omega | (simp [up] <;> omega)) <| s_sld (dc kc_L_law_16 37 rfl) (by first | omega | (simp [up] <;> omega)) (by first | omega | (simp [up] <;> omega)) <| c_v1r (dc kc_L_law_16 38 rfl) cl_L_138 rfl (Nat.le_of_ble_eq_true rfl) (by assumption) (by assumption) ?_
  · exact ha
  refine b_back (B' := B + 64) hS (by omega) _ (fun x m1 n1 r1 sc1 hf => ?_)
  have e111 : m1 0 111 0 = mi 0 111 0 := by rw [sc1.2]
  refine r_aload_n (dc kc_L_law_16 39 rfl) rfl <| s_aload_nX (dc kc_L_law_17 0 rfl) rfl <| s_iload_n (dc kc_L_law_17 1 rfl) rfl <| k_i (dc kc_L_law_17 2 rfl) rfl <| b_iadd (dc kc_L_law_17 3 rfl) (by first | omega | (simp [up] <;> omega)) (by first | omega | (simp [up] <;> omega)) <| s_sld (dc kc_L_law_17 4 rfl) (by first | omega | (simp [up] <;> omega)) (by first | omega | (simp [up] <;> omega)) <| c_v1r (dc kc_L_law_17 5 rfl) cl_L_141 rfl (Nat.le_of_ble_eq_true rfl) (by assumption) (by assumption) ?_
  rw [sc1.1]
  refine hf _ (fun m2 n2 r2 sc2 hS2 => ?_)
  refine s_icmp_eq (tgt := 1042) (dc kc_L_law_17 6 rfl) rfl (fun c1024 => (?_)) (fun c1024 => (k_i (dc kc_L_law_17 7 rfl) rfl <| s_zreturn (dc kc_L_law_17 8 rfl) rfl (by first | exact Or.inl rfl | exact Or.inr rfl | exact bi_01 | assumption) (by assumption) (by assumption) ?_))
  · exact hN m2 n2 r2 _ _ (Nat.le_add_right _ _) (Nat.le_add_right _ _) sc2 hS2
  · exact absurd rfl c1024
theorem law_status (hS : LSt B mi n mr) (hM : B + 64 ≤ 1000000) (hi0 : 0 ≤ i) (hi1 : i + 6 ≤ mi 0 111 0) (hL : mi 0 111 0 ≤ 3072) (hkc : kc + 37 ≤ mK mt_L_law) (hks : ks + 2816 ≤ mS mt_L_law) (hN : Nxt Q i (B + 64) kc ks mi) (ha : a = 31) : Run 21 mt_L_law Q (n, mr, kc, ks) mi 33 [vX 1, vR (some (0, 0)), vR (some (0, 80)), vI i] [vI a] := by
  have hk1 : kc ≤ mK mt_L_law := Nat.le_trans (Nat.le_add_right _ _) hkc
  have hk2 : ks ≤ mS mt_L_law := Nat.le_trans (Nat.le_add_right _ _) hks
  refine s_tabC (k0 := 31) (tgt := 1029) (dc kc_L_law_0 21 rfl) ?_ rfl rfl rfl <| r_aload_n (dc kc_L_law_17 9 rfl) rfl <| c_v0r (dc kc_L_law_17 10 rfl) cl_L_142 rfl (Nat.le_of_ble_eq_true rfl) (by assumption) (by assumption) ?_
  · exact ha
  refine b_status (B' := B + 64) hS (by omega) _ (fun x m1 n1 r1 sc1 hf => ?_)
  have e111 : m1 0 111 0 = mi 0 111 0 := by rw [sc1.2]
  refine r_aload_n (dc kc_L_law_17 11 rfl) rfl <| c_v0r (dc kc_L_law_17 12 rfl) cl_L_145 rfl (Nat.le_of_ble_eq_true rfl) (by assumption) (by assumption) ?_
  refine hf _ (fun m2 n2 r2 sc2 hS2 => ?_)
  refine s_icmp_eq (tgt := 1042) (dc kc_L_law_17 13 rfl) rfl (fun c1037 => (?_)) (fun c1037 => (k_i (dc kc_L_law_17 14 rfl) rfl <| s_zreturn (dc kc_L_law_17 15 rfl) rfl (by first | exact Or.inl rfl | exact Or.inr rfl | exact bi_01 | assumption) (by assumption) (by assumption) ?_))
  · exact hN m2 n2 r2 _ _ (Nat.le_add_right _ _) (Nat.le_add_right _ _) sc2 hS2
  · exact absurd rfl c1037
end LAWD
