/-! the reference: lines, whole -/
def LwM (m : MI) (i : Int) (q : RowT) : Prop := LnM m i q.1 q.2.2.1 q.2.2.2.1 q.2.2.2.2 ∧ q.2.1 = 1 ∧ (0 ≤ q.1 ∧ q.1 ≤ 9) ∧ Lin q.1 q.2.2.1 q.2.2.2.1 q.2.2.2.2
theorem LwM.mv {m m' : MI} {i C0 R : Int} {q : RowT} (h : LwM m i q) (hg : Ch (pLw C0 R) m m') (hi : 0 ≤ i) (hiR : i < R) (hC : m 0 80 20 ≤ C0) (hC2 : m 0 80 20 ≤ m' 0 80 20) : LwM m' i q := by
  obtain ⟨⟨a1, a2, a3, a4, a5, a6, a7⟩, b⟩ := h
  have e : ∀ k : Int, 0 ≤ k → k < 10 → m' 0 91 (10 * i + k) = m 0 91 (10 * i + k) := fun k k0 k1 => hg.at (by simp [pLw, pPr]; omega)
  have e0 := e 0 (by omega) (by omega)
  rw [Int.add_zero] at e0
  refine ⟨?_, b⟩
  unfold LnM
  have hs : ∀ (x : Nat) (k : Int), k + x ≤ m 0 80 20 → slcR m' x k = slcR m x k := fun x k hk => slcR_ext _ _ (fun j j0 j1 => ⟨hg.at (by simp [pLw, pPr]; omega), hg.at (by simp [pLw, pPr]; omega)⟩)
  rw [e0, e 1 (by omega) (by omega), e 2 (by omega) (by omega), e 3 (by omega) (by omega), e 4 (by omega) (by omega), e 5 (by omega) (by omega), e 6 (by omega) (by omega), e 7 (by omega) (by omega), hs _ _ (by omega), hs _ _ (by omega), hs _ _ (by omega)]
  refine ⟨?_, a2, a3, ⟨a4.1, a4.2.1, a4.2.2.1, a4.2.2.2.1, a4.2.2.2.2.1, a4.2.2.2.2.2.1, by omega⟩, a5, a6, a7⟩
  rw [← a1]
  unfold tgM
  rw [e0, e 1 (by omega) (by omega)]
section RL4
variable {d n G : Nat} {mr : MR} {Q : V → MI → Nat → MR → Prop} {t : Int → Int} {N : Int}
theorem TYs_line {f : Int} : TYs 1 (f, 0, 0, -1, [701], 9, 0, [], [], []) := fun _ => ⟨4, [], ⟨fun _ => by decide, fun _ => rfl⟩, rfl, fit_701.mpr ⟨rfl, rfl, rfl⟩, ⟨by show (0 : Int) ≤ 9; decide, by show (9 : Int) ≤ 9; decide⟩, fun z => absurd z (by decide), fun z => absurd z (by decide), fun z => absurd z (by decide), fun z => absurd z (by decide), fun _ => ⟨rfl, rfl, rfl, rfl⟩⟩
/-- the steps' lines are lost -/
theorem t_linesClr (hL : Lay G mr) {m0 : MI} (hQ : ∀ m', Ch p81 m0 m' → m' 0 81 = (fun i : Int => if 246 ≤ i ∧ i < 646 ∧ i % 2 = 0 then -1 else m0 0 81 i) → Run (d+12) mt_X12_lines Q (n, mr, 0, 0) m' 126 [vR (some (0, 80)), vI 200] []) : ∀ k : Nat, k ≤ 200 → ∀ m : MI, Ch p81 m0 m → m 0 81 = (fun i : Int => if 246 ≤ i ∧ i < 246 + 2 * (k : Int) ∧ i % 2 = 0 then -1 else m0 0 81 i) → Run (d+12) mt_X12_lines Q (n, mr, 0, 0) m 100 [vR (some (0, 80)), vI (k : Int)] [] := by
  refine nloop ?_
  intro k hk ih m gm hm
  by_cases hlt : k < 200
  · have ih := ih hlt
    rw [show ((k + 1 : Nat) : Int) = (k : Int) + 1 by omega] at ih
    refine s_iload_n (dc kc_X12_lines_1 14 rfl) rfl <| k_s (dc kc_X12_lines_1 15 rfl) rfl <| s_icmp_ge (tgt := 126) (dc kc_X12_lines_1 16 rfl) rfl (fun c104 => (?_)) (fun c104 => (r_aload_n (dc kc_X12_lines_1 17 rfl) rfl <| s_getA (dc kc_X12_lines_1 18 rfl) fl_X12_7 (ly_80_2 hL) <| k_s (dc kc_X12_lines_1 19 rfl) rfl <| k_i (dc kc_X12_lines_1 20 rfl) rfl <| s_iload_n (dc kc_X12_lines_1 21 rfl) rfl <| b_imul (dc kc_X12_lines_1 22 rfl) (by first | omega | (simp [up] <;> omega)) (by first | omega | (simp [up] <;> omega)) <| b_iadd (dc kc_X12_lines_1 23 rfl) (by first | omega | (simp [up] <;> omega)) (by first | omega | (simp [up] <;> omega)) <| k_i (dc kc_X12_lines_1 24 rfl) rfl <| s_iastore (dc kc_X12_lines_1 25 rfl) rfl (by first | omega | (simp [up] <;> omega)) (by first | omega | (simp [up] <;> omega)) <| b_inc1 (dc kc_X12_lines_1 26 rfl) rfl (Nat.le_of_ble_eq_true rfl) rfl (by first | omega | (simp [up] <;> omega)) (by first | omega | (simp [up] <;> omega)) <| s_goto (tgt := 100) (dc kc_X12_lines_1 27 rfl) rfl <| ?_))
    · exfalso; omega
    · refine ih _ (gm.up (by simp [p81])) ?_
      rw [up_ud, hm]
      funext i
      unfold ud
      dsimp only
      by_cases z1 : i = 246 + 2 * (k : Int)
      · rw [if_pos z1, if_pos (by omega)]
      · rw [if_neg z1]
        by_cases z2 : 246 ≤ i ∧ i < 246 + 2 * (k : Int) ∧ i % 2 = 0
        · rw [if_pos z2, if_pos (by omega)]
        · rw [if_neg z2, if_neg (by omega)]
  · have hk2 : k = 200 := by omega
    subst hk2
    refine s_iload_n (dc kc_X12_lines_1 14 rfl) rfl <| k_s (dc kc_X12_lines_1 15 rfl) rfl <| s_icmp_ge (tgt := 126) (dc kc_X12_lines_1 16 rfl) rfl (fun c104 => (?_)) (fun c104 => (?_))
    · refine hQ m gm ?_
      rw [hm]
      funext i
      by_cases z : 246 ≤ i ∧ i < 646 ∧ i % 2 = 0
      · rw [if_pos z, if_pos (by omega)]
      · rw [if_neg z, if_neg (by omega)]
    · exfalso; omega
/-- what the rows read give -/
theorem t_linesEnd (hL : Lay G mr) {mi m : MI} {ρ : Int → Int} {L : List RowT} (h81 : m 0 81 = ρ) (hB : m 0 80 17 = 0) (h28 : m 0 80 28 = L.length) (h12 : L.length ≤ 12) (h20 : 0 ≤ m 0 80 20 ∧ m 0 80 20 ≤ 400) (hR : ∀ (i : Nat) (q : RowT), L[i]? = some q → LwM m i q) (hg : Ch pRl mi m) (h1 : 1 ≤ L.length)
    (hQ : ∀ m', Ch (fun j k => pRl j k || j == 81) mi m' → m' 0 80 11 = 0 → m' 0 80 16 = m 0 80 16 → m' 0 80 1 = 0 → m' 0 80 25 = m 0 80 25 → LinesOf ρ (m' 0 81) L → (∀ l : Int, 0 ≤ l → l < L.length → WfLine (m' 0 81) l) → Q (vI L.length) m' n mr) : Run (d+12) mt_X12_lines Q (n, mr, 0, 0) m 42 [vR (some (0, 80)), vX 0] [] := by
  have u17 : up m 0 80 11 0 0 80 17 = 0 := by rw [up_k (by decide)]; exact hB
  refine r_aload_n (dc kc_X12_lines_0 22 rfl) rfl <| k_i (dc kc_X12_lines_0 23 rfl) rfl <| s_putI (dc kc_X12_lines_0 24 rfl) fl_X12_137 <| r_aload_n (dc kc_X12_lines_0 25 rfl) rfl <| s_getZ (dc kc_X12_lines_0 26 rfl) fl_X12_146 <| s_if_eq (tgt := 61) (dc kc_X12_lines_0 27 rfl) rfl (fun c51 => (r_aload_n (dc kc_X12_lines_0 32 rfl) rfl <| k_s (dc kc_X12_lines_0 33 rfl) rfl <| k_s (dc kc_X12_lines_0 34 rfl) rfl <| c_v2 (dc kc_X12_lines_0 35 rfl) cl_X12_318 rfl (Nat.le_of_ble_eq_true rfl) (Nat.zero_le _) (Nat.zero_le _) ?_)) (fun c51 => (?_))
  · refine t_layT hL (M := L.length) (C := m 0 80 20) (by rw [up_k (by decide)]; exact h28) (by omega) (by omega) (by rw [up_k (by decide)]) h20.1 h20.2 (by omega) (by omega) (by omega) (fun m2 g2 e2 => ?_)
    have q28 : m2 0 80 28 = L.length := by rw [g2.at (by simp [p81]), up_k (by decide)]; exact h28
    refine r_aload_n (dc kc_X12_lines_0 36 rfl) rfl <| s_getA (dc kc_X12_lines_0 37 rfl) fl_X12_7 (ly_80_2 hL) <| k_b (dc kc_X12_lines_0 38 rfl) rfl <| r_aload_n (dc kc_X12_lines_0 39 rfl) rfl <| s_getI (dc kc_X12_lines_1 0 rfl) fl_X12_303 <| s_iastore (dc kc_X12_lines_1 1 rfl) rfl (by first | omega | (simp [up] <;> omega)) (by first | omega | (simp [up] <;> omega)) <| r_aload_n (dc kc_X12_lines_1 2 rfl) rfl <| s_getA (dc kc_X12_lines_1 3 rfl) fl_X12_7 (ly_80_2 hL) <| k_b (dc kc_X12_lines_1 4 rfl) rfl <| k_i (dc kc_X12_lines_1 5 rfl) rfl <| s_iastore (dc kc_X12_lines_1 6 rfl) rfl (by first | omega | (simp [up] <;> omega)) (by first | omega | (simp [up] <;> omega)) <| r_aload_n (dc kc_X12_lines_1 7 rfl) rfl <| s_getA (dc kc_X12_lines_1 8 rfl) fl_X12_7 (ly_80_2 hL) <| k_b (dc kc_X12_lines_1 9 rfl) rfl <| k_i (dc kc_X12_lines_1 10 rfl) rfl <| s_iastore (dc kc_X12_lines_1 11 rfl) rfl (by first | omega | (simp [up] <;> omega)) (by first | omega | (simp [up] <;> omega)) <| k_i (dc kc_X12_lines_1 12 rfl) rfl <| t_i1 (dc kc_X12_lines_1 13 rfl) (Nat.le_of_ble_eq_true rfl) rfl <| ?_
    rw [q28]
    generalize hm5 : up (up (up m2 0 81 17 (L.length : Int)) 0 81 7 0) 0 81 12 (-1) = m5
    have g5 : Ch p81 m2 m5 := by
      rw [← hm5]; exact ((Ch.rf.up (by simp [p81])).up (by simp [p81])).up (by simp [p81])
    have e5 : m5 0 81 = ud (ud (ud (m2 0 81) 17 L.length) 7 0) 12 (-1) := by rw [← hm5, up_ud, up_ud, up_ud]
    clear hm5
    refine t_linesClr hL (m0 := m5) (fun m3 g3 e3 => ?_) 0 (by omega) m5 Ch.rf (by funext i; rw [if_neg (by omega)])
    have r28 : m3 0 80 28 = L.length := by rw [g3.at (by simp [p81]), g5.at (by simp [p81])]; exact q28
    refine r_aload_n (dc kc_X12_lines_1 28 rfl) rfl <| r_aload_n (dc kc_X12_lines_1 29 rfl) rfl <| s_getI (dc kc_X12_lines_1 30 rfl) fl_X12_303 <| c_v1r (dc kc_X12_lines_1 31 rfl) cl_X12_96 rfl (Nat.le_of_ble_eq_true rfl) (Nat.zero_le _) (Nat.zero_le _) <| t_tell <| s_ireturn (dc kc_X12_lines_1 32 rfl) rfl (Nat.zero_le _) (Nat.zero_le _) ?_
    rw [r28]
    -- the row at the end
    have hrow : ∀ k, m3 0 81 k = if 246 ≤ k ∧ k < 646 ∧ k % 2 = 0 then -1 else if k = 12 then -1 else if k = 7 then 0 else if k = 17 then (L.length : Int) else layR m 2166 3086 L.length (m 0 80 20) ρ k := fun k => by
      rw [e3]
      dsimp only
      by_cases z : 246 ≤ k ∧ k < 646 ∧ k % 2 = 0
      · rw [if_pos z, if_pos z]
      · rw [if_neg z, if_neg z, e5]
        by_cases z1 : k = 12
        · rw [z1, ud_at, if_pos rfl]
        · rw [ud_ne z1, if_neg z1]
          by_cases z3 : k = 7
          · rw [z3, ud_at, if_pos rfl]
          · rw [ud_ne z3, if_neg z3]
            by_cases z2 : k = 17
            · rw [z2, ud_at, if_pos rfl]
            · rw [ud_ne z2, if_neg z2, e2]
              unfold layR
              rw [up_j (by decide), up_j (by decide), up_j (by decide), up_j (by decide), h81]
    have hlay : ∀ k, 0 ≤ k → k < 10 * (L.length : Int) → m3 0 81 (2166 + k) = m 0 91 k := fun k k0 k1 => by
      rw [hrow, if_neg (by omega), if_neg (by omega), if_neg (by omega), if_neg (by omega)]
      unfold layR
      rw [if_pos (by omega), show 2166 + k - 2166 = k by omega]
    have hcod : ∀ (x : Nat) (k : Int), 0 ≤ k → k + x ≤ m 0 80 20 → slc (m3 0 81) 3086 x k = slcR m x k := by
      intro x
      induction x with
      | zero => intro k _ _; rfl
      | succ x ih =>
        intro k k0 k1
        have ha : m3 0 81 (3086 + 2 * k) = m 0 87 k := by
          rw [hrow, if_neg (by omega), if_neg (by omega), if_neg (by omega), if_neg (by omega)]
          unfold layR
          rw [if_neg (by omega), if_pos (by omega), if_pos (by omega), show (3086 + 2 * k - 3086) / 2 = k by omega]
        have hb : m3 0 81 (3086 + 2 * k + 1) = m 0 88 k := by
          rw [hrow, if_neg (by omega), if_neg (by omega), if_neg (by omega), if_neg (by omega)]
          unfold layR
          rw [if_neg (by omega), if_pos (by omega), if_neg (by omega), show (3086 + 2 * k + 1 - 3086) / 2 = k by omega]
        rw [slc, slcR, ih (k + 1) (by omega) (by omega), ha, hb]
    have hln : ∀ (i : Int) (q : RowT), 0 ≤ i → i < L.length → LwM m i q → (tgtOf (m3 0 81) i = q.1 ∧ lnP (m3 0 81) i = q.2.2.1 ∧ lnV (m3 0 81) i = q.2.2.2.1 ∧ lnT (m3 0 81) i = q.2.2.2.2) ∧ WfLine (m3 0 81) i := fun i q hi0 hi hq => by
      obtain ⟨⟨b1, b2, b3, b4, b5, b6, b7⟩, c1, c2, c3⟩ := hq
      have e0 := hlay (10 * i) (by omega) (by omega)
      have e1 := hlay (10 * i + 1) (by omega) (by omega)
      have e2 := hlay (10 * i + 2) (by omega) (by omega)
      have e3 := hlay (10 * i + 3) (by omega) (by omega)
      have e4 := hlay (10 * i + 4) (by omega) (by omega)
      have e5 := hlay (10 * i + 5) (by omega) (by omega)
      have e6 := hlay (10 * i + 6) (by omega) (by omega)
      have e7 := hlay (10 * i + 7) (by omega) (by omega)
      rw [← Int.add_assoc] at e1 e2 e3 e4 e5 e6 e7
      have k1 : tgtOf (m3 0 81) i = q.1 := by
        rw [← b1]
        unfold tgtOf tgM
        rw [e0, e1]
      have k2 : lnP (m3 0 81) i = q.2.2.1 := by
        unfold lnP
        rw [e2, e3, hcod _ _ (by omega) (by omega), show (m 0 91 (10 * i + 3) - m 0 91 (10 * i + 2)).toNat = q.2.2.1.length by omega]
        exact b5
      have k3 : lnV (m3 0 81) i = q.2.2.2.1 := by
        unfold lnV
        rw [e4, e5, hcod _ _ (by omega) (by omega), show (m 0 91 (10 * i + 5) - m 0 91 (10 * i + 4)).toNat = q.2.2.2.1.length by omega]
        exact b6
      have k4 : lnT (m3 0 81) i = q.2.2.2.2 := by
        unfold lnT
        rw [e6, e7, hcod _ _ (by omega) (by omega), show (m 0 91 (10 * i + 7) - m 0 91 (10 * i + 6)).toNat = q.2.2.2.2.length by omega]
        exact b7
      refine ⟨⟨k1, k2, k3, k4⟩, ⟨by rw [e0]; exact b2.1, by rw [e0]; exact b2.2, by rw [e0, e1]; exact b3⟩, ?_, by rw [k1, k2, k3, k4]; exact c3⟩
      rw [e2, e3, e4, e5, e6, e7]
      omega
    have hLO : LinesOf ρ (m3 0 81) L := by
      refine ⟨by rw [hrow, if_neg (by omega), if_neg (by omega), if_neg (by omega), if_pos rfl], fun i q hq => ?_, by rw [hrow, if_neg (by omega), if_neg (by omega), if_pos rfl], by rw [hrow, if_neg (by omega), if_pos rfl], fun s s0 s1 => by rw [hrow, if_pos (by omega)], fun k n1 n2 n3 n4 n5 n6 => ?_⟩
      · obtain ⟨hi, -⟩ := List.getElem?_eq_some_iff.mp hq
        have hq2 := hR i q hq
        obtain ⟨⟨z1, z2, z3, z4⟩, -⟩ := hln i q (by omega) (by omega) hq2
        exact ⟨z1, z2, z3, z4, hq2.2⟩
      · rw [hrow, if_neg n4, if_neg n3, if_neg n2, if_neg n1]
        unfold layR
        rw [if_neg (by omega), if_neg (by omega)]
    have hst : (if (L.length : Int) < 0 then (L.length : Int) else 0) = 0 := if_neg (by omega)
    rw [hst]
    have b80 : ∀ k, m3 0 80 k = up m 0 80 11 0 0 80 k := fun k => by rw [g3.at (by simp [p81]), g5.at (by simp [p81]), g2.at (by simp [p81])]
    refine hQ _ ?_ ?_ ?_ up_at ?_ (by rw [up_j (by decide)]; exact hLO) (fun l l0 l1 => ?_)
    · refine (Ch.up ?_ (by simp [pRl]))
      exact ((((hg.mono (fun j k z => by simp [z])).up (by simp [pRl])).tr (g2.mono (fun j k z => by simp [p81] at z; simp [z]))).tr (g5.mono (fun j k z => by simp [p81] at z; simp [z]))).tr (g3.mono (fun j k z => by simp [p81] at z; simp [z]))
    · rw [up_k (by decide), b80, up_at]
    · rw [up_k (by decide), b80, up_k (by decide)]
    · rw [up_k (by decide), b80, up_k (by decide)]
    · rw [up_j (by decide)]
      obtain ⟨q, hq⟩ : ∃ q, L[l.toNat]? = some q := ⟨L[l.toNat]'(by omega), List.getElem?_eq_getElem (by omega)⟩
      have hq2 := hR _ q hq
      rw [Int.toNat_of_nonneg l0] at hq2
      exact (hln l q l0 l1 hq2).2
  · exfalso; omega
theorem t_lines (hL : Lay G mr) {mi : MI} {F : Int → MS} (hP : Tpe (mi 0 86) (mi 0 80 11)) (h25 : -100 ≤ mi 0 80 25 ∧ mi 0 80 25 ≤ 100) (hF : F = finR (tkF (mi 0 86) (mi 0 80 11)) (nuF (mi 0 86) (mi 0 80 11)) (nxF (mi 0 86) (mi 0 80 11)) 1)
    (hQ1 : ∀ p, cmpG F (tkF (mi 0 86) (mi 0 80 11)) (nxF (mi 0 86) (mi 0 80 11)) 12 (skp (mi 0 86) (mi 0 80 11) 0) = .inl p → ∀ m', Ch pRl mi m' → m' 0 80 11 = 0 → m' 0 80 16 = p → m' 0 80 1 = -6 → (-100 ≤ m' 0 80 25 ∧ m' 0 80 25 ≤ 100) → Q (vI (-6)) m' n mr)
    (hQ2 : ∀ L, cmpG F (tkF (mi 0 86) (mi 0 80 11)) (nxF (mi 0 86) (mi 0 80 11)) 12 (skp (mi 0 86) (mi 0 80 11) 0) = .inr L → L.length ≤ 12 → ∀ m', Ch (fun j k => pRl j k || j == 81) mi m' → m' 0 80 11 = 0 → m' 0 80 16 = -1 → m' 0 80 1 = 0 → (-100 ≤ m' 0 80 25 ∧ m' 0 80 25 ≤ 100) → LinesOf (mi 0 81) (m' 0 81) L → (∀ l : Int, 0 ≤ l → l < L.length → WfLine (m' 0 81) l) → Q (vI L.length) m' n mr) : Tx (d+12) mt_X12_lines [vR (some (0, 80))] mi n mr Q := by
  generalize ht : mi 0 86 = t at *
  generalize hNN : mi 0 80 11 = N at *
  have hN := hP.1.2
  generalize hT0 : cmpG F (tkF t N) (nxF t N) 12 (skp t N 0) = T0 at *
  -- it has failed
  have bad : ∀ (m : MI) (p : Int), Ch pRl mi m → RB m p → (-100 ≤ m 0 80 25 ∧ m 0 80 25 ≤ 100) → T0 = .inl p → Run (d+12) mt_X12_lines Q (n, mr, 0, 0) m 42 [vR (some (0, 80)), vX 0] [] := fun m p gm hb e25 hT => by
    have e17 := hb.1
    have u17 : up m 0 80 11 0 0 80 17 = 1 := by rw [up_k (by decide)]; exact e17
    refine r_aload_n (dc kc_X12_lines_0 22 rfl) rfl <| k_i (dc kc_X12_lines_0 23 rfl) rfl <| s_putI (dc kc_X12_lines_0 24 rfl) fl_X12_137 <| r_aload_n (dc kc_X12_lines_0 25 rfl) rfl <| s_getZ (dc kc_X12_lines_0 26 rfl) fl_X12_146 <| s_if_eq (tgt := 61) (dc kc_X12_lines_0 27 rfl) rfl (fun c51 => (?_)) (fun c51 => (r_aload_n (dc kc_X12_lines_0 28 rfl) rfl <| k_b (dc kc_X12_lines_0 29 rfl) rfl <| c_v1r (dc kc_X12_lines_0 30 rfl) cl_X12_96 rfl (Nat.le_of_ble_eq_true rfl) (Nat.zero_le _) (Nat.zero_le _) <| t_tell <| s_ireturn (dc kc_X12_lines_0 31 rfl) rfl (Nat.zero_le _) (Nat.zero_le _) ?_))
    · exfalso; omega
    · rw [if_pos (by decide)]
      exact hQ1 p hT _ ((gm.up (by simp [pRl])).up (by simp [pRl])) (by simp [up]) (by simp [up]; exact hb.2) (by simp [up]) (by simp [up]; exact e25)
  have ded : ∀ (m : MI) (p : Int), Ch pRl mi m → Dd t N m p → (-100 ≤ m 0 80 25 ∧ m 0 80 25 ≤ 100) → T0 = .inl p → Run (d+12) mt_X12_lines Q (n, mr, 0, 0) m 28 [vR (some (0, 80)), vX 0] [] := fun m p gm hd e25 hT => by
    refine r_aload_n (dc kc_X12_lines_0 16 rfl) rfl <| c_v0r (dc kc_X12_lines_0 17 rfl) cl_X12_315 rfl (Nat.le_of_ble_eq_true rfl) (Nat.zero_le _) (Nat.zero_le _) ?_
    refine t_isMoreD hL hP hd (fun m2 g2 h2 => ?_)
    refine s_if_eq (tgt := 42) (dc kc_X12_lines_0 18 rfl) rfl (fun c32 => (?_)) (fun c32 => (?_))
    · exact bad m2 p (gm.tr (rl_Tq g2)) h2 (by rw [g2.at (by simp [pTq])]; exact e25) hT
    · exfalso; omega
  have back : ∀ m : MI, Run (d+12) mt_X12_lines Q (n, mr, 0, 0) m 28 [vR (some (0, 80)), vX 0] [] → Run (d+12) mt_X12_lines Q (n, mr, 0, 0) m 39 [vR (some (0, 80)), vX 0] [] := fun m h => by
    refine s_goto (tgt := 28) (dc kc_X12_lines_0 21 rfl) rfl <| ?_
    exact h
  -- a row is read
  have row : ∀ (k : Nat) (m : MI) (f : Int) (L : List RowT), L.length + k = 12 → Ch pRl mi m → RA t N m f 0 → m 0 80 28 = L.length → 0 ≤ m 0 80 20 → m 0 80 20 ≤ f → m 0 80 19 = 1 → (-100 ≤ m 0 80 25 ∧ m 0 80 25 ≤ 100) → (∀ (i : Nat) (q : RowT), L[i]? = some q → LwM m i q) → T0 = appR L (cmpG F (tkF t N) (nxF t N) k f) → ∀ Qr : V → MI → Nat → MR → Prop, (∀ v m', Run (d+11+1) mt_X12_lines Q (n, mr, 0, 0) m' 28 [vR (some (0, 80)), vX 0] [] → Qr v m' n mr) → Tx (d+11) mt_X12_readLine [vR (some (0, 80))] m n mr Qr := by
    intro k
    induction k with
    | zero =>
      intro m f L hk gm hA e28 e20 e20f e19 e25 hRw hT Qr hQr
      refine t_readLine12 hL hA (by rw [e28]; omega) (fun m2 g2 h2 => ?_)
      exact hQr _ _ <| ded m2 f (gm.tr (rl_Tq g2)) (Or.inr h2) (by rw [g2.at (by simp [pTq])]; exact e25) hT
    | succ k ih =>
      intro m f L hk gm hA e28 e20 e20f e19 e25 hRw hT Qr hQr
      have hf := hA.2.2.2.2.1
      rw [cmpG] at hT
      refine t_readLineA hL hP hA e28 (by omega) (by omega) rfl e20 e20f e19 e25 (fun m2 f2 u2 tg pc vc cc a g2 hA2 q28 q20 q20f q25 hlw hr2 ha hRh => ?_) (fun m2 p g2 x2 dn => ?_)
      · have hFf : F f = (f2, u2, 0, -1, [], tg, 1, pc, vc, cc) := by
          rw [hF]
          exact hRh.fin rfl (by omega)
        rw [hFf] at hT
        have hGT := hRh.GT (B := 0) (TkE_F hP.2) (Gs_0 (Or.inr rfl) hf.1 hf.2 (by omega)) TYs_line
        obtain ⟨l1, l2, l3⟩ := end_line hGT.1 hGT.2
        have hrow : LwM m2 L.length (tg, 1, pc, vc, cc) := ⟨hlw, rfl, l2, l3⟩
        have hRw2 : ∀ (i : Nat) (q : RowT), (L ++ [((tg, 1, pc, vc, cc) : RowT)])[i]? = some q → LwM m2 i q := fun i q hq => by
          by_cases hi : i < L.length
          · rw [List.getElem?_append_left hi] at hq
            exact (hRw i q hq).mv g2 (by omega) (by omega) (by omega) (by omega)
          · have hi2 : i < (L ++ [((tg, 1, pc, vc, cc) : RowT)]).length := (List.getElem?_eq_some_iff.mp hq).1
            rw [List.length_append, List.length_singleton] at hi2
            have hil : i = L.length := by omega
            subst hil
            rw [List.getElem?_append_right (Nat.le_refl _), Nat.sub_self] at hq
            cases hq
            exact hrow
        have gm2 : Ch pRl mi m2 := gm.tr (rl_lw g2)
        have q16 : m2 0 80 17 = 0 := hA2.2.2.1
        have hT : T0 = appR L (if tkF t N f2 = 91 then (match cmpG F (tkF t N) (nxF t N) k (nxF t N f2) with | .inl p => .inl p | .inr L' => .inr (((tg, 1, pc, vc, cc) : RowT) :: L')) else if tkF t N f2 = 23 then .inr [((tg, 1, pc, vc, cc) : RowT)] else .inl f2) := hT
        have hlen : ((L ++ [((tg, 1, pc, vc, cc) : RowT)]).length : Int) = L.length + 1 := by simp
        apply hQr
        refine r_aload_n (dc kc_X12_lines_0 16 rfl) rfl <| c_v0r (dc kc_X12_lines_0 17 rfl) cl_X12_315 rfl (Nat.le_of_ble_eq_true rfl) (Nat.zero_le _) (Nat.zero_le _) ?_
        refine t_isMoreA hL hP hA2 (fun h91 m3 g3 h3 => ?_) (fun h23 => ?_) (fun n91 n23 m3 g3 h3 => ?_)
        · rw [if_pos h91] at hT
          have hT2 : T0 = appR (L ++ [((tg, 1, pc, vc, cc) : RowT)]) (cmpG F (tkF t N) (nxF t N) k (nxF t N f2)) := by
            rw [hT]
            cases cmpG F (tkF t N) (nxF t N) k (nxF t N f2) with
            | inl p => rfl
            | inr L' => show Sum.inr (L ++ _ :: L') = Sum.inr (L ++ [_] ++ L'); simp
          obtain ⟨p1, p2, p3, p4⟩ := hA2.nx hP (by omega)
          have q19 : m2 0 80 19 = 1 := by rw [g2.at (by simp [pLw, pPr])]; exact e19
          refine s_if_eq (tgt := 42) (dc kc_X12_lines_0 18 rfl) rfl (fun c32 => (?_)) (fun c32 => (r_aload_n (dc kc_X12_lines_0 19 rfl) rfl <| c_v0 (dc kc_X12_lines_0 20 rfl) cl_X12_335 rfl (Nat.le_of_ble_eq_true rfl) (Nat.zero_le _) (Nat.zero_le _) ?_))
          · exfalso; omega
          · refine ih m3 (nxF t N f2) (L ++ [((tg, 1, pc, vc, cc) : RowT)]) (by rw [List.length_append, List.length_singleton]; omega) (gm2.tr (rl_Tq g3)) h3 (by rw [g3.at (by simp [pTq]), q28, hlen]) (by rw [g3.at (by simp [pTq])]; omega) (by rw [g3.at (by simp [pTq])]; omega) (by rw [g3.at (by simp [pTq])]; exact q19) (by rw [g3.at (by simp [pTq])]; exact q25) (fun i q hq => ?_) hT2 _ (fun v m' h => back m' h)
            have e20 : m3 0 80 20 = m2 0 80 20 := g3.at (by simp [pTq])
            exact (hRw2 i q hq).mv (C0 := m2 0 80 20) (R := i + 1) (g3.mono (fun j k z => by simp [pTq] at z; simp [pLw, pPr]; omega)) (by omega) (by omega) (by omega) (by omega)
        · rw [if_neg (by omega), if_pos h23] at hT
          have hf2 := hA2.2.2.2.2.1
          have q16b : m2 0 80 16 = -1 := hA2.2.2.2.2.2.2.2
          refine s_if_eq (tgt := 42) (dc kc_X12_lines_0 18 rfl) rfl (fun c32 => (?_)) (fun c32 => (?_))
          · refine t_linesEnd hL (mi := mi) (ρ := mi 0 81) (L := L ++ [((tg, 1, pc, vc, cc) : RowT)]) (gm2.row (fun k => by simp [pRl])) q16 (by rw [q28, hlen]) (by simp; omega) ⟨by omega, by omega⟩ hRw2 gm2 (by simp) (fun m' g' x11 x16 x1 x25 xL xW => ?_)
            exact hQ2 (L ++ [((tg, 1, pc, vc, cc) : RowT)]) hT (by rw [List.length_append, List.length_singleton]; omega) m' g' x11 (by rw [x16]; exact q16b) x1 (by rw [x25]; exact q25) xL xW
          · exfalso; omega
        · rw [if_neg n91, if_neg n23] at hT
          refine s_if_eq (tgt := 42) (dc kc_X12_lines_0 18 rfl) rfl (fun c32 => (?_)) (fun c32 => (?_))
          · exact bad m3 f2 (gm2.tr (rl_Tq g3)) h3 (by rw [g3.at (by simp [pTq])]; exact q25) hT
          · exfalso; omega
      · have hFf : flt (F f) = p := by
          rw [hF]
          exact dn.fin (by omega)
        have hpn : p ≠ -1 := by obtain ⟨s', _, _, z, _⟩ := dn; exact z
        rw [if_pos (by rw [hFf]; exact hpn), hFf] at hT
        exact hQr _ _ <| ded m2 p (gm.tr (rl_lw g2)) x2.1 x2.2.2.2.2.2 hT
  refine tx_intro (ls := [vR (some (0, 80)), vX 0]) om_X12_lines rfl (Nat.le_of_ble_eq_true rfl) ?_
  refine r_aload_n (dc kc_X12_lines_0 0 rfl) rfl <| k_i (dc kc_X12_lines_0 1 rfl) rfl <| s_putI (dc kc_X12_lines_0 2 rfl) fl_X12_86 <| r_aload_n (dc kc_X12_lines_0 3 rfl) rfl <| c_v0 (dc kc_X12_lines_0 4 rfl) cl_X12_309 rfl (Nat.le_of_ble_eq_true rfl) (Nat.zero_le _) (Nat.zero_le _) ?_
  refine t_begin hL hP ⟨by rw [up_j (by decide)]; exact ht, by rw [up_k (by decide)]; exact hNN⟩ (fun m2 g2 h2 _ => ?_)
  refine r_aload_n (dc kc_X12_lines_0 5 rfl) rfl <| k_i (dc kc_X12_lines_0 6 rfl) rfl <| s_putI (dc kc_X12_lines_0 7 rfl) fl_X12_303 <| r_aload_n (dc kc_X12_lines_0 8 rfl) rfl <| k_i (dc kc_X12_lines_0 9 rfl) rfl <| s_putI (dc kc_X12_lines_0 10 rfl) fl_X12_191 <| r_aload_n (dc kc_X12_lines_0 11 rfl) rfl <| k_i (dc kc_X12_lines_0 12 rfl) rfl <| s_putZ (dc kc_X12_lines_0 13 rfl) fl_X12_247 (by first | exact Or.inl rfl | exact Or.inr rfl | exact bi_01 | assumption) <| r_aload_n (dc kc_X12_lines_0 14 rfl) rfl <| c_v0 (dc kc_X12_lines_0 15 rfl) cl_X12_335 rfl (Nat.le_of_ble_eq_true rfl) (Nat.zero_le _) (Nat.zero_le _) ?_
  have gA : Ch pRl mi m2 := (Ch.rf.up (by simp [pRl])).tr (rl_Tq g2)
  have gB : Ch (fun j k => j == 80 && (k == 28 || k == 20 || k == 19)) m2 (up (up (up m2 0 80 28 0) 0 80 20 0) 0 80 19 1) := ((Ch.rf.up (by simp)).up (by simp)).up (by simp)
  have hsk := skp_bd (t := t) hP.1.1
  refine row 12 _ (skp t N 0) [] rfl (gA.tr (gB.mono (fun j k z => by simp at z; simp [pRl]; omega))) (h2.mv gB (fun k => by simp) (fun k k0 k1 _ => by simp; omega)) (by simp [up]) (by simp [up]) (by simp [up]; omega) (by simp [up]) ?_ (fun i q hq => by simp at hq) ?_ _ (fun v m' h => h)
  · rw [gB.at (by simp), g2.at (by simp [pTq]), up_k (by decide)]; exact h25
  · rw [hT0]; cases T0 <;> rfl
end RL4
