/-! the reference: laws, whole -/
def pRl (j : Nat) (k : Int) : Bool := j == 87 || j == 88 || j == 89 || j == 90 || j == 91 || (j == 80 && (k == 0 || k == 1 || k == 11 || k == 12 || k == 13 || k == 14 || k == 15 || k == 16 || k == 17 || k == 18 || k == 19 || k == 20 || k == 24 || k == 25 || k == 28))
theorem rl_lw {C0 R : Int} {m m' : MI} (h : Ch (pLw C0 R) m m') : Ch pRl m m' := h.mono (fun j k z => by simp [pLw, pPr] at z; simp [pRl]; omega)
theorem rl_Tq {m m' : MI} (h : Ch pTq m m') : Ch pRl m m' := h.mono (fun j k z => by simp [pTq] at z; simp [pRl]; omega)
/-- a law that is read, in the reference's own arrays -/
def RwM (m : MI) (i : Int) (q : RowT) : Prop := lawM m i = q.2.2.2.2 ∧ q.2.2.1 = [] ∧ q.2.2.2.1 = [] ∧ Law q.2.2.2.2 ∧ (0 ≤ m 0 91 (10 * i) ∧ m 0 91 (10 * i) ≤ 4) ∧ (m 0 91 (10 * i) = 4 → 0 ≤ m 0 91 (10 * i + 3) ∧ m 0 91 (10 * i + 3) ≤ m 0 91 (10 * i + 4) ∧ m 0 91 (10 * i + 4) ≤ m 0 80 20)
theorem RwM.mv {m m' : MI} {i C0 R : Int} {q : RowT} (h : RwM m i q) (hg : Ch (pLw C0 R) m m') (hi : 0 ≤ i) (hiR : i < R) (hC : m 0 80 20 ≤ C0) (hC2 : m 0 80 20 ≤ m' 0 80 20) : RwM m' i q := by
  obtain ⟨a1, a2, a3, a4, a5, a6⟩ := h
  have e : ∀ k : Int, 0 ≤ k → k < 10 → m' 0 91 (10 * i + k) = m 0 91 (10 * i + k) := fun k k0 k1 => hg.at (by simp [pLw, pPr]; omega)
  have e0 := e 0 (by omega) (by omega)
  rw [Int.add_zero] at e0
  unfold RwM
  rw [e0, e 3 (by omega) (by omega), e 4 (by omega) (by omega)]
  refine ⟨?_, a2, a3, a4, a5, fun z => by have := a6 z; omega⟩
  rw [← a1]
  unfold lawM
  rw [e0, e 1 (by omega) (by omega), e 2 (by omega) (by omega), e 3 (by omega) (by omega), e 4 (by omega) (by omega)]
  by_cases c : m 0 91 (10 * i) = 4
  · rw [if_pos c, if_pos c]
    have := a6 c
    exact slcR_ext _ _ (fun j j0 j1 => ⟨hg.at (by simp [pLw, pPr]; omega), hg.at (by simp [pLw, pPr]; omega)⟩)
  · rw [if_neg c, if_neg c]
section RL3
variable {d n G : Nat} {mr : MR} {Q : V → MI → Nat → MR → Prop} {t : Int → Int} {N : Int}
theorem TYs_law {f : Int} : TYs 0 (f, 0, 0, -1, [700], 9, 0, [], [], []) := fun _ => ⟨3, [], ⟨fun z => absurd z (by decide), fun z => absurd rfl z⟩, rfl, fit_700.mpr ⟨rfl, rfl, rfl⟩, ⟨by show (0 : Int) ≤ 9; decide, by show (9 : Int) ≤ 9; decide⟩, fun z => absurd z (by decide), fun z => absurd z (by decide), fun z => absurd z (by decide), fun _ => ⟨rfl, rfl, fun q hq => by cases hq⟩, fun z => absurd z (by decide)⟩
/-- what the rows read give -/
theorem t_lawsEnd (hL : Lay G mr) {mi m : MI} {ρ : Int → Int} {L : List RowT} (h81 : m 0 81 = ρ) (hB : m 0 80 17 = 0) (h28 : m 0 80 28 = L.length) (h12 : L.length ≤ 12) (h20 : 0 ≤ m 0 80 20 ∧ m 0 80 20 ≤ 400) (hR : ∀ (i : Nat) (q : RowT), L[i]? = some q → RwM m i q) (hg : Ch pRl mi m) (h1 : 1 ≤ L.length)
    (hQ : ∀ m', Ch (fun j k => pRl j k || j == 81 || (j == 80 && k == 33)) mi m' → m' 0 80 11 = 0 → m' 0 80 16 = m 0 80 16 → m' 0 80 1 = 0 → m' 0 80 33 = 0 → m' 0 80 25 = m 0 80 25 → LawsOf ρ (m' 0 81) L → (∀ l : Int, 0 ≤ l → l < L.length → WfLaw (m' 0 81) l) → Q (vI L.length) m' n mr) : Run (d+11) mt_X12_laws Q (n, mr, 0, 0) m 42 [vR (some (0, 80))] [] := by
  have c1 : Ch (fun j k => j == 80 && k == 11) m (up m 0 80 11 0) := Ch.rf.up (by simp)
  have u17 : up m 0 80 11 0 0 80 17 = 0 := by rw [up_k (by decide)]; exact hB
  refine r_aload_n (dc kc_X12_laws_0 22 rfl) rfl <| k_i (dc kc_X12_laws_0 23 rfl) rfl <| s_putI (dc kc_X12_laws_0 24 rfl) fl_X12_137 <| r_aload_n (dc kc_X12_laws_0 25 rfl) rfl <| s_getZ (dc kc_X12_laws_0 26 rfl) fl_X12_146 <| s_if_eq (tgt := 61) (dc kc_X12_laws_0 27 rfl) rfl (fun c51 => (r_aload_n (dc kc_X12_laws_0 32 rfl) rfl <| k_s (dc kc_X12_laws_0 33 rfl) rfl <| k_s (dc kc_X12_laws_0 34 rfl) rfl <| c_v2 (dc kc_X12_laws_0 35 rfl) cl_X12_318 rfl (Nat.le_of_ble_eq_true rfl) (Nat.zero_le _) (Nat.zero_le _) ?_)) (fun c51 => (?_))
  · refine t_layT hL (M := L.length) (C := m 0 80 20) (by rw [up_k (by decide)]; exact h28) (by omega) (by omega) (by rw [up_k (by decide)]) h20.1 h20.2 (by omega) (by omega) (by omega) (fun m2 g2 e2 => ?_)
    have q28 : m2 0 80 28 = L.length := by rw [g2.at (by simp [p81]), up_k (by decide)]; exact h28
    refine r_aload_n (dc kc_X12_laws_0 36 rfl) rfl <| s_getA (dc kc_X12_laws_0 37 rfl) fl_X12_7 (ly_80_2 hL) <| k_b (dc kc_X12_laws_0 38 rfl) rfl <| r_aload_n (dc kc_X12_laws_0 39 rfl) rfl <| s_getI (dc kc_X12_laws_1 0 rfl) fl_X12_303 <| s_iastore (dc kc_X12_laws_1 1 rfl) rfl (by first | omega | (simp [up] <;> omega)) (by first | omega | (simp [up] <;> omega)) <| r_aload_n (dc kc_X12_laws_1 2 rfl) rfl <| c_v0 (dc kc_X12_laws_1 3 rfl) cl_X12_83 rfl (Nat.le_of_ble_eq_true rfl) (Nat.zero_le _) (Nat.zero_le _) ?_
    rw [q28]
    refine t_clearLaws hL (fun m3 g3 e33 e3 => ?_)
    have r28 : m3 0 80 28 = L.length := by rw [g3.at (by simp), up_j (by decide)]; exact q28
    refine r_aload_n (dc kc_X12_laws_1 4 rfl) rfl <| r_aload_n (dc kc_X12_laws_1 5 rfl) rfl <| s_getI (dc kc_X12_laws_1 6 rfl) fl_X12_303 <| c_v1r (dc kc_X12_laws_1 7 rfl) cl_X12_96 rfl (Nat.le_of_ble_eq_true rfl) (Nat.zero_le _) (Nat.zero_le _) <| t_tell <| s_ireturn (dc kc_X12_laws_1 8 rfl) rfl (Nat.zero_le _) (Nat.zero_le _) ?_
    rw [r28]
    -- the row at the end
    have hrow : ∀ k, m3 0 81 k = if 110 ≤ k ∧ k < 146 then -1 else if k = 16 then (L.length : Int) else layR m 2046 2286 L.length (m 0 80 20) ρ k := fun k => by
      rw [e3]
      dsimp only
      by_cases z : 110 ≤ k ∧ k < 146
      · rw [if_pos z, if_pos z]
      · rw [if_neg z, if_neg z, up_ud]
        by_cases z2 : k = 16
        · rw [z2, ud_at, if_pos rfl]
        · rw [ud_ne z2, if_neg z2, e2]
          unfold layR
          rw [up_j (by decide), up_j (by decide), up_j (by decide), up_j (by decide), h81]
    have hlay : ∀ k, 0 ≤ k → k < 10 * (L.length : Int) → m3 0 81 (2046 + k) = m 0 91 k := fun k k0 k1 => by
      rw [hrow, if_neg (by omega), if_neg (by omega)]
      unfold layR
      rw [if_pos (by omega), show 2046 + k - 2046 = k by omega]
    have hcod : ∀ (x : Nat) (k : Int), 0 ≤ k → k + x ≤ m 0 80 20 → slc (m3 0 81) 2286 x k = slcR m x k := by
      intro x
      induction x with
      | zero => intro k _ _; rfl
      | succ x ih =>
        intro k k0 k1
        have ha : m3 0 81 (2286 + 2 * k) = m 0 87 k := by
          rw [hrow, if_neg (by omega), if_neg (by omega)]
          unfold layR
          rw [if_neg (by omega), if_pos (by omega), if_pos (by omega), show (2286 + 2 * k - 2286) / 2 = k by omega]
        have hb : m3 0 81 (2286 + 2 * k + 1) = m 0 88 k := by
          rw [hrow, if_neg (by omega), if_neg (by omega)]
          unfold layR
          rw [if_neg (by omega), if_pos (by omega), if_neg (by omega), show (2286 + 2 * k + 1 - 2286) / 2 = k by omega]
        rw [slc, slcR, ih (k + 1) (by omega) (by omega), ha, hb]
    have hlaw : ∀ (i : Nat) (q : RowT), L[i]? = some q → lawC (m3 0 81) i = q.2.2.2.2 := fun i q hq => by
      obtain ⟨b1, b2, b3, b4, b5, b6⟩ := hR i q hq
      obtain ⟨hi, -⟩ := List.getElem?_eq_some_iff.mp hq
      rw [← b1]
      unfold lawC lawM
      have e0 := hlay (10 * (i : Int)) (by omega) (by omega)
      have e1 := hlay (10 * (i : Int) + 1) (by omega) (by omega)
      have e2 := hlay (10 * (i : Int) + 2) (by omega) (by omega)
      have e3 := hlay (10 * (i : Int) + 3) (by omega) (by omega)
      have e4 := hlay (10 * (i : Int) + 4) (by omega) (by omega)
      rw [← Int.add_assoc] at e1 e2 e3 e4
      rw [e0, e1, e2, e3, e4]
      by_cases c : m 0 91 (10 * (i : Int)) = 4
      · rw [if_pos c, if_pos c]
        have := b6 c
        exact hcod _ _ (by omega) (by omega)
      · rw [if_neg c, if_neg c]
    have hLO : LawsOf ρ (m3 0 81) L := by
      refine ⟨by rw [hrow, if_neg (by omega), if_pos rfl], fun i q hq => ?_, fun k k0 k1 => by rw [hrow, if_pos ⟨k0, k1⟩], fun k n1 n2 n3 n4 => ?_⟩
      · obtain ⟨b1, b2, b3, b4, b5, b6⟩ := hR i q hq
        exact ⟨hlaw i q hq, b2, b3, b4⟩
      · rw [hrow, if_neg n2, if_neg n1]
        unfold layR
        rw [if_neg (by omega), if_neg (by omega)]
    have hst : (if (L.length : Int) < 0 then (L.length : Int) else 0) = 0 := if_neg (by omega)
    rw [hst]
    refine hQ _ ?_ ?_ ?_ up_at ?_ ?_ (by rw [up_j (by decide)]; exact hLO) (fun l l0 l1 => ?_)
    · refine (Ch.up ?_ (by simp [pRl]))
      refine (((hg.mono (fun j k z => by simp [z])).up (by simp [pRl])).tr (g2.mono (fun j k z => by simp [p81] at z; simp [z]))).tr ?_
      refine (Ch.rf.up (by simp)).tr (g3.mono (fun j k z => by simp at z; simp; omega))
    · rw [up_k (by decide), g3.at (by simp), up_j (by decide), g2.at (by simp [p81]), up_at]
    · rw [up_k (by decide), g3.at (by simp), up_j (by decide), g2.at (by simp [p81]), up_k (by decide)]
    · rw [up_k (by decide)]; exact e33
    · rw [up_k (by decide), g3.at (by simp), up_j (by decide), g2.at (by simp [p81]), up_k (by decide)]
    · rw [up_j (by decide)]
      obtain ⟨q, hq⟩ : ∃ q, L[l.toNat]? = some q := ⟨L[l.toNat]'(by omega), List.getElem?_eq_getElem (by omega)⟩
      obtain ⟨b1, b2, b3, b4, b5, b6⟩ := hR _ q hq
      have hlw := hlaw _ q hq
      rw [Int.toNat_of_nonneg l0] at b5 b6 hlw
      have e0 := hlay (10 * l) (by omega) (by omega)
      have e3 := hlay (10 * l + 3) (by omega) (by omega)
      have e4 := hlay (10 * l + 4) (by omega) (by omega)
      rw [← Int.add_assoc] at e3 e4
      unfold WfLaw
      rw [e0, e3, e4, hlw]
      exact ⟨b5.1, b5.2, fun z => by have := b6 z; omega, b4⟩
  · exfalso; omega
theorem t_laws (hL : Lay G mr) {mi : MI} {F : Int → MS} (hP : Tpe (mi 0 86) (mi 0 80 11)) (h25 : -100 ≤ mi 0 80 25 ∧ mi 0 80 25 ≤ 100) (hF : F = finR (tkF (mi 0 86) (mi 0 80 11)) (nuF (mi 0 86) (mi 0 80 11)) (nxF (mi 0 86) (mi 0 80 11)) 0)
    (hQ1 : ∀ p, cmpG F (tkF (mi 0 86) (mi 0 80 11)) (nxF (mi 0 86) (mi 0 80 11)) 12 (skp (mi 0 86) (mi 0 80 11) 0) = .inl p → ∀ m', Ch pRl mi m' → m' 0 80 11 = 0 → m' 0 80 16 = p → m' 0 80 1 = -6 → (-100 ≤ m' 0 80 25 ∧ m' 0 80 25 ≤ 100) → Q (vI (-6)) m' n mr)
    (hQ2 : ∀ L, cmpG F (tkF (mi 0 86) (mi 0 80 11)) (nxF (mi 0 86) (mi 0 80 11)) 12 (skp (mi 0 86) (mi 0 80 11) 0) = .inr L → L.length ≤ 12 → ∀ m', Ch (fun j k => pRl j k || j == 81 || (j == 80 && k == 33)) mi m' → m' 0 80 11 = 0 → m' 0 80 16 = -1 → m' 0 80 1 = 0 → m' 0 80 33 = 0 → (-100 ≤ m' 0 80 25 ∧ m' 0 80 25 ≤ 100) → LawsOf (mi 0 81) (m' 0 81) L → (∀ l : Int, 0 ≤ l → l < L.length → WfLaw (m' 0 81) l) → Q (vI L.length) m' n mr) : Tx (d+11) mt_X12_laws [vR (some (0, 80))] mi n mr Q := by
  generalize ht : mi 0 86 = t at *
  generalize hNN : mi 0 80 11 = N at *
  have hN := hP.1.2
  generalize hT0 : cmpG F (tkF t N) (nxF t N) 12 (skp t N 0) = T0 at *
  -- it has failed
  have bad : ∀ (m : MI) (p : Int), Ch pRl mi m → RB m p → (-100 ≤ m 0 80 25 ∧ m 0 80 25 ≤ 100) → T0 = .inl p → Run (d+11) mt_X12_laws Q (n, mr, 0, 0) m 42 [vR (some (0, 80))] [] := fun m p gm hb e25 hT => by
    have e17 := hb.1
    have u17 : up m 0 80 11 0 0 80 17 = 1 := by rw [up_k (by decide)]; exact e17
    refine r_aload_n (dc kc_X12_laws_0 22 rfl) rfl <| k_i (dc kc_X12_laws_0 23 rfl) rfl <| s_putI (dc kc_X12_laws_0 24 rfl) fl_X12_137 <| r_aload_n (dc kc_X12_laws_0 25 rfl) rfl <| s_getZ (dc kc_X12_laws_0 26 rfl) fl_X12_146 <| s_if_eq (tgt := 61) (dc kc_X12_laws_0 27 rfl) rfl (fun c51 => (?_)) (fun c51 => (r_aload_n (dc kc_X12_laws_0 28 rfl) rfl <| k_b (dc kc_X12_laws_0 29 rfl) rfl <| c_v1r (dc kc_X12_laws_0 30 rfl) cl_X12_96 rfl (Nat.le_of_ble_eq_true rfl) (Nat.zero_le _) (Nat.zero_le _) <| t_tell <| s_ireturn (dc kc_X12_laws_0 31 rfl) rfl (Nat.zero_le _) (Nat.zero_le _) ?_))
    · exfalso; omega
    · rw [if_pos (by decide)]
      exact hQ1 p hT _ ((gm.up (by simp [pRl])).up (by simp [pRl])) (by simp [up]) (by simp [up]; exact hb.2) (by simp [up]) (by simp [up]; exact e25)
  have ded : ∀ (m : MI) (p : Int), Ch pRl mi m → Dd t N m p → (-100 ≤ m 0 80 25 ∧ m 0 80 25 ≤ 100) → T0 = .inl p → Run (d+11) mt_X12_laws Q (n, mr, 0, 0) m 28 [vR (some (0, 80))] [] := fun m p gm hd e25 hT => by
    refine r_aload_n (dc kc_X12_laws_0 16 rfl) rfl <| c_v0r (dc kc_X12_laws_0 17 rfl) cl_X12_315 rfl (Nat.le_of_ble_eq_true rfl) (Nat.zero_le _) (Nat.zero_le _) ?_
    refine t_isMoreD hL hP hd (fun m2 g2 h2 => ?_)
    refine s_if_eq (tgt := 42) (dc kc_X12_laws_0 18 rfl) rfl (fun c32 => (?_)) (fun c32 => (?_))
    · exact bad m2 p (gm.tr (rl_Tq g2)) h2 (by rw [g2.at (by simp [pTq])]; exact e25) hT
    · exfalso; omega
  have back : ∀ m : MI, Run (d+11) mt_X12_laws Q (n, mr, 0, 0) m 28 [vR (some (0, 80))] [] → Run (d+11) mt_X12_laws Q (n, mr, 0, 0) m 39 [vR (some (0, 80))] [] := fun m h => by
    refine s_goto (tgt := 28) (dc kc_X12_laws_0 21 rfl) rfl <| ?_
    exact h
  -- a row is read
  have row : ∀ (k : Nat) (m : MI) (f : Int) (L : List RowT), L.length + k = 12 → Ch pRl mi m → RA t N m f 0 → m 0 80 28 = L.length → 0 ≤ m 0 80 20 → m 0 80 20 ≤ f → m 0 80 19 = 0 → (-100 ≤ m 0 80 25 ∧ m 0 80 25 ≤ 100) → (∀ (i : Nat) (q : RowT), L[i]? = some q → RwM m i q) → T0 = appR L (cmpG F (tkF t N) (nxF t N) k f) → ∀ Qr : V → MI → Nat → MR → Prop, (∀ v m', Run (d+10+1) mt_X12_laws Q (n, mr, 0, 0) m' 28 [vR (some (0, 80))] [] → Qr v m' n mr) → Tx (d+10) mt_X12_readLaw [vR (some (0, 80))] m n mr Qr := by
    intro k
    induction k with
    | zero =>
      intro m f L hk gm hA e28 e20 e20f e19 e25 hRw hT Qr hQr
      refine t_readLaw12 hL hA (by rw [e28]; omega) (fun m2 g2 h2 => ?_)
      exact hQr _ _ <| ded m2 f (gm.tr (rl_Tq g2)) (Or.inr h2) (by rw [g2.at (by simp [pTq])]; exact e25) hT
    | succ k ih =>
      intro m f L hk gm hA e28 e20 e20f e19 e25 hRw hT Qr hQr
      have hf := hA.2.2.2.2.1
      rw [cmpG] at hT
      refine t_readLawA hL hP hA e28 (by omega) (by omega) rfl e20 e20f e19 e25 (fun m2 f2 u2 c2 a g2 hA2 q28 q20 q20f q25 hlw hr0 hr4 ha hRh => ?_) (fun m2 p g2 x2 dn => ?_)
      · have hFf : F f = (f2, u2, 0, -1, [], 9, 0, [], [], c2) := by
          rw [hF]
          exact hRh.fin rfl (by omega)
        rw [hFf] at hT
        have hGT := hRh.GT (B := 0) (TkE_F hP.2) (Gs_0 (Or.inl rfl) hf.1 hf.2 (by omega)) TYs_law
        obtain ⟨l1, l2, l3⟩ := end_law hGT.1 hGT.2
        have hrow : RwM m2 L.length (9, 0, [], [], c2) := ⟨hlw, rfl, rfl, l3, hr0, fun z => by have := hr4 z; omega⟩
        have hRw2 : ∀ (i : Nat) (q : RowT), (L ++ [((9, 0, [], [], c2) : RowT)])[i]? = some q → RwM m2 i q := fun i q hq => by
          by_cases hi : i < L.length
          · rw [List.getElem?_append_left hi] at hq
            exact (hRw i q hq).mv g2 (by omega) (by omega) (by omega) (by omega)
          · have hi2 : i < (L ++ [((9, 0, [], [], c2) : RowT)]).length := (List.getElem?_eq_some_iff.mp hq).1
            rw [List.length_append, List.length_singleton] at hi2
            have hil : i = L.length := by omega
            subst hil
            rw [List.getElem?_append_right (Nat.le_refl _), Nat.sub_self] at hq
            cases hq
            exact hrow
        have gm2 : Ch pRl mi m2 := gm.tr (rl_lw g2)
        have q16 : m2 0 80 17 = 0 := hA2.2.2.1
        have hT : T0 = appR L (if tkF t N f2 = 91 then (match cmpG F (tkF t N) (nxF t N) k (nxF t N f2) with | .inl p => .inl p | .inr L' => .inr (((9, 0, [], [], c2) : RowT) :: L')) else if tkF t N f2 = 23 then .inr [((9, 0, [], [], c2) : RowT)] else .inl f2) := hT
        have hlen : ((L ++ [((9, 0, [], [], c2) : RowT)]).length : Int) = L.length + 1 := by simp
        apply hQr
        refine r_aload_n (dc kc_X12_laws_0 16 rfl) rfl <| c_v0r (dc kc_X12_laws_0 17 rfl) cl_X12_315 rfl (Nat.le_of_ble_eq_true rfl) (Nat.zero_le _) (Nat.zero_le _) ?_
        refine t_isMoreA hL hP hA2 (fun h91 m3 g3 h3 => ?_) (fun h23 => ?_) (fun n91 n23 m3 g3 h3 => ?_)
        · rw [if_pos h91] at hT
          have hT2 : T0 = appR (L ++ [((9, 0, [], [], c2) : RowT)]) (cmpG F (tkF t N) (nxF t N) k (nxF t N f2)) := by
            rw [hT]
            cases cmpG F (tkF t N) (nxF t N) k (nxF t N f2) with
            | inl p => rfl
            | inr L' => show Sum.inr (L ++ _ :: L') = Sum.inr (L ++ [_] ++ L'); simp
          obtain ⟨p1, p2, p3, p4⟩ := hA2.nx hP (by omega)
          have q19 : m2 0 80 19 = 0 := by rw [g2.at (by simp [pLw, pPr])]; exact e19
          refine s_if_eq (tgt := 42) (dc kc_X12_laws_0 18 rfl) rfl (fun c32 => (?_)) (fun c32 => (r_aload_n (dc kc_X12_laws_0 19 rfl) rfl <| c_v0 (dc kc_X12_laws_0 20 rfl) cl_X12_312 rfl (Nat.le_of_ble_eq_true rfl) (Nat.zero_le _) (Nat.zero_le _) ?_))
          · exfalso; omega
          · refine ih m3 (nxF t N f2) (L ++ [((9, 0, [], [], c2) : RowT)]) (by rw [List.length_append, List.length_singleton]; omega) (gm2.tr (rl_Tq g3)) h3 (by rw [g3.at (by simp [pTq]), q28, hlen]) (by rw [g3.at (by simp [pTq])]; omega) (by rw [g3.at (by simp [pTq])]; omega) (by rw [g3.at (by simp [pTq])]; exact q19) (by rw [g3.at (by simp [pTq])]; exact q25) (fun i q hq => ?_) hT2 _ (fun v m' h => back m' h)
            have e20 : m3 0 80 20 = m2 0 80 20 := g3.at (by simp [pTq])
            exact (hRw2 i q hq).mv (C0 := m2 0 80 20) (R := i + 1) (g3.mono (fun j k z => by simp [pTq] at z; simp [pLw, pPr]; omega)) (by omega) (by omega) (by omega) (by omega)
        · rw [if_neg (by omega), if_pos h23] at hT
          have hf2 := hA2.2.2.2.2.1
          have q16b : m2 0 80 16 = -1 := hA2.2.2.2.2.2.2.2
          refine s_if_eq (tgt := 42) (dc kc_X12_laws_0 18 rfl) rfl (fun c32 => (?_)) (fun c32 => (?_))
          · refine t_lawsEnd hL (mi := mi) (ρ := mi 0 81) (L := L ++ [((9, 0, [], [], c2) : RowT)]) (gm2.row (fun k => by simp [pRl])) q16 (by rw [q28, hlen]) (by simp; omega) ⟨by omega, by omega⟩ hRw2 gm2 (by simp) (fun m' g' x11 x16 x1 x33 x25 xL xW => ?_)
            exact hQ2 (L ++ [((9, 0, [], [], c2) : RowT)]) hT (by rw [List.length_append, List.length_singleton]; omega) m' g' x11 (by rw [x16]; exact q16b) x1 x33 (by rw [x25]; exact q25) xL xW
          · exfalso; omega
        · rw [if_neg n91, if_neg n23] at hT
          refine s_if_eq (tgt := 42) (dc kc_X12_laws_0 18 rfl) rfl (fun c32 => (?_)) (fun c32 => (?_))
          · exact bad m3 f2 (gm2.tr (rl_Tq g3)) h3 (by rw [g3.at (by simp [pTq])]; exact q25) hT
          · exfalso; omega
      · have hFf : flt (F f) = p := by
          rw [hF]
          exact dn.fin (by omega)
        have hpn : p ≠ -1 := by obtain ⟨s', _, _, z, _⟩ := dn; exact z
        rw [if_pos (by rw [hFf]; exact hpn), hFf] at hT
        exact hQr _ _ <| ded m2 p (gm.tr (rl_lw g2)) x2.1 x2.2.2.2.2.2 hT
  refine tx_intro (ls := [vR (some (0, 80))]) om_X12_laws rfl (Nat.le_of_ble_eq_true rfl) ?_
  refine r_aload_n (dc kc_X12_laws_0 0 rfl) rfl <| k_i (dc kc_X12_laws_0 1 rfl) rfl <| s_putI (dc kc_X12_laws_0 2 rfl) fl_X12_86 <| r_aload_n (dc kc_X12_laws_0 3 rfl) rfl <| c_v0 (dc kc_X12_laws_0 4 rfl) cl_X12_309 rfl (Nat.le_of_ble_eq_true rfl) (Nat.zero_le _) (Nat.zero_le _) ?_
  refine t_begin hL hP ⟨by rw [up_j (by decide)]; exact ht, by rw [up_k (by decide)]; exact hNN⟩ (fun m2 g2 h2 _ => ?_)
  refine r_aload_n (dc kc_X12_laws_0 5 rfl) rfl <| k_i (dc kc_X12_laws_0 6 rfl) rfl <| s_putI (dc kc_X12_laws_0 7 rfl) fl_X12_303 <| r_aload_n (dc kc_X12_laws_0 8 rfl) rfl <| k_i (dc kc_X12_laws_0 9 rfl) rfl <| s_putI (dc kc_X12_laws_0 10 rfl) fl_X12_191 <| r_aload_n (dc kc_X12_laws_0 11 rfl) rfl <| k_i (dc kc_X12_laws_0 12 rfl) rfl <| s_putZ (dc kc_X12_laws_0 13 rfl) fl_X12_247 (by first | exact Or.inl rfl | exact Or.inr rfl | exact bi_01 | assumption) <| r_aload_n (dc kc_X12_laws_0 14 rfl) rfl <| c_v0 (dc kc_X12_laws_0 15 rfl) cl_X12_312 rfl (Nat.le_of_ble_eq_true rfl) (Nat.zero_le _) (Nat.zero_le _) ?_
  have gA : Ch pRl mi m2 := (Ch.rf.up (by simp [pRl])).tr (rl_Tq g2)
  have gB : Ch (fun j k => j == 80 && (k == 28 || k == 20 || k == 19)) m2 (up (up (up m2 0 80 28 0) 0 80 20 0) 0 80 19 0) := ((Ch.rf.up (by simp)).up (by simp)).up (by simp)
  have hsk := skp_bd (t := t) hP.1.1
  refine row 12 _ (skp t N 0) [] rfl (gA.tr (gB.mono (fun j k z => by simp at z; simp [pRl]; omega))) (h2.mv gB (fun k => by simp) (fun k k0 k1 _ => by simp; omega)) (by simp [up]) (by simp [up]) (by simp [up]; omega) (by simp [up]) ?_ (fun i q hq => by simp at hq) ?_ _ (fun v m' h => h)
  · rw [gB.at (by simp), g2.at (by simp [pTq]), up_k (by decide)]; exact h25
  · rw [hT0]; cases T0 <;> rfl
end RL3
