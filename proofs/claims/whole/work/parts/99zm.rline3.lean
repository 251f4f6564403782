/-! the reference: a line read, whole -/
section RLO
variable {d n G : Nat} {mr : MR} {Q : V → MI → Nat → MR → Prop} {t : Int → Int} {N : Int}
theorem t_readLineA (hL : Lay G mr) (hP : Tpe t N) {mi : MI} {C0 f Rr : Int} (hA : RA t N mi f 0) (h28 : mi 0 80 28 = Rr) (hR0 : 0 ≤ Rr) (hR1 : Rr < 12) (h20 : mi 0 80 20 = C0) (hC0 : 0 ≤ C0) (hCf : C0 ≤ f) (h19 : mi 0 80 19 = 1) (h25 : -100 ≤ mi 0 80 25 ∧ mi 0 80 25 ≤ 100)
    (hQA : ∀ m' f' u' tg p v c (a : Nat), Ch (pLw C0 Rr) mi m' → RA t N m' f' u' → m' 0 80 28 = Rr + 1 → C0 ≤ m' 0 80 20 → m' 0 80 20 ≤ f' → (-100 ≤ m' 0 80 25 ∧ m' 0 80 25 ≤ 100) → LnM m' Rr tg p v c → m' 0 91 (10 * Rr + 2) = C0 → a ≤ 9900 → Rh (tkF t N) (nuF t N) (nxF t N) 1 a (f, 0, 0, -1, [701], 9, 0, [], [], []) (f', u', 0, -1, [], tg, 1, p, v, c) → Q (vX 0) m' n mr)
    (hQD : ∀ m' p, Ch (pLw 0 0) mi m' → DXz t N 0 m' p → Dn (tkF t N) (nuF t N) (nxF t N) 1 9900 (f, 0, 0, -1, [701], 9, 0, [], [], []) p → Q (vX 0) m' n mr) : Tx (d+11) mt_X12_readLine [vR (some (0, 80))] mi n mr Q := by
  have hN := hP.1.2
  have hf := hA.2.2.2.2.1
  have lw0 : ∀ {m m' : MI}, Ch (pLw C0 Rr) m m' → Ch (pLw 0 0) m m' := fun h => h.mono (fun j k z => by simp [pLw, pPr] at z ⊢; omega)
  have w5 := hA.2.1.word hP hf.1 5 (by decide) (H := 12468) (by decide +kernel)
  have w6 := hA.2.1.word hP hf.1 6 (by decide) (H := 16441) (by decide +kernel)
  generalize hs0 : ((f, 0, 0, -1, [701], 9, 0, [], [], []) : MS) = s0 at *
  -- behind the row's beginning
  have aft : ∀ (m3 : MI) (x f1 : Int), (x = 0 ∨ x = 1) → Ch (pLw C0 Rr) mi m3 → RA t N m3 f1 1 → m3 0 80 28 = Rr → m3 0 80 20 = C0 → m3 0 80 19 = 1 → C0 ≤ f1 → (-100 ≤ m3 0 80 25 ∧ m3 0 80 25 ≤ 100) → m3 0 91 (10 * Rr + 2) = C0 → Rh (tkF t N) (nuF t N) (nxF t N) 1 1 s0 (f1, 1, 0, -1, (if x = 0 then [702, 704] else [720, 704]), 9, 0, [], [], []) → Run (d+11) mt_X12_readLine Q (n, mr, 0, 0) m3 91 [vR (some (0, 80)), vI x, vI (10 * Rr), vI 10] [] := by
    intro m3 x f1 hx g3 hA3 e28 e20 e19 eCf e25 e2 hRh
    have e17 := hA3.2.2.1
    refine s_iload_n (dc kc_X12_readLine_1 10 rfl) rfl <| s_if_eq (tgt := 134) (dc kc_X12_readLine_1 11 rfl) rfl (fun c92 => (?_)) (fun c92 => (?_))
    · -- a place
      have hRh : Rh (tkF t N) (nuF t N) (nxF t N) 1 1 s0 (f1, 1, 0, -1, [702, 704], 9, 0, [], [], []) := by rw [if_pos (by omega)] at hRh; exact hRh
      refine r_aload_n (dc kc_X12_readLine_1 37 rfl) rfl <| s_iload_n (dc kc_X12_readLine_1 38 rfl) rfl <| c_v1 (dc kc_X12_readLine_1 39 rfl) cl_X12_327 rfl (Nat.le_of_ble_eq_true rfl) (Nat.zero_le _) (Nat.zero_le _) ?_
      refine t_readPlaceA hL hP (C0 := C0) hA3 hR0 hR1 ⟨by simp; exact e20, rfl⟩ hC0 (by omega) e25 (by omega) hRh (fun m4 f4 u4 its tg X nd a4 g4 xA x25 x04 x0 x91 hX xa1 xa2 x28 x19 xC xw xu xa xR => ?_) (fun m4 p4 g4 x4 x28 d4 => ?_)
      · have y17 := xA.2.2.1
        have y20 := xC.1
        have y28 : m4 0 80 28 = Rr := by rw [x28]; exact e28
        refine r_aload_n (dc kc_X12_readLine_2 0 rfl) rfl <| s_getZ (dc kc_X12_readLine_2 1 rfl) fl_X12_146 <| s_if_ne (tgt := 151) (dc kc_X12_readLine_2 2 rfl) rfl (fun c143 => (?_)) (fun c143 => (?_))
        · exfalso; omega
        · have gB : Ch (pLw C0 Rr) mi m4 := g3.tr g4
          refine r_aload_n (dc kc_X12_readLine_2 3 rfl) rfl <| s_iload_n (dc kc_X12_readLine_2 4 rfl) rfl <| c_v1 (dc kc_X12_readLine_2 5 rfl) cl_X12_330 rfl (Nat.le_of_ble_eq_true rfl) (Nat.zero_le _) (Nat.zero_le _) ?_
          refine t_readWhatA hL hP (C0 := C0) (K := nd) (its := its) (tg := tg) (pp := nd) hX xA (by omega) x0 hR0 hR1 xC hC0 xw (by rw [x19]; exact e19) (by omega) (fun m5 f5 u5 nv a5 g5 vA v25 v91 v3 v4 v28 vC vw vu va vR => ?_) (fun m5 p5 g5 v5 v28 d5 => ?_)
          · refine t_line151A hL hP (mi0 := mi) (C0 := C0) hR0 hR1 hC0 hQA hQD (its := its) (tg := tg) (pp := nd) (nd := nv) (a := a4 + a5) (gB.tr g5) vA (by omega) (by rw [v28]; exact y28) v25 (by rw [g5.at (by simp [pLw, pPr]), x19]; exact e19) (by omega) (by rw [v91 _ (by omega)]; exact x0) (fun z => ?_) (fun z => xa2 z) (by rw [v91 _ (by omega), x91 _ (by omega) (by omega)]; exact e2) (by rw [v3]; exact y20) (by rw [v4]; exact y20) vC vw (by omega) (xR.tr vR)
            have := xa1 z
            rw [v91 _ (by omega)]
            exact ⟨this.1, this.2.2⟩
          · exact t_line151D hL hN hR0 hR1 (fun m' g' x' => hQD m' _ g' x' ((xR.dn d5).mono (by omega))) ((lw0 gB).tr g5) v5 (by rw [v28]; exact y28)
      · have y28 : m4 0 80 28 = Rr := by rw [x28]; exact e28
        refine r_aload_n (dc kc_X12_readLine_2 0 rfl) rfl <| s_getZ (dc kc_X12_readLine_2 1 rfl) fl_X12_146 <| s_if_ne (tgt := 151) (dc kc_X12_readLine_2 2 rfl) rfl (fun c143 => (?_)) (fun c143 => (?_))
        · exact t_line151D hL hN hR0 hR1 (fun m' g' x' => hQD m' _ g' x' (d4.mono (by omega))) ((lw0 g3).tr g4) x4 y28
        · refine r_aload_n (dc kc_X12_readLine_2 3 rfl) rfl <| s_iload_n (dc kc_X12_readLine_2 4 rfl) rfl <| c_v1 (dc kc_X12_readLine_2 5 rfl) cl_X12_330 rfl (Nat.le_of_ble_eq_true rfl) (Nat.zero_le _) (Nat.zero_le _) ?_
          refine t_readWhatD hL hR0 hR1 x4.1 (fun m5 g5 v20 v25 v28 v5 => ?_)
          have v17 := v5.1
          exact t_line151D hL hN hR0 hR1 (fun m' g' x' => hQD m' _ g' x' (d4.mono (by omega))) (((lw0 g3).tr g4).tr (g5.mono (fun j k z => by simp [pLw, pPr] at z ⊢; omega))) ⟨Or.inr v5, by rw [v20]; exact x4.2.1, by omega, by rw [v20]; exact x4.2.2.2.1, fun z => by omega, by rw [v25]; exact x4.2.2.2.2.2⟩ (by rw [v28]; exact y28)
    · -- a payment
      have hRh : Rh (tkF t N) (nuF t N) (nxF t N) 1 1 s0 (f1, 1, 0, -1, [720, 704], 9, 0, [], [], []) := by rw [if_neg (by omega)] at hRh; exact hRh
      refine r_aload_n (dc kc_X12_readLine_1 12 rfl) rfl <| s_getA (dc kc_X12_readLine_1 13 rfl) fl_X12_45 (ly_80_27 hL) <| s_iload_n (dc kc_X12_readLine_1 14 rfl) rfl <| k_i (dc kc_X12_readLine_1 15 rfl) rfl <| s_iastore (dc kc_X12_readLine_1 16 rfl) rfl (by first | omega | (simp [up] <;> omega)) (by first | omega | (simp [up] <;> omega)) <| r_aload_n (dc kc_X12_readLine_1 17 rfl) rfl <| s_getA (dc kc_X12_readLine_1 18 rfl) fl_X12_45 (ly_80_27 hL) <| s_iload_n (dc kc_X12_readLine_1 19 rfl) rfl <| k_i (dc kc_X12_readLine_1 20 rfl) rfl <| b_iadd (dc kc_X12_readLine_1 21 rfl) (by first | omega | (simp [up] <;> omega)) (by first | omega | (simp [up] <;> omega)) <| r_aload_n (dc kc_X12_readLine_1 22 rfl) rfl <| s_getI (dc kc_X12_readLine_1 23 rfl) fl_X12_191 <| s_iastore (dc kc_X12_readLine_1 24 rfl) rfl (by first | omega | (simp [up] <;> omega)) (by first | omega | (simp [up] <;> omega)) <| r_aload_n (dc kc_X12_readLine_1 25 rfl) rfl <| s_getA (dc kc_X12_readLine_1 26 rfl) fl_X12_45 (ly_80_27 hL) <| s_iload_n (dc kc_X12_readLine_1 27 rfl) rfl <| k_i (dc kc_X12_readLine_1 28 rfl) rfl <| b_iadd (dc kc_X12_readLine_1 29 rfl) (by first | omega | (simp [up] <;> omega)) (by first | omega | (simp [up] <;> omega)) <| r_aload_n (dc kc_X12_readLine_1 30 rfl) rfl <| s_getI (dc kc_X12_readLine_1 31 rfl) fl_X12_191 <| s_iastore (dc kc_X12_readLine_1 32 rfl) rfl (by first | omega | (simp [up] <;> omega)) (by first | omega | (simp [up] <;> omega)) <| ?_
      generalize hm4 : up (up (up m3 0 91 (10 * Rr) 5) 0 91 (10 * Rr + 3) _) 0 91 (10 * Rr + 4) _ = m4
      have g4 : Ch (fun j k => j == 91 && (k == 10 * Rr || k == 10 * Rr + 3 || k == 10 * Rr + 4)) m3 m4 := by
        rw [← hm4]; exact ((Ch.rf.up (by simp)).up (by simp)).up (by simp)
      have q0 : m4 0 91 (10 * Rr) = 5 := by rw [← hm4, up_k (by omega), up_k (by omega), up_at]
      have q2 : m4 0 91 (10 * Rr + 2) = C0 := by rw [g4.at (by simp; omega)]; exact e2
      have q3 : m4 0 91 (10 * Rr + 3) = C0 := by rw [← hm4, up_k (by omega), up_at, up_j (by decide)]; exact e20
      have q4 : m4 0 91 (10 * Rr + 4) = C0 := by rw [← hm4, up_at, up_j (by decide), up_j (by decide)]; exact e20
      have q20 : m4 0 80 20 = C0 := by rw [g4.at (by simp)]; exact e20
      have q28 : m4 0 80 28 = Rr := by rw [g4.at (by simp)]; exact e28
      have q19 : m4 0 80 19 = 1 := by rw [g4.at (by simp)]; exact e19
      have gB : Ch (pLw C0 Rr) mi m4 := g3.tr (g4.mono (fun j k z => by simp at z; simp [pLw]; omega))
      have hA4 : RA t N m4 f1 1 := hA3.mv g4 (fun k => by simp) (fun k k0 k1 _ => by simp)
      clear hm4
      refine r_aload_n (dc kc_X12_readLine_1 33 rfl) rfl <| k_i (dc kc_X12_readLine_1 34 rfl) rfl <| c_v1 (dc kc_X12_readLine_1 35 rfl) cl_X12_306 rfl (Nat.le_of_ble_eq_true rfl) (Nat.zero_le _) (Nat.zero_le _) ?_
      refine t_readExprA hL hP (o := 1) (C0 := C0) (K := []) (ts := false) (R := [704]) (tg := 9) (e := 0) (pp := []) (v := []) (c := []) hA4 (by omega) ⟨by simp; exact q20, rfl⟩ hC0 (by omega) (by simp) q19 (Or.inr rfl) rfl (fun m5 f5 u5 nd a5 g5 xA x24 xC xw xu xa xR => ?_) (fun m5 p5 g5 x5 d5 => ?_)
      · have hu5 := xA.2.2.2.2.2.1
        have v91 : m5 0 91 = m4 0 91 := g5.row (fun k => by simp [pPr])
        refine s_goto (tgt := 151) (dc kc_X12_readLine_1 36 rfl) rfl <| ?_
        exact t_line151A hL hP (mi0 := mi) (C0 := C0) hR0 hR1 hC0 hQA hQD (its := 5) (tg := 9) (pp := []) (nd := nd) (a := 1 + a5) (gB.tr (lw_pr g5)) xA (by omega) (by rw [g5.at (by simp [pPr])]; exact q28) (by omega) (by rw [g5.at (by simp [pPr])]; exact q19) (by omega) (by rw [v91]; exact q0) (fun z => by omega) (fun _ => rfl) (by rw [v91]; exact q2) (by rw [v91]; simp; exact q3) (by rw [v91]; simp; exact q4) xC xw (by omega) (hRh.tr xR)
      · refine s_goto (tgt := 151) (dc kc_X12_readLine_1 36 rfl) rfl <| ?_
        exact t_line151D hL hN hR0 hR1 (fun m' g' x' => hQD m' _ g' x' ((hRh.dn d5).mono (by omega))) ((lw0 gB).tr (lw_pr g5)) x5.z0 (by rw [g5.at (by simp [pPr])]; exact q28)
  -- the word
  have ok : ∀ x : Int, (x = 0 ∧ tkF t N f = 5) ∨ (x = 1 ∧ tkF t N f = 6) → Run (d+11) mt_X12_readLine Q (n, mr, 0, 0) mi 37 [vR (some (0, 80)), vI x, vX 0, vX 0] [vI 1, vR (some (0, 80))] := by
    intro x hx
    have hx01 : x = 0 ∨ x = 1 := by omega
    have hne : tkF t N f ≠ 91 ∧ tkF t N f ≠ 23 := by omega
    obtain ⟨p1, p2, p3, p4⟩ := hA.nx hP hne.2
    have hprd : prd 1 (tkF t N f) 701 = some (1, (if x = 0 then [702, 704] else [720, 704])) := by
      rcases hx with ⟨z1, z2⟩ | ⟨z1, z2⟩ <;> (rw [z1, z2]; rfl)
    have hrt := tkm (s := s0) (tk := tkF t N) (nu := nuF t N) (nx := nxF t N) (o := 1) (f := f) (u := 0) (b' := 0) (tg := 9) (e := 0) (r := []) (pp := []) (v := []) (c := []) (L := (if x = 0 then [702, 704] else [720, 704])) (by rw [← hs0, mv_71 (by decide) (show prd 1 (tkn (tkF t N) f (-1)) 701 = _ from hprd) rfl]; rfl) (by rw [← hs0]; show 1 ≤ 250; omega) p2 (prd_DrL hprd rfl)
    rw [List.append_nil] at hrt
    have hdm : ¬ (59 ≤ (0 : Int) ∧ tkF t N (nxF t N f) ≠ 91 ∧ tkF t N (nxF t N f) ≠ 23) := fun z => by omega
    refine c_v1 (dc kc_X12_readLine_0 18 rfl) cl_X12_187 rfl (Nat.le_of_ble_eq_true rfl) (Nat.zero_le _) (Nat.zero_le _) ?_
    refine t_mustA hL hP hA hne.1 hne.2 (fun m2 g2 h2 => ?_)
    have e17 := h2.b
    unfold Tko at h2
    rw [if_neg hdm] at h2
    refine r_aload_n (dc kc_X12_readLine_0 19 rfl) rfl <| s_getZ (dc kc_X12_readLine_0 20 rfl) fl_X12_146 <| s_if_eq (tgt := 48) (dc kc_X12_readLine_0 21 rfl) rfl (fun c44 => (?_)) (fun c44 => (s_return (dc kc_X12_readLine_0 22 rfl) rfl (Nat.zero_le _) (Nat.zero_le _) ?_))
    · have q28 : m2 0 80 28 = Rr := by rw [g2.at (by simp [pTq])]; exact h28
      have q20 : m2 0 80 20 = C0 := by rw [g2.at (by simp [pTq])]; exact h20
      have q19 : m2 0 80 19 = 1 := by rw [g2.at (by simp [pTq])]; exact h19
      have q25 : m2 0 80 25 = mi 0 80 25 := g2.at (by simp [pTq])
      refine k_b (dc kc_X12_readLine_0 23 rfl) rfl <| r_aload_n (dc kc_X12_readLine_0 24 rfl) rfl <| s_getI (dc kc_X12_readLine_0 25 rfl) fl_X12_303 <| b_imul (dc kc_X12_readLine_0 26 rfl) (by first | omega | (simp [up] <;> omega)) (by first | omega | (simp [up] <;> omega)) <| t_i2 (dc kc_X12_readLine_0 27 rfl) (Nat.le_of_ble_eq_true rfl) rfl <| k_i (dc kc_X12_readLine_0 28 rfl) rfl <| t_i3 (dc kc_X12_readLine_0 29 rfl) (Nat.le_of_ble_eq_true rfl) rfl <| ?_
      rw [q28]
      refine t_lineClr (m0 := m2) hL hR0 hR1 (fun m3 g3 => ?_) 0 (by omega) m2 Ch.rf
      refine r_aload_n (dc kc_X12_readLine_1 2 rfl) rfl <| s_getA (dc kc_X12_readLine_1 3 rfl) fl_X12_45 (ly_80_27 hL) <| s_iload_n (dc kc_X12_readLine_1 4 rfl) rfl <| k_i (dc kc_X12_readLine_1 5 rfl) rfl <| b_iadd (dc kc_X12_readLine_1 6 rfl) (by first | omega | (simp [up] <;> omega)) (by first | omega | (simp [up] <;> omega)) <| r_aload_n (dc kc_X12_readLine_1 7 rfl) rfl <| s_getI (dc kc_X12_readLine_1 8 rfl) fl_X12_191 <| s_iastore (dc kc_X12_readLine_1 9 rfl) rfl (by first | omega | (simp [up] <;> omega)) (by first | omega | (simp [up] <;> omega)) <| ?_
      have e20 : m3 0 80 20 = C0 := by rw [g3.at (by simp)]; exact q20
      rw [e20]
      have g4 : Ch (fun j z => j == 91 && decide (10 * Rr ≤ z)) m2 (up m3 0 91 (10 * Rr + 2) C0) := g3.up (by simp; omega)
      have r2 : up m3 0 91 (10 * Rr + 2) C0 0 91 (10 * Rr + 2) = C0 := up_at
      generalize up m3 0 91 (10 * Rr + 2) C0 = m4 at *
      exact aft m4 x _ hx01 ((lw_Tq g2).tr (g4.mono (fun j k z => by simp at z; simp [pLw]; omega))) (h2.mv g4 (fun k => by simp) (fun k k0 k1 _ => by simp)) (by rw [g4.at (by simp)]; exact q28) (by rw [g4.at (by simp)]; exact q20) (by rw [g4.at (by simp)]; exact q19) (by omega) (by rw [g4.at (by simp)]; omega) r2 (hrt.2 hdm)
    · exfalso; omega
  have no : ∀ x : Int, tkF t N f ≠ 5 → tkF t N f ≠ 6 → Run (d+11) mt_X12_readLine Q (n, mr, 0, 0) mi 37 [vR (some (0, 80)), vI x, vX 0, vX 0] [vI 0, vR (some (0, 80))] := by
    intro x h5 h6
    have hrf := rul_f (tk := tkF t N) (nu := nuF t N) (nx := nxF t N) (o := 1) (f := f) (u := 0) (b' := 0) (y := 701) (tg := 9) (e := 0) (r := []) (pp := []) (v := []) (c := []) (by decide) (by simp) (by omega) (by rw [prd_701, if_neg h5, if_neg h6])
    rw [hs0] at hrf
    refine c_v1 (dc kc_X12_readLine_0 18 rfl) cl_X12_187 rfl (Nat.le_of_ble_eq_true rfl) (Nat.zero_le _) (Nat.zero_le _) ?_
    refine t_mustF hL hA (fun m2 g2 h2 => ?_)
    have e17 := h2.1
    refine r_aload_n (dc kc_X12_readLine_0 19 rfl) rfl <| s_getZ (dc kc_X12_readLine_0 20 rfl) fl_X12_146 <| s_if_eq (tgt := 48) (dc kc_X12_readLine_0 21 rfl) rfl (fun c44 => (?_)) (fun c44 => (s_return (dc kc_X12_readLine_0 22 rfl) rfl (Nat.zero_le _) (Nat.zero_le _) ?_))
    · exfalso; omega
    · exact hQD m2 f (lw_Tq g2) ⟨Or.inr h2, by rw [g2.at (by simp [pTq])]; omega, by omega, by rw [g2.at (by simp [pTq])]; omega, fun z => by omega, by rw [g2.at (by simp [pTq])]; exact h25⟩ (hrf.mono (by omega))
  refine tx_intro (ls := [vR (some (0, 80)), vX 0, vX 0, vX 0]) om_X12_readLine rfl (Nat.le_of_ble_eq_true rfl) ?_
  by_cases h6 : tkF t N f = 6
  · have hb : bi (mi 0 80 14 = 1 ∧ mi 0 80 15 = 16441) = 1 := bi_t (w6.mpr h6)
    refine r_aload_n (dc kc_X12_readLine_0 0 rfl) rfl <| k_j (dc kc_X12_readLine_0 1 rfl) kj_X12_323 rfl (a := 16441) (by decide) <| c_v1r (dc kc_X12_readLine_0 2 rfl) cl_X12_220 rfl (Nat.le_of_ble_eq_true rfl) (Nat.zero_le _) (Nat.zero_le _) <| t_isWord <| t_i1 (dc kc_X12_readLine_0 3 rfl) (Nat.le_of_ble_eq_true rfl) rfl <| r_aload_n (dc kc_X12_readLine_0 4 rfl) rfl <| s_iload_n (dc kc_X12_readLine_0 5 rfl) rfl <| s_if_ne (tgt := 23) (dc kc_X12_readLine_0 6 rfl) rfl (fun c10 => (r_aload_n (dc kc_X12_readLine_0 11 rfl) rfl <| s_getI (dc kc_X12_readLine_0 12 rfl) fl_X12_303 <| k_b (dc kc_X12_readLine_0 13 rfl) rfl <| s_icmp_ge (tgt := 36) (dc kc_X12_readLine_0 14 rfl) rfl (fun c29 => (k_i (dc kc_X12_readLine_0 17 rfl) rfl <| ?_)) (fun c29 => (k_i (dc kc_X12_readLine_0 15 rfl) rfl <| s_goto (tgt := 37) (dc kc_X12_readLine_0 16 rfl) rfl <| ?_)))) (fun c10 => (r_aload_n (dc kc_X12_readLine_0 7 rfl) rfl <| k_j (dc kc_X12_readLine_0 8 rfl) kj_X12_325 rfl (a := 12468) (by decide) <| c_v1r (dc kc_X12_readLine_0 9 rfl) cl_X12_220 rfl (Nat.le_of_ble_eq_true rfl) (Nat.zero_le _) (Nat.zero_le _) <| t_isWord <| s_if_eqb (tgt := 36) (dc kc_X12_readLine_0 10 rfl) rfl (fun c20 => (k_i (dc kc_X12_readLine_0 17 rfl) rfl <| ?_)) (fun c20 => (r_aload_n (dc kc_X12_readLine_0 11 rfl) rfl <| s_getI (dc kc_X12_readLine_0 12 rfl) fl_X12_303 <| k_b (dc kc_X12_readLine_0 13 rfl) rfl <| s_icmp_ge (tgt := 36) (dc kc_X12_readLine_0 14 rfl) rfl (fun c29 => (k_i (dc kc_X12_readLine_0 17 rfl) rfl <| ?_)) (fun c29 => (k_i (dc kc_X12_readLine_0 15 rfl) rfl <| s_goto (tgt := 37) (dc kc_X12_readLine_0 16 rfl) rfl <| ?_))))))
    all_goals rw [hb] at *
    all_goals first | exact ok 1 (Or.inr ⟨rfl, h6⟩) | (exfalso; omega)
  · have hb : bi (mi 0 80 14 = 1 ∧ mi 0 80 15 = 16441) = 0 := bi_f (fun z => h6 (w6.mp z))
    refine r_aload_n (dc kc_X12_readLine_0 0 rfl) rfl <| k_j (dc kc_X12_readLine_0 1 rfl) kj_X12_323 rfl (a := 16441) (by decide) <| c_v1r (dc kc_X12_readLine_0 2 rfl) cl_X12_220 rfl (Nat.le_of_ble_eq_true rfl) (Nat.zero_le _) (Nat.zero_le _) <| t_isWord <| t_i1 (dc kc_X12_readLine_0 3 rfl) (Nat.le_of_ble_eq_true rfl) rfl <| r_aload_n (dc kc_X12_readLine_0 4 rfl) rfl <| s_iload_n (dc kc_X12_readLine_0 5 rfl) rfl <| s_if_ne (tgt := 23) (dc kc_X12_readLine_0 6 rfl) rfl (fun c10 => (r_aload_n (dc kc_X12_readLine_0 11 rfl) rfl <| s_getI (dc kc_X12_readLine_0 12 rfl) fl_X12_303 <| k_b (dc kc_X12_readLine_0 13 rfl) rfl <| s_icmp_ge (tgt := 36) (dc kc_X12_readLine_0 14 rfl) rfl (fun c29 => (k_i (dc kc_X12_readLine_0 17 rfl) rfl <| ?_)) (fun c29 => (k_i (dc kc_X12_readLine_0 15 rfl) rfl <| s_goto (tgt := 37) (dc kc_X12_readLine_0 16 rfl) rfl <| ?_)))) (fun c10 => (r_aload_n (dc kc_X12_readLine_0 7 rfl) rfl <| k_j (dc kc_X12_readLine_0 8 rfl) kj_X12_325 rfl (a := 12468) (by decide) <| c_v1r (dc kc_X12_readLine_0 9 rfl) cl_X12_220 rfl (Nat.le_of_ble_eq_true rfl) (Nat.zero_le _) (Nat.zero_le _) <| t_isWord <| s_if_eqb (tgt := 36) (dc kc_X12_readLine_0 10 rfl) rfl (fun c20 => (k_i (dc kc_X12_readLine_0 17 rfl) rfl <| ?_)) (fun c20 => (r_aload_n (dc kc_X12_readLine_0 11 rfl) rfl <| s_getI (dc kc_X12_readLine_0 12 rfl) fl_X12_303 <| k_b (dc kc_X12_readLine_0 13 rfl) rfl <| s_icmp_ge (tgt := 36) (dc kc_X12_readLine_0 14 rfl) rfl (fun c29 => (k_i (dc kc_X12_readLine_0 17 rfl) rfl <| ?_)) (fun c29 => (k_i (dc kc_X12_readLine_0 15 rfl) rfl <| s_goto (tgt := 37) (dc kc_X12_readLine_0 16 rfl) rfl <| ?_))))))
    all_goals rw [hb] at *
    all_goals first | (exfalso; omega) | skip
    all_goals first | exact ok 0 (Or.inl ⟨rfl, w5.mp c20⟩) | exact no 0 (fun z => c20 (w5.mpr z)) h6
end RLO
