/-! the reference: a line's place, whole -/
section RPM
variable {d n G : Nat} {mr : MR} {Q : V → MI → Nat → MR → Prop} {t : Int → Int} {N : Int}
theorem t_readPlaceA (hL : Lay G mr) (hP : Tpe t N) {mi : MI} {C0 f Rr : Int} {s0 : MS} {a0 : Nat} (hA : RA t N mi f 1) (hR0 : 0 ≤ Rr) (hR1 : Rr < 12) (hC : CdR mi C0 []) (hC0 : 0 ≤ C0) (hw : mi 0 80 20 ≤ f) (h25 : -100 ≤ mi 0 80 25 ∧ mi 0 80 25 ≤ 100) (ha : a0 ≤ 2) (hRh : Rh (tkF t N) (nuF t N) (nxF t N) 1 a0 s0 (f, 1, 0, -1, [702, 704], 9, 0, [], [], []))
    (hQA : ∀ m' f' u' its tg X nd (a : Nat), Ch (pLw C0 Rr) mi m' → RA t N m' f' u' → m' 0 80 25 = 0 → (0 ≤ its ∧ its ≤ 4) → m' 0 91 (10 * Rr) = its → (∀ k, k ≠ 10 * Rr → k ≠ 10 * Rr + 1 → m' 0 91 k = mi 0 91 k) → (X = if its = 1 ∨ its = 4 then 720 else 723) → (its ≤ 1 → tg = 3 * its + m' 0 91 (10 * Rr + 1) ∧ nd = [] ∧ 0 ≤ m' 0 91 (10 * Rr + 1) ∧ m' 0 91 (10 * Rr + 1) ≤ 2) → (2 ≤ its → tg = its + 4) → m' 0 80 28 = mi 0 80 28 → m' 0 80 19 = mi 0 80 19 → CdR m' C0 nd → m' 0 80 20 ≤ f' → 1 < u' → a ≤ 2000 → Rh (tkF t N) (nuF t N) (nxF t N) 1 a s0 (f', u', 0, -1, [15, X, 704], tg, 0, nd, [], []) → Q (vX 0) m' n mr)
    (hQD : ∀ m' p, Ch (pLw 0 0) mi m' → DXz t N 0 m' p → m' 0 80 28 = mi 0 80 28 → Dn (tkF t N) (nuF t N) (nxF t N) 1 6000 s0 p → Q (vX 0) m' n mr) : Tx (d+9) mt_X12_readPlace [vR (some (0, 80)), vI (10 * Rr)] mi n mr Q := by
  have hN := hP.1.2
  have hf := hA.2.2.2.2.1
  have hC20 := hC.1
  have lw0 : ∀ {m m' : MI}, Ch (pLw C0 Rr) m m' → Ch (pLw 0 0) m m' := fun h => h.mono (fun j k z => by simp [pLw, pPr] at z ⊢; omega)
  have w8 := hA.2.1.word hP hf.1 8 (by decide) (H := 267300) (by decide +kernel)
  have w9 := hA.2.1.word hP hf.1 9 (by decide) (H := 460197) (by decide +kernel)
  have w10 := hA.2.1.word hP hf.1 10 (by decide) (H := 464660) (by decide +kernel)
  have w11 := hA.2.1.word hP hf.1 11 (by decide) (H := 66667) (by decide +kernel)
  have w12 := hA.2.1.word hP hf.1 12 (by decide) (H := 11449) (by decide +kernel)
  have body : ∀ its : Int, ((0 ≤ its ∧ its ≤ 4) ∧ tkF t N f = its + 8) ∨ (its = -1 ∧ ¬ (tkF t N f = 8 ∨ tkF t N f = 9 ∨ tkF t N f = 10 ∨ tkF t N f = 11 ∨ tkF t N f = 12)) → Run (d+9) mt_X12_readPlace Q (n, mr, 0, 0) mi 71 [vR (some (0, 80)), vI (10 * Rr), vX 0] [vI its] := by
    intro its hits
    rcases hits with ⟨h04, htk⟩ | ⟨hm1, hno⟩
    · obtain ⟨p1, p2, p3, p4⟩ := hA.nx hP (by omega)
      obtain ⟨X, hX⟩ : ∃ X : Int, X = if its = 1 ∨ its = 4 then 720 else 723 := ⟨_, rfl⟩
      obtain ⟨L, hLd⟩ : ∃ L : List Int, L = if its ≤ 1 then [326 + its, 15, X] else [724, 703, 15, X] := ⟨_, rfl⟩
      have hprd : prd 1 (tkF t N f) 702 = some (1, L) := by
        rw [htk, hLd, hX]
        have : its = 0 ∨ its = 1 ∨ its = 2 ∨ its = 3 ∨ its = 4 := by omega
        rcases this with z | z | z | z | z <;> (rw [z]; rfl)
      have htg : 2 ≤ its → tgN (tkF t N f) 9 = its + 4 := fun h2 => by
        rw [htk]
        have : its = 2 ∨ its = 3 ∨ its = 4 := by omega
        rcases this with z | z | z <;> (rw [z]; rfl)
      generalize hg : tgN (tkF t N f) 9 = tg at htg
      have hrt := tkm (s := (f, 1, 0, -1, [702, 704], 9, 0, [], [], [])) (tk := tkF t N) (nu := nuF t N) (nx := nxF t N) (o := 1) (f := f) (u := 1) (b' := 0) (tg := tg) (e := 0) (r := [704]) (pp := []) (v := []) (c := []) (L := L) (by rw [mv_71 (by decide) (show prd 1 (tkn (tkF t N) f (-1)) 702 = _ from hprd) rfl, ← hg]; rfl) (by show 2 ≤ 250; omega) p2 (prd_DrL hprd rfl)
      have hnd : ¬ (59 ≤ (1 : Int) ∧ tkF t N (nxF t N f) ≠ 91 ∧ tkF t N (nxF t N f) ≠ 23) := fun z => by omega
      have hR1 := hRh.tr (hrt.2 hnd)
      refine t_i2 (dc kc_X12_readPlace_0 31 rfl) (Nat.le_of_ble_eq_true rfl) rfl <| r_aload_n (dc kc_X12_readPlace_0 32 rfl) rfl <| s_iload_n (dc kc_X12_readPlace_0 33 rfl) rfl <| k_i (dc kc_X12_readPlace_0 34 rfl) rfl <| s_icmp_eq (tgt := 82) (dc kc_X12_readPlace_0 35 rfl) rfl (fun c75 => (k_i (dc kc_X12_readPlace_0 38 rfl) rfl <| ?_)) (fun c75 => (k_i (dc kc_X12_readPlace_0 36 rfl) rfl <| s_goto (tgt := 83) (dc kc_X12_readPlace_0 37 rfl) rfl <| ?_))
      · exfalso; omega
      · refine c_v1 (dc kc_X12_readPlace_0 39 rfl) cl_X12_187 rfl (Nat.le_of_ble_eq_true rfl) (Nat.zero_le _) (Nat.zero_le _) ?_
        refine t_mustA hL hP hA (by omega) (by omega) (fun m2 g2 h2 => ?_)
        have e17 := h2.b
        unfold Tko at h2
        rw [if_neg hnd] at h2
        have h2 : RA t N m2 (nxF t N f) 2 := h2
        have q20 : m2 0 80 20 = mi 0 80 20 := g2.at (by simp [pTq])
        refine r_aload_n (dc kc_X12_readPlace_1 0 rfl) rfl <| s_getZ (dc kc_X12_readPlace_1 1 rfl) fl_X12_146 <| s_if_eq (tgt := 94) (dc kc_X12_readPlace_1 2 rfl) rfl (fun c90 => (?_)) (fun c90 => (s_return (dc kc_X12_readPlace_1 3 rfl) rfl (Nat.zero_le _) (Nat.zero_le _) ?_))
        · refine r_aload_n (dc kc_X12_readPlace_1 4 rfl) rfl <| s_getA (dc kc_X12_readPlace_1 5 rfl) fl_X12_45 (ly_80_27 hL) <| s_iload_n (dc kc_X12_readPlace_1 6 rfl) rfl <| s_iload_n (dc kc_X12_readPlace_1 7 rfl) rfl <| s_iastore (dc kc_X12_readPlace_1 8 rfl) rfl (by first | omega | (simp [up] <;> omega)) (by first | omega | (simp [up] <;> omega)) <| r_aload_n (dc kc_X12_readPlace_1 9 rfl) rfl <| k_i (dc kc_X12_readPlace_1 10 rfl) rfl <| s_putI (dc kc_X12_readPlace_1 11 rfl) fl_X12_212 <| ?_
          generalize hm3 : up (up m2 0 91 (10 * Rr) its) 0 80 25 0 = m3
          have g3 : Ch (fun j k => (j == 91 && k == 10 * Rr) || (j == 80 && k == 25)) m2 m3 := by
            rw [← hm3]; exact (Ch.rf.up (by simp)).up (by simp)
          have gA : Ch (pLw C0 Rr) mi m3 := (lw_Tq g2).tr (g3.mono (fun j k z => by simp at z; simp [pLw, pPr]; omega))
          have s0' : ∀ k, k ≠ 10 * Rr → m3 0 91 k = mi 0 91 k := fun k hk => by rw [g3.at (by simp; omega), g2.at (by simp [pTq])]
          have sk : m3 0 91 (10 * Rr) = its := by rw [← hm3, up_j (by decide), up_at]
          have s20 : m3 0 80 20 = mi 0 80 20 := by rw [g3.at (by simp)]; exact q20
          have s25 : m3 0 80 25 = 0 := by rw [← hm3, up_at]
          have s28 : m3 0 80 28 = mi 0 80 28 := by rw [g3.at (by simp), g2.at (by simp [pTq])]
          have s19 : m3 0 80 19 = mi 0 80 19 := by rw [g3.at (by simp), g2.at (by simp [pTq])]
          have sC : CdR m3 C0 [] := hC.mv s20 (by rw [g3.row (fun k => by simp), g2.row (fun k => by simp [pTq])]) (by rw [g3.row (fun k => by simp), g2.row (fun k => by simp [pTq])])
          have h3 : RA t N m3 (nxF t N f) 2 := h2.mv g3 (fun k => by simp) (fun k k0 k1 _ => by simp; omega)
          clear hm3
          refine s_iload_n (dc kc_X12_readPlace_1 12 rfl) rfl <| k_i (dc kc_X12_readPlace_1 13 rfl) rfl <| s_icmp_gt (tgt := 129) (dc kc_X12_readPlace_1 14 rfl) rfl (fun c108 => (?_)) (fun c108 => (r_aload_n (dc kc_X12_readPlace_1 15 rfl) rfl <| s_getA (dc kc_X12_readPlace_1 16 rfl) fl_X12_45 (ly_80_27 hL) <| s_iload_n (dc kc_X12_readPlace_1 17 rfl) rfl <| k_i (dc kc_X12_readPlace_1 18 rfl) rfl <| b_iadd (dc kc_X12_readPlace_1 19 rfl) (by first | omega | (simp [up] <;> omega)) (by first | omega | (simp [up] <;> omega)) <| r_aload_n (dc kc_X12_readPlace_1 20 rfl) rfl <| k_j (dc kc_X12_readPlace_1 21 rfl) kj_X12_235 rfl (a := 2) (by decide) <| c_v1r (dc kc_X12_readPlace_1 22 rfl) cl_X12_237 rfl (Nat.le_of_ble_eq_true rfl) (Nat.zero_le _) (Nat.zero_le _) ?_))
          · rw [hLd, if_neg (by omega)] at hR1
            refine t_place129 hL hP (C0 := C0) (tg := tg) (X := X) (a0 := a0 + 1) h3 s25 sC hC0 (by omega) (by omega) hR1 (fun m' f' u' nd a g' xA x25 xC xw xu xa xR => ?_) (fun m' p g' x' d' => ?_)
            · exact hQA m' f' u' its tg X nd a (gA.tr (lw_pr g')) xA x25 h04 (by rw [g'.row (fun k => by simp [pPr])]; exact sk) (fun k k0 k1 => by rw [g'.row (fun k => by simp [pPr])]; exact s0' k k0) hX (fun z => by omega) htg (by rw [g'.at (by simp [pPr])]; exact s28) (by rw [g'.at (by simp [pPr])]; exact s19) xC xw (by omega) (by omega) xR
            · exact hQD m' p ((lw0 gA).tr (lw_pr g')) x' (by rw [g'.at (by simp [pPr])]; exact s28) (d'.mono (by omega))
          · rw [hLd, if_pos (by omega)] at hR1
            refine t_numberA hL hP h3 (by omega) (fun h22 hnu m4 g4 h4 => ?_) (fun hno' m4 y g4 h4 => ?_)
            · obtain ⟨i1, i2, i3, i4⟩ := h3.nx hP (by omega)
              have hnd' : ¬ (59 ≤ (2 : Int) ∧ tkF t N (nxF t N (nxF t N f)) ≠ 91 ∧ tkF t N (nxF t N (nxF t N f)) ≠ 23) := fun z => by omega
              unfold Tko at h4
              rw [if_neg hnd'] at h4
              have hnt := (num_t (tk := tkF t N) (nu := nuF t N) (nx := nxF t N) (o := 1) (f := nxF t N f) (u := 2) (b' := 0) (y := 326 + its) (tg := tg) (e := 0) (r := [15, X, 704]) (pp := []) (v := []) (c := []) (by omega) (by omega) (by simp) i2 h22 (by unfold mst; rw [if_neg (by omega), if_neg (by omega)]; exact hnu)).2 hnd'
              rw [if_pos (show 326 + its = 326 ∨ 326 + its = 327 by omega)] at hnt
              have htv : (if 326 + its = 326 then nuF t N (nxF t N f) else if 326 + its = 327 then 3 + nuF t N (nxF t N f) else tg) = 3 * its + nuF t N (nxF t N f) := by
                by_cases z : its = 0
                · rw [if_pos (by omega)]; omega
                · rw [if_neg (by omega), if_pos (by omega)]; omega
              rw [htv] at hnt
              have r20 : m4 0 80 20 = mi 0 80 20 := by rw [g4.at (by simp [pTq])]; exact s20
              have r91 : m4 0 91 = m3 0 91 := g4.row (fun k => by simp [pTq])
              refine s_iastore (dc kc_X12_readPlace_1 23 rfl) rfl (by first | omega | (simp [up] <;> omega)) (by first | omega | (simp [up] <;> omega)) <| s_goto (tgt := 161) (dc kc_X12_readPlace_1 24 rfl) rfl <| s_return (dc kc_X12_readPlace_2 0 rfl) rfl (Nat.zero_le _) (Nat.zero_le _) ?_
              refine hQA _ _ (2 + 1) its _ X [] _ (lw_91 (gA.tr (lw_Tq g4)) (by omega)) (h4.mv ch_91 (fun k => by simp) (fun k k0 k1 _ => by simp)) (by rw [up_j (by decide), g4.at (by simp [pTq])]; exact s25) h04 (by rw [up_k (by omega), r91]; exact sk) (fun k k0 k1 => by rw [up_k (by omega), r91]; exact s0' k k0) hX (fun _ => ⟨by rw [up_at], rfl, by rw [up_at]; exact ((TkE_F hP.2 (nxF t N f) (by omega) (by omega)).1).1, by rw [up_at]; exact hnu⟩) (fun z => by omega) (by rw [up_j (by decide), g4.at (by simp [pTq])]; exact s28) (by rw [up_j (by decide), g4.at (by simp [pTq])]; exact s19) ?_ (by rw [up_j (by decide)]; omega) (by omega) ?_ (hR1.tr hnt)
              · exact sC.mv (by rw [up_j (by decide), g4.at (by simp [pTq])]) (by rw [up_j (by decide), g4.row (fun k => by simp [pTq])]) (by rw [up_j (by decide), g4.row (fun k => by simp [pTq])])
              · omega
            · have hnf := num_f (tk := tkF t N) (nu := nuF t N) (nx := nxF t N) (o := 1) (f := nxF t N f) (u := 2) (b' := 0) (y := 326 + its) (tg := tg) (e := 0) (r := [15, X, 704]) (pp := []) (v := []) (c := []) (by omega) (by omega) (by simp) (by omega) (by unfold mst; rw [if_neg (by omega), if_neg (by omega)]; exact hno')
              have r20 : m4 0 80 20 = mi 0 80 20 := by rw [g4.at (by simp [pTq])]; exact s20
              have r25 : m4 0 80 25 = 0 := by rw [g4.at (by simp [pTq])]; exact s25
              have e17 := h4.1
              have x4 : DXz t N 0 m4 (nxF t N f) := ⟨Or.inr h4, by omega, by omega, by omega, fun z => by omega, by omega⟩
              refine s_iastore (dc kc_X12_readPlace_1 23 rfl) rfl (by first | omega | (simp [up] <;> omega)) (by first | omega | (simp [up] <;> omega)) <| s_goto (tgt := 161) (dc kc_X12_readPlace_1 24 rfl) rfl <| s_return (dc kc_X12_readPlace_2 0 rfl) rfl (Nat.zero_le _) (Nat.zero_le _) ?_
              exact hQD _ _ (lw0 (lw_91 (gA.tr (lw_Tq g4)) (by omega))) x4.u91 (by rw [up_j (by decide), g4.at (by simp [pTq])]; exact s28) ((hR1.dn hnf).mono (by omega))
        · exfalso; omega
    · have hrf := rul_f (tk := tkF t N) (nu := nuF t N) (nx := nxF t N) (o := 1) (f := f) (u := 1) (b' := 0) (y := 702) (tg := 9) (e := 0) (r := [704]) (pp := []) (v := []) (c := []) (by decide) (by simp) (by omega) (by rw [prd_702, if_neg (by omega), if_neg (by omega), if_neg (by omega), if_neg (by omega), if_neg (by omega)])
      refine t_i2 (dc kc_X12_readPlace_0 31 rfl) (Nat.le_of_ble_eq_true rfl) rfl <| r_aload_n (dc kc_X12_readPlace_0 32 rfl) rfl <| s_iload_n (dc kc_X12_readPlace_0 33 rfl) rfl <| k_i (dc kc_X12_readPlace_0 34 rfl) rfl <| s_icmp_eq (tgt := 82) (dc kc_X12_readPlace_0 35 rfl) rfl (fun c75 => (k_i (dc kc_X12_readPlace_0 38 rfl) rfl <| ?_)) (fun c75 => (k_i (dc kc_X12_readPlace_0 36 rfl) rfl <| s_goto (tgt := 83) (dc kc_X12_readPlace_0 37 rfl) rfl <| ?_))
      · refine c_v1 (dc kc_X12_readPlace_0 39 rfl) cl_X12_187 rfl (Nat.le_of_ble_eq_true rfl) (Nat.zero_le _) (Nat.zero_le _) ?_
        refine t_mustF hL hA (fun m2 g2 h2 => ?_)
        have e17 := h2.1
        have q20 : m2 0 80 20 = mi 0 80 20 := g2.at (by simp [pTq])
        have q25 : m2 0 80 25 = mi 0 80 25 := g2.at (by simp [pTq])
        refine r_aload_n (dc kc_X12_readPlace_1 0 rfl) rfl <| s_getZ (dc kc_X12_readPlace_1 1 rfl) fl_X12_146 <| s_if_eq (tgt := 94) (dc kc_X12_readPlace_1 2 rfl) rfl (fun c90 => (?_)) (fun c90 => (s_return (dc kc_X12_readPlace_1 3 rfl) rfl (Nat.zero_le _) (Nat.zero_le _) ?_))
        · exfalso; omega
        · exact hQD m2 f (lw_Tq g2) ⟨Or.inr h2, by omega, by omega, by omega, fun z => by omega, by omega⟩ (g2.at (by simp [pTq])) ((hRh.dn hrf).mono (by omega))
      · exfalso; omega
  refine tx_intro (ls := [vR (some (0, 80)), vI (10 * Rr), vX 0]) om_X12_readPlace rfl (Nat.le_of_ble_eq_true rfl) ?_
  refine r_aload_n (dc kc_X12_readPlace_0 0 rfl) rfl <| k_j (dc kc_X12_readPlace_0 1 rfl) kj_X12_233 rfl (a := 267300) (by decide) <| c_v1r (dc kc_X12_readPlace_0 2 rfl) cl_X12_220 rfl (Nat.le_of_ble_eq_true rfl) (Nat.zero_le _) (Nat.zero_le _) <| t_isWord <| s_if_eqb (tgt := 14) (dc kc_X12_readPlace_0 3 rfl) rfl (fun c7 => (r_aload_n (dc kc_X12_readPlace_0 6 rfl) rfl <| k_j (dc kc_X12_readPlace_0 7 rfl) kj_X12_255 rfl (a := 460197) (by decide) <| c_v1r (dc kc_X12_readPlace_0 8 rfl) cl_X12_220 rfl (Nat.le_of_ble_eq_true rfl) (Nat.zero_le _) (Nat.zero_le _) <| t_isWord <| s_if_eqb (tgt := 28) (dc kc_X12_readPlace_0 9 rfl) rfl (fun c21 => (r_aload_n (dc kc_X12_readPlace_0 12 rfl) rfl <| k_j (dc kc_X12_readPlace_0 13 rfl) kj_X12_218 rfl (a := 464660) (by decide) <| c_v1r (dc kc_X12_readPlace_0 14 rfl) cl_X12_220 rfl (Nat.le_of_ble_eq_true rfl) (Nat.zero_le _) (Nat.zero_le _) <| t_isWord <| s_if_eqb (tgt := 42) (dc kc_X12_readPlace_0 15 rfl) rfl (fun c35 => (r_aload_n (dc kc_X12_readPlace_0 18 rfl) rfl <| k_j (dc kc_X12_readPlace_0 19 rfl) kj_X12_224 rfl (a := 66667) (by decide) <| c_v1r (dc kc_X12_readPlace_0 20 rfl) cl_X12_220 rfl (Nat.le_of_ble_eq_true rfl) (Nat.zero_le _) (Nat.zero_le _) <| t_isWord <| s_if_eqb (tgt := 56) (dc kc_X12_readPlace_0 21 rfl) rfl (fun c49 => (r_aload_n (dc kc_X12_readPlace_0 24 rfl) rfl <| k_j (dc kc_X12_readPlace_0 25 rfl) kj_X12_250 rfl (a := 11449) (by decide) <| c_v1r (dc kc_X12_readPlace_0 26 rfl) cl_X12_220 rfl (Nat.le_of_ble_eq_true rfl) (Nat.zero_le _) (Nat.zero_le _) <| t_isWord <| s_if_eqb (tgt := 70) (dc kc_X12_readPlace_0 27 rfl) rfl (fun c63 => (k_i (dc kc_X12_readPlace_0 30 rfl) rfl <| ?_)) (fun c63 => (k_i (dc kc_X12_readPlace_0 28 rfl) rfl <| s_goto (tgt := 71) (dc kc_X12_readPlace_0 29 rfl) rfl <| ?_)))) (fun c49 => (k_i (dc kc_X12_readPlace_0 22 rfl) rfl <| s_goto (tgt := 71) (dc kc_X12_readPlace_0 23 rfl) rfl <| ?_)))) (fun c35 => (k_i (dc kc_X12_readPlace_0 16 rfl) rfl <| s_goto (tgt := 71) (dc kc_X12_readPlace_0 17 rfl) rfl <| ?_)))) (fun c21 => (k_i (dc kc_X12_readPlace_0 10 rfl) rfl <| s_goto (tgt := 71) (dc kc_X12_readPlace_0 11 rfl) rfl <| ?_)))) (fun c7 => (k_i (dc kc_X12_readPlace_0 4 rfl) rfl <| s_goto (tgt := 71) (dc kc_X12_readPlace_0 5 rfl) rfl <| ?_))
  · refine body _ (Or.inr ⟨rfl, fun z => ?_⟩)
    rcases z with z | z | z | z | z
    · exact c7 (w8.mpr z)
    · exact c21 (w9.mpr z)
    · exact c35 (w10.mpr z)
    · exact c49 (w11.mpr z)
    · exact c63 (w12.mpr z)
  · exact body 4 (Or.inl ⟨by omega, w12.mp c63⟩)
  · exact body 3 (Or.inl ⟨by omega, w11.mp c49⟩)
  · exact body 2 (Or.inl ⟨by omega, w10.mp c35⟩)
  · exact body 1 (Or.inl ⟨by omega, w9.mp c21⟩)
  · exact body 0 (Or.inl ⟨by omega, w8.mp c7⟩)
end RPM
