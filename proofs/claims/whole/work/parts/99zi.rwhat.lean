/-! the reference: what a line sets -/
section RWH
variable {d n G : Nat} {mr : MR} {Q : V → MI → Nat → MR → Prop} {t : Int → Int} {N : Int}
theorem t_readWhatA (hL : Lay G mr) (hP : Tpe t N) {mi : MI} {C0 f u Rr its tg X : Int} {K pp : List CT} (hX : X = if its = 1 ∨ its = 4 then 720 else 723) (hA : RA t N mi f u) (hu1 : 1 ≤ u) (hits : mi 0 91 (10 * Rr) = its) (hR0 : 0 ≤ Rr) (hR1 : Rr < 12) (hC : CdR mi C0 K) (hC0 : 0 ≤ C0) (hw : mi 0 80 20 ≤ f) (h19 : mi 0 80 19 = 1) (h25 : -100 ≤ mi 0 80 25 ∧ mi 0 80 25 ≤ 100)
    (hQA : ∀ m' f' u' nd (a : Nat), Ch (pLw C0 Rr) mi m' → RA t N m' f' u' → (-100 ≤ m' 0 80 25 ∧ m' 0 80 25 ≤ 100) → (∀ k, k ≤ 10 * Rr + 2 → m' 0 91 k = mi 0 91 k) → m' 0 91 (10 * Rr + 3) = mi 0 80 20 → m' 0 91 (10 * Rr + 4) = mi 0 80 20 → m' 0 80 28 = mi 0 80 28 → CdR m' C0 (K ++ nd) → m' 0 80 20 ≤ f' → u < u' → a ≤ 3100 → Rh (tkF t N) (nuF t N) (nxF t N) 1 a (f, u, 0, -1, [15, X, 704], tg, 0, pp, [], []) (f', u', 0, -1, [704], tg, 0, pp, [], nd) → Q (vX 0) m' n mr)
    (hQD : ∀ m' p, Ch (pLw 0 0) mi m' → DXz t N 0 m' p → m' 0 80 28 = mi 0 80 28 → Dn (tkF t N) (nuF t N) (nxF t N) 1 5000 (f, u, 0, -1, [15, X, 704], tg, 0, pp, [], []) p → Q (vX 0) m' n mr) : Tx (d+10) mt_X12_readWhat [vR (some (0, 80)), vI (10 * Rr)] mi n mr Q := by
  have hN := hP.1.2
  have hf := hA.2.2.2.2.1
  have hu := hA.2.2.2.2.2.1
  have hC20 := hC.1
  have g1 : Ch (fun j k => j == 91 && k == 10 * Rr + 3) mi (up mi 0 91 (10 * Rr + 3) (mi 0 80 20)) := Ch.rf.up (by simp)
  have r3 : up mi 0 91 (10 * Rr + 3) (mi 0 80 20) 0 91 (10 * Rr + 3) = mi 0 80 20 := up_at
  have go : ∀ m1 : MI, Ch (fun j k => j == 91 && k == 10 * Rr + 3) mi m1 → m1 0 91 (10 * Rr + 3) = mi 0 80 20 → Run (d+10) mt_X12_readWhat Q (n, mr, 0, 0) m1 20 [vR (some (0, 80)), vI (10 * Rr)] [vI (bi (m1 0 80 14 = 1 ∧ m1 0 80 15 = 69)), vR (some (0, 80))] := by
    intro m1 g1 r3
    have hA1 : RA t N m1 f u := hA.mv g1 (fun k => by simp) (fun k k0 k1 _ => by simp)
    have w15 := hA1.2.1.word hP hf.1 15 (by decide) (H := 69) (by decide +kernel)
    have e20 : m1 0 80 20 = mi 0 80 20 := g1.at (by simp)
    have e25 : m1 0 80 25 = mi 0 80 25 := g1.at (by simp)
    by_cases h15 : tkF t N f = 15
    · rw [bi_t (w15.mpr h15)]
      obtain ⟨p1, p2, p3, p4⟩ := hA1.nx hP (by omega)
      have hdt := due_t (tk := tkF t N) (nu := nuF t N) (nx := nxF t N) (o := 1) (f := f) (u := u) (b' := 0) (y := 15) (tg := tg) (e := 0) (r := [X, 704]) (pp := pp) (v := []) (c := []) (by decide) (by simp) p2 h15 (by omega)
      rw [if_neg (by decide), if_neg (by decide)] at hdt
      refine c_v1 (dc kc_X12_readWhat_0 12 rfl) cl_X12_187 rfl (Nat.le_of_ble_eq_true rfl) (Nat.zero_le _) (Nat.zero_le _) ?_
      refine t_mustA hL hP hA1 (by omega) (by omega) (fun m2 g2 h2 => ?_)
      have e17 := h2.b
      refine r_aload_n (dc kc_X12_readWhat_0 13 rfl) rfl <| s_getZ (dc kc_X12_readWhat_0 14 rfl) fl_X12_146 <| s_if_eq (tgt := 31) (dc kc_X12_readWhat_0 15 rfl) rfl (fun c27 => (?_)) (fun c27 => (s_return (dc kc_X12_readWhat_0 16 rfl) rfl (Nat.zero_le _) (Nat.zero_le _) ?_))
      · have q20 : m2 0 80 20 = mi 0 80 20 := by rw [g2.at (by simp [pTq])]; exact e20
        refine r_aload_n (dc kc_X12_readWhat_0 17 rfl) rfl <| s_getA (dc kc_X12_readWhat_0 18 rfl) fl_X12_45 (ly_80_27 hL) <| s_iload_n (dc kc_X12_readWhat_0 19 rfl) rfl <| k_i (dc kc_X12_readWhat_0 20 rfl) rfl <| b_iadd (dc kc_X12_readWhat_0 21 rfl) (by first | omega | (simp [up] <;> omega)) (by first | omega | (simp [up] <;> omega)) <| r_aload_n (dc kc_X12_readWhat_0 22 rfl) rfl <| s_getI (dc kc_X12_readWhat_0 23 rfl) fl_X12_191 <| s_iastore (dc kc_X12_readWhat_0 24 rfl) rfl (by first | omega | (simp [up] <;> omega)) (by first | omega | (simp [up] <;> omega)) <| r_aload_n (dc kc_X12_readWhat_0 25 rfl) rfl <| k_i (dc kc_X12_readWhat_0 26 rfl) rfl <| s_putI (dc kc_X12_readWhat_0 27 rfl) fl_X12_212 <| ?_
        generalize hm3 : up (up m2 0 91 (10 * Rr + 4) (m2 0 80 20)) 0 80 25 0 = m3
        have g3 : Ch (fun j k => (j == 91 && k == 10 * Rr + 4) || (j == 80 && k == 25)) m2 m3 := by
          rw [← hm3]; exact (Ch.rf.up (by simp)).up (by simp)
        have gA : Ch (pLw C0 Rr) mi m3 := ((g1.mono (fun j k z => by simp at z; simp [pLw]; omega)).tr (lw_Tq g2)).tr (g3.mono (fun j k z => by simp at z; simp [pLw, pPr]; omega))
        have lw0 : ∀ {m m' : MI}, Ch (pLw C0 Rr) m m' → Ch (pLw 0 0) m m' := fun h => h.mono (fun j k z => by simp [pLw, pPr] at z ⊢; omega)
        have s91 : m2 0 91 = m1 0 91 := g2.row (fun k => by simp [pTq])
        have s0 : ∀ k, k ≤ 10 * Rr + 2 → m3 0 91 k = mi 0 91 k := fun k hk => by rw [g3.at (by simp; omega), s91, g1.at (by simp; omega)]
        have s3 : m3 0 91 (10 * Rr + 3) = mi 0 80 20 := by rw [g3.at (by simp), s91]; exact r3
        have s4 : m3 0 91 (10 * Rr + 4) = mi 0 80 20 := by rw [← hm3, up_j (by decide), up_at]; exact q20
        have s20 : m3 0 80 20 = mi 0 80 20 := by rw [g3.at (by simp)]; exact q20
        have s25 : m3 0 80 25 = 0 := by rw [← hm3, up_at]
        have s28 : m3 0 80 28 = mi 0 80 28 := by rw [g3.at (by simp), g2.at (by simp [pTq]), g1.at (by simp)]
        have s19 : m3 0 80 19 = 1 := by rw [g3.at (by simp), g2.at (by simp [pTq]), g1.at (by simp)]; exact h19
        have sk : m3 0 91 (10 * Rr) = its := by rw [s0 _ (by omega)]; exact hits
        have sC : CdR m3 C0 K := hC.mv s20 (by rw [g3.row (fun k => by simp), g2.row (fun k => by simp [pTq]), g1.row (fun k => by simp)]) (by rw [g3.row (fun k => by simp), g2.row (fun k => by simp [pTq]), g1.row (fun k => by simp)])
        have h3 : Tko t N m3 f u := h2.mv g3 (fun k => by simp) (fun k k0 k1 => by simp; omega)
        clear hm3
        have b91 : ∀ {m4 : MI} {Z : Int}, Ch (pPr Z) m3 m4 → m4 0 91 = m3 0 91 ∧ m4 0 80 28 = m3 0 80 28 := fun g => ⟨g.row (fun k => by simp [pPr]), g.at (by simp [pPr])⟩
        by_cases hdm : 59 ≤ u ∧ tkF t N (nxF t N f) ≠ 91 ∧ tkF t N (nxF t N f) ≠ 23
        · have hdn := (hdt.1 hdm).mono (b := 5000) (by omega)
          unfold Tko at h3
          rw [if_pos hdm] at h3
          have x3 : DXz t N 0 m3 (nxF t N f) := ⟨Or.inl h3, by omega, by omega, by omega, fun _ => by omega, by omega⟩
          refine r_aload_n (dc kc_X12_readWhat_0 28 rfl) rfl <| s_getA (dc kc_X12_readWhat_0 29 rfl) fl_X12_45 (ly_80_27 hL) <| s_iload_n (dc kc_X12_readWhat_0 30 rfl) rfl <| s_iaload (dc kc_X12_readWhat_0 31 rfl) rfl (by first | omega | (simp [up] <;> omega)) (by first | omega | (simp [up] <;> omega)) <| k_i (dc kc_X12_readWhat_0 32 rfl) rfl <| s_icmp_eq (tgt := 68) (dc kc_X12_readWhat_0 33 rfl) rfl (fun c55 => (?_)) (fun c55 => (r_aload_n (dc kc_X12_readWhat_0 34 rfl) rfl <| s_getA (dc kc_X12_readWhat_0 35 rfl) fl_X12_45 (ly_80_27 hL) <| s_iload_n (dc kc_X12_readWhat_0 36 rfl) rfl <| s_iaload (dc kc_X12_readWhat_0 37 rfl) rfl (by first | omega | (simp [up] <;> omega)) (by first | omega | (simp [up] <;> omega)) <| k_i (dc kc_X12_readWhat_0 38 rfl) rfl <| s_icmp_ne (tgt := 76) (dc kc_X12_readWhat_0 39 rfl) rfl (fun c65 => (?_)) (fun c65 => (?_))))
          all_goals first
            | (refine r_aload_n (dc kc_X12_readWhat_1 0 rfl) rfl <| k_i (dc kc_X12_readWhat_1 1 rfl) rfl <| c_v1 (dc kc_X12_readWhat_1 2 rfl) cl_X12_306 rfl (Nat.le_of_ble_eq_true rfl) (Nat.zero_le _) (Nat.zero_le _) ?_
               refine t_readExprD hL hN (Or.inl rfl) x3 (fun m4 g4 x4 => ?_)
               refine s_goto (tgt := 80) (dc kc_X12_readWhat_1 3 rfl) rfl <| s_return (dc kc_X12_readWhat_1 6 rfl) rfl (Nat.zero_le _) (Nat.zero_le _) ?_
               exact hQD m4 _ ((lw0 gA).tr (lw_pr g4)) x4.z0 (by rw [(b91 g4).2]; exact s28) hdn)
            | (refine r_aload_n (dc kc_X12_readWhat_1 4 rfl) rfl <| c_v0 (dc kc_X12_readWhat_1 5 rfl) cl_X12_252 rfl (Nat.le_of_ble_eq_true rfl) (Nat.zero_le _) (Nat.zero_le _) ?_
               refine t_readNodeD hL (C0 := 0) x3 (fun m4 g4 x4 _ => ?_)
               refine s_return (dc kc_X12_readWhat_1 6 rfl) rfl (Nat.zero_le _) (Nat.zero_le _) ?_
               exact hQD m4 _ ((lw0 gA).tr (lw_pr g4)) x4 (by rw [(b91 g4).2]; exact s28) hdn)
        · unfold Tko at h3
          rw [if_neg hdm] at h3
          have hR3 := hdt.2 hdm
          have hu3 := h3.2.2.2.2.2.1
          have ex : its = 1 ∨ its = 4 → Run (d+10) mt_X12_readWhat Q (n, mr, 0, 0) m3 68 [vR (some (0, 80)), vI (10 * Rr)] [] := fun hi => by
            have hX2 : X = 720 := by rw [hX, if_pos hi]
            rw [hX2] at hR3 hQA hQD
            refine r_aload_n (dc kc_X12_readWhat_1 0 rfl) rfl <| k_i (dc kc_X12_readWhat_1 1 rfl) rfl <| c_v1 (dc kc_X12_readWhat_1 2 rfl) cl_X12_306 rfl (Nat.le_of_ble_eq_true rfl) (Nat.zero_le _) (Nat.zero_le _) ?_
            refine t_readExprA hL hP (o := 1) (C0 := C0) (K := K) (ts := false) (R := [704]) (tg := tg) (e := 0) (pp := pp) (v := []) (c := []) h3 (by omega) sC hC0 (by omega) (by simp) s19 (Or.inr rfl) rfl (fun m4 f4 u4 nd a4 g4 xA x24 xC xw xu xa xR => ?_) (fun m4 p4 g4 x4 d4 => ?_)
            · have hu4 := xA.2.2.2.2.2.1
              refine s_goto (tgt := 80) (dc kc_X12_readWhat_1 3 rfl) rfl <| s_return (dc kc_X12_readWhat_1 6 rfl) rfl (Nat.zero_le _) (Nat.zero_le _) ?_
              exact hQA m4 f4 u4 nd (1 + a4) (gA.tr (lw_pr g4)) xA (by omega) (fun k hk => by rw [(b91 g4).1]; exact s0 k hk) (by rw [(b91 g4).1]; exact s3) (by rw [(b91 g4).1]; exact s4) (by rw [(b91 g4).2]; exact s28) xC xw (by omega) (by omega) (hR3.tr xR)
            · refine s_goto (tgt := 80) (dc kc_X12_readWhat_1 3 rfl) rfl <| s_return (dc kc_X12_readWhat_1 6 rfl) rfl (Nat.zero_le _) (Nat.zero_le _) ?_
              exact hQD m4 p4 ((lw0 gA).tr (lw_pr g4)) x4.z0 (by rw [(b91 g4).2]; exact s28) ((hR3.dn d4).mono (by omega))
          have nd : ¬ (its = 1 ∨ its = 4) → Run (d+10) mt_X12_readWhat Q (n, mr, 0, 0) m3 76 [vR (some (0, 80)), vI (10 * Rr)] [] := fun hi => by
            have hX2 : X = 723 := by rw [hX, if_neg hi]
            rw [hX2] at hR3 hQA hQD
            refine r_aload_n (dc kc_X12_readWhat_1 4 rfl) rfl <| c_v0 (dc kc_X12_readWhat_1 5 rfl) cl_X12_252 rfl (Nat.le_of_ble_eq_true rfl) (Nat.zero_le _) (Nat.zero_le _) ?_
            refine t_readNodeA hL hP (o := 1) (C0 := C0) (K := K) (r := [704]) (tg := tg) (e := 0) (pp := pp) (v := []) (c := []) (w := 0) (z := 0) h3 s25 (by omega) (by omega) sC hC0 (by omega) (by omega) (by omega) (by simp) (fun m4 f4 u4 nd a4 g4 x24 x89 xA x25 xC xw xu xa xR => ?_) (fun m4 p4 g4 x4 _ d4 => ?_)
            · have hu4 := xA.2.2.2.2.2.1
              refine s_return (dc kc_X12_readWhat_1 6 rfl) rfl (Nat.zero_le _) (Nat.zero_le _) ?_
              exact hQA m4 f4 u4 nd (1 + a4) (gA.tr (lw_pr g4)) xA (by omega) (fun k hk => by rw [(b91 g4).1]; exact s0 k hk) (by rw [(b91 g4).1]; exact s3) (by rw [(b91 g4).1]; exact s4) (by rw [(b91 g4).2]; exact s28) xC (by omega) (by omega) (by omega) (hR3.tr xR)
            · refine s_return (dc kc_X12_readWhat_1 6 rfl) rfl (Nat.zero_le _) (Nat.zero_le _) ?_
              exact hQD m4 p4 (lw0 (gA.tr (lw_pr g4))) x4 (by rw [(b91 g4).2]; exact s28) ((hR3.dn d4).mono (by omega))
          refine r_aload_n (dc kc_X12_readWhat_0 28 rfl) rfl <| s_getA (dc kc_X12_readWhat_0 29 rfl) fl_X12_45 (ly_80_27 hL) <| s_iload_n (dc kc_X12_readWhat_0 30 rfl) rfl <| s_iaload (dc kc_X12_readWhat_0 31 rfl) rfl (by first | omega | (simp [up] <;> omega)) (by first | omega | (simp [up] <;> omega)) <| k_i (dc kc_X12_readWhat_0 32 rfl) rfl <| s_icmp_eq (tgt := 68) (dc kc_X12_readWhat_0 33 rfl) rfl (fun c55 => (?_)) (fun c55 => (r_aload_n (dc kc_X12_readWhat_0 34 rfl) rfl <| s_getA (dc kc_X12_readWhat_0 35 rfl) fl_X12_45 (ly_80_27 hL) <| s_iload_n (dc kc_X12_readWhat_0 36 rfl) rfl <| s_iaload (dc kc_X12_readWhat_0 37 rfl) rfl (by first | omega | (simp [up] <;> omega)) (by first | omega | (simp [up] <;> omega)) <| k_i (dc kc_X12_readWhat_0 38 rfl) rfl <| s_icmp_ne (tgt := 76) (dc kc_X12_readWhat_0 39 rfl) rfl (fun c65 => (?_)) (fun c65 => (?_))))
          all_goals first
            | exact nd (by omega)
            | exact ex (by omega)
      · exfalso; omega
    · rw [bi_f (fun z => h15 (w15.mp z))]
      have hdf := due_f (tk := tkF t N) (nu := nuF t N) (nx := nxF t N) (o := 1) (f := f) (u := u) (b' := 0) (y := 15) (tg := tg) (e := 0) (r := [X, 704]) (pp := pp) (v := []) (c := []) (by decide) (by simp) (by omega) (Or.inl h15)
      refine c_v1 (dc kc_X12_readWhat_0 12 rfl) cl_X12_187 rfl (Nat.le_of_ble_eq_true rfl) (Nat.zero_le _) (Nat.zero_le _) ?_
      refine t_mustF hL hA1 (fun m2 g2 h2 => ?_)
      have e17 := h2.1
      refine r_aload_n (dc kc_X12_readWhat_0 13 rfl) rfl <| s_getZ (dc kc_X12_readWhat_0 14 rfl) fl_X12_146 <| s_if_eq (tgt := 31) (dc kc_X12_readWhat_0 15 rfl) rfl (fun c27 => (?_)) (fun c27 => (s_return (dc kc_X12_readWhat_0 16 rfl) rfl (Nat.zero_le _) (Nat.zero_le _) ?_))
      · exfalso; omega
      · have q20 : m2 0 80 20 = mi 0 80 20 := by rw [g2.at (by simp [pTq])]; exact e20
        have q25 : m2 0 80 25 = mi 0 80 25 := by rw [g2.at (by simp [pTq])]; exact e25
        exact hQD m2 f ((g1.mono (fun j k z => by simp at z; simp [pLw]; omega)).tr (lw_Tq g2)) ⟨Or.inr h2, by omega, by omega, by omega, fun z => by omega, by omega⟩ (by rw [g2.at (by simp [pTq]), g1.at (by simp)]) (hdf.mono (by omega))
  refine tx_intro (ls := [vR (some (0, 80)), vI (10 * Rr)]) om_X12_readWhat rfl (Nat.le_of_ble_eq_true rfl) ?_
  refine r_aload_n (dc kc_X12_readWhat_0 0 rfl) rfl <| s_getA (dc kc_X12_readWhat_0 1 rfl) fl_X12_45 (ly_80_27 hL) <| s_iload_n (dc kc_X12_readWhat_0 2 rfl) rfl <| k_i (dc kc_X12_readWhat_0 3 rfl) rfl <| b_iadd (dc kc_X12_readWhat_0 4 rfl) (by first | omega | (simp [up] <;> omega)) (by first | omega | (simp [up] <;> omega)) <| r_aload_n (dc kc_X12_readWhat_0 5 rfl) rfl <| s_getI (dc kc_X12_readWhat_0 6 rfl) fl_X12_191 <| s_iastore (dc kc_X12_readWhat_0 7 rfl) rfl (by first | omega | (simp [up] <;> omega)) (by first | omega | (simp [up] <;> omega)) <| r_aload_n (dc kc_X12_readWhat_0 8 rfl) rfl <| r_aload_n (dc kc_X12_readWhat_0 9 rfl) rfl <| k_j (dc kc_X12_readWhat_0 10 rfl) kj_X12_321 rfl (a := 69) (by decide) <| c_v1r (dc kc_X12_readWhat_0 11 rfl) cl_X12_220 rfl (Nat.le_of_ble_eq_true rfl) (Nat.zero_le _) (Nat.zero_le _) <| t_isWord <| ?_
  exact go _ g1 r3
end RWH
