/-! the reference: where a line writes -/
section RPL
variable {d n G : Nat} {mr : MR} {Q : V → MI → Nat → MR → Prop} {t : Int → Int} {N : Int}
theorem m_703 {tk nu nx : Int → Int} {o f u b tg e : Int} {r : List Int} {p v c : List CT} (hl : r.length < 250) : Rh tk nu nx o 1 (f, u, b, -1, 703 :: r, tg, e, p, v, c) (f, u, b, -1, r, tg, 0, p ++ v ++ c, [], []) := by
  refine Rh.one (by show (703 :: r).length ≤ 250; rw [List.length_cons]; omega) ?_
  rw [mv_70 (by decide) (show prd o (tkn tk f (-1)) 703 = some (0, []) from prd_703) rfl]
  rfl
theorem t_place129 (hL : Lay G mr) (hP : Tpe t N) {m1 : MI} {C0 f1 its k tg X : Int} {s0 : MS} {a0 : Nat} (hA : RA t N m1 f1 2) (h25 : m1 0 80 25 = 0) (hC : CdR m1 C0 []) (hC0 : 0 ≤ C0) (hw : m1 0 80 20 ≤ f1) (ha : a0 ≤ 10) (hRh : Rh (tkF t N) (nuF t N) (nxF t N) 1 a0 s0 (f1, 2, 0, -1, [724, 703, 15, X, 704], tg, 0, [], [], []))
    (hQA : ∀ m' f' u' nd (a : Nat), Ch (pPr C0) m1 m' → RA t N m' f' u' → m' 0 80 25 = 0 → CdR m' C0 nd → m' 0 80 20 ≤ f' → 2 < u' → a ≤ 1000 → Rh (tkF t N) (nuF t N) (nxF t N) 1 a s0 (f', u', 0, -1, [15, X, 704], tg, 0, nd, [], []) → Q (vX 0) m' n mr)
    (hQD : ∀ m' p, Ch (pPr 0) m1 m' → DXz t N 0 m' p → Dn (tkF t N) (nuF t N) (nxF t N) 1 5000 s0 p → Q (vX 0) m' n mr) : Run (d+9) mt_X12_readPlace Q (n, mr, 0, 0) m1 129 [vR (some (0, 80)), vI k, vI its] [] := by
  have hN := hP.1.2
  have hf := hA.2.2.2.2.1
  have hC20 := hC.1
  have s40 := hA.2.1.sign hP hf.1 (c := 40) (by decide) (by decide) (by decide)
  have hR1 := hRh.tr (rul_0 (tk := tkF t N) (nu := nuF t N) (nx := nxF t N) (o := 1) (f := f1) (u := 2) (b' := 0) (y := 724) (tg := tg) (e := 0) (L := [72, 723, 73]) (r := [703, 15, X, 704]) (pp := []) (v := []) (c := []) (by decide) (by simp) prd_724)
  have p0 : ∀ {m m' : MI}, Ch (pPr C0) m m' → Ch (pPr 0) m m' := fun h => h.mono (fun j k z => by simp [pPr] at z ⊢; omega)
  by_cases h72 : tkF t N f1 = 72
  · obtain ⟨p1, p2, p3, p4⟩ := hA.nx hP (by omega)
    have hdt := due_t (tk := tkF t N) (nu := nuF t N) (nx := nxF t N) (o := 1) (f := f1) (u := 2) (b' := 0) (y := 72) (tg := tg) (e := 0) (r := [723, 73, 703, 15, X, 704]) (pp := []) (v := []) (c := []) (by decide) (by simp) p2 h72 (by omega)
    rw [if_pos (Or.inl rfl)] at hdt
    have hnd : ¬ (59 ≤ (2 : Int) ∧ tkF t N (nxF t N f1) ≠ 91 ∧ tkF t N (nxF t N f1) ≠ 23) := fun z => by omega
    have hR2 := hR1.tr (hdt.2 hnd)
    refine r_aload_n (dc kc_X12_readPlace_1 25 rfl) rfl <| r_aload_n (dc kc_X12_readPlace_1 26 rfl) rfl <| k_b (dc kc_X12_readPlace_1 27 rfl) rfl <| c_v1r (dc kc_X12_readPlace_1 28 rfl) cl_X12_215 rfl (Nat.le_of_ble_eq_true rfl) (Nat.zero_le _) (Nat.zero_le _) <| t_isSign <| c_v1 (dc kc_X12_readPlace_1 29 rfl) cl_X12_226 rfl (Nat.le_of_ble_eq_true rfl) (Nat.zero_le _) (Nat.zero_le _) ?_
    rw [bi_t (s40.mpr (by omega))]
    refine t_openA hL hP hA h25 (by omega) (by omega) (Or.inr rfl) (fun _ => ⟨by omega, by omega⟩) (fun _ _ m2 g2 h2 e25 => ?_) (fun z => absurd ⟨rfl, by omega⟩ z)
    have e17 := h2.b
    unfold Tko at h2
    rw [if_neg hnd] at h2
    have q20 : m2 0 80 20 = m1 0 80 20 := g2.at (by simp [pOpn])
    have hC2 : CdR m2 C0 [] := hC.mv q20 (g2.row (fun k => by simp [pOpn])) (g2.row (fun k => by simp [pOpn]))
    refine r_aload_n (dc kc_X12_readPlace_1 30 rfl) rfl <| s_getZ (dc kc_X12_readPlace_1 31 rfl) fl_X12_146 <| s_if_ne (tgt := 150) (dc kc_X12_readPlace_1 32 rfl) rfl (fun c143 => (?_)) (fun c143 => (r_aload_n (dc kc_X12_readPlace_1 33 rfl) rfl <| c_v0 (dc kc_X12_readPlace_1 34 rfl) cl_X12_252 rfl (Nat.le_of_ble_eq_true rfl) (Nat.zero_le _) (Nat.zero_le _) ?_))
    · exfalso; omega
    · refine t_readNodeA hL hP (o := 1) (C0 := C0) (K := []) (b := 0 + 1) (r := [73, 703, 15, X, 704]) (tg := tg) (e := 0) (pp := []) (v := []) (c := []) (w := 0) (z := 0) h2 e25 (by omega) (by omega) hC2 hC0 (by omega) (by omega) (by omega) (by simp) (fun m4 f4 u4 nd a4 g4 x24 x89 xA x25 xC xw xu xa xR => ?_) (fun m4 p4 g4 x4 _ d4 => ?_)
      · have hu4 := xA.2.2.2.2.2.1
        have hf4 := xA.2.2.2.2.1
        have e17 := xA.2.2.1
        have hR3 := hR2.tr xR
        have gm4 : Ch (pPr C0) m1 m4 := (pr_Op g2).tr g4
        refine r_aload_n (dc kc_X12_readPlace_1 35 rfl) rfl <| s_getZ (dc kc_X12_readPlace_1 36 rfl) fl_X12_146 <| s_if_ne (tgt := 161) (dc kc_X12_readPlace_1 37 rfl) rfl (fun c154 => (?_)) (fun c154 => (r_aload_n (dc kc_X12_readPlace_1 38 rfl) rfl <| c_v0 (dc kc_X12_readPlace_1 39 rfl) cl_X12_241 rfl (Nat.le_of_ble_eq_true rfl) (Nat.zero_le _) (Nat.zero_le _) ?_))
        · exfalso; omega
        · refine t_closeA hL hP xA x25 (by omega) (by omega) (fun h73 m5 g5 h5 e5 => ?_) (fun h73 m5 g5 h5 e5 => ?_)
          · obtain ⟨i1, i2, i3, i4⟩ := xA.nx hP (by omega)
            have r20 : m5 0 80 20 = m4 0 80 20 := g5.at (by simp [pOpn])
            have hC5 : CdR m5 C0 nd := xC.mv r20 (g5.row (fun k => by simp [pOpn])) (g5.row (fun k => by simp [pOpn]))
            have hC5l := hC5.1
            have hd5 := due_t (tk := tkF t N) (nu := nuF t N) (nx := nxF t N) (o := 1) (f := f4) (u := u4) (b' := 0 + 1) (y := 73) (tg := tg) (e := 0) (r := [703, 15, X, 704]) (pp := []) (v := []) (c := [] ++ nd) (by decide) (by simp) i2 h73 (by omega)
            rw [if_neg (by decide), if_pos (Or.inl rfl)] at hd5
            refine s_return (dc kc_X12_readPlace_2 0 rfl) rfl (Nat.zero_le _) (Nat.zero_le _) ?_
            by_cases hdm : 59 ≤ u4 ∧ tkF t N (nxF t N f4) ≠ 91 ∧ tkF t N (nxF t N f4) ≠ 23
            · unfold Tko at h5
              rw [if_pos hdm] at h5
              exact hQD m5 _ ((p0 gm4).tr (pr_Op g5)) ⟨Or.inl h5, by omega, by omega, by omega, fun _ => by omega, by omega⟩ ((hR3.dn (hd5.1 hdm)).mono (by omega))
            · unfold Tko at h5
              rw [if_neg hdm] at h5
              exact hQA m5 _ _ nd _ (gm4.tr (pr_Op g5)) h5 (by omega) hC5 (by omega) (by omega) (by omega) ((hR3.tr (hd5.2 hdm)).tr (m_703 (by simp)))
          · have r20 : m5 0 80 20 = m4 0 80 20 := g5.at (by simp [pOpn])
            have hC4l := xC.1
            have hd5 := due_f (tk := tkF t N) (nu := nuF t N) (nx := nxF t N) (o := 1) (f := f4) (u := u4) (b' := 0 + 1) (y := 73) (tg := tg) (e := 0) (r := [703, 15, X, 704]) (pp := []) (v := []) (c := [] ++ nd) (by decide) (by simp) (by omega) (Or.inl h73)
            have e17 := h5.1
            refine s_return (dc kc_X12_readPlace_2 0 rfl) rfl (Nat.zero_le _) (Nat.zero_le _) ?_
            exact hQD m5 _ ((p0 gm4).tr (pr_Op g5)) ⟨Or.inr h5, by omega, by omega, by omega, fun _ => by omega, by omega⟩ ((hR3.dn hd5).mono (by omega))
      · have hD4 := (hR2.dn d4).mono (b := 5000) (by omega)
        have gm4 : Ch (pPr 0) m1 m4 := (pr_Op g2).tr (p0 g4)
        refine r_aload_n (dc kc_X12_readPlace_1 35 rfl) rfl <| s_getZ (dc kc_X12_readPlace_1 36 rfl) fl_X12_146 <| s_if_ne (tgt := 161) (dc kc_X12_readPlace_1 37 rfl) rfl (fun c154 => (?_)) (fun c154 => (r_aload_n (dc kc_X12_readPlace_1 38 rfl) rfl <| c_v0 (dc kc_X12_readPlace_1 39 rfl) cl_X12_241 rfl (Nat.le_of_ble_eq_true rfl) (Nat.zero_le _) (Nat.zero_le _) ?_))
        · refine s_return (dc kc_X12_readPlace_2 0 rfl) rfl (Nat.zero_le _) (Nat.zero_le _) ?_
          exact hQD m4 p4 gm4 x4 hD4
        · refine t_closeD hL x4.1 x4.2.2.2.2.2 (fun m5 g5 h5 e5 => ?_)
          have r20 : m5 0 80 20 = m4 0 80 20 := g5.at (by simp [pOpn])
          obtain ⟨y1, y2, y3, y4, y5, y6⟩ := x4
          have e17 := h5.1
          refine s_return (dc kc_X12_readPlace_2 0 rfl) rfl (Nat.zero_le _) (Nat.zero_le _) ?_
          exact hQD m5 p4 (gm4.tr (pr_Op g5)) ⟨Or.inr h5, by omega, by omega, by omega, fun z => by omega, by omega⟩ hD4
  · have hdf := due_f (tk := tkF t N) (nu := nuF t N) (nx := nxF t N) (o := 1) (f := f1) (u := 2) (b' := 0) (y := 72) (tg := tg) (e := 0) (r := [723, 73, 703, 15, X, 704]) (pp := []) (v := []) (c := []) (by decide) (by simp) (by omega) (Or.inl h72)
    refine r_aload_n (dc kc_X12_readPlace_1 25 rfl) rfl <| r_aload_n (dc kc_X12_readPlace_1 26 rfl) rfl <| k_b (dc kc_X12_readPlace_1 27 rfl) rfl <| c_v1r (dc kc_X12_readPlace_1 28 rfl) cl_X12_215 rfl (Nat.le_of_ble_eq_true rfl) (Nat.zero_le _) (Nat.zero_le _) <| t_isSign <| c_v1 (dc kc_X12_readPlace_1 29 rfl) cl_X12_226 rfl (Nat.le_of_ble_eq_true rfl) (Nat.zero_le _) (Nat.zero_le _) ?_
    rw [bi_f (fun z => h72 (by have := s40.mp z; omega))]
    refine t_openA hL hP hA h25 (by omega) (by omega) (Or.inl rfl) (fun z => by omega) (fun z => by omega) (fun _ m2 g2 h2 e25 => ?_)
    have q20 : m2 0 80 20 = m1 0 80 20 := g2.at (by simp [pOpn])
    have e17 := h2.1
    have gD := hQD m2 f1 (pr_Op g2) ⟨Or.inr h2, by omega, by omega, by omega, fun z => by omega, by omega⟩ ((hR1.dn hdf).mono (by omega))
    refine r_aload_n (dc kc_X12_readPlace_1 30 rfl) rfl <| s_getZ (dc kc_X12_readPlace_1 31 rfl) fl_X12_146 <| s_if_ne (tgt := 150) (dc kc_X12_readPlace_1 32 rfl) rfl (fun c143 => (?_)) (fun c143 => (r_aload_n (dc kc_X12_readPlace_1 33 rfl) rfl <| c_v0 (dc kc_X12_readPlace_1 34 rfl) cl_X12_252 rfl (Nat.le_of_ble_eq_true rfl) (Nat.zero_le _) (Nat.zero_le _) ?_))
    · refine r_aload_n (dc kc_X12_readPlace_1 35 rfl) rfl <| s_getZ (dc kc_X12_readPlace_1 36 rfl) fl_X12_146 <| s_if_ne (tgt := 161) (dc kc_X12_readPlace_1 37 rfl) rfl (fun c154 => (?_)) (fun c154 => (r_aload_n (dc kc_X12_readPlace_1 38 rfl) rfl <| c_v0 (dc kc_X12_readPlace_1 39 rfl) cl_X12_241 rfl (Nat.le_of_ble_eq_true rfl) (Nat.zero_le _) (Nat.zero_le _) ?_))
      · refine s_return (dc kc_X12_readPlace_2 0 rfl) rfl (Nat.zero_le _) (Nat.zero_le _) ?_
        exact gD
      · exfalso; omega
    · exfalso; omega
end RPL
