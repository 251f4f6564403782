/-! the reference: the turns of an expression -/
theorem bnd_lt {x l : Int} (h : 1 ≤ l) (hb : l ≤ bnd x) : x < 30 := by
  unfold bnd at hb
  by_cases c : 30 ≤ x
  · rw [if_pos c] at hb; omega
  · omega
theorem nbr_opr {l : Int} (hl : 1 ≤ l) : ∀ P : List Int, nbr (opr P l) = nbr P ∧ inn (opr P l) = inn P
  | [] => ⟨rfl, rfl⟩
  | x :: P => by
    rw [opr]
    split
    · rename_i hb
      have := bnd_lt hl hb
      rw [nbr, if_neg (by omega), inn, if_neg (by omega), (nbr_opr hl P).1, (nbr_opr hl P).2]
      exact ⟨by omega, rfl⟩
    · exact ⟨rfl, rfl⟩
theorem PlT_inn {ts : Bool} : ∀ {P : List Int}, PlT ts P → inn P = 30 ∨ inn P = -1
  | [], _ => Or.inr rfl
  | x :: P, h => by
    have ih := PlT_inn (P := P) h.1
    show inn (x :: P) = 30 ∨ inn (x :: P) = -1
    have h2 := h.2
    unfold inn
    split
    · omega
    · exact ih
theorem PsT_31 {ts : Bool} {P : List Int} (h : PsT ts P) (hi : inn P = 31) : ∃ P2, opr P 5 = 31 :: P2 ∧ PsT ts P2 := by
  have key : ∀ {P : List Int}, PsT ts P → ¬ hdS P → inn P = 31 → ∃ P2, P = 31 :: P2 ∧ PsT ts P2 := fun {P} h hn hi => by
    cases P with
    | nil => exact absurd hi (by decide)
    | cons x P =>
      rcases h with z | z | z | z
      · exact ⟨P, by rw [z.1], z.2⟩
      · exfalso
        rw [inn, if_neg (by omega)] at hi
        have := PlT_inn z.2
        omega
      · exact absurd ⟨x, P, rfl, z.1⟩ hn
      · exfalso
        have := PlT_inn (P := x :: P) z
        omega
  obtain ⟨h1, h2, -⟩ := opr5 h
  exact key h1 h2 (by rw [(nbr_opr (by decide) P).2]; exact hi)
theorem isC_td {ts : Bool} {R P : List Int} (h : PsT ts P) (hc : isC P) : TdT ts P ∧ Kst ts R P = Jst ts R P := by
  cases P with
  | nil => exact absurd hc (fun z => z)
  | cons x P =>
    rw [isC] at hc
    rcases h with z | z | z | z
    · rw [if_neg (by omega)] at hc; omega
    · exact ⟨Or.inr (Or.inl ⟨x, P, rfl, z.1, z.2⟩), by rw [K_cmp z.1, J_cmp z.1]⟩
    · rw [if_pos (by have := z.1; unfold isS at this; omega)] at hc
      obtain ⟨zs, z2, z3⟩ := z
      cases P with
      | nil => exact absurd hc (fun z => z)
      | cons y P =>
        rw [isC] at hc
        by_cases hy : 20 ≤ y ∧ y ≤ 21
        · exact absurd ⟨y, P, rfl, by unfold isS; omega⟩ z3
        · rw [if_neg hy] at hc
          have hpl : PlT ts P := by
            rcases z2 with w | w | w | w
            · omega
            · exact w.2
            · have := w.1; unfold isS at this; omega
            · omega
          exact ⟨Or.inr (Or.inr ⟨x, y, P, rfl, zs, hc, hpl⟩), by rw [K_s zs, J_s zs]⟩
    · rw [if_neg (by omega)] at hc; omega
theorem cmp_pl {ts : Bool} {P : List Int} (h : PsT ts P) (h31 : inn P ≠ 31) (hts : ¬ (inn P = -1 ∧ ts = false)) (hc : ¬ isC P) : PlT ts (opr P 5) := by
  obtain ⟨h1, h2, h3⟩ := opr5 h
  have hi := (nbr_opr (l := 5) (by decide) P).2
  have hc2 : ¬ isC (opr P 5) := fun z => hc (by
    rcases h3 with ⟨e, -⟩ | ⟨x, hx, e, -⟩
    · rw [← e]; exact z
    · rw [e, isC, if_pos (by unfold isS at hx; omega)]; exact z)
  generalize opr P 5 = P1 at *
  rw [← hi] at h31 hts
  cases P1 with
  | nil =>
    show ts = true
    cases ts with
    | true => rfl
    | false => exact absurd ⟨rfl, rfl⟩ hts
  | cons x P1 =>
    rcases h1 with z | z | z | z
    · rw [inn, if_pos (by omega)] at h31; omega
    · exact absurd (by rw [isC, if_neg (by omega)]; exact z.1) hc2
    · exact absurd ⟨x, P1, rfl, z.1⟩ h2
    · exact z
theorem opr_inn {ts : Bool} {P : List Int} (h : PlT ts (opr P 1)) (hB : hdB (opr P 1)) (hi : inn P ≠ -1) : ∃ P2, opr P 1 = 30 :: P2 ∧ PlT ts P2 := by
  rcases hB with z | ⟨Q, z⟩
  · exfalso
    have := (nbr_opr (l := 1) (by decide) P).2
    rw [z] at this
    exact hi this.symm
  · rw [z] at h
    exact ⟨Q, z, h.1⟩
section RXB
variable {d n G : Nat} {mr : MR} {Q : V → MI → Nat → MR → Prop} {t : Int → Int} {N o : Int} {ts : Bool} {R : List Int} {tg e : Int} {pp v : List CT}
theorem t_readPlainA (hL : Lay G mr) (hP : Tpe t N) {mi : MI} {C0 f u b : Int} {K c : List CT} {P : List Int} (hE : EX t N mi C0 K P f u b) (hC0 : 0 ≤ C0) (hpl : PlT ts P) (hR : R.length ≤ 2) (ho : mi 0 80 19 = o) (ho1 : o = 0 ∨ o = 1)
    (hA : TnA 0 1 4 t N o ts R tg e pp v C0 mi n mr Q K P f u b (714 :: Kst ts R P) c) (hD0 : TnD 700 t N o tg e pp v mi n mr Q f u b (714 :: Kst ts R P) c) : Tx (d+8) mt_X12_readPlain [vR (some (0, 80))] mi n mr Q := by
  obtain ⟨eA, e25, ebr, eb8, ePl, eCd, ew, ePu⟩ := id hE
  have hN := hP.1.2
  have hf := eA.2.2.2.2.1
  have hu60 := eA.2.2.2.2.2.1
  have e20 := eCd.1
  have e24 := ePl.1
  have hnb := nbr_0 P
  have hKl := (KJ_len2 (ts := ts) (R := R) P).2
  have hsl : (Kst ts R P).length < 190 := by omega
  have w18 := eA.2.1.word hP hf.1 18 (by decide) (H := 14836) (by decide +kernel)
  have s40 := eA.2.1.sign hP hf.1 (c := 40) (by decide) (by decide) (by decide)
  refine tx_intro (ls := [vR (some (0, 80))]) om_X12_readPlain rfl (Nat.le_of_ble_eq_true rfl) ?_
  refine r_aload_n (dc kc_X12_readPlain 0 rfl) rfl <| k_j (dc kc_X12_readPlain 1 rfl) kj_X12_263 rfl (a := 14836) (by decide) <| c_v1r (dc kc_X12_readPlain 2 rfl) cl_X12_220 rfl (Nat.le_of_ble_eq_true rfl) (Nat.zero_le _) (Nat.zero_le _) <| t_isWord <| s_if_eqb (tgt := 22) (dc kc_X12_readPlain 3 rfl) rfl (fun c7 => (r_aload_n (dc kc_X12_readPlain 11 rfl) rfl <| k_b (dc kc_X12_readPlain 12 rfl) rfl <| c_v1r (dc kc_X12_readPlain 13 rfl) cl_X12_215 rfl (Nat.le_of_ble_eq_true rfl) (Nat.zero_le _) (Nat.zero_le _) <| t_isSign <| s_if_eqb (tgt := 44) (dc kc_X12_readPlain 14 rfl) rfl (fun c28 => (r_aload_n (dc kc_X12_readPlain 23 rfl) rfl <| c_v0r (dc kc_X12_readPlain 24 rfl) cl_X12_265 rfl (Nat.le_of_ble_eq_true rfl) (Nat.zero_le _) (Nat.zero_le _) ?_)) (fun c28 => (r_aload_n (dc kc_X12_readPlain 15 rfl) rfl <| k_i (dc kc_X12_readPlain 16 rfl) rfl <| c_v1 (dc kc_X12_readPlain 17 rfl) cl_X12_226 rfl (Nat.le_of_ble_eq_true rfl) (Nat.zero_le _) (Nat.zero_le _) ?_)))) (fun c7 => (r_aload_n (dc kc_X12_readPlain 4 rfl) rfl <| k_b (dc kc_X12_readPlain 5 rfl) rfl <| c_v1 (dc kc_X12_readPlain 6 rfl) cl_X12_244 rfl (Nat.le_of_ble_eq_true rfl) (Nat.zero_le _) (Nat.zero_le _) ?_))
  · have n18 : tkF t N f ≠ 18 := fun z => c7 (w18.mpr z)
    have n72 : tkF t N f ≠ 72 := fun z => c28 (s40.mpr z)
    have m1 := rul_0 (tk := tkF t N) (nu := nuF t N) (nx := nxF t N) (o := o) (f := f) (u := u) (b' := b) (y := 714) (tg := tg) (e := e) (L := [720, 715]) (r := Kst ts R P) (pp := pp) (v := v) (c := c) (by decide) (by omega) (by rw [prd_714, if_neg n18, if_neg n72])
    have m2 := rul_0 (tk := tkF t N) (nu := nuF t N) (nx := nxF t N) (o := o) (f := f) (u := u) (b' := b) (y := 720) (tg := tg) (e := e) (L := [722, 721]) (r := 715 :: Kst ts R P) (pp := pp) (v := v) (c := c) (by decide) (by rw [List.length_cons]; omega) prd_720
    have m3 : Rh (tkF t N) (nuF t N) (nxF t N) o 2 (f, u, b, -1, 714 :: Kst ts R P, tg, e, pp, v, c) (f, u, b, -1, 722 :: Jst ts R P, tg, e, pp, v, c) := by rw [hpl.J]; exact m1.tr m2
    refine t_readPartA hL hP (o := o) (ts := ts) (R := R) (tg := tg) (e := e) (pp := pp) (v := v) (c := c) hE hC0 hpl.ps hR ho ho1 (fun m' tn P' f' u' b' nd S' a g' x' s' k' q' w' r' => ?_) (fun m' tn p g' x' dn' => ?_)
    · refine s_ireturn (dc kc_X12_readPlain 25 rfl) rfl (Nat.zero_le _) (Nat.zero_le _) ?_
      exact hA m' tn P' f' u' b' nd S' (2 + a) g' x' s' (by omega) q' w' (m3.tr r')
    · refine s_ireturn (dc kc_X12_readPlain 25 rfl) rfl (Nat.zero_le _) (Nat.zero_le _) ?_
      exact hD0 m' tn p g' x' ((m3.dn dn').mono (by omega))
  · have h72 : tkF t N f = 72 := s40.mp c28
    obtain ⟨p1, p2, p3, p4⟩ := eA.nx hP (by omega)
    have hr0 := rul_0 (tk := tkF t N) (nu := nuF t N) (nx := nxF t N) (o := o) (f := f) (u := u) (b' := b) (y := 714) (tg := tg) (e := e) (L := [72, 710, 73]) (r := Kst ts R P) (pp := pp) (v := v) (c := c) (by decide) (by omega) (by rw [h72]; rfl)
    refine t_openA hL hP eA e25 (by omega) eb8 (Or.inr rfl) (fun _ => by omega) (fun _ hb9 m3 g3 h3 r25 => ?_) (fun hno m3 g3 h3 r25 => ?_)
    · have r20 : m3 0 80 20 = mi 0 80 20 := g3.at (by simp [pOpn])
      have r24 : m3 0 80 24 = mi 0 80 24 := g3.at (by simp [pOpn])
      have hdt := due_t (tk := tkF t N) (nu := nuF t N) (nx := nxF t N) (o := o) (f := f) (u := u) (b' := b) (y := 72) (tg := tg) (e := e) (r := 710 :: 73 :: Kst ts R P) (pp := pp) (v := v) (c := c) (by decide) (by rw [List.length_cons, List.length_cons]; omega) p2 h72 (by omega)
      rw [if_pos (Or.inl rfl)] at hdt
      refine r_aload_n (dc kc_X12_readPlain 18 rfl) rfl <| k_b (dc kc_X12_readPlain 19 rfl) rfl <| c_v1 (dc kc_X12_readPlain 20 rfl) cl_X12_244 rfl (Nat.le_of_ble_eq_true rfl) (Nat.zero_le _) (Nat.zero_le _) ?_
      refine t_push hL (by omega) (by omega) ?_
      refine k_i (dc kc_X12_readPlain 21 rfl) rfl <| s_ireturn (dc kc_X12_readPlain 22 rfl) rfl (Nat.zero_le _) (Nat.zero_le _) ?_
      have g4 := pr_push (z := m3 0 80 24) (x := 30) (y := m3 0 80 24 + 1) (pr_Op (C0 := C0) g3)
      have hPl3 : Pil m3 P := ePl.mv r24 (g3.row (fun k => by simp [pOpn]))
      by_cases hdm : 59 ≤ u ∧ tkF t N (nxF t N f) ≠ 91 ∧ tkF t N (nxF t N f) ≠ 23
      · unfold Tko at h3
        rw [if_pos hdm] at h3
        exact hD0 _ _ _ (pr_mono hC0 g4) ⟨Or.inl (h3.mv ch_push (fun k => by simp) (fun k k0 k1 => by simp; omega)), by simp [up]; omega, by simp [up]; omega, by simp [up]; omega, fun _ => by simp [up]; omega, by simp [up]; omega⟩ ((hr0.dn (hdt.1 hdm)).mono (by omega))
      · unfold Tko at h3
        rw [if_neg hdm] at h3
        have hr2 := rul_0 (tk := tkF t N) (nu := nuF t N) (nx := nxF t N) (o := o) (f := nxF t N f) (u := u + 1) (b' := b + 1) (y := 710) (tg := tg) (e := e) (L := [712, 711]) (r := 73 :: Kst ts R P) (pp := pp) (v := v) (c := c) (by decide) (by rw [List.length_cons]; omega) prd_710
        have hr3 := rul_0 (tk := tkF t N) (nu := nuF t N) (nx := nxF t N) (o := o) (f := nxF t N f) (u := u + 1) (b' := b + 1) (y := 712) (tg := tg) (e := e) (L := [714, 713]) (r := 711 :: 73 :: Kst ts R P) (pp := pp) (v := v) (c := c) (by decide) (by rw [List.length_cons, List.length_cons]; omega) prd_712
        have hrr := ((hr0.tr (hdt.2 hdm)).tr hr2).tr hr3
        refine hA _ 0 (30 :: P) _ _ (b + 1) [] (714 :: Kst ts R (30 :: P)) (1 + 1 + 1 + 1) g4 ⟨h3.mv ch_push (fun k => by simp) (fun k k0 k1 _ => by simp; omega), by simp [up]; omega, by rw [nbr, if_pos (by decide)]; omega, by omega, hPl3.push rfl, ?_, by simp [up]; omega, by rw [List.length_cons]; omega⟩ (Or.inl ⟨rfl, ⟨hpl, Or.inl rfl⟩, rfl⟩) (by rw [List.length_cons]; omega) (by omega) (Or.inr (by omega)) (by rw [List.append_nil]; exact hrr)
        rw [List.append_nil]
        exact eCd.mv (by simp [up]; omega) (by rw [up_j (by decide), up_j (by decide), g3.row (fun k => by simp [pOpn])]) (by rw [up_j (by decide), up_j (by decide), g3.row (fun k => by simp [pOpn])])
    · have r20 : m3 0 80 20 = mi 0 80 20 := g3.at (by simp [pOpn])
      have r24 : m3 0 80 24 = mi 0 80 24 := g3.at (by simp [pOpn])
      have hdf := due_f (tk := tkF t N) (nu := nuF t N) (nx := nxF t N) (o := o) (f := f) (u := u) (b' := b) (y := 72) (tg := tg) (e := e) (r := 710 :: 73 :: Kst ts R P) (pp := pp) (v := v) (c := c) (by decide) (by rw [List.length_cons, List.length_cons]; omega) p1 (Or.inr ⟨Or.inl rfl, by omega⟩)
      refine r_aload_n (dc kc_X12_readPlain 18 rfl) rfl <| k_b (dc kc_X12_readPlain 19 rfl) rfl <| c_v1 (dc kc_X12_readPlain 20 rfl) cl_X12_244 rfl (Nat.le_of_ble_eq_true rfl) (Nat.zero_le _) (Nat.zero_le _) ?_
      refine t_push hL (by omega) (by omega) ?_
      refine k_i (dc kc_X12_readPlain 21 rfl) rfl <| s_ireturn (dc kc_X12_readPlain 22 rfl) rfl (Nat.zero_le _) (Nat.zero_le _) ?_
      exact hD0 _ _ _ (pr_push (pr_Op g3)) (DX.of (m := m3) (h3.mv ch_push (fun k k0 k1 => by simp; omega)) (by simp [up]; omega) (by simp [up]; omega) (by simp [up]; omega) (by simp [up]; omega)) ((hr0.dn hdf).mono (by omega))
  · have h18 : tkF t N f = 18 := w18.mp c7
    obtain ⟨p1, p2, p3, p4⟩ := eA.nx hP (by omega)
    have hrt := rul_t (tk := tkF t N) (nu := nuF t N) (nx := nxF t N) (o := o) (f := f) (u := u) (b' := b) (y := 714) (tg := tg) (e := e) (L := [714, 418]) (r := Kst ts R P) (pp := pp) (v := v) (c := c) (by decide) (by omega) p2 (by rw [h18]; rfl)
    refine t_push hL (by omega) (by omega) ?_
    refine r_aload_n (dc kc_X12_readPlain 7 rfl) rfl <| c_v0 (dc kc_X12_readPlain 8 rfl) cl_X12_184 rfl (Nat.le_of_ble_eq_true rfl) (Nat.zero_le _) (Nat.zero_le _) ?_
    refine t_passA hL hP (eA.mv ch_push (fun k => by simp) (fun k k0 k1 _ => by simp; omega)) (by omega) (by omega) (fun m2 g2 h2 => ?_)
    refine k_i (dc kc_X12_readPlain 9 rfl) rfl <| s_ireturn (dc kc_X12_readPlain 10 rfl) rfl (Nat.zero_le _) (Nat.zero_le _) ?_
    have g4 := (pr_push (C0 := C0) (m := mi) (m' := mi) (z := mi 0 80 24) (x := 27) (y := mi 0 80 24 + 1) Ch.rf).tr (pr_Tq g2)
    have q20 : m2 0 80 20 = mi 0 80 20 := by rw [g2.at (by simp [pTq])]; simp [up]
    have q24 : m2 0 80 24 = mi 0 80 24 + 1 := by rw [g2.at (by simp [pTq])]; simp [up]
    have q25 : m2 0 80 25 = mi 0 80 25 := by rw [g2.at (by simp [pTq])]; simp [up]
    by_cases hdm : 59 ≤ u ∧ tkF t N (nxF t N f) ≠ 91 ∧ tkF t N (nxF t N f) ≠ 23
    · unfold Tko at h2
      rw [if_pos hdm] at h2
      exact hD0 _ _ _ (pr_mono hC0 g4) ⟨Or.inl h2, by omega, by omega, by omega, fun _ => by omega, by omega⟩ ((hrt.1 hdm).mono (by omega))
    · unfold Tko at h2
      rw [if_neg hdm] at h2
      refine hA _ 0 (27 :: P) _ _ b [] (714 :: Kst ts R (27 :: P)) 1 g4 ⟨h2, by omega, by rw [nbr, if_neg (by decide)]; omega, by omega, (ePl.push rfl).mv (g2.at (by simp [pTq])) (g2.row (fun k => by simp [pTq])), ?_, by omega, by rw [List.length_cons]; omega⟩ (Or.inl ⟨rfl, ⟨hpl, Or.inr (Or.inl rfl)⟩, rfl⟩) (by rw [List.length_cons]; omega) (by omega) (Or.inr (by omega)) (by rw [List.append_nil]; exact hrt.2 hdm)
      rw [List.append_nil]
      exact eCd.mv q20 (by rw [g2.row (fun k => by simp [pTq]), up_j (by decide), up_j (by decide)]) (by rw [g2.row (fun k => by simp [pTq]), up_j (by decide), up_j (by decide)])
end RXB
