/-! the reference: behind a sum, behind a test -/
theorem Pil.pop {m m' : MI} {x : Int} {P : List Int} (h : Pil m (x :: P)) (h1 : m' 0 80 24 = m 0 80 24 - 1) (h2 : m' 0 89 = m 0 89) : Pil m' P := by
  obtain ⟨a1, a2⟩ := h
  rw [List.length_cons] at a1
  rw [List.reverse_cons] at a2
  refine ⟨by omega, ?_⟩
  rw [h2]; exact a2.pre
section RXC
variable {d n G : Nat} {mr : MR} {Q : V → MI → Nat → MR → Prop} {t : Int → Int} {N o : Int} {ts : Bool} {R : List Int} {tg e : Int} {pp v : List CT}
theorem t_behindSumA (hL : Lay G mr) (hP : Tpe t N) {mi : MI} {C0 f u b x : Int} {K c : List CT} {P : List Int} (hE : EX t N mi C0 K P f u b) (hC0 : 0 ≤ C0) (hps : PsT ts P) (hR : R.length ≤ 2) (hx : x = if ts = true then 1 else 0)
    (hA : TnA 0 0 2 t N o ts R tg e pp v C0 mi n mr Q K P f u b (Jst ts R P) c) (hD0 : TnD 700 t N o tg e pp v mi n mr Q f u b (Jst ts R P) c) : Tx (d+8) mt_X12_behindSum [vR (some (0, 80)), vI x] mi n mr Q := by
  obtain ⟨eA, e25, ebr, eb8, ePl, eCd, ew, ePu⟩ := id hE
  have hN := hP.1.2
  have hf := eA.2.2.2.2.1
  have hu60 := eA.2.2.2.2.2.1
  have e20 := eCd.1
  have e24 := ePl.1
  have hnb := nbr_0 P
  have hJl := (KJ_len2 (ts := ts) (R := R) P).1
  have hsl : (Jst ts R P).length < 190 := by omega
  have hbnd : 4 * P.length + R.length ≤ 240 := by omega
  obtain ⟨o1, o2, o3⟩ := opr5 hps
  have oln := opn_len (P := P) (l := 5)
  obtain ⟨onb, oin⟩ := nbr_opr (l := 5) (by decide) P
  have hJ1 := (KJ_len2 (ts := ts) (R := R) (opr P 5)).1
  have hm5 := mJ5 (tk := tkF t N) (nu := nuF t N) (nx := nxF t N) (o := o) (f := f) (u := u) (b := b) (tg := tg) (e := e) (pp := pp) (v := v) (R := R) (c := c) hps hbnd
  have s43 := eA.2.1.sign hP hf.1 (c := 43) (by decide) (by decide) (by decide)
  have s45 := eA.2.1.sign hP hf.1 (c := 45) (by decide) (by decide) (by decide)
  have s93 := eA.2.1.sign hP hf.1 (c := 93) (by decide) (by decide) (by decide)
  have s60 := eA.2.1.sign hP hf.1 (c := 60) (by decide) (by decide) (by decide)
  have s62 := eA.2.1.sign hP hf.1 (c := 62) (by decide) (by decide) (by decide)
  have s61 := eA.2.1.sign hP hf.1 (c := 61) (by decide) (by decide) (by decide)
  -- plus, minus
  have pm : tkF t N f = 75 ∨ tkF t N f = 77 → Run (d+8) mt_X12_behindSum Q (n, mr, 0, 0) mi 18 [vR (some (0, 80)), vI x, vX 0, vX 0] [] := fun hpm => by
    obtain ⟨p1, p2, p3, p4⟩ := eA.nx hP (by omega)
    refine r_aload_n (dc kc_X12_behindSum_0 8 rfl) rfl <| k_i (dc kc_X12_behindSum_0 9 rfl) rfl <| c_v1 (dc kc_X12_behindSum_0 10 rfl) cl_X12_269 rfl (Nat.le_of_ble_eq_true rfl) (Nat.zero_le _) (Nat.zero_le _) ?_
    refine t_settleT hL ePl eCd hC0 (by omega) (fun m2 g2 l2 c2 f2 => ?_)
    have q24 := l2.1
    have q20 := c2.1
    rw [List.length_append, List.length_map] at q20
    have q25 : m2 0 80 25 = mi 0 80 25 := g2.at (by simp [pStl])
    have hA2 := eA.mv g2 (fun k => by simp [pStl]) (fun k k0 k1 _ => by simp [pStl]; omega)
    have gm2 := pr_Stl (C0 := C0) g2 f2 (by omega)
    have ps : ∀ op : Int, (op = 20 ∧ tkF t N f = 75) ∨ (op = 21 ∧ tkF t N f = 77) → Run (d+8) mt_X12_behindSum Q (n, mr, 0, 0) m2 40 [vR (some (0, 80)), vI x, vX 0, vX 0] [vI op, vR (some (0, 80))] := fun op hop => by
      have hS : isS op := by unfold isS; omega
      obtain ⟨T, hT⟩ := J_721 (R := R) o1 o2
      rw [hT] at hm5 hJ1
      rw [List.length_cons] at hJ1
      have hprd : prd o (tkF t N f) 721 = some (1, [722, 400 + tkO op, 721]) := by
        rcases hop with z | z <;> (rw [z.2, z.1]; rfl)
      have hrt := rul_t (tk := tkF t N) (nu := nuF t N) (nx := nxF t N) (o := o) (f := f) (u := u) (b' := b) (y := 721) (tg := tg) (e := e) (r := T) (pp := pp) (v := v) (c := c ++ (opn P 5).map (fun x => tokOf x 0)) (by decide) (by omega) p2 hprd
      refine c_v1 (dc kc_X12_behindSum_0 19 rfl) cl_X12_244 rfl (Nat.le_of_ble_eq_true rfl) (Nat.zero_le _) (Nat.zero_le _) ?_
      refine t_push hL (by omega) (by omega) ?_
      refine r_aload_n (dc kc_X12_behindSum_0 20 rfl) rfl <| c_v0 (dc kc_X12_behindSum_0 21 rfl) cl_X12_184 rfl (Nat.le_of_ble_eq_true rfl) (Nat.zero_le _) (Nat.zero_le _) ?_
      refine t_passA hL hP (hA2.mv ch_push (fun k => by simp) (fun k k0 k1 _ => by simp; omega)) (by omega) (by omega) (fun m3 g3 h3 => ?_)
      refine k_i (dc kc_X12_behindSum_0 22 rfl) rfl <| s_ireturn (dc kc_X12_behindSum_0 23 rfl) rfl (Nat.zero_le _) (Nat.zero_le _) ?_
      have g4 := (pr_push (z := m2 0 80 24) (x := op) (y := m2 0 80 24 + 1) gm2).tr (pr_Tq (C0 := C0) g3)
      have r20 : m3 0 80 20 = m2 0 80 20 := by rw [g3.at (by simp [pTq])]; simp [up]
      have r24 : m3 0 80 24 = m2 0 80 24 + 1 := by rw [g3.at (by simp [pTq])]; simp [up]
      have r25 : m3 0 80 25 = m2 0 80 25 := by rw [g3.at (by simp [pTq])]; simp [up]
      by_cases hdm : 59 ≤ u ∧ tkF t N (nxF t N f) ≠ 91 ∧ tkF t N (nxF t N f) ≠ 23
      · unfold Tko at h3
        rw [if_pos hdm] at h3
        exact hD0 _ _ _ (pr_mono hC0 g4) ⟨Or.inl h3, by omega, by omega, by omega, fun _ => by omega, by omega⟩ ((hm5.dn (hrt.1 hdm)).mono (by omega))
      · unfold Tko at h3
        rw [if_neg hdm] at h3
        refine hA _ 1 (op :: opr P 5) _ _ b ((opn P 5).map (fun x => tokOf x 0)) (722 :: Jst ts R (op :: opr P 5)) (1 + 1) g4 ⟨h3, by omega, ?_, by omega, (l2.push rfl).mv (g3.at (by simp [pTq])) (g3.row (fun k => by simp [pTq])), c2.mv r20 (by rw [g3.row (fun k => by simp [pTq]), up_j (by decide), up_j (by decide)]) (by rw [g3.row (fun k => by simp [pTq]), up_j (by decide), up_j (by decide)]), by omega, by rw [List.length_cons]; omega⟩ (Or.inr (Or.inl ⟨rfl, Or.inr (Or.inr (Or.inl ⟨hS, o1, o2⟩)), rfl⟩)) (by rw [List.length_cons]; omega) (by omega) (Or.inr (by omega)) ?_
        · rw [nbr, if_neg (by unfold isS at hS; omega)]; omega
        · rw [J_s hS, hT]
          exact hm5.tr (hrt.2 hdm)
    have e14 : m2 0 80 14 = mi 0 80 14 := g2.at (by simp [pStl])
    have e15 : m2 0 80 15 = mi 0 80 15 := g2.at (by simp [pStl])
    refine r_aload_n (dc kc_X12_behindSum_0 11 rfl) rfl <| r_aload_n (dc kc_X12_behindSum_0 12 rfl) rfl <| k_b (dc kc_X12_behindSum_0 13 rfl) rfl <| c_v1r (dc kc_X12_behindSum_0 14 rfl) cl_X12_215 rfl (Nat.le_of_ble_eq_true rfl) (Nat.zero_le _) (Nat.zero_le _) <| t_isSign <| s_if_eqb (tgt := 38) (dc kc_X12_behindSum_0 15 rfl) rfl (fun c30 => (k_b (dc kc_X12_behindSum_0 18 rfl) rfl <| ?_)) (fun c30 => (k_b (dc kc_X12_behindSum_0 16 rfl) rfl <| s_goto (tgt := 40) (dc kc_X12_behindSum_0 17 rfl) rfl <| ?_))
    · rw [e14, e15] at c30
      exact ps 21 (Or.inr ⟨rfl, by
        rcases hpm with z | z
        · exact absurd (s43.mpr z) c30
        · exact z⟩)
    · rw [e14, e15] at c30
      exact ps 20 (Or.inl ⟨rfl, s43.mp c30⟩)
  have rest : tkF t N f ≠ 75 → tkF t N f ≠ 77 → Run (d+8) mt_X12_behindSum Q (n, mr, 0, 0) mi 49 [vR (some (0, 80)), vI x, vX 0, vX 0] [] := fun n75 n77 => by
    have hno : prd o (tkF t N f) 721 = some (0, []) := by rw [prd_721, if_neg n75, if_neg n77]
    -- a comparison
    have mus : inn P ≠ 31 → ¬ (inn P = -1 ∧ ts = false) → ¬ isC P → ∀ (op y : Int), (y = 1 ∧ ((op = 24 ∧ tkF t N f = 92) ∨ (op = 25 ∧ tkF t N f = 94) ∨ (op = 26 ∧ tkF t N f = 93))) ∨ (y = 0 ∧ tkF t N f ≠ 92 ∧ tkF t N f ≠ 94 ∧ tkF t N f ≠ 93) → ∀ x2 : V, Run (d+8) mt_X12_behindSum Q (n, mr, 0, 0) mi 176 [vR (some (0, 80)), vI x, x2, vI op] [vI y, vR (some (0, 80))] := fun h31 hts hnc op y hy x2 => by
      have hpl := cmp_pl hps h31 hts hnc
      have hKl1 := (KJ_len2 (ts := ts) (R := R) (opr P 5)).2
      have hm6 := hm5
      rw [hpl.J] at hm6
      have hm7 := hm6.tr (rul_0 (tk := tkF t N) (o := o) (L := []) (by decide) (by rw [List.length_cons]; omega) hno)
      refine c_v1 (dc kc_X12_behindSum_2 12 rfl) cl_X12_187 rfl (Nat.le_of_ble_eq_true rfl) (Nat.zero_le _) (Nat.zero_le _) ?_
      rcases hy with ⟨hy1, hop⟩ | ⟨hy0, m1, m2, m3⟩
      · subst hy1
        obtain ⟨p1, p2, p3, p4⟩ := eA.nx hP (by omega)
        have hopc : 24 ≤ op ∧ op ≤ 26 := by omega
        have hprd : prd o (tkF t N f) 715 = some (1, [720, 400 + tkO op]) := by
          rcases hop with z | z | z <;> (rw [z.2, z.1]; rfl)
        have hrt := rul_t (tk := tkF t N) (nu := nuF t N) (nx := nxF t N) (o := o) (f := f) (u := u) (b' := b) (y := 715) (tg := tg) (e := e) (r := Kst ts R (opr P 5)) (pp := pp) (v := v) (c := c ++ (opn P 5).map (fun x => tokOf x 0)) (by decide) (by omega) p2 hprd
        refine t_mustA hL hP eA (by omega) (by omega) (fun m2 g2 h2 => ?_)
        have e17 := h2.b
        have q20 : m2 0 80 20 = mi 0 80 20 := g2.at (by simp [pTq])
        have q24 : m2 0 80 24 = mi 0 80 24 := g2.at (by simp [pTq])
        have q25 : m2 0 80 25 = mi 0 80 25 := g2.at (by simp [pTq])
        refine r_aload_n (dc kc_X12_behindSum_2 13 rfl) rfl <| s_getZ (dc kc_X12_behindSum_2 14 rfl) fl_X12_146 <| s_if_ne (tgt := 196) (dc kc_X12_behindSum_2 15 rfl) rfl (fun c183 => (k_i (dc kc_X12_behindSum_2 22 rfl) rfl <| s_ireturn (dc kc_X12_behindSum_2 23 rfl) rfl (Nat.zero_le _) (Nat.zero_le _) ?_)) (fun c183 => (r_aload_n (dc kc_X12_behindSum_2 16 rfl) rfl <| k_i (dc kc_X12_behindSum_2 17 rfl) rfl <| c_v1 (dc kc_X12_behindSum_2 18 rfl) cl_X12_269 rfl (Nat.le_of_ble_eq_true rfl) (Nat.zero_le _) (Nat.zero_le _) ?_))
        · exfalso; omega
        · refine t_settleT hL (ePl.mv q24 (g2.row (fun k => by simp [pTq]))) (eCd.mv q20 (g2.row (fun k => by simp [pTq])) (g2.row (fun k => by simp [pTq]))) hC0 (by omega) (fun m3 g3 l3 c3 f3 => ?_)
          have r24 := l3.1
          have r20 := c3.1
          rw [List.length_append, List.length_map] at r20
          have r25 : m3 0 80 25 = mi 0 80 25 := by rw [g3.at (by simp [pStl]), q25]
          refine r_aload_n (dc kc_X12_behindSum_2 19 rfl) rfl <| s_iload_n (dc kc_X12_behindSum_2 20 rfl) rfl <| c_v1 (dc kc_X12_behindSum_2 21 rfl) cl_X12_244 rfl (Nat.le_of_ble_eq_true rfl) (Nat.zero_le _) (Nat.zero_le _) ?_
          refine t_push hL (by omega) (by omega) ?_
          refine k_i (dc kc_X12_behindSum_2 22 rfl) rfl <| s_ireturn (dc kc_X12_behindSum_2 23 rfl) rfl (Nat.zero_le _) (Nat.zero_le _) ?_
          have g4 := pr_push (z := m3 0 80 24) (x := op) (y := m3 0 80 24 + 1) ((pr_Tq (C0 := C0) g2).tr (pr_Stl g3 f3 (by omega)))
          have h3 := (h2.mv g3 (fun k => by simp [pStl]) (fun k k0 k1 => by simp [pStl]; omega)).mv (ch_push (z := m3 0 80 24) (x := op) (y := m3 0 80 24 + 1)) (fun k => by simp) (fun k k0 k1 => by simp; omega)
          by_cases hdm : 59 ≤ u ∧ tkF t N (nxF t N f) ≠ 91 ∧ tkF t N (nxF t N f) ≠ 23
          · unfold Tko at h3
            rw [if_pos hdm] at h3
            exact hD0 _ _ _ (pr_mono hC0 g4) ⟨Or.inl h3, by simp [up]; omega, by simp [up]; omega, by simp [up]; omega, fun _ => by simp [up]; omega, by simp [up]; omega⟩ ((hm7.dn (hrt.1 hdm)).mono (by omega))
          · unfold Tko at h3
            rw [if_neg hdm] at h3
            have hr2 := rul_0 (tk := tkF t N) (nu := nuF t N) (nx := nxF t N) (o := o) (f := nxF t N f) (u := u + 1) (b' := b) (y := 720) (tg := tg) (e := e) (L := [722, 721]) (r := (400 + tkO op) :: Kst ts R (opr P 5)) (pp := pp) (v := v) (c := c ++ (opn P 5).map (fun x => tokOf x 0)) (by decide) (by rw [List.length_cons]; omega) prd_720
            refine hA _ 1 (op :: opr P 5) _ _ b ((opn P 5).map (fun x => tokOf x 0)) (722 :: Jst ts R (op :: opr P 5)) _ g4 ⟨h3, by simp [up]; omega, ?_, by omega, l3.push rfl, c3.mv (by simp [up]) (by rw [up_j (by decide), up_j (by decide)]) (by rw [up_j (by decide), up_j (by decide)]), by simp [up]; omega, by rw [List.length_cons]; omega⟩ (Or.inr (Or.inl ⟨rfl, Or.inr (Or.inl ⟨hopc, hpl⟩), rfl⟩)) ?_ (by omega) (Or.inr (by omega)) (by rw [J_cmp hopc]; exact (hm7.tr (hrt.2 hdm)).tr hr2)
            · rw [nbr, if_neg (by omega)]; omega
            · rw [List.length_cons]; omega
      · subst hy0
        have hrf := rul_f (tk := tkF t N) (nu := nuF t N) (nx := nxF t N) (o := o) (f := f) (u := u) (b' := b) (y := 715) (tg := tg) (e := e) (r := Kst ts R (opr P 5)) (pp := pp) (v := v) (c := c ++ (opn P 5).map (fun x => tokOf x 0)) (by decide) (by omega) (by omega) (by rw [prd_715, if_neg m1, if_neg m2, if_neg m3])
        refine t_mustF hL eA (fun m2 g2 h2 => ?_)
        have e17 := h2.1
        refine r_aload_n (dc kc_X12_behindSum_2 13 rfl) rfl <| s_getZ (dc kc_X12_behindSum_2 14 rfl) fl_X12_146 <| s_if_ne (tgt := 196) (dc kc_X12_behindSum_2 15 rfl) rfl (fun c183 => (k_i (dc kc_X12_behindSum_2 22 rfl) rfl <| s_ireturn (dc kc_X12_behindSum_2 23 rfl) rfl (Nat.zero_le _) (Nat.zero_le _) ?_)) (fun c183 => (?_))
        · exact hD0 m2 _ _ (pr_Tq g2) (DX.of (m := m2) h2 (by rw [g2.at (by simp [pTq])]; omega) (by rw [g2.at (by simp [pTq])]; omega) (by rw [g2.at (by simp [pTq]), g2.at (by simp [pTq])]; omega) (by rw [g2.at (by simp [pTq])]; omega)) ((hm7.dn hrf).mono (by omega))
        · exfalso; omega
    have cmp : inn P ≠ 31 → ¬ (inn P = -1 ∧ ts = false) → Run (d+8) mt_X12_behindSum Q (n, mr, 0, 0) mi 115 [vR (some (0, 80)), vI x, vI (inn P), vX 0] [] := fun h31 hts => by
      refine r_aload_n (dc kc_X12_behindSum_1 22 rfl) rfl <| c_v0r (dc kc_X12_behindSum_1 23 rfl) cl_X12_275 rfl (Nat.le_of_ble_eq_true rfl) (Nat.zero_le _) (Nat.zero_le _) ?_
      refine t_isCompared hL ePl (by omega) (fun hc => ?_) (fun hnc => ?_)
      · refine s_if_eq (tgt := 124) (dc kc_X12_behindSum_1 24 rfl) rfl (fun c119 => (?_)) (fun c119 => (k_i (dc kc_X12_behindSum_1 25 rfl) rfl <| s_ireturn (dc kc_X12_behindSum_1 26 rfl) rfl (Nat.zero_le _) (Nat.zero_le _) ?_))
        · exfalso; omega
        · obtain ⟨k1, k2⟩ := isC_td (R := R) hps hc
          exact hA mi 2 P f u b [] (Kst ts R P) 0 Ch.rf (by rw [List.append_nil]; exact hE) (Or.inr (Or.inr (Or.inr (Or.inl ⟨rfl, k1, rfl, fun _ => ⟨n75, n77⟩⟩)))) (by omega) (by omega) (Or.inl (Or.inl rfl)) (by rw [k2, List.append_nil]; exact Rh.rf)
      · refine s_if_eq (tgt := 124) (dc kc_X12_behindSum_1 24 rfl) rfl (fun c119 => (r_aload_n (dc kc_X12_behindSum_1 27 rfl) rfl <| k_b (dc kc_X12_behindSum_1 28 rfl) rfl <| c_v1r (dc kc_X12_behindSum_1 29 rfl) cl_X12_215 rfl (Nat.le_of_ble_eq_true rfl) (Nat.zero_le _) (Nat.zero_le _) <| t_isSign <| s_if_eqb (tgt := 138) (dc kc_X12_behindSum_1 30 rfl) rfl (fun c130 => (r_aload_n (dc kc_X12_behindSum_1 33 rfl) rfl <| k_b (dc kc_X12_behindSum_1 34 rfl) rfl <| c_v1r (dc kc_X12_behindSum_1 35 rfl) cl_X12_215 rfl (Nat.le_of_ble_eq_true rfl) (Nat.zero_le _) (Nat.zero_le _) <| t_isSign <| s_if_eqb (tgt := 152) (dc kc_X12_behindSum_1 36 rfl) rfl (fun c144 => (k_b (dc kc_X12_behindSum_1 39 rfl) rfl <| t_i3 (dc kc_X12_behindSum_2 0 rfl) (Nat.le_of_ble_eq_true rfl) rfl <| r_aload_n (dc kc_X12_behindSum_2 1 rfl) rfl <| s_iload_n (dc kc_X12_behindSum_2 2 rfl) rfl <| k_b (dc kc_X12_behindSum_2 3 rfl) rfl <| s_icmp_ne (tgt := 171) (dc kc_X12_behindSum_2 4 rfl) rfl (fun c159 => (k_i (dc kc_X12_behindSum_2 9 rfl) rfl <| s_goto (tgt := 176) (dc kc_X12_behindSum_2 10 rfl) rfl <| ?_)) (fun c159 => (r_aload_n (dc kc_X12_behindSum_2 5 rfl) rfl <| k_b (dc kc_X12_behindSum_2 6 rfl) rfl <| c_v1r (dc kc_X12_behindSum_2 7 rfl) cl_X12_215 rfl (Nat.le_of_ble_eq_true rfl) (Nat.zero_le _) (Nat.zero_le _) <| t_isSign <| s_if_eqb (tgt := 175) (dc kc_X12_behindSum_2 8 rfl) rfl (fun c168 => (k_i (dc kc_X12_behindSum_2 11 rfl) rfl <| ?_)) (fun c168 => (k_i (dc kc_X12_behindSum_2 9 rfl) rfl <| s_goto (tgt := 176) (dc kc_X12_behindSum_2 10 rfl) rfl <| ?_)))))) (fun c144 => (k_b (dc kc_X12_behindSum_1 37 rfl) rfl <| s_goto (tgt := 154) (dc kc_X12_behindSum_1 38 rfl) rfl <| t_i3 (dc kc_X12_behindSum_2 0 rfl) (Nat.le_of_ble_eq_true rfl) rfl <| r_aload_n (dc kc_X12_behindSum_2 1 rfl) rfl <| s_iload_n (dc kc_X12_behindSum_2 2 rfl) rfl <| k_b (dc kc_X12_behindSum_2 3 rfl) rfl <| s_icmp_ne (tgt := 171) (dc kc_X12_behindSum_2 4 rfl) rfl (fun c159 => (k_i (dc kc_X12_behindSum_2 9 rfl) rfl <| s_goto (tgt := 176) (dc kc_X12_behindSum_2 10 rfl) rfl <| ?_)) (fun c159 => (r_aload_n (dc kc_X12_behindSum_2 5 rfl) rfl <| k_b (dc kc_X12_behindSum_2 6 rfl) rfl <| c_v1r (dc kc_X12_behindSum_2 7 rfl) cl_X12_215 rfl (Nat.le_of_ble_eq_true rfl) (Nat.zero_le _) (Nat.zero_le _) <| t_isSign <| s_if_eqb (tgt := 175) (dc kc_X12_behindSum_2 8 rfl) rfl (fun c168 => (k_i (dc kc_X12_behindSum_2 11 rfl) rfl <| ?_)) (fun c168 => (k_i (dc kc_X12_behindSum_2 9 rfl) rfl <| s_goto (tgt := 176) (dc kc_X12_behindSum_2 10 rfl) rfl <| ?_)))))))) (fun c130 => (k_b (dc kc_X12_behindSum_1 31 rfl) rfl <| s_goto (tgt := 154) (dc kc_X12_behindSum_1 32 rfl) rfl <| t_i3 (dc kc_X12_behindSum_2 0 rfl) (Nat.le_of_ble_eq_true rfl) rfl <| r_aload_n (dc kc_X12_behindSum_2 1 rfl) rfl <| s_iload_n (dc kc_X12_behindSum_2 2 rfl) rfl <| k_b (dc kc_X12_behindSum_2 3 rfl) rfl <| s_icmp_ne (tgt := 171) (dc kc_X12_behindSum_2 4 rfl) rfl (fun c159 => (k_i (dc kc_X12_behindSum_2 9 rfl) rfl <| s_goto (tgt := 176) (dc kc_X12_behindSum_2 10 rfl) rfl <| ?_)) (fun c159 => (r_aload_n (dc kc_X12_behindSum_2 5 rfl) rfl <| k_b (dc kc_X12_behindSum_2 6 rfl) rfl <| c_v1r (dc kc_X12_behindSum_2 7 rfl) cl_X12_215 rfl (Nat.le_of_ble_eq_true rfl) (Nat.zero_le _) (Nat.zero_le _) <| t_isSign <| s_if_eqb (tgt := 175) (dc kc_X12_behindSum_2 8 rfl) rfl (fun c168 => (k_i (dc kc_X12_behindSum_2 11 rfl) rfl <| ?_)) (fun c168 => (k_i (dc kc_X12_behindSum_2 9 rfl) rfl <| s_goto (tgt := 176) (dc kc_X12_behindSum_2 10 rfl) rfl <| ?_)))))))) (fun c119 => (k_i (dc kc_X12_behindSum_1 25 rfl) rfl <| s_ireturn (dc kc_X12_behindSum_1 26 rfl) rfl (Nat.zero_le _) (Nat.zero_le _) ?_))
        all_goals first
          | (exfalso; omega)
          | exact mus h31 hts hnc 24 1 (Or.inl ⟨rfl, Or.inl ⟨rfl, s60.mp c130⟩⟩) _
          | exact mus h31 hts hnc 25 1 (Or.inl ⟨rfl, Or.inr (Or.inl ⟨rfl, s62.mp c144⟩)⟩) _
          | exact mus h31 hts hnc 26 1 (Or.inl ⟨rfl, Or.inr (Or.inr ⟨rfl, s61.mp c168⟩)⟩) _
          | exact mus h31 hts hnc 26 0 (Or.inr ⟨rfl, fun z => c130 (s60.mpr z), fun z => c144 (s62.mpr z), fun z => c168 (s61.mpr z)⟩) _
    refine r_aload_n (dc kc_X12_behindSum_0 24 rfl) rfl <| c_v0r (dc kc_X12_behindSum_0 25 rfl) cl_X12_272 rfl (Nat.le_of_ble_eq_true rfl) (Nat.zero_le _) (Nat.zero_le _) ?_
    refine t_inner hL ePl (by omega) ?_
    refine t_i2 (dc kc_X12_behindSum_0 26 rfl) (Nat.le_of_ble_eq_true rfl) rfl <| s_iload_n (dc kc_X12_behindSum_0 27 rfl) rfl <| k_b (dc kc_X12_behindSum_0 28 rfl) rfl <| s_icmp_ne (tgt := 104) (dc kc_X12_behindSum_0 29 rfl) rfl (fun c57 => (s_iload_n (dc kc_X12_behindSum_1 15 rfl) rfl <| k_i (dc kc_X12_behindSum_1 16 rfl) rfl <| s_icmp_ne (tgt := 115) (dc kc_X12_behindSum_1 17 rfl) rfl (fun c106 => (?_)) (fun c106 => (s_iload_n (dc kc_X12_behindSum_1 18 rfl) rfl <| s_if_ne (tgt := 115) (dc kc_X12_behindSum_1 19 rfl) rfl (fun c110 => (?_)) (fun c110 => (k_i (dc kc_X12_behindSum_1 20 rfl) rfl <| s_ireturn (dc kc_X12_behindSum_1 21 rfl) rfl (Nat.zero_le _) (Nat.zero_le _) ?_)))))) (fun c57 => (r_aload_n (dc kc_X12_behindSum_0 30 rfl) rfl <| r_aload_n (dc kc_X12_behindSum_0 31 rfl) rfl <| k_b (dc kc_X12_behindSum_0 32 rfl) rfl <| c_v1r (dc kc_X12_behindSum_0 33 rfl) cl_X12_215 rfl (Nat.le_of_ble_eq_true rfl) (Nat.zero_le _) (Nat.zero_le _) <| t_isSign <| c_v1 (dc kc_X12_behindSum_0 34 rfl) cl_X12_187 rfl (Nat.le_of_ble_eq_true rfl) (Nat.zero_le _) (Nat.zero_le _) ?_))
    · exact cmp (by omega) (by omega)
    · refine cmp (by omega) (fun z => ?_)
      rw [z.2, if_neg (by decide)] at hx
      omega
    · have hts : ts = false := by
        cases ts with
        | false => rfl
        | true => rw [if_pos rfl] at hx; omega
      exact hA mi 4 P f u b [] (Jst ts R P) 0 Ch.rf (by rw [List.append_nil]; exact hE) (Or.inr (Or.inr (Or.inr (Or.inr ⟨rfl, by omega, Or.inl ⟨hts, hps, rfl, n75, n77⟩⟩)))) (by omega) (by omega) (Or.inl (Or.inr rfl)) (by rw [List.append_nil]; exact Rh.rf)
    · obtain ⟨P2, hP2, hps2⟩ := PsT_31 hps (by omega)
      have hm6 := hm5
      rw [hP2, J_31] at hm6
      have hJ2 := (KJ_len2 (ts := ts) (R := R) P2).1
      rw [hP2, nbr, if_pos (by decide)] at onb
      have hnb2 := nbr_0 P2
      have hl2 : (opr P 5).length = P2.length + 1 := by rw [hP2, List.length_cons]
      have hm7 := hm6.tr (rul_0 (tk := tkF t N) (o := o) (L := []) (by decide) (by rw [List.length_cons]; omega) hno)
      by_cases h125 : mi 0 80 14 = 3 ∧ mi 0 80 15 = 93
      · rw [bi_t h125]
        have h125 : tkF t N f = 125 := s93.mp h125
        obtain ⟨p1, p2, p3, p4⟩ := eA.nx hP (by omega)
        have hdt := due_t (tk := tkF t N) (nu := nuF t N) (nx := nxF t N) (o := o) (f := f) (u := u) (b' := b) (y := 125) (tg := tg) (e := e) (r := Jst ts R P2) (pp := pp) (v := v) (c := c ++ (opn P 5).map (fun x => tokOf x 0)) (by decide) (by omega) p2 h125 (by omega)
        rw [if_neg (by decide), if_pos (Or.inr rfl)] at hdt
        refine t_mustA hL hP eA (by omega) (by omega) (fun m2 g2 h2 => ?_)
        have e17 := h2.b
        have q20 : m2 0 80 20 = mi 0 80 20 := g2.at (by simp [pTq])
        have q24 : m2 0 80 24 = mi 0 80 24 := g2.at (by simp [pTq])
        have q25 : m2 0 80 25 = mi 0 80 25 := g2.at (by simp [pTq])
        refine r_aload_n (dc kc_X12_behindSum_0 35 rfl) rfl <| s_getZ (dc kc_X12_behindSum_0 36 rfl) fl_X12_146 <| s_if_ne (tgt := 102) (dc kc_X12_behindSum_0 37 rfl) rfl (fun c74 => (k_i (dc kc_X12_behindSum_1 13 rfl) rfl <| s_ireturn (dc kc_X12_behindSum_1 14 rfl) rfl (Nat.zero_le _) (Nat.zero_le _) ?_)) (fun c74 => (r_aload_n (dc kc_X12_behindSum_0 38 rfl) rfl <| k_i (dc kc_X12_behindSum_0 39 rfl) rfl <| c_v1 (dc kc_X12_behindSum_1 0 rfl) cl_X12_269 rfl (Nat.le_of_ble_eq_true rfl) (Nat.zero_le _) (Nat.zero_le _) ?_))
        · exfalso; omega
        · refine t_settleT hL (ePl.mv q24 (g2.row (fun k => by simp [pTq]))) (eCd.mv q20 (g2.row (fun k => by simp [pTq])) (g2.row (fun k => by simp [pTq]))) hC0 (by omega) (fun m3 g3 l3 c3 f3 => ?_)
          have r24 := l3.1
          have r20 := c3.1
          rw [List.length_append, List.length_map] at r20
          have r25 : m3 0 80 25 = mi 0 80 25 := by rw [g3.at (by simp [pStl]), q25]
          rw [hP2] at l3
          have u25 : up m3 0 80 24 (m3 0 80 24 - 1) 0 80 25 = mi 0 80 25 := by rw [up_k (by decide), r25]
          refine r_aload_n (dc kc_X12_behindSum_1 1 rfl) rfl <| s_dup (dc kc_X12_behindSum_1 2 rfl) rfl <| s_getI (dc kc_X12_behindSum_1 3 rfl) fl_X12_194 <| k_i (dc kc_X12_behindSum_1 4 rfl) rfl <| b_isub (dc kc_X12_behindSum_1 5 rfl) (by first | omega | (simp [up] <;> omega)) (by first | omega | (simp [up] <;> omega)) <| s_putI (dc kc_X12_behindSum_1 6 rfl) fl_X12_194 <| r_aload_n (dc kc_X12_behindSum_1 7 rfl) rfl <| s_dup (dc kc_X12_behindSum_1 8 rfl) rfl <| s_getI (dc kc_X12_behindSum_1 9 rfl) fl_X12_212 <| k_i (dc kc_X12_behindSum_1 10 rfl) rfl <| b_isub (dc kc_X12_behindSum_1 11 rfl) (by first | omega | (simp [up] <;> omega)) (by first | omega | (simp [up] <;> omega)) <| s_putI (dc kc_X12_behindSum_1 12 rfl) fl_X12_212 <| k_i (dc kc_X12_behindSum_1 13 rfl) rfl <| s_ireturn (dc kc_X12_behindSum_1 14 rfl) rfl (Nat.zero_le _) (Nat.zero_le _) ?_
          rw [u25]
          have gc : Ch (fun j k => j == 80 && (k == 24 || k == 25)) m3 (up (up m3 0 80 24 (m3 0 80 24 - 1)) 0 80 25 (mi 0 80 25 - 1)) := (Ch.rf.up (by simp)).up (by simp)
          have g4 : Ch (pPr C0) mi (up (up m3 0 80 24 (m3 0 80 24 - 1)) 0 80 25 (mi 0 80 25 - 1)) := ((pr_Tq (C0 := C0) g2).tr (pr_Stl g3 f3 (by omega))).tr (gc.mono (fun j k z => by simp at z; simp [pPr]; omega))
          have h3 := (h2.mv g3 (fun k => by simp [pStl]) (fun k k0 k1 => by simp [pStl]; omega)).mv gc (fun k => by simp) (fun k k0 k1 => by simp; omega)
          by_cases hdm : 59 ≤ u ∧ tkF t N (nxF t N f) ≠ 91 ∧ tkF t N (nxF t N f) ≠ 23
          · unfold Tko at h3
            rw [if_pos hdm] at h3
            exact hD0 _ _ _ (pr_mono hC0 g4) ⟨Or.inl h3, by simp [up]; omega, by simp [up]; omega, by simp [up]; omega, fun _ => by simp [up]; omega, by simp [up]; omega⟩ ((hm7.dn (hdt.1 hdm)).mono (by omega))
          · unfold Tko at h3
            rw [if_neg hdm] at h3
            exact hA _ 3 P2 _ _ (b - 1) ((opn P 5).map (fun x => tokOf x 0)) (Jst ts R P2) _ g4 ⟨h3, by simp [up]; omega, by omega, by omega, l3.pop (by simp [up]) (by rw [up_j (by decide), up_j (by decide)]), c3.mv (by simp [up]) (by rw [up_j (by decide), up_j (by decide)]) (by rw [up_j (by decide), up_j (by decide)]), by simp [up]; omega, by omega⟩ (Or.inr (Or.inr (Or.inl ⟨rfl, hps2, rfl⟩))) (by omega) (by omega) (Or.inr (by omega)) (hm7.tr (hdt.2 hdm))
      · rw [bi_f h125]
        have h125 : tkF t N f ≠ 125 := fun z => h125 (s93.mpr z)
        have hdf := due_f (tk := tkF t N) (nu := nuF t N) (nx := nxF t N) (o := o) (f := f) (u := u) (b' := b) (y := 125) (tg := tg) (e := e) (r := Jst ts R P2) (pp := pp) (v := v) (c := c ++ (opn P 5).map (fun x => tokOf x 0)) (by decide) (by omega) (by omega) (Or.inl h125)
        refine t_mustF hL eA (fun m2 g2 h2 => ?_)
        have e17 := h2.1
        refine r_aload_n (dc kc_X12_behindSum_0 35 rfl) rfl <| s_getZ (dc kc_X12_behindSum_0 36 rfl) fl_X12_146 <| s_if_ne (tgt := 102) (dc kc_X12_behindSum_0 37 rfl) rfl (fun c74 => (k_i (dc kc_X12_behindSum_1 13 rfl) rfl <| s_ireturn (dc kc_X12_behindSum_1 14 rfl) rfl (Nat.zero_le _) (Nat.zero_le _) ?_)) (fun c74 => (?_))
        · exact hD0 m2 _ _ (pr_Tq g2) (DX.of (m := m2) h2 (by rw [g2.at (by simp [pTq])]; omega) (by rw [g2.at (by simp [pTq])]; omega) (by rw [g2.at (by simp [pTq]), g2.at (by simp [pTq])]; omega) (by rw [g2.at (by simp [pTq])]; omega)) ((hm7.dn hdf).mono (by omega))
        · exfalso; omega
  refine tx_intro (ls := [vR (some (0, 80)), vI x, vX 0, vX 0]) om_X12_behindSum rfl (Nat.le_of_ble_eq_true rfl) ?_
  refine r_aload_n (dc kc_X12_behindSum_0 0 rfl) rfl <| k_b (dc kc_X12_behindSum_0 1 rfl) rfl <| c_v1r (dc kc_X12_behindSum_0 2 rfl) cl_X12_215 rfl (Nat.le_of_ble_eq_true rfl) (Nat.zero_le _) (Nat.zero_le _) <| t_isSign <| s_if_neb (tgt := 18) (dc kc_X12_behindSum_0 3 rfl) rfl (fun c6 => (?_)) (fun c6 => (r_aload_n (dc kc_X12_behindSum_0 4 rfl) rfl <| k_b (dc kc_X12_behindSum_0 5 rfl) rfl <| c_v1r (dc kc_X12_behindSum_0 6 rfl) cl_X12_215 rfl (Nat.le_of_ble_eq_true rfl) (Nat.zero_le _) (Nat.zero_le _) <| t_isSign <| s_if_eqb (tgt := 49) (dc kc_X12_behindSum_0 7 rfl) rfl (fun c15 => (?_)) (fun c15 => (?_))))
  all_goals first
    | exact pm (Or.inl (s43.mp c6))
    | exact pm (Or.inr (s45.mp c15))
    | exact rest (fun z => c6 (s43.mpr z)) (fun z => c15 (s45.mpr z))
theorem t_behindTestA (hL : Lay G mr) (hP : Tpe t N) {mi : MI} {C0 f u b : Int} {K c : List CT} {P : List Int} (hE : EX t N mi C0 K P f u b) (hC0 : 0 ≤ C0) (htd : TdT ts P) (hx7 : ¬ PlT ts P → tkF t N f ≠ 75 ∧ tkF t N f ≠ 77) (hR : R.length ≤ 2)
    (hA : TnA 0 0 4 t N o ts R tg e pp v C0 mi n mr Q K P f u b (Kst ts R P) c) (hD0 : TnD 700 t N o tg e pp v mi n mr Q f u b (Kst ts R P) c) : Tx (d+8) mt_X12_behindTest [vR (some (0, 80))] mi n mr Q := by
  obtain ⟨eA, e25, ebr, eb8, ePl, eCd, ew, ePu⟩ := id hE
  have hN := hP.1.2
  have hf := eA.2.2.2.2.1
  have hu60 := eA.2.2.2.2.2.1
  have e20 := eCd.1
  have e24 := ePl.1
  have hnb := nbr_0 P
  have hbnd : 4 * P.length + R.length ≤ 240 := by omega
  have w17 := eA.2.1.word hP hf.1 17 (by decide) (H := 1476) (by decide +kernel)
  have w16 := eA.2.1.word hP hf.1 16 (by decide) (H := 498) (by decide +kernel)
  have s41 := eA.2.1.sign hP hf.1 (c := 41) (by decide) (by decide) (by decide)
  -- and, or
  have pm : ∀ (y l op : Int), (y = 1 ∧ l = 2 ∧ op = 28 ∧ tkF t N f = 17) ∨ (y = 0 ∧ l = 1 ∧ op = 29 ∧ tkF t N f = 16) → Run (d+8) mt_X12_behindTest Q (n, mr, 0, 0) mi 32 [vR (some (0, 80)), vI y] [vI l, vR (some (0, 80))] := fun y l op hy => by
    obtain ⟨p1, p2, p3, p4⟩ := eA.nx hP (by omega)
    have oln := opn_len (P := P) (l := l)
    obtain ⟨onb, oin⟩ := nbr_opr (l := l) (by omega) P
    have hKl := (KJ_len2 (ts := ts) (R := R) (opr P l)).2
    -- what the machine does
    have key : PlT ts (op :: opr P l) ∧ (59 ≤ u ∧ tkF t N (nxF t N f) ≠ 91 ∧ tkF t N (nxF t N f) ≠ 23 → Dn (tkF t N) (nuF t N) (nxF t N) o 700 (f, u, b, -1, Kst ts R P, tg, e, pp, v, c) (nxF t N f)) ∧ (¬ (59 ≤ u ∧ tkF t N (nxF t N f) ≠ 91 ∧ tkF t N (nxF t N f) ≠ 23) → Rh (tkF t N) (nuF t N) (nxF t N) o (2 * (opn P l).length + 3) (f, u, b, -1, Kst ts R P, tg, e, pp, v, c) (nxF t N f, u + 1, b, -1, 714 :: Kst ts R (op :: opr P l), tg, e, pp, v, c ++ (opn P l).map (fun x => tokOf x 0))) := by
      rcases hy with ⟨-, hl, hop, h17⟩ | ⟨-, hl, hop, h16⟩
      · subst hl
        subst hop
        obtain ⟨i1, i2, i3, i4⟩ := mT2 (nu := nuF t N) (nx := nxF t N) (o := o) (u := u) (b := b) (tg := tg) (e := e) (pp := pp) (v := v) (R := R) (c := c) htd hbnd h17
        obtain ⟨T, hT⟩ := K_713 (ts := ts) (R := R) i2
        rw [hT] at i4 hKl
        rw [List.length_cons] at hKl
        have hrt := rul_t (tk := tkF t N) (nu := nuF t N) (nx := nxF t N) (o := o) (f := f) (u := u) (b' := b) (y := 713) (tg := tg) (e := e) (L := [714, 417, 713]) (r := T) (pp := pp) (v := v) (c := c ++ (opn P 2).map (fun x => tokOf x 0)) (by decide) (by omega) p2 (by rw [h17]; rfl)
        refine ⟨⟨i1, Or.inr (Or.inr (Or.inl ⟨rfl, i2⟩))⟩, fun z => (i4.dn (hrt.1 z)).mono (by omega), fun z => ?_⟩
        rw [K_28, hT]
        exact (i4.tr (hrt.2 z)).mono (by omega)
      · subst hl
        subst hop
        obtain ⟨i1, i2, i3, i4⟩ := mT1 (nu := nuF t N) (nx := nxF t N) (o := o) (u := u) (b := b) (tg := tg) (e := e) (pp := pp) (v := v) (R := R) (c := c) htd hbnd (by omega) hx7
        have hdl := List.length_drop (i := 2) (l := Kst ts R (opr P 1))
        have hrt := rul_t (tk := tkF t N) (nu := nuF t N) (nx := nxF t N) (o := o) (f := f) (u := u) (b' := b) (y := 711) (tg := tg) (e := e) (L := [712, 416, 711]) (r := (Kst ts R (opr P 1)).drop 2) (pp := pp) (v := v) (c := c ++ (opn P 1).map (fun x => tokOf x 0)) (by decide) (by omega) p2 (by rw [h16]; rfl)
        have hr2 := rul_0 (tk := tkF t N) (nu := nuF t N) (nx := nxF t N) (o := o) (f := nxF t N f) (u := u + 1) (b' := b) (y := 712) (tg := tg) (e := e) (L := [714, 713]) (r := 416 :: 711 :: (Kst ts R (opr P 1)).drop 2) (pp := pp) (v := v) (c := c ++ (opn P 1).map (fun x => tokOf x 0)) (by decide) (by rw [List.length_cons, List.length_cons]; omega) prd_712
        refine ⟨⟨i1, Or.inr (Or.inr (Or.inr ⟨rfl, i2⟩))⟩, fun z => (i4.dn (hrt.1 z)).mono (by omega), fun z => ?_⟩
        rw [K_29]
        exact ((i4.tr (hrt.2 z)).tr hr2).mono (by omega)
    obtain ⟨k1, k2, k3⟩ := key
    refine c_v1 (dc kc_X12_behindTest_0 16 rfl) cl_X12_269 rfl (Nat.le_of_ble_eq_true rfl) (Nat.zero_le _) (Nat.zero_le _) ?_
    refine t_settleT hL ePl eCd hC0 (by omega) (fun m2 g2 l2 c2 f2 => ?_)
    have q24 := l2.1
    have q20 := c2.1
    rw [List.length_append, List.length_map] at q20
    have q25 : m2 0 80 25 = mi 0 80 25 := g2.at (by simp [pStl])
    have hA2 := eA.mv g2 (fun k => by simp [pStl]) (fun k k0 k1 _ => by simp [pStl]; omega)
    have gm2 := pr_Stl (C0 := C0) g2 f2 (by omega)
    have ps : ∀ op' : Int, op' = op → Run (d+8) mt_X12_behindTest Q (n, mr, 0, 0) m2 47 [vR (some (0, 80)), vI y] [vI op', vR (some (0, 80))] := fun op' hop' => by
      subst hop'
      refine c_v1 (dc kc_X12_behindTest_0 23 rfl) cl_X12_244 rfl (Nat.le_of_ble_eq_true rfl) (Nat.zero_le _) (Nat.zero_le _) ?_
      refine t_push hL (by omega) (by omega) ?_
      refine r_aload_n (dc kc_X12_behindTest_0 24 rfl) rfl <| c_v0 (dc kc_X12_behindTest_0 25 rfl) cl_X12_184 rfl (Nat.le_of_ble_eq_true rfl) (Nat.zero_le _) (Nat.zero_le _) ?_
      refine t_passA hL hP (hA2.mv ch_push (fun k => by simp) (fun k k0 k1 _ => by simp; omega)) (by omega) (by omega) (fun m3 g3 h3 => ?_)
      refine k_i (dc kc_X12_behindTest_0 26 rfl) rfl <| s_ireturn (dc kc_X12_behindTest_0 27 rfl) rfl (Nat.zero_le _) (Nat.zero_le _) ?_
      have g4 := (pr_push (z := m2 0 80 24) (x := op') (y := m2 0 80 24 + 1) gm2).tr (pr_Tq (C0 := C0) g3)
      have r20 : m3 0 80 20 = m2 0 80 20 := by rw [g3.at (by simp [pTq])]; simp [up]
      have r24 : m3 0 80 24 = m2 0 80 24 + 1 := by rw [g3.at (by simp [pTq])]; simp [up]
      have r25 : m3 0 80 25 = m2 0 80 25 := by rw [g3.at (by simp [pTq])]; simp [up]
      by_cases hdm : 59 ≤ u ∧ tkF t N (nxF t N f) ≠ 91 ∧ tkF t N (nxF t N f) ≠ 23
      · unfold Tko at h3
        rw [if_pos hdm] at h3
        exact hD0 _ _ _ (pr_mono hC0 g4) ⟨Or.inl h3, by omega, by omega, by omega, fun _ => by omega, by omega⟩ (k2 hdm)
      · unfold Tko at h3
        rw [if_neg hdm] at h3
        refine hA _ 0 (op' :: opr P l) _ _ b ((opn P l).map (fun x => tokOf x 0)) (714 :: Kst ts R (op' :: opr P l)) _ g4 ⟨h3, by omega, ?_, by omega, (l2.push rfl).mv (g3.at (by simp [pTq])) (g3.row (fun k => by simp [pTq])), c2.mv r20 (by rw [g3.row (fun k => by simp [pTq]), up_j (by decide), up_j (by decide)]) (by rw [g3.row (fun k => by simp [pTq]), up_j (by decide), up_j (by decide)]), by omega, by rw [List.length_cons]; omega⟩ (Or.inl ⟨rfl, k1, rfl⟩) (by rw [List.length_cons]; omega) (by omega) (Or.inr (by omega)) (k3 hdm)
        rw [nbr, if_neg (by omega)]; omega
    refine r_aload_n (dc kc_X12_behindTest_0 17 rfl) rfl <| s_iload_n (dc kc_X12_behindTest_0 18 rfl) rfl <| s_if_eq (tgt := 45) (dc kc_X12_behindTest_0 19 rfl) rfl (fun c37 => (k_b (dc kc_X12_behindTest_0 22 rfl) rfl <| ?_)) (fun c37 => (k_b (dc kc_X12_behindTest_0 20 rfl) rfl <| s_goto (tgt := 47) (dc kc_X12_behindTest_0 21 rfl) rfl <| ?_))
    · exact ps _ (by omega)
    · exact ps _ (by omega)
  have rest : tkF t N f ≠ 17 → tkF t N f ≠ 16 → ∀ y : Int, Run (d+8) mt_X12_behindTest Q (n, mr, 0, 0) mi 56 [vR (some (0, 80)), vI y] [] := fun n17 n16 y => by
    obtain ⟨i1, i2, i3, i4⟩ := mT1 (nu := nuF t N) (nx := nxF t N) (o := o) (u := u) (b := b) (tg := tg) (e := e) (pp := pp) (v := v) (R := R) (c := c) htd hbnd n17 hx7
    refine r_aload_n (dc kc_X12_behindTest_0 28 rfl) rfl <| c_v0r (dc kc_X12_behindTest_0 29 rfl) cl_X12_272 rfl (Nat.le_of_ble_eq_true rfl) (Nat.zero_le _) (Nat.zero_le _) ?_
    refine t_inner hL ePl (by omega) ?_
    refine k_i (dc kc_X12_behindTest_0 30 rfl) rfl <| s_icmp_ne (tgt := 66) (dc kc_X12_behindTest_0 31 rfl) rfl (fun c61 => (r_aload_n (dc kc_X12_behindTest_0 34 rfl) rfl <| r_aload_n (dc kc_X12_behindTest_0 35 rfl) rfl <| k_b (dc kc_X12_behindTest_0 36 rfl) rfl <| c_v1r (dc kc_X12_behindTest_0 37 rfl) cl_X12_215 rfl (Nat.le_of_ble_eq_true rfl) (Nat.zero_le _) (Nat.zero_le _) <| t_isSign <| c_v1 (dc kc_X12_behindTest_0 38 rfl) cl_X12_187 rfl (Nat.le_of_ble_eq_true rfl) (Nat.zero_le _) (Nat.zero_le _) ?_)) (fun c61 => (k_i (dc kc_X12_behindTest_0 32 rfl) rfl <| s_ireturn (dc kc_X12_behindTest_0 33 rfl) rfl (Nat.zero_le _) (Nat.zero_le _) ?_))
    · obtain ⟨P2, hP2, hpl2⟩ := opr_inn i1 i2 c61
      have onb := (nbr_opr (l := 1) (by decide) P).1
      rw [hP2, nbr, if_pos (by decide)] at onb
      have hnb2 := nbr_0 P2
      have hl2 : (opr P 1).length = P2.length + 1 := by rw [hP2, List.length_cons]
      have hKl := (KJ_len2 (ts := ts) (R := R) P2).2
      rw [hP2] at i4
      have i4 : Rh (tkF t N) (nuF t N) (nxF t N) o (2 * (opn P 1).length + 1) (f, u, b, -1, Kst ts R P, tg, e, pp, v, c) (f, u, b, -1, 711 :: 73 :: Kst ts R P2, tg, e, pp, v, c ++ (opn P 1).map (fun x => tokOf x 0)) := i4
      have hm7 := i4.tr (rul_0 (tk := tkF t N) (o := o) (L := []) (by decide) (by rw [List.length_cons]; omega) (by rw [prd_711, if_neg n16]))
      by_cases h73 : mi 0 80 14 = 3 ∧ mi 0 80 15 = 41
      · rw [bi_t h73]
        have h73 : tkF t N f = 73 := s41.mp h73
        obtain ⟨p1, p2, p3, p4⟩ := eA.nx hP (by omega)
        have hdt := due_t (tk := tkF t N) (nu := nuF t N) (nx := nxF t N) (o := o) (f := f) (u := u) (b' := b) (y := 73) (tg := tg) (e := e) (r := Kst ts R P2) (pp := pp) (v := v) (c := c ++ (opn P 1).map (fun x => tokOf x 0)) (by decide) (by omega) p2 h73 (by omega)
        rw [if_neg (by decide), if_pos (Or.inl rfl)] at hdt
        refine t_mustA hL hP eA (by omega) (by omega) (fun m2 g2 h2 => ?_)
        have e17 := h2.b
        have q20 : m2 0 80 20 = mi 0 80 20 := g2.at (by simp [pTq])
        have q24 : m2 0 80 24 = mi 0 80 24 := g2.at (by simp [pTq])
        have q25 : m2 0 80 25 = mi 0 80 25 := g2.at (by simp [pTq])
        refine r_aload_n (dc kc_X12_behindTest_0 39 rfl) rfl <| s_getZ (dc kc_X12_behindTest_1 0 rfl) fl_X12_146 <| s_if_ne (tgt := 108) (dc kc_X12_behindTest_1 1 rfl) rfl (fun c80 => (k_i (dc kc_X12_behindTest_1 17 rfl) rfl <| s_ireturn (dc kc_X12_behindTest_1 18 rfl) rfl (Nat.zero_le _) (Nat.zero_le _) ?_)) (fun c80 => (r_aload_n (dc kc_X12_behindTest_1 2 rfl) rfl <| k_i (dc kc_X12_behindTest_1 3 rfl) rfl <| c_v1 (dc kc_X12_behindTest_1 4 rfl) cl_X12_269 rfl (Nat.le_of_ble_eq_true rfl) (Nat.zero_le _) (Nat.zero_le _) ?_))
        · exfalso; omega
        · refine t_settleT hL (ePl.mv q24 (g2.row (fun k => by simp [pTq]))) (eCd.mv q20 (g2.row (fun k => by simp [pTq])) (g2.row (fun k => by simp [pTq]))) hC0 (by omega) (fun m3 g3 l3 c3 f3 => ?_)
          have r24 := l3.1
          have r20 := c3.1
          rw [List.length_append, List.length_map] at r20
          have r25 : m3 0 80 25 = mi 0 80 25 := by rw [g3.at (by simp [pStl]), q25]
          rw [hP2] at l3
          have u25 : up m3 0 80 24 (m3 0 80 24 - 1) 0 80 25 = mi 0 80 25 := by rw [up_k (by decide), r25]
          refine r_aload_n (dc kc_X12_behindTest_1 5 rfl) rfl <| s_dup (dc kc_X12_behindTest_1 6 rfl) rfl <| s_getI (dc kc_X12_behindTest_1 7 rfl) fl_X12_194 <| k_i (dc kc_X12_behindTest_1 8 rfl) rfl <| b_isub (dc kc_X12_behindTest_1 9 rfl) (by first | omega | (simp [up] <;> omega)) (by first | omega | (simp [up] <;> omega)) <| s_putI (dc kc_X12_behindTest_1 10 rfl) fl_X12_194 <| r_aload_n (dc kc_X12_behindTest_1 11 rfl) rfl <| s_dup (dc kc_X12_behindTest_1 12 rfl) rfl <| s_getI (dc kc_X12_behindTest_1 13 rfl) fl_X12_212 <| k_i (dc kc_X12_behindTest_1 14 rfl) rfl <| b_isub (dc kc_X12_behindTest_1 15 rfl) (by first | omega | (simp [up] <;> omega)) (by first | omega | (simp [up] <;> omega)) <| s_putI (dc kc_X12_behindTest_1 16 rfl) fl_X12_212 <| k_i (dc kc_X12_behindTest_1 17 rfl) rfl <| s_ireturn (dc kc_X12_behindTest_1 18 rfl) rfl (Nat.zero_le _) (Nat.zero_le _) ?_
          rw [u25]
          have gc : Ch (fun j k => j == 80 && (k == 24 || k == 25)) m3 (up (up m3 0 80 24 (m3 0 80 24 - 1)) 0 80 25 (mi 0 80 25 - 1)) := (Ch.rf.up (by simp)).up (by simp)
          have g4 : Ch (pPr C0) mi (up (up m3 0 80 24 (m3 0 80 24 - 1)) 0 80 25 (mi 0 80 25 - 1)) := ((pr_Tq (C0 := C0) g2).tr (pr_Stl g3 f3 (by omega))).tr (gc.mono (fun j k z => by simp at z; simp [pPr]; omega))
          have h3 := (h2.mv g3 (fun k => by simp [pStl]) (fun k k0 k1 => by simp [pStl]; omega)).mv gc (fun k => by simp) (fun k k0 k1 => by simp; omega)
          by_cases hdm : 59 ≤ u ∧ tkF t N (nxF t N f) ≠ 91 ∧ tkF t N (nxF t N f) ≠ 23
          · unfold Tko at h3
            rw [if_pos hdm] at h3
            exact hD0 _ _ _ (pr_mono hC0 g4) ⟨Or.inl h3, by simp [up]; omega, by simp [up]; omega, by simp [up]; omega, fun _ => by simp [up]; omega, by simp [up]; omega⟩ ((hm7.dn (hdt.1 hdm)).mono (by omega))
          · unfold Tko at h3
            rw [if_neg hdm] at h3
            exact hA _ 2 P2 _ _ (b - 1) ((opn P 1).map (fun x => tokOf x 0)) (Kst ts R P2) _ g4 ⟨h3, by simp [up]; omega, by omega, by omega, l3.pop (by simp [up]) (by rw [up_j (by decide), up_j (by decide)]), c3.mv (by simp [up]) (by rw [up_j (by decide), up_j (by decide)]) (by rw [up_j (by decide), up_j (by decide)]), by simp [up]; omega, by omega⟩ (Or.inr (Or.inr (Or.inr (Or.inl ⟨rfl, Or.inl hpl2, rfl, fun z => absurd hpl2 z⟩)))) (by omega) (by omega) (Or.inr (by omega)) (hm7.tr (hdt.2 hdm))
      · rw [bi_f h73]
        have h73 : tkF t N f ≠ 73 := fun z => h73 (s41.mpr z)
        have hdf := due_f (tk := tkF t N) (nu := nuF t N) (nx := nxF t N) (o := o) (f := f) (u := u) (b' := b) (y := 73) (tg := tg) (e := e) (r := Kst ts R P2) (pp := pp) (v := v) (c := c ++ (opn P 1).map (fun x => tokOf x 0)) (by decide) (by omega) (by omega) (Or.inl h73)
        refine t_mustF hL eA (fun m2 g2 h2 => ?_)
        have e17 := h2.1
        refine r_aload_n (dc kc_X12_behindTest_0 39 rfl) rfl <| s_getZ (dc kc_X12_behindTest_1 0 rfl) fl_X12_146 <| s_if_ne (tgt := 108) (dc kc_X12_behindTest_1 1 rfl) rfl (fun c80 => (k_i (dc kc_X12_behindTest_1 17 rfl) rfl <| s_ireturn (dc kc_X12_behindTest_1 18 rfl) rfl (Nat.zero_le _) (Nat.zero_le _) ?_)) (fun c80 => (?_))
        · exact hD0 m2 _ _ (pr_Tq g2) (DX.of (m := m2) h2 (by rw [g2.at (by simp [pTq])]; omega) (by rw [g2.at (by simp [pTq])]; omega) (by rw [g2.at (by simp [pTq]), g2.at (by simp [pTq])]; omega) (by rw [g2.at (by simp [pTq])]; omega)) ((hm7.dn hdf).mono (by omega))
        · exfalso; omega
    · exact hA mi 4 P f u b [] (Kst ts R P) 0 Ch.rf (by rw [List.append_nil]; exact hE) (Or.inr (Or.inr (Or.inr (Or.inr ⟨rfl, by omega, Or.inr ⟨htd, rfl, n16, n17, hx7⟩⟩)))) (by omega) (by omega) (Or.inl (Or.inr rfl)) (by rw [List.append_nil]; exact Rh.rf)
  refine tx_intro (ls := [vR (some (0, 80)), vX 0]) om_X12_behindTest rfl (Nat.le_of_ble_eq_true rfl) ?_
  refine r_aload_n (dc kc_X12_behindTest_0 0 rfl) rfl <| k_j (dc kc_X12_behindTest_0 1 rfl) kj_X12_279 rfl (a := 1476) (by decide) <| c_v1r (dc kc_X12_behindTest_0 2 rfl) cl_X12_220 rfl (Nat.le_of_ble_eq_true rfl) (Nat.zero_le _) (Nat.zero_le _) <| t_isWord <| t_i1 (dc kc_X12_behindTest_0 3 rfl) (Nat.le_of_ble_eq_true rfl) rfl <| ?_
  by_cases h17 : mi 0 80 14 = 1 ∧ mi 0 80 15 = 1476
  · rw [bi_t h17]
    have h17 := w17.mp h17
    refine s_iload_n (dc kc_X12_behindTest_0 4 rfl) rfl <| s_if_ne (tgt := 22) (dc kc_X12_behindTest_0 5 rfl) rfl (fun c9 => (r_aload_n (dc kc_X12_behindTest_0 10 rfl) rfl <| s_iload_n (dc kc_X12_behindTest_0 11 rfl) rfl <| s_if_eq (tgt := 31) (dc kc_X12_behindTest_0 12 rfl) rfl (fun c24 => (k_i (dc kc_X12_behindTest_0 15 rfl) rfl <| ?_)) (fun c24 => (k_i (dc kc_X12_behindTest_0 13 rfl) rfl <| s_goto (tgt := 32) (dc kc_X12_behindTest_0 14 rfl) rfl <| ?_)))) (fun c9 => (?_))
    all_goals first | (exfalso; omega) | exact pm 1 2 28 (Or.inl ⟨rfl, rfl, rfl, h17⟩)
  · rw [bi_f h17]
    have h17 : tkF t N f ≠ 17 := fun z => h17 (w17.mpr z)
    refine s_iload_n (dc kc_X12_behindTest_0 4 rfl) rfl <| s_if_ne (tgt := 22) (dc kc_X12_behindTest_0 5 rfl) rfl (fun c9 => (r_aload_n (dc kc_X12_behindTest_0 10 rfl) rfl <| s_iload_n (dc kc_X12_behindTest_0 11 rfl) rfl <| s_if_eq (tgt := 31) (dc kc_X12_behindTest_0 12 rfl) rfl (fun c24 => (k_i (dc kc_X12_behindTest_0 15 rfl) rfl <| ?_)) (fun c24 => (k_i (dc kc_X12_behindTest_0 13 rfl) rfl <| s_goto (tgt := 32) (dc kc_X12_behindTest_0 14 rfl) rfl <| ?_)))) (fun c9 => (r_aload_n (dc kc_X12_behindTest_0 6 rfl) rfl <| k_j (dc kc_X12_behindTest_0 7 rfl) kj_X12_281 rfl (a := 498) (by decide) <| c_v1r (dc kc_X12_behindTest_0 8 rfl) cl_X12_220 rfl (Nat.le_of_ble_eq_true rfl) (Nat.zero_le _) (Nat.zero_le _) <| t_isWord <| s_if_eqb (tgt := 56) (dc kc_X12_behindTest_0 9 rfl) rfl (fun c19 => (?_)) (fun c19 => (r_aload_n (dc kc_X12_behindTest_0 10 rfl) rfl <| s_iload_n (dc kc_X12_behindTest_0 11 rfl) rfl <| s_if_eq (tgt := 31) (dc kc_X12_behindTest_0 12 rfl) rfl (fun c24 => (k_i (dc kc_X12_behindTest_0 15 rfl) rfl <| ?_)) (fun c24 => (k_i (dc kc_X12_behindTest_0 13 rfl) rfl <| s_goto (tgt := 32) (dc kc_X12_behindTest_0 14 rfl) rfl <| ?_))))))
    all_goals first
      | (exfalso; omega)
      | exact pm 0 1 29 (Or.inr ⟨rfl, rfl, rfl, w16.mp c19⟩)
      | exact rest h17 (fun z => c19 (w16.mpr z)) 0
end RXC
