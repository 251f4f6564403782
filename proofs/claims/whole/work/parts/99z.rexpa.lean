/-! the reference: expressions -/
def nbr : List Int → Int
  | [] => 0
  | x :: P => (if 30 ≤ x then 1 else 0) + nbr P
theorem nbr_0 : ∀ P : List Int, 0 ≤ nbr P
  | [] => by simp [nbr]
  | x :: P => by
    have := nbr_0 P
    rw [nbr]
    split <;> omega
theorem KJ_len2 {ts : Bool} {R : List Int} : ∀ P : List Int, ((Jst ts R P).length : Int) ≤ 2 * P.length + 2 * nbr P + 4 + R.length ∧ ((Kst ts R P).length : Int) ≤ 2 * P.length + 2 * nbr P + 3 + R.length
  | [] => by
    constructor
    · show ((if ts = true then 721 :: 715 :: 713 :: 711 :: R else 721 :: R).length : Int) ≤ _
      split <;> simp [nbr] <;> omega
    · show ((713 :: 711 :: R).length : Int) ≤ _
      simp [nbr]; omega
  | x :: P => by
    obtain ⟨h1, h2⟩ := KJ_len2 (ts := ts) (R := R) P
    have h0 := nbr_0 P
    unfold Jst Kst at *
    have h3 := List.length_drop (i := 2) (l := (KJ ts R P).2)
    rw [KJ, List.length_cons, nbr]
    by_cases c1 : x = 31
    · rw [if_pos c1, if_pos (by omega)]; simp only [List.length_cons]; omega
    · rw [if_neg c1]
      by_cases c2 : x = 30
      · rw [if_pos c2, if_pos (by omega)]; simp only [List.length_cons]; omega
      · rw [if_neg c2]
        have h4 : (0 : Int) ≤ (if 30 ≤ x then 1 else 0) := by split <;> omega
        generalize (if 30 ≤ x then (1 : Int) else 0) = z at *
        repeat' split
        all_goals (simp only [List.length_cons]; omega)
/-- an expression in the reading: pile P, the row's code K from C0 on -/
def EX (t : Int → Int) (N : Int) (m : MI) (C0 : Int) (K : List CT) (P : List Int) (f u b : Int) : Prop := RA t N m f u ∧ m 0 80 25 = b ∧ b = nbr P ∧ b ≤ 8 ∧ Pil m P ∧ CdR m C0 K ∧ m 0 80 20 + m 0 80 24 ≤ f ∧ (P.length : Int) + 1 ≤ u
def OvT (ts : Bool) (R P : List Int) (x : Int) (stk : List Int) : Prop := inn P = -1 ∧ ((ts = false ∧ PsT ts P ∧ stk = Jst ts R P ∧ x ≠ 75 ∧ x ≠ 77) ∨ (TdT ts P ∧ stk = Kst ts R P ∧ x ≠ 16 ∧ x ≠ 17 ∧ (¬ PlT ts P → x ≠ 75 ∧ x ≠ 77)))
def StT (ts : Bool) (R : List Int) (tn : Int) (P : List Int) (x : Int) (stk : List Int) : Prop := (tn = 0 ∧ PlT ts P ∧ stk = 714 :: Kst ts R P) ∨ (tn = 1 ∧ PsT ts P ∧ stk = 722 :: Jst ts R P) ∨ (tn = 3 ∧ PsT ts P ∧ stk = Jst ts R P) ∨ (tn = 2 ∧ TdT ts P ∧ stk = Kst ts R P ∧ (¬ PlT ts P → x ≠ 75 ∧ x ≠ 77)) ∨ (tn = 4 ∧ OvT ts R P x stk)
section RXA
variable {d n G : Nat} {mr : MR} {Q : V → MI → Nat → MR → Prop} {t : Int → Int} {N o : Int} {ts : Bool} {R : List Int} {tg e : Int} {pp v : List CT}
/-- what a turn of the reading comes to -/
def TnA (sg st k2 : Int) (t : Int → Int) (N o : Int) (ts : Bool) (R : List Int) (tg e : Int) (pp v : List CT) (C0 : Int) (mi : MI) (n : Nat) (mr : MR) (Q : V → MI → Nat → MR → Prop) (K : List CT) (P : List Int) (f u b : Int) (S : List Int) (c : List CT) : Prop :=
  ∀ (m' : MI) (tn : Int) (P' : List Int) (f' u' b' : Int) (nd : List CT) (S' : List Int) (a : Nat), Ch (pPr C0) mi m' → EX t N m' C0 (K ++ nd) P' f' u' b' → StT ts R tn P' (tkF t N f') S' → (a : Int) + 5 * P'.length + sg ≤ 5 * P.length + 50 * (u' - u) → u + st ≤ u' → ((tn = k2 ∨ tn = 4) ∨ u < u') → Rh (tkF t N) (nuF t N) (nxF t N) o a (f, u, b, -1, S, tg, e, pp, v, c) (f', u', b', -1, S', tg, e, pp, v, c ++ nd) → Q (vI tn) m' n mr
def TnD (ga : Nat) (t : Int → Int) (N o : Int) (tg e : Int) (pp v : List CT) (mi : MI) (n : Nat) (mr : MR) (Q : V → MI → Nat → MR → Prop) (f u b : Int) (S : List Int) (c : List CT) : Prop :=
  ∀ (m' : MI) (tn p : Int), Ch (pPr 0) mi m' → DX t N m' p → Dn (tkF t N) (nuF t N) (nxF t N) o ga (f, u, b, -1, S, tg, e, pp, v, c) p → Q (vI tn) m' n mr
theorem pr_mono {C0 : Int} {m m' : MI} (hC : 0 ≤ C0) (h : Ch (pPr C0) m m') : Ch (pPr 0) m m' := h.mono (fun j k z => by simp [pPr] at z ⊢; omega)
theorem EX.nx {m : MI} {C0 f u b : Int} {K : List CT} {P : List Int} (hP : Tpe t N) (h : EX t N m C0 K P f u b) (hx : tkF t N f ≠ 23) : f ≠ -1 ∧ nxF t N f ≠ -1 ∧ f < nxF t N f ∧ nxF t N f ≤ N := h.1.nx hP hx
theorem t_readPartA (hL : Lay G mr) (hP : Tpe t N) {mi : MI} {C0 f u b : Int} {K c : List CT} {P : List Int} (hE : EX t N mi C0 K P f u b) (hC0 : 0 ≤ C0) (hps : PsT ts P) (hR : R.length ≤ 2) (ho : mi 0 80 19 = o) (ho1 : o = 0 ∨ o = 1)
    (hA : TnA 5 1 4 t N o ts R tg e pp v C0 mi n mr Q K P f u b (722 :: Jst ts R P) c) (hD : TnD 600 t N o tg e pp v mi n mr Q f u b (722 :: Jst ts R P) c) : Tx (d+7) mt_X12_readPart [vR (some (0, 80))] mi n mr Q := by
  obtain ⟨eA, e25, ebr, eb8, ePl, eCd, ew, ePu⟩ := id hE
  have hD0 := hD
  have hD : ∀ (m' : MI) (tn p : Int), Ch (pPr C0) mi m' → DX t N m' p → Dn (tkF t N) (nuF t N) (nxF t N) o 600 (f, u, b, -1, 722 :: Jst ts R P, tg, e, pp, v, c) p → Q (vI tn) m' n mr := fun m' tn p g => hD0 m' tn p (pr_mono hC0 g)
  have hN := hP.1.2
  have hf := eA.2.2.2.2.1
  have hu60 := eA.2.2.2.2.2.1
  have e17 := eA.2.2.1
  have e20 := eCd.1
  have e24 := ePl.1
  have hnb := nbr_0 P
  have hJl := (KJ_len2 (ts := ts) (R := R) P).1
  have hsl : (Jst ts R P).length < 190 := by omega
  have s91 := eA.2.1.sign hP hf.1 (c := 91) (by decide) (by decide) (by decide)
  have w12 := eA.2.1.word hP hf.1 12 (by decide) (H := 11449) (by decide +kernel)
  have w9 := eA.2.1.word hP hf.1 9 (by decide) (H := 460197) (by decide +kernel)
  have w19 := eA.2.1.word hP hf.1 19 (by decide) (H := 408362632) (by decide +kernel)
  have w20 := eA.2.1.word hP hf.1 20 (by decide) (H := 21483564) (by decide +kernel)
  -- a number ends it
  have num : ∀ (m2 : MI) (f2 u2 : Int) (a : Nat) (op y mm : Int), Ch (pPr C0) mi m2 → RA t N m2 f2 u2 → m2 0 80 20 = mi 0 80 20 → m2 0 80 24 = mi 0 80 24 → m2 0 80 25 = mi 0 80 25 → m2 0 89 = mi 0 89 → m2 0 87 = mi 0 87 → m2 0 88 = mi 0 88 → f ≤ f2 → u ≤ u2 → (a : Int) ≤ 20 → 300 ≤ y → y < 400 → mst (y - 300) = mm → mm ≤ 99 → y ≠ 326 → y ≠ 327 → (∀ z, tokOf op z = (y - 300, z)) → Rh (tkF t N) (nuF t N) (nxF t N) o a (f, u, b, -1, 722 :: Jst ts R P, tg, e, pp, v, c) (f2, u2, b, -1, y :: Jst ts R P, tg, e, pp, v, c) → ∀ x2 : V, Run (d+7) mt_X12_readPart Q (n, mr, 0, 0) m2 150 [vR (some (0, 80)), vI op, x2] [vL mm, vR (some (0, 80))] := by
    intro m2 f2 u2 a op y mm g2 hA2 q20 q24 q25 q89 q87 q88 hff huu ha hy1 hy2 hms hm99 hy6 hy7 htok hRh x2
    have hf2 := hA2.2.2.2.2.1
    refine c_v1r (dc kc_X12_readPart_1 32 rfl) cl_X12_237 rfl (Nat.le_of_ble_eq_true rfl) (Nat.zero_le _) (Nat.zero_le _) ?_
    refine t_numberA hL hP hA2 hm99 (fun h22 hnu m3 g3 h3 => ?_) (fun hno m3 z g3 h3 => ?_)
    · have r20 : m3 0 80 20 = mi 0 80 20 := by rw [g3.at (by simp [pTq]), q20]
      have r24 : m3 0 80 24 = mi 0 80 24 := by rw [g3.at (by simp [pTq]), q24]
      have r25 : m3 0 80 25 = mi 0 80 25 := by rw [g3.at (by simp [pTq]), q25]
      obtain ⟨p1, p2, p3, p4⟩ := hA2.nx hP (by omega)
      have hnt := num_t (tk := tkF t N) (nu := nuF t N) (nx := nxF t N) (o := o) (f := f2) (u := u2) (b' := b) (y := y) (tg := tg) (e := e) (r := Jst ts R P) (pp := pp) (v := v) (c := c) hy1 hy2 (by omega) p2 h22 (by rw [hms]; exact hnu)
      rw [if_neg hy6, if_neg hy7, if_neg (by omega)] at hnt
      have e17 := h3.b
      have hC3 := (eCd.mv r20 (by rw [g3.row (fun k => by simp [pTq]), q87]) (by rw [g3.row (fun k => by simp [pTq]), q88])).emit (op := op) (a := nuF t N f2) rfl
      rw [htok] at hC3
      refine t_i2 (dc kc_X12_readPart_1 33 rfl) (Nat.le_of_ble_eq_true rfl) rfl <| r_aload_n (dc kc_X12_readPart_1 34 rfl) rfl <| s_getZ (dc kc_X12_readPart_1 35 rfl) fl_X12_146 <| s_if_ne (tgt := 167) (dc kc_X12_readPart_1 36 rfl) rfl (fun c158 => (k_i (dc kc_X12_readPart_2 1 rfl) rfl <| s_ireturn (dc kc_X12_readPart_2 2 rfl) rfl (Nat.zero_le _) (Nat.zero_le _) ?_)) (fun c158 => (r_aload_n (dc kc_X12_readPart_1 37 rfl) rfl <| s_iload_n (dc kc_X12_readPart_1 38 rfl) rfl <| s_iload_n (dc kc_X12_readPart_1 39 rfl) rfl <| c_v2 (dc kc_X12_readPart_2 0 rfl) cl_X12_200 rfl (Nat.le_of_ble_eq_true rfl) (Nat.zero_le _) (Nat.zero_le _) ?_))
      · exfalso; omega
      · refine t_emit hL (by omega) (by omega) ?_
        refine k_i (dc kc_X12_readPart_2 1 rfl) rfl <| s_ireturn (dc kc_X12_readPart_2 2 rfl) rfl (Nat.zero_le _) (Nat.zero_le _) ?_
        have g4 := pr_emit (op := op) (a := nuF t N f2) (y := m3 0 80 20 + 1) (z := m3 0 80 20) (g2.tr (pr_Tq (C0 := C0) g3)) (by omega)
        by_cases hdm : 59 ≤ u2 ∧ tkF t N (nxF t N f2) ≠ 91 ∧ tkF t N (nxF t N f2) ≠ 23
        · unfold Tko at h3
          rw [if_pos hdm] at h3
          exact hD _ _ _ g4 ⟨Or.inl (h3.mv ch_emit (fun k => by simp) (fun k k0 k1 => by simp; omega)), by simp [up]; omega, by simp [up]; omega, by simp [up]; omega, fun _ => by simp [up]; omega, by simp [up]; omega⟩ ((hRh.dn (hnt.1 hdm)).mono (by omega))
        · unfold Tko at h3
          rw [if_neg hdm] at h3
          refine hA _ 3 P _ _ b [(y - 300, nuF t N f2)] (Jst ts R P) (a + 1) g4 ⟨h3.mv ch_emit (fun k => by simp) (fun k k0 k1 _ => by simp; omega), by simp [up]; omega, ebr, eb8, ePl.mv (by simp [up]; omega) (by rw [up_j (by decide), up_j (by decide), up_j (by decide), g3.row (fun k => by simp [pTq]), q89]), hC3, by simp [up]; omega, by omega⟩ (Or.inr (Or.inr (Or.inl ⟨rfl, hps, rfl⟩))) (by omega) (by omega) (Or.inr (by omega)) (hRh.tr (hnt.2 hdm))
    · have e17 := h3.1
      have hnf := num_f (tk := tkF t N) (nu := nuF t N) (nx := nxF t N) (o := o) (f := f2) (u := u2) (b' := b) (y := y) (tg := tg) (e := e) (r := Jst ts R P) (pp := pp) (v := v) (c := c) hy1 hy2 (by omega) (by omega) (by rw [hms]; exact hno)
      refine t_i2 (dc kc_X12_readPart_1 33 rfl) (Nat.le_of_ble_eq_true rfl) rfl <| r_aload_n (dc kc_X12_readPart_1 34 rfl) rfl <| s_getZ (dc kc_X12_readPart_1 35 rfl) fl_X12_146 <| s_if_ne (tgt := 167) (dc kc_X12_readPart_1 36 rfl) rfl (fun c158 => (k_i (dc kc_X12_readPart_2 1 rfl) rfl <| s_ireturn (dc kc_X12_readPart_2 2 rfl) rfl (Nat.zero_le _) (Nat.zero_le _) ?_)) (fun c158 => (?_))
      · exact hD m3 _ _ (g2.tr (pr_Tq g3)) (DX.of (m := m3) h3 (by rw [g3.at (by simp [pTq])]; omega) (by rw [g3.at (by simp [pTq])]; omega) (by rw [g3.at (by simp [pTq]), g3.at (by simp [pTq])]; omega) (by rw [g3.at (by simp [pTq])]; omega)) ((hRh.dn hnf).mono (by omega))
      · exfalso; omega
  -- a word, then a number
  have wrd : ∀ (k : Nat) (op : Int), (k = 9 ∧ op = 1) ∨ (k = 19 ∧ op = 2) ∨ (k = 20 ∧ op = 3) → tkF t N f = k → Run (d+7) mt_X12_readPart Q (n, mr, 0, 0) mi 127 [vR (some (0, 80)), vX 0, vX 0] [vI op] := by
    intro k op hk hxk
    have hprd : prd o (tkF t N f) 722 = some (1, [300 + (k : Int)]) := by
      rw [hxk]
      rcases hk with z | z | z <;> (rw [z.1]; rfl)
    obtain ⟨p1, p2, p3, p4⟩ := eA.nx hP (by omega)
    have hrt := rul_t (tk := tkF t N) (nu := nuF t N) (nx := nxF t N) (o := o) (f := f) (u := u) (b' := b) (y := 722) (tg := tg) (e := e) (r := Jst ts R P) (pp := pp) (v := v) (c := c) (by decide) (by omega) p2 hprd
    refine t_i1 (dc kc_X12_readPart_1 21 rfl) (Nat.le_of_ble_eq_true rfl) rfl <| s_iload_n (dc kc_X12_readPart_1 22 rfl) rfl <| s_if_eq (tgt := 136) (dc kc_X12_readPart_1 23 rfl) rfl (fun c129 => (?_)) (fun c129 => (r_aload_n (dc kc_X12_readPart_1 24 rfl) rfl <| c_v0 (dc kc_X12_readPart_1 25 rfl) cl_X12_184 rfl (Nat.le_of_ble_eq_true rfl) (Nat.zero_le _) (Nat.zero_le _) ?_))
    · exfalso; omega
    · refine t_passA hL hP eA (by omega) (by omega) (fun m2 g2 h2 => ?_)
      have q20 : m2 0 80 20 = mi 0 80 20 := g2.at (by simp [pTq])
      have q24 : m2 0 80 24 = mi 0 80 24 := g2.at (by simp [pTq])
      have q25 : m2 0 80 25 = mi 0 80 25 := g2.at (by simp [pTq])
      by_cases hdm : 59 ≤ u ∧ tkF t N (nxF t N f) ≠ 91 ∧ tkF t N (nxF t N f) ≠ 23
      · unfold Tko at h2
        rw [if_pos hdm] at h2
        have fin : ∀ mm : Int, Run (d+7) mt_X12_readPart Q (n, mr, 0, 0) m2 150 [vR (some (0, 80)), vI op, vX 0] [vL mm, vR (some (0, 80))] := fun mm => by
          refine c_v1r (dc kc_X12_readPart_1 32 rfl) cl_X12_237 rfl (Nat.le_of_ble_eq_true rfl) (Nat.zero_le _) (Nat.zero_le _) ?_
          refine t_numberD hL (Or.inl h2) (fun m3 z g3 h3 => ?_)
          have e17 := h3.1
          refine t_i2 (dc kc_X12_readPart_1 33 rfl) (Nat.le_of_ble_eq_true rfl) rfl <| r_aload_n (dc kc_X12_readPart_1 34 rfl) rfl <| s_getZ (dc kc_X12_readPart_1 35 rfl) fl_X12_146 <| s_if_ne (tgt := 167) (dc kc_X12_readPart_1 36 rfl) rfl (fun c158 => (k_i (dc kc_X12_readPart_2 1 rfl) rfl <| s_ireturn (dc kc_X12_readPart_2 2 rfl) rfl (Nat.zero_le _) (Nat.zero_le _) ?_)) (fun c158 => (?_))
          · exact hD m3 _ _ ((pr_Tq g2).tr (pr_Tq g3)) (DX.of (m := m3) h3 (by rw [g3.at (by simp [pTq])]; omega) (by rw [g3.at (by simp [pTq])]; omega) (by rw [g3.at (by simp [pTq]), g3.at (by simp [pTq])]; omega) (by rw [g3.at (by simp [pTq])]; omega)) ((hrt.1 hdm).mono (by omega))
          · exfalso; omega
        refine r_aload_n (dc kc_X12_readPart_1 26 rfl) rfl <| s_iload_n (dc kc_X12_readPart_1 27 rfl) rfl <| s_if_ne (tgt := 147) (dc kc_X12_readPart_1 28 rfl) rfl (fun c138 => (k_j (dc kc_X12_readPart_1 31 rfl) kj_X12_235 rfl (a := 2) (by decide) <| ?_)) (fun c138 => (k_j (dc kc_X12_readPart_1 29 rfl) kj_X12_261 rfl (a := 99) (by decide) <| s_goto (tgt := 150) (dc kc_X12_readPart_1 30 rfl) rfl <| ?_))
        · exact fin _
        · exact fin _
      · unfold Tko at h2
        rw [if_neg hdm] at h2
        refine r_aload_n (dc kc_X12_readPart_1 26 rfl) rfl <| s_iload_n (dc kc_X12_readPart_1 27 rfl) rfl <| s_if_ne (tgt := 147) (dc kc_X12_readPart_1 28 rfl) rfl (fun c138 => (k_j (dc kc_X12_readPart_1 31 rfl) kj_X12_235 rfl (a := 2) (by decide) <| ?_)) (fun c138 => (k_j (dc kc_X12_readPart_1 29 rfl) kj_X12_261 rfl (a := 99) (by decide) <| s_goto (tgt := 150) (dc kc_X12_readPart_1 30 rfl) rfl <| ?_))
        · refine num m2 _ _ 1 op (300 + (k : Int)) 2 (pr_Tq g2) h2 q20 q24 q25 (g2.row (fun k => by simp [pTq])) (g2.row (fun k => by simp [pTq])) (g2.row (fun k => by simp [pTq])) (by omega) (by omega) (by omega) (by omega) (by omega) ?_ (by omega) (by omega) (by omega) (fun z => ?_) (hrt.2 hdm) _
          · rcases hk with z | z | z <;> (rw [z.1]; rfl)
          · rw [show 300 + (k : Int) - 300 = k by omega]
            rcases hk with w | w | w <;> (rw [w.1, w.2]; rfl)
        · exfalso; omega
  have nmb0 : ¬ tkF t N f = 123 → ¬ tkF t N f = 9 → ¬ tkF t N f = 19 → ¬ tkF t N f = 20 → ¬ (tkF t N f = 12 ∧ o = 1) → Run (d+7) mt_X12_readPart Q (n, mr, 0, 0) mi 127 [vR (some (0, 80)), vX 0, vX 0] [vI 0] := fun n1 n2 n3 n4 n5 => by
    by_cases h22 : tkF t N f = 22
    · have hr0 := rul_0 (tk := tkF t N) (nu := nuF t N) (nx := nxF t N) (o := o) (f := f) (u := u) (b' := b) (y := 722) (tg := tg) (e := e) (L := [322]) (r := Jst ts R P) (pp := pp) (v := v) (c := c) (by decide) (by omega) (by rw [h22]; rfl)
      refine t_i1 (dc kc_X12_readPart_1 21 rfl) (Nat.le_of_ble_eq_true rfl) rfl <| s_iload_n (dc kc_X12_readPart_1 22 rfl) rfl <| s_if_eq (tgt := 136) (dc kc_X12_readPart_1 23 rfl) rfl (fun c129 => (r_aload_n (dc kc_X12_readPart_1 26 rfl) rfl <| s_iload_n (dc kc_X12_readPart_1 27 rfl) rfl <| s_if_ne (tgt := 147) (dc kc_X12_readPart_1 28 rfl) rfl (fun c138 => (k_j (dc kc_X12_readPart_1 31 rfl) kj_X12_235 rfl (a := 2) (by decide) <| ?_)) (fun c138 => (k_j (dc kc_X12_readPart_1 29 rfl) kj_X12_261 rfl (a := 99) (by decide) <| s_goto (tgt := 150) (dc kc_X12_readPart_1 30 rfl) rfl <| ?_)))) (fun c129 => (r_aload_n (dc kc_X12_readPart_1 24 rfl) rfl <| c_v0 (dc kc_X12_readPart_1 25 rfl) cl_X12_184 rfl (Nat.le_of_ble_eq_true rfl) (Nat.zero_le _) (Nat.zero_le _) ?_))
      all_goals first
        | (exfalso; omega)
        | exact num mi f u 1 0 322 99 Ch.rf eA rfl rfl rfl rfl rfl rfl (by omega) (by omega) (by omega) (by omega) (by omega) rfl (by omega) (by omega) (by omega) (fun z => rfl) hr0 _
    · have hrf := rul_f (tk := tkF t N) (nu := nuF t N) (nx := nxF t N) (o := o) (f := f) (u := u) (b' := b) (y := 722) (tg := tg) (e := e) (r := Jst ts R P) (pp := pp) (v := v) (c := c) (by decide) (by omega) (by omega) (by rw [prd_722, if_neg h22, if_neg n2, if_neg n3, if_neg n4, if_neg n1, if_neg n5])
      have fin : Run (d+7) mt_X12_readPart Q (n, mr, 0, 0) mi 150 [vR (some (0, 80)), vI 0, vX 0] [vL 99, vR (some (0, 80))] := by
        refine c_v1r (dc kc_X12_readPart_1 32 rfl) cl_X12_237 rfl (Nat.le_of_ble_eq_true rfl) (Nat.zero_le _) (Nat.zero_le _) ?_
        refine t_numberA hL hP eA (by omega) (fun h _ => absurd h h22) (fun _ m3 z g3 h3 => ?_)
        have e17 := h3.1
        refine t_i2 (dc kc_X12_readPart_1 33 rfl) (Nat.le_of_ble_eq_true rfl) rfl <| r_aload_n (dc kc_X12_readPart_1 34 rfl) rfl <| s_getZ (dc kc_X12_readPart_1 35 rfl) fl_X12_146 <| s_if_ne (tgt := 167) (dc kc_X12_readPart_1 36 rfl) rfl (fun c158 => (k_i (dc kc_X12_readPart_2 1 rfl) rfl <| s_ireturn (dc kc_X12_readPart_2 2 rfl) rfl (Nat.zero_le _) (Nat.zero_le _) ?_)) (fun c158 => (?_))
        · exact hD m3 _ _ (pr_Tq g3) (DX.of (m := m3) h3 (by rw [g3.at (by simp [pTq])]; omega) (by rw [g3.at (by simp [pTq])]; omega) (by rw [g3.at (by simp [pTq]), g3.at (by simp [pTq])]; omega) (by rw [g3.at (by simp [pTq])]; omega)) (hrf.mono (by omega))
        · exfalso; omega
      refine t_i1 (dc kc_X12_readPart_1 21 rfl) (Nat.le_of_ble_eq_true rfl) rfl <| s_iload_n (dc kc_X12_readPart_1 22 rfl) rfl <| s_if_eq (tgt := 136) (dc kc_X12_readPart_1 23 rfl) rfl (fun c129 => (r_aload_n (dc kc_X12_readPart_1 26 rfl) rfl <| s_iload_n (dc kc_X12_readPart_1 27 rfl) rfl <| s_if_ne (tgt := 147) (dc kc_X12_readPart_1 28 rfl) rfl (fun c138 => (k_j (dc kc_X12_readPart_1 31 rfl) kj_X12_235 rfl (a := 2) (by decide) <| ?_)) (fun c138 => (k_j (dc kc_X12_readPart_1 29 rfl) kj_X12_261 rfl (a := 99) (by decide) <| s_goto (tgt := 150) (dc kc_X12_readPart_1 30 rfl) rfl <| ?_)))) (fun c129 => (r_aload_n (dc kc_X12_readPart_1 24 rfl) rfl <| c_v0 (dc kc_X12_readPart_1 25 rfl) cl_X12_184 rfl (Nat.le_of_ble_eq_true rfl) (Nat.zero_le _) (Nat.zero_le _) ?_))
      all_goals first | (exfalso; omega) | exact fin
  have rest : ¬ tkF t N f = 123 → ¬ (tkF t N f = 12 ∧ o = 1) → Run (d+7) mt_X12_readPart Q (n, mr, 0, 0) mi 84 [vR (some (0, 80)), vX 0, vX 0] [] := fun n1 n5 => by
    refine r_aload_n (dc kc_X12_readPart_1 2 rfl) rfl <| k_j (dc kc_X12_readPart_1 3 rfl) kj_X12_255 rfl (a := 460197) (by decide) <| c_v1r (dc kc_X12_readPart_1 4 rfl) cl_X12_220 rfl (Nat.le_of_ble_eq_true rfl) (Nat.zero_le _) (Nat.zero_le _) <| t_isWord <| s_if_eqb (tgt := 98) (dc kc_X12_readPart_1 5 rfl) rfl (fun c91 => (r_aload_n (dc kc_X12_readPart_1 8 rfl) rfl <| k_j (dc kc_X12_readPart_1 9 rfl) kj_X12_257 rfl (a := 408362632) (by decide) <| c_v1r (dc kc_X12_readPart_1 10 rfl) cl_X12_220 rfl (Nat.le_of_ble_eq_true rfl) (Nat.zero_le _) (Nat.zero_le _) <| t_isWord <| s_if_eqb (tgt := 112) (dc kc_X12_readPart_1 11 rfl) rfl (fun c105 => (r_aload_n (dc kc_X12_readPart_1 14 rfl) rfl <| k_j (dc kc_X12_readPart_1 15 rfl) kj_X12_259 rfl (a := 21483564) (by decide) <| c_v1r (dc kc_X12_readPart_1 16 rfl) cl_X12_220 rfl (Nat.le_of_ble_eq_true rfl) (Nat.zero_le _) (Nat.zero_le _) <| t_isWord <| s_if_eqb (tgt := 126) (dc kc_X12_readPart_1 17 rfl) rfl (fun c119 => (k_i (dc kc_X12_readPart_1 20 rfl) rfl <| ?_)) (fun c119 => (k_i (dc kc_X12_readPart_1 18 rfl) rfl <| s_goto (tgt := 127) (dc kc_X12_readPart_1 19 rfl) rfl <| ?_)))) (fun c105 => (k_i (dc kc_X12_readPart_1 12 rfl) rfl <| s_goto (tgt := 127) (dc kc_X12_readPart_1 13 rfl) rfl <| ?_)))) (fun c91 => (k_i (dc kc_X12_readPart_1 6 rfl) rfl <| s_goto (tgt := 127) (dc kc_X12_readPart_1 7 rfl) rfl <| ?_))
    · exact nmb0 n1 (fun z => c91 (w9.mpr z)) (fun z => c105 (w19.mpr z)) (fun z => c119 (w20.mpr z)) n5
    · exact wrd 20 3 (by omega) (w20.mp c119)
    · exact wrd 19 2 (by omega) (w19.mp c105)
    · exact wrd 9 1 (by omega) (w9.mp c91)
  refine tx_intro (ls := [vR (some (0, 80)), vX 0, vX 0]) om_X12_readPart rfl (Nat.le_of_ble_eq_true rfl) ?_
  refine r_aload_n (dc kc_X12_readPart_0 0 rfl) rfl <| k_b (dc kc_X12_readPart_0 1 rfl) rfl <| c_v1r (dc kc_X12_readPart_0 2 rfl) cl_X12_215 rfl (Nat.le_of_ble_eq_true rfl) (Nat.zero_le _) (Nat.zero_le _) <| t_isSign <| s_if_eqb (tgt := 22) (dc kc_X12_readPart_0 3 rfl) rfl (fun c6 => (r_aload_n (dc kc_X12_readPart_0 12 rfl) rfl <| s_getZ (dc kc_X12_readPart_0 13 rfl) fl_X12_247 <| s_if_eq (tgt := 84) (dc kc_X12_readPart_0 14 rfl) rfl (fun c26 => (?_)) (fun c26 => (r_aload_n (dc kc_X12_readPart_0 15 rfl) rfl <| k_j (dc kc_X12_readPart_0 16 rfl) kj_X12_250 rfl (a := 11449) (by decide) <| c_v1r (dc kc_X12_readPart_0 17 rfl) cl_X12_220 rfl (Nat.le_of_ble_eq_true rfl) (Nat.zero_le _) (Nat.zero_le _) <| t_isWord <| s_if_eqb (tgt := 84) (dc kc_X12_readPart_0 18 rfl) rfl (fun c36 => (?_)) (fun c36 => (?_)))))) (fun c6 => (r_aload_n (dc kc_X12_readPart_0 4 rfl) rfl <| k_i (dc kc_X12_readPart_0 5 rfl) rfl <| c_v1 (dc kc_X12_readPart_0 6 rfl) cl_X12_226 rfl (Nat.le_of_ble_eq_true rfl) (Nat.zero_le _) (Nat.zero_le _) ?_))
  · exact rest (fun z => c6 (s91.mpr z)) (fun z => by omega)
  · exact rest (fun z => c6 (s91.mpr z)) (fun z => c36 (w12.mpr z.1))
  · have h12 : tkF t N f = 12 := w12.mp c36
    have ho2 : o = 1 := by omega
    obtain ⟨p1, p2, p3, p4⟩ := eA.nx hP (by omega)
    have hrt := rul_t (tk := tkF t N) (nu := nuF t N) (nx := nxF t N) (o := o) (f := f) (u := u) (b' := b) (y := 722) (tg := tg) (e := e) (L := [724, 412]) (r := Jst ts R P) (pp := pp) (v := v) (c := c) (by decide) (by omega) p2 (by rw [h12, ho2]; rfl)
    -- behind the node, where it has failed
    have nodD : ∀ (m4 : MI) (p : Int), Ch (pPr 0) mi m4 → DX t N m4 p → Dn (tkF t N) (nuF t N) (nxF t N) o 600 (f, u, b, -1, 722 :: Jst ts R P, tg, e, pp, v, c) p → Run (d+7) mt_X12_readPart Q (n, mr, 0, 0) m4 64 [vR (some (0, 80)), vX 0, vX 0] [] := fun m4 p g4 hx4 hdn => by
      obtain ⟨x1, x2, x3, x4, x5, x6⟩ := id hx4
      have h01 : m4 0 80 17 = 0 ∨ m4 0 80 17 = 1 := by
        rcases x1 with z | z
        · exact Or.inl z.b
        · exact Or.inr z.1
      refine r_aload_n (dc kc_X12_readPart_0 31 rfl) rfl <| s_getZ (dc kc_X12_readPart_0 32 rfl) fl_X12_146 <| s_if_ne (tgt := 82) (dc kc_X12_readPart_0 33 rfl) rfl (fun c68 => (k_i (dc kc_X12_readPart_1 0 rfl) rfl <| s_ireturn (dc kc_X12_readPart_1 1 rfl) rfl (Nat.zero_le _) (Nat.zero_le _) ?_)) (fun c68 => (r_aload_n (dc kc_X12_readPart_0 34 rfl) rfl <| c_v0 (dc kc_X12_readPart_0 35 rfl) cl_X12_241 rfl (Nat.le_of_ble_eq_true rfl) (Nat.zero_le _) (Nat.zero_le _) ?_))
      · exact hD0 m4 _ p g4 hx4 hdn
      · have h17 : m4 0 80 17 = 0 := by omega
        have x5 := x5 h17
        have hrd : RD t N m4 p := by
          rcases x1 with z | z
          · exact z
          · exact absurd z.1 (by omega)
        have hpN := hrd.2.2.2.2.2.2
        refine t_closeD hL x1 x6 (fun m5 g5 h5 q25 => ?_)
        have q20 : m5 0 80 20 = m4 0 80 20 := g5.at (by simp [pOpn])
        have q24 : m5 0 80 24 = m4 0 80 24 := g5.at (by simp [pOpn])
        refine r_aload_n (dc kc_X12_readPart_0 36 rfl) rfl <| k_b (dc kc_X12_readPart_0 37 rfl) rfl <| k_i (dc kc_X12_readPart_0 38 rfl) rfl <| c_v2 (dc kc_X12_readPart_0 39 rfl) cl_X12_200 rfl (Nat.le_of_ble_eq_true rfl) (Nat.zero_le _) (Nat.zero_le _) ?_
        refine t_emit hL (by omega) (by omega) ?_
        refine k_i (dc kc_X12_readPart_1 0 rfl) rfl <| s_ireturn (dc kc_X12_readPart_1 1 rfl) rfl (Nat.zero_le _) (Nat.zero_le _) ?_
        exact hD0 _ _ p (pr_emit (g4.tr (pr_Op g5)) (by omega)) (DX.of (m := m5) (h5.mv ch_emit (fun k k0 k1 => by simp; omega)) (by simp [up]; omega) (by simp [up]; omega) (by simp [up]; omega) (by simp [up]; omega)) hdn
    refine r_aload_n (dc kc_X12_readPart_0 19 rfl) rfl <| c_v0 (dc kc_X12_readPart_0 20 rfl) cl_X12_184 rfl (Nat.le_of_ble_eq_true rfl) (Nat.zero_le _) (Nat.zero_le _) ?_
    refine t_passA hL hP eA (by omega) (by omega) (fun m2 g2 h2 => ?_)
    have q20 : m2 0 80 20 = mi 0 80 20 := g2.at (by simp [pTq])
    have q24 : m2 0 80 24 = mi 0 80 24 := g2.at (by simp [pTq])
    have q25 : m2 0 80 25 = mi 0 80 25 := g2.at (by simp [pTq])
    have bad : ∀ (m3 : MI) (p : Int), Ch (pPr C0) mi m3 → RB m3 p → m3 0 80 20 = mi 0 80 20 → m3 0 80 24 = mi 0 80 24 → (-100 ≤ m3 0 80 25 ∧ m3 0 80 25 ≤ 100) → Dn (tkF t N) (nuF t N) (nxF t N) o 600 (f, u, b, -1, 722 :: Jst ts R P, tg, e, pp, v, c) p → Run (d+7) mt_X12_readPart Q (n, mr, 0, 0) m3 53 [vR (some (0, 80)), vX 0, vX 0] [] := fun m3 p g3 h3 r20 r24 r25 hdn => by
      have e17 := h3.1
      refine r_aload_n (dc kc_X12_readPart_0 26 rfl) rfl <| s_getZ (dc kc_X12_readPart_0 27 rfl) fl_X12_146 <| s_if_ne (tgt := 64) (dc kc_X12_readPart_0 28 rfl) rfl (fun c57 => (r_aload_n (dc kc_X12_readPart_0 31 rfl) rfl <| s_getZ (dc kc_X12_readPart_0 32 rfl) fl_X12_146 <| s_if_ne (tgt := 82) (dc kc_X12_readPart_0 33 rfl) rfl (fun c68 => (k_i (dc kc_X12_readPart_1 0 rfl) rfl <| s_ireturn (dc kc_X12_readPart_1 1 rfl) rfl (Nat.zero_le _) (Nat.zero_le _) ?_)) (fun c68 => (?_)))) (fun c57 => (?_))
      · exact hD m3 _ p g3 (DX.of (m := m3) h3 (by omega) (by omega) (by omega) r25) hdn
      all_goals (exfalso; omega)
    refine r_aload_n (dc kc_X12_readPart_0 21 rfl) rfl <| r_aload_n (dc kc_X12_readPart_0 22 rfl) rfl <| k_b (dc kc_X12_readPart_0 23 rfl) rfl <| c_v1r (dc kc_X12_readPart_0 24 rfl) cl_X12_215 rfl (Nat.le_of_ble_eq_true rfl) (Nat.zero_le _) (Nat.zero_le _) <| t_isSign <| c_v1 (dc kc_X12_readPart_0 25 rfl) cl_X12_226 rfl (Nat.le_of_ble_eq_true rfl) (Nat.zero_le _) (Nat.zero_le _) ?_
    by_cases hdm : 59 ≤ u ∧ tkF t N (nxF t N f) ≠ 91 ∧ tkF t N (nxF t N f) ≠ 23
    · unfold Tko at h2
      rw [if_pos hdm] at h2
      refine t_openD hL bi_01 (Or.inl h2) (by omega) (fun m3 g3 h3 e3 => ?_)
      exact bad m3 _ ((pr_Tq g2).tr (pr_Op g3)) h3 (by rw [g3.at (by simp [pOpn])]; exact q20) (by rw [g3.at (by simp [pOpn])]; exact q24) (by omega) ((hrt.1 hdm).mono (by omega))
    · unfold Tko at h2
      rw [if_neg hdm] at h2
      have hR2 := (hrt.2 hdm).tr (rul_0 (o := o) (L := [72, 723, 73]) (by decide) (by show (412 :: Jst ts R P).length < 250; rw [List.length_cons]; omega) prd_724)
      have s40 := h2.2.1.sign hP h2.2.2.2.2.1.1 (c := 40) (by decide) (by decide) (by decide)
      refine t_openA hL hP h2 (b := b) (by omega) (by omega) (by omega) bi_01 (fun z => by
        have := s40.mp (bi_eq1.mp z)
        omega) (fun hx1 hb9 m3 g3 h3 r25 => ?_) (fun hno m3 g3 h3 r25 => ?_)
      · have h72 : tkF t N (nxF t N f) = 72 := s40.mp (bi_eq1.mp hx1)
        have r20 : m3 0 80 20 = mi 0 80 20 := by rw [g3.at (by simp [pOpn]), q20]
        have r24 : m3 0 80 24 = mi 0 80 24 := by rw [g3.at (by simp [pOpn]), q24]
        have e17 := h3.b
        obtain ⟨i1, i2, i3, i4⟩ := h2.nx hP (by omega)
        have hdt := due_t (tk := tkF t N) (nu := nuF t N) (nx := nxF t N) (o := o) (f := nxF t N f) (u := u + 1) (b' := b) (y := 72) (tg := tg) (e := e) (r := 723 :: 73 :: 412 :: Jst ts R P) (pp := pp) (v := v) (c := c) (by decide) (by rw [List.length_cons, List.length_cons, List.length_cons]; omega) i2 h72 (by omega)
        rw [if_pos (Or.inl rfl)] at hdt
        have gm3 := (pr_Tq (C0 := C0) g2).tr (pr_Op g3)
        have hC3 : CdR m3 C0 K := eCd.mv r20 (by rw [g3.row (fun k => by simp [pOpn]), g2.row (fun k => by simp [pTq])]) (by rw [g3.row (fun k => by simp [pOpn]), g2.row (fun k => by simp [pTq])])
        refine r_aload_n (dc kc_X12_readPart_0 26 rfl) rfl <| s_getZ (dc kc_X12_readPart_0 27 rfl) fl_X12_146 <| s_if_ne (tgt := 64) (dc kc_X12_readPart_0 28 rfl) rfl (fun c57 => (?_)) (fun c57 => (r_aload_n (dc kc_X12_readPart_0 29 rfl) rfl <| c_v0 (dc kc_X12_readPart_0 30 rfl) cl_X12_252 rfl (Nat.le_of_ble_eq_true rfl) (Nat.zero_le _) (Nat.zero_le _) ?_))
        · exfalso; omega
        · by_cases hdm2 : 59 ≤ u + 1 ∧ tkF t N (nxF t N (nxF t N f)) ≠ 91 ∧ tkF t N (nxF t N (nxF t N f)) ≠ 23
          · unfold Tko at h3
            rw [if_pos hdm2] at h3
            have hi := h3.2.2.2.2.2.2
            refine t_readNodeD hL (C0 := 0) (p := nxF t N (nxF t N f)) (z := m3 0 80 24) ⟨Or.inl h3, by omega, by omega, by omega, fun _ => by omega, by omega⟩ (fun m4 g4 h4 e4 => ?_)
            exact nodD m4 _ ((pr_mono hC0 gm3).tr g4) (h4.to e4) ((hR2.dn (hdt.1 hdm2)).mono (by omega))
          · unfold Tko at h3
            rw [if_neg hdm2] at h3
            have hR3 := hR2.tr (hdt.2 hdm2)
            obtain ⟨j1, j2⟩ := h3.2.2.2.2.1
            refine t_readNodeA hL hP (o := o) (w := 2) (r := 73 :: 412 :: Jst ts R P) (tg := tg) (e := e) (pp := pp) (v := v) (c := c) h3 (b := b + 1) r25 (by omega) (by omega) hC3 hC0 (z := m3 0 80 24) (by omega) (by omega) (by omega) (by rw [List.length_cons, List.length_cons]; omega) (fun m4 f4 u4 nd a4 g4 w24 w89 wA w25 wC ww wu wa wR => ?_) (fun m4 p4 g4 x4 e4 d4 => ?_)
            · have wf := wA.2.2.2.2.1
              have w17 := wA.2.2.1
              have w20 := wC.1
              have hu60' := wA.2.2.2.2.2.1
              have gm4 := gm3.tr g4
              have hR4 := hR3.tr wR
              refine r_aload_n (dc kc_X12_readPart_0 31 rfl) rfl <| s_getZ (dc kc_X12_readPart_0 32 rfl) fl_X12_146 <| s_if_ne (tgt := 82) (dc kc_X12_readPart_0 33 rfl) rfl (fun c68 => (k_i (dc kc_X12_readPart_1 0 rfl) rfl <| s_ireturn (dc kc_X12_readPart_1 1 rfl) rfl (Nat.zero_le _) (Nat.zero_le _) ?_)) (fun c68 => (r_aload_n (dc kc_X12_readPart_0 34 rfl) rfl <| c_v0 (dc kc_X12_readPart_0 35 rfl) cl_X12_241 rfl (Nat.le_of_ble_eq_true rfl) (Nat.zero_le _) (Nat.zero_le _) ?_))
              · exfalso; omega
              · refine t_closeA hL hP wA w25 (by omega) (by omega) (fun h73 m5 g5 h5 y25 => ?_) (fun h73 m5 g5 h5 y25 => ?_)
                · have y20 : m5 0 80 20 = m4 0 80 20 := g5.at (by simp [pOpn])
                  have y24 : m5 0 80 24 = m4 0 80 24 := g5.at (by simp [pOpn])
                  obtain ⟨l1, l2, l3, l4⟩ := wA.nx hP (by omega)
                  have hdt5 := due_t (tk := tkF t N) (nu := nuF t N) (nx := nxF t N) (o := o) (f := f4) (u := u4) (b' := b + 1) (y := 73) (tg := tg) (e := e) (r := 412 :: Jst ts R P) (pp := pp) (v := v) (c := c ++ nd) (by decide) (by rw [List.length_cons]; omega) l2 h73 (by omega)
                  rw [if_neg (by decide), if_pos (Or.inl rfl), show b + 1 - 1 = b by omega] at hdt5
                  have hC5 := (wC.mv y20 (g5.row (fun k => by simp [pOpn])) (g5.row (fun k => by simp [pOpn]))).emit (op := 8) (a := 0) rfl
                  rw [show tokOf 8 0 = (12, 0) from rfl, List.append_assoc] at hC5
                  refine r_aload_n (dc kc_X12_readPart_0 36 rfl) rfl <| k_b (dc kc_X12_readPart_0 37 rfl) rfl <| k_i (dc kc_X12_readPart_0 38 rfl) rfl <| c_v2 (dc kc_X12_readPart_0 39 rfl) cl_X12_200 rfl (Nat.le_of_ble_eq_true rfl) (Nat.zero_le _) (Nat.zero_le _) ?_
                  refine t_emit hL (by omega) (by omega) ?_
                  refine k_i (dc kc_X12_readPart_1 0 rfl) rfl <| s_ireturn (dc kc_X12_readPart_1 1 rfl) rfl (Nat.zero_le _) (Nat.zero_le _) ?_
                  have g6 := pr_emit (z := m5 0 80 20) (op := 8) (a := 0) (y := m5 0 80 20 + 1) (gm4.tr (pr_Op (C0 := C0) g5)) (by omega)
                  by_cases hdm5 : 59 ≤ u4 ∧ tkF t N (nxF t N f4) ≠ 91 ∧ tkF t N (nxF t N f4) ≠ 23
                  · unfold Tko at h5
                    rw [if_pos hdm5] at h5
                    exact hD _ _ _ g6 ⟨Or.inl (h5.mv ch_emit (fun k => by simp) (fun k k0 k1 => by simp; omega)), by simp [up]; omega, by simp [up]; omega, by simp [up]; omega, fun _ => by simp [up]; omega, by simp [up]; omega⟩ ((hR4.dn (hdt5.1 hdm5)).mono (by omega))
                  · unfold Tko at h5
                    rw [if_neg hdm5] at h5
                    have hR6 := (hR4.tr (hdt5.2 hdm5)).tr (emt (by decide) (by decide) (by omega))
                    rw [List.append_assoc] at hR6
                    refine hA _ 3 P _ _ b (nd ++ [(12, 0)]) (Jst ts R P) _ g6 ⟨h5.mv ch_emit (fun k => by simp) (fun k k0 k1 _ => by simp; omega), by simp [up]; omega, ebr, eb8, ePl.mv (by simp [up]; omega) (by rw [up_j (by decide), up_j (by decide), up_j (by decide), g5.row (fun k => by simp [pOpn]), w89, g3.row (fun k => by simp [pOpn]), g2.row (fun k => by simp [pTq])]), hC5, by simp [up]; omega, by omega⟩ (Or.inr (Or.inr (Or.inl ⟨rfl, hps, rfl⟩))) (by omega) (by omega) (Or.inr (by omega)) hR6
                · have y20 : m5 0 80 20 = m4 0 80 20 := g5.at (by simp [pOpn])
                  have y24 : m5 0 80 24 = m4 0 80 24 := g5.at (by simp [pOpn])
                  have hdf5 := due_f (tk := tkF t N) (nu := nuF t N) (nx := nxF t N) (o := o) (f := f4) (u := u4) (b' := b + 1) (y := 73) (tg := tg) (e := e) (r := 412 :: Jst ts R P) (pp := pp) (v := v) (c := c ++ nd) (by decide) (by rw [List.length_cons]; omega) (by omega) (Or.inl h73)
                  refine r_aload_n (dc kc_X12_readPart_0 36 rfl) rfl <| k_b (dc kc_X12_readPart_0 37 rfl) rfl <| k_i (dc kc_X12_readPart_0 38 rfl) rfl <| c_v2 (dc kc_X12_readPart_0 39 rfl) cl_X12_200 rfl (Nat.le_of_ble_eq_true rfl) (Nat.zero_le _) (Nat.zero_le _) ?_
                  refine t_emit hL (by omega) (by omega) ?_
                  refine k_i (dc kc_X12_readPart_1 0 rfl) rfl <| s_ireturn (dc kc_X12_readPart_1 1 rfl) rfl (Nat.zero_le _) (Nat.zero_le _) ?_
                  exact hD _ _ _ (pr_emit (gm4.tr (pr_Op g5)) (by omega)) (DX.of (m := m5) (h5.mv ch_emit (fun k k0 k1 => by simp; omega)) (by simp [up]; omega) (by simp [up]; omega) (by simp [up]; omega) (by simp [up]; omega)) ((hR4.dn hdf5).mono (by omega))
            · exact nodD m4 p4 (pr_mono hC0 (gm3.tr g4)) (x4.to e4) ((hR3.dn d4).mono (by omega))
      · have hdf := due_f (tk := tkF t N) (nu := nuF t N) (nx := nxF t N) (o := o) (f := nxF t N f) (u := u + 1) (b' := b) (y := 72) (tg := tg) (e := e) (r := 723 :: 73 :: 412 :: Jst ts R P) (pp := pp) (v := v) (c := c) (by decide) (by rw [List.length_cons, List.length_cons, List.length_cons]; omega) p2 (by
          by_cases z : tkF t N (nxF t N f) = 72
          · right
            refine ⟨Or.inl rfl, ?_⟩
            by_cases w9' : b < 8
            · exact absurd ⟨bi_t (s40.mpr z), w9'⟩ hno
            · omega
          · exact Or.inl z)
        exact bad m3 _ ((pr_Tq g2).tr (pr_Op g3)) h3 (by rw [g3.at (by simp [pOpn])]; exact q20) (by rw [g3.at (by simp [pOpn])]; exact q24) (by omega) ((hR2.dn hdf).mono (by omega))
  · have h123 : tkF t N f = 123 := s91.mp c6
    obtain ⟨p1, p2, p3, p4⟩ := eA.nx hP (by omega)
    have hr0 := rul_0 (tk := tkF t N) (nu := nuF t N) (nx := nxF t N) (o := o) (f := f) (u := u) (b' := b) (y := 722) (tg := tg) (e := e) (L := [123, 720, 125]) (r := Jst ts R P) (pp := pp) (v := v) (c := c) (by decide) (by omega) (by rw [h123]; rfl)
    refine t_openA hL hP eA e25 (by omega) eb8 (Or.inr rfl) (fun _ => by omega) (fun _ hb9 m3 g3 h3 r25 => ?_) (fun hno m3 g3 h3 r25 => ?_)
    · have r20 : m3 0 80 20 = mi 0 80 20 := g3.at (by simp [pOpn])
      have r24 : m3 0 80 24 = mi 0 80 24 := g3.at (by simp [pOpn])
      have hdt := due_t (tk := tkF t N) (nu := nuF t N) (nx := nxF t N) (o := o) (f := f) (u := u) (b' := b) (y := 123) (tg := tg) (e := e) (r := 720 :: 125 :: Jst ts R P) (pp := pp) (v := v) (c := c) (by decide) (by rw [List.length_cons, List.length_cons]; omega) p2 h123 (by omega)
      rw [if_pos (Or.inr rfl)] at hdt
      refine r_aload_n (dc kc_X12_readPart_0 7 rfl) rfl <| k_b (dc kc_X12_readPart_0 8 rfl) rfl <| c_v1 (dc kc_X12_readPart_0 9 rfl) cl_X12_244 rfl (Nat.le_of_ble_eq_true rfl) (Nat.zero_le _) (Nat.zero_le _) ?_
      refine t_push hL (by omega) (by omega) ?_
      refine k_i (dc kc_X12_readPart_0 10 rfl) rfl <| s_ireturn (dc kc_X12_readPart_0 11 rfl) rfl (Nat.zero_le _) (Nat.zero_le _) ?_
      have g4 := pr_push (z := m3 0 80 24) (x := 31) (y := m3 0 80 24 + 1) (pr_Op (C0 := C0) g3)
      have hPl3 : Pil m3 P := ePl.mv r24 (g3.row (fun k => by simp [pOpn]))
      by_cases hdm : 59 ≤ u ∧ tkF t N (nxF t N f) ≠ 91 ∧ tkF t N (nxF t N f) ≠ 23
      · unfold Tko at h3
        rw [if_pos hdm] at h3
        exact hD _ _ _ g4 ⟨Or.inl (h3.mv ch_push (fun k => by simp) (fun k k0 k1 => by simp; omega)), by simp [up]; omega, by simp [up]; omega, by simp [up]; omega, fun _ => by simp [up]; omega, by simp [up]; omega⟩ ((hr0.dn (hdt.1 hdm)).mono (by omega))
      · unfold Tko at h3
        rw [if_neg hdm] at h3
        have hr2 := rul_0 (tk := tkF t N) (nu := nuF t N) (nx := nxF t N) (o := o) (f := nxF t N f) (u := u + 1) (b' := b + 1) (y := 720) (tg := tg) (e := e) (L := [722, 721]) (r := 125 :: Jst ts R P) (pp := pp) (v := v) (c := c) (by decide) (by rw [List.length_cons]; omega) prd_720
        have hrr := (hr0.tr (hdt.2 hdm)).tr hr2
        refine hA _ 1 (31 :: P) _ _ (b + 1) [] (722 :: Jst ts R (31 :: P)) (1 + 1 + 1) g4 ⟨h3.mv ch_push (fun k => by simp) (fun k k0 k1 _ => by simp; omega), by simp [up]; omega, by rw [nbr, if_pos (by decide)]; omega, by omega, hPl3.push rfl, ?_, by simp [up]; omega, by rw [List.length_cons]; omega⟩ (Or.inr (Or.inl ⟨rfl, Or.inl ⟨rfl, hps⟩, rfl⟩)) (by rw [List.length_cons]; omega) (by omega) (Or.inr (by omega)) (by rw [List.append_nil]; exact hrr)
        rw [List.append_nil]
        exact eCd.mv (by simp [up]; omega) (by rw [up_j (by decide), up_j (by decide), g3.row (fun k => by simp [pOpn])]) (by rw [up_j (by decide), up_j (by decide), g3.row (fun k => by simp [pOpn])])
    · have r20 : m3 0 80 20 = mi 0 80 20 := g3.at (by simp [pOpn])
      have r24 : m3 0 80 24 = mi 0 80 24 := g3.at (by simp [pOpn])
      have hdf := due_f (tk := tkF t N) (nu := nuF t N) (nx := nxF t N) (o := o) (f := f) (u := u) (b' := b) (y := 123) (tg := tg) (e := e) (r := 720 :: 125 :: Jst ts R P) (pp := pp) (v := v) (c := c) (by decide) (by rw [List.length_cons, List.length_cons]; omega) p1 (Or.inr ⟨Or.inr rfl, by omega⟩)
      refine r_aload_n (dc kc_X12_readPart_0 7 rfl) rfl <| k_b (dc kc_X12_readPart_0 8 rfl) rfl <| c_v1 (dc kc_X12_readPart_0 9 rfl) cl_X12_244 rfl (Nat.le_of_ble_eq_true rfl) (Nat.zero_le _) (Nat.zero_le _) ?_
      refine t_push hL (by omega) (by omega) ?_
      refine k_i (dc kc_X12_readPart_0 10 rfl) rfl <| s_ireturn (dc kc_X12_readPart_0 11 rfl) rfl (Nat.zero_le _) (Nat.zero_le _) ?_
      exact hD _ _ _ (pr_push (pr_Op g3)) (DX.of (m := m3) (h3.mv ch_push (fun k k0 k1 => by simp; omega)) (by simp [up]; omega) (by simp [up]; omega) (by simp [up]; omega) (by simp [up]; omega)) ((hr0.dn hdf).mono (by omega))
end RXA
