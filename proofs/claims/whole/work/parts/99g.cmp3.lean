/-! the class: each symbol of its compiler is a move of the machine -/
theorem tkS_len {tk nx : Int → Int} {f u b fl tg e : Int} {r : List Int} {p v c : List CT} (h : r.length ≤ 256) : (stk (tkS psG tk nx [] f u b fl r tg e p v c)).length ≤ 256 := by
  unfold tkS
  split
  · exact Nat.zero_le _
  · exact h
theorem CP.cX {tk : Int → Int} {mi m : MI} {f u b fl : Int} {k : List Int} (h : CP tk mi f u b fl k) (hm : ∀ b, m 0 b = mi 0 b) : CP tk m f u b fl k := by
  unfold CP at *
  rw [hm, hm, hm]
  exact h
section CMX
variable {d n G : Nat} {mr : MR} {Q : V → MI → Nat → MR → Prop} {tk nu nx : Int → Int} {N B R o : Int}
theorem u_takeDue (hL : Lay G mr) {mi : MI} {f u b fl tg e : Int} {r : List Int} {p v c : List CT} {y : Int} (hK : CK tk nu nx N mi) (hC : CP tk mi f u b fl r) (hX : CX mi B R fl tg e p v c) (hG : Gs tk B N (f, u, b, fl, y :: r, tg, e, p, v, c)) (hy : Sy y) (hy3 : y < 300) (hQ : ∀ mi', Cg (pKr B R) mi mi' → CM tk B R mi' (mv psG tk nu nx o (f, u, b, fl, y :: r, tg, e, p, v, c)) → Q (vX 0) mi' n mr) : Tx (d+3) mt_X0_takeDue [vR (some (0, 45)), vI y] mi n mr Q := by
  have hu0 : 0 ≤ u := hG.2.1.1
  have hu9 : u ≤ 60 := hG.2.1.2
  have hb0 : -u ≤ b := hG.2.2.2.1.1
  have hb8 : b ≤ 8 := hG.2.2.2.1.2
  have hf0 : 0 ≤ f := hG.1.1
  have hrl : r.length + 1 ≤ 256 := hG.2.2.2.2.2.1
  have hU : fl = -1 → tk f ≠ 91 → tk f ≠ 23 → u < 60 := fun z1 z2 z3 => by
    by_cases hu : u = 60
    · rcases hG.2.2.1 z1 hu with q | q
      · exact absurd q z2
      · exact absurd q z3
    · omega
  have hy0 := hy.1
  unfold Sy0 at hy0
  have tok : mi 0 45 6 = tkn tk f fl := hC.2.1
  have brk : mi 0 45 11 = b := hC.2.2.2.1
  have bad : (fl ≠ -1 ∨ tk f ≠ y ∨ ((y = 72 ∨ y = 123) ∧ 8 ≤ b)) → Run (d+3) mt_X0_takeDue Q (n, mr, 0, 0) mi 24 [vR (some (0, 45)), vI y] [] := fun z => by
    refine r_aload_n (dc kc_X0_takeDue 11 rfl) rfl <| c_v0 (dc kc_X0_takeDue 12 rfl) cl_X0_77 rfl (Nat.le_of_ble_eq_true rfl) (Nat.zero_le _) (Nat.zero_le _) ?_
    refine u_fail hL hK hC hX (fun m1 g1 h1 => ?_)
    refine s_return (dc kc_X0_takeDue 13 rfl) rfl (Nat.zero_le _) (Nat.zero_le _) ?_
    refine hQ m1 g1 ?_
    rw [mv_2 hy3, if_pos z]
    exact h1
  have tak : ∀ (m : MI) (b' : Int), fl = -1 → tk f = y → ¬ ((y = 72 ∨ y = 123) ∧ 8 ≤ b) → Cg (pKr B R) mi m → CP tk m f u b' fl r → CX m B R fl tg e p v c → b' = (if y = 72 ∨ y = 123 then b + 1 else if y = 73 ∨ y = 125 then b - 1 else b) → Run (d+3) mt_X0_takeDue Q (n, mr, 0, 0) m 71 [vR (some (0, 45)), vI y] [] := fun m b' z1 z2 z3 gm hC2 hX2 hb' => by
    subst z1
    refine r_aload_n (dc kc_X0_takeDue 36 rfl) rfl <| c_v0 (dc kc_X0_takeDue 37 rfl) cl_X0_129 rfl (Nat.le_of_ble_eq_true rfl) (Nat.zero_le _) (Nat.zero_le _) ?_
    refine u_take hL (hK.mv gm) hC2 hX2 (by omega) hu0 (hU rfl (by omega) (by omega)) (fun m1 g1 h1 => ?_)
    refine s_return (dc kc_X0_takeDue 38 rfl) rfl (Nat.zero_le _) (Nat.zero_le _) ?_
    refine hQ m1 (gm.tr g1) ?_
    rw [mv_2 hy3, if_neg (fun z => by rcases z with z | z | z; exact z rfl; exact z z2; exact z3 z), ← hb']
    exact h1
  have hfl : tkn tk f fl = y → fl = -1 ∧ tk f = y := fun z => by
    unfold tkn at z
    by_cases q : fl = -1
    · rw [if_pos q] at z; exact ⟨q, z⟩
    · rw [if_neg q] at z; omega
  have hnf : tkn tk f fl ≠ y → fl ≠ -1 ∨ tk f ≠ y := fun z => by
    unfold tkn at z
    by_cases q : fl = -1
    · rw [if_pos q] at z; exact Or.inr z
    · exact Or.inl q
  have upb : ∀ x, CP tk (up mi 0 45 11 x) f u x fl r := fun x => by
    obtain ⟨⟨a1, a2, a3⟩, a4, a5, a6, a7, a8, a9⟩ := hC
    exact ⟨⟨by simp [up]; exact a1, by simp [up]; exact a2, by simp [up]; exact a3⟩, by simp [up]; exact a4, by simp [up]; exact a5, by simp [up], by simp [up]; exact a7, by simp [up]; exact a8, by rw [up_j (by decide)]; exact a9⟩
  have upx : ∀ x, CX (up mi 0 45 11 x) B R fl tg e p v c := fun x => hX.mv (fun b => by rw [up_g (by decide)])
  rw [← brk] at tak bad hb8 hb0
  refine tx_intro (ls := [vR (some (0, 45)), vI y]) om_X0_takeDue rfl (Nat.le_of_ble_eq_true rfl) ?_
  refine r_aload_n (dc kc_X0_takeDue 0 rfl) rfl <| s_getI (dc kc_X0_takeDue 1 rfl) fl_X0_36 <| s_iload_n (dc kc_X0_takeDue 2 rfl) rfl <| s_icmp_ne (tgt := 24) (dc kc_X0_takeDue 3 rfl) rfl (fun c5 => (?_)) (fun c5 => (s_iload_n (dc kc_X0_takeDue 4 rfl) rfl <| c_s1r (dc kc_X0_takeDue 5 rfl) cl_X0_153 rfl (Nat.le_of_ble_eq_true rfl) (Nat.zero_le _) (Nat.zero_le _) <| u_isOpening <| s_if_eqb (tgt := 29) (dc kc_X0_takeDue 6 rfl) rfl (fun c12 => (s_iload_n (dc kc_X0_takeDue 14 rfl) rfl <| c_s1r (dc kc_X0_takeDue 15 rfl) cl_X0_153 rfl (Nat.le_of_ble_eq_true rfl) (Nat.zero_le _) (Nat.zero_le _) <| u_isOpening <| s_if_eqb (tgt := 49) (dc kc_X0_takeDue 16 rfl) rfl (fun c33 => (s_iload_n (dc kc_X0_takeDue 24 rfl) rfl <| k_b (dc kc_X0_takeDue 25 rfl) rfl <| s_icmp_eq (tgt := 61) (dc kc_X0_takeDue 26 rfl) rfl (fun c52 => (r_aload_n (dc kc_X0_takeDue 30 rfl) rfl <| s_dup (dc kc_X0_takeDue 31 rfl) rfl <| s_getI (dc kc_X0_takeDue 32 rfl) fl_X0_51 <| k_i (dc kc_X0_takeDue 33 rfl) rfl <| b_isub (dc kc_X0_takeDue 34 rfl) (by first | omega | (simp [up] <;> omega)) (by first | omega | (simp [up] <;> omega)) <| s_putI (dc kc_X0_takeDue 35 rfl) fl_X0_51 <| ?_)) (fun c52 => (s_iload_n (dc kc_X0_takeDue 27 rfl) rfl <| k_b (dc kc_X0_takeDue 28 rfl) rfl <| s_icmp_ne (tgt := 71) (dc kc_X0_takeDue 29 rfl) rfl (fun c58 => (?_)) (fun c58 => (r_aload_n (dc kc_X0_takeDue 30 rfl) rfl <| s_dup (dc kc_X0_takeDue 31 rfl) rfl <| s_getI (dc kc_X0_takeDue 32 rfl) fl_X0_51 <| k_i (dc kc_X0_takeDue 33 rfl) rfl <| b_isub (dc kc_X0_takeDue 34 rfl) (by first | omega | (simp [up] <;> omega)) (by first | omega | (simp [up] <;> omega)) <| s_putI (dc kc_X0_takeDue 35 rfl) fl_X0_51 <| ?_)))))) (fun c33 => (r_aload_n (dc kc_X0_takeDue 17 rfl) rfl <| s_dup (dc kc_X0_takeDue 18 rfl) rfl <| s_getI (dc kc_X0_takeDue 19 rfl) fl_X0_51 <| k_i (dc kc_X0_takeDue 20 rfl) rfl <| b_iadd (dc kc_X0_takeDue 21 rfl) (by first | omega | (simp [up] <;> omega)) (by first | omega | (simp [up] <;> omega)) <| s_putI (dc kc_X0_takeDue 22 rfl) fl_X0_51 <| s_goto (tgt := 71) (dc kc_X0_takeDue 23 rfl) rfl <| ?_)))) (fun c12 => (r_aload_n (dc kc_X0_takeDue 7 rfl) rfl <| s_getI (dc kc_X0_takeDue 8 rfl) fl_X0_51 <| k_b (dc kc_X0_takeDue 9 rfl) rfl <| s_icmp_lt (tgt := 29) (dc kc_X0_takeDue 10 rfl) rfl (fun c21 => (s_iload_n (dc kc_X0_takeDue 14 rfl) rfl <| c_s1r (dc kc_X0_takeDue 15 rfl) cl_X0_153 rfl (Nat.le_of_ble_eq_true rfl) (Nat.zero_le _) (Nat.zero_le _) <| u_isOpening <| s_if_eqb (tgt := 49) (dc kc_X0_takeDue 16 rfl) rfl (fun c33 => (s_iload_n (dc kc_X0_takeDue 24 rfl) rfl <| k_b (dc kc_X0_takeDue 25 rfl) rfl <| s_icmp_eq (tgt := 61) (dc kc_X0_takeDue 26 rfl) rfl (fun c52 => (r_aload_n (dc kc_X0_takeDue 30 rfl) rfl <| s_dup (dc kc_X0_takeDue 31 rfl) rfl <| s_getI (dc kc_X0_takeDue 32 rfl) fl_X0_51 <| k_i (dc kc_X0_takeDue 33 rfl) rfl <| b_isub (dc kc_X0_takeDue 34 rfl) (by first | omega | (simp [up] <;> omega)) (by first | omega | (simp [up] <;> omega)) <| s_putI (dc kc_X0_takeDue 35 rfl) fl_X0_51 <| ?_)) (fun c52 => (s_iload_n (dc kc_X0_takeDue 27 rfl) rfl <| k_b (dc kc_X0_takeDue 28 rfl) rfl <| s_icmp_ne (tgt := 71) (dc kc_X0_takeDue 29 rfl) rfl (fun c58 => (?_)) (fun c58 => (r_aload_n (dc kc_X0_takeDue 30 rfl) rfl <| s_dup (dc kc_X0_takeDue 31 rfl) rfl <| s_getI (dc kc_X0_takeDue 32 rfl) fl_X0_51 <| k_i (dc kc_X0_takeDue 33 rfl) rfl <| b_isub (dc kc_X0_takeDue 34 rfl) (by first | omega | (simp [up] <;> omega)) (by first | omega | (simp [up] <;> omega)) <| s_putI (dc kc_X0_takeDue 35 rfl) fl_X0_51 <| ?_)))))) (fun c33 => (r_aload_n (dc kc_X0_takeDue 17 rfl) rfl <| s_dup (dc kc_X0_takeDue 18 rfl) rfl <| s_getI (dc kc_X0_takeDue 19 rfl) fl_X0_51 <| k_i (dc kc_X0_takeDue 20 rfl) rfl <| b_iadd (dc kc_X0_takeDue 21 rfl) (by first | omega | (simp [up] <;> omega)) (by first | omega | (simp [up] <;> omega)) <| s_putI (dc kc_X0_takeDue 22 rfl) fl_X0_51 <| s_goto (tgt := 71) (dc kc_X0_takeDue 23 rfl) rfl <| ?_)))) (fun c21 => (?_))))))
  all_goals first
    | (exfalso; omega)
    | exact bad (by rcases hnf (by omega) with q | q; exact Or.inl q; exact Or.inr (Or.inl q))
    | exact bad (Or.inr (Or.inr ⟨by assumption, by omega⟩))
    | exact tak _ _ (hfl (by omega)).1 (hfl (by omega)).2 (by omega) (Cg.rf.up (by simp [pKr])) (upb _) (upx _) (by first | (rw [if_pos (by omega)]; done) | (rw [if_neg (by omega), if_pos (by omega)]; done))
    | exact tak _ _ (hfl (by omega)).1 (hfl (by omega)).2 (by omega) Cg.rf hC hX (by rw [if_neg (by omega), if_neg (by omega)]; exact brk.symm)
theorem u_takeNum (hL : Lay G mr) {mi : MI} {f u b fl tg e : Int} {r : List Int} {p v c : List CT} {w : Int} (hK : CK tk nu nx N mi) (hC : CP tk mi f u b fl r) (hX : CX mi B R fl tg e p v c) (hG : Gs tk B N (f, u, b, fl, (300 + w) :: r, tg, e, p, v, c)) (hT : TkE N tk nu nx) (hw : w = 26 ∨ w = 27 ∨ Wd1 w) (hR : 0 ≤ R ∧ R < 12) (hB : 0 ≤ B) (hN : N ≤ 400) (hQ : ∀ mi', Cg (pKr B R) mi mi' → CM tk B R mi' (mv psG tk nu nx o (f, u, b, fl, (300 + w) :: r, tg, e, p, v, c)) → Q (vX 0) mi' n mr) : Tx (d+3) mt_X0_takeNumberFor [vR (some (0, 45)), vI w] mi n mr Q := by
  have hu0 : 0 ≤ u := hG.2.1.1
  have hu9 : u ≤ 60 := hG.2.1.2
  have hb0 : -u ≤ b := hG.2.2.2.1.1
  have hb8 : b ≤ 8 := hG.2.2.2.1.2
  have hf0 : 0 ≤ f := hG.1.1
  have hrl : r.length + 1 ≤ 256 := hG.2.2.2.2.2.1
  have hU : fl = -1 → tk f ≠ 91 → tk f ≠ 23 → u < 60 := fun z1 z2 z3 => by
    by_cases hu : u = 60
    · rcases hG.2.2.1 z1 hu with q | q
      · exact absurd q z2
      · exact absurd q z3
    · omega
  have hw0 : 0 ≤ w ∧ w ≤ 27 := by unfold Wd1 at hw; omega
  obtain ⟨⟨a1, a2, a3⟩, tok, a5, a6, a7, a8, a9⟩ := id hC
  obtain ⟨⟨x1, x2, x3⟩, hTR⟩ := id hX
  obtain ⟨⟨k1, k2⟩, k3⟩ := id hK
  have num := (k3 _ a1 a2).2.1
  rw [a3] at num
  have hf1 : f ≤ N := hG.1.2
  obtain ⟨⟨n0, n1⟩, -, -, -⟩ := hT f hf0 hf1
  have hgl := hG.2.2.2.2.2.2.2
  have mvE := mv_3 (ps := psG) (tk := tk) (nu := nu) (nx := nx) (o := o) (f := f) (u := u) (b := b) (fl := fl) (y := 300 + w) (r := r) (tg := tg) (e := e) (p := p) (v := v) (c := c) (by omega) (by omega)
  rw [show 300 + w - 300 = w by omega] at mvE
  have bad : ∀ x2 x3 : V, (tkn tk f fl ≠ 22 ∨ mst w < nu f) → Run (d+3) mt_X0_takeNumberFor Q (n, mr, 0, 0) mi 47 [vR (some (0, 45)), vI w, x2, x3] [] := fun x2 x3 z => by
    refine r_aload_n (dc kc_X0_takeNumberFor_0 25 rfl) rfl <| c_v0 (dc kc_X0_takeNumberFor_0 26 rfl) cl_X0_77 rfl (Nat.le_of_ble_eq_true rfl) (Nat.zero_le _) (Nat.zero_le _) ?_
    refine u_fail hL hK hC hX (fun m1 g1 h1 => ?_)
    refine s_return (dc kc_X0_takeNumberFor_0 27 rfl) rfl (Nat.zero_le _) (Nat.zero_le _) ?_
    refine hQ m1 g1 ?_
    rw [mvE, if_pos z]
    exact h1
  have tak : ∀ (m : MI) (x2 x3 : V) (tg' : Int) (c' : List CT), fl = -1 → tk f = 22 → nu f ≤ mst w → Cg (pKr B R) mi m → CP tk m f u b fl r → CX m B R fl tg' e p v c' → tg' = (if w = 26 then nu f else if w = 27 then 3 + nu f else tg) → c' = (if w = 26 ∨ w = 27 then c else c ++ [(w, nu f)]) → Run (d+3) mt_X0_takeNumberFor Q (n, mr, 0, 0) m 109 [vR (some (0, 45)), vI w, x2, x3] [] := fun m x2 x3 tg' c' z1 z2 z3 gm hC2 hX2 ht hc => by
    subst z1
    refine r_aload_n (dc kc_X0_takeNumberFor_1 17 rfl) rfl <| c_v0 (dc kc_X0_takeNumberFor_1 18 rfl) cl_X0_129 rfl (Nat.le_of_ble_eq_true rfl) (Nat.zero_le _) (Nat.zero_le _) ?_
    refine u_take hL (hK.mv gm) hC2 hX2 (by omega) hu0 (hU rfl (by omega) (by omega)) (fun m1 g1 h1 => ?_)
    refine s_return (dc kc_X0_takeNumberFor_1 19 rfl) rfl (Nat.zero_le _) (Nat.zero_le _) ?_
    refine hQ m1 (gm.tr g1) ?_
    rw [mvE, if_neg (fun z => by rcases z with z | z; exact z z2; omega)]
    have q1 : (if 300 + w = 326 then nu f else if 300 + w = 327 then 3 + nu f else tg) = tg' := by
      rw [ht]
      by_cases w1 : w = 26
      · rw [if_pos (by omega), if_pos w1]
      · by_cases w2 : w = 27
        · rw [if_neg (by omega), if_pos (by omega), if_neg w1, if_pos w2]
        · rw [if_neg (by omega), if_neg (by omega), if_neg w1, if_neg w2]
    have q2 : (if 300 + w = 326 ∨ 300 + w = 327 then c else c ++ [(w, nu f)]) = c' := by
      rw [hc]
      by_cases w1 : w = 26 ∨ w = 27
      · rw [if_pos (by omega), if_pos w1]
      · rw [if_neg (by omega), if_neg w1]
    rw [q1, q2]
    exact h1
  have go : ∀ m0 : Int, m0 = mst w → Run (d+3) mt_X0_takeNumberFor Q (n, mr, 0, 0) mi 22 [vR (some (0, 45)), vI w, vX 0, vX 0] [vI m0] := fun m0 hm0 => by
    have al : tkn tk f fl = 22 → fl = -1 ∧ tk f = 22 := fun z => by
      unfold tkn at z
      by_cases q : fl = -1
      · rw [if_pos q] at z; exact ⟨q, z⟩
      · rw [if_neg q] at z; exact absurd z (by decide)
    refine t_i2 (dc kc_X0_takeNumberFor_0 11 rfl) (Nat.le_of_ble_eq_true rfl) rfl <| r_aload_n (dc kc_X0_takeNumberFor_0 12 rfl) rfl <| s_getA (dc kc_X0_takeNumberFor_0 13 rfl) fl_X0_26 (ly_45_3 hL) <| r_aload_n (dc kc_X0_takeNumberFor_0 14 rfl) rfl <| s_getI (dc kc_X0_takeNumberFor_0 15 rfl) fl_X0_39 <| s_iaload (dc kc_X0_takeNumberFor_0 16 rfl) rfl (by first | omega | (simp [up] <;> omega)) (by first | omega | (simp [up] <;> omega)) <| t_i3 (dc kc_X0_takeNumberFor_0 17 rfl) (Nat.le_of_ble_eq_true rfl) rfl <| r_aload_n (dc kc_X0_takeNumberFor_0 18 rfl) rfl <| s_getI (dc kc_X0_takeNumberFor_0 19 rfl) fl_X0_36 <| k_b (dc kc_X0_takeNumberFor_0 20 rfl) rfl <| s_icmp_ne (tgt := 47) (dc kc_X0_takeNumberFor_0 21 rfl) rfl (fun c39 => (?_)) (fun c39 => (s_iload_n (dc kc_X0_takeNumberFor_0 22 rfl) rfl <| s_iload_n (dc kc_X0_takeNumberFor_0 23 rfl) rfl <| s_icmp_le (tgt := 52) (dc kc_X0_takeNumberFor_0 24 rfl) rfl (fun c44 => (?_)) (fun c44 => (?_))))
    · exact bad _ _ (Or.inl (by omega))
    · have ht := al (by omega)
      rw [num] at c44 ⊢
      have hz1 := ht.1
      subst hz1
      obtain ⟨t1, t2, t3, t4, t5, t6, t7⟩ := hTR rfl
      have hgl := hgl rfl
      have hgl : B + lng p v c + cE ((300 + w) :: r) ≤ f ∧ _ := hgl
      have hce := cE_0 r
      rw [cE, if_neg (by omega)] at hgl
      have hf2 : f < N := by
        have hne := (hT f hf0 hf1).2.2.2 (by omega)
        omega
      have hgl1 := hgl.1
      have aim : ∀ x, CX (up mi 20 26 R x) B R (-1) x e p v c := fun x => by
        refine ⟨⟨by rw [up_j (by decide)]; exact x1, by rw [up_j (by decide)]; exact x2, by rw [up_j (by decide)]; exact x3⟩, fun _ => ⟨?_, ?_, ?_, ?_, up_at, ?_, ?_⟩⟩
        · rw [up_j (by decide)]; exact t1
        · rw [up_j (by decide)]; exact t2
        · rw [up_j (by decide)]; exact t3
        · rw [up_j (by decide)]; exact t4
        · rw [up_j (by decide)]; exact t6
        · rw [up_j (by decide)]; exact t7
      refine s_iload_n (dc kc_X0_takeNumberFor_0 28 rfl) rfl <| k_b (dc kc_X0_takeNumberFor_0 29 rfl) rfl <| s_icmp_ne (tgt := 69) (dc kc_X0_takeNumberFor_0 30 rfl) rfl (fun c55 => (s_iload_n (dc kc_X0_takeNumberFor_0 36 rfl) rfl <| k_b (dc kc_X0_takeNumberFor_0 37 rfl) rfl <| s_icmp_ne (tgt := 88) (dc kc_X0_takeNumberFor_0 38 rfl) rfl (fun c72 => (r_aload_n (dc kc_X0_takeNumberFor_1 6 rfl) rfl <| s_getO (dc kc_X0_takeNumberFor_1 7 rfl) fl_X0_12 (ly_45_0 hL) <| s_iload_n (dc kc_X0_takeNumberFor_1 8 rfl) rfl <| s_iload_n (dc kc_X0_takeNumberFor_1 9 rfl) rfl <| c_v2 (dc kc_X0_takeNumberFor_1 10 rfl) cl_X0_89 rfl (Nat.le_of_ble_eq_true rfl) (Nat.zero_le _) (Nat.zero_le _) ?_)) (fun c72 => (r_aload_n (dc kc_X0_takeNumberFor_0 39 rfl) rfl <| s_getO (dc kc_X0_takeNumberFor_1 0 rfl) fl_X0_12 (ly_45_0 hL) <| k_i (dc kc_X0_takeNumberFor_1 1 rfl) rfl <| s_iload_n (dc kc_X0_takeNumberFor_1 2 rfl) rfl <| b_iadd (dc kc_X0_takeNumberFor_1 3 rfl) (by first | omega | (simp [up] <;> omega)) (by first | omega | (simp [up] <;> omega)) <| c_v1 (dc kc_X0_takeNumberFor_1 4 rfl) cl_X0_137 rfl (Nat.le_of_ble_eq_true rfl) (Nat.zero_le _) (Nat.zero_le _) ?_)))) (fun c55 => (r_aload_n (dc kc_X0_takeNumberFor_0 31 rfl) rfl <| s_getO (dc kc_X0_takeNumberFor_0 32 rfl) fl_X0_12 (ly_45_0 hL) <| s_iload_n (dc kc_X0_takeNumberFor_0 33 rfl) rfl <| c_v1 (dc kc_X0_takeNumberFor_0 34 rfl) cl_X0_137 rfl (Nat.le_of_ble_eq_true rfl) (Nat.zero_le _) (Nat.zero_le _) ?_))
      · refine u_temit hL (by omega) (fun hlt => ?_) (fun hge => ?_)
        · refine r_aload_n (dc kc_X0_takeNumberFor_1 11 rfl) rfl <| s_getO (dc kc_X0_takeNumberFor_1 12 rfl) fl_X0_12 (ly_45_0 hL) <| s_iload_n (dc kc_X0_takeNumberFor_1 13 rfl) rfl <| s_iload_n (dc kc_X0_takeNumberFor_1 14 rfl) rfl <| c_s2r (dc kc_X0_takeNumberFor_1 15 rfl) cl_X0_157 rfl (Nat.le_of_ble_eq_true rfl) (Nat.zero_le _) (Nat.zero_le _) ?_
          refine u_neededFor ((hw.resolve_left (by omega)).resolve_left (by omega)) n0 (by unfold mst at hm0; omega) ?_
          refine c_v1 (dc kc_X0_takeNumberFor_1 16 rfl) cl_X0_160 rfl (Nat.le_of_ble_eq_true rfl) (Nat.zero_le _) (Nat.zero_le _) ?_
          have e0 : up (up mi 20 21 (mi 20 20 1) (bOr (bShl w 7) (nu f))) 20 20 1 (mi 20 20 1 + 1) 20 20 0 = R := by rw [up_k (by decide), up_j (by decide), x1]
          refine u_need hL (by rw [e0]; omega) (by rw [e0]; omega) ?_
          rw [e0]
          refine tak _ _ _ tg (c ++ [(w, nu f)]) rfl ht.2 (by omega) (((Cg.rf.up (by simp [pKr]; omega)).up (by simp [pKr])).up (by simp [pKr])) (hC.cX (fun b => by rw [up_g (by decide), up_g (by decide), up_g (by decide)])) ?_ (by rw [if_neg (by omega), if_neg (by omega)]) (by rw [if_neg (by omega)])
          have hn2 : nu f ≤ mst w := by omega
          refine ⟨⟨by rw [up_j (by decide), e0], by simp [up]; omega, by simp [up]; omega⟩, fun _ => TR.emit (hTR rfl) (by show 0 ≤ w; omega) (by show w ≤ 127; omega) n0 (by show nu f < 128; omega) (by simp [up]) ?_ (fun b z1 z2 => by rw [up_j (by omega), up_j (by omega), up_j (by omega)]) ?_⟩
          · rw [up_j (by decide), up_j (by decide), up_ud]
          · rw [up_at, up_j (by decide), up_j (by decide)]
            exact t6.or (nfr_Bm n0 hn2)
        · exfalso; omega
      · refine u_aimAt hL (by omega) (by omega) ?_
        rw [x1]
        refine s_goto (tgt := 109) (dc kc_X0_takeNumberFor_1 5 rfl) rfl <| ?_
        exact tak _ _ _ (3 + nu f) c rfl ht.2 (by omega) (Cg.rf.up (by simp [pKr])) (hC.cX (fun b => by rw [up_g (by decide)])) (aim _) (by rw [if_neg (by omega), if_pos (by omega)]) (by rw [if_pos (by omega)])
      · refine u_aimAt hL (by omega) (by omega) ?_
        rw [x1]
        refine s_goto (tgt := 109) (dc kc_X0_takeNumberFor_0 35 rfl) rfl <| ?_
        exact tak _ _ _ (nu f) c rfl ht.2 (by omega) (Cg.rf.up (by simp [pKr])) (hC.cX (fun b => by rw [up_g (by decide)])) (aim _) (by rw [if_pos (by omega)]) (by rw [if_pos (by omega)])
    · rw [num] at c44
      exact bad _ _ (Or.inr (by omega))
  unfold mst at go
  refine tx_intro (ls := [vR (some (0, 45)), vI w, vX 0, vX 0]) om_X0_takeNumberFor rfl (Nat.le_of_ble_eq_true rfl) ?_
  refine s_iload_n (dc kc_X0_takeNumberFor_0 0 rfl) rfl <| k_b (dc kc_X0_takeNumberFor_0 1 rfl) rfl <| s_icmp_ne (tgt := 11) (dc kc_X0_takeNumberFor_0 2 rfl) rfl (fun c3 => (s_iload_n (dc kc_X0_takeNumberFor_0 5 rfl) rfl <| k_b (dc kc_X0_takeNumberFor_0 6 rfl) rfl <| s_icmp_ne (tgt := 21) (dc kc_X0_takeNumberFor_0 7 rfl) rfl (fun c14 => (k_i (dc kc_X0_takeNumberFor_0 10 rfl) rfl <| ?_)) (fun c14 => (k_i (dc kc_X0_takeNumberFor_0 8 rfl) rfl <| s_goto (tgt := 22) (dc kc_X0_takeNumberFor_0 9 rfl) rfl <| ?_)))) (fun c3 => (k_b (dc kc_X0_takeNumberFor_0 3 rfl) rfl <| s_goto (tgt := 22) (dc kc_X0_takeNumberFor_0 4 rfl) rfl <| ?_))
  · exact go _ (by rw [if_neg (by omega), if_neg (by omega)])
  · exact go _ (by rw [if_neg (by omega), if_pos (by omega)])
  · exact go _ (by rw [if_pos (by omega)])
theorem u_expandLaw (hL : Lay G mr) {mi : MI} {f u b fl tg e : Int} {r : List Int} {p v c : List CT} (hK : CK tk nu nx N mi) (hC : CP tk mi f u b fl r) (hX : CX mi B R fl tg e p v c) (hG : Gs tk B N (f, u, b, fl, 700 :: r, tg, e, p, v, c)) {x : Int} (hx : x = tkn tk f fl) (hQ : ∀ mi', Cg (pKr B R) mi mi' → CM tk B R mi' (mv psG tk nu nx o (f, u, b, fl, 700 :: r, tg, e, p, v, c)) → Q (vX 0) mi' n mr) : Tx (d+3) mt_X0_expandLaw [vR (some (0, 45)), vI x] mi n mr Q := by
  have hu0 : 0 ≤ u := hG.2.1.1
  have hu9 : u ≤ 60 := hG.2.1.2
  have hb0 : -u ≤ b := hG.2.2.2.1.1
  have hb8 : b ≤ 8 := hG.2.2.2.1.2
  have hf0 : 0 ≤ f := hG.1.1
  have hrl : r.length + 1 ≤ 256 := hG.2.2.2.2.2.1
  have hU : fl = -1 → tk f ≠ 91 → tk f ≠ 23 → u < 60 := fun z1 z2 z3 => by
    by_cases hu : u = 60
    · rcases hG.2.2.1 z1 hu with q | q
      · exact absurd q z2
      · exact absurd q z3
    · omega
  have al : ∀ x, x ≠ 24 → tkn tk f fl = x → fl = -1 ∧ tk f = x := fun x hx z => by
    unfold tkn at z
    by_cases q : fl = -1
    · rw [if_pos q] at z; exact ⟨q, z⟩
    · rw [if_neg q] at z; exact absurd z.symm hx
  have tok : mi 0 45 6 = tkn tk f fl := hC.2.1
  refine tx_intro (ls := [vR (some (0, 45)), vI x]) om_X0_expandLaw rfl (Nat.le_of_ble_eq_true rfl) ?_
  by_cases x0 : x = 0
  · refine s_iload_n (dc kc_X0_expandLaw 0 rfl) rfl <| s_tabC (k0 := 0) (tgt := 36) (dc kc_X0_expandLaw 1 rfl) ?_ rfl rfl rfl <| r_aload_n (dc kc_X0_expandLaw 2 rfl) rfl <| c_v0 (dc kc_X0_expandLaw 3 rfl) cl_X0_129 rfl (Nat.le_of_ble_eq_true rfl) (Nat.zero_le _) (Nat.zero_le _) ?_
    · exact x0
    · obtain ⟨z1, z2⟩ := al 0 (by decide) (by omega)
      subst z1
      refine u_take hL hK hC hX (by omega) hu0 (hU rfl (by omega) (by omega)) (fun m1 g1 h1 => ?_)
      refine r_aload_n (dc kc_X0_expandLaw 4 rfl) rfl <| k_s (dc kc_X0_expandLaw 5 rfl) rfl <| c_v1 (dc kc_X0_expandLaw 6 rfl) cl_X0_83 rfl (Nat.le_of_ble_eq_true rfl) (Nat.zero_le _) (Nat.zero_le _) ?_
      refine u_await hL h1 (tkS_len (by omega)) (fun m2 g2 h2 => ?_)
      refine s_goto (tgt := 113) (dc kc_X0_expandLaw 7 rfl) rfl <| s_return (dc kc_X0_expandLaw 35 rfl) rfl (Nat.zero_le _) (Nat.zero_le _) ?_
      rw [pshS_tkS] at h2
      refine hQ m2 (g1.tr g2) ?_
      rw [mv_71 (by decide) (show prd o (tk f) 700 = some (1, [300]) by rw [z2]; rfl) rfl]
      exact h2
  by_cases x1 : x = 1
  · refine s_iload_n (dc kc_X0_expandLaw 0 rfl) rfl <| s_tabC (k0 := 1) (tgt := 50) (dc kc_X0_expandLaw 1 rfl) ?_ rfl rfl rfl <| r_aload_n (dc kc_X0_expandLaw 8 rfl) rfl <| c_v0 (dc kc_X0_expandLaw 9 rfl) cl_X0_129 rfl (Nat.le_of_ble_eq_true rfl) (Nat.zero_le _) (Nat.zero_le _) ?_
    · exact x1
    · obtain ⟨z1, z2⟩ := al 1 (by decide) (by omega)
      subst z1
      refine u_take hL hK hC hX (by omega) hu0 (hU rfl (by omega) (by omega)) (fun m1 g1 h1 => ?_)
      refine r_aload_n (dc kc_X0_expandLaw 10 rfl) rfl <| k_s (dc kc_X0_expandLaw 11 rfl) rfl <| c_v1 (dc kc_X0_expandLaw 12 rfl) cl_X0_83 rfl (Nat.le_of_ble_eq_true rfl) (Nat.zero_le _) (Nat.zero_le _) ?_
      refine u_await hL h1 (tkS_len (by omega)) (fun m2 g2 h2 => ?_)
      refine s_goto (tgt := 113) (dc kc_X0_expandLaw 13 rfl) rfl <| s_return (dc kc_X0_expandLaw 35 rfl) rfl (Nat.zero_le _) (Nat.zero_le _) ?_
      rw [pshS_tkS] at h2
      refine hQ m2 (g1.tr g2) ?_
      rw [mv_71 (by decide) (show prd o (tk f) 700 = some (1, [301]) by rw [z2]; rfl) rfl]
      exact h2
  by_cases x2 : x = 2
  · refine s_iload_n (dc kc_X0_expandLaw 0 rfl) rfl <| s_tabC (k0 := 2) (tgt := 64) (dc kc_X0_expandLaw 1 rfl) ?_ rfl rfl rfl <| r_aload_n (dc kc_X0_expandLaw 14 rfl) rfl <| c_v0 (dc kc_X0_expandLaw 15 rfl) cl_X0_129 rfl (Nat.le_of_ble_eq_true rfl) (Nat.zero_le _) (Nat.zero_le _) ?_
    · exact x2
    · obtain ⟨z1, z2⟩ := al 2 (by decide) (by omega)
      subst z1
      refine u_take hL hK hC hX (by omega) hu0 (hU rfl (by omega) (by omega)) (fun m1 g1 h1 => ?_)
      refine r_aload_n (dc kc_X0_expandLaw 16 rfl) rfl <| k_s (dc kc_X0_expandLaw 17 rfl) rfl <| c_v1 (dc kc_X0_expandLaw 18 rfl) cl_X0_83 rfl (Nat.le_of_ble_eq_true rfl) (Nat.zero_le _) (Nat.zero_le _) ?_
      refine u_await hL h1 (tkS_len (by omega)) (fun m2 g2 h2 => ?_)
      refine s_goto (tgt := 113) (dc kc_X0_expandLaw 19 rfl) rfl <| s_return (dc kc_X0_expandLaw 35 rfl) rfl (Nat.zero_le _) (Nat.zero_le _) ?_
      rw [pshS_tkS] at h2
      refine hQ m2 (g1.tr g2) ?_
      rw [mv_71 (by decide) (show prd o (tk f) 700 = some (1, [302]) by rw [z2]; rfl) rfl]
      exact h2
  by_cases x3 : x = 3
  · refine s_iload_n (dc kc_X0_expandLaw 0 rfl) rfl <| s_tabC (k0 := 3) (tgt := 78) (dc kc_X0_expandLaw 1 rfl) ?_ rfl rfl rfl <| r_aload_n (dc kc_X0_expandLaw 20 rfl) rfl <| c_v0 (dc kc_X0_expandLaw 21 rfl) cl_X0_129 rfl (Nat.le_of_ble_eq_true rfl) (Nat.zero_le _) (Nat.zero_le _) ?_
    · exact x3
    · obtain ⟨z1, z2⟩ := al 3 (by decide) (by omega)
      subst z1
      refine u_take hL hK hC hX (by omega) hu0 (hU rfl (by omega) (by omega)) (fun m1 g1 h1 => ?_)
      refine r_aload_n (dc kc_X0_expandLaw 22 rfl) rfl <| k_s (dc kc_X0_expandLaw 23 rfl) rfl <| k_s (dc kc_X0_expandLaw 24 rfl) rfl <| c_v2 (dc kc_X0_expandLaw 25 rfl) cl_X0_132 rfl (Nat.le_of_ble_eq_true rfl) (Nat.zero_le _) (Nat.zero_le _) ?_
      refine u_await2 hL h1 (tkS_len (by omega)) (fun m2 g2 h2 => ?_)
      refine s_goto (tgt := 113) (dc kc_X0_expandLaw 26 rfl) rfl <| s_return (dc kc_X0_expandLaw 35 rfl) rfl (Nat.zero_le _) (Nat.zero_le _) ?_
      rw [pshS_tkS] at h2
      refine hQ m2 (g1.tr g2) ?_
      rw [mv_71 (by decide) (show prd o (tk f) 700 = some (1, [325, 303]) by rw [z2]; rfl) rfl]
      exact h2
  by_cases x4 : x = 4
  · refine s_iload_n (dc kc_X0_expandLaw 0 rfl) rfl <| s_tabC (k0 := 4) (tgt := 95) (dc kc_X0_expandLaw 1 rfl) ?_ rfl rfl rfl <| r_aload_n (dc kc_X0_expandLaw 27 rfl) rfl <| c_v0 (dc kc_X0_expandLaw 28 rfl) cl_X0_129 rfl (Nat.le_of_ble_eq_true rfl) (Nat.zero_le _) (Nat.zero_le _) ?_
    · exact x4
    · obtain ⟨z1, z2⟩ := al 4 (by decide) (by omega)
      subst z1
      refine u_take hL hK hC hX (by omega) hu0 (hU rfl (by omega) (by omega)) (fun m1 g1 h1 => ?_)
      refine r_aload_n (dc kc_X0_expandLaw 29 rfl) rfl <| k_s (dc kc_X0_expandLaw 30 rfl) rfl <| c_v1 (dc kc_X0_expandLaw 31 rfl) cl_X0_83 rfl (Nat.le_of_ble_eq_true rfl) (Nat.zero_le _) (Nat.zero_le _) ?_
      refine u_await hL h1 (tkS_len (by omega)) (fun m2 g2 h2 => ?_)
      refine s_goto (tgt := 113) (dc kc_X0_expandLaw 32 rfl) rfl <| s_return (dc kc_X0_expandLaw 35 rfl) rfl (Nat.zero_le _) (Nat.zero_le _) ?_
      rw [pshS_tkS] at h2
      refine hQ m2 (g1.tr g2) ?_
      rw [mv_71 (by decide) (show prd o (tk f) 700 = some (1, [710]) by rw [z2]; rfl) rfl]
      exact h2
  refine s_iload_n (dc kc_X0_expandLaw 0 rfl) rfl <| s_tabD (tgt := 109) (dc kc_X0_expandLaw 1 rfl) ?_ rfl <| r_aload_n (dc kc_X0_expandLaw 33 rfl) rfl <| c_v0 (dc kc_X0_expandLaw 34 rfl) cl_X0_77 rfl (Nat.le_of_ble_eq_true rfl) (Nat.zero_le _) (Nat.zero_le _) ?_
  · omega
  · refine u_fail hL hK hC hX (fun m1 g1 h1 => ?_)
    refine s_return (dc kc_X0_expandLaw 35 rfl) rfl (Nat.zero_le _) (Nat.zero_le _) ?_
    refine hQ m1 g1 ?_
    rw [mv_7n (by decide) (show prd o (tkn tk f fl) 700 = none by rw [prd_700, if_neg (by omega), if_neg (by omega), if_neg (by omega), if_neg (by omega), if_neg (by omega)])]
    exact h1
theorem u_expandLine (hL : Lay G mr) {mi : MI} {f u b fl tg e : Int} {r : List Int} {p v c : List CT} (hK : CK tk nu nx N mi) (hC : CP tk mi f u b fl r) (hX : CX mi B R fl tg e p v c) (hG : Gs tk B N (f, u, b, fl, 701 :: r, tg, e, p, v, c)) {x : Int} (hx : x = tkn tk f fl) (hQ : ∀ mi', Cg (pKr B R) mi mi' → CM tk B R mi' (mv psG tk nu nx o (f, u, b, fl, 701 :: r, tg, e, p, v, c)) → Q (vX 0) mi' n mr) : Tx (d+3) mt_X0_expandLine [vR (some (0, 45)), vI x] mi n mr Q := by
  have hu0 : 0 ≤ u := hG.2.1.1
  have hu9 : u ≤ 60 := hG.2.1.2
  have hb0 : -u ≤ b := hG.2.2.2.1.1
  have hb8 : b ≤ 8 := hG.2.2.2.1.2
  have hf0 : 0 ≤ f := hG.1.1
  have hrl : r.length + 1 ≤ 256 := hG.2.2.2.2.2.1
  have hU : fl = -1 → tk f ≠ 91 → tk f ≠ 23 → u < 60 := fun z1 z2 z3 => by
    by_cases hu : u = 60
    · rcases hG.2.2.1 z1 hu with q | q
      · exact absurd q z2
      · exact absurd q z3
    · omega
  have al : ∀ x, x ≠ 24 → tkn tk f fl = x → fl = -1 ∧ tk f = x := fun x hx z => by
    unfold tkn at z
    by_cases q : fl = -1
    · rw [if_pos q] at z; exact ⟨q, z⟩
    · rw [if_neg q] at z; exact absurd z.symm hx
  have tok : mi 0 45 6 = tkn tk f fl := hC.2.1
  refine tx_intro (ls := [vR (some (0, 45)), vI x]) om_X0_expandLine rfl (Nat.le_of_ble_eq_true rfl) ?_
  by_cases x5 : x = 5
  · refine s_iload_n (dc kc_X0_expandLine 0 rfl) rfl <| s_lookup (tgt := 28) (dc kc_X0_expandLine 1 rfl) rfl ?_ <| r_aload_n (dc kc_X0_expandLine 2 rfl) rfl <| c_v0 (dc kc_X0_expandLine 3 rfl) cl_X0_129 rfl (Nat.le_of_ble_eq_true rfl) (Nat.zero_le _) (Nat.zero_le _) ?_
    · rw [x5]; rfl
    · obtain ⟨z1, z2⟩ := al 5 (by decide) (by omega)
      subst z1
      refine u_take hL hK hC hX (by omega) hu0 (hU rfl (by omega) (by omega)) (fun m1 g1 h1 => ?_)
      refine r_aload_n (dc kc_X0_expandLine 4 rfl) rfl <| k_s (dc kc_X0_expandLine 5 rfl) rfl <| k_s (dc kc_X0_expandLine 6 rfl) rfl <| c_v2 (dc kc_X0_expandLine 7 rfl) cl_X0_132 rfl (Nat.le_of_ble_eq_true rfl) (Nat.zero_le _) (Nat.zero_le _) ?_
      refine u_await2 hL h1 (tkS_len (by omega)) (fun m2 g2 h2 => ?_)
      refine s_goto (tgt := 66) (dc kc_X0_expandLine 8 rfl) rfl <| s_return (dc kc_X0_expandLine 18 rfl) rfl (Nat.zero_le _) (Nat.zero_le _) ?_
      rw [pshS_tkS] at h2
      refine hQ m2 (g1.tr g2) ?_
      rw [mv_71 (by decide) (show prd o (tk f) 701 = some (1, [702, 704]) by rw [z2]; rfl) rfl]
      exact h2
  by_cases x6 : x = 6
  · refine s_iload_n (dc kc_X0_expandLine 0 rfl) rfl <| s_lookup (tgt := 45) (dc kc_X0_expandLine 1 rfl) rfl ?_ <| r_aload_n (dc kc_X0_expandLine 9 rfl) rfl <| c_v0 (dc kc_X0_expandLine 10 rfl) cl_X0_129 rfl (Nat.le_of_ble_eq_true rfl) (Nat.zero_le _) (Nat.zero_le _) ?_
    · rw [x6]; rfl
    · obtain ⟨z1, z2⟩ := al 6 (by decide) (by omega)
      subst z1
      refine u_take hL hK hC hX (by omega) hu0 (hU rfl (by omega) (by omega)) (fun m1 g1 h1 => ?_)
      refine r_aload_n (dc kc_X0_expandLine 11 rfl) rfl <| k_s (dc kc_X0_expandLine 12 rfl) rfl <| k_s (dc kc_X0_expandLine 13 rfl) rfl <| c_v2 (dc kc_X0_expandLine 14 rfl) cl_X0_132 rfl (Nat.le_of_ble_eq_true rfl) (Nat.zero_le _) (Nat.zero_le _) ?_
      refine u_await2 hL h1 (tkS_len (by omega)) (fun m2 g2 h2 => ?_)
      refine s_goto (tgt := 66) (dc kc_X0_expandLine 15 rfl) rfl <| s_return (dc kc_X0_expandLine 18 rfl) rfl (Nat.zero_le _) (Nat.zero_le _) ?_
      rw [pshS_tkS] at h2
      refine hQ m2 (g1.tr g2) ?_
      rw [mv_71 (by decide) (show prd o (tk f) 701 = some (1, [720, 704]) by rw [z2]; rfl) rfl]
      exact h2
  refine s_iload_n (dc kc_X0_expandLine 0 rfl) rfl <| s_lookup (tgt := 62) (dc kc_X0_expandLine 1 rfl) rfl ?_ <| r_aload_n (dc kc_X0_expandLine 16 rfl) rfl <| c_v0 (dc kc_X0_expandLine 17 rfl) cl_X0_77 rfl (Nat.le_of_ble_eq_true rfl) (Nat.zero_le _) (Nat.zero_le _) ?_
  · simp [Op.lookupswitch.offset, x5, x6, Ne.symm x5, Ne.symm x6]
  · refine u_fail hL hK hC hX (fun m1 g1 h1 => ?_)
    refine s_return (dc kc_X0_expandLine 18 rfl) rfl (Nat.zero_le _) (Nat.zero_le _) ?_
    refine hQ m1 g1 ?_
    rw [mv_7n (by decide) (show prd o (tkn tk f fl) 701 = none by rw [prd_701, if_neg (by omega), if_neg (by omega)])]
    exact h1
theorem u_aimAtNode (hL : Lay G mr) {mi : MI} {f u b tg e : Int} {r : List Int} {p v c : List CT} {a t : Int} (hK : CK tk nu nx N mi) (hC : CP tk mi f u b (-1) r) (hX : CX mi B R (-1) tg e p v c) (hG : Gs tk B N (f, u, b, -1, 702 :: r, tg, e, p, v, c)) (hR : 0 ≤ R ∧ R < 12) (ht : tk f ≠ 91 ∧ tk f ≠ 23) (hQ : ∀ mi', Cg (pKr B R) mi mi' → CM tk B R mi' (tkS psG tk nx [724, 703, 15, t] f u b (-1) r a e p v c) → Q (vX 0) mi' n mr) : Tx (d+3) mt_X0_aimAtNode [vR (some (0, 45)), vI a, vI t] mi n mr Q := by
  have hu0 : 0 ≤ u := hG.2.1.1
  have hu9 : u ≤ 60 := hG.2.1.2
  have hb0 : -u ≤ b := hG.2.2.2.1.1
  have hb8 : b ≤ 8 := hG.2.2.2.1.2
  have hf0 : 0 ≤ f := hG.1.1
  have hrl : r.length + 1 ≤ 256 := hG.2.2.2.2.2.1
  have hU : tk f ≠ 91 → tk f ≠ 23 → u < 60 := fun z2 z3 => by
    by_cases hu : u = 60
    · rcases hG.2.2.1 rfl hu with q | q
      · exact absurd q z2
      · exact absurd q z3
    · omega
  obtain ⟨⟨x1, x2, x3⟩, hTR⟩ := id hX
  obtain ⟨t1, t2, t3, t4, t5, t6, t7⟩ := hTR rfl
  refine tx_intro (ls := [vR (some (0, 45)), vI a, vI t]) om_X0_aimAtNode rfl (Nat.le_of_ble_eq_true rfl) ?_
  refine r_aload_n (dc kc_X0_aimAtNode 0 rfl) rfl <| s_getO (dc kc_X0_aimAtNode 1 rfl) fl_X0_12 (ly_45_0 hL) <| s_iload_n (dc kc_X0_aimAtNode 2 rfl) rfl <| c_v1 (dc kc_X0_aimAtNode 3 rfl) cl_X0_137 rfl (Nat.le_of_ble_eq_true rfl) (Nat.zero_le _) (Nat.zero_le _) ?_
  refine u_aimAt hL (by omega) (by omega) ?_
  rw [x1]
  have g0 : Cg (pKr B R) mi (up mi 20 26 R a) := Cg.rf.up (by simp [pKr])
  have aim : CX (up mi 20 26 R a) B R (-1) a e p v c := by
    refine ⟨⟨by rw [up_j (by decide)]; exact x1, by rw [up_j (by decide)]; exact x2, by rw [up_j (by decide)]; exact x3⟩, fun _ => ⟨?_, ?_, ?_, ?_, up_at, ?_, ?_⟩⟩
    · rw [up_j (by decide)]; exact t1
    · rw [up_j (by decide)]; exact t2
    · rw [up_j (by decide)]; exact t3
    · rw [up_j (by decide)]; exact t4
    · rw [up_j (by decide)]; exact t6
    · rw [up_j (by decide)]; exact t7
  refine r_aload_n (dc kc_X0_aimAtNode 4 rfl) rfl <| c_v0 (dc kc_X0_aimAtNode 5 rfl) cl_X0_129 rfl (Nat.le_of_ble_eq_true rfl) (Nat.zero_le _) (Nat.zero_le _) ?_
  refine u_take hL (hK.mv g0) (hC.cX (fun b => by rw [up_g (by decide)])) aim ht.2 hu0 (hU ht.1 ht.2) (fun m1 g1 h1 => ?_)
  refine r_aload_n (dc kc_X0_aimAtNode 6 rfl) rfl <| k_b (dc kc_X0_aimAtNode 7 rfl) rfl <| s_iload_n (dc kc_X0_aimAtNode 8 rfl) rfl <| c_v2 (dc kc_X0_aimAtNode 9 rfl) cl_X0_132 rfl (Nat.le_of_ble_eq_true rfl) (Nat.zero_le _) (Nat.zero_le _) ?_
  refine u_await2 hL h1 (tkS_len (by omega)) (fun m2 g2 h2 => ?_)
  refine r_aload_n (dc kc_X0_aimAtNode 10 rfl) rfl <| k_s (dc kc_X0_aimAtNode 11 rfl) rfl <| k_s (dc kc_X0_aimAtNode 12 rfl) rfl <| c_v2 (dc kc_X0_aimAtNode 13 rfl) cl_X0_132 rfl (Nat.le_of_ble_eq_true rfl) (Nat.zero_le _) (Nat.zero_le _) ?_
  refine u_await2 hL h2 (pshS_len (tkS_len (by omega))) (fun m3 g3 h3 => ?_)
  refine s_return (dc kc_X0_aimAtNode 14 rfl) rfl (Nat.zero_le _) (Nat.zero_le _) ?_
  rw [pshS_22, pshS_tkS] at h3
  exact hQ m3 (((g0.tr g1).tr g2).tr g3) h3
theorem u_expandPlace (hL : Lay G mr) {mi : MI} {f u b fl tg e : Int} {r : List Int} {p v c : List CT} (hK : CK tk nu nx N mi) (hC : CP tk mi f u b fl r) (hX : CX mi B R fl tg e p v c) (hG : Gs tk B N (f, u, b, fl, 702 :: r, tg, e, p, v, c)) {x : Int} (hx : x = tkn tk f fl) (hR : 0 ≤ R ∧ R < 12) (hQ : ∀ mi', Cg (pKr B R) mi mi' → CM tk B R mi' (mv psG tk nu nx o (f, u, b, fl, 702 :: r, tg, e, p, v, c)) → Q (vX 0) mi' n mr) : Tx (d+4) mt_X0_expandPlace [vR (some (0, 45)), vI x] mi n mr Q := by
  have hu0 : 0 ≤ u := hG.2.1.1
  have hu9 : u ≤ 60 := hG.2.1.2
  have hb0 : -u ≤ b := hG.2.2.2.1.1
  have hb8 : b ≤ 8 := hG.2.2.2.1.2
  have hf0 : 0 ≤ f := hG.1.1
  have hrl : r.length + 1 ≤ 256 := hG.2.2.2.2.2.1
  have hU : fl = -1 → tk f ≠ 91 → tk f ≠ 23 → u < 60 := fun z1 z2 z3 => by
    by_cases hu : u = 60
    · rcases hG.2.2.1 z1 hu with q | q
      · exact absurd q z2
      · exact absurd q z3
    · omega
  have al : ∀ x, x ≠ 24 → tkn tk f fl = x → fl = -1 ∧ tk f = x := fun x hx z => by
    unfold tkn at z
    by_cases q : fl = -1
    · rw [if_pos q] at z; exact ⟨q, z⟩
    · rw [if_neg q] at z; exact absurd z.symm hx
  have tok : mi 0 45 6 = tkn tk f fl := hC.2.1
  refine tx_intro (ls := [vR (some (0, 45)), vI x]) om_X0_expandPlace rfl (Nat.le_of_ble_eq_true rfl) ?_
  by_cases x8 : x = 8
  · refine s_iload_n (dc kc_X0_expandPlace 0 rfl) rfl <| s_tabC (k0 := 8) (tgt := 36) (dc kc_X0_expandPlace 1 rfl) ?_ rfl rfl rfl <| r_aload_n (dc kc_X0_expandPlace 2 rfl) rfl <| c_v0 (dc kc_X0_expandPlace 3 rfl) cl_X0_129 rfl (Nat.le_of_ble_eq_true rfl) (Nat.zero_le _) (Nat.zero_le _) ?_
    · exact x8
    · obtain ⟨z1, z2⟩ := al 8 (by decide) (by omega)
      subst z1
      refine u_take hL hK hC hX (by omega) hu0 (hU rfl (by omega) (by omega)) (fun m1 g1 h1 => ?_)
      refine r_aload_n (dc kc_X0_expandPlace 4 rfl) rfl <| k_s (dc kc_X0_expandPlace 5 rfl) rfl <| k_b (dc kc_X0_expandPlace 6 rfl) rfl <| k_s (dc kc_X0_expandPlace 7 rfl) rfl <| c_v3 (dc kc_X0_expandPlace 8 rfl) cl_X0_123 rfl (Nat.le_of_ble_eq_true rfl) (Nat.zero_le _) (Nat.zero_le _) ?_
      refine u_await3 hL h1 (tkS_len (by omega)) (fun m2 g2 h2 => ?_)
      refine s_goto (tgt := 114) (dc kc_X0_expandPlace 9 rfl) rfl <| s_return (dc kc_X0_expandPlace 35 rfl) rfl (Nat.zero_le _) (Nat.zero_le _) ?_
      rw [pshS_tkS] at h2
      refine hQ m2 (g1.tr g2) ?_
      rw [mv_71 (by decide) (show prd o (tk f) 702 = some (1, [326, 15, 723]) by rw [z2]; rfl) rfl]
      rw [if_pos rfl]
      have ht : tgN (tkn tk f (-1)) tg = tg := by show tgN (tk f) tg = tg; rw [z2]; rfl
      rw [ht]
      exact h2
  by_cases x9 : x = 9
  · refine s_iload_n (dc kc_X0_expandPlace 0 rfl) rfl <| s_tabC (k0 := 9) (tgt := 55) (dc kc_X0_expandPlace 1 rfl) ?_ rfl rfl rfl <| r_aload_n (dc kc_X0_expandPlace 10 rfl) rfl <| c_v0 (dc kc_X0_expandPlace 11 rfl) cl_X0_129 rfl (Nat.le_of_ble_eq_true rfl) (Nat.zero_le _) (Nat.zero_le _) ?_
    · exact x9
    · obtain ⟨z1, z2⟩ := al 9 (by decide) (by omega)
      subst z1
      refine u_take hL hK hC hX (by omega) hu0 (hU rfl (by omega) (by omega)) (fun m1 g1 h1 => ?_)
      refine r_aload_n (dc kc_X0_expandPlace 12 rfl) rfl <| k_s (dc kc_X0_expandPlace 13 rfl) rfl <| k_b (dc kc_X0_expandPlace 14 rfl) rfl <| k_s (dc kc_X0_expandPlace 15 rfl) rfl <| c_v3 (dc kc_X0_expandPlace 16 rfl) cl_X0_123 rfl (Nat.le_of_ble_eq_true rfl) (Nat.zero_le _) (Nat.zero_le _) ?_
      refine u_await3 hL h1 (tkS_len (by omega)) (fun m2 g2 h2 => ?_)
      refine s_goto (tgt := 114) (dc kc_X0_expandPlace 17 rfl) rfl <| s_return (dc kc_X0_expandPlace 35 rfl) rfl (Nat.zero_le _) (Nat.zero_le _) ?_
      rw [pshS_tkS] at h2
      refine hQ m2 (g1.tr g2) ?_
      rw [mv_71 (by decide) (show prd o (tk f) 702 = some (1, [327, 15, 720]) by rw [z2]; rfl) rfl]
      rw [if_pos rfl]
      have ht : tgN (tkn tk f (-1)) tg = tg := by show tgN (tk f) tg = tg; rw [z2]; rfl
      rw [ht]
      exact h2
  by_cases x10 : x = 10
  · refine s_iload_n (dc kc_X0_expandPlace 0 rfl) rfl <| s_tabC (k0 := 10) (tgt := 74) (dc kc_X0_expandPlace 1 rfl) ?_ rfl rfl rfl <| r_aload_n (dc kc_X0_expandPlace 18 rfl) rfl <| k_b (dc kc_X0_expandPlace 19 rfl) rfl <| k_s (dc kc_X0_expandPlace 20 rfl) rfl <| c_v2 (dc kc_X0_expandPlace 21 rfl) cl_X0_134 rfl (Nat.le_of_ble_eq_true rfl) (Nat.zero_le _) (Nat.zero_le _) ?_
    · exact x10
    · obtain ⟨z1, z2⟩ := al 10 (by decide) (by omega)
      subst z1
      refine u_aimAtNode hL hK hC hX hG hR ⟨by omega, by omega⟩ (fun m1 g1 h1 => ?_)
      refine s_goto (tgt := 114) (dc kc_X0_expandPlace 22 rfl) rfl <| s_return (dc kc_X0_expandPlace 35 rfl) rfl (Nat.zero_le _) (Nat.zero_le _) ?_
      refine hQ m1 g1 ?_
      rw [mv_71 (by decide) (show prd o (tk f) 702 = some (1, [724, 703, 15, 723]) by rw [z2]; rfl) rfl, if_pos rfl]
      have ht : tgN (tkn tk f (-1)) tg = 6 := by show tgN (tk f) tg = 6; rw [z2]; rfl
      rw [ht]
      exact h1
  by_cases x11 : x = 11
  · refine s_iload_n (dc kc_X0_expandPlace 0 rfl) rfl <| s_tabC (k0 := 11) (tgt := 86) (dc kc_X0_expandPlace 1 rfl) ?_ rfl rfl rfl <| r_aload_n (dc kc_X0_expandPlace 23 rfl) rfl <| k_b (dc kc_X0_expandPlace 24 rfl) rfl <| k_s (dc kc_X0_expandPlace 25 rfl) rfl <| c_v2 (dc kc_X0_expandPlace 26 rfl) cl_X0_134 rfl (Nat.le_of_ble_eq_true rfl) (Nat.zero_le _) (Nat.zero_le _) ?_
    · exact x11
    · obtain ⟨z1, z2⟩ := al 11 (by decide) (by omega)
      subst z1
      refine u_aimAtNode hL hK hC hX hG hR ⟨by omega, by omega⟩ (fun m1 g1 h1 => ?_)
      refine s_goto (tgt := 114) (dc kc_X0_expandPlace 27 rfl) rfl <| s_return (dc kc_X0_expandPlace 35 rfl) rfl (Nat.zero_le _) (Nat.zero_le _) ?_
      refine hQ m1 g1 ?_
      rw [mv_71 (by decide) (show prd o (tk f) 702 = some (1, [724, 703, 15, 723]) by rw [z2]; rfl) rfl, if_pos rfl]
      have ht : tgN (tkn tk f (-1)) tg = 7 := by show tgN (tk f) tg = 7; rw [z2]; rfl
      rw [ht]
      exact h1
  by_cases x12 : x = 12
  · refine s_iload_n (dc kc_X0_expandPlace 0 rfl) rfl <| s_tabC (k0 := 12) (tgt := 98) (dc kc_X0_expandPlace 1 rfl) ?_ rfl rfl rfl <| r_aload_n (dc kc_X0_expandPlace 28 rfl) rfl <| k_b (dc kc_X0_expandPlace 29 rfl) rfl <| k_s (dc kc_X0_expandPlace 30 rfl) rfl <| c_v2 (dc kc_X0_expandPlace 31 rfl) cl_X0_134 rfl (Nat.le_of_ble_eq_true rfl) (Nat.zero_le _) (Nat.zero_le _) ?_
    · exact x12
    · obtain ⟨z1, z2⟩ := al 12 (by decide) (by omega)
      subst z1
      refine u_aimAtNode hL hK hC hX hG hR ⟨by omega, by omega⟩ (fun m1 g1 h1 => ?_)
      refine s_goto (tgt := 114) (dc kc_X0_expandPlace 32 rfl) rfl <| s_return (dc kc_X0_expandPlace 35 rfl) rfl (Nat.zero_le _) (Nat.zero_le _) ?_
      refine hQ m1 g1 ?_
      rw [mv_71 (by decide) (show prd o (tk f) 702 = some (1, [724, 703, 15, 720]) by rw [z2]; rfl) rfl, if_pos rfl]
      have ht : tgN (tkn tk f (-1)) tg = 8 := by show tgN (tk f) tg = 8; rw [z2]; rfl
      rw [ht]
      exact h1
  refine s_iload_n (dc kc_X0_expandPlace 0 rfl) rfl <| s_tabD (tgt := 110) (dc kc_X0_expandPlace 1 rfl) ?_ rfl <| r_aload_n (dc kc_X0_expandPlace 33 rfl) rfl <| c_v0 (dc kc_X0_expandPlace 34 rfl) cl_X0_77 rfl (Nat.le_of_ble_eq_true rfl) (Nat.zero_le _) (Nat.zero_le _) ?_
  · omega
  · refine u_fail hL hK hC hX (fun m1 g1 h1 => ?_)
    refine s_return (dc kc_X0_expandPlace 35 rfl) rfl (Nat.zero_le _) (Nat.zero_le _) ?_
    refine hQ m1 g1 ?_
    rw [mv_7n (by decide) (show prd o (tkn tk f fl) 702 = none by rw [prd_702, if_neg (by omega), if_neg (by omega), if_neg (by omega), if_neg (by omega), if_neg (by omega)])]
    exact h1
end CMX
