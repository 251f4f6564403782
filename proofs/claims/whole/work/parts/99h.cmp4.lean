/-! the class: the rest of its compiler's rules -/
theorem TR.val {mi : MI} {B R tg e : Int} {p v c : List CT} (h : TR mi B R tg e p v c) : TR (up mi 20 24 R (mi 20 20 1)) B R tg 1 p (v ++ c) [] := by
  obtain ⟨t1, t2, t3, t4, t5, t6, t7⟩ := h
  have hl : lng p (v ++ c) [] = lng p v c := by unfold lng; simp; omega
  have ha : p ++ (v ++ c) ++ [] = p ++ v ++ c := by simp
  unfold TR
  rw [hl, ha]
  refine ⟨?_, ?_, ?_, fun _ => ?_, ?_, ?_, ?_⟩
  · rw [up_j (by decide)]; exact t1
  · rw [up_j (by decide)]; exact t2
  · rw [up_j (by decide)]; exact t3
  · rw [up_at, t1]; unfold lng; simp; omega
  · rw [up_j (by decide)]; exact t5
  · rw [up_j (by decide)]; exact t6
  · rw [up_j (by decide)]; exact t7
theorem TR.nod {mi : MI} {B R tg e : Int} {p v c : List CT} (h : TR mi B R tg e p v c) : TR (up mi 20 23 R (mi 20 20 1)) B R tg 0 (p ++ v ++ c) [] [] := by
  obtain ⟨t1, t2, t3, t4, t5, t6, t7⟩ := h
  have hl : lng (p ++ v ++ c) [] [] = lng p v c := by unfold lng; simp; omega
  have ha : p ++ v ++ c ++ [] ++ [] = p ++ v ++ c := by simp
  unfold TR
  rw [hl, ha]
  refine ⟨?_, ?_, ?_, fun z => absurd z (by decide), ?_, ?_, ?_⟩
  · rw [up_j (by decide)]; exact t1
  · rw [up_j (by decide)]; exact t2
  · rw [up_at, t1]; unfold lng; simp; omega
  · rw [up_j (by decide)]; exact t5
  · rw [up_j (by decide)]; exact t6
  · rw [up_j (by decide)]; exact t7
section CMY
variable {d n G : Nat} {mr : MR} {Q : V → MI → Nat → MR → Prop} {tk nu nx : Int → Int} {N B R o : Int}
theorem u_expandIf (hL : Lay G mr) {mi : MI} {f u b fl tg e : Int} {r : List Int} {p v c : List CT} (hK : CK tk nu nx N mi) (hC : CP tk mi f u b fl r) (hX : CX mi B R fl tg e p v c) (hG : Gs tk B N (f, u, b, fl, 704 :: r, tg, e, p, v, c)) (hR : 0 ≤ R ∧ R < 12) (hQ : ∀ mi', Cg (pKr B R) mi mi' → CM tk B R mi' (mv psG tk nu nx o (f, u, b, fl, 704 :: r, tg, e, p, v, c)) → Q (vX 0) mi' n mr) : Tx (d+3) mt_X0_expandIf [vR (some (0, 45))] mi n mr Q := by
  have hu0 : 0 ≤ u := hG.2.1.1
  have hu9 : u ≤ 60 := hG.2.1.2
  have hb0 : -u ≤ b := hG.2.2.2.1.1
  have hb8 : b ≤ 8 := hG.2.2.2.1.2
  have hf0 : 0 ≤ f := hG.1.1
  have hrl : r.length + 1 ≤ 256 := hG.2.2.2.2.2.1
  have hU : fl = -1 → tk f ≠ 91 → tk f ≠ 23 → u < 60 := fun z1 z2 z3 => by
    by_cases hu : u = 60
    · rcases hG.2.2.1 z1 hu with q | q
      · exact absurd q z2
      · exact absurd q z3
    · omega
  have al : ∀ x, x ≠ 24 → tkn tk f fl = x → fl = -1 ∧ tk f = x := fun x hx z => by
    unfold tkn at z
    by_cases q : fl = -1
    · rw [if_pos q] at z; exact ⟨q, z⟩
    · rw [if_neg q] at z; exact absurd z.symm hx
  have tok : mi 0 45 6 = tkn tk f fl := hC.2.1
  obtain ⟨⟨x1, x2, x3⟩, hTR⟩ := id hX
  have g0 : Cg (pKr B R) mi (up mi 20 24 R (mi 20 20 1)) := Cg.rf.up (by simp [pKr])
  have hX0 : CX (up mi 20 24 R (mi 20 20 1)) B R fl tg 1 p (v ++ c) [] := ⟨⟨by rw [up_j (by decide)]; exact x1, by rw [up_j (by decide)]; exact x2, by rw [up_j (by decide)]; exact x3⟩, fun z => (hTR z).val⟩
  have hC0 : CP tk (up mi 20 24 R (mi 20 20 1)) f u b fl r := hC.cX (fun b => by rw [up_g (by decide)])
  have tok0 : up mi 20 24 R (mi 20 20 1) 0 45 6 = tkn tk f fl := by rw [up_g (by decide)]; exact tok
  refine tx_intro (ls := [vR (some (0, 45))]) om_X0_expandIf rfl (Nat.le_of_ble_eq_true rfl) ?_
  refine r_aload_n (dc kc_X0_expandIf 0 rfl) rfl <| s_getO (dc kc_X0_expandIf 1 rfl) fl_X0_12 (ly_45_0 hL) <| c_v0 (dc kc_X0_expandIf 2 rfl) cl_X0_140 rfl (Nat.le_of_ble_eq_true rfl) (Nat.zero_le _) (Nat.zero_le _) ?_
  refine u_endValue hL (by omega) (by omega) ?_
  rw [x1]
  refine r_aload_n (dc kc_X0_expandIf 3 rfl) rfl <| s_getI (dc kc_X0_expandIf 4 rfl) fl_X0_36 <| k_b (dc kc_X0_expandIf 5 rfl) rfl <| s_icmp_ne (tgt := 27) (dc kc_X0_expandIf 6 rfl) rfl (fun c13 => (s_return (dc kc_X0_expandIf 12 rfl) rfl (Nat.zero_le _) (Nat.zero_le _) ?_)) (fun c13 => (r_aload_n (dc kc_X0_expandIf 7 rfl) rfl <| c_v0 (dc kc_X0_expandIf 8 rfl) cl_X0_129 rfl (Nat.le_of_ble_eq_true rfl) (Nat.zero_le _) (Nat.zero_le _) ?_))
  · refine hQ _ g0 ?_
    rw [mv_70 (by decide) (show prd o (tkn tk f fl) 704 = some (0, []) by rw [prd_704, if_neg (by omega)]) rfl]
    exact ⟨hC0, hX0⟩
  · obtain ⟨z1, z2⟩ := al 7 (by decide) (by omega)
    subst z1
    refine u_take hL (hK.mv g0) hC0 hX0 (by omega) hu0 (hU rfl (by omega) (by omega)) (fun m1 g1 h1 => ?_)
    refine r_aload_n (dc kc_X0_expandIf 9 rfl) rfl <| k_s (dc kc_X0_expandIf 10 rfl) rfl <| c_v1 (dc kc_X0_expandIf 11 rfl) cl_X0_83 rfl (Nat.le_of_ble_eq_true rfl) (Nat.zero_le _) (Nat.zero_le _) ?_
    refine u_await hL h1 (tkS_len (by omega)) (fun m2 g2 h2 => ?_)
    refine s_return (dc kc_X0_expandIf 12 rfl) rfl (Nat.zero_le _) (Nat.zero_le _) ?_
    rw [pshS_tkS] at h2
    refine hQ m2 ((g0.tr g1).tr g2) ?_
    rw [mv_71 (by decide) (show prd o (tk f) 704 = some (1, [710]) by rw [z2]; rfl) rfl]
    exact h2
theorem u_goOnIf (hL : Lay G mr) {mi : MI} {f u b fl tg e : Int} {r : List Int} {p v c : List CT} {y rule th q : Int} (hK : CK tk nu nx N mi) (hC : CP tk mi f u b fl r) (hX : CX mi B R fl tg e p v c) (hG : Gs tk B N (f, u, b, fl, y :: r, tg, e, p, v, c)) (hq : q = 0 ∨ q = 1) (ha : q = 1 → fl = -1 ∧ tk f ≠ 23 ∧ tk f ≠ 91 ∧ tk f ≤ 1000 ∧ 0 ≤ tk f) (hQ0 : q = 0 → Q (vX 0) mi n mr) (hQ1 : q = 1 → ∀ mi', Cg (pKr B R) mi mi' → CM tk B R mi' (tkS psG tk nx [rule, 400 + tk f, th] f u b (-1) r tg e p v c) → Q (vX 0) mi' n mr) : Tx (d+3) mt_X0_goOnIf [vR (some (0, 45)), vI q, vI rule, vI th] mi n mr Q := by
  have hu0 : 0 ≤ u := hG.2.1.1
  have hu9 : u ≤ 60 := hG.2.1.2
  have hb0 : -u ≤ b := hG.2.2.2.1.1
  have hb8 : b ≤ 8 := hG.2.2.2.1.2
  have hf0 : 0 ≤ f := hG.1.1
  have hrl : r.length + 1 ≤ 256 := hG.2.2.2.2.2.1
  have hU : fl = -1 → tk f ≠ 91 → tk f ≠ 23 → u < 60 := fun z1 z2 z3 => by
    by_cases hu : u = 60
    · rcases hG.2.2.1 z1 hu with q | q
      · exact absurd q z2
      · exact absurd q z3
    · omega
  have tok : mi 0 45 6 = tkn tk f fl := hC.2.1
  refine tx_intro (ls := [vR (some (0, 45)), vI q, vI rule, vI th, vX 0]) om_X0_goOnIf rfl (Nat.le_of_ble_eq_true rfl) ?_
  refine s_iload_n (dc kc_X0_goOnIf 0 rfl) rfl <| s_if_eq (tgt := 26) (dc kc_X0_goOnIf 1 rfl) rfl (fun c1 => (s_return (dc kc_X0_goOnIf 14 rfl) rfl (Nat.zero_le _) (Nat.zero_le _) ?_)) (fun c1 => (r_aload_n (dc kc_X0_goOnIf 2 rfl) rfl <| s_getI (dc kc_X0_goOnIf 3 rfl) fl_X0_36 <| t_i4 (dc kc_X0_goOnIf 4 rfl) (Nat.le_of_ble_eq_true rfl) rfl <| r_aload_n (dc kc_X0_goOnIf 5 rfl) rfl <| c_v0 (dc kc_X0_goOnIf 6 rfl) cl_X0_129 rfl (Nat.le_of_ble_eq_true rfl) (Nat.zero_le _) (Nat.zero_le _) ?_))
  · exact hQ0 (by omega)
  · obtain ⟨z1, z2, z3, z4, z5⟩ := ha (by omega)
    subst z1
    refine u_take hL hK hC hX z2 hu0 (hU rfl z3 z2) (fun m1 g1 h1 => ?_)
    have tok2 : tkn tk f (-1) = tk f := rfl
    rw [tok, tok2]
    refine r_aload_n (dc kc_X0_goOnIf 7 rfl) rfl <| s_iload_n (dc kc_X0_goOnIf 8 rfl) rfl <| k_s (dc kc_X0_goOnIf 9 rfl) rfl <| s_iload (dc kc_X0_goOnIf 10 rfl) rfl <| b_iadd (dc kc_X0_goOnIf 11 rfl) (by first | omega | (simp [up] <;> omega)) (by first | omega | (simp [up] <;> omega)) <| s_iload_n (dc kc_X0_goOnIf 12 rfl) rfl <| c_v3 (dc kc_X0_goOnIf 13 rfl) cl_X0_123 rfl (Nat.le_of_ble_eq_true rfl) (Nat.zero_le _) (Nat.zero_le _) ?_
    refine u_await3 hL h1 (tkS_len (by omega)) (fun m2 g2 h2 => ?_)
    refine s_return (dc kc_X0_goOnIf 14 rfl) rfl (Nat.zero_le _) (Nat.zero_le _) ?_
    rw [pshS_tkS] at h2
    exact hQ1 (by omega) m2 (g1.tr g2) h2
theorem u_expandPlain (hL : Lay G mr) {mi : MI} {f u b fl tg e : Int} {r : List Int} {p v c : List CT} (hK : CK tk nu nx N mi) (hC : CP tk mi f u b fl r) (hX : CX mi B R fl tg e p v c) (hG : Gs tk B N (f, u, b, fl, 714 :: r, tg, e, p, v, c))  (hQ : ∀ mi', Cg (pKr B R) mi mi' → CM tk B R mi' (mv psG tk nu nx o (f, u, b, fl, 714 :: r, tg, e, p, v, c)) → Q (vX 0) mi' n mr) : Tx (d+3) mt_X0_expandPlain [vR (some (0, 45))] mi n mr Q := by
  have hu0 : 0 ≤ u := hG.2.1.1
  have hu9 : u ≤ 60 := hG.2.1.2
  have hb0 : -u ≤ b := hG.2.2.2.1.1
  have hb8 : b ≤ 8 := hG.2.2.2.1.2
  have hf0 : 0 ≤ f := hG.1.1
  have hrl : r.length + 1 ≤ 256 := hG.2.2.2.2.2.1
  have hU : fl = -1 → tk f ≠ 91 → tk f ≠ 23 → u < 60 := fun z1 z2 z3 => by
    by_cases hu : u = 60
    · rcases hG.2.2.1 z1 hu with q | q
      · exact absurd q z2
      · exact absurd q z3
    · omega
  have al : ∀ x, x ≠ 24 → tkn tk f fl = x → fl = -1 ∧ tk f = x := fun x hx z => by
    unfold tkn at z
    by_cases q : fl = -1
    · rw [if_pos q] at z; exact ⟨q, z⟩
    · rw [if_neg q] at z; exact absurd z.symm hx
  have tok : mi 0 45 6 = tkn tk f fl := hC.2.1
  have hM : CM tk B R mi (f, u, b, fl, r, tg, e, p, v, c) := ⟨hC, hX⟩
  have hl : (stk (f, u, b, fl, r, tg, e, p, v, c)).length ≤ 256 := by show r.length ≤ 256; omega
  refine tx_intro (ls := [vR (some (0, 45))]) om_X0_expandPlain rfl (Nat.le_of_ble_eq_true rfl) ?_
  refine r_aload_n (dc kc_X0_expandPlain 0 rfl) rfl <| s_getI (dc kc_X0_expandPlain 1 rfl) fl_X0_36 <| k_b (dc kc_X0_expandPlain 2 rfl) rfl <| s_icmp_ne (tgt := 26) (dc kc_X0_expandPlain 3 rfl) rfl (fun c6 => (r_aload_n (dc kc_X0_expandPlain 11 rfl) rfl <| s_getI (dc kc_X0_expandPlain 12 rfl) fl_X0_36 <| k_b (dc kc_X0_expandPlain 13 rfl) rfl <| s_icmp_ne (tgt := 49) (dc kc_X0_expandPlain 14 rfl) rfl (fun c32 => (r_aload_n (dc kc_X0_expandPlain 21 rfl) rfl <| k_s (dc kc_X0_expandPlain 22 rfl) rfl <| k_s (dc kc_X0_expandPlain 23 rfl) rfl <| c_v2 (dc kc_X0_expandPlain 24 rfl) cl_X0_132 rfl (Nat.le_of_ble_eq_true rfl) (Nat.zero_le _) (Nat.zero_le _) ?_)) (fun c32 => (r_aload_n (dc kc_X0_expandPlain 15 rfl) rfl <| k_b (dc kc_X0_expandPlain 16 rfl) rfl <| k_s (dc kc_X0_expandPlain 17 rfl) rfl <| k_b (dc kc_X0_expandPlain 18 rfl) rfl <| c_v3 (dc kc_X0_expandPlain 19 rfl) cl_X0_123 rfl (Nat.le_of_ble_eq_true rfl) (Nat.zero_le _) (Nat.zero_le _) ?_)))) (fun c6 => (r_aload_n (dc kc_X0_expandPlain 4 rfl) rfl <| c_v0 (dc kc_X0_expandPlain 5 rfl) cl_X0_129 rfl (Nat.le_of_ble_eq_true rfl) (Nat.zero_le _) (Nat.zero_le _) ?_))
  · refine u_await2 hL hM hl (fun m2 g2 h2 => ?_)
    refine s_return (dc kc_X0_expandPlain 25 rfl) rfl (Nat.zero_le _) (Nat.zero_le _) ?_
    refine hQ m2 g2 ?_
    rw [mv_70 (by decide) (show prd o (tkn tk f fl) 714 = some (0, [720, 715]) by rw [prd_714, if_neg (by omega), if_neg (by omega)]) rfl]
    exact h2
  · refine u_await3 hL hM hl (fun m2 g2 h2 => ?_)
    refine s_goto (tgt := 59) (dc kc_X0_expandPlain 20 rfl) rfl <| s_return (dc kc_X0_expandPlain 25 rfl) rfl (Nat.zero_le _) (Nat.zero_le _) ?_
    refine hQ m2 g2 ?_
    rw [mv_70 (by decide) (show prd o (tkn tk f fl) 714 = some (0, [72, 710, 73]) by rw [prd_714, if_neg (by omega), if_pos (by omega)]) rfl]
    exact h2
  · obtain ⟨z1, z2⟩ := al 18 (by decide) (by omega)
    subst z1
    refine u_take hL hK hC hX (by omega) hu0 (hU rfl (by omega) (by omega)) (fun m1 g1 h1 => ?_)
    refine r_aload_n (dc kc_X0_expandPlain 6 rfl) rfl <| k_s (dc kc_X0_expandPlain 7 rfl) rfl <| k_s (dc kc_X0_expandPlain 8 rfl) rfl <| c_v2 (dc kc_X0_expandPlain 9 rfl) cl_X0_132 rfl (Nat.le_of_ble_eq_true rfl) (Nat.zero_le _) (Nat.zero_le _) ?_
    refine u_await2 hL h1 (tkS_len (by omega)) (fun m2 g2 h2 => ?_)
    refine s_goto (tgt := 59) (dc kc_X0_expandPlain 10 rfl) rfl <| s_return (dc kc_X0_expandPlain 25 rfl) rfl (Nat.zero_le _) (Nat.zero_le _) ?_
    rw [pshS_tkS] at h2
    refine hQ m2 (g1.tr g2) ?_
    rw [mv_71 (by decide) (show prd o (tk f) 714 = some (1, [714, 418]) by rw [z2]; rfl) rfl]
    exact h2
theorem u_expandCompared (hL : Lay G mr) {mi : MI} {f u b fl tg e : Int} {r : List Int} {p v c : List CT} (hK : CK tk nu nx N mi) (hC : CP tk mi f u b fl r) (hX : CX mi B R fl tg e p v c) (hG : Gs tk B N (f, u, b, fl, 715 :: r, tg, e, p, v, c)) {x : Int} (hx : x = tkn tk f fl) (hQ : ∀ mi', Cg (pKr B R) mi mi' → CM tk B R mi' (mv psG tk nu nx o (f, u, b, fl, 715 :: r, tg, e, p, v, c)) → Q (vX 0) mi' n mr) : Tx (d+3) mt_X0_expandCompared [vR (some (0, 45)), vI x] mi n mr Q := by
  have hu0 : 0 ≤ u := hG.2.1.1
  have hu9 : u ≤ 60 := hG.2.1.2
  have hb0 : -u ≤ b := hG.2.2.2.1.1
  have hb8 : b ≤ 8 := hG.2.2.2.1.2
  have hf0 : 0 ≤ f := hG.1.1
  have hrl : r.length + 1 ≤ 256 := hG.2.2.2.2.2.1
  have hU : fl = -1 → tk f ≠ 91 → tk f ≠ 23 → u < 60 := fun z1 z2 z3 => by
    by_cases hu : u = 60
    · rcases hG.2.2.1 z1 hu with q | q
      · exact absurd q z2
      · exact absurd q z3
    · omega
  have al : ∀ x, x ≠ 24 → tkn tk f fl = x → fl = -1 ∧ tk f = x := fun x hx z => by
    unfold tkn at z
    by_cases q : fl = -1
    · rw [if_pos q] at z; exact ⟨q, z⟩
    · rw [if_neg q] at z; exact absurd z.symm hx
  have tok : mi 0 45 6 = tkn tk f fl := hC.2.1
  have tak : ∀ q, (q = 92 ∨ q = 93 ∨ q = 94) → x = q → Run (d+3) mt_X0_expandCompared Q (n, mr, 0, 0) mi 18 [vR (some (0, 45)), vI x] [] := fun q hq hxq => by
    obtain ⟨z1, z2⟩ := al q (by omega) (by omega)
    subst z1
    refine r_aload_n (dc kc_X0_expandCompared 9 rfl) rfl <| c_v0 (dc kc_X0_expandCompared 10 rfl) cl_X0_129 rfl (Nat.le_of_ble_eq_true rfl) (Nat.zero_le _) (Nat.zero_le _) ?_
    refine u_take hL hK hC hX (by omega) hu0 (hU rfl (by omega) (by omega)) (fun m1 g1 h1 => ?_)
    refine r_aload_n (dc kc_X0_expandCompared 11 rfl) rfl <| k_s (dc kc_X0_expandCompared 12 rfl) rfl <| k_s (dc kc_X0_expandCompared 13 rfl) rfl <| s_iload_n (dc kc_X0_expandCompared 14 rfl) rfl <| b_iadd (dc kc_X0_expandCompared 15 rfl) (by first | omega | (simp [up] <;> omega)) (by first | omega | (simp [up] <;> omega)) <| c_v2 (dc kc_X0_expandCompared 16 rfl) cl_X0_132 rfl (Nat.le_of_ble_eq_true rfl) (Nat.zero_le _) (Nat.zero_le _) ?_
    refine u_await2 hL h1 (tkS_len (by omega)) (fun m2 g2 h2 => ?_)
    refine s_goto (tgt := 41) (dc kc_X0_expandCompared 17 rfl) rfl <| s_return (dc kc_X0_expandCompared 20 rfl) rfl (Nat.zero_le _) (Nat.zero_le _) ?_
    rw [pshS_tkS] at h2
    refine hQ m2 (g1.tr g2) ?_
    rw [hxq] at h2
    rw [mv_71 (by decide) (show prd o (tk f) 715 = some (1, [720, 400 + q]) by rw [z2]; rcases hq with e | e | e <;> subst e <;> rfl) rfl]
    exact h2
  refine tx_intro (ls := [vR (some (0, 45)), vI x]) om_X0_expandCompared rfl (Nat.le_of_ble_eq_true rfl) ?_
  refine s_iload_n (dc kc_X0_expandCompared 0 rfl) rfl <| k_b (dc kc_X0_expandCompared 1 rfl) rfl <| s_icmp_eq (tgt := 18) (dc kc_X0_expandCompared 2 rfl) rfl (fun c3 => (?_)) (fun c3 => (s_iload_n (dc kc_X0_expandCompared 3 rfl) rfl <| k_b (dc kc_X0_expandCompared 4 rfl) rfl <| s_icmp_eq (tgt := 18) (dc kc_X0_expandCompared 5 rfl) rfl (fun c9 => (?_)) (fun c9 => (s_iload_n (dc kc_X0_expandCompared 6 rfl) rfl <| k_b (dc kc_X0_expandCompared 7 rfl) rfl <| s_icmp_ne (tgt := 37) (dc kc_X0_expandCompared 8 rfl) rfl (fun c15 => (r_aload_n (dc kc_X0_expandCompared 18 rfl) rfl <| c_v0 (dc kc_X0_expandCompared 19 rfl) cl_X0_77 rfl (Nat.le_of_ble_eq_true rfl) (Nat.zero_le _) (Nat.zero_le _) ?_)) (fun c15 => (?_))))))
  all_goals first | exact tak 92 (by decide) (by omega) | exact tak 94 (by decide) (by omega) | exact tak 93 (by decide) (by omega) | skip
  refine u_fail hL hK hC hX (fun m1 g1 h1 => ?_)
  refine s_return (dc kc_X0_expandCompared 20 rfl) rfl (Nat.zero_le _) (Nat.zero_le _) ?_
  refine hQ m1 g1 ?_
  rw [mv_7n (by decide) (show prd o (tkn tk f fl) 715 = none by rw [prd_715, if_neg (by omega), if_neg (by omega), if_neg (by omega)])]
  exact h1
theorem u_expandPart (hL : Lay G mr) {mi : MI} {f u b fl tg e : Int} {r : List Int} {p v c : List CT} (hK : CK tk nu nx N mi) (hC : CP tk mi f u b fl r) (hX : CX mi B R fl tg e p v c) (hG : Gs tk B N (f, u, b, fl, 722 :: r, tg, e, p, v, c)) {x : Int} (hx : x = tkn tk f fl) (ho : mi 0 45 1 = o) (ho1 : o = 0 ∨ o = 1) (hQ : ∀ mi', Cg (pKr B R) mi mi' → CM tk B R mi' (mv psG tk nu nx o (f, u, b, fl, 722 :: r, tg, e, p, v, c)) → Q (vX 0) mi' n mr) : Tx (d+3) mt_X0_expandPart [vR (some (0, 45)), vI x] mi n mr Q := by
  have hu0 : 0 ≤ u := hG.2.1.1
  have hu9 : u ≤ 60 := hG.2.1.2
  have hb0 : -u ≤ b := hG.2.2.2.1.1
  have hb8 : b ≤ 8 := hG.2.2.2.1.2
  have hf0 : 0 ≤ f := hG.1.1
  have hrl : r.length + 1 ≤ 256 := hG.2.2.2.2.2.1
  have hU : fl = -1 → tk f ≠ 91 → tk f ≠ 23 → u < 60 := fun z1 z2 z3 => by
    by_cases hu : u = 60
    · rcases hG.2.2.1 z1 hu with q | q
      · exact absurd q z2
      · exact absurd q z3
    · omega
  have al : ∀ x, x ≠ 24 → tkn tk f fl = x → fl = -1 ∧ tk f = x := fun x hx z => by
    unfold tkn at z
    by_cases q : fl = -1
    · rw [if_pos q] at z; exact ⟨q, z⟩
    · rw [if_neg q] at z; exact absurd z.symm hx
  have tok : mi 0 45 6 = tkn tk f fl := hC.2.1
  have hM : CM tk B R mi (f, u, b, fl, r, tg, e, p, v, c) := ⟨hC, hX⟩
  have hl : (stk (f, u, b, fl, r, tg, e, p, v, c)).length ≤ 256 := by show r.length ≤ 256; omega
  have tak : ∀ q, (q = 9 ∨ q = 19 ∨ q = 20) → x = q → Run (d+3) mt_X0_expandPart Q (n, mr, 0, 0) mi 34 [vR (some (0, 45)), vI x] [] := fun q hq hxq => by
    obtain ⟨z1, z2⟩ := al q (by omega) (by omega)
    subst z1
    refine r_aload_n (dc kc_X0_expandPart_0 16 rfl) rfl <| c_v0 (dc kc_X0_expandPart_0 17 rfl) cl_X0_129 rfl (Nat.le_of_ble_eq_true rfl) (Nat.zero_le _) (Nat.zero_le _) ?_
    refine u_take hL hK hC hX (by omega) hu0 (hU rfl (by omega) (by omega)) (fun m1 g1 h1 => ?_)
    refine r_aload_n (dc kc_X0_expandPart_0 18 rfl) rfl <| k_s (dc kc_X0_expandPart_0 19 rfl) rfl <| s_iload_n (dc kc_X0_expandPart_0 20 rfl) rfl <| b_iadd (dc kc_X0_expandPart_0 21 rfl) (by first | omega | (simp [up] <;> omega)) (by first | omega | (simp [up] <;> omega)) <| c_v1 (dc kc_X0_expandPart_0 22 rfl) cl_X0_83 rfl (Nat.le_of_ble_eq_true rfl) (Nat.zero_le _) (Nat.zero_le _) ?_
    refine u_await hL h1 (tkS_len (by omega)) (fun m2 g2 h2 => ?_)
    refine s_goto (tgt := 104) (dc kc_X0_expandPart_0 23 rfl) rfl <| s_return (dc kc_X0_expandPart_1 8 rfl) rfl (Nat.zero_le _) (Nat.zero_le _) ?_
    rw [pshS_tkS] at h2
    refine hQ m2 (g1.tr g2) ?_
    rw [hxq] at h2
    rw [mv_71 (by decide) (show prd o (tk f) 722 = some (1, [300 + q]) by rw [z2]; rcases hq with e | e | e <;> subst e <;> rfl) rfl]
    exact h2
  have bad : ¬ x = 22 → ¬ x = 9 → ¬ x = 19 → ¬ x = 20 → ¬ x = 123 → ¬ (x = 12 ∧ o = 1) → Run (d+3) mt_X0_expandPart Q (n, mr, 0, 0) mi 100 [vR (some (0, 45)), vI x] [] := fun q1 q2 q3 q4 q5 q6 => by
    refine r_aload_n (dc kc_X0_expandPart_1 6 rfl) rfl <| c_v0 (dc kc_X0_expandPart_1 7 rfl) cl_X0_77 rfl (Nat.le_of_ble_eq_true rfl) (Nat.zero_le _) (Nat.zero_le _) ?_
    refine u_fail hL hK hC hX (fun m1 g1 h1 => ?_)
    refine s_return (dc kc_X0_expandPart_1 8 rfl) rfl (Nat.zero_le _) (Nat.zero_le _) ?_
    refine hQ m1 g1 ?_
    rw [mv_7n (by decide) (show prd o (tkn tk f fl) 722 = none by rw [← hx, prd_722, if_neg q1, if_neg q2, if_neg q3, if_neg q4, if_neg q5, if_neg q6])]
    exact h1
  refine tx_intro (ls := [vR (some (0, 45)), vI x]) om_X0_expandPart rfl (Nat.le_of_ble_eq_true rfl) ?_
  refine s_iload_n (dc kc_X0_expandPart_0 0 rfl) rfl <| k_b (dc kc_X0_expandPart_0 1 rfl) rfl <| s_icmp_ne (tgt := 16) (dc kc_X0_expandPart_0 2 rfl) rfl (fun c3 => (s_iload_n (dc kc_X0_expandPart_0 7 rfl) rfl <| k_b (dc kc_X0_expandPart_0 8 rfl) rfl <| s_icmp_eq (tgt := 34) (dc kc_X0_expandPart_0 9 rfl) rfl (fun c19 => (?_)) (fun c19 => (s_iload_n (dc kc_X0_expandPart_0 10 rfl) rfl <| k_b (dc kc_X0_expandPart_0 11 rfl) rfl <| s_icmp_eq (tgt := 34) (dc kc_X0_expandPart_0 12 rfl) rfl (fun c25 => (?_)) (fun c25 => (s_iload_n (dc kc_X0_expandPart_0 13 rfl) rfl <| k_b (dc kc_X0_expandPart_0 14 rfl) rfl <| s_icmp_ne (tgt := 50) (dc kc_X0_expandPart_0 15 rfl) rfl (fun c31 => (s_iload_n (dc kc_X0_expandPart_0 24 rfl) rfl <| k_b (dc kc_X0_expandPart_0 25 rfl) rfl <| s_icmp_ne (tgt := 70) (dc kc_X0_expandPart_0 26 rfl) rfl (fun c53 => (s_iload_n (dc kc_X0_expandPart_0 33 rfl) rfl <| k_b (dc kc_X0_expandPart_0 34 rfl) rfl <| s_icmp_ne (tgt := 100) (dc kc_X0_expandPart_0 35 rfl) rfl (fun c73 => (?_)) (fun c73 => (r_aload_n (dc kc_X0_expandPart_0 36 rfl) rfl <| s_getZ (dc kc_X0_expandPart_0 37 rfl) fl_X0_18 <| s_if_eq (tgt := 100) (dc kc_X0_expandPart_0 38 rfl) rfl (fun c80 => (?_)) (fun c80 => (r_aload_n (dc kc_X0_expandPart_0 39 rfl) rfl <| c_v0 (dc kc_X0_expandPart_1 0 rfl) cl_X0_129 rfl (Nat.le_of_ble_eq_true rfl) (Nat.zero_le _) (Nat.zero_le _) ?_)))))) (fun c53 => (r_aload_n (dc kc_X0_expandPart_0 27 rfl) rfl <| k_b (dc kc_X0_expandPart_0 28 rfl) rfl <| k_s (dc kc_X0_expandPart_0 29 rfl) rfl <| k_b (dc kc_X0_expandPart_0 30 rfl) rfl <| c_v3 (dc kc_X0_expandPart_0 31 rfl) cl_X0_123 rfl (Nat.le_of_ble_eq_true rfl) (Nat.zero_le _) (Nat.zero_le _) ?_)))) (fun c31 => (?_)))))))) (fun c3 => (r_aload_n (dc kc_X0_expandPart_0 3 rfl) rfl <| k_s (dc kc_X0_expandPart_0 4 rfl) rfl <| c_v1 (dc kc_X0_expandPart_0 5 rfl) cl_X0_83 rfl (Nat.le_of_ble_eq_true rfl) (Nat.zero_le _) (Nat.zero_le _) ?_))
  all_goals first | exact tak 9 (by decide) (by omega) | exact tak 19 (by decide) (by omega) | exact tak 20 (by decide) (by omega) | exact bad (by omega) (by omega) (by omega) (by omega) (by omega) (by omega) | skip
  · obtain ⟨z1, z2⟩ := al 12 (by decide) (by omega)
    subst z1
    refine u_take hL hK hC hX (by omega) hu0 (hU rfl (by omega) (by omega)) (fun m1 g1 h1 => ?_)
    refine r_aload_n (dc kc_X0_expandPart_1 1 rfl) rfl <| k_s (dc kc_X0_expandPart_1 2 rfl) rfl <| k_s (dc kc_X0_expandPart_1 3 rfl) rfl <| c_v2 (dc kc_X0_expandPart_1 4 rfl) cl_X0_132 rfl (Nat.le_of_ble_eq_true rfl) (Nat.zero_le _) (Nat.zero_le _) ?_
    refine u_await2 hL h1 (tkS_len (by omega)) (fun m2 g2 h2 => ?_)
    refine s_goto (tgt := 104) (dc kc_X0_expandPart_1 5 rfl) rfl <| s_return (dc kc_X0_expandPart_1 8 rfl) rfl (Nat.zero_le _) (Nat.zero_le _) ?_
    rw [pshS_tkS] at h2
    refine hQ m2 (g1.tr g2) ?_
    have ho2 : o = 1 := by omega
    rw [mv_71 (by decide) (show prd o (tk f) 722 = some (1, [724, 412]) by rw [z2, ho2]; rfl) rfl]
    exact h2
  · refine u_await3 hL hM hl (fun m2 g2 h2 => ?_)
    refine s_goto (tgt := 104) (dc kc_X0_expandPart_0 32 rfl) rfl <| s_return (dc kc_X0_expandPart_1 8 rfl) rfl (Nat.zero_le _) (Nat.zero_le _) ?_
    refine hQ m2 g2 ?_
    rw [mv_70 (by decide) (show prd o (tkn tk f fl) 722 = some (0, [123, 720, 125]) by rw [← hx, prd_722, if_neg (by omega), if_neg (by omega), if_neg (by omega), if_neg (by omega), if_pos (by omega)]) rfl]
    exact h2
  · refine u_await hL hM hl (fun m2 g2 h2 => ?_)
    refine s_goto (tgt := 104) (dc kc_X0_expandPart_0 6 rfl) rfl <| s_return (dc kc_X0_expandPart_1 8 rfl) rfl (Nat.zero_le _) (Nat.zero_le _) ?_
    refine hQ m2 g2 ?_
    rw [mv_70 (by decide) (show prd o (tkn tk f fl) 722 = some (0, [322]) by rw [← hx, prd_722, if_pos (by omega)]) rfl]
    exact h2
theorem u_expandNode (hL : Lay G mr) {mi : MI} {f u b fl tg e : Int} {r : List Int} {p v c : List CT} (hK : CK tk nu nx N mi) (hC : CP tk mi f u b fl r) (hX : CX mi B R fl tg e p v c) (hG : Gs tk B N (f, u, b, fl, 723 :: r, tg, e, p, v, c)) {x : Int} (hx : x = tkn tk f fl) (hQ : ∀ mi', Cg (pKr B R) mi mi' → CM tk B R mi' (mv psG tk nu nx o (f, u, b, fl, 723 :: r, tg, e, p, v, c)) → Q (vX 0) mi' n mr) : Tx (d+3) mt_X0_expandNode [vR (some (0, 45)), vI x] mi n mr Q := by
  have hu0 : 0 ≤ u := hG.2.1.1
  have hu9 : u ≤ 60 := hG.2.1.2
  have hb0 : -u ≤ b := hG.2.2.2.1.1
  have hb8 : b ≤ 8 := hG.2.2.2.1.2
  have hf0 : 0 ≤ f := hG.1.1
  have hrl : r.length + 1 ≤ 256 := hG.2.2.2.2.2.1
  have hU : fl = -1 → tk f ≠ 91 → tk f ≠ 23 → u < 60 := fun z1 z2 z3 => by
    by_cases hu : u = 60
    · rcases hG.2.2.1 z1 hu with q | q
      · exact absurd q z2
      · exact absurd q z3
    · omega
  have al : ∀ x, x ≠ 24 → tkn tk f fl = x → fl = -1 ∧ tk f = x := fun x hx z => by
    unfold tkn at z
    by_cases q : fl = -1
    · rw [if_pos q] at z; exact ⟨q, z⟩
    · rw [if_neg q] at z; exact absurd z.symm hx
  have tok : mi 0 45 6 = tkn tk f fl := hC.2.1
  have tak : ∀ q, (q = 13 ∨ q = 8) → x = q → Run (d+3) mt_X0_expandNode Q (n, mr, 0, 0) mi 12 [vR (some (0, 45)), vI x] [] := fun q hq hxq => by
    obtain ⟨z1, z2⟩ := al q (by omega) (by omega)
    subst z1
    refine r_aload_n (dc kc_X0_expandNode_0 6 rfl) rfl <| c_v0 (dc kc_X0_expandNode_0 7 rfl) cl_X0_129 rfl (Nat.le_of_ble_eq_true rfl) (Nat.zero_le _) (Nat.zero_le _) ?_
    refine u_take hL hK hC hX (by omega) hu0 (hU rfl (by omega) (by omega)) (fun m1 g1 h1 => ?_)
    refine r_aload_n (dc kc_X0_expandNode_0 8 rfl) rfl <| k_s (dc kc_X0_expandNode_0 9 rfl) rfl <| s_iload_n (dc kc_X0_expandNode_0 10 rfl) rfl <| b_iadd (dc kc_X0_expandNode_0 11 rfl) (by first | omega | (simp [up] <;> omega)) (by first | omega | (simp [up] <;> omega)) <| c_v1 (dc kc_X0_expandNode_0 12 rfl) cl_X0_83 rfl (Nat.le_of_ble_eq_true rfl) (Nat.zero_le _) (Nat.zero_le _) ?_
    refine u_await hL h1 (tkS_len (by omega)) (fun m2 g2 h2 => ?_)
    refine s_goto (tgt := 83) (dc kc_X0_expandNode_0 13 rfl) rfl <| s_return (dc kc_X0_expandNode_1 0 rfl) rfl (Nat.zero_le _) (Nat.zero_le _) ?_
    rw [pshS_tkS] at h2
    refine hQ m2 (g1.tr g2) ?_
    rw [hxq] at h2
    rw [mv_71 (by decide) (show prd o (tk f) 723 = some (1, [300 + q]) by rw [z2]; rcases hq with e | e <;> subst e <;> rfl) rfl]
    exact h2
  have tak2 : ∀ q, (q = 10 ∨ q = 11) → x = q → Run (d+3) mt_X0_expandNode Q (n, mr, 0, 0) mi 60 [vR (some (0, 45)), vI x] [] := fun q hq hxq => by
    obtain ⟨z1, z2⟩ := al q (by omega) (by omega)
    subst z1
    refine r_aload_n (dc kc_X0_expandNode_0 29 rfl) rfl <| c_v0 (dc kc_X0_expandNode_0 30 rfl) cl_X0_129 rfl (Nat.le_of_ble_eq_true rfl) (Nat.zero_le _) (Nat.zero_le _) ?_
    refine u_take hL hK hC hX (by omega) hu0 (hU rfl (by omega) (by omega)) (fun m1 g1 h1 => ?_)
    refine r_aload_n (dc kc_X0_expandNode_0 31 rfl) rfl <| k_s (dc kc_X0_expandNode_0 32 rfl) rfl <| k_s (dc kc_X0_expandNode_0 33 rfl) rfl <| s_iload_n (dc kc_X0_expandNode_0 34 rfl) rfl <| b_iadd (dc kc_X0_expandNode_0 35 rfl) (by first | omega | (simp [up] <;> omega)) (by first | omega | (simp [up] <;> omega)) <| c_v2 (dc kc_X0_expandNode_0 36 rfl) cl_X0_132 rfl (Nat.le_of_ble_eq_true rfl) (Nat.zero_le _) (Nat.zero_le _) ?_
    refine u_await2 hL h1 (tkS_len (by omega)) (fun m2 g2 h2 => ?_)
    refine s_goto (tgt := 83) (dc kc_X0_expandNode_0 37 rfl) rfl <| s_return (dc kc_X0_expandNode_1 0 rfl) rfl (Nat.zero_le _) (Nat.zero_le _) ?_
    rw [pshS_tkS] at h2
    refine hQ m2 (g1.tr g2) ?_
    rw [hxq] at h2
    rw [mv_71 (by decide) (show prd o (tk f) 723 = some (1, [724, 400 + q]) by rw [z2]; rcases hq with e | e <;> subst e <;> rfl) rfl]
    exact h2
  refine tx_intro (ls := [vR (some (0, 45)), vI x]) om_X0_expandNode rfl (Nat.le_of_ble_eq_true rfl) ?_
  refine s_iload_n (dc kc_X0_expandNode_0 0 rfl) rfl <| k_b (dc kc_X0_expandNode_0 1 rfl) rfl <| s_icmp_eq (tgt := 12) (dc kc_X0_expandNode_0 2 rfl) rfl (fun c3 => (?_)) (fun c3 => (s_iload_n (dc kc_X0_expandNode_0 3 rfl) rfl <| k_b (dc kc_X0_expandNode_0 4 rfl) rfl <| s_icmp_ne (tgt := 28) (dc kc_X0_expandNode_0 5 rfl) rfl (fun c9 => (s_iload_n (dc kc_X0_expandNode_0 14 rfl) rfl <| k_b (dc kc_X0_expandNode_0 15 rfl) rfl <| s_icmp_ne (tgt := 48) (dc kc_X0_expandNode_0 16 rfl) rfl (fun c31 => (s_iload_n (dc kc_X0_expandNode_0 23 rfl) rfl <| k_b (dc kc_X0_expandNode_0 24 rfl) rfl <| s_icmp_eq (tgt := 60) (dc kc_X0_expandNode_0 25 rfl) rfl (fun c51 => (?_)) (fun c51 => (s_iload_n (dc kc_X0_expandNode_0 26 rfl) rfl <| k_b (dc kc_X0_expandNode_0 27 rfl) rfl <| s_icmp_ne (tgt := 79) (dc kc_X0_expandNode_0 28 rfl) rfl (fun c57 => (r_aload_n (dc kc_X0_expandNode_0 38 rfl) rfl <| c_v0 (dc kc_X0_expandNode_0 39 rfl) cl_X0_77 rfl (Nat.le_of_ble_eq_true rfl) (Nat.zero_le _) (Nat.zero_le _) ?_)) (fun c57 => (?_)))))) (fun c31 => (r_aload_n (dc kc_X0_expandNode_0 17 rfl) rfl <| c_v0 (dc kc_X0_expandNode_0 18 rfl) cl_X0_129 rfl (Nat.le_of_ble_eq_true rfl) (Nat.zero_le _) (Nat.zero_le _) ?_)))) (fun c9 => (?_))))
  all_goals first | exact tak 13 (by decide) (by omega) | exact tak 8 (by decide) (by omega) | exact tak2 10 (by decide) (by omega) | exact tak2 11 (by decide) (by omega) | skip
  · refine u_fail hL hK hC hX (fun m1 g1 h1 => ?_)
    refine s_return (dc kc_X0_expandNode_1 0 rfl) rfl (Nat.zero_le _) (Nat.zero_le _) ?_
    refine hQ m1 g1 ?_
    rw [mv_7n (by decide) (show prd o (tkn tk f fl) 723 = none by rw [prd_723, if_neg (by omega), if_neg (by omega), if_neg (by omega), if_neg (by omega), if_neg (by omega)])]
    exact h1
  · obtain ⟨z1, z2⟩ := al 14 (by decide) (by omega)
    subst z1
    refine u_take hL hK hC hX (by omega) hu0 (hU rfl (by omega) (by omega)) (fun m1 g1 h1 => ?_)
    refine r_aload_n (dc kc_X0_expandNode_0 19 rfl) rfl <| k_s (dc kc_X0_expandNode_0 20 rfl) rfl <| c_v1 (dc kc_X0_expandNode_0 21 rfl) cl_X0_83 rfl (Nat.le_of_ble_eq_true rfl) (Nat.zero_le _) (Nat.zero_le _) ?_
    refine u_await hL h1 (tkS_len (by omega)) (fun m2 g2 h2 => ?_)
    refine s_goto (tgt := 83) (dc kc_X0_expandNode_0 22 rfl) rfl <| s_return (dc kc_X0_expandNode_1 0 rfl) rfl (Nat.zero_le _) (Nat.zero_le _) ?_
    rw [pshS_tkS] at h2
    refine hQ m2 (g1.tr g2) ?_
    rw [mv_71 (by decide) (show prd o (tk f) 723 = some (1, [414]) by rw [z2]; rfl) rfl]
    exact h2
end CMY
