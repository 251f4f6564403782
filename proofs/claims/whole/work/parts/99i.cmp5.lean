/-! the class: its compiler's moves -/
section CMZ
variable {d n G : Nat} {mr : MR} {Q : V → MI → Nat → MR → Prop} {tk nu nx : Int → Int} {N B R o : Int}
theorem u_expandTest (hL : Lay G mr) {mi : MI} {f u b fl tg e : Int} {r : List Int} {p v c : List CT} {x y : Int} (hK : CK tk nu nx N mi) (hC : CP tk mi f u b fl r) (hX : CX mi B R fl tg e p v c) (hG : Gs tk B N (f, u, b, fl, y :: r, tg, e, p, v, c)) (hT : TkE N tk nu nx) (hx : x = tkn tk f fl) (hy : y = 710 ∨ y = 711 ∨ y = 712 ∨ y = 713 ∨ y = 714 ∨ y = 715 ∨ y = 720 ∨ y = 721) (hQ : ∀ mi', Cg (pKr B R) mi mi' → CM tk B R mi' (mv psG tk nu nx o (f, u, b, fl, y :: r, tg, e, p, v, c)) → Q (vX 0) mi' n mr) : Tx (d+4) mt_X0_expandTest [vR (some (0, 45)), vI y, vI x] mi n mr Q := by
  have hu0 : 0 ≤ u := hG.2.1.1
  have hu9 : u ≤ 60 := hG.2.1.2
  have hb0 : -u ≤ b := hG.2.2.2.1.1
  have hb8 : b ≤ 8 := hG.2.2.2.1.2
  have hf0 : 0 ≤ f := hG.1.1
  have hrl : r.length + 1 ≤ 256 := hG.2.2.2.2.2.1
  have hU : fl = -1 → tk f ≠ 91 → tk f ≠ 23 → u < 60 := fun z1 z2 z3 => by
    by_cases hu : u = 60
    · rcases hG.2.2.1 z1 hu with q | q
      · exact absurd q z2
      · exact absurd q z3
    · omega
  have al : ∀ x, x ≠ 24 → tkn tk f fl = x → fl = -1 ∧ tk f = x := fun x hx z => by
    unfold tkn at z
    by_cases q : fl = -1
    · rw [if_pos q] at z; exact ⟨q, z⟩
    · rw [if_neg q] at z; exact absurd z.symm hx
  have tok : mi 0 45 6 = tkn tk f fl := hC.2.1
  have hM : CM tk B R mi (f, u, b, fl, r, tg, e, p, v, c) := ⟨hC, hX⟩
  have hl : (stk (f, u, b, fl, r, tg, e, p, v, c)).length ≤ 256 := by show r.length ≤ 256; omega
  have hf1 : f ≤ N := hG.1.2
  obtain ⟨-, ⟨n0, n1⟩, -, -⟩ := hT f hf0 hf1
  refine tx_intro (ls := [vR (some (0, 45)), vI y, vI x]) om_X0_expandTest rfl (Nat.le_of_ble_eq_true rfl) ?_
  rcases hy with h | h | h | h | h | h | h | h
  · subst h
    refine s_iload_n (dc kc_X0_expandTest_0 0 rfl) rfl <| s_tabC (k0 := 710) (tgt := 64) (dc kc_X0_expandTest_0 1 rfl) ?_ rfl rfl rfl <| r_aload_n (dc kc_X0_expandTest_0 2 rfl) rfl <| k_s (dc kc_X0_expandTest_0 3 rfl) rfl <| k_s (dc kc_X0_expandTest_0 4 rfl) rfl <| c_v2 (dc kc_X0_expandTest_0 5 rfl) cl_X0_132 rfl (Nat.le_of_ble_eq_true rfl) (Nat.zero_le _) (Nat.zero_le _) ?_
    · rfl
    · refine u_await2 hL hM hl (fun m2 g2 h2 => ?_)
      refine s_goto (tgt := 187) (dc kc_X0_expandTest_0 6 rfl) rfl <| s_return (dc kc_X0_expandTest_1 19 rfl) rfl (Nat.zero_le _) (Nat.zero_le _) ?_
      refine hQ m2 g2 ?_
      rw [mv_70 (by decide) (show prd o (tkn tk f fl) 710 = some (0, [712, 711]) from prd_710) rfl]
      exact h2
  · subst h
    have no : x ≠ 16 → Q (vX 0) mi n mr := fun q16 => by
      refine hQ mi Cg.rf ?_
      rw [mv_70 (by decide) (show prd o (tkn tk f fl) 711 = some (0, []) by rw [prd_711, if_neg (by omega)]) rfl]
      exact hM
    have ye : ∀ q, (q = 16) → x = q → ∀ m, Cg (pKr B R) mi m → CM tk B R m (tkS psG tk nx [712, 400 + tk f, 711] f u b (-1) r tg e p v c) → Q (vX 0) m n mr := fun q hq hxq m gm hm => by
      obtain ⟨z1, z2⟩ := al q (by omega) (by omega)
      subst z1
      refine hQ m gm ?_
      rw [z2] at hm
      rw [mv_71 (by decide) (show prd o (tk f) 711 = some (1, [712, 400 + q, 711]) by rw [z2]; subst hq; rfl) rfl]
      exact hm
    refine s_iload_n (dc kc_X0_expandTest_0 0 rfl) rfl <| s_tabC (k0 := 711) (tgt := 103) (dc kc_X0_expandTest_0 1 rfl) ?_ rfl rfl rfl <| r_aload_n (dc kc_X0_expandTest_0 17 rfl) rfl <| s_iload_n (dc kc_X0_expandTest_0 18 rfl) rfl <| k_b (dc kc_X0_expandTest_0 19 rfl) rfl <| s_icmp_ne (tgt := 114) (dc kc_X0_expandTest_0 20 rfl) rfl (fun c107 => (k_i (dc kc_X0_expandTest_0 23 rfl) rfl <| k_s (dc kc_X0_expandTest_0 24 rfl) rfl <| s_iload_n (dc kc_X0_expandTest_0 25 rfl) rfl <| c_v3 (dc kc_X0_expandTest_0 26 rfl) cl_X0_143 rfl (Nat.le_of_ble_eq_true rfl) (Nat.zero_le _) (Nat.zero_le _) ?_)) (fun c107 => (k_i (dc kc_X0_expandTest_0 21 rfl) rfl <| s_goto (tgt := 115) (dc kc_X0_expandTest_0 22 rfl) rfl <| k_s (dc kc_X0_expandTest_0 24 rfl) rfl <| s_iload_n (dc kc_X0_expandTest_0 25 rfl) rfl <| c_v3 (dc kc_X0_expandTest_0 26 rfl) cl_X0_143 rfl (Nat.le_of_ble_eq_true rfl) (Nat.zero_le _) (Nat.zero_le _) ?_))
    · rfl
    · refine u_goOnIf hL hK hC hX hG (Or.inl rfl) (fun z => absurd z (by decide)) (fun _ => ?_) (fun z => absurd z (by decide))
      refine s_goto (tgt := 187) (dc kc_X0_expandTest_0 27 rfl) rfl <| s_return (dc kc_X0_expandTest_1 19 rfl) rfl (Nat.zero_le _) (Nat.zero_le _) ?_
      exact no (by omega)
    · refine u_goOnIf hL hK hC hX hG (Or.inr rfl) (fun _ => ?_) (fun z => absurd z (by decide)) (fun _ m gm hm => ?_)
      · have := al 16 (by decide) (by omega)
        exact ⟨this.1, by omega, by omega, by omega, by omega⟩
      · refine s_goto (tgt := 187) (dc kc_X0_expandTest_0 27 rfl) rfl <| s_return (dc kc_X0_expandTest_1 19 rfl) rfl (Nat.zero_le _) (Nat.zero_le _) ?_
        exact ye 16 rfl (by omega) m gm hm
  · subst h
    refine s_iload_n (dc kc_X0_expandTest_0 0 rfl) rfl <| s_tabC (k0 := 712) (tgt := 77) (dc kc_X0_expandTest_0 1 rfl) ?_ rfl rfl rfl <| r_aload_n (dc kc_X0_expandTest_0 7 rfl) rfl <| k_s (dc kc_X0_expandTest_0 8 rfl) rfl <| k_s (dc kc_X0_expandTest_0 9 rfl) rfl <| c_v2 (dc kc_X0_expandTest_0 10 rfl) cl_X0_132 rfl (Nat.le_of_ble_eq_true rfl) (Nat.zero_le _) (Nat.zero_le _) ?_
    · rfl
    · refine u_await2 hL hM hl (fun m2 g2 h2 => ?_)
      refine s_goto (tgt := 187) (dc kc_X0_expandTest_0 11 rfl) rfl <| s_return (dc kc_X0_expandTest_1 19 rfl) rfl (Nat.zero_le _) (Nat.zero_le _) ?_
      refine hQ m2 g2 ?_
      rw [mv_70 (by decide) (show prd o (tkn tk f fl) 712 = some (0, [714, 713]) from prd_712) rfl]
      exact h2
  · subst h
    have no : x ≠ 17 → Q (vX 0) mi n mr := fun q17 => by
      refine hQ mi Cg.rf ?_
      rw [mv_70 (by decide) (show prd o (tkn tk f fl) 713 = some (0, []) by rw [prd_713, if_neg (by omega)]) rfl]
      exact hM
    have ye : ∀ q, (q = 17) → x = q → ∀ m, Cg (pKr B R) mi m → CM tk B R m (tkS psG tk nx [714, 400 + tk f, 713] f u b (-1) r tg e p v c) → Q (vX 0) m n mr := fun q hq hxq m gm hm => by
      obtain ⟨z1, z2⟩ := al q (by omega) (by omega)
      subst z1
      refine hQ m gm ?_
      rw [z2] at hm
      rw [mv_71 (by decide) (show prd o (tk f) 713 = some (1, [714, 400 + q, 713]) by rw [z2]; subst hq; rfl) rfl]
      exact hm
    refine s_iload_n (dc kc_X0_expandTest_0 0 rfl) rfl <| s_tabC (k0 := 713) (tgt := 125) (dc kc_X0_expandTest_0 1 rfl) ?_ rfl rfl rfl <| r_aload_n (dc kc_X0_expandTest_0 28 rfl) rfl <| s_iload_n (dc kc_X0_expandTest_0 29 rfl) rfl <| k_b (dc kc_X0_expandTest_0 30 rfl) rfl <| s_icmp_ne (tgt := 136) (dc kc_X0_expandTest_0 31 rfl) rfl (fun c129 => (k_i (dc kc_X0_expandTest_0 34 rfl) rfl <| k_s (dc kc_X0_expandTest_0 35 rfl) rfl <| s_iload_n (dc kc_X0_expandTest_0 36 rfl) rfl <| c_v3 (dc kc_X0_expandTest_0 37 rfl) cl_X0_143 rfl (Nat.le_of_ble_eq_true rfl) (Nat.zero_le _) (Nat.zero_le _) ?_)) (fun c129 => (k_i (dc kc_X0_expandTest_0 32 rfl) rfl <| s_goto (tgt := 137) (dc kc_X0_expandTest_0 33 rfl) rfl <| k_s (dc kc_X0_expandTest_0 35 rfl) rfl <| s_iload_n (dc kc_X0_expandTest_0 36 rfl) rfl <| c_v3 (dc kc_X0_expandTest_0 37 rfl) cl_X0_143 rfl (Nat.le_of_ble_eq_true rfl) (Nat.zero_le _) (Nat.zero_le _) ?_))
    · rfl
    · refine u_goOnIf hL hK hC hX hG (Or.inl rfl) (fun z => absurd z (by decide)) (fun _ => ?_) (fun z => absurd z (by decide))
      refine s_goto (tgt := 187) (dc kc_X0_expandTest_0 38 rfl) rfl <| s_return (dc kc_X0_expandTest_1 19 rfl) rfl (Nat.zero_le _) (Nat.zero_le _) ?_
      exact no (by omega)
    · refine u_goOnIf hL hK hC hX hG (Or.inr rfl) (fun _ => ?_) (fun z => absurd z (by decide)) (fun _ m gm hm => ?_)
      · have := al 17 (by decide) (by omega)
        exact ⟨this.1, by omega, by omega, by omega, by omega⟩
      · refine s_goto (tgt := 187) (dc kc_X0_expandTest_0 38 rfl) rfl <| s_return (dc kc_X0_expandTest_1 19 rfl) rfl (Nat.zero_le _) (Nat.zero_le _) ?_
        exact ye 17 rfl (by omega) m gm hm
  · subst h
    refine s_iload_n (dc kc_X0_expandTest_0 0 rfl) rfl <| s_tabC (k0 := 714) (tgt := 175) (dc kc_X0_expandTest_0 1 rfl) ?_ rfl rfl rfl <| r_aload_n (dc kc_X0_expandTest_1 13 rfl) rfl <| c_v0 (dc kc_X0_expandTest_1 14 rfl) cl_X0_147 rfl (Nat.le_of_ble_eq_true rfl) (Nat.zero_le _) (Nat.zero_le _) ?_
    · rfl
    · refine u_expandPlain hL hK hC hX hG (o := o) (fun m1 g1 h1 => ?_)
      refine s_goto (tgt := 187) (dc kc_X0_expandTest_1 15 rfl) rfl <| s_return (dc kc_X0_expandTest_1 19 rfl) rfl (Nat.zero_le _) (Nat.zero_le _) ?_
      exact hQ m1 g1 h1
  · subst h
    refine s_iload_n (dc kc_X0_expandTest_0 0 rfl) rfl <| s_tabC (k0 := 715) (tgt := 182) (dc kc_X0_expandTest_0 1 rfl) ?_ rfl rfl rfl <| r_aload_n (dc kc_X0_expandTest_1 16 rfl) rfl <| s_iload_n (dc kc_X0_expandTest_1 17 rfl) rfl <| c_v1 (dc kc_X0_expandTest_1 18 rfl) cl_X0_150 rfl (Nat.le_of_ble_eq_true rfl) (Nat.zero_le _) (Nat.zero_le _) ?_
    · rfl
    · refine u_expandCompared hL hK hC hX hG hx (o := o) (fun m1 g1 h1 => ?_)
      refine s_return (dc kc_X0_expandTest_1 19 rfl) rfl (Nat.zero_le _) (Nat.zero_le _) ?_
      exact hQ m1 g1 h1
  · subst h
    refine s_iload_n (dc kc_X0_expandTest_0 0 rfl) rfl <| s_tabC (k0 := 720) (tgt := 90) (dc kc_X0_expandTest_0 1 rfl) ?_ rfl rfl rfl <| r_aload_n (dc kc_X0_expandTest_0 12 rfl) rfl <| k_s (dc kc_X0_expandTest_0 13 rfl) rfl <| k_s (dc kc_X0_expandTest_0 14 rfl) rfl <| c_v2 (dc kc_X0_expandTest_0 15 rfl) cl_X0_132 rfl (Nat.le_of_ble_eq_true rfl) (Nat.zero_le _) (Nat.zero_le _) ?_
    · rfl
    · refine u_await2 hL hM hl (fun m2 g2 h2 => ?_)
      refine s_goto (tgt := 187) (dc kc_X0_expandTest_0 16 rfl) rfl <| s_return (dc kc_X0_expandTest_1 19 rfl) rfl (Nat.zero_le _) (Nat.zero_le _) ?_
      refine hQ m2 g2 ?_
      rw [mv_70 (by decide) (show prd o (tkn tk f fl) 720 = some (0, [722, 721]) from prd_720) rfl]
      exact h2
  · subst h
    have no : x ≠ 75 → x ≠ 77 → Q (vX 0) mi n mr := fun q75 q77 => by
      refine hQ mi Cg.rf ?_
      rw [mv_70 (by decide) (show prd o (tkn tk f fl) 721 = some (0, []) by rw [prd_721, if_neg (by omega), if_neg (by omega)]) rfl]
      exact hM
    have ye : ∀ q, (q = 75 ∨ q = 77) → x = q → ∀ m, Cg (pKr B R) mi m → CM tk B R m (tkS psG tk nx [722, 400 + tk f, 721] f u b (-1) r tg e p v c) → Q (vX 0) m n mr := fun q hq hxq m gm hm => by
      obtain ⟨z1, z2⟩ := al q (by omega) (by omega)
      subst z1
      refine hQ m gm ?_
      rw [z2] at hm
      rw [mv_71 (by decide) (show prd o (tk f) 721 = some (1, [722, 400 + q, 721]) by rw [z2]; rcases hq with e | e <;> subst e <;> rfl) rfl]
      exact hm
    refine s_iload_n (dc kc_X0_expandTest_0 0 rfl) rfl <| s_tabC (k0 := 721) (tgt := 147) (dc kc_X0_expandTest_0 1 rfl) ?_ rfl rfl rfl <| r_aload_n (dc kc_X0_expandTest_0 39 rfl) rfl <| s_iload_n (dc kc_X0_expandTest_1 0 rfl) rfl <| k_b (dc kc_X0_expandTest_1 1 rfl) rfl <| s_icmp_eq (tgt := 160) (dc kc_X0_expandTest_1 2 rfl) rfl (fun c151 => (k_i (dc kc_X0_expandTest_1 6 rfl) rfl <| s_goto (tgt := 165) (dc kc_X0_expandTest_1 7 rfl) rfl <| k_s (dc kc_X0_expandTest_1 9 rfl) rfl <| s_iload_n (dc kc_X0_expandTest_1 10 rfl) rfl <| c_v3 (dc kc_X0_expandTest_1 11 rfl) cl_X0_143 rfl (Nat.le_of_ble_eq_true rfl) (Nat.zero_le _) (Nat.zero_le _) ?_)) (fun c151 => (s_iload_n (dc kc_X0_expandTest_1 3 rfl) rfl <| k_b (dc kc_X0_expandTest_1 4 rfl) rfl <| s_icmp_ne (tgt := 164) (dc kc_X0_expandTest_1 5 rfl) rfl (fun c157 => (k_i (dc kc_X0_expandTest_1 8 rfl) rfl <| k_s (dc kc_X0_expandTest_1 9 rfl) rfl <| s_iload_n (dc kc_X0_expandTest_1 10 rfl) rfl <| c_v3 (dc kc_X0_expandTest_1 11 rfl) cl_X0_143 rfl (Nat.le_of_ble_eq_true rfl) (Nat.zero_le _) (Nat.zero_le _) ?_)) (fun c157 => (k_i (dc kc_X0_expandTest_1 6 rfl) rfl <| s_goto (tgt := 165) (dc kc_X0_expandTest_1 7 rfl) rfl <| k_s (dc kc_X0_expandTest_1 9 rfl) rfl <| s_iload_n (dc kc_X0_expandTest_1 10 rfl) rfl <| c_v3 (dc kc_X0_expandTest_1 11 rfl) cl_X0_143 rfl (Nat.le_of_ble_eq_true rfl) (Nat.zero_le _) (Nat.zero_le _) ?_))))
    · rfl
    · refine u_goOnIf hL hK hC hX hG (Or.inr rfl) (fun _ => ?_) (fun z => absurd z (by decide)) (fun _ m gm hm => ?_)
      · have := al 75 (by decide) (by omega)
        exact ⟨this.1, by omega, by omega, by omega, by omega⟩
      · refine s_goto (tgt := 187) (dc kc_X0_expandTest_1 12 rfl) rfl <| s_return (dc kc_X0_expandTest_1 19 rfl) rfl (Nat.zero_le _) (Nat.zero_le _) ?_
        exact ye 75 (Or.inl rfl) (by omega) m gm hm
    · refine u_goOnIf hL hK hC hX hG (Or.inl rfl) (fun z => absurd z (by decide)) (fun _ => ?_) (fun z => absurd z (by decide))
      refine s_goto (tgt := 187) (dc kc_X0_expandTest_1 12 rfl) rfl <| s_return (dc kc_X0_expandTest_1 19 rfl) rfl (Nat.zero_le _) (Nat.zero_le _) ?_
      exact no (by omega) (by omega)
    · refine u_goOnIf hL hK hC hX hG (Or.inr rfl) (fun _ => ?_) (fun z => absurd z (by decide)) (fun _ m gm hm => ?_)
      · have := al 77 (by decide) (by omega)
        exact ⟨this.1, by omega, by omega, by omega, by omega⟩
      · refine s_goto (tgt := 187) (dc kc_X0_expandTest_1 12 rfl) rfl <| s_return (dc kc_X0_expandTest_1 19 rfl) rfl (Nat.zero_le _) (Nat.zero_le _) ?_
        exact ye 77 (Or.inr rfl) (by omega) m gm hm
theorem u_expand (hL : Lay G mr) {mi : MI} {f u b fl tg e : Int} {r : List Int} {p v c : List CT} {y : Int} (hK : CK tk nu nx N mi) (hC : CP tk mi f u b fl r) (hX : CX mi B R fl tg e p v c) (hG : Gs tk B N (f, u, b, fl, y :: r, tg, e, p, v, c)) (hT : TkE N tk nu nx) (hy7 : 700 ≤ y) (hR : 0 ≤ R ∧ R < 12) (ho : mi 0 45 1 = o) (ho1 : o = 0 ∨ o = 1) (hQ : ∀ mi', Cg (pKr B R) mi mi' → CM tk B R mi' (mv psG tk nu nx o (f, u, b, fl, y :: r, tg, e, p, v, c)) → Q (vX 0) mi' n mr) : Tx (d+5) mt_X0_expand [vR (some (0, 45)), vI y] mi n mr Q := by
  have hu0 : 0 ≤ u := hG.2.1.1
  have hu9 : u ≤ 60 := hG.2.1.2
  have hb0 : -u ≤ b := hG.2.2.2.1.1
  have hb8 : b ≤ 8 := hG.2.2.2.1.2
  have hf0 : 0 ≤ f := hG.1.1
  have hrl : r.length + 1 ≤ 256 := hG.2.2.2.2.2.1
  have hU : fl = -1 → tk f ≠ 91 → tk f ≠ 23 → u < 60 := fun z1 z2 z3 => by
    by_cases hu : u = 60
    · rcases hG.2.2.1 z1 hu with q | q
      · exact absurd q z2
      · exact absurd q z3
    · omega
  have tok : mi 0 45 6 = tkn tk f fl := hC.2.1
  have hM : CM tk B R mi (f, u, b, fl, r, tg, e, p, v, c) := ⟨hC, hX⟩
  have hl : (stk (f, u, b, fl, r, tg, e, p, v, c)).length ≤ 256 := by show r.length ≤ 256; omega
  have hy0 := (hG.2.2.2.2.1 y List.mem_cons_self).1
  unfold Sy0 at hy0
  have hyc : y = 700 ∨ y = 701 ∨ y = 702 ∨ y = 703 ∨ y = 704 ∨ y = 722 ∨ y = 723 ∨ y = 724 ∨ (y = 710 ∨ y = 711 ∨ y = 712 ∨ y = 713 ∨ y = 714 ∨ y = 715 ∨ y = 720 ∨ y = 721) := by
    rcases hy0 with z | z | z | z
    · exfalso; omega
    · have : y = 700 ∨ y = 701 ∨ y = 702 ∨ y = 703 ∨ y = 704 := by omega
      rcases this with z | z | z | z | z <;> simp [z]
    · have : y = 710 ∨ y = 711 ∨ y = 712 ∨ y = 713 ∨ y = 714 ∨ y = 715 := by omega
      rcases this with z | z | z | z | z | z <;> simp [z]
    · have : y = 720 ∨ y = 721 ∨ y = 722 ∨ y = 723 ∨ y = 724 := by omega
      rcases this with z | z | z | z | z <;> simp [z]
  clear hy0
  obtain ⟨⟨x1, x2, x3⟩, hTR⟩ := id hX
  refine tx_intro (ls := [vR (some (0, 45)), vI y]) om_X0_expand rfl (Nat.le_of_ble_eq_true rfl) ?_
  rcases hyc with h | h | h | h | h | h | h | h | h
  · subst h
    refine s_iload_n (dc kc_X0_expand_0 0 rfl) rfl <| s_tabC (k0 := 700) (tgt := 116) (dc kc_X0_expand_0 1 rfl) ?_ rfl rfl rfl <| r_aload_n (dc kc_X0_expand_0 2 rfl) rfl <| r_aload_n (dc kc_X0_expand_0 3 rfl) rfl <| s_getI (dc kc_X0_expand_0 4 rfl) fl_X0_36 <| c_v1 (dc kc_X0_expand_0 5 rfl) cl_X0_102 rfl (Nat.le_of_ble_eq_true rfl) (Nat.zero_le _) (Nat.zero_le _) ?_
    · rfl
    · refine u_expandLaw hL hK hC hX hG tok (o := o) (fun m1 g1 h1 => ?_)
      refine s_goto (tgt := 211) (dc kc_X0_expand_0 6 rfl) rfl <| s_return (dc kc_X0_expand_1 5 rfl) rfl (Nat.zero_le _) (Nat.zero_le _) ?_
      exact hQ m1 g1 h1
  · subst h
    refine s_iload_n (dc kc_X0_expand_0 0 rfl) rfl <| s_tabC (k0 := 701) (tgt := 127) (dc kc_X0_expand_0 1 rfl) ?_ rfl rfl rfl <| r_aload_n (dc kc_X0_expand_0 7 rfl) rfl <| r_aload_n (dc kc_X0_expand_0 8 rfl) rfl <| s_getI (dc kc_X0_expand_0 9 rfl) fl_X0_36 <| c_v1 (dc kc_X0_expand_0 10 rfl) cl_X0_105 rfl (Nat.le_of_ble_eq_true rfl) (Nat.zero_le _) (Nat.zero_le _) ?_
    · rfl
    · refine u_expandLine hL hK hC hX hG tok (o := o) (fun m1 g1 h1 => ?_)
      refine s_goto (tgt := 211) (dc kc_X0_expand_0 11 rfl) rfl <| s_return (dc kc_X0_expand_1 5 rfl) rfl (Nat.zero_le _) (Nat.zero_le _) ?_
      exact hQ m1 g1 h1
  · subst h
    refine s_iload_n (dc kc_X0_expand_0 0 rfl) rfl <| s_tabC (k0 := 702) (tgt := 138) (dc kc_X0_expand_0 1 rfl) ?_ rfl rfl rfl <| r_aload_n (dc kc_X0_expand_0 12 rfl) rfl <| r_aload_n (dc kc_X0_expand_0 13 rfl) rfl <| s_getI (dc kc_X0_expand_0 14 rfl) fl_X0_36 <| c_v1 (dc kc_X0_expand_0 15 rfl) cl_X0_108 rfl (Nat.le_of_ble_eq_true rfl) (Nat.zero_le _) (Nat.zero_le _) ?_
    · rfl
    · refine u_expandPlace hL hK hC hX hG tok hR (o := o) (fun m1 g1 h1 => ?_)
      refine s_goto (tgt := 211) (dc kc_X0_expand_0 16 rfl) rfl <| s_return (dc kc_X0_expand_1 5 rfl) rfl (Nat.zero_le _) (Nat.zero_le _) ?_
      exact hQ m1 g1 h1
  · subst h
    refine s_iload_n (dc kc_X0_expand_0 0 rfl) rfl <| s_tabC (k0 := 703) (tgt := 149) (dc kc_X0_expand_0 1 rfl) ?_ rfl rfl rfl <| r_aload_n (dc kc_X0_expand_0 17 rfl) rfl <| s_getO (dc kc_X0_expand_0 18 rfl) fl_X0_12 (ly_45_0 hL) <| c_v0 (dc kc_X0_expand_0 19 rfl) cl_X0_111 rfl (Nat.le_of_ble_eq_true rfl) (Nat.zero_le _) (Nat.zero_le _) ?_
    · rfl
    · refine u_endNode hL (by omega) (by omega) ?_
      rw [x1]
      refine s_goto (tgt := 211) (dc kc_X0_expand_0 20 rfl) rfl <| s_return (dc kc_X0_expand_1 5 rfl) rfl (Nat.zero_le _) (Nat.zero_le _) ?_
      refine hQ _ (Cg.rf.up (by simp [pKr])) ?_
      rw [mv_70 (by decide) prd_703 rfl]
      exact ⟨hC.cX (fun b => by rw [up_g (by decide)]), ⟨by rw [up_j (by decide)]; exact x1, by rw [up_j (by decide)]; exact x2, by rw [up_j (by decide)]; exact x3⟩, fun z => (hTR z).nod⟩
  · subst h
    refine s_iload_n (dc kc_X0_expand_0 0 rfl) rfl <| s_tabC (k0 := 704) (tgt := 159) (dc kc_X0_expand_0 1 rfl) ?_ rfl rfl rfl <| r_aload_n (dc kc_X0_expand_0 21 rfl) rfl <| c_v0 (dc kc_X0_expand_0 22 rfl) cl_X0_114 rfl (Nat.le_of_ble_eq_true rfl) (Nat.zero_le _) (Nat.zero_le _) ?_
    · rfl
    · refine u_expandIf hL hK hC hX hG hR (o := o) (fun m1 g1 h1 => ?_)
      refine s_goto (tgt := 211) (dc kc_X0_expand_0 23 rfl) rfl <| s_return (dc kc_X0_expand_1 5 rfl) rfl (Nat.zero_le _) (Nat.zero_le _) ?_
      exact hQ m1 g1 h1
  · subst h
    refine s_iload_n (dc kc_X0_expand_0 0 rfl) rfl <| s_tabC (k0 := 722) (tgt := 166) (dc kc_X0_expand_0 1 rfl) ?_ rfl rfl rfl <| r_aload_n (dc kc_X0_expand_0 24 rfl) rfl <| r_aload_n (dc kc_X0_expand_0 25 rfl) rfl <| s_getI (dc kc_X0_expand_0 26 rfl) fl_X0_36 <| c_v1 (dc kc_X0_expand_0 27 rfl) cl_X0_117 rfl (Nat.le_of_ble_eq_true rfl) (Nat.zero_le _) (Nat.zero_le _) ?_
    · rfl
    · refine u_expandPart hL hK hC hX hG tok ho ho1 (o := o) (fun m1 g1 h1 => ?_)
      refine s_goto (tgt := 211) (dc kc_X0_expand_0 28 rfl) rfl <| s_return (dc kc_X0_expand_1 5 rfl) rfl (Nat.zero_le _) (Nat.zero_le _) ?_
      exact hQ m1 g1 h1
  · subst h
    refine s_iload_n (dc kc_X0_expand_0 0 rfl) rfl <| s_tabC (k0 := 723) (tgt := 177) (dc kc_X0_expand_0 1 rfl) ?_ rfl rfl rfl <| r_aload_n (dc kc_X0_expand_0 29 rfl) rfl <| r_aload_n (dc kc_X0_expand_0 30 rfl) rfl <| s_getI (dc kc_X0_expand_0 31 rfl) fl_X0_36 <| c_v1 (dc kc_X0_expand_0 32 rfl) cl_X0_120 rfl (Nat.le_of_ble_eq_true rfl) (Nat.zero_le _) (Nat.zero_le _) ?_
    · rfl
    · refine u_expandNode hL hK hC hX hG tok (o := o) (fun m1 g1 h1 => ?_)
      refine s_goto (tgt := 211) (dc kc_X0_expand_0 33 rfl) rfl <| s_return (dc kc_X0_expand_1 5 rfl) rfl (Nat.zero_le _) (Nat.zero_le _) ?_
      exact hQ m1 g1 h1
  · subst h
    refine s_iload_n (dc kc_X0_expand_0 0 rfl) rfl <| s_tabC (k0 := 724) (tgt := 188) (dc kc_X0_expand_0 1 rfl) ?_ rfl rfl rfl <| r_aload_n (dc kc_X0_expand_0 34 rfl) rfl <| k_b (dc kc_X0_expand_0 35 rfl) rfl <| k_s (dc kc_X0_expand_0 36 rfl) rfl <| k_b (dc kc_X0_expand_0 37 rfl) rfl <| c_v3 (dc kc_X0_expand_0 38 rfl) cl_X0_123 rfl (Nat.le_of_ble_eq_true rfl) (Nat.zero_le _) (Nat.zero_le _) ?_
    · rfl
    · refine u_await3 hL hM hl (fun m2 g2 h2 => ?_)
      refine s_goto (tgt := 211) (dc kc_X0_expand_0 39 rfl) rfl <| s_return (dc kc_X0_expand_1 5 rfl) rfl (Nat.zero_le _) (Nat.zero_le _) ?_
      refine hQ m2 g2 ?_
      rw [mv_70 (by decide) prd_724 rfl]
      exact h2
  · have fin : Run (d+5) mt_X0_expand Q (n, mr, 0, 0) mi 202 [vR (some (0, 45)), vI y] [] := by
      refine r_aload_n (dc kc_X0_expand_1 0 rfl) rfl <| s_iload_n (dc kc_X0_expand_1 1 rfl) rfl <| r_aload_n (dc kc_X0_expand_1 2 rfl) rfl <| s_getI (dc kc_X0_expand_1 3 rfl) fl_X0_36 <| c_v2 (dc kc_X0_expand_1 4 rfl) cl_X0_126 rfl (Nat.le_of_ble_eq_true rfl) (Nat.zero_le _) (Nat.zero_le _) ?_
      refine u_expandTest hL hK hC hX hG hT tok h (o := o) (fun m1 g1 h1 => ?_)
      refine s_return (dc kc_X0_expand_1 5 rfl) rfl (Nat.zero_le _) (Nat.zero_le _) ?_
      exact hQ m1 g1 h1
    rcases id h with z | z | z | z | z | z | z | z
    · subst z
      refine s_iload_n (dc kc_X0_expand_0 0 rfl) rfl <| s_tabC (k0 := 710) (tgt := 202) (dc kc_X0_expand_0 1 rfl) ?_ rfl rfl rfl <| ?_
      · rfl
      · exact fin
    · subst z
      refine s_iload_n (dc kc_X0_expand_0 0 rfl) rfl <| s_tabC (k0 := 711) (tgt := 202) (dc kc_X0_expand_0 1 rfl) ?_ rfl rfl rfl <| ?_
      · rfl
      · exact fin
    · subst z
      refine s_iload_n (dc kc_X0_expand_0 0 rfl) rfl <| s_tabC (k0 := 712) (tgt := 202) (dc kc_X0_expand_0 1 rfl) ?_ rfl rfl rfl <| ?_
      · rfl
      · exact fin
    · subst z
      refine s_iload_n (dc kc_X0_expand_0 0 rfl) rfl <| s_tabC (k0 := 713) (tgt := 202) (dc kc_X0_expand_0 1 rfl) ?_ rfl rfl rfl <| ?_
      · rfl
      · exact fin
    · subst z
      refine s_iload_n (dc kc_X0_expand_0 0 rfl) rfl <| s_tabC (k0 := 714) (tgt := 202) (dc kc_X0_expand_0 1 rfl) ?_ rfl rfl rfl <| ?_
      · rfl
      · exact fin
    · subst z
      refine s_iload_n (dc kc_X0_expand_0 0 rfl) rfl <| s_tabC (k0 := 715) (tgt := 202) (dc kc_X0_expand_0 1 rfl) ?_ rfl rfl rfl <| ?_
      · rfl
      · exact fin
    · subst z
      refine s_iload_n (dc kc_X0_expand_0 0 rfl) rfl <| s_tabC (k0 := 720) (tgt := 202) (dc kc_X0_expand_0 1 rfl) ?_ rfl rfl rfl <| ?_
      · rfl
      · exact fin
    · subst z
      refine s_iload_n (dc kc_X0_expand_0 0 rfl) rfl <| s_tabC (k0 := 721) (tgt := 202) (dc kc_X0_expand_0 1 rfl) ?_ rfl rfl rfl <| ?_
      · rfl
      · exact fin
end CMZ
