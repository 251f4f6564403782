/-! the class: its text in the making; what a symbol does -/
theorem or7 {a b : Int} (h0 : 0 ≤ a) (ha : a ≤ 127) (hb : 0 ≤ b) (hb1 : b < 128) : bShr (bOr (bShl a 7) b) 7 = a ∧ bAnd (bOr (bShl a 7) b) 127 = b := by
  obtain ⟨a, rfl⟩ := Int.eq_ofNat_of_zero_le h0
  obtain ⟨b, rfl⟩ := Int.eq_ofNat_of_zero_le hb
  have e1 : bShl (a : Int) 7 = ((a * 128 : Nat) : Int) := shl_bv 7 (by omega)
  have e2 := Nat.shiftLeft_add_eq_or_of_lt (a := a) (i := 7) (b := b) (by omega)
  rw [Nat.shiftLeft_eq, show (2 : Nat) ^ 7 = 128 by decide] at e2
  rw [e1, bOr_nat (by omega) (by omega), ← e2]
  have e3 : bShr ((a * 128 + b : Nat) : Int) 7 = (((a * 128 + b) / 128 : Nat) : Int) := sh_bv (by omega) 7
  have e4 : bAnd ((a * 128 + b : Nat) : Int) ((127 : Nat) : Int) = (((a * 128 + b) &&& 127 : Nat) : Int) := bAnd_nat (by omega) (by decide)
  have e5 := Nat.and_two_pow_sub_one_eq_mod (a * 128 + b) 7
  rw [show (2 : Nat) ^ 7 - 1 = 127 by decide, show (2 : Nat) ^ 7 = 128 by decide] at e5
  rw [e5] at e4
  refine ⟨?_, ?_⟩
  · rw [e3]; omega
  · rw [show (127 : Int) = ((127 : Nat) : Int) from rfl, e4]; omega
theorem slcC_snoc {f : Int → Int} : ∀ (m : Nat) (k : Int), slcC f (m + 1) k = slcC f m k ++ [(bShr (f (k + m)) 7, bAnd (f (k + m)) 127)]
  | 0, k => by
    rw [slcC, slcC, slcC]
    simp
  | m + 1, k => by
    rw [slcC, slcC_snoc m (k + 1), slcC, List.cons_append]
    rw [show k + 1 + (m : Int) = k + ((m + 1 : Nat) : Int) by omega]
theorem needL_snoc {k : List CT} {q : CT} : needL (k ++ [q]) = needL k ++ nd1 q := by
  unfold needL
  rw [List.flatMap_append]
  simp
theorem TR.emit {mi m : MI} {B R tg e : Int} {p v c : List CT} {q : CT} (h : TR mi B R tg e p v c) (hq0 : 0 ≤ q.1) (hq1 : q.1 ≤ 127) (hq2 : 0 ≤ q.2) (hq3 : q.2 < 128) (h1 : m 20 20 1 = mi 20 20 1 + 1) (h21 : m 20 21 = ud (mi 20 21) (mi 20 20 1) (bOr (bShl q.1 7) q.2)) (hk : ∀ b, 22 ≤ b → b ≤ 26 → m 20 b = mi 20 b) (hB : Bm (m 20 27 R) (needL (p ++ v ++ c) ++ nd1 q)) : TR m B R tg e p v (c ++ [q]) := by
  obtain ⟨a1, a2, a3, a4, a5, a6, a7⟩ := h
  have hl : lng p v (c ++ [q]) = lng p v c + 1 := lng_1
  have h0 : 0 ≤ lng p v c := by unfold lng; omega
  unfold TR
  rw [hk 22 (by omega) (by omega), hk 23 (by omega) (by omega), hk 24 (by omega) (by omega), hk 26 (by omega) (by omega), ← List.append_assoc, needL_snoc]
  refine ⟨by rw [h1, a1, hl]; omega, a2, a3, a4, a5, hB, ?_⟩
  rw [hl, show (lng p v c + 1).toNat = (lng p v c).toNat + 1 by omega, slcC_snoc, h21, show B + ((lng p v c).toNat : Int) = mi 20 20 1 by omega, ud_at, (or7 hq0 hq1 hq2 hq3).1, (or7 hq0 hq1 hq2 hq3).2]
  rw [slcC_ext (f := mi 20 21) _ _ (fun j j0 j1 => ud_ne (by omega)), a7]
def nfr (w a : Int) : Int := if w = 9 then bShl 1 (3 + a) else if w = 0 ∨ w = 25 ∨ w = 3 ∨ w = 19 then bOr (bShl 1 a) 64 else if w = 1 then bOr (bOr (bShl 1 a) 64) 128 else if w = 2 ∨ w = 20 then bOr (bOr (bShl 1 a) 64) 256 else 0
theorem nfr_Bm {w a : Int} (h0 : 0 ≤ a) (h1 : a ≤ mst w) : Bm (nfr w a) (nd1 (w, a)) := by
  have b6 : Bm 64 [6] := Bm.one (a := 6) (by decide) (by decide)
  have b7 : Bm 128 [7] := Bm.one (a := 7) (by decide) (by decide)
  have b8 : Bm 256 [8] := Bm.one (a := 8) (by decide) (by decide)
  unfold nfr nd1
  unfold mst at h1
  by_cases c9 : w = 9
  · subst c9
    rw [if_neg (by decide), if_neg (by decide)] at h1
    rw [if_pos rfl, if_pos rfl]
    exact Bm.one (by omega) (by omega)
  · rw [if_neg c9, if_neg (show ¬ (w, a).1 = 9 from c9)]
    by_cases cw : w = 0 ∨ w = 25 ∨ w = 3 ∨ w = 19
    · rw [if_neg (by omega), if_neg (by omega)] at h1
      rw [if_pos cw, if_neg (show ¬ (w = 20 ∨ w = 2) by omega), if_neg (show ¬ w = 1 by omega), if_pos (show w = 19 ∨ w = 0 ∨ w = 25 ∨ w = 3 by omega)]
      exact (Bm.one h0 (by omega)).or b6
    · rw [if_neg cw]
      by_cases c1 : w = 1
      · rw [if_neg (by omega), if_neg (by omega)] at h1
        rw [if_pos c1, if_neg (show ¬ (w = 20 ∨ w = 2) by omega), if_pos (show w = 1 from c1)]
        exact ((Bm.one h0 (by omega)).or b6).or b7
      · rw [if_neg c1]
        by_cases c2 : w = 2 ∨ w = 20
        · rw [if_neg (by omega), if_neg (by omega)] at h1
          rw [if_pos c2, if_pos (show w = 20 ∨ w = 2 by omega)]
          exact ((Bm.one h0 (by omega)).or b6).or b8
        · rw [if_neg c2, if_neg (show ¬ (w = 20 ∨ w = 2) by omega), if_neg (show ¬ w = 1 from c1), if_neg (show ¬ (w = 19 ∨ w = 0 ∨ w = 25 ∨ w = 3) by omega)]
          exact Bm.nil
section CMQ
variable {d n G : Nat} {mr : MR} {Q : V → MI → Nat → MR → Prop} {tk nu nx : Int → Int} {N B R : Int}
theorem ok20 : okI G 20 20 := Or.inr (Or.inr (Or.inl rfl))
theorem u_temit (hL : Lay G mr) {mi : MI} {t a : Int} (h0 : 0 ≤ mi 20 20 1) (hQ1 : mi 20 20 1 < 400 → Q (vX 0) (up (up mi 20 21 (mi 20 20 1) (bOr (bShl t 7) a)) 20 20 1 (mi 20 20 1 + 1)) n mr) (hQ2 : 400 ≤ mi 20 20 1 → Q (vX 0) mi n mr) : Tx (d+1) mt_X8_emit [vR (some (20, 20)), vI t, vI a] mi n mr Q := by
  have hok : okI G 20 20 := ok20
  have e : ∀ x, up mi 20 21 (mi 20 20 1) x 20 20 1 = mi 20 20 1 := fun x => by rw [up_j (by decide)]
  refine tx_intro (ls := [vR (some (20, 20)), vI t, vI a]) om_X8_emit rfl (Nat.le_of_ble_eq_true rfl) ?_
  refine r_aload_n (dc kc_X8_emit 0 rfl) rfl <| s_getI (dc kc_X8_emit 1 rfl) fl_X8_15 <| k_s (dc kc_X8_emit 2 rfl) rfl <| s_icmp_ge (tgt := 35) (dc kc_X8_emit 3 rfl) rfl (fun c7 => (s_return (dc kc_X8_emit 20 rfl) rfl (Nat.zero_le _) (Nat.zero_le _) ?_)) (fun c7 => (r_aload_n (dc kc_X8_emit 4 rfl) rfl <| s_getA (dc kc_X8_emit 5 rfl) fl_X8_18 (ly_20_2 hL (by assumption)) <| r_aload_n (dc kc_X8_emit 6 rfl) rfl <| s_getI (dc kc_X8_emit 7 rfl) fl_X8_15 <| s_iload_n (dc kc_X8_emit 8 rfl) rfl <| k_b (dc kc_X8_emit 9 rfl) rfl <| s_ishl (dc kc_X8_emit 10 rfl) <| s_iload_n (dc kc_X8_emit 11 rfl) rfl <| s_ior (dc kc_X8_emit 12 rfl) <| s_iastore (dc kc_X8_emit 13 rfl) rfl (by first | omega | (simp [up] <;> omega)) (by first | omega | (simp [up] <;> omega)) <| r_aload_n (dc kc_X8_emit 14 rfl) rfl <| s_dup (dc kc_X8_emit 15 rfl) rfl <| s_getI (dc kc_X8_emit 16 rfl) fl_X8_15 <| k_i (dc kc_X8_emit 17 rfl) rfl <| b_iadd (dc kc_X8_emit 18 rfl) (by first | omega | (simp [up] <;> omega)) (by first | omega | (simp [up] <;> omega)) <| s_putI (dc kc_X8_emit 19 rfl) fl_X8_15 <| s_return (dc kc_X8_emit 20 rfl) rfl (Nat.zero_le _) (Nat.zero_le _) ?_))
  · exact hQ2 (by omega)
  · rw [e]; exact hQ1 (by omega)
theorem u_aimAt (hL : Lay G mr) {mi : MI} {x : Int} (h0 : 0 ≤ mi 20 20 0) (h1 : mi 20 20 0 < 12) (hQ : Q (vX 0) (up mi 20 26 (mi 20 20 0) x) n mr) : Tx (d+1) mt_X8_aimAt [vR (some (20, 20)), vI x] mi n mr Q := by
  have hok : okI G 20 20 := ok20
  refine tx_intro (ls := [vR (some (20, 20)), vI x]) om_X8_aimAt rfl (Nat.le_of_ble_eq_true rfl) ?_
  refine r_aload_n (dc kc_X8_aimAt 0 rfl) rfl <| s_getI (dc kc_X8_aimAt 1 rfl) fl_X8_9 <| k_b (dc kc_X8_aimAt 2 rfl) rfl <| s_icmp_ge (tgt := 19) (dc kc_X8_aimAt 3 rfl) rfl (fun c6 => (s_return (dc kc_X8_aimAt 10 rfl) rfl (Nat.zero_le _) (Nat.zero_le _) ?_)) (fun c6 => (r_aload_n (dc kc_X8_aimAt 4 rfl) rfl <| s_getA (dc kc_X8_aimAt 5 rfl) fl_X8_34 (ly_20_7 hL (by assumption)) <| r_aload_n (dc kc_X8_aimAt 6 rfl) rfl <| s_getI (dc kc_X8_aimAt 7 rfl) fl_X8_9 <| s_iload_n (dc kc_X8_aimAt 8 rfl) rfl <| s_iastore (dc kc_X8_aimAt 9 rfl) rfl (by first | omega | (simp [up] <;> omega)) (by first | omega | (simp [up] <;> omega)) <| s_return (dc kc_X8_aimAt 10 rfl) rfl (Nat.zero_le _) (Nat.zero_le _) ?_))
  · exfalso; omega
  · exact hQ
theorem u_endNode (hL : Lay G mr) {mi : MI} (h0 : 0 ≤ mi 20 20 0) (h1 : mi 20 20 0 < 12) (hQ : Q (vX 0) (up mi 20 23 (mi 20 20 0) (mi 20 20 1)) n mr) : Tx (d+1) mt_X8_endNode [vR (some (20, 20))] mi n mr Q := by
  have hok : okI G 20 20 := ok20
  refine tx_intro (ls := [vR (some (20, 20))]) om_X8_endNode rfl (Nat.le_of_ble_eq_true rfl) ?_
  refine r_aload_n (dc kc_X8_endNode 0 rfl) rfl <| s_getI (dc kc_X8_endNode 1 rfl) fl_X8_9 <| k_b (dc kc_X8_endNode 2 rfl) rfl <| s_icmp_ge (tgt := 22) (dc kc_X8_endNode 3 rfl) rfl (fun c6 => (s_return (dc kc_X8_endNode 11 rfl) rfl (Nat.zero_le _) (Nat.zero_le _) ?_)) (fun c6 => (r_aload_n (dc kc_X8_endNode 4 rfl) rfl <| s_getA (dc kc_X8_endNode 5 rfl) fl_X8_25 (ly_20_4 hL (by assumption)) <| r_aload_n (dc kc_X8_endNode 6 rfl) rfl <| s_getI (dc kc_X8_endNode 7 rfl) fl_X8_9 <| r_aload_n (dc kc_X8_endNode 8 rfl) rfl <| s_getI (dc kc_X8_endNode 9 rfl) fl_X8_15 <| s_iastore (dc kc_X8_endNode 10 rfl) rfl (by first | omega | (simp [up] <;> omega)) (by first | omega | (simp [up] <;> omega)) <| s_return (dc kc_X8_endNode 11 rfl) rfl (Nat.zero_le _) (Nat.zero_le _) ?_))
  · exfalso; omega
  · exact hQ
theorem u_endValue (hL : Lay G mr) {mi : MI} (h0 : 0 ≤ mi 20 20 0) (h1 : mi 20 20 0 < 12) (hQ : Q (vX 0) (up mi 20 24 (mi 20 20 0) (mi 20 20 1)) n mr) : Tx (d+1) mt_X8_endValue [vR (some (20, 20))] mi n mr Q := by
  have hok : okI G 20 20 := ok20
  refine tx_intro (ls := [vR (some (20, 20))]) om_X8_endValue rfl (Nat.le_of_ble_eq_true rfl) ?_
  refine r_aload_n (dc kc_X8_endValue 0 rfl) rfl <| s_getI (dc kc_X8_endValue 1 rfl) fl_X8_9 <| k_b (dc kc_X8_endValue 2 rfl) rfl <| s_icmp_ge (tgt := 22) (dc kc_X8_endValue 3 rfl) rfl (fun c6 => (s_return (dc kc_X8_endValue 11 rfl) rfl (Nat.zero_le _) (Nat.zero_le _) ?_)) (fun c6 => (r_aload_n (dc kc_X8_endValue 4 rfl) rfl <| s_getA (dc kc_X8_endValue 5 rfl) fl_X8_28 (ly_20_5 hL (by assumption)) <| r_aload_n (dc kc_X8_endValue 6 rfl) rfl <| s_getI (dc kc_X8_endValue 7 rfl) fl_X8_9 <| r_aload_n (dc kc_X8_endValue 8 rfl) rfl <| s_getI (dc kc_X8_endValue 9 rfl) fl_X8_15 <| s_iastore (dc kc_X8_endValue 10 rfl) rfl (by first | omega | (simp [up] <;> omega)) (by first | omega | (simp [up] <;> omega)) <| s_return (dc kc_X8_endValue 11 rfl) rfl (Nat.zero_le _) (Nat.zero_le _) ?_))
  · exfalso; omega
  · exact hQ
theorem u_need (hL : Lay G mr) {mi : MI} {x : Int} (h0 : 0 ≤ mi 20 20 0) (h1 : mi 20 20 0 < 12) (hQ : Q (vX 0) (up mi 20 27 (mi 20 20 0) (bOr (mi 20 27 (mi 20 20 0)) x)) n mr) : Tx (d+1) mt_X8_need [vR (some (20, 20)), vI x] mi n mr Q := by
  have hok : okI G 20 20 := ok20
  refine tx_intro (ls := [vR (some (20, 20)), vI x]) om_X8_need rfl (Nat.le_of_ble_eq_true rfl) ?_
  refine r_aload_n (dc kc_X8_need 0 rfl) rfl <| s_getI (dc kc_X8_need 1 rfl) fl_X8_9 <| k_b (dc kc_X8_need 2 rfl) rfl <| s_icmp_ge (tgt := 22) (dc kc_X8_need 3 rfl) rfl (fun c6 => (s_return (dc kc_X8_need 13 rfl) rfl (Nat.zero_le _) (Nat.zero_le _) ?_)) (fun c6 => (r_aload_n (dc kc_X8_need 4 rfl) rfl <| s_getA (dc kc_X8_need 5 rfl) fl_X8_37 (ly_20_8 hL (by assumption)) <| r_aload_n (dc kc_X8_need 6 rfl) rfl <| s_getI (dc kc_X8_need 7 rfl) fl_X8_9 <| s_dup2 (dc kc_X8_need 8 rfl) rfl rfl <| s_iaload (dc kc_X8_need 9 rfl) rfl (by first | omega | (simp [up] <;> omega)) (by first | omega | (simp [up] <;> omega)) <| s_iload_n (dc kc_X8_need 10 rfl) rfl <| s_ior (dc kc_X8_need 11 rfl) <| s_iastore (dc kc_X8_need 12 rfl) rfl (by first | omega | (simp [up] <;> omega)) (by first | omega | (simp [up] <;> omega)) <| s_return (dc kc_X8_need 13 rfl) rfl (Nat.zero_le _) (Nat.zero_le _) ?_))
  · exfalso; omega
  · exact hQ
theorem u_neededFor {mi : MI} {w a : Int} (hw : Wd1 w) (ha : 0 ≤ a) (ha1 : a ≤ 99) (hQ : Q (vI (nfr w a)) mi n mr) : Tx (d+1) mt_X0_neededFor [vI w, vI a] mi n mr Q := by
  unfold nfr at hQ
  refine tx_intro (ls := [vI w, vI a, vX 0]) om_X0_neededFor rfl (Nat.le_of_ble_eq_true rfl) ?_
  rcases hw with h | h | h | h | h | h | h | h | h | h | h
  · subst h
    refine k_i (dc kc_X0_neededFor 0 rfl) rfl <| s_iload_n (dc kc_X0_neededFor 1 rfl) rfl <| s_ishl (dc kc_X0_neededFor 2 rfl) <| k_b (dc kc_X0_neededFor 3 rfl) rfl <| s_ior (dc kc_X0_neededFor 4 rfl) <| t_i2 (dc kc_X0_neededFor 5 rfl) (Nat.le_of_ble_eq_true rfl) rfl <| s_iload_n (dc kc_X0_neededFor 6 rfl) rfl <| s_tabC (k0 := 0) (tgt := 134) (dc kc_X0_neededFor 7 rfl) ?_ rfl rfl rfl <| s_iload_n (dc kc_X0_neededFor 14 rfl) rfl <| s_ireturn (dc kc_X0_neededFor 15 rfl) rfl (Nat.zero_le _) (Nat.zero_le _) ?_
    · rfl
    · exact hQ
  · subst h
    refine k_i (dc kc_X0_neededFor 0 rfl) rfl <| s_iload_n (dc kc_X0_neededFor 1 rfl) rfl <| s_ishl (dc kc_X0_neededFor 2 rfl) <| k_b (dc kc_X0_neededFor 3 rfl) rfl <| s_ior (dc kc_X0_neededFor 4 rfl) <| t_i2 (dc kc_X0_neededFor 5 rfl) (Nat.le_of_ble_eq_true rfl) rfl <| s_iload_n (dc kc_X0_neededFor 6 rfl) rfl <| s_tabC (k0 := 1) (tgt := 142) (dc kc_X0_neededFor 7 rfl) ?_ rfl rfl rfl <| s_iload_n (dc kc_X0_neededFor 22 rfl) rfl <| k_s (dc kc_X0_neededFor 23 rfl) rfl <| s_ior (dc kc_X0_neededFor 24 rfl) <| s_ireturn (dc kc_X0_neededFor 25 rfl) rfl (Nat.zero_le _) (Nat.zero_le _) ?_
    · rfl
    · exact hQ
  · subst h
    refine k_i (dc kc_X0_neededFor 0 rfl) rfl <| s_iload_n (dc kc_X0_neededFor 1 rfl) rfl <| s_ishl (dc kc_X0_neededFor 2 rfl) <| k_b (dc kc_X0_neededFor 3 rfl) rfl <| s_ior (dc kc_X0_neededFor 4 rfl) <| t_i2 (dc kc_X0_neededFor 5 rfl) (Nat.le_of_ble_eq_true rfl) rfl <| s_iload_n (dc kc_X0_neededFor 6 rfl) rfl <| s_tabC (k0 := 2) (tgt := 148) (dc kc_X0_neededFor 7 rfl) ?_ rfl rfl rfl <| s_iload_n (dc kc_X0_neededFor 26 rfl) rfl <| k_s (dc kc_X0_neededFor 27 rfl) rfl <| s_ior (dc kc_X0_neededFor 28 rfl) <| s_ireturn (dc kc_X0_neededFor 29 rfl) rfl (Nat.zero_le _) (Nat.zero_le _) ?_
    · rfl
    · exact hQ
  · subst h
    refine k_i (dc kc_X0_neededFor 0 rfl) rfl <| s_iload_n (dc kc_X0_neededFor 1 rfl) rfl <| s_ishl (dc kc_X0_neededFor 2 rfl) <| k_b (dc kc_X0_neededFor 3 rfl) rfl <| s_ior (dc kc_X0_neededFor 4 rfl) <| t_i2 (dc kc_X0_neededFor 5 rfl) (Nat.le_of_ble_eq_true rfl) rfl <| s_iload_n (dc kc_X0_neededFor 6 rfl) rfl <| s_tabC (k0 := 3) (tgt := 138) (dc kc_X0_neededFor 7 rfl) ?_ rfl rfl rfl <| s_iload_n (dc kc_X0_neededFor 18 rfl) rfl <| s_ireturn (dc kc_X0_neededFor 19 rfl) rfl (Nat.zero_le _) (Nat.zero_le _) ?_
    · rfl
    · exact hQ
  · subst h
    refine k_i (dc kc_X0_neededFor 0 rfl) rfl <| s_iload_n (dc kc_X0_neededFor 1 rfl) rfl <| s_ishl (dc kc_X0_neededFor 2 rfl) <| k_b (dc kc_X0_neededFor 3 rfl) rfl <| s_ior (dc kc_X0_neededFor 4 rfl) <| t_i2 (dc kc_X0_neededFor 5 rfl) (Nat.le_of_ble_eq_true rfl) rfl <| s_iload_n (dc kc_X0_neededFor 6 rfl) rfl <| s_tabC (k0 := 8) (tgt := 160) (dc kc_X0_neededFor 7 rfl) ?_ rfl rfl rfl <| k_i (dc kc_X0_neededFor 34 rfl) rfl <| s_ireturn (dc kc_X0_neededFor 35 rfl) rfl (Nat.zero_le _) (Nat.zero_le _) ?_
    · rfl
    · exact hQ
  · subst h
    refine k_i (dc kc_X0_neededFor 0 rfl) rfl <| s_iload_n (dc kc_X0_neededFor 1 rfl) rfl <| s_ishl (dc kc_X0_neededFor 2 rfl) <| k_b (dc kc_X0_neededFor 3 rfl) rfl <| s_ior (dc kc_X0_neededFor 4 rfl) <| t_i2 (dc kc_X0_neededFor 5 rfl) (Nat.le_of_ble_eq_true rfl) rfl <| s_iload_n (dc kc_X0_neededFor 6 rfl) rfl <| s_tabC (k0 := 9) (tgt := 128) (dc kc_X0_neededFor 7 rfl) ?_ rfl rfl rfl <| k_i (dc kc_X0_neededFor 8 rfl) rfl <| k_i (dc kc_X0_neededFor 9 rfl) rfl <| s_iload_n (dc kc_X0_neededFor 10 rfl) rfl <| b_iadd (dc kc_X0_neededFor 11 rfl) (by first | omega | (simp [up] <;> omega)) (by first | omega | (simp [up] <;> omega)) <| s_ishl (dc kc_X0_neededFor 12 rfl) <| s_ireturn (dc kc_X0_neededFor 13 rfl) rfl (Nat.zero_le _) (Nat.zero_le _) ?_
    · rfl
    · exact hQ
  · subst h
    refine k_i (dc kc_X0_neededFor 0 rfl) rfl <| s_iload_n (dc kc_X0_neededFor 1 rfl) rfl <| s_ishl (dc kc_X0_neededFor 2 rfl) <| k_b (dc kc_X0_neededFor 3 rfl) rfl <| s_ior (dc kc_X0_neededFor 4 rfl) <| t_i2 (dc kc_X0_neededFor 5 rfl) (Nat.le_of_ble_eq_true rfl) rfl <| s_iload_n (dc kc_X0_neededFor 6 rfl) rfl <| s_tabC (k0 := 13) (tgt := 160) (dc kc_X0_neededFor 7 rfl) ?_ rfl rfl rfl <| k_i (dc kc_X0_neededFor 34 rfl) rfl <| s_ireturn (dc kc_X0_neededFor 35 rfl) rfl (Nat.zero_le _) (Nat.zero_le _) ?_
    · rfl
    · exact hQ
  · subst h
    refine k_i (dc kc_X0_neededFor 0 rfl) rfl <| s_iload_n (dc kc_X0_neededFor 1 rfl) rfl <| s_ishl (dc kc_X0_neededFor 2 rfl) <| k_b (dc kc_X0_neededFor 3 rfl) rfl <| s_ior (dc kc_X0_neededFor 4 rfl) <| t_i2 (dc kc_X0_neededFor 5 rfl) (Nat.le_of_ble_eq_true rfl) rfl <| s_iload_n (dc kc_X0_neededFor 6 rfl) rfl <| s_tabC (k0 := 19) (tgt := 140) (dc kc_X0_neededFor 7 rfl) ?_ rfl rfl rfl <| s_iload_n (dc kc_X0_neededFor 20 rfl) rfl <| s_ireturn (dc kc_X0_neededFor 21 rfl) rfl (Nat.zero_le _) (Nat.zero_le _) ?_
    · rfl
    · exact hQ
  · subst h
    refine k_i (dc kc_X0_neededFor 0 rfl) rfl <| s_iload_n (dc kc_X0_neededFor 1 rfl) rfl <| s_ishl (dc kc_X0_neededFor 2 rfl) <| k_b (dc kc_X0_neededFor 3 rfl) rfl <| s_ior (dc kc_X0_neededFor 4 rfl) <| t_i2 (dc kc_X0_neededFor 5 rfl) (Nat.le_of_ble_eq_true rfl) rfl <| s_iload_n (dc kc_X0_neededFor 6 rfl) rfl <| s_tabC (k0 := 20) (tgt := 154) (dc kc_X0_neededFor 7 rfl) ?_ rfl rfl rfl <| s_iload_n (dc kc_X0_neededFor 30 rfl) rfl <| k_s (dc kc_X0_neededFor 31 rfl) rfl <| s_ior (dc kc_X0_neededFor 32 rfl) <| s_ireturn (dc kc_X0_neededFor 33 rfl) rfl (Nat.zero_le _) (Nat.zero_le _) ?_
    · rfl
    · exact hQ
  · subst h
    refine k_i (dc kc_X0_neededFor 0 rfl) rfl <| s_iload_n (dc kc_X0_neededFor 1 rfl) rfl <| s_ishl (dc kc_X0_neededFor 2 rfl) <| k_b (dc kc_X0_neededFor 3 rfl) rfl <| s_ior (dc kc_X0_neededFor 4 rfl) <| t_i2 (dc kc_X0_neededFor 5 rfl) (Nat.le_of_ble_eq_true rfl) rfl <| s_iload_n (dc kc_X0_neededFor 6 rfl) rfl <| s_tabC (k0 := 22) (tgt := 160) (dc kc_X0_neededFor 7 rfl) ?_ rfl rfl rfl <| k_i (dc kc_X0_neededFor 34 rfl) rfl <| s_ireturn (dc kc_X0_neededFor 35 rfl) rfl (Nat.zero_le _) (Nat.zero_le _) ?_
    · rfl
    · exact hQ
  · subst h
    refine k_i (dc kc_X0_neededFor 0 rfl) rfl <| s_iload_n (dc kc_X0_neededFor 1 rfl) rfl <| s_ishl (dc kc_X0_neededFor 2 rfl) <| k_b (dc kc_X0_neededFor 3 rfl) rfl <| s_ior (dc kc_X0_neededFor 4 rfl) <| t_i2 (dc kc_X0_neededFor 5 rfl) (Nat.le_of_ble_eq_true rfl) rfl <| s_iload_n (dc kc_X0_neededFor 6 rfl) rfl <| s_tabC (k0 := 25) (tgt := 136) (dc kc_X0_neededFor 7 rfl) ?_ rfl rfl rfl <| s_iload_n (dc kc_X0_neededFor 16 rfl) rfl <| s_ireturn (dc kc_X0_neededFor 17 rfl) rfl (Nat.zero_le _) (Nat.zero_le _) ?_
    · rfl
    · exact hQ
theorem u_isOpening {mi : MI} {y : Int} (hQ : Q (vI (bi (y = 72 ∨ y = 123))) mi n mr) : Tx (d+1) mt_X0_isOpening [vI y] mi n mr Q := by
  refine tx_intro (ls := [vI y]) om_X0_isOpening rfl (Nat.le_of_ble_eq_true rfl) ?_
  refine s_iload_n (dc kc_X0_isOpening 0 rfl) rfl <| k_b (dc kc_X0_isOpening 1 rfl) rfl <| s_icmp_eq (tgt := 12) (dc kc_X0_isOpening 2 rfl) rfl (fun c3 => (k_i (dc kc_X0_isOpening 6 rfl) rfl <| s_goto (tgt := 17) (dc kc_X0_isOpening 7 rfl) rfl <| s_zreturn (dc kc_X0_isOpening 9 rfl) rfl (by first | exact Or.inl rfl | exact Or.inr rfl | exact bi_01 | assumption) (Nat.zero_le _) (Nat.zero_le _) ?_)) (fun c3 => (s_iload_n (dc kc_X0_isOpening 3 rfl) rfl <| k_b (dc kc_X0_isOpening 4 rfl) rfl <| s_icmp_ne (tgt := 16) (dc kc_X0_isOpening 5 rfl) rfl (fun c9 => (k_i (dc kc_X0_isOpening 8 rfl) rfl <| s_zreturn (dc kc_X0_isOpening 9 rfl) rfl (by first | exact Or.inl rfl | exact Or.inr rfl | exact bi_01 | assumption) (Nat.zero_le _) (Nat.zero_le _) ?_)) (fun c9 => (k_i (dc kc_X0_isOpening 6 rfl) rfl <| s_goto (tgt := 17) (dc kc_X0_isOpening 7 rfl) rfl <| s_zreturn (dc kc_X0_isOpening 9 rfl) rfl (by first | exact Or.inl rfl | exact Or.inr rfl | exact bi_01 | assumption) (Nat.zero_le _) (Nat.zero_le _) ?_))))
  all_goals (first | (rw [bi_t (by omega)] at hQ; exact hQ) | (rw [bi_f (by omega)] at hQ; exact hQ))
end CMQ
