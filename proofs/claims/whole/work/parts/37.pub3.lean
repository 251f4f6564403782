/-! the reference: what calls answer, those with loops -/
/-- the steps of a call -/
def stpN (ρ : Int → Int) : Nat → Int → Int
  | 0 => ρ
  | k + 1 => stpR (stpN ρ k)
/-- a tape with four bytes of an int more -/
def put4 (t : Int → Int) (p v : Int) : Int → Int := ud (ud (ud (ud t p (bAnd (bShr v 24) 255)) (p + 1) (bAnd (bShr v 16) 255)) (p + 2) (bAnd (bShr v 8) 255)) (p + 3) (bAnd (bShr v 0) 255)
/-- a row with a piece of another laid in -/
def cpF (f g : Int → Int) (a b N : Int) : Int → Int := fun k => if a ≤ k ∧ k < a + N then g (k - a + b) else f k
theorem cpF_0 {f g : Int → Int} {a b : Int} : cpF f g a b 0 = f := funext fun k => if_neg (by omega)
theorem cpF_at {f g : Int → Int} {a b N k : Int} (h0 : a ≤ k) (h1 : k < a + N) : cpF f g a b N k = g (k - a + b) := if_pos ⟨h0, h1⟩
theorem cpF_off {f g : Int → Int} {a b N k : Int} (h : k < a ∨ a + N ≤ k) : cpF f g a b N k = f k := if_neg (by omega)
theorem cpF_s {f g : Int → Int} {a b N v : Int} (hN : 0 ≤ N) (hv : v = g (b + N)) : ud (cpF f g a b N) (a + N) v = cpF f g a b (N + 1) := by
  funext k
  by_cases e : k = a + N
  · rw [e, ud_at, cpF_at (by omega) (by omega), hv]
    congr 1
    omega
  · rw [ud_ne e]
    by_cases e2 : a ≤ k ∧ k < a + N
    · rw [cpF_at e2.1 e2.2, cpF_at e2.1 (by omega)]
    · rw [cpF_off (by omega), cpF_off (by omega)]
section PUB3
variable {d n G : Nat} {mr : MR} {Q : V → MI → Nat → MR → Prop}
theorem t_four (hL : Lay G mr) {mi : MI} {v : Int} (h0 : 0 ≤ mi 0 80 11) (h1 : mi 0 80 11 + 4 ≤ 400) (hQ : ∀ mi', Ch pG mi mi' → mi' 0 86 = put4 (mi 0 86) (mi 0 80 11) v → mi' 0 80 11 = mi 0 80 11 + 4 → Q (vX 0) mi' n mr) : Tx (d+1) mt_X12_four [vR (some (0, 80)), vI v] mi n mr Q := by
  refine tx_intro (ls := [vR (some (0, 80)), vI v, vX 0]) om_X12_four rfl (Nat.le_of_ble_eq_true rfl) ?_
  refine k_b (dc kc_X12_four 0 rfl) rfl <| t_i2 (dc kc_X12_four 1 rfl) (Nat.le_of_ble_eq_true rfl) rfl <| ?_
  have one : ∀ (mi : MI) (s : Int), 0 ≤ s → s ≤ 24 → 0 ≤ mi 0 80 11 → mi 0 80 11 < 400 → (∀ mi', Ch pG mi mi' → mi' 0 86 = ud (mi 0 86) (mi 0 80 11) (bAnd (bShr v s) 255) → mi' 0 80 11 = mi 0 80 11 + 1 → Run (d+1) mt_X12_four Q (n, mr, 0, 0) mi' 3 [vR (some (0, 80)), vI v, vI (s + (-8))] []) → Run (d+1) mt_X12_four Q (n, mr, 0, 0) mi 3 [vR (some (0, 80)), vI v, vI s] [] := by
    intro mi s hs0 hs1 g0 g1 k
    have e : ∀ (x : Int), up mi 0 86 (mi 0 80 11) x 0 80 11 = mi 0 80 11 := fun x => by rw [up_j (by decide)]
    refine s_iload_n (dc kc_X12_four 2 rfl) rfl <| s_if_lt (tgt := 39) (dc kc_X12_four 3 rfl) rfl (fun c4 => (s_return (dc kc_X12_four 22 rfl) rfl (Nat.zero_le _) (Nat.zero_le _) ?_)) (fun c4 => (r_aload_n (dc kc_X12_four 4 rfl) rfl <| s_getA (dc kc_X12_four 5 rfl) fl_X12_26 (ly_80_10 hL) <| r_aload_n (dc kc_X12_four 6 rfl) rfl <| s_getI (dc kc_X12_four 7 rfl) fl_X12_137 <| s_iload_n (dc kc_X12_four 8 rfl) rfl <| s_iload_n (dc kc_X12_four 9 rfl) rfl <| s_ishr (dc kc_X12_four 10 rfl) <| k_s (dc kc_X12_four 11 rfl) rfl <| s_iand (dc kc_X12_four 12 rfl) <| s_iastore (dc kc_X12_four 13 rfl) rfl (by first | omega | (simp [up] <;> omega)) (by first | omega | (simp [up] <;> omega)) <| r_aload_n (dc kc_X12_four 14 rfl) rfl <| s_dup (dc kc_X12_four 15 rfl) rfl <| s_getI (dc kc_X12_four 16 rfl) fl_X12_137 <| k_i (dc kc_X12_four 17 rfl) rfl <| b_iadd (dc kc_X12_four 18 rfl) (by first | omega | (simp [up] <;> omega)) (by first | omega | (simp [up] <;> omega)) <| s_putI (dc kc_X12_four 19 rfl) fl_X12_137 <| b_inc2 (dc kc_X12_four 20 rfl) rfl (Nat.le_of_ble_eq_true rfl) rfl (by first | omega | (simp [up] <;> omega)) (by first | omega | (simp [up] <;> omega)) <| s_goto (tgt := 3) (dc kc_X12_four 21 rfl) rfl <| ?_))
    · exfalso; omega
    · exact k _ ((Ch.rf.up rfl).up rfl) (by rw [up_j (by decide), up_ud]) (by rw [up_at, e])
  refine one mi 24 (by decide) (by decide) h0 (by omega) (fun m1 g1 e1 f1 => ?_)
  refine one m1 16 (by decide) (by decide) (by omega) (by omega) (fun m2 g2 e2 f2 => ?_)
  refine one m2 8 (by decide) (by decide) (by omega) (by omega) (fun m3 g3 e3 f3 => ?_)
  refine one m3 0 (by decide) (by decide) (by omega) (by omega) (fun m4 g4 e4 f4 => ?_)
  refine s_iload_n (dc kc_X12_four 2 rfl) rfl <| s_if_lt (tgt := 39) (dc kc_X12_four 3 rfl) rfl (fun c4 => (s_return (dc kc_X12_four 22 rfl) rfl (Nat.zero_le _) (Nat.zero_le _) ?_)) (fun c4 => (?_))
  · refine hQ m4 (((g1.tr g2).tr g3).tr g4) ?_ (by omega)
    rw [e4, e3, e2, e1, f3, f2, f1]
    unfold put4
    rw [show mi 0 80 11 + 1 + 1 = mi 0 80 11 + 2 by omega, show mi 0 80 11 + 2 + 1 = mi 0 80 11 + 3 by omega]
  · exfalso; omega
def fedR (t : Int → Int) (p a b c e f : Int) : Int → Int := put4 (put4 (put4 (put4 (put4 t p a) (p + 4) b) (p + 8) c) (p + 12) e) (p + 16) f
theorem t_feed (hL : Lay G mr) {mi : MI} {a b c e f : Int} (h0 : 0 ≤ mi 0 80 11) (h1 : mi 0 80 11 ≤ 400) (hQ1 : 380 < mi 0 80 11 → ∀ mi', Ch p0 mi mi' → Q (vI (-1)) mi' n mr) (hQ2 : mi 0 80 11 ≤ 380 → ∀ mi', Ch pG mi mi' → mi' 0 86 = fedR (mi 0 86) (mi 0 80 11) a b c e f → mi' 0 80 11 = mi 0 80 11 + 20 → Q (vI (mi 0 80 11 + 20)) mi' n mr) : Tx (d+2) mt_X12_feed [vR (some (0, 80)), vI a, vI b, vI c, vI e, vI f] mi n mr Q := by
  refine tx_intro (ls := [vR (some (0, 80)), vI a, vI b, vI c, vI e, vI f]) om_X12_feed rfl (Nat.le_of_ble_eq_true rfl) ?_
  have e11 : up mi 0 80 0 0 0 80 11 = mi 0 80 11 := up_k (by decide)
  have e86 : up mi 0 80 0 0 0 86 = mi 0 86 := up_j (by decide)
  have g0 : Ch pG mi (up mi 0 80 0 0) := Ch.rf.up rfl
  refine r_aload_n (dc kc_X12_feed 0 rfl) rfl <| k_i (dc kc_X12_feed 1 rfl) rfl <| s_putI (dc kc_X12_feed 2 rfl) fl_X12_86 <| r_aload_n (dc kc_X12_feed 3 rfl) rfl <| s_getI (dc kc_X12_feed 4 rfl) fl_X12_137 <| k_b (dc kc_X12_feed 5 rfl) rfl <| b_iadd (dc kc_X12_feed 6 rfl) (by first | omega | (simp [up] <;> omega)) (by first | omega | (simp [up] <;> omega)) <| k_s (dc kc_X12_feed 7 rfl) rfl <| s_icmp_le (tgt := 20) (dc kc_X12_feed 8 rfl) rfl (fun c15 => (?_)) (fun c15 => (k_i (dc kc_X12_feed 9 rfl) rfl <| s_ireturn (dc kc_X12_feed 10 rfl) rfl (Nat.zero_le _) (Nat.zero_le _) ?_))
  · rw [e11] at c15
    generalize up mi 0 80 0 0 = m0 at *
    refine r_aload_n (dc kc_X12_feed 11 rfl) rfl <| s_iload_n (dc kc_X12_feed 12 rfl) rfl <| c_v1 (dc kc_X12_feed 13 rfl) cl_X12_140 rfl (Nat.le_of_ble_eq_true rfl) (Nat.zero_le _) (Nat.zero_le _) ?_
    refine t_four hL (by omega) (by omega) (fun m1 g1 e1 f1 => ?_)
    refine r_aload_n (dc kc_X12_feed 14 rfl) rfl <| s_iload_n (dc kc_X12_feed 15 rfl) rfl <| c_v1 (dc kc_X12_feed 16 rfl) cl_X12_140 rfl (Nat.le_of_ble_eq_true rfl) (Nat.zero_le _) (Nat.zero_le _) ?_
    refine t_four hL (by omega) (by omega) (fun m2 g2 e2 f2 => ?_)
    refine r_aload_n (dc kc_X12_feed 17 rfl) rfl <| s_iload_n (dc kc_X12_feed 18 rfl) rfl <| c_v1 (dc kc_X12_feed 19 rfl) cl_X12_140 rfl (Nat.le_of_ble_eq_true rfl) (Nat.zero_le _) (Nat.zero_le _) ?_
    refine t_four hL (by omega) (by omega) (fun m3 g3 e3 f3 => ?_)
    refine r_aload_n (dc kc_X12_feed 20 rfl) rfl <| s_iload (dc kc_X12_feed 21 rfl) rfl <| c_v1 (dc kc_X12_feed 22 rfl) cl_X12_140 rfl (Nat.le_of_ble_eq_true rfl) (Nat.zero_le _) (Nat.zero_le _) ?_
    refine t_four hL (by omega) (by omega) (fun m4 g4 e4 f4 => ?_)
    refine r_aload_n (dc kc_X12_feed 23 rfl) rfl <| s_iload (dc kc_X12_feed 24 rfl) rfl <| c_v1 (dc kc_X12_feed 25 rfl) cl_X12_140 rfl (Nat.le_of_ble_eq_true rfl) (Nat.zero_le _) (Nat.zero_le _) ?_
    refine t_four hL (by omega) (by omega) (fun m5 g5 e5 f5 => ?_)
    have h20 : m5 0 80 11 = mi 0 80 11 + 20 := by omega
    refine r_aload_n (dc kc_X12_feed 26 rfl) rfl <| s_getI (dc kc_X12_feed 27 rfl) fl_X12_137 <| s_ireturn (dc kc_X12_feed 28 rfl) rfl (Nat.zero_le _) (Nat.zero_le _) ?_
    rw [h20]
    refine hQ2 (by omega) m5 (((((g0.tr g1).tr g2).tr g3).tr g4).tr g5) ?_ h20
    rw [e5, e4, e3, e2, e1, f4, f3, f2, f1, e11, e86]
    unfold fedR
    rw [show mi 0 80 11 + 4 + 4 = mi 0 80 11 + 8 by omega, show mi 0 80 11 + 8 + 4 = mi 0 80 11 + 12 by omega, show mi 0 80 11 + 12 + 4 = mi 0 80 11 + 16 by omega]
  · rw [e11] at c15
    exact hQ1 (by omega) _ (Ch.rf.up rfl)
theorem t_row (hL : Lay G mr) {mi : MI} {c : Int} (hI : Inv0 (mi 0 81)) (h0 : 0 ≤ mi 0 80 11) (h1 : mi 0 80 11 ≤ 400)
    (hQ1 : ¬ (0 ≤ c ∧ c ≤ 23) → ∀ mi', Ch (fun j k => pT j k || (j == 80 && k == 11)) mi mi' → mi' 0 80 11 = 0 → mi' 0 80 1 = -1 → Q (vI (-1)) mi' n mr)
    (hQ2 : 0 ≤ c → c ≤ 23 → (mi 0 80 11 = 0 ∨ 24 < c + mi 0 80 11) → ∀ mi', Ch (fun j k => pT j k || (j == 80 && k == 11)) mi mi' → mi' 0 80 11 = 0 → mi' 0 80 1 = -6 → Q (vI (-6)) mi' n mr)
    (hQ3 : 0 ≤ c → c ≤ 23 → mi 0 80 11 ≠ 0 → c + mi 0 80 11 ≤ 24 → ∀ mi', Ch (fun j k => pL j k || (j == 80 && k == 11)) mi mi' → mi' 0 80 11 = 0 → mi' 0 81 = (rowF (mi 0 86) c (mi 0 81) (mi 0 80 11).toNat).1 → (mi' 0 80 33 = 0 ∨ mi' 0 80 33 = mi 0 80 33 ∧ mi' 0 81 = mi 0 81) → mi' 0 80 1 = 0 → Q (vI (rowF (mi 0 86) c (mi 0 81) (mi 0 80 11).toNat).2) mi' n mr) : Tx (d+3) mt_X12_row [vR (some (0, 80)), vI c] mi n mr Q := by
  refine tx_intro (ls := [vR (some (0, 80)), vI c, vX 0, vX 0, vX 0, vX 0]) om_X12_row rfl (Nat.le_of_ble_eq_true rfl) ?_
  have e11 : up mi 0 80 0 0 0 80 11 = mi 0 80 11 := up_k (by decide)
  have h8 := hI.2.2.2.1
  have fin : ∀ (m1 : MI) (x3 x4 x5 : V), Ch (fun j k => pT j k || (j == 80 && k == 11)) mi m1 → m1 0 80 11 = 0 → 0 ≤ c → c ≤ 23 → (mi 0 80 11 = 0 ∨ 24 < c + mi 0 80 11) → Run (d+3) mt_X12_row Q (n, mr, 0, 0) m1 40 [vR (some (0, 80)), vI c, vI (mi 0 80 11), x3, x4, x5] [] := by
    intro m1 x3 x4 x5 g1 e1 hc0 hc1 hh
    refine r_aload_n (dc kc_X12_row_0 23 rfl) rfl <| k_b (dc kc_X12_row_0 24 rfl) rfl <| c_v1r (dc kc_X12_row_0 25 rfl) cl_X12_96 rfl (Nat.le_of_ble_eq_true rfl) (Nat.zero_le _) (Nat.zero_le _) <| t_tell <| s_ireturn (dc kc_X12_row_0 26 rfl) rfl (Nat.zero_le _) (Nat.zero_le _) ?_
    exact hQ2 hc0 hc1 hh _ (g1.up rfl) (by rw [up_k (by decide), e1]) up_at
  refine r_aload_n (dc kc_X12_row_0 0 rfl) rfl <| k_i (dc kc_X12_row_0 1 rfl) rfl <| s_putI (dc kc_X12_row_0 2 rfl) fl_X12_86 <| r_aload_n (dc kc_X12_row_0 3 rfl) rfl <| s_getI (dc kc_X12_row_0 4 rfl) fl_X12_137 <| t_i2 (dc kc_X12_row_0 5 rfl) (Nat.le_of_ble_eq_true rfl) rfl <| r_aload_n (dc kc_X12_row_0 6 rfl) rfl <| k_i (dc kc_X12_row_0 7 rfl) rfl <| s_putI (dc kc_X12_row_0 8 rfl) fl_X12_137 <| s_iload_n (dc kc_X12_row_0 9 rfl) rfl <| c_s1r (dc kc_X12_row_0 10 rfl) cl_X12_387 rfl (Nat.le_of_ble_eq_true rfl) (Nat.zero_le _) (Nat.zero_le _) <| t_isCell <| s_if_neb (tgt := 28) (dc kc_X12_row_0 11 rfl) rfl (fun c19 => (?_)) (fun c19 => (r_aload_n (dc kc_X12_row_0 12 rfl) rfl <| k_i (dc kc_X12_row_0 13 rfl) rfl <| c_v1r (dc kc_X12_row_0 14 rfl) cl_X12_96 rfl (Nat.le_of_ble_eq_true rfl) (Nat.zero_le _) (Nat.zero_le _) <| t_tell <| s_ireturn (dc kc_X12_row_0 15 rfl) rfl (Nat.zero_le _) (Nat.zero_le _) ?_))
  · rw [e11]
    have g2 : Ch (fun j k => pT j k || (j == 80 && k == 11)) mi (up (up mi 0 80 0 0) 0 80 11 0) := (Ch.rf.up rfl).up rfl
    have e2 : up (up mi 0 80 0 0) 0 80 11 0 0 80 11 = 0 := up_at
    have e81 : up (up mi 0 80 0 0) 0 80 11 0 0 81 = mi 0 81 := by rw [up_j (by decide), up_j (by decide)]
    have e86 : up (up mi 0 80 0 0) 0 80 11 0 0 86 = mi 0 86 := by rw [up_j (by decide), up_j (by decide)]
    have e33 : up (up mi 0 80 0 0) 0 80 11 0 0 80 33 = mi 0 80 33 := by rw [up_k (by decide), up_k (by decide)]
    generalize up (up mi 0 80 0 0) 0 80 11 0 = m2 at *
    have loop : mi 0 80 11 ≠ 0 → c + mi 0 80 11 ≤ 24 → ∀ i : Nat, i ≤ (mi 0 80 11).toNat → ∀ (m : MI) (x5 : V), Ch (fun j k => pL j k || (j == 80 && k == 11)) mi m → m 0 80 11 = 0 → m 0 86 = mi 0 86 → m 0 81 = (rowF (mi 0 86) c (mi 0 81) i).1 → (m 0 80 33 = 0 ∨ m 0 80 33 = mi 0 80 33 ∧ m 0 81 = mi 0 81) → Run (d+3) mt_X12_row Q (n, mr, 0, 0) m 52 [vR (some (0, 80)), vI c, vI (mi 0 80 11), vI (rowF (mi 0 86) c (mi 0 81) i).2, vI (i : Int), x5] [] := by
      intro hh hh2
      refine nloop ?_
      intro i hi ih m x5 g em em86 em81 em33
      have hn := rowF_n (t := mi 0 86) (c := c) (ρ := mi 0 81) i
      by_cases he : (i : Int) < mi 0 80 11
      · have key : ∀ v, v = (if mi 0 86 i = 255 then -1 else mi 0 86 i) → Run (d+3) mt_X12_row Q (n, mr, 0, 0) m 82 [vR (some (0, 80)), vI c, vI (mi 0 80 11), vI (rowF (mi 0 86) c (mi 0 81) i).2, vI (i : Int), x5] [vI v] := by
          intro v ev
          have h8' := rowF_8 (t := mi 0 86) h8.1 h8.2 c19.1 i
          refine t_i5 (dc kc_X12_row_1 6 rfl) (Nat.le_of_ble_eq_true rfl) rfl <| s_iload_n (dc kc_X12_row_1 7 rfl) rfl <| s_iload (dc kc_X12_row_1 8 rfl) rfl <| b_iadd (dc kc_X12_row_1 9 rfl) (by first | omega | (simp [up] <;> omega)) (by first | omega | (simp [up] <;> omega)) <| s_iload (dc kc_X12_row_1 10 rfl) rfl <| c_s2r (dc kc_X12_row_1 11 rfl) cl_X12_394 rfl (Nat.le_of_ble_eq_true rfl) (Nat.zero_le _) (Nat.zero_le _) <| t_canBe (by first | omega | (simp [up] <;> omega)) <| s_if_eq (tgt := 109) (dc kc_X12_row_1 12 rfl) rfl (fun c93 => (b_inc4 (dc kc_X12_row_1 20 rfl) rfl (Nat.le_of_ble_eq_true rfl) rfl (by first | omega | (simp [up] <;> omega)) (by first | omega | (simp [up] <;> omega)) <| s_goto (tgt := 52) (dc kc_X12_row_1 21 rfl) rfl <| ?_)) (fun c93 => (r_aload_n (dc kc_X12_row_1 13 rfl) rfl <| s_iload_n (dc kc_X12_row_1 14 rfl) rfl <| s_iload (dc kc_X12_row_1 15 rfl) rfl <| b_iadd (dc kc_X12_row_1 16 rfl) (by first | omega | (simp [up] <;> omega)) (by first | omega | (simp [up] <;> omega)) <| s_iload (dc kc_X12_row_1 17 rfl) rfl <| c_v2 (dc kc_X12_row_1 18 rfl) cl_X12_397 rfl (Nat.le_of_ble_eq_true rfl) (Nat.zero_le _) (Nat.zero_le _) ?_))
          · have e2' : rowF (mi 0 86) c (mi 0 81) (i + 1) = rowF (mi 0 86) c (mi 0 81) i := by rw [rowF, if_neg (by rw [← ev]; omega)]
            have := ih (by omega) m (vI v) g em em86 (by rw [em81, e2']) em33
            rw [e2'] at this
            exact this
          · have hb : biC (c + i) v = 1 := by have : biC (c + i) v = 0 ∨ biC (c + i) v = 1 := bi_01; omega
            refine t_flipCell hL (by rw [em81]; exact h8'.1) (by rw [em81]; exact h8'.2) (by omega) (by omega) (fun m3 g3 e3 f3 => ?_)
            have e2' : (rowF (mi 0 86) c (mi 0 81) (i + 1)) = (flipR (rowF (mi 0 86) c (mi 0 81) i).1 (c + i) v, (rowF (mi 0 86) c (mi 0 81) i).2 + 1) := by rw [rowF, if_pos (by rw [← ev]; exact hb), ← ev]
            refine b_inc3 (dc kc_X12_row_1 19 rfl) rfl (Nat.le_of_ble_eq_true rfl) rfl (by first | omega | (simp [up] <;> omega)) (by first | omega | (simp [up] <;> omega)) <| b_inc4 (dc kc_X12_row_1 20 rfl) rfl (Nat.le_of_ble_eq_true rfl) rfl (by first | omega | (simp [up] <;> omega)) (by first | omega | (simp [up] <;> omega)) <| s_goto (tgt := 52) (dc kc_X12_row_1 21 rfl) rfl <| ?_
            have := ih (by omega) m3 (vI v) (g.tr (g3.mono (fun j k z => by simp at z; unfold pL; simp; rcases z with z | z <;> simp [z]))) (by rw [g3.at (by decide), em]) (by rw [g3.row (fun _ => rfl), em86]) (by rw [e3, em81, e2']; rfl) (Or.inl f3)
            rw [e2'] at this
            exact this
        refine s_iload (dc kc_X12_row_0 31 rfl) rfl <| s_iload_n (dc kc_X12_row_0 32 rfl) rfl <| s_icmp_ge (tgt := 115) (dc kc_X12_row_0 33 rfl) rfl (fun c55 => (?_)) (fun c55 => (r_aload_n (dc kc_X12_row_0 34 rfl) rfl <| s_getA (dc kc_X12_row_0 35 rfl) fl_X12_26 (ly_80_10 hL) <| s_iload (dc kc_X12_row_0 36 rfl) rfl <| s_iaload (dc kc_X12_row_0 37 rfl) rfl (by first | omega | (simp [up] <;> omega)) (by first | omega | (simp [up] <;> omega)) <| k_s (dc kc_X12_row_0 38 rfl) rfl <| s_icmp_ne (tgt := 75) (dc kc_X12_row_0 39 rfl) rfl (fun c68 => (r_aload_n (dc kc_X12_row_1 2 rfl) rfl <| s_getA (dc kc_X12_row_1 3 rfl) fl_X12_26 (ly_80_10 hL) <| s_iload (dc kc_X12_row_1 4 rfl) rfl <| s_iaload (dc kc_X12_row_1 5 rfl) rfl (by first | omega | (simp [up] <;> omega)) (by first | omega | (simp [up] <;> omega)) <| ?_)) (fun c68 => (k_i (dc kc_X12_row_1 0 rfl) rfl <| s_goto (tgt := 82) (dc kc_X12_row_1 1 rfl) rfl <| ?_))))
        all_goals first | (exfalso; omega) | skip
        · rw [em86] at c68 ⊢
          exact key _ (by rw [if_neg c68])
        · rw [em86] at c68
          exact key _ (by rw [if_pos c68])
      · refine s_iload (dc kc_X12_row_0 31 rfl) rfl <| s_iload_n (dc kc_X12_row_0 32 rfl) rfl <| s_icmp_ge (tgt := 115) (dc kc_X12_row_0 33 rfl) rfl (fun c55 => (r_aload_n (dc kc_X12_row_1 22 rfl) rfl <| s_iload_n (dc kc_X12_row_1 23 rfl) rfl <| c_v1r (dc kc_X12_row_1 24 rfl) cl_X12_96 rfl (Nat.le_of_ble_eq_true rfl) (Nat.zero_le _) (Nat.zero_le _) <| t_tell <| s_ireturn (dc kc_X12_row_1 25 rfl) rfl (Nat.zero_le _) (Nat.zero_le _) ?_)) (fun c55 => (?_))
        · have hi' : i = (mi 0 80 11).toNat := by omega
          subst hi'
          refine hQ3 c19.1 c19.2 hh hh2 _ (g.up rfl) (by rw [up_k (by decide), em]) (by rw [up_j (by decide), em81]) ?_ (by rw [up_at, if_neg (by omega)])
          rw [up_k (by decide), up_j (by decide)]
          exact em33
        · exfalso; omega
    refine s_iload_n (dc kc_X12_row_0 16 rfl) rfl <| s_if_eq (tgt := 40) (dc kc_X12_row_0 17 rfl) rfl (fun c29 => (?_)) (fun c29 => (s_iload_n (dc kc_X12_row_0 18 rfl) rfl <| s_iload_n (dc kc_X12_row_0 19 rfl) rfl <| b_iadd (dc kc_X12_row_0 20 rfl) (by first | omega | (simp [up] <;> omega)) (by first | omega | (simp [up] <;> omega)) <| k_b (dc kc_X12_row_0 21 rfl) rfl <| s_icmp_le (tgt := 47) (dc kc_X12_row_0 22 rfl) rfl (fun c37 => (k_i (dc kc_X12_row_0 27 rfl) rfl <| t_i3 (dc kc_X12_row_0 28 rfl) (Nat.le_of_ble_eq_true rfl) rfl <| k_i (dc kc_X12_row_0 29 rfl) rfl <| t_i4 (dc kc_X12_row_0 30 rfl) (Nat.le_of_ble_eq_true rfl) rfl <| ?_)) (fun c37 => (?_))))
    · exact fin _ _ _ _ g2 e2 c19.1 c19.2 (Or.inl c29)
    · exact loop c29 (by omega) 0 (Nat.zero_le _) m2 _ (g2.mono (fun j k z => by simp [pT, pL] at z ⊢; rcases z with z | z <;> simp [z])) e2 e86 e81 (Or.inr ⟨e33, e81⟩)
    · exact fin _ _ _ _ g2 e2 c19.1 c19.2 (Or.inr (by omega))
  · exact hQ1 c19 _ (((Ch.rf.up rfl).up rfl).up rfl) (by rw [up_k (by decide), up_at]) up_at
theorem t_copy (hL : Lay G mr) {mi : MI} (hQ : ∀ mi', Ch pL mi mi' → mi' 0 81 = ud (cpF (mi 0 81) (mi 0 81) 78 30 24) 14 1 → mi' 0 80 1 = mi 0 80 1 → mi' 0 80 33 = 0 → Q (vI 0) mi' n mr) : Tx (d+1) mt_X12_copy [vR (some (0, 80))] mi n mr Q := by
  refine tx_intro (ls := [vR (some (0, 80)), vX 0]) om_X12_copy rfl (Nat.le_of_ble_eq_true rfl) ?_
  have loop : ∀ i : Nat, i ≤ 24 → ∀ m : MI, Ch pL mi m → m 0 80 1 = mi 0 80 1 → m 0 81 = cpF (mi 0 81) (mi 0 81) 78 30 i → Run (d+1) mt_X12_copy Q (n, mr, 0, 0) m 7 [vR (some (0, 80)), vI (i : Int)] [] := by
    refine nloop ?_
    intro i hi ih m g e1 em
    by_cases he : i < 24
    · refine s_iload_n (dc kc_X12_copy 5 rfl) rfl <| k_b (dc kc_X12_copy 6 rfl) rfl <| s_icmp_ge (tgt := 37) (dc kc_X12_copy 7 rfl) rfl (fun c10 => (?_)) (fun c10 => (r_aload_n (dc kc_X12_copy 8 rfl) rfl <| s_getA (dc kc_X12_copy 9 rfl) fl_X12_7 (ly_80_2 hL) <| k_b (dc kc_X12_copy 10 rfl) rfl <| s_iload_n (dc kc_X12_copy 11 rfl) rfl <| b_iadd (dc kc_X12_copy 12 rfl) (by first | omega | (simp [up] <;> omega)) (by first | omega | (simp [up] <;> omega)) <| r_aload_n (dc kc_X12_copy 13 rfl) rfl <| s_getA (dc kc_X12_copy 14 rfl) fl_X12_7 (ly_80_2 hL) <| k_b (dc kc_X12_copy 15 rfl) rfl <| s_iload_n (dc kc_X12_copy 16 rfl) rfl <| b_iadd (dc kc_X12_copy 17 rfl) (by first | omega | (simp [up] <;> omega)) (by first | omega | (simp [up] <;> omega)) <| s_iaload (dc kc_X12_copy 18 rfl) rfl (by first | omega | (simp [up] <;> omega)) (by first | omega | (simp [up] <;> omega)) <| s_iastore (dc kc_X12_copy 19 rfl) rfl (by first | omega | (simp [up] <;> omega)) (by first | omega | (simp [up] <;> omega)) <| b_inc1 (dc kc_X12_copy 20 rfl) rfl (Nat.le_of_ble_eq_true rfl) rfl (by first | omega | (simp [up] <;> omega)) (by first | omega | (simp [up] <;> omega)) <| s_goto (tgt := 7) (dc kc_X12_copy 21 rfl) rfl <| ?_))
      · exfalso; omega
      · refine ih he _ (g.up rfl) (by rw [up_j (by decide), e1]) ?_
        rw [up_ud, em, show ((i + 1 : Nat) : Int) = (i : Int) + 1 by omega]
        exact cpF_s (by omega) (cpF_off (by omega))
    · have : i = 24 := by omega
      subst this
      refine s_iload_n (dc kc_X12_copy 5 rfl) rfl <| k_b (dc kc_X12_copy 6 rfl) rfl <| s_icmp_ge (tgt := 37) (dc kc_X12_copy 7 rfl) rfl (fun c10 => (r_aload_n (dc kc_X12_copy 22 rfl) rfl <| s_getA (dc kc_X12_copy 23 rfl) fl_X12_7 (ly_80_2 hL) <| k_b (dc kc_X12_copy 24 rfl) rfl <| k_i (dc kc_X12_copy 25 rfl) rfl <| s_iastore (dc kc_X12_copy 26 rfl) rfl (by first | omega | (simp [up] <;> omega)) (by first | omega | (simp [up] <;> omega)) <| r_aload_n (dc kc_X12_copy 27 rfl) rfl <| k_i (dc kc_X12_copy 28 rfl) rfl <| s_putI (dc kc_X12_copy 29 rfl) fl_X12_100 <| k_i (dc kc_X12_copy 30 rfl) rfl <| s_ireturn (dc kc_X12_copy 31 rfl) rfl (Nat.zero_le _) (Nat.zero_le _) ?_)) (fun c10 => (?_))
      · refine hQ _ ((g.up rfl).up rfl) ?_ (by rw [up_k (by decide), up_j (by decide), e1]) up_at
        rw [up_j (by decide), up_ud, em]
        rfl
      · exfalso; omega
  refine r_aload_n (dc kc_X12_copy 0 rfl) rfl <| k_i (dc kc_X12_copy 1 rfl) rfl <| s_putI (dc kc_X12_copy 2 rfl) fl_X12_86 <| k_i (dc kc_X12_copy 3 rfl) rfl <| t_i1 (dc kc_X12_copy 4 rfl) (Nat.le_of_ble_eq_true rfl) rfl <| ?_
  exact loop 0 (Nat.zero_le _) _ (Ch.rf.up rfl) (by rw [up_k (by decide)]) (by rw [up_j (by decide)]; exact cpF_0.symm)
theorem t_image (hL : Lay G mr) {mi : MI} {q : Int} (hQ1 : ¬ (0 ≤ q ∧ q ≤ 1) → ∀ mi', Ch pT mi mi' → mi' 0 80 1 = -1 → Q (vI (-1)) mi' n mr) (hQ2 : 0 ≤ q → q ≤ 1 → ∀ mi', Ch pI mi mi' → mi' 0 80 1 = 0 → mi' 0 83 = cpF (mi 0 83) (mi 0 81) (3886 * q) 0 3886 → mi' 0 84 = ud (mi 0 84) q 1 → Q (vI 0) mi' n mr) : Tx (d+2) mt_X12_image [vR (some (0, 80)), vI q] mi n mr Q := by
  refine tx_intro (ls := [vR (some (0, 80)), vI q, vX 0]) om_X12_image rfl (Nat.le_of_ble_eq_true rfl) ?_
  refine r_aload_n (dc kc_X12_image_0 0 rfl) rfl <| k_i (dc kc_X12_image_0 1 rfl) rfl <| s_putI (dc kc_X12_image_0 2 rfl) fl_X12_86 <| s_iload_n (dc kc_X12_image_0 3 rfl) rfl <| s_i2l (dc kc_X12_image_0 4 rfl) <| s_lconst0 (dc kc_X12_image_0 5 rfl) <| s_lconst1 (dc kc_X12_image_0 6 rfl) <| c_s3r (dc kc_X12_image_0 7 rfl) cl_X12_92 rfl (Nat.le_of_ble_eq_true rfl) (Nat.zero_le _) (Nat.zero_le _) <| t_in <| s_if_neb (tgt := 21) (dc kc_X12_image_0 8 rfl) rfl (fun c12 => (k_i (dc kc_X12_image_0 13 rfl) rfl <| t_i2 (dc kc_X12_image_0 14 rfl) (Nat.le_of_ble_eq_true rfl) rfl <| ?_)) (fun c12 => (r_aload_n (dc kc_X12_image_0 9 rfl) rfl <| k_i (dc kc_X12_image_0 10 rfl) rfl <| c_v1r (dc kc_X12_image_0 11 rfl) cl_X12_96 rfl (Nat.le_of_ble_eq_true rfl) (Nat.zero_le _) (Nat.zero_le _) <| t_tell <| s_ireturn (dc kc_X12_image_0 12 rfl) rfl (Nat.zero_le _) (Nat.zero_le _) ?_))
  · have loop : ∀ i : Nat, i ≤ 3886 → ∀ m : MI, Ch pI mi m → m 0 84 = mi 0 84 → m 0 83 = cpF (mi 0 83) (mi 0 81) (3886 * q) 0 i → Run (d+2) mt_X12_image Q (n, mr, 0, 0) m 23 [vR (some (0, 80)), vI q, vI (i : Int)] [] := by
      refine nloop ?_
      intro i hi ih m g e84 em
      by_cases he : i < 3886
      · refine s_iload_n (dc kc_X12_image_0 15 rfl) rfl <| k_s (dc kc_X12_image_0 16 rfl) rfl <| s_icmp_ge (tgt := 54) (dc kc_X12_image_0 17 rfl) rfl (fun c27 => (?_)) (fun c27 => (r_aload_n (dc kc_X12_image_0 18 rfl) rfl <| s_getA (dc kc_X12_image_0 19 rfl) fl_X12_16 (ly_80_4 hL) <| k_s (dc kc_X12_image_0 20 rfl) rfl <| s_iload_n (dc kc_X12_image_0 21 rfl) rfl <| b_imul (dc kc_X12_image_0 22 rfl) (by first | omega | (simp [up] <;> omega)) (by first | omega | (simp [up] <;> omega)) <| s_iload_n (dc kc_X12_image_0 23 rfl) rfl <| b_iadd (dc kc_X12_image_0 24 rfl) (by first | omega | (simp [up] <;> omega)) (by first | omega | (simp [up] <;> omega)) <| r_aload_n (dc kc_X12_image_0 25 rfl) rfl <| s_getA (dc kc_X12_image_0 26 rfl) fl_X12_7 (ly_80_2 hL) <| s_iload_n (dc kc_X12_image_0 27 rfl) rfl <| s_iaload (dc kc_X12_image_0 28 rfl) rfl (by first | omega | (simp [up] <;> omega)) (by first | omega | (simp [up] <;> omega)) <| s_iastore (dc kc_X12_image_0 29 rfl) rfl (by first | omega | (simp [up] <;> omega)) (by first | omega | (simp [up] <;> omega)) <| b_inc2 (dc kc_X12_image_0 30 rfl) rfl (Nat.le_of_ble_eq_true rfl) rfl (by first | omega | (simp [up] <;> omega)) (by first | omega | (simp [up] <;> omega)) <| s_goto (tgt := 23) (dc kc_X12_image_0 31 rfl) rfl <| ?_))
        · exfalso; omega
        · refine ih he _ (g.up rfl) (by rw [up_j (by decide), e84]) ?_
          rw [up_ud, em, g.at rfl, show ((i + 1 : Nat) : Int) = (i : Int) + 1 by omega]
          exact cpF_s (by omega) (by rw [Int.zero_add])
      · have : i = 3886 := by omega
        subst this
        refine s_iload_n (dc kc_X12_image_0 15 rfl) rfl <| k_s (dc kc_X12_image_0 16 rfl) rfl <| s_icmp_ge (tgt := 54) (dc kc_X12_image_0 17 rfl) rfl (fun c27 => (r_aload_n (dc kc_X12_image_0 32 rfl) rfl <| s_getA (dc kc_X12_image_0 33 rfl) fl_X12_19 (ly_80_5 hL) <| s_iload_n (dc kc_X12_image_0 34 rfl) rfl <| k_i (dc kc_X12_image_0 35 rfl) rfl <| s_bastore (dc kc_X12_image_0 36 rfl) rfl (by first | omega | (simp [up] <;> omega)) (by first | omega | (simp [up] <;> omega)) (Or.inr rfl) <| r_aload_n (dc kc_X12_image_0 37 rfl) rfl <| k_i (dc kc_X12_image_0 38 rfl) rfl <| c_v1r (dc kc_X12_image_0 39 rfl) cl_X12_96 rfl (Nat.le_of_ble_eq_true rfl) (Nat.zero_le _) (Nat.zero_le _) <| t_tell <| s_ireturn (dc kc_X12_image_1 0 rfl) rfl (Nat.zero_le _) (Nat.zero_le _) ?_)) (fun c27 => (?_))
        · refine hQ2 c12.1 c12.2 _ ((g.up rfl).up rfl) up_at ?_ (by rw [up_j (by decide), up_ud, e84])
          rw [up_j (by decide), up_j (by decide), em]
          rfl
        · exfalso; omega
    exact loop 0 (Nat.zero_le _) _ (Ch.rf.up rfl) (by rw [up_j (by decide)]) (by rw [up_j (by decide)]; exact cpF_0.symm)
  · exact hQ1 c12 _ ((Ch.rf.up rfl).up rfl) up_at
theorem t_back (hL : Lay G mr) {mi : MI} {q : Int} (hQ1 : ¬ (0 ≤ q ∧ q ≤ 1) → ∀ mi', Ch pT mi mi' → mi' 0 80 1 = -1 → Q (vI (-1)) mi' n mr) (hQ2 : 0 ≤ q → q ≤ 1 → mi 0 84 q = 0 → ∀ mi', Ch pT mi mi' → mi' 0 80 1 = -2 → Q (vI (-2)) mi' n mr) (hQ3 : 0 ≤ q → q ≤ 1 → mi 0 84 q ≠ 0 → ∀ mi', Ch pL mi mi' → mi' 0 80 1 = 0 → mi' 0 80 33 = 0 → mi' 0 81 = cpF (mi 0 81) (mi 0 83) 0 (3886 * q) 3886 → Q (vI 0) mi' n mr) : Tx (d+2) mt_X12_back [vR (some (0, 80)), vI q] mi n mr Q := by
  refine tx_intro (ls := [vR (some (0, 80)), vI q, vX 0]) om_X12_back rfl (Nat.le_of_ble_eq_true rfl) ?_
  refine r_aload_n (dc kc_X12_back_0 0 rfl) rfl <| k_i (dc kc_X12_back_0 1 rfl) rfl <| s_putI (dc kc_X12_back_0 2 rfl) fl_X12_86 <| s_iload_n (dc kc_X12_back_0 3 rfl) rfl <| s_i2l (dc kc_X12_back_0 4 rfl) <| s_lconst0 (dc kc_X12_back_0 5 rfl) <| s_lconst1 (dc kc_X12_back_0 6 rfl) <| c_s3r (dc kc_X12_back_0 7 rfl) cl_X12_92 rfl (Nat.le_of_ble_eq_true rfl) (Nat.zero_le _) (Nat.zero_le _) <| t_in <| s_if_neb (tgt := 21) (dc kc_X12_back_0 8 rfl) rfl (fun c12 => (r_aload_n (dc kc_X12_back_0 13 rfl) rfl <| s_getA (dc kc_X12_back_0 14 rfl) fl_X12_19 (ly_80_5 hL) <| s_iload_n (dc kc_X12_back_0 15 rfl) rfl <| s_baload (dc kc_X12_back_0 16 rfl) rfl (by first | omega | (simp [up] <;> omega)) (by first | omega | (simp [up] <;> omega)) <| s_if_ne (tgt := 37) (dc kc_X12_back_0 17 rfl) rfl (fun c27 => (k_i (dc kc_X12_back_0 22 rfl) rfl <| t_i2 (dc kc_X12_back_0 23 rfl) (Nat.le_of_ble_eq_true rfl) rfl <| ?_)) (fun c27 => (r_aload_n (dc kc_X12_back_0 18 rfl) rfl <| k_b (dc kc_X12_back_0 19 rfl) rfl <| c_v1r (dc kc_X12_back_0 20 rfl) cl_X12_96 rfl (Nat.le_of_ble_eq_true rfl) (Nat.zero_le _) (Nat.zero_le _) <| t_tell <| s_ireturn (dc kc_X12_back_0 21 rfl) rfl (Nat.zero_le _) (Nat.zero_le _) ?_)))) (fun c12 => (r_aload_n (dc kc_X12_back_0 9 rfl) rfl <| k_i (dc kc_X12_back_0 10 rfl) rfl <| c_v1r (dc kc_X12_back_0 11 rfl) cl_X12_96 rfl (Nat.le_of_ble_eq_true rfl) (Nat.zero_le _) (Nat.zero_le _) <| t_tell <| s_ireturn (dc kc_X12_back_0 12 rfl) rfl (Nat.zero_le _) (Nat.zero_le _) ?_))
  · rw [up_j (by decide)] at c27
    have loop : ∀ i : Nat, i ≤ 3886 → ∀ m : MI, Ch pL mi m → m 0 81 = cpF (mi 0 81) (mi 0 83) 0 (3886 * q) i → Run (d+2) mt_X12_back Q (n, mr, 0, 0) m 39 [vR (some (0, 80)), vI q, vI (i : Int)] [] := by
      refine nloop ?_
      intro i hi ih m g em
      by_cases he : i < 3886
      · refine s_iload_n (dc kc_X12_back_0 24 rfl) rfl <| k_s (dc kc_X12_back_0 25 rfl) rfl <| s_icmp_ge (tgt := 70) (dc kc_X12_back_0 26 rfl) rfl (fun c43 => (?_)) (fun c43 => (r_aload_n (dc kc_X12_back_0 27 rfl) rfl <| s_getA (dc kc_X12_back_0 28 rfl) fl_X12_7 (ly_80_2 hL) <| s_iload_n (dc kc_X12_back_0 29 rfl) rfl <| r_aload_n (dc kc_X12_back_0 30 rfl) rfl <| s_getA (dc kc_X12_back_0 31 rfl) fl_X12_16 (ly_80_4 hL) <| k_s (dc kc_X12_back_0 32 rfl) rfl <| s_iload_n (dc kc_X12_back_0 33 rfl) rfl <| b_imul (dc kc_X12_back_0 34 rfl) (by first | omega | (simp [up] <;> omega)) (by first | omega | (simp [up] <;> omega)) <| s_iload_n (dc kc_X12_back_0 35 rfl) rfl <| b_iadd (dc kc_X12_back_0 36 rfl) (by first | omega | (simp [up] <;> omega)) (by first | omega | (simp [up] <;> omega)) <| s_iaload (dc kc_X12_back_0 37 rfl) rfl (by first | omega | (simp [up] <;> omega)) (by first | omega | (simp [up] <;> omega)) <| s_iastore (dc kc_X12_back_0 38 rfl) rfl (by first | omega | (simp [up] <;> omega)) (by first | omega | (simp [up] <;> omega)) <| b_inc2 (dc kc_X12_back_0 39 rfl) rfl (Nat.le_of_ble_eq_true rfl) rfl (by first | omega | (simp [up] <;> omega)) (by first | omega | (simp [up] <;> omega)) <| s_goto (tgt := 39) (dc kc_X12_back_1 0 rfl) rfl <| ?_))
        · exfalso; omega
        · refine ih he _ (g.up rfl) ?_
          rw [up_ud, em, g.at rfl, show ((i + 1 : Nat) : Int) = (i : Int) + 1 by omega]
          have := cpF_s (f := mi 0 81) (g := mi 0 83) (a := 0) (b := 3886 * q) (N := i) (by omega) rfl
          rw [Int.zero_add] at this
          exact this
      · have : i = 3886 := by omega
        subst this
        refine s_iload_n (dc kc_X12_back_0 24 rfl) rfl <| k_s (dc kc_X12_back_0 25 rfl) rfl <| s_icmp_ge (tgt := 70) (dc kc_X12_back_0 26 rfl) rfl (fun c43 => (r_aload_n (dc kc_X12_back_1 1 rfl) rfl <| k_i (dc kc_X12_back_1 2 rfl) rfl <| s_putI (dc kc_X12_back_1 3 rfl) fl_X12_100 <| r_aload_n (dc kc_X12_back_1 4 rfl) rfl <| k_i (dc kc_X12_back_1 5 rfl) rfl <| c_v1r (dc kc_X12_back_1 6 rfl) cl_X12_96 rfl (Nat.le_of_ble_eq_true rfl) (Nat.zero_le _) (Nat.zero_le _) <| t_tell <| s_ireturn (dc kc_X12_back_1 7 rfl) rfl (Nat.zero_le _) (Nat.zero_le _) ?_)) (fun c43 => (?_))
        · refine hQ3 c12.1 c12.2 c27 _ ((g.up rfl).up rfl) up_at (by rw [up_k (by decide), up_at]) ?_
          rw [up_j (by decide), up_j (by decide), em]
          rfl
        · exfalso; omega
    exact loop 0 (Nat.zero_le _) _ (Ch.rf.up rfl) (by rw [up_j (by decide)]; exact cpF_0.symm)
  · rw [up_j (by decide)] at c27
    exact hQ2 c12.1 c12.2 c27 _ ((Ch.rf.up rfl).up rfl) up_at
  · exact hQ1 c12 _ ((Ch.rf.up rfl).up rfl) up_at
theorem t_spread (hL : Lay G mr) {mi : MI} {c s : Int} (hI : Inv0 (mi 0 81)) (hQ : ∀ mi', Ch p0 mi mi' → Q (vI (if (0 ≤ c ∧ c ≤ 23) ∧ (0 ≤ s ∧ s < mi 0 81 0) ∧ mi 0 81 20 < s then sprF (mi 0 81) s c (mi 0 81 8).toNat else -1)) mi' n mr) : Tx (d+3) mt_X12_spread [vR (some (0, 80)), vI c, vI s] mi n mr Q := by
  refine tx_intro (ls := [vR (some (0, 80)), vI c, vI s, vX 0, vX 0, vX 0, vX 0]) om_X12_spread rfl (Nat.le_of_ble_eq_true rfl) ?_
  have h0 := hI.2.1
  have h8 := hI.2.2.2.1
  have hq := hQ _ (Ch.rf.up (j := 80) (k := 0) (v := 0) rfl)
  have e81 : up mi 0 80 0 0 0 81 = mi 0 81 := up_j (by decide)
  refine r_aload_n (dc kc_X12_spread_0 0 rfl) rfl <| k_i (dc kc_X12_spread_0 1 rfl) rfl <| s_putI (dc kc_X12_spread_0 2 rfl) fl_X12_86 <| s_iload_n (dc kc_X12_spread_0 3 rfl) rfl <| c_s1r (dc kc_X12_spread_0 4 rfl) cl_X12_387 rfl (Nat.le_of_ble_eq_true rfl) (Nat.zero_le _) (Nat.zero_le _) <| t_isCell <| s_if_eqb (tgt := 31) (dc kc_X12_spread_0 5 rfl) rfl (fun c9 => (k_i (dc kc_X12_spread_0 16 rfl) rfl <| s_ireturn (dc kc_X12_spread_0 17 rfl) rfl (Nat.zero_le _) (Nat.zero_le _) ?_)) (fun c9 => (r_aload_n (dc kc_X12_spread_0 6 rfl) rfl <| s_iload_n (dc kc_X12_spread_0 7 rfl) rfl <| c_v1r (dc kc_X12_spread_0 8 rfl) cl_X12_509 rfl (Nat.le_of_ble_eq_true rfl) (Nat.zero_le _) (Nat.zero_le _) <| t_isStep hL (by first | omega | (simp [up] <;> omega)) (by first | omega | (simp [up] <;> omega)) <| s_if_eqb (tgt := 31) (dc kc_X12_spread_0 9 rfl) rfl (fun c17 => (k_i (dc kc_X12_spread_0 16 rfl) rfl <| s_ireturn (dc kc_X12_spread_0 17 rfl) rfl (Nat.zero_le _) (Nat.zero_le _) ?_)) (fun c17 => (r_aload_n (dc kc_X12_spread_0 10 rfl) rfl <| s_getA (dc kc_X12_spread_0 11 rfl) fl_X12_7 (ly_80_2 hL) <| k_b (dc kc_X12_spread_0 12 rfl) rfl <| s_iaload (dc kc_X12_spread_0 13 rfl) rfl (by first | omega | (simp [up] <;> omega)) (by first | omega | (simp [up] <;> omega)) <| s_iload_n (dc kc_X12_spread_0 14 rfl) rfl <| s_icmp_lt (tgt := 33) (dc kc_X12_spread_0 15 rfl) rfl (fun c28 => (k_i (dc kc_X12_spread_0 18 rfl) rfl <| s_iload_n (dc kc_X12_spread_0 19 rfl) rfl <| s_ishl (dc kc_X12_spread_0 20 rfl) <| t_i3 (dc kc_X12_spread_0 21 rfl) (Nat.le_of_ble_eq_true rfl) rfl <| k_i (dc kc_X12_spread_0 22 rfl) rfl <| t_i4 (dc kc_X12_spread_0 23 rfl) (Nat.le_of_ble_eq_true rfl) rfl <| ?_)) (fun c28 => (k_i (dc kc_X12_spread_0 16 rfl) rfl <| s_ireturn (dc kc_X12_spread_0 17 rfl) rfl (Nat.zero_le _) (Nat.zero_le _) ?_))))))
  · rw [if_neg (fun z => c9 z.1)] at hq; exact hq
  · rw [e81] at c17; rw [if_neg (fun z => c17 z.2.1)] at hq; exact hq
  · rw [e81] at c17 c28
    rw [if_pos ⟨c9, c17, c28⟩] at hq
    have loop : ∀ i : Nat, i ≤ (mi 0 81 8).toNat → ∀ x5 x6 : V, Run (d+3) mt_X12_spread Q (n, mr, 0, 0) (up mi 0 80 0 0) 40 [vR (some (0, 80)), vI c, vI s, vI (sprF (mi 0 81) s c i), vI (i : Int), x5, x6] [] := by
      refine nloop ?_
      intro i hi ih x5 x6
      have e8 : up mi 0 80 0 0 0 81 8 = mi 0 81 8 := by rw [e81]
      by_cases he : (i : Int) < mi 0 81 8
      · have key : ∀ b x5 x6, b = sprF (mi 0 81) s c (i + 1) → Run (d+3) mt_X12_spread Q (n, mr, 0, 0) (up mi 0 80 0 0) 130 [vR (some (0, 80)), vI c, vI s, vI b, vI (i : Int), x5, x6] [] := by
          intro b x5 x6 eb
          subst eb
          refine b_inc4 (dc kc_X12_spread_1 39 rfl) rfl (Nat.le_of_ble_eq_true rfl) rfl (by first | omega | (simp [up] <;> omega)) (by first | omega | (simp [up] <;> omega)) <| s_goto (tgt := 40) (dc kc_X12_spread_2 0 rfl) rfl <| ?_
          exact ih (by omega) _ _
        refine s_iload (dc kc_X12_spread_0 24 rfl) rfl <| r_aload_n (dc kc_X12_spread_0 25 rfl) rfl <| s_getA (dc kc_X12_spread_0 26 rfl) fl_X12_7 (ly_80_2 hL) <| k_b (dc kc_X12_spread_0 27 rfl) rfl <| s_iaload (dc kc_X12_spread_0 28 rfl) rfl (by first | omega | (simp [up] <;> omega)) (by first | omega | (simp [up] <;> omega)) <| s_icmp_ge (tgt := 136) (dc kc_X12_spread_0 29 rfl) rfl (fun c49 => (?_)) (fun c49 => (k_s (dc kc_X12_spread_0 30 rfl) rfl <| k_b (dc kc_X12_spread_0 31 rfl) rfl <| s_iload (dc kc_X12_spread_0 32 rfl) rfl <| b_imul (dc kc_X12_spread_0 33 rfl) (by first | omega | (simp [up] <;> omega)) (by first | omega | (simp [up] <;> omega)) <| b_iadd (dc kc_X12_spread_0 34 rfl) (by first | omega | (simp [up] <;> omega)) (by first | omega | (simp [up] <;> omega)) <| t_i5 (dc kc_X12_spread_0 35 rfl) (Nat.le_of_ble_eq_true rfl) rfl <| r_aload_n (dc kc_X12_spread_0 36 rfl) rfl <| s_getA (dc kc_X12_spread_0 37 rfl) fl_X12_7 (ly_80_2 hL) <| s_iload (dc kc_X12_spread_0 38 rfl) rfl <| s_iaload (dc kc_X12_spread_0 39 rfl) rfl (by first | omega | (simp [up] <;> omega)) (by first | omega | (simp [up] <;> omega)) <| s_iload_n (dc kc_X12_spread_1 0 rfl) rfl <| s_icmp_lt (tgt := 130) (dc kc_X12_spread_1 1 rfl) rfl (fun c71 => (?_)) (fun c71 => (r_aload_n (dc kc_X12_spread_1 2 rfl) rfl <| s_getA (dc kc_X12_spread_1 3 rfl) fl_X12_7 (ly_80_2 hL) <| s_iload (dc kc_X12_spread_1 4 rfl) rfl <| k_i (dc kc_X12_spread_1 5 rfl) rfl <| b_iadd (dc kc_X12_spread_1 6 rfl) (by first | omega | (simp [up] <;> omega)) (by first | omega | (simp [up] <;> omega)) <| s_iaload (dc kc_X12_spread_1 7 rfl) rfl (by first | omega | (simp [up] <;> omega)) (by first | omega | (simp [up] <;> omega)) <| t_i6 (dc kc_X12_spread_1 8 rfl) (Nat.le_of_ble_eq_true rfl) rfl <| r_aload_n (dc kc_X12_spread_1 9 rfl) rfl <| s_getA (dc kc_X12_spread_1 10 rfl) fl_X12_7 (ly_80_2 hL) <| s_iload (dc kc_X12_spread_1 11 rfl) rfl <| k_i (dc kc_X12_spread_1 12 rfl) rfl <| b_iadd (dc kc_X12_spread_1 13 rfl) (by first | omega | (simp [up] <;> omega)) (by first | omega | (simp [up] <;> omega)) <| s_iaload (dc kc_X12_spread_1 14 rfl) rfl (by first | omega | (simp [up] <;> omega)) (by first | omega | (simp [up] <;> omega)) <| s_if_lt (tgt := 121) (dc kc_X12_spread_1 15 rfl) rfl (fun c94 => (s_iload_n (dc kc_X12_spread_1 31 rfl) rfl <| k_i (dc kc_X12_spread_1 32 rfl) rfl <| s_iload (dc kc_X12_spread_1 33 rfl) rfl <| s_ishl (dc kc_X12_spread_1 34 rfl) <| k_i (dc kc_X12_spread_1 35 rfl) rfl <| s_ixor (dc kc_X12_spread_1 36 rfl) <| s_iand (dc kc_X12_spread_1 37 rfl) <| t_i3 (dc kc_X12_spread_1 38 rfl) (Nat.le_of_ble_eq_true rfl) rfl <| ?_)) (fun c94 => (r_aload_n (dc kc_X12_spread_1 16 rfl) rfl <| s_getA (dc kc_X12_spread_1 17 rfl) fl_X12_7 (ly_80_2 hL) <| s_iload (dc kc_X12_spread_1 18 rfl) rfl <| k_b (dc kc_X12_spread_1 19 rfl) rfl <| b_iadd (dc kc_X12_spread_1 20 rfl) (by first | omega | (simp [up] <;> omega)) (by first | omega | (simp [up] <;> omega)) <| s_iaload (dc kc_X12_spread_1 21 rfl) rfl (by first | omega | (simp [up] <;> omega)) (by first | omega | (simp [up] <;> omega)) <| s_iload_n (dc kc_X12_spread_1 22 rfl) rfl <| s_iand (dc kc_X12_spread_1 23 rfl) <| s_if_eq (tgt := 121) (dc kc_X12_spread_1 24 rfl) rfl (fun c109 => (s_iload_n (dc kc_X12_spread_1 31 rfl) rfl <| k_i (dc kc_X12_spread_1 32 rfl) rfl <| s_iload (dc kc_X12_spread_1 33 rfl) rfl <| s_ishl (dc kc_X12_spread_1 34 rfl) <| k_i (dc kc_X12_spread_1 35 rfl) rfl <| s_ixor (dc kc_X12_spread_1 36 rfl) <| s_iand (dc kc_X12_spread_1 37 rfl) <| t_i3 (dc kc_X12_spread_1 38 rfl) (Nat.le_of_ble_eq_true rfl) rfl <| ?_)) (fun c109 => (s_iload_n (dc kc_X12_spread_1 25 rfl) rfl <| k_i (dc kc_X12_spread_1 26 rfl) rfl <| s_iload (dc kc_X12_spread_1 27 rfl) rfl <| s_ishl (dc kc_X12_spread_1 28 rfl) <| s_ior (dc kc_X12_spread_1 29 rfl) <| s_goto (tgt := 129) (dc kc_X12_spread_1 30 rfl) rfl <| t_i3 (dc kc_X12_spread_1 38 rfl) (Nat.le_of_ble_eq_true rfl) rfl <| ?_))))))))
        all_goals first | (exfalso; omega) | skip
        all_goals rw [e81] at c71
        · exact key _ _ _ (by rw [sprF, if_neg (by omega)])
        all_goals rw [e81] at c94
        · rw [e81]
          exact key _ _ _ (by rw [sprF, if_pos (by omega), if_neg (fun z => by omega)])
        all_goals rw [e81] at c109
        · rw [e81]
          exact key _ _ _ (by rw [sprF, if_pos (by omega), if_neg (fun z => z.2 c109)])
        · rw [e81]
          exact key _ _ _ (by rw [sprF, if_pos (by omega), if_pos ⟨by omega, c109⟩])
      · refine s_iload (dc kc_X12_spread_0 24 rfl) rfl <| r_aload_n (dc kc_X12_spread_0 25 rfl) rfl <| s_getA (dc kc_X12_spread_0 26 rfl) fl_X12_7 (ly_80_2 hL) <| k_b (dc kc_X12_spread_0 27 rfl) rfl <| s_iaload (dc kc_X12_spread_0 28 rfl) rfl (by first | omega | (simp [up] <;> omega)) (by first | omega | (simp [up] <;> omega)) <| s_icmp_ge (tgt := 136) (dc kc_X12_spread_0 29 rfl) rfl (fun c49 => (s_iload_n (dc kc_X12_spread_2 1 rfl) rfl <| s_ireturn (dc kc_X12_spread_2 2 rfl) rfl (Nat.zero_le _) (Nat.zero_le _) ?_)) (fun c49 => (?_))
        · rw [show i = (mi 0 81 8).toNat by omega]; exact hq
        · exfalso; omega
    exact loop 0 (Nat.zero_le _) _ _
  · rw [e81] at c28; rw [if_neg (fun z => by omega)] at hq; exact hq
end PUB3
