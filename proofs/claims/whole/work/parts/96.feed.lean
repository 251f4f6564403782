/-! the class: feed -/
def pFd (a b : Nat) (k : Int) : Bool := a == 0 && (b == 1 || (b == 0 && k == 1))
section FEE
variable {d n G : Nat} {mr : MR} {Q : V → MI → Nat → MR → Prop}
theorem u_feedFour (hL : Lay G mr) {mi : MI} {v : Int} (h0 : 0 ≤ mi 0 0 1) (h1 : mi 0 0 1 + 4 ≤ 400) (hQ : ∀ mi', Cg pFd mi mi' → mi' 0 1 = put4 (mi 0 1) (mi 0 0 1) v → mi' 0 0 1 = mi 0 0 1 + 4 → Q (vX 0) mi' n mr) : Tx (d+1) mt_X11_feedFour [vR (some (0, 0)), vI v] mi n mr Q := by
  refine tx_intro (ls := [vR (some (0, 0)), vI v, vX 0]) om_X11_feedFour rfl (Nat.le_of_ble_eq_true rfl) ?_
  refine k_b (dc kc_X11_feedFour 0 rfl) rfl <| t_i2 (dc kc_X11_feedFour 1 rfl) (Nat.le_of_ble_eq_true rfl) rfl <| ?_
  have one : ∀ (mi : MI) (s : Int), 0 ≤ s → s ≤ 24 → 0 ≤ mi 0 0 1 → mi 0 0 1 < 400 → (∀ mi', Cg pFd mi mi' → mi' 0 1 = ud (mi 0 1) (mi 0 0 1) (bAnd (bShr v s) 255) → mi' 0 0 1 = mi 0 0 1 + 1 → Run (d+1) mt_X11_feedFour Q (n, mr, 0, 0) mi' 3 [vR (some (0, 0)), vI v, vI (s + (-8))] []) → Run (d+1) mt_X11_feedFour Q (n, mr, 0, 0) mi 3 [vR (some (0, 0)), vI v, vI s] [] := by
    intro mi s hs0 hs1 g0 g1 k
    have e : ∀ (x : Int), up mi 0 1 (mi 0 0 1) x 0 0 1 = mi 0 0 1 := fun x => by rw [up_j (by decide)]
    refine s_iload_n (dc kc_X11_feedFour 2 rfl) rfl <| s_if_lt (tgt := 49) (dc kc_X11_feedFour 3 rfl) rfl (fun c4 => (s_return (dc kc_X11_feedFour 26 rfl) rfl (Nat.zero_le _) (Nat.zero_le _) ?_)) (fun c4 => (r_aload_n (dc kc_X11_feedFour 4 rfl) rfl <| s_getI (dc kc_X11_feedFour 5 rfl) fl_X11_13 <| k_s (dc kc_X11_feedFour 6 rfl) rfl <| s_icmp_ge (tgt := 43) (dc kc_X11_feedFour 7 rfl) rfl (fun c14 => (b_inc2 (dc kc_X11_feedFour 24 rfl) rfl (Nat.le_of_ble_eq_true rfl) rfl (by first | omega | (simp [up] <;> omega)) (by first | omega | (simp [up] <;> omega)) <| s_goto (tgt := 3) (dc kc_X11_feedFour 25 rfl) rfl <| ?_)) (fun c14 => (r_aload_n (dc kc_X11_feedFour 8 rfl) rfl <| s_getA (dc kc_X11_feedFour 9 rfl) fl_X11_9 (ly_0_0 hL) <| r_aload_n (dc kc_X11_feedFour 10 rfl) rfl <| s_getI (dc kc_X11_feedFour 11 rfl) fl_X11_13 <| s_iload_n (dc kc_X11_feedFour 12 rfl) rfl <| s_iload_n (dc kc_X11_feedFour 13 rfl) rfl <| s_ishr (dc kc_X11_feedFour 14 rfl) <| k_s (dc kc_X11_feedFour 15 rfl) rfl <| s_iand (dc kc_X11_feedFour 16 rfl) <| s_iastore (dc kc_X11_feedFour 17 rfl) rfl (by first | omega | (simp [up] <;> omega)) (by first | omega | (simp [up] <;> omega)) <| r_aload_n (dc kc_X11_feedFour 18 rfl) rfl <| s_dup (dc kc_X11_feedFour 19 rfl) rfl <| s_getI (dc kc_X11_feedFour 20 rfl) fl_X11_13 <| k_i (dc kc_X11_feedFour 21 rfl) rfl <| b_iadd (dc kc_X11_feedFour 22 rfl) (by first | omega | (simp [up] <;> omega)) (by first | omega | (simp [up] <;> omega)) <| s_putI (dc kc_X11_feedFour 23 rfl) fl_X11_13 <| b_inc2 (dc kc_X11_feedFour 24 rfl) rfl (Nat.le_of_ble_eq_true rfl) rfl (by first | omega | (simp [up] <;> omega)) (by first | omega | (simp [up] <;> omega)) <| s_goto (tgt := 3) (dc kc_X11_feedFour 25 rfl) rfl <| ?_))))
    · exfalso; omega
    · exfalso; omega
    · exact k _ ((Cg.rf.up (by simp [pFd])).up (by simp [pFd])) (by rw [up_j (by decide), up_ud]) (by rw [up_at, e])
  refine one mi 24 (by decide) (by decide) h0 (by omega) (fun m1 g1 e1 f1 => ?_)
  refine one m1 16 (by decide) (by decide) (by omega) (by omega) (fun m2 g2 e2 f2 => ?_)
  refine one m2 8 (by decide) (by decide) (by omega) (by omega) (fun m3 g3 e3 f3 => ?_)
  refine one m3 0 (by decide) (by decide) (by omega) (by omega) (fun m4 g4 e4 f4 => ?_)
  refine s_iload_n (dc kc_X11_feedFour 2 rfl) rfl <| s_if_lt (tgt := 49) (dc kc_X11_feedFour 3 rfl) rfl (fun c4 => (s_return (dc kc_X11_feedFour 26 rfl) rfl (Nat.zero_le _) (Nat.zero_le _) ?_)) (fun c4 => (?_))
  · refine hQ m4 (((g1.tr g2).tr g3).tr g4) ?_ (by omega)
    rw [e4, e3, e2, e1, f3, f2, f1]
    unfold put4
    rw [show mi 0 0 1 + 1 + 1 = mi 0 0 1 + 2 by omega, show mi 0 0 1 + 2 + 1 = mi 0 0 1 + 3 by omega]
  · exfalso; omega
theorem u_cfeed (hL : Lay G mr) {mi : MI} {a b c e f : Int} (h0 : 0 ≤ mi 0 0 1) (h1 : mi 0 0 1 ≤ 400) (hQ1 : 380 < mi 0 0 1 → Q (vI (-1)) mi n mr) (hQ2 : mi 0 0 1 ≤ 380 → ∀ mi', Cg pFd mi mi' → mi' 0 1 = fedR (mi 0 1) (mi 0 0 1) a b c e f → mi' 0 0 1 = mi 0 0 1 + 20 → Q (vI (mi 0 0 1 + 20)) mi' n mr) : Tx (d+2) mt_X11_feed [vR (some (0, 0)), vI a, vI b, vI c, vI e, vI f] mi n mr Q := by
  refine tx_intro (ls := [vR (some (0, 0)), vI a, vI b, vI c, vI e, vI f]) om_X11_feed rfl (Nat.le_of_ble_eq_true rfl) ?_
  refine r_aload_n (dc kc_X11_feed 0 rfl) rfl <| s_getI (dc kc_X11_feed 1 rfl) fl_X11_13 <| k_b (dc kc_X11_feed 2 rfl) rfl <| b_iadd (dc kc_X11_feed 3 rfl) (by first | omega | (simp [up] <;> omega)) (by first | omega | (simp [up] <;> omega)) <| k_s (dc kc_X11_feed 4 rfl) rfl <| s_icmp_le (tgt := 15) (dc kc_X11_feed 5 rfl) rfl (fun c10 => (r_aload_n (dc kc_X11_feed 8 rfl) rfl <| s_iload_n (dc kc_X11_feed 9 rfl) rfl <| c_v1 (dc kc_X11_feed 10 rfl) cl_X11_72 rfl (Nat.le_of_ble_eq_true rfl) (Nat.zero_le _) (Nat.zero_le _) ?_)) (fun c10 => (k_i (dc kc_X11_feed 6 rfl) rfl <| s_ireturn (dc kc_X11_feed 7 rfl) rfl (Nat.zero_le _) (Nat.zero_le _) ?_))
  · refine u_feedFour hL h0 (by omega) (fun m1 g1 e1 f1 => ?_)
    refine r_aload_n (dc kc_X11_feed 11 rfl) rfl <| s_iload_n (dc kc_X11_feed 12 rfl) rfl <| c_v1 (dc kc_X11_feed 13 rfl) cl_X11_72 rfl (Nat.le_of_ble_eq_true rfl) (Nat.zero_le _) (Nat.zero_le _) ?_
    refine u_feedFour hL (by omega) (by omega) (fun m2 g2 e2 f2 => ?_)
    refine r_aload_n (dc kc_X11_feed 14 rfl) rfl <| s_iload_n (dc kc_X11_feed 15 rfl) rfl <| c_v1 (dc kc_X11_feed 16 rfl) cl_X11_72 rfl (Nat.le_of_ble_eq_true rfl) (Nat.zero_le _) (Nat.zero_le _) ?_
    refine u_feedFour hL (by omega) (by omega) (fun m3 g3 e3 f3 => ?_)
    refine r_aload_n (dc kc_X11_feed 17 rfl) rfl <| s_iload (dc kc_X11_feed 18 rfl) rfl <| c_v1 (dc kc_X11_feed 19 rfl) cl_X11_72 rfl (Nat.le_of_ble_eq_true rfl) (Nat.zero_le _) (Nat.zero_le _) ?_
    refine u_feedFour hL (by omega) (by omega) (fun m4 g4 e4 f4 => ?_)
    refine r_aload_n (dc kc_X11_feed 20 rfl) rfl <| s_iload (dc kc_X11_feed 21 rfl) rfl <| c_v1 (dc kc_X11_feed 22 rfl) cl_X11_72 rfl (Nat.le_of_ble_eq_true rfl) (Nat.zero_le _) (Nat.zero_le _) ?_
    refine u_feedFour hL (by omega) (by omega) (fun m5 g5 e5 f5 => ?_)
    refine r_aload_n (dc kc_X11_feed 23 rfl) rfl <| s_getI (dc kc_X11_feed 24 rfl) fl_X11_13 <| s_ireturn (dc kc_X11_feed 25 rfl) rfl (Nat.zero_le _) (Nat.zero_le _) ?_
    have f20 : m5 0 0 1 = mi 0 0 1 + 20 := by omega
    rw [f20]
    refine hQ2 (by omega) m5 ((((g1.tr g2).tr g3).tr g4).tr g5) ?_ f20
    rw [e5, e4, e3, e2, e1, f4, f3, f2, f1]
    unfold fedR
    rw [show mi 0 0 1 + 4 + 4 = mi 0 0 1 + 8 by omega, show mi 0 0 1 + 8 + 4 = mi 0 0 1 + 12 by omega, show mi 0 0 1 + 12 + 4 = mi 0 0 1 + 16 by omega]
  · exact hQ1 (by omega)
end FEE
