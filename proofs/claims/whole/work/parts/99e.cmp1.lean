/-! the class: its compiler against the machine -/
def pKr (B R : Int) (a b : Nat) (k : Int) : Bool := (a == 0 && ((b == 45 && (k == 6 || k == 7 || k == 9 || k == 10 || k == 11 || k == 12)) || b == 49)) || (a == 20 && ((b == 20 && (k == 0 || k == 1)) || (b == 21 && decide (B ≤ k)) || (decide (22 ≤ b) && decide (b ≤ 27) && decide (k = R))))
/-- the tokens as scanned -/
def CK (tk nu nx : Int → Int) (N : Int) (mi : MI) : Prop := (1 ≤ mi 0 45 5 ∧ mi 0 45 5 ≤ 401) ∧ ∀ j, 0 ≤ j → j < mi 0 45 5 → mi 0 46 j = tk (mi 0 48 j) ∧ mi 0 47 j = nu (mi 0 48 j) ∧ (0 ≤ mi 0 48 j ∧ mi 0 48 j ≤ N) ∧ (tk (mi 0 48 j) ≠ 23 → j + 1 < mi 0 45 5 ∧ mi 0 48 (j + 1) = nx (mi 0 48 j))
def CP (tk : Int → Int) (mi : MI) (f u b fl : Int) (k : List Int) : Prop := (0 ≤ mi 0 45 7 ∧ mi 0 45 7 < mi 0 45 5 ∧ mi 0 48 (mi 0 45 7) = f) ∧ mi 0 45 6 = tkn tk f fl ∧ mi 0 45 10 = u ∧ mi 0 45 11 = b ∧ mi 0 45 12 = fl ∧ mi 0 45 9 = (k.length : Int) ∧ Arr (mi 0 49) k.reverse
/-- the row in the making, in the compiler's text -/
def TR (mi : MI) (B R tg e : Int) (p v c : List CT) : Prop := mi 20 20 1 = B + lng p v c ∧ mi 20 22 R = B ∧ mi 20 23 R = B + p.length ∧ (e = 1 → mi 20 24 R = B + p.length + v.length) ∧ mi 20 26 R = tg ∧ Bm (mi 20 27 R) (needL (p ++ v ++ c)) ∧ slcC (mi 20 21) (lng p v c).toNat B = p ++ v ++ c
def CX (mi : MI) (B R fl tg e : Int) (p v c : List CT) : Prop := (mi 20 20 0 = R ∧ B ≤ mi 20 20 1 ∧ mi 20 20 1 ≤ 400) ∧ (fl = -1 → TR mi B R tg e p v c)
def CM (tk : Int → Int) (B R : Int) (mi : MI) (s : MS) : Prop := CP tk mi s.1 s.2.1 s.2.2.1 (flt s) (stk s) ∧ CX mi B R (flt s) s.2.2.2.2.2.1 s.2.2.2.2.2.2.1 s.2.2.2.2.2.2.2.1 s.2.2.2.2.2.2.2.2.1 s.2.2.2.2.2.2.2.2.2
theorem CX.mv {mi m : MI} {B R fl tg e : Int} {p v c : List CT} (h : CX mi B R fl tg e p v c) (hm : ∀ b, m 20 b = mi 20 b) : CX m B R fl tg e p v c := by
  unfold CX TR at *
  rw [hm, hm, hm, hm, hm, hm, hm]
  exact h
theorem CK.mv {tk nu nx : Int → Int} {N B R : Int} {mi m : MI} (h : CK tk nu nx N mi) (hm : Cg (pKr B R) mi m) : CK tk nu nx N m := by
  unfold CK at *
  rw [hm.row (j := 46) (fun k => by simp [pKr]), hm.row (j := 47) (fun k => by simp [pKr]), hm.row (j := 48) (fun k => by simp [pKr]), hm.at (j := 45) (by simp [pKr])]
  exact h
def pshS (L : List Int) (s : MS) : MS := (s.1, s.2.1, s.2.2.1, s.2.2.2.1, psG L s.2.2.2.2.1, s.2.2.2.2.2)
theorem pshS_tkS {tk nx : Int → Int} {L r : List Int} {f u b fl tg e : Int} {p v c : List CT} : pshS L (tkS psG tk nx [] f u b fl r tg e p v c) = tkS psG tk nx L f u b fl r tg e p v c := by
  unfold tkS
  split <;> rfl
theorem pshS_2 {a b : Int} {s : MS} : pshS [a] (pshS [b] s) = pshS [a, b] s := rfl
theorem pshS_22 {a b c x : Int} {s : MS} : pshS [a, b] (pshS [c, x] s) = pshS [a, b, c, x] s := rfl
section CMP
variable {d n G : Nat} {mr : MR} {Q : V → MI → Nat → MR → Prop} {tk nu nx : Int → Int} {N B R : Int}
theorem u_goTo (hL : Lay G mr) {mi : MI} {x : Int} (h0 : 0 ≤ x) (h1 : x < mi 0 45 5) (h2 : mi 0 45 5 ≤ 401) (hQ : Q (vX 0) (up (up mi 0 45 7 x) 0 45 6 (mi 0 46 x)) n mr) : Tx (d+1) mt_X0_goTo [vR (some (0, 45)), vI x] mi n mr Q := by
  have e1 : up mi 0 45 7 x 0 45 7 = x := up_at
  have e2 : up mi 0 45 7 x 0 46 = mi 0 46 := up_j (by decide)
  refine tx_intro (ls := [vR (some (0, 45)), vI x]) om_X0_goTo rfl (Nat.le_of_ble_eq_true rfl) ?_
  refine s_iload_n (dc kc_X0_goTo 0 rfl) rfl <| r_aload_n (dc kc_X0_goTo 1 rfl) rfl <| s_getI (dc kc_X0_goTo 2 rfl) fl_X0_32 <| s_icmp_ge (tgt := 26) (dc kc_X0_goTo 3 rfl) rfl (fun c5 => (s_return (dc kc_X0_goTo 14 rfl) rfl (Nat.zero_le _) (Nat.zero_le _) ?_)) (fun c5 => (r_aload_n (dc kc_X0_goTo 4 rfl) rfl <| s_iload_n (dc kc_X0_goTo 5 rfl) rfl <| s_putI (dc kc_X0_goTo 6 rfl) fl_X0_39 <| r_aload_n (dc kc_X0_goTo 7 rfl) rfl <| r_aload_n (dc kc_X0_goTo 8 rfl) rfl <| s_getA (dc kc_X0_goTo 9 rfl) fl_X0_22 (ly_45_2 hL) <| r_aload_n (dc kc_X0_goTo 10 rfl) rfl <| s_getI (dc kc_X0_goTo 11 rfl) fl_X0_39 <| s_iaload (dc kc_X0_goTo 12 rfl) rfl (by first | omega | (simp [up] <;> omega)) (by first | omega | (simp [up] <;> omega)) <| s_putI (dc kc_X0_goTo 13 rfl) fl_X0_36 <| s_return (dc kc_X0_goTo 14 rfl) rfl (Nat.zero_le _) (Nat.zero_le _) ?_))
  · exfalso; omega
  · rw [e1, e2]; exact hQ
theorem u_fail (hL : Lay G mr) {mi : MI} {f u b fl tg e : Int} {k : List Int} {p v c : List CT} (hK : CK tk nu nx N mi) (hC : CP tk mi f u b fl k) (hX : CX mi B R fl tg e p v c) (hQ : ∀ mi', Cg (pKr B R) mi mi' → CM tk B R mi' (flS f u b fl tg e p v c) → Q (vX 0) mi' n mr) : Tx (d+1) mt_X0_fail [vR (some (0, 45))] mi n mr Q := by
  obtain ⟨⟨a1, a2, a3⟩, a4, a5, a6, a7, a8, a9⟩ := hC
  obtain ⟨⟨k1, k2⟩, k3⟩ := hK
  obtain ⟨-, -, ⟨k4, k5⟩, -⟩ := k3 _ a1 a2
  have fin : ∀ m : MI, Cg (pKr B R) mi m → m 0 45 6 = 24 → m 0 45 9 = 0 → m 0 45 12 = (if fl = -1 then f else fl) → (∀ k, k ≠ 6 → k ≠ 9 → k ≠ 12 → m 0 45 k = mi 0 45 k) → (∀ b, m 20 b = mi 20 b) → Q (vX 0) m n mr := by
    intro m hg h6 h9 h12 hk ht
    have hne : ¬ (if fl = -1 then f else fl) = -1 := by split <;> omega
    have hz : ∀ w, ((if fl = -1 then f else fl) = -1 → w) := fun w z => absurd z hne
    refine hQ m hg ⟨⟨⟨?_, ?_, ?_⟩, ?_, ?_, ?_, h12, h9, Arr.nil⟩, ⟨?_, hz _⟩⟩
    · rw [hk 7 (by decide) (by decide) (by decide)]; exact a1
    · rw [hk 7 (by decide) (by decide) (by decide), hk 5 (by decide) (by decide) (by decide)]; exact a2
    · rw [hk 7 (by decide) (by decide) (by decide), hg.row (j := 48) (fun k => by simp [pKr])]; exact a3
    · rw [h6]; exact (if_neg hne).symm
    · rw [hk 10 (by decide) (by decide) (by decide)]; exact a5
    · rw [hk 11 (by decide) (by decide) (by decide)]; exact a6
    · rw [ht]; exact hX.1
  refine tx_intro (ls := [vR (some (0, 45))]) om_X0_fail rfl (Nat.le_of_ble_eq_true rfl) ?_
  refine r_aload_n (dc kc_X0_fail 0 rfl) rfl <| s_getI (dc kc_X0_fail 1 rfl) fl_X0_54 <| k_i (dc kc_X0_fail 2 rfl) rfl <| s_icmp_ne (tgt := 21) (dc kc_X0_fail 3 rfl) rfl (fun c5 => (r_aload_n (dc kc_X0_fail 11 rfl) rfl <| k_b (dc kc_X0_fail 12 rfl) rfl <| s_putI (dc kc_X0_fail 13 rfl) fl_X0_36 <| r_aload_n (dc kc_X0_fail 14 rfl) rfl <| k_i (dc kc_X0_fail 15 rfl) rfl <| s_putI (dc kc_X0_fail 16 rfl) fl_X0_45 <| s_return (dc kc_X0_fail 17 rfl) rfl (Nat.zero_le _) (Nat.zero_le _) ?_)) (fun c5 => (r_aload_n (dc kc_X0_fail 4 rfl) rfl <| r_aload_n (dc kc_X0_fail 5 rfl) rfl <| s_getA (dc kc_X0_fail 6 rfl) fl_X0_29 (ly_45_4 hL) <| r_aload_n (dc kc_X0_fail 7 rfl) rfl <| s_getI (dc kc_X0_fail 8 rfl) fl_X0_39 <| s_iaload (dc kc_X0_fail 9 rfl) rfl (by first | omega | (simp [up] <;> omega)) (by first | omega | (simp [up] <;> omega)) <| s_putI (dc kc_X0_fail 10 rfl) fl_X0_54 <| r_aload_n (dc kc_X0_fail 11 rfl) rfl <| k_b (dc kc_X0_fail 12 rfl) rfl <| s_putI (dc kc_X0_fail 13 rfl) fl_X0_36 <| r_aload_n (dc kc_X0_fail 14 rfl) rfl <| k_i (dc kc_X0_fail 15 rfl) rfl <| s_putI (dc kc_X0_fail 16 rfl) fl_X0_45 <| s_return (dc kc_X0_fail 17 rfl) rfl (Nat.zero_le _) (Nat.zero_le _) ?_))
  · refine fin _ ((Cg.rf.up (by simp [pKr])).up (by simp [pKr])) (by simp [up]) (by simp [up]) ?_ (fun k z1 z2 z3 => by simp [up, z1, z2]) (fun b => by rw [up_g (by decide), up_g (by decide)])
    rw [if_neg (by omega)]
    simp [up]
    exact a7
  · refine fin _ (((Cg.rf.up (by simp [pKr])).up (by simp [pKr])).up (by simp [pKr])) (by simp [up]) (by simp [up]) ?_ (fun k z1 z2 z3 => by simp [up, z1, z2, z3]) (fun b => by rw [up_g (by decide), up_g (by decide), up_g (by decide)])
    rw [if_pos (by omega)]
    simp [up]
    exact a3
theorem u_take (hL : Lay G mr) {mi : MI} {f u b tg e : Int} {r : List Int} {p v c : List CT} (hK : CK tk nu nx N mi) (hC : CP tk mi f u b (-1) r) (hX : CX mi B R (-1) tg e p v c) (hx : tk f ≠ 23) (hu : 0 ≤ u) (hu1 : u < 60) (hQ : ∀ mi', Cg (pKr B R) mi mi' → CM tk B R mi' (tkS psG tk nx [] f u b (-1) r tg e p v c) → Q (vX 0) mi' n mr) : Tx (d+2) mt_X0_take [vR (some (0, 45))] mi n mr Q := by
  obtain ⟨⟨a1, a2, a3⟩, a4, a5, a6, a7, a8, a9⟩ := id hC
  obtain ⟨⟨k1, k2⟩, k3⟩ := id hK
  obtain ⟨k6, k7, ⟨k4, k5⟩, k8⟩ := k3 _ a1 a2
  rw [a3] at k8
  obtain ⟨k9, k10⟩ := k8 hx
  obtain ⟨j6, j7, ⟨j4, j5⟩, j8⟩ := k3 _ (by omega : 0 ≤ mi 0 45 7 + 1) k9
  rw [k10] at j6 j7 j4 j5
  have key : ∀ m : MI, Cg (pKr B R) mi m → CP tk m (nx f) (u + 1) b (-1) r → CX m B R (-1) tg e p v c → Run (d+2) mt_X0_take Q (n, mr, 0, 0) m 20 [vR (some (0, 45))] [] := by
    intro m hg hC2 hX2
    obtain ⟨-, b4, b5, b6, b7, b8, b9⟩ := id hC2
    have b4 : m 0 45 6 = tk (nx f) := b4
    have ok : ¬ (59 ≤ u ∧ tk (nx f) ≠ 91 ∧ tk (nx f) ≠ 23) → Q (vX 0) m n mr := fun z => hQ m hg (by
      unfold tkS
      rw [if_neg z]
      exact ⟨hC2, hX2⟩)
    refine r_aload_n (dc kc_X0_take 12 rfl) rfl <| s_getI (dc kc_X0_take 13 rfl) fl_X0_48 <| k_b (dc kc_X0_take 14 rfl) rfl <| s_icmp_lt (tgt := 51) (dc kc_X0_take 15 rfl) rfl (fun c26 => (s_return (dc kc_X0_take 26 rfl) rfl (Nat.zero_le _) (Nat.zero_le _) ?_)) (fun c26 => (r_aload_n (dc kc_X0_take 16 rfl) rfl <| s_getI (dc kc_X0_take 17 rfl) fl_X0_36 <| k_b (dc kc_X0_take 18 rfl) rfl <| s_icmp_eq (tgt := 51) (dc kc_X0_take 19 rfl) rfl (fun c35 => (s_return (dc kc_X0_take 26 rfl) rfl (Nat.zero_le _) (Nat.zero_le _) ?_)) (fun c35 => (r_aload_n (dc kc_X0_take 20 rfl) rfl <| s_getI (dc kc_X0_take 21 rfl) fl_X0_36 <| k_b (dc kc_X0_take 22 rfl) rfl <| s_icmp_eq (tgt := 51) (dc kc_X0_take 23 rfl) rfl (fun c44 => (s_return (dc kc_X0_take 26 rfl) rfl (Nat.zero_le _) (Nat.zero_le _) ?_)) (fun c44 => (r_aload_n (dc kc_X0_take 24 rfl) rfl <| c_v0 (dc kc_X0_take 25 rfl) cl_X0_77 rfl (Nat.le_of_ble_eq_true rfl) (Nat.zero_le _) (Nat.zero_le _) ?_))))))
    · exact ok (fun z => by omega)
    · exact ok (fun z => by omega)
    · exact ok (fun z => by omega)
    · refine u_fail hL (hK.mv hg) hC2 hX2 (fun m3 g3 h3 => ?_)
      refine s_return (dc kc_X0_take 26 rfl) rfl (Nat.zero_le _) (Nat.zero_le _) ?_
      refine hQ m3 (hg.tr g3) ?_
      unfold tkS
      rw [if_pos ⟨by omega, by omega, by omega⟩]
      exact h3
  refine tx_intro (ls := [vR (some (0, 45))]) om_X0_take rfl (Nat.le_of_ble_eq_true rfl) ?_
  refine r_aload_n (dc kc_X0_take 0 rfl) rfl <| s_dup (dc kc_X0_take 1 rfl) rfl <| s_getI (dc kc_X0_take 2 rfl) fl_X0_48 <| k_i (dc kc_X0_take 3 rfl) rfl <| b_iadd (dc kc_X0_take 4 rfl) (by first | omega | (simp [up] <;> omega)) (by first | omega | (simp [up] <;> omega)) <| s_putI (dc kc_X0_take 5 rfl) fl_X0_48 <| r_aload_n (dc kc_X0_take 6 rfl) rfl <| r_aload_n (dc kc_X0_take 7 rfl) rfl <| s_getI (dc kc_X0_take 8 rfl) fl_X0_39 <| k_i (dc kc_X0_take 9 rfl) rfl <| b_iadd (dc kc_X0_take 10 rfl) (by first | omega | (simp [up] <;> omega)) (by first | omega | (simp [up] <;> omega)) <| c_v1 (dc kc_X0_take 11 rfl) cl_X0_70 rfl (Nat.le_of_ble_eq_true rfl) (Nat.zero_le _) (Nat.zero_le _) ?_
  have e5 : up mi 0 45 10 (mi 0 45 10 + 1) 0 45 5 = mi 0 45 5 := up_k (by decide)
  have e7 : up mi 0 45 10 (mi 0 45 10 + 1) 0 45 7 = mi 0 45 7 := up_k (by decide)
  rw [e7]
  refine u_goTo hL (by omega) (by rw [e5]; omega) (by rw [e5]; omega) ?_
  refine key _ (((Cg.rf.up (by simp [pKr])).up (by simp [pKr])).up (by simp [pKr])) ⟨⟨?_, ?_, ?_⟩, ?_, ?_, ?_, ?_, ?_, ?_⟩ (hX.mv (fun b => by rw [up_g (by decide), up_g (by decide), up_g (by decide)]))
  · simp [up]; omega
  · simp [up]; omega
  · simp [up]; exact k10
  · simp [up]; exact j6
  · simp [up]; omega
  · simp [up]; exact a6
  · simp [up]; exact a7
  · simp [up]; exact a8
  · rw [up_j (by decide), up_j (by decide), up_j (by decide)]; exact a9
theorem u_await (hL : Lay G mr) {mi : MI} {s : MS} {y : Int} (hM : CM tk B R mi s) (hl : (stk s).length ≤ 256) (hQ : ∀ mi', Cg (pKr B R) mi mi' → CM tk B R mi' (pshS [y] s) → Q (vX 0) mi' n mr) : Tx (d+1) mt_X0_await [vR (some (0, 45)), vI y] mi n mr Q := by
  obtain ⟨⟨⟨a1, a2, a3⟩, a4, a5, a6, a7, a8, a9⟩, hX⟩ := id hM
  refine tx_intro (ls := [vR (some (0, 45)), vI y]) om_X0_await rfl (Nat.le_of_ble_eq_true rfl) ?_
  refine r_aload_n (dc kc_X0_await 0 rfl) rfl <| s_getI (dc kc_X0_await 1 rfl) fl_X0_45 <| k_s (dc kc_X0_await 2 rfl) rfl <| s_icmp_ge (tgt := 30) (dc kc_X0_await 3 rfl) rfl (fun c7 => (s_return (dc kc_X0_await 16 rfl) rfl (Nat.zero_le _) (Nat.zero_le _) ?_)) (fun c7 => (r_aload_n (dc kc_X0_await 4 rfl) rfl <| s_getA (dc kc_X0_await 5 rfl) fl_X0_42 (ly_45_8 hL) <| r_aload_n (dc kc_X0_await 6 rfl) rfl <| s_getI (dc kc_X0_await 7 rfl) fl_X0_45 <| s_iload_n (dc kc_X0_await 8 rfl) rfl <| s_iastore (dc kc_X0_await 9 rfl) rfl (by first | omega | (simp [up] <;> omega)) (by first | omega | (simp [up] <;> omega)) <| r_aload_n (dc kc_X0_await 10 rfl) rfl <| s_dup (dc kc_X0_await 11 rfl) rfl <| s_getI (dc kc_X0_await 12 rfl) fl_X0_45 <| k_i (dc kc_X0_await 13 rfl) rfl <| b_iadd (dc kc_X0_await 14 rfl) (by first | omega | (simp [up] <;> omega)) (by first | omega | (simp [up] <;> omega)) <| s_putI (dc kc_X0_await 15 rfl) fl_X0_45 <| s_return (dc kc_X0_await 16 rfl) rfl (Nat.zero_le _) (Nat.zero_le _) ?_))
  · refine hQ mi Cg.rf ?_
    have e : psG [y] s.2.2.2.2.1 = s.2.2.2.2.1 := by
      show (if (stk s).length < 256 then y :: stk s else stk s) = stk s
      rw [if_neg (by omega)]
    unfold pshS
    rw [e]
    exact hM
  · refine hQ _ ((Cg.rf.up (by simp [pKr])).up (by simp [pKr])) ?_
    have e : psG [y] s.2.2.2.2.1 = y :: stk s := by
      show (if (stk s).length < 256 then y :: stk s else stk s) = y :: stk s
      rw [if_pos (by omega)]
    unfold pshS
    rw [e]
    refine ⟨⟨⟨by simp [up]; exact a1, by simp [up]; exact a2, by simp [up]; exact a3⟩, by simp [up]; exact a4, by simp [up]; exact a5, by simp [up]; exact a6, by simp [up]; exact a7, ?_, ?_⟩, hX.mv (fun b => by rw [up_g (by decide), up_g (by decide)])⟩
    · show up (up mi 0 49 (mi 0 45 9) y) 0 45 9 (up mi 0 49 (mi 0 45 9) y 0 45 9 + 1) 0 45 9 = ((y :: stk s).length : Int)
      rw [up_at, up_j (by decide), a8, List.length_cons]
      omega
    · show Arr (up (up mi 0 49 (mi 0 45 9) y) 0 45 9 (up mi 0 49 (mi 0 45 9) y 0 45 9 + 1) 0 49) (y :: stk s).reverse
      rw [up_j (by decide), up_ud, a8, List.reverse_cons]
      exact a9.snoc' (by rw [List.length_reverse])
theorem pshS_len {L : List Int} {s : MS} (h : (stk s).length ≤ 256) : (stk (pshS L s)).length ≤ 256 := psG_len h
theorem u_await2 (hL : Lay G mr) {mi : MI} {s : MS} {x y : Int} (hM : CM tk B R mi s) (hl : (stk s).length ≤ 256) (hQ : ∀ mi', Cg (pKr B R) mi mi' → CM tk B R mi' (pshS [x, y] s) → Q (vX 0) mi' n mr) : Tx (d+2) mt_X0_await_ [vR (some (0, 45)), vI x, vI y] mi n mr Q := by
  refine tx_intro (ls := [vR (some (0, 45)), vI x, vI y]) om_X0_await_ rfl (Nat.le_of_ble_eq_true rfl) ?_
  refine r_aload_n (dc kc_X0_await_ 0 rfl) rfl <| s_iload_n (dc kc_X0_await_ 1 rfl) rfl <| c_v1 (dc kc_X0_await_ 2 rfl) cl_X0_83 rfl (Nat.le_of_ble_eq_true rfl) (Nat.zero_le _) (Nat.zero_le _) ?_
  refine u_await hL hM hl (fun m1 g1 h1 => ?_)
  refine r_aload_n (dc kc_X0_await_ 3 rfl) rfl <| s_iload_n (dc kc_X0_await_ 4 rfl) rfl <| c_v1 (dc kc_X0_await_ 5 rfl) cl_X0_83 rfl (Nat.le_of_ble_eq_true rfl) (Nat.zero_le _) (Nat.zero_le _) ?_
  refine u_await hL h1 (pshS_len hl) (fun m2 g2 h2 => ?_)
  refine s_return (dc kc_X0_await_ 6 rfl) rfl (Nat.zero_le _) (Nat.zero_le _) ?_
  exact hQ m2 (g1.tr g2) h2
theorem u_await3 (hL : Lay G mr) {mi : MI} {s : MS} {x y z : Int} (hM : CM tk B R mi s) (hl : (stk s).length ≤ 256) (hQ : ∀ mi', Cg (pKr B R) mi mi' → CM tk B R mi' (pshS [x, y, z] s) → Q (vX 0) mi' n mr) : Tx (d+2) mt_X0_await__ [vR (some (0, 45)), vI x, vI y, vI z] mi n mr Q := by
  refine tx_intro (ls := [vR (some (0, 45)), vI x, vI y, vI z]) om_X0_await__ rfl (Nat.le_of_ble_eq_true rfl) ?_
  refine r_aload_n (dc kc_X0_await__ 0 rfl) rfl <| s_iload_n (dc kc_X0_await__ 1 rfl) rfl <| c_v1 (dc kc_X0_await__ 2 rfl) cl_X0_83 rfl (Nat.le_of_ble_eq_true rfl) (Nat.zero_le _) (Nat.zero_le _) ?_
  refine u_await hL hM hl (fun m1 g1 h1 => ?_)
  refine r_aload_n (dc kc_X0_await__ 3 rfl) rfl <| s_iload_n (dc kc_X0_await__ 4 rfl) rfl <| c_v1 (dc kc_X0_await__ 5 rfl) cl_X0_83 rfl (Nat.le_of_ble_eq_true rfl) (Nat.zero_le _) (Nat.zero_le _) ?_
  refine u_await hL h1 (pshS_len hl) (fun m2 g2 h2 => ?_)
  refine r_aload_n (dc kc_X0_await__ 6 rfl) rfl <| s_iload_n (dc kc_X0_await__ 7 rfl) rfl <| c_v1 (dc kc_X0_await__ 8 rfl) cl_X0_83 rfl (Nat.le_of_ble_eq_true rfl) (Nat.zero_le _) (Nat.zero_le _) ?_
  refine u_await hL h2 (pshS_len (pshS_len hl)) (fun m3 g3 h3 => ?_)
  refine s_return (dc kc_X0_await__ 9 rfl) rfl (Nat.zero_le _) (Nat.zero_le _) ?_
  exact hQ m3 ((g1.tr g2).tr g3) h3
end CMP
