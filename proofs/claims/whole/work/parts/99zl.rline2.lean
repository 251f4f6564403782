/-! the reference: a line read -/
def tgM (m : MI) (i : Int) : Int := if m 0 91 (10 * i) = 0 then m 0 91 (10 * i + 1) else if m 0 91 (10 * i) = 1 then 3 + m 0 91 (10 * i + 1) else if m 0 91 (10 * i) = 2 then 6 else if m 0 91 (10 * i) = 3 then 7 else if m 0 91 (10 * i) = 4 then 8 else 9
/-- a line that is read, in the reference's own arrays -/
def LnM (m : MI) (i tg : Int) (p v c : List CT) : Prop := tgM m i = tg ∧ (0 ≤ m 0 91 (10 * i) ∧ m 0 91 (10 * i) ≤ 5) ∧ (m 0 91 (10 * i) ≤ 1 → 0 ≤ m 0 91 (10 * i + 1) ∧ m 0 91 (10 * i + 1) ≤ 2) ∧ (0 ≤ m 0 91 (10 * i + 2) ∧ m 0 91 (10 * i + 3) = m 0 91 (10 * i + 2) + p.length ∧ m 0 91 (10 * i + 4) = m 0 91 (10 * i + 3) ∧ m 0 91 (10 * i + 5) = m 0 91 (10 * i + 4) + v.length ∧ m 0 91 (10 * i + 6) = m 0 91 (10 * i + 5) ∧ m 0 91 (10 * i + 7) = m 0 91 (10 * i + 6) + c.length ∧ m 0 91 (10 * i + 7) ≤ m 0 80 20) ∧ slcR m p.length (m 0 91 (10 * i + 2)) = p ∧ slcR m v.length (m 0 91 (10 * i + 4)) = v ∧ slcR m c.length (m 0 91 (10 * i + 6)) = c
theorem slcR_app {m : MI} : ∀ (a b : Nat) (k : Int), slcR m (a + b) k = slcR m a k ++ slcR m b (k + a)
  | 0, b, k => by rw [Nat.zero_add, slcR]; simp
  | a + 1, b, k => by
    rw [show a + 1 + b = (a + b) + 1 by omega, slcR, slcR_app a b (k + 1), slcR, List.cons_append, show k + 1 + (a : Int) = k + ((a + 1 : Nat) : Int) by omega]
theorem CdR.cut {m : MI} {C0 : Int} {p v c : List CT} (h : CdR m C0 (p ++ v ++ c)) : slcR m p.length C0 = p ∧ slcR m v.length (C0 + p.length) = v ∧ slcR m c.length (C0 + p.length + v.length) = c := by
  have h2 := h.2
  rw [List.length_append, List.length_append, slcR_app, slcR_app] at h2
  obtain ⟨b1, b2⟩ := List.append_inj h2 (by rw [List.length_append, List.length_append, slcR_len, slcR_len])
  obtain ⟨b3, b4⟩ := List.append_inj b1 (slcR_len _ _)
  rw [show C0 + ((p.length + v.length : Nat) : Int) = C0 + p.length + v.length by omega] at b2
  exact ⟨b3, b4, b2⟩
section RLN
variable {d n G : Nat} {mr : MR} {Q : V → MI → Nat → MR → Prop} {t : Int → Int} {N : Int}
theorem t_readLine12 (hL : Lay G mr) {mi : MI} {f u : Int} (hA : RA t N mi f u) (h28 : mi 0 80 28 = 12) (hQ : ∀ m', Ch pTq mi m' → RB m' f → Q (vX 0) m' n mr) : Tx (d+10) mt_X12_readLine [vR (some (0, 80))] mi n mr Q := by
  have body : ∀ x : Int, Run (d+10) mt_X12_readLine Q (n, mr, 0, 0) mi 37 [vR (some (0, 80)), vI x, vX 0, vX 0] [vI 0, vR (some (0, 80))] := fun x => by
    refine c_v1 (dc kc_X12_readLine_0 18 rfl) cl_X12_187 rfl (Nat.le_of_ble_eq_true rfl) (Nat.zero_le _) (Nat.zero_le _) ?_
    refine t_mustF hL hA (fun m2 g2 h2 => ?_)
    have e17 := h2.1
    refine r_aload_n (dc kc_X12_readLine_0 19 rfl) rfl <| s_getZ (dc kc_X12_readLine_0 20 rfl) fl_X12_146 <| s_if_eq (tgt := 48) (dc kc_X12_readLine_0 21 rfl) rfl (fun c44 => (?_)) (fun c44 => (s_return (dc kc_X12_readLine_0 22 rfl) rfl (Nat.zero_le _) (Nat.zero_le _) ?_))
    · exfalso; omega
    · exact hQ m2 g2 h2
  refine tx_intro (ls := [vR (some (0, 80)), vX 0, vX 0, vX 0]) om_X12_readLine rfl (Nat.le_of_ble_eq_true rfl) ?_
  refine r_aload_n (dc kc_X12_readLine_0 0 rfl) rfl <| k_j (dc kc_X12_readLine_0 1 rfl) kj_X12_323 rfl (a := 16441) (by decide) <| c_v1r (dc kc_X12_readLine_0 2 rfl) cl_X12_220 rfl (Nat.le_of_ble_eq_true rfl) (Nat.zero_le _) (Nat.zero_le _) <| t_isWord <| t_i1 (dc kc_X12_readLine_0 3 rfl) (Nat.le_of_ble_eq_true rfl) rfl <| r_aload_n (dc kc_X12_readLine_0 4 rfl) rfl <| s_iload_n (dc kc_X12_readLine_0 5 rfl) rfl <| s_if_ne (tgt := 23) (dc kc_X12_readLine_0 6 rfl) rfl (fun c10 => (r_aload_n (dc kc_X12_readLine_0 11 rfl) rfl <| s_getI (dc kc_X12_readLine_0 12 rfl) fl_X12_303 <| k_b (dc kc_X12_readLine_0 13 rfl) rfl <| s_icmp_ge (tgt := 36) (dc kc_X12_readLine_0 14 rfl) rfl (fun c29 => (k_i (dc kc_X12_readLine_0 17 rfl) rfl <| ?_)) (fun c29 => (k_i (dc kc_X12_readLine_0 15 rfl) rfl <| s_goto (tgt := 37) (dc kc_X12_readLine_0 16 rfl) rfl <| ?_)))) (fun c10 => (r_aload_n (dc kc_X12_readLine_0 7 rfl) rfl <| k_j (dc kc_X12_readLine_0 8 rfl) kj_X12_325 rfl (a := 12468) (by decide) <| c_v1r (dc kc_X12_readLine_0 9 rfl) cl_X12_220 rfl (Nat.le_of_ble_eq_true rfl) (Nat.zero_le _) (Nat.zero_le _) <| t_isWord <| s_if_eqb (tgt := 36) (dc kc_X12_readLine_0 10 rfl) rfl (fun c20 => (k_i (dc kc_X12_readLine_0 17 rfl) rfl <| ?_)) (fun c20 => (r_aload_n (dc kc_X12_readLine_0 11 rfl) rfl <| s_getI (dc kc_X12_readLine_0 12 rfl) fl_X12_303 <| k_b (dc kc_X12_readLine_0 13 rfl) rfl <| s_icmp_ge (tgt := 36) (dc kc_X12_readLine_0 14 rfl) rfl (fun c29 => (k_i (dc kc_X12_readLine_0 17 rfl) rfl <| ?_)) (fun c29 => (k_i (dc kc_X12_readLine_0 15 rfl) rfl <| s_goto (tgt := 37) (dc kc_X12_readLine_0 16 rfl) rfl <| ?_))))))
  all_goals first | exact body _ | (exfalso; omega)
/-- the row is cleared -/
theorem t_lineClr {Rr x : Int} (hL : Lay G mr) (hR0 : 0 ≤ Rr) (hR1 : Rr < 12) {m0 : MI} (hQ : ∀ m', Ch (fun j z => j == 91 && decide (10 * Rr ≤ z)) m0 m' → Run (d+10) mt_X12_readLine Q (n, mr, 0, 0) m' 79 [vR (some (0, 80)), vI x, vI (10 * Rr), vI 10] []) : ∀ k : Nat, k ≤ 10 → ∀ m : MI, Ch (fun j z => j == 91 && decide (10 * Rr ≤ z)) m0 m → Run (d+10) mt_X12_readLine Q (n, mr, 0, 0) m 58 [vR (some (0, 80)), vI x, vI (10 * Rr), vI (k : Int)] [] := by
  refine nloop ?_
  intro k hk ih m gm
  by_cases hlt : k < 10
  · have ih := ih hlt
    rw [show ((k + 1 : Nat) : Int) = (k : Int) + 1 by omega] at ih
    refine s_iload_n (dc kc_X12_readLine_0 30 rfl) rfl <| k_b (dc kc_X12_readLine_0 31 rfl) rfl <| s_icmp_ge (tgt := 79) (dc kc_X12_readLine_0 32 rfl) rfl (fun c61 => (?_)) (fun c61 => (r_aload_n (dc kc_X12_readLine_0 33 rfl) rfl <| s_getA (dc kc_X12_readLine_0 34 rfl) fl_X12_45 (ly_80_27 hL) <| s_iload_n (dc kc_X12_readLine_0 35 rfl) rfl <| s_iload_n (dc kc_X12_readLine_0 36 rfl) rfl <| b_iadd (dc kc_X12_readLine_0 37 rfl) (by first | omega | (simp [up] <;> omega)) (by first | omega | (simp [up] <;> omega)) <| k_i (dc kc_X12_readLine_0 38 rfl) rfl <| s_iastore (dc kc_X12_readLine_0 39 rfl) rfl (by first | omega | (simp [up] <;> omega)) (by first | omega | (simp [up] <;> omega)) <| b_inc3 (dc kc_X12_readLine_1 0 rfl) rfl (Nat.le_of_ble_eq_true rfl) rfl (by first | omega | (simp [up] <;> omega)) (by first | omega | (simp [up] <;> omega)) <| s_goto (tgt := 58) (dc kc_X12_readLine_1 1 rfl) rfl <| ?_))
    · exfalso; omega
    · exact ih _ (gm.up (by simp; omega))
  · have hk2 : k = 10 := by omega
    subst hk2
    refine s_iload_n (dc kc_X12_readLine_0 30 rfl) rfl <| k_b (dc kc_X12_readLine_0 31 rfl) rfl <| s_icmp_ge (tgt := 79) (dc kc_X12_readLine_0 32 rfl) rfl (fun c61 => (?_)) (fun c61 => (?_))
    · exact hQ m gm
    · exfalso; omega
/-- from the value's end on -/
theorem t_line151A (hL : Lay G mr) (hP : Tpe t N) {mi0 : MI} {C0 Rr : Int} {s0 : MS} (hR0 : 0 ≤ Rr) (hR1 : Rr < 12) (hC0 : 0 ≤ C0)
    (hQA : ∀ m' f' u' tg p v c (a : Nat), Ch (pLw C0 Rr) mi0 m' → RA t N m' f' u' → m' 0 80 28 = Rr + 1 → C0 ≤ m' 0 80 20 → m' 0 80 20 ≤ f' → (-100 ≤ m' 0 80 25 ∧ m' 0 80 25 ≤ 100) → LnM m' Rr tg p v c → m' 0 91 (10 * Rr + 2) = C0 → a ≤ 9900 → Rh (tkF t N) (nuF t N) (nxF t N) 1 a s0 (f', u', 0, -1, [], tg, 1, p, v, c) → Q (vX 0) m' n mr)
    (hQD : ∀ m' p, Ch (pLw 0 0) mi0 m' → DXz t N 0 m' p → Dn (tkF t N) (nuF t N) (nxF t N) 1 9900 s0 p → Q (vX 0) m' n mr)
    {m2 : MI} {f2 u2 its tg y x : Int} {pp nd : List CT} {a : Nat} (g2 : Ch (pLw C0 Rr) mi0 m2) (hA2 : RA t N m2 f2 u2) (hu2 : 1 ≤ u2) (e28 : m2 0 80 28 = Rr) (e25 : -100 ≤ m2 0 80 25 ∧ m2 0 80 25 ≤ 100) (e19 : m2 0 80 19 = 1) (hits : 0 ≤ its ∧ its ≤ 5) (r0 : m2 0 91 (10 * Rr) = its) (r1 : its ≤ 1 → tg = 3 * its + m2 0 91 (10 * Rr + 1) ∧ 0 ≤ m2 0 91 (10 * Rr + 1) ∧ m2 0 91 (10 * Rr + 1) ≤ 2) (htg : 2 ≤ its → tg = its + 4) (r2 : m2 0 91 (10 * Rr + 2) = C0) (r3 : m2 0 91 (10 * Rr + 3) = C0 + pp.length) (r4 : m2 0 91 (10 * Rr + 4) = C0 + pp.length) (hC : CdR m2 C0 (pp ++ nd)) (hw : m2 0 80 20 ≤ f2) (ha : a ≤ 5300) (hRh : Rh (tkF t N) (nuF t N) (nxF t N) 1 a s0 (f2, u2, 0, -1, [704], tg, 0, pp, [], nd)) : Run (d+10) mt_X12_readLine Q (n, mr, 0, 0) m2 151 [vR (some (0, 80)), vI x, vI (10 * Rr), vI y] [] := by
  have hN := hP.1.2
  have lw0 : ∀ {m m' : MI}, Ch (pLw C0 Rr) m m' → Ch (pLw 0 0) m m' := fun h => h.mono (fun j k z => by simp [pLw, pPr] at z ⊢; omega)
  have hC20 := hC.1
  rw [List.length_append] at hC20
  -- the end of a line
  have fin : ∀ (m5 : MI) (f5 u5 : Int) (c5 : List CT) (a5 : Nat), Ch (pLw C0 Rr) mi0 m5 → RA t N m5 f5 u5 → m5 0 80 28 = Rr → (-100 ≤ m5 0 80 25 ∧ m5 0 80 25 ≤ 100) → (∀ k, k ≤ 10 * Rr + 4 → m5 0 91 k = m2 0 91 k) → m5 0 91 (10 * Rr + 5) = C0 + pp.length + nd.length → m5 0 91 (10 * Rr + 6) = C0 + pp.length + nd.length → CdR m5 C0 (pp ++ nd ++ c5) → m5 0 80 20 ≤ f5 → a5 ≤ 9900 → Rh (tkF t N) (nuF t N) (nxF t N) 1 a5 s0 (f5, u5, 0, -1, [], tg, 1, pp, nd, c5) → Run (d+10) mt_X12_readLine Q (n, mr, 0, 0) m5 209 [vR (some (0, 80)), vI x, vI (10 * Rr), vI y] [] := by
    intro m5 f5 u5 c5 a5 g5 hA5 q28 q25 q91 q5 q6 qC qw qa qR
    have qC20 := qC.1
    rw [List.length_append, List.length_append] at qC20
    have u28 : ∀ z y, up m5 0 91 z y 0 80 28 = Rr := fun z y => by rw [up_j (by decide)]; exact q28
    refine r_aload_n (dc kc_X12_readLine_2 37 rfl) rfl <| s_getA (dc kc_X12_readLine_2 38 rfl) fl_X12_45 (ly_80_27 hL) <| s_iload_n (dc kc_X12_readLine_2 39 rfl) rfl <| k_b (dc kc_X12_readLine_3 0 rfl) rfl <| b_iadd (dc kc_X12_readLine_3 1 rfl) (by first | omega | (simp [up] <;> omega)) (by first | omega | (simp [up] <;> omega)) <| r_aload_n (dc kc_X12_readLine_3 2 rfl) rfl <| s_getI (dc kc_X12_readLine_3 3 rfl) fl_X12_191 <| s_iastore (dc kc_X12_readLine_3 4 rfl) rfl (by first | omega | (simp [up] <;> omega)) (by first | omega | (simp [up] <;> omega)) <| r_aload_n (dc kc_X12_readLine_3 5 rfl) rfl <| s_dup (dc kc_X12_readLine_3 6 rfl) rfl <| s_getI (dc kc_X12_readLine_3 7 rfl) fl_X12_303 <| k_i (dc kc_X12_readLine_3 8 rfl) rfl <| b_iadd (dc kc_X12_readLine_3 9 rfl) (by first | omega | (simp [up] <;> omega)) (by first | omega | (simp [up] <;> omega)) <| s_putI (dc kc_X12_readLine_3 10 rfl) fl_X12_303 <| s_return (dc kc_X12_readLine_3 11 rfl) rfl (Nat.zero_le _) (Nat.zero_le _) ?_
    rw [u28]
    generalize hm6 : up (up m5 0 91 (10 * Rr + 7) (m5 0 80 20)) 0 80 28 (Rr + 1) = m6
    have g6 : Ch (fun j k => (j == 91 && k == 10 * Rr + 7) || (j == 80 && k == 28)) m5 m6 := by
      rw [← hm6]; exact (Ch.rf.up (by simp)).up (by simp)
    have z7 : m6 0 91 (10 * Rr + 7) = m5 0 80 20 := by rw [← hm6, up_j (by decide), up_at]
    have z91 : ∀ k, k ≤ 10 * Rr + 4 → m6 0 91 k = m2 0 91 k := fun k hk => by rw [g6.at (by simp; omega)]; exact q91 k hk
    have z0 := z91 (10 * Rr) (by omega)
    have z1 := z91 (10 * Rr + 1) (by omega)
    have z2 := z91 (10 * Rr + 2) (by omega)
    have z3 := z91 (10 * Rr + 3) (by omega)
    have z4 := z91 (10 * Rr + 4) (by omega)
    have z5 : m6 0 91 (10 * Rr + 5) = C0 + pp.length + nd.length := by rw [g6.at (by simp)]; exact q5
    have z6 : m6 0 91 (10 * Rr + 6) = C0 + pp.length + nd.length := by rw [g6.at (by simp)]; exact q6
    have z20 : m6 0 80 20 = m5 0 80 20 := g6.at (by simp)
    have zC : CdR m6 C0 (pp ++ nd ++ c5) := qC.mv z20 (g6.row (fun k => by simp)) (g6.row (fun k => by simp))
    obtain ⟨k1, k2, k3⟩ := zC.cut
    refine hQA m6 f5 u5 tg pp nd c5 a5 (g5.tr (g6.mono (fun j k z => by simp at z; simp [pLw]; omega))) (hA5.mv g6 (fun k => by simp) (fun k k0 k1 _ => by simp; omega)) (by rw [← hm6, up_at]) (by omega) (by omega) (by rw [g6.at (by simp)]; exact q25) ⟨?_, by omega, fun z => ?_, ⟨by omega, by omega, by omega, by omega, by omega, by omega, by omega⟩, ?_, ?_, ?_⟩ (by omega) qa qR
    · unfold tgM
      rw [z0, r0, z1]
      have : its = 0 ∨ its = 1 ∨ its = 2 ∨ its = 3 ∨ its = 4 ∨ its = 5 := by omega
      rcases this with w | w | w | w | w | w
      · rw [if_pos w]; have := r1 (by omega); omega
      · rw [if_neg (by omega), if_pos w]; have := r1 (by omega); omega
      · rw [if_neg (by omega), if_neg (by omega), if_pos w]; have := htg (by omega); omega
      · rw [if_neg (by omega), if_neg (by omega), if_neg (by omega), if_pos w]; have := htg (by omega); omega
      · rw [if_neg (by omega), if_neg (by omega), if_neg (by omega), if_neg (by omega), if_pos w]; have := htg (by omega); omega
      · rw [if_neg (by omega), if_neg (by omega), if_neg (by omega), if_neg (by omega), if_neg (by omega)]; have := htg (by omega); omega
    · rw [z1]; exact (r1 (by omega)).2
    · rw [z2, r2]; exact k1
    · rw [z4, r4]; exact k2
    · rw [z6]; exact k3
  refine r_aload_n (dc kc_X12_readLine_2 6 rfl) rfl <| s_getA (dc kc_X12_readLine_2 7 rfl) fl_X12_45 (ly_80_27 hL) <| s_iload_n (dc kc_X12_readLine_2 8 rfl) rfl <| k_i (dc kc_X12_readLine_2 9 rfl) rfl <| b_iadd (dc kc_X12_readLine_2 10 rfl) (by first | omega | (simp [up] <;> omega)) (by first | omega | (simp [up] <;> omega)) <| r_aload_n (dc kc_X12_readLine_2 11 rfl) rfl <| s_getI (dc kc_X12_readLine_2 12 rfl) fl_X12_191 <| s_iastore (dc kc_X12_readLine_2 13 rfl) rfl (by first | omega | (simp [up] <;> omega)) (by first | omega | (simp [up] <;> omega)) <| r_aload_n (dc kc_X12_readLine_2 14 rfl) rfl <| s_getA (dc kc_X12_readLine_2 15 rfl) fl_X12_45 (ly_80_27 hL) <| s_iload_n (dc kc_X12_readLine_2 16 rfl) rfl <| k_b (dc kc_X12_readLine_2 17 rfl) rfl <| b_iadd (dc kc_X12_readLine_2 18 rfl) (by first | omega | (simp [up] <;> omega)) (by first | omega | (simp [up] <;> omega)) <| r_aload_n (dc kc_X12_readLine_2 19 rfl) rfl <| s_getI (dc kc_X12_readLine_2 20 rfl) fl_X12_191 <| s_iastore (dc kc_X12_readLine_2 21 rfl) rfl (by first | omega | (simp [up] <;> omega)) (by first | omega | (simp [up] <;> omega)) <| ?_
  generalize hm3 : up (up m2 0 91 (10 * Rr + 5) (m2 0 80 20)) 0 91 (10 * Rr + 6) _ = m3
  have g3 : Ch (fun j k => j == 91 && (k == 10 * Rr + 5 || k == 10 * Rr + 6)) m2 m3 := by
    rw [← hm3]; exact (Ch.rf.up (by simp)).up (by simp)
  have s5 : m3 0 91 (10 * Rr + 5) = C0 + pp.length + nd.length := by rw [← hm3, up_k (by omega), up_at]; omega
  have s6 : m3 0 91 (10 * Rr + 6) = C0 + pp.length + nd.length := by rw [← hm3, up_at, up_j (by decide)]; omega
  have s91 : ∀ k, k ≤ 10 * Rr + 4 → m3 0 91 k = m2 0 91 k := fun k hk => g3.at (by simp; omega)
  have s20 : m3 0 80 20 = m2 0 80 20 := g3.at (by simp)
  have s28 : m3 0 80 28 = Rr := by rw [g3.at (by simp)]; exact e28
  have s25 : m3 0 80 25 = m2 0 80 25 := g3.at (by simp)
  have s19 : m3 0 80 19 = 1 := by rw [g3.at (by simp)]; exact e19
  have sC : CdR m3 C0 (pp ++ nd) := hC.mv s20 (g3.row (fun k => by simp)) (g3.row (fun k => by simp))
  have hA3 : RA t N m3 f2 u2 := hA2.mv g3 (fun k => by simp) (fun k k0 k1 _ => by simp)
  have gA : Ch (pLw C0 Rr) mi0 m3 := g2.tr (g3.mono (fun j k z => by simp at z; simp [pLw]; omega))
  clear hm3
  have e17 := hA3.2.2.1
  have hf3 := hA3.2.2.2.2.1
  have hu3 := hA3.2.2.2.2.2.1
  have w7 := hA3.2.1.word hP hf3.1 7 (by decide) (H := 294) (by decide +kernel)
  refine r_aload_n (dc kc_X12_readLine_2 22 rfl) rfl <| s_getZ (dc kc_X12_readLine_2 23 rfl) fl_X12_146 <| s_if_ne (tgt := 209) (dc kc_X12_readLine_2 24 rfl) rfl (fun c180 => (?_)) (fun c180 => (r_aload_n (dc kc_X12_readLine_2 25 rfl) rfl <| k_j (dc kc_X12_readLine_2 26 rfl) kj_X12_333 rfl (a := 294) (by decide) <| c_v1r (dc kc_X12_readLine_2 27 rfl) cl_X12_220 rfl (Nat.le_of_ble_eq_true rfl) (Nat.zero_le _) (Nat.zero_le _) <| t_isWord <| s_if_eqb (tgt := 209) (dc kc_X12_readLine_2 28 rfl) rfl (fun c190 => (?_)) (fun c190 => (?_))))
  · exfalso; omega
  · have h7 : tkF t N f2 ≠ 7 := fun z => c190 (w7.mpr z)
    have hR4 := hRh.go (s2 := (f2, u2, 0, -1, [], tg, 1, pp, nd, [])) (by show 1 ≤ 250; omega) (by
      rw [mv_70 (by decide) (show prd 1 (tkn (tkF t N) f2 (-1)) 704 = some (0, []) by rw [prd_704]; exact if_neg h7) rfl]; rfl)
    exact fin m3 f2 u2 [] (a + 1) gA hA3 s28 (by omega) s91 s5 s6 (by rw [List.append_nil]; exact sC) (by omega) (by omega) hR4
  · have h7 : tkF t N f2 = 7 := w7.mp c190
    obtain ⟨p1, p2, p3, p4⟩ := hA3.nx hP (by omega)
    have hprd : prd 1 (tkn (tkF t N) f2 (-1)) 704 = some (1, [710]) := by rw [prd_704]; exact if_pos h7
    have hrt := tkm (s := (f2, u2, 0, -1, [704], tg, 0, pp, [], nd)) (tk := tkF t N) (nu := nuF t N) (nx := nxF t N) (o := 1) (f := f2) (u := u2) (b' := 0) (tg := tg) (e := 1) (r := []) (pp := pp) (v := nd) (c := []) (L := [710]) (by rw [mv_71 (by decide) hprd rfl]; rfl) (by show 1 ≤ 250; omega) p2 (prd_DrL hprd rfl)
    refine r_aload_n (dc kc_X12_readLine_2 29 rfl) rfl <| c_v0 (dc kc_X12_readLine_2 30 rfl) cl_X12_184 rfl (Nat.le_of_ble_eq_true rfl) (Nat.zero_le _) (Nat.zero_le _) ?_
    refine t_passA hL hP hA3 (by omega) (by omega) (fun m4 g4 h4 => ?_)
    have x17 := h4.b
    have y20 : m4 0 80 20 = m2 0 80 20 := by rw [g4.at (by simp [pTq])]; exact s20
    have y25 : m4 0 80 25 = m2 0 80 25 := by rw [g4.at (by simp [pTq])]; exact s25
    have y28 : m4 0 80 28 = Rr := by rw [g4.at (by simp [pTq])]; exact s28
    have y19 : m4 0 80 19 = 1 := by rw [g4.at (by simp [pTq])]; exact s19
    have y91 : m4 0 91 = m3 0 91 := g4.row (fun k => by simp [pTq])
    have yC : CdR m4 C0 (pp ++ nd) := sC.mv (by rw [y20, s20]) (g4.row (fun k => by simp [pTq])) (g4.row (fun k => by simp [pTq]))
    have gB : Ch (pLw C0 Rr) mi0 m4 := gA.tr (lw_Tq g4)
    refine r_aload_n (dc kc_X12_readLine_2 31 rfl) rfl <| s_getZ (dc kc_X12_readLine_2 32 rfl) fl_X12_146 <| s_if_ne (tgt := 209) (dc kc_X12_readLine_2 33 rfl) rfl (fun c201 => (?_)) (fun c201 => (?_))
    · exfalso; omega
    · by_cases hdm : 59 ≤ u2 ∧ tkF t N (nxF t N f2) ≠ 91 ∧ tkF t N (nxF t N f2) ≠ 23
      · have hdn := (hRh.dn (hrt.1 hdm)).mono (b := 9900) (by omega)
        unfold Tko at h4
        rw [if_pos hdm] at h4
        have x3 : DXz t N 0 m4 (nxF t N f2) := ⟨Or.inl h4, by omega, by omega, by omega, fun _ => by omega, by omega⟩
        refine r_aload_n (dc kc_X12_readLine_2 34 rfl) rfl <| k_i (dc kc_X12_readLine_2 35 rfl) rfl <| c_v1 (dc kc_X12_readLine_2 36 rfl) cl_X12_306 rfl (Nat.le_of_ble_eq_true rfl) (Nat.zero_le _) (Nat.zero_le _) ?_
        refine t_readExprD hL hN (Or.inr rfl) x3 (fun m5 g5 x5 => ?_)
        exact t_line209D hL hR0 hR1 (fun m' g' x' => hQD m' _ g' x' hdn) ((lw0 gB).tr (lw_pr g5)) x5.z0 (by rw [g5.at (by simp [pPr])]; exact y28)
      · unfold Tko at h4
        rw [if_neg hdm] at h4
        have hR4 := hRh.tr (hrt.2 hdm)
        rw [List.append_nil] at hR4
        refine r_aload_n (dc kc_X12_readLine_2 34 rfl) rfl <| k_i (dc kc_X12_readLine_2 35 rfl) rfl <| c_v1 (dc kc_X12_readLine_2 36 rfl) cl_X12_306 rfl (Nat.le_of_ble_eq_true rfl) (Nat.zero_le _) (Nat.zero_le _) ?_
        refine t_readExprA hL hP (o := 1) (C0 := C0) (K := pp ++ nd) (ts := true) (R := []) (tg := tg) (e := 1) (pp := pp) (v := nd) (c := []) h4 (by omega) yC hC0 (by omega) (by simp) y19 (Or.inr rfl) rfl (fun m5 f5 u5 c5 a5 g5 xA x24 xC xw xu xa xR => ?_) (fun m5 p5 g5 x5 d5 => ?_)
        · have hu5 := xA.2.2.2.2.2.1
          have v91 : m5 0 91 = m3 0 91 := by rw [g5.row (fun k => by simp [pPr])]; exact y91
          exact fin m5 f5 u5 c5 (a + 1 + a5) (gB.tr (lw_pr g5)) xA (by rw [g5.at (by simp [pPr])]; exact y28) (by omega) (fun k hk => by rw [v91]; exact s91 k hk) (by rw [v91]; exact s5) (by rw [v91]; exact s6) xC xw (by omega) (hR4.tr xR)
        · exact t_line209D hL hR0 hR1 (fun m' g' x' => hQD m' _ g' x' ((hR4.dn d5).mono (by omega))) ((lw0 gB).tr (lw_pr g5)) x5.z0 (by rw [g5.at (by simp [pPr])]; exact y28)
end RLN
