/-! the reference: a law -/
def pLw (C0 R : Int) (j : Nat) (k : Int) : Bool := pPr C0 j k || (j == 91 && decide (10 * R ≤ k)) || (j == 80 && k == 28)
theorem lw_pr {C0 R : Int} {m m' : MI} (h : Ch (pPr C0) m m') : Ch (pLw C0 R) m m' := h.mono (fun j k z => by simp [pLw, z])
theorem lw_Tq {C0 R : Int} {m m' : MI} (h : Ch pTq m m') : Ch (pLw C0 R) m m' := lw_pr (pr_Tq h)
def lawM (m : MI) (l : Int) : List CT := if m 0 91 (10 * l) = 4 then slcR m (m 0 91 (10 * l + 4) - m 0 91 (10 * l + 3)).toNat (m 0 91 (10 * l + 3)) else if m 0 91 (10 * l) = 0 then [(0, m 0 91 (10 * l + 1))] else if m 0 91 (10 * l) = 1 then [(1, m 0 91 (10 * l + 1))] else if m 0 91 (10 * l) = 2 then [(2, m 0 91 (10 * l + 1))] else [(25, m 0 91 (10 * l + 1)), (3, m 0 91 (10 * l + 2))]
theorem DXz.mv {t : Int → Int} {N p z : Int} {m m' : MI} {P : Nat → Int → Bool} (h : DXz t N z m p) (hm : Ch P m m') (h86 : ∀ k, P 86 k = false) (h80 : ∀ k, 11 ≤ k → k ≤ 25 → P 80 k = false) : DXz t N z m' p := by
  obtain ⟨a1, a2, a3, a4, a5, a6⟩ := h
  unfold DXz
  rw [hm.at (h80 20 (by decide) (by decide)), hm.at (h80 17 (by decide) (by decide)), hm.at (h80 25 (by decide) (by decide))]
  exact ⟨a1.mv hm h86 (fun k k0 k1 => h80 k k0 (by omega)), a2, a3, a4, a5, a6⟩
theorem ch_91 {z y : Int} {m : MI} : Ch (fun j _ => j == 91) m (up m 0 91 z y) := Ch.rf.up (by simp)
theorem lw_91 {C0 R z y : Int} {m m' : MI} (h : Ch (pLw C0 R) m m') (hz : 10 * R ≤ z) : Ch (pLw C0 R) m (up m' 0 91 z y) := h.up (by simp [pLw]; omega)
theorem DXz.u91 {t : Int → Int} {N p z y q : Int} {m : MI} (h : DXz t N q m p) : DXz t N q (up m 0 91 z y) p := h.mv ch_91 (fun k => by simp) (fun k k0 k1 => by simp)
section RLW
variable {d n G : Nat} {mr : MR} {Q : V → MI → Nat → MR → Prop} {t : Int → Int} {N : Int}
theorem t_numD (hL : Lay G mr) {mi : MI} {p q : Int} (hX : DXz t N 0 mi p) (hQ : ∀ mi' v, Ch pTq mi mi' → DXz t N 0 mi' p → Q (vI v) mi' n mr) : Tx (d+5) mt_X12_number [vR (some (0, 80)), vL q] mi n mr Q := by
  obtain ⟨x1, x2, x3, x4, x5, x6⟩ := hX
  refine t_numberD hL x1 (fun m2 v g2 h2 => hQ m2 v g2 ⟨Or.inr h2, ?_, x3, ?_, fun z => ?_, ?_⟩)
  · rw [g2.at (by simp [pTq])]; exact x2
  · rw [g2.at (by simp [pTq])]; exact x4
  · have := h2.1; omega
  · rw [g2.at (by simp [pTq])]; exact x6
theorem t_law195D (hL : Lay G mr) {mi0 : MI} {p its Rr : Int} (hN : N ≤ 400) (hR0 : 0 ≤ Rr) (hR1 : Rr < 12) (hQ : ∀ m', Ch (pLw 0 0) mi0 m' → DXz t N 0 m' p → Q (vX 0) m' n mr) {m2 : MI} (g2 : Ch (pLw 0 0) mi0 m2) (x2 : DXz t N 0 m2 p) (e28 : m2 0 80 28 = Rr) : Run (d+10) mt_X12_readLaw Q (n, mr, 0, 0) m2 195 [vR (some (0, 80)), vI its, vI (10 * Rr)] [] := by
  have u28 : ∀ z y, up m2 0 91 z y 0 80 28 = Rr := fun z y => by rw [up_j (by decide)]; exact e28
  refine r_aload_n (dc kc_X12_readLaw_2 23 rfl) rfl <| s_getA (dc kc_X12_readLaw_2 24 rfl) fl_X12_45 (ly_80_27 hL) <| s_iload_n (dc kc_X12_readLaw_2 25 rfl) rfl <| k_i (dc kc_X12_readLaw_2 26 rfl) rfl <| b_iadd (dc kc_X12_readLaw_2 27 rfl) (by first | omega | (simp [up] <;> omega)) (by first | omega | (simp [up] <;> omega)) <| r_aload_n (dc kc_X12_readLaw_2 28 rfl) rfl <| s_getI (dc kc_X12_readLaw_2 29 rfl) fl_X12_191 <| s_iastore (dc kc_X12_readLaw_2 30 rfl) rfl (by first | omega | (simp [up] <;> omega)) (by first | omega | (simp [up] <;> omega)) <| r_aload_n (dc kc_X12_readLaw_2 31 rfl) rfl <| s_dup (dc kc_X12_readLaw_2 32 rfl) rfl <| s_getI (dc kc_X12_readLaw_2 33 rfl) fl_X12_303 <| k_i (dc kc_X12_readLaw_2 34 rfl) rfl <| b_iadd (dc kc_X12_readLaw_2 35 rfl) (by first | omega | (simp [up] <;> omega)) (by first | omega | (simp [up] <;> omega)) <| s_putI (dc kc_X12_readLaw_2 36 rfl) fl_X12_303 <| s_return (dc kc_X12_readLaw_2 37 rfl) rfl (Nat.zero_le _) (Nat.zero_le _) ?_
  rw [u28]
  refine hQ _ ((lw_91 g2 (by omega)).up (by simp [pLw])) (x2.u91.mv (P := fun j k => j == 80 && k == 28) (Ch.rf.up (by simp)) (fun k => by simp) (fun k k0 k1 => by simp; omega))
theorem t_law165D (hL : Lay G mr) {mi0 : MI} {p its Rr : Int} (hN : N ≤ 400) (hR0 : 0 ≤ Rr) (hR1 : Rr < 12) (hQ : ∀ m', Ch (pLw 0 0) mi0 m' → DXz t N 0 m' p → Q (vX 0) m' n mr) {m2 : MI} {y : Int} (g2 : Ch (pLw 0 0) mi0 m2) (x2 : DXz t N 0 m2 p) (e28 : m2 0 80 28 = Rr) : Run (d+10) mt_X12_readLaw Q (n, mr, 0, 0) m2 165 [vR (some (0, 80)), vI its, vI (10 * Rr)] [vI y, vI (10 * Rr + 2), vR (some (0, 91))] := by
  refine s_iastore (dc kc_X12_readLaw_2 5 rfl) rfl (by first | omega | (simp [up] <;> omega)) (by first | omega | (simp [up] <;> omega)) <| r_aload_n (dc kc_X12_readLaw_2 6 rfl) rfl <| s_getA (dc kc_X12_readLaw_2 7 rfl) fl_X12_45 (ly_80_27 hL) <| s_iload_n (dc kc_X12_readLaw_2 8 rfl) rfl <| k_i (dc kc_X12_readLaw_2 9 rfl) rfl <| b_iadd (dc kc_X12_readLaw_2 10 rfl) (by first | omega | (simp [up] <;> omega)) (by first | omega | (simp [up] <;> omega)) <| r_aload_n (dc kc_X12_readLaw_2 11 rfl) rfl <| s_getI (dc kc_X12_readLaw_2 12 rfl) fl_X12_191 <| s_iastore (dc kc_X12_readLaw_2 13 rfl) rfl (by first | omega | (simp [up] <;> omega)) (by first | omega | (simp [up] <;> omega)) <| ?_
  have g3 := lw_91 (z := 10 * Rr + 3) (y := up m2 0 91 (10 * Rr + 2) y 0 80 20) (lw_91 (z := 10 * Rr + 2) (y := y) g2 (by omega)) (by omega)
  have x3 : DXz t N 0 (up (up m2 0 91 (10 * Rr + 2) y) 0 91 (10 * Rr + 3) (up m2 0 91 (10 * Rr + 2) y 0 80 20)) p := x2.u91.u91
  have e3 : up (up m2 0 91 (10 * Rr + 2) y) 0 91 (10 * Rr + 3) (up m2 0 91 (10 * Rr + 2) y 0 80 20) 0 80 28 = Rr := by rw [up_j (by decide), up_j (by decide)]; exact e28
  generalize up (up m2 0 91 (10 * Rr + 2) y) 0 91 (10 * Rr + 3) (up m2 0 91 (10 * Rr + 2) y 0 80 20) = m3 at *
  refine s_iload_n (dc kc_X12_readLaw_2 14 rfl) rfl <| k_i (dc kc_X12_readLaw_2 15 rfl) rfl <| s_icmp_ne (tgt := 195) (dc kc_X12_readLaw_2 16 rfl) rfl (fun c180 => (?_)) (fun c180 => (r_aload_n (dc kc_X12_readLaw_2 17 rfl) rfl <| s_getZ (dc kc_X12_readLaw_2 18 rfl) fl_X12_146 <| s_if_ne (tgt := 195) (dc kc_X12_readLaw_2 19 rfl) rfl (fun c187 => (?_)) (fun c187 => (r_aload_n (dc kc_X12_readLaw_2 20 rfl) rfl <| k_i (dc kc_X12_readLaw_2 21 rfl) rfl <| c_v1 (dc kc_X12_readLaw_2 22 rfl) cl_X12_306 rfl (Nat.le_of_ble_eq_true rfl) (Nat.zero_le _) (Nat.zero_le _) ?_))))
  · exact t_law195D hL hN hR0 hR1 hQ g3 x3 e3
  · exact t_law195D hL hN hR0 hR1 hQ g3 x3 e3
  · refine t_readExprD hL hN (Or.inr rfl) x3 (fun m4 g4 x4 => ?_)
    exact t_law195D hL hN hR0 hR1 hQ (g3.tr (lw_pr g4)) x4.z0 (by rw [g4.at (by simp [pPr])]; exact e3)
theorem t_law141D (hL : Lay G mr) {mi0 : MI} {p its Rr : Int} (hN : N ≤ 400) (hR0 : 0 ≤ Rr) (hR1 : Rr < 12) (hQ : ∀ m', Ch (pLw 0 0) mi0 m' → DXz t N 0 m' p → Q (vX 0) m' n mr) {m2 : MI} {y : Int} (g2 : Ch (pLw 0 0) mi0 m2) (x2 : DXz t N 0 m2 p) (e28 : m2 0 80 28 = Rr) : Run (d+10) mt_X12_readLaw Q (n, mr, 0, 0) m2 141 [vR (some (0, 80)), vI its, vI (10 * Rr)] [vI y, vI (10 * Rr + 1), vR (some (0, 91))] := by
  refine s_iastore (dc kc_X12_readLaw_1 31 rfl) rfl (by first | omega | (simp [up] <;> omega)) (by first | omega | (simp [up] <;> omega)) <| r_aload_n (dc kc_X12_readLaw_1 32 rfl) rfl <| s_getA (dc kc_X12_readLaw_1 33 rfl) fl_X12_45 (ly_80_27 hL) <| s_iload_n (dc kc_X12_readLaw_1 34 rfl) rfl <| k_i (dc kc_X12_readLaw_1 35 rfl) rfl <| b_iadd (dc kc_X12_readLaw_1 36 rfl) (by first | omega | (simp [up] <;> omega)) (by first | omega | (simp [up] <;> omega)) <| s_iload_n (dc kc_X12_readLaw_1 37 rfl) rfl <| k_i (dc kc_X12_readLaw_1 38 rfl) rfl <| s_icmp_ne (tgt := 164) (dc kc_X12_readLaw_1 39 rfl) rfl (fun c151 => (k_i (dc kc_X12_readLaw_2 4 rfl) rfl <| ?_)) (fun c151 => (r_aload_n (dc kc_X12_readLaw_2 0 rfl) rfl <| k_j (dc kc_X12_readLaw_2 1 rfl) kj_X12_235 rfl (a := 2) (by decide) <| c_v1r (dc kc_X12_readLaw_2 2 rfl) cl_X12_237 rfl (Nat.le_of_ble_eq_true rfl) (Nat.zero_le _) (Nat.zero_le _) ?_))
  · exact t_law165D hL hN hR0 hR1 hQ (lw_91 g2 (by omega)) x2.u91 (by rw [up_j (by decide)]; exact e28)
  · refine t_numD hL (DXz.u91 x2) (fun m3 z g3 x3 => ?_)
    refine s_goto (tgt := 165) (dc kc_X12_readLaw_2 3 rfl) rfl <| ?_
    exact t_law165D hL hN hR0 hR1 hQ ((lw_91 g2 (by omega)).tr (lw_Tq g3)) x3 (by rw [g3.at (by simp [pTq]), up_j (by decide)]; exact e28)
end RLW
