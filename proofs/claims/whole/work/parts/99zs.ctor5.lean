/-! the constructors: the reference; all final references -/
def f80 : LFT := [(0, 80, 2, (0, 81)), (0, 80, 3, (0, 82)), (0, 80, 4, (0, 83)), (0, 80, 5, (0, 84)), (0, 80, 6, (0, 85)), (0, 80, 10, (0, 86)), (0, 80, 21, (0, 87)), (0, 80, 22, (0, 88)), (0, 80, 23, (0, 89)), (0, 80, 26, (0, 90)), (0, 80, 27, (0, 91)), (0, 80, 29, (0, 92)), (0, 80, 37, (0, 93)), (0, 80, 38, (0, 94)), (0, 80, 39, (0, 95)), (0, 80, 40, (0, 96)), (0, 80, 41, (0, 97)), (0, 80, 42, (0, 98)), (0, 80, 43, (0, 99)), (0, 80, 44, (0, 100)), (0, 80, 47, (0, 101))]
def okB (j g : Nat) : Bool := if j = 5 ∨ j = 30 ∨ j = 40 then g == 0 else if j = 15 then g == 0 || g == 9 else if j = 20 then g == 0 || g == 10 || g == 20 || g == 21 else if j = 50 then decide (g < 5) else if j = 55 then decide (g < 2) else if j = 57 then decide (g < 4) else g == 0
theorem okI_B {j g : Nat} (h : okI 1 j g) : okB j g = true ∧ g < 25 := by
  unfold okI at h
  unfold okB
  split at h <;> simp_all <;> omega
theorem lay_all : frL.all (fun q => (List.range 25).all (fun g => !(okB q.1 g) || (f80 ++ fRst).contains (g, q.1, q.2.1, q.2.2 g))) = true := by decide +kernel
theorem LF.lay {r : MR} (h : LF (f80 ++ fRst) r) : Lay 1 r := fun q hq g hg => by
  obtain ⟨h1, h2⟩ := okI_B hg
  have a := List.all_eq_true.mp (List.all_eq_true.mp lay_all q hq) g (List.mem_range.mpr h2)
  rw [h1] at a
  have b : (f80 ++ fRst).contains (g, q.1, q.2.1, q.2.2 g) = true := by simpa using a
  exact h _ (List.contains_iff_mem.mp b)
def iniR (i : Int) : Int := if 110 ≤ i ∧ i < 146 then -1 else if 30 ≤ i ∧ i < 54 then loC (i - 30) else if i = 12 ∨ i = 20 then -1 else if i = 102 then 5 else if i = 103 then 2 else if i = 104 then 3 else if i = 105 then 2 else if i = 106 then 4 else 0
section INF
variable {d : Nat} {mr : MR} {mi : MI} {Q : V → MI → Nat → MR → Prop}
set_option maxRecDepth 16000 in
theorem i_model (hz : Fz 109 mi mr) (hF : LF fRst mr) (c80 : ∀ k, mi 0 80 k = 0) (hQ : ∀ mi' mr', Lay 1 mr' → Fz 130 mi' mr' → (∀ a b, b ≠ 80 → mr' a b = mr a b) → (∀ a b, b < 80 ∨ 101 < b → mi' a b = mi a b) → mi' 0 81 = iniR → (mi' 0 80 1 = 0 ∧ mi' 0 80 11 = 0 ∧ mi' 0 80 16 = -1 ∧ mi' 0 80 25 = 0 ∧ mi' 0 80 33 = 0) → (∀ k, mi' 0 84 k = 0 ∧ mi' 0 86 k = 0) → Q (vX 0) mi' 130 mr') : Tx (d+3) mt_X12_init [vR (some (0, 80))] mi 109 mr Q := by
  have hb : ∀ (m : MI) (r : MR), Cl [(0, 80)] mi m mr r → LF f80 r → m = up mi 0 80 16 (-1) → Run (d+3) mt_X12_init Q (130, r, 21, 18270) m 180 [vR (some (0, 80)), vX 0] [] := by
    intro m r hc hf em
    have hL : Lay 1 r := (LF.app hf (hF.cl hc (by decide +kernel))).lay
    have hzm : Fz 130 m r := hz.clb hc (by decide +kernel) (by omega)
    have z0 : ∀ (j : Nat) (k : Int), 81 ≤ j → j ≤ 101 → m 0 j k = 0 := fun j k h1 h2 => by
      have hj : nm (109 + (j - 81)) = (0, j) := by
        have : ∀ i, i < 21 → nm (109 + i) = (0, 81 + i) := by decide +kernel
        rw [this _ (by omega), show 81 + (j - 81) = j by omega]
      rw [em, up_j (by omega)]
      exact (hz.at (N := 0) hj (by omega) (by omega) k).1
    have hB : ∀ m' : MI, Cn (0, 81) m m' → m' 0 81 = (fun k => if 30 ≤ k ∧ k < 54 then loC (k - 30) else 0) → Run (d+3) mt_X12_init Q (130, r, 21, 18270) m' 215 [vR (some (0, 80)), vI 24] [] := by
      intro m' hm e81
      refine r_aload_n (dc kc_X12_init_2 28 rfl) rfl <| s_getA (dc kc_X12_init_2 29 rfl) fl_X12_7 (ly_80_2 hL) <| k_b (dc kc_X12_init_2 30 rfl) rfl <| k_i (dc kc_X12_init_2 31 rfl) rfl <| s_iastore (dc kc_X12_init_2 32 rfl) rfl (by first | omega | (simp [up] <;> omega)) (by first | omega | (simp [up] <;> omega)) <| r_aload_n (dc kc_X12_init_2 33 rfl) rfl <| s_getA (dc kc_X12_init_2 34 rfl) fl_X12_7 (ly_80_2 hL) <| k_b (dc kc_X12_init_2 35 rfl) rfl <| k_i (dc kc_X12_init_2 36 rfl) rfl <| s_iastore (dc kc_X12_init_2 37 rfl) rfl (by first | omega | (simp [up] <;> omega)) (by first | omega | (simp [up] <;> omega)) <| r_aload_n (dc kc_X12_init_2 38 rfl) rfl <| s_getA (dc kc_X12_init_2 39 rfl) fl_X12_7 (ly_80_2 hL) <| k_b (dc kc_X12_init_3 0 rfl) rfl <| k_i (dc kc_X12_init_3 1 rfl) rfl <| s_iastore (dc kc_X12_init_3 2 rfl) rfl (by first | omega | (simp [up] <;> omega)) (by first | omega | (simp [up] <;> omega)) <| r_aload_n (dc kc_X12_init_3 3 rfl) rfl <| s_getA (dc kc_X12_init_3 4 rfl) fl_X12_7 (ly_80_2 hL) <| k_b (dc kc_X12_init_3 5 rfl) rfl <| k_i (dc kc_X12_init_3 6 rfl) rfl <| s_iastore (dc kc_X12_init_3 7 rfl) rfl (by first | omega | (simp [up] <;> omega)) (by first | omega | (simp [up] <;> omega)) <| r_aload_n (dc kc_X12_init_3 8 rfl) rfl <| s_getA (dc kc_X12_init_3 9 rfl) fl_X12_7 (ly_80_2 hL) <| k_b (dc kc_X12_init_3 10 rfl) rfl <| k_i (dc kc_X12_init_3 11 rfl) rfl <| s_iastore (dc kc_X12_init_3 12 rfl) rfl (by first | omega | (simp [up] <;> omega)) (by first | omega | (simp [up] <;> omega)) <| r_aload_n (dc kc_X12_init_3 13 rfl) rfl <| s_getA (dc kc_X12_init_3 14 rfl) fl_X12_7 (ly_80_2 hL) <| k_b (dc kc_X12_init_3 15 rfl) rfl <| k_i (dc kc_X12_init_3 16 rfl) rfl <| s_iastore (dc kc_X12_init_3 17 rfl) rfl (by first | omega | (simp [up] <;> omega)) (by first | omega | (simp [up] <;> omega)) <| r_aload_n (dc kc_X12_init_3 18 rfl) rfl <| s_getA (dc kc_X12_init_3 19 rfl) fl_X12_7 (ly_80_2 hL) <| k_b (dc kc_X12_init_3 20 rfl) rfl <| k_i (dc kc_X12_init_3 21 rfl) rfl <| s_iastore (dc kc_X12_init_3 22 rfl) rfl (by first | omega | (simp [up] <;> omega)) (by first | omega | (simp [up] <;> omega)) <| r_aload_n (dc kc_X12_init_3 23 rfl) rfl <| c_v0 (dc kc_X12_init_3 24 rfl) cl_X12_83 rfl (Nat.le_of_ble_eq_true rfl) (Nat.le_of_ble_eq_true rfl) (Nat.le_of_ble_eq_true rfl) ?_
      have hg2 : Cn (0, 81) m (up (up (up (up (up (up (up m' 0 81 102 5) 0 81 103 2) 0 81 104 3) 0 81 105 2) 0 81 106 4) 0 81 12 (-1)) 0 81 20 (-1)) := fun a b k h => by
        rw [up_a h, up_a h, up_a h, up_a h, up_a h, up_a h, up_a h]; exact hm a b k h
      have e2 : up (up (up (up (up (up (up m' 0 81 102 5) 0 81 103 2) 0 81 104 3) 0 81 105 2) 0 81 106 4) 0 81 12 (-1)) 0 81 20 (-1) 0 81 = ud (ud (ud (ud (ud (ud (ud (fun k => if 30 ≤ k ∧ k < 54 then loC (k - 30) else 0) 102 5) 103 2) 104 3) 105 2) 106 4) 12 (-1)) 20 (-1) := by
        rw [up_ud, up_ud, up_ud, up_ud, up_ud, up_ud, up_ud, e81]
      generalize up (up (up (up (up (up (up m' 0 81 102 5) 0 81 103 2) 0 81 104 3) 0 81 105 2) 0 81 106 4) 0 81 12 (-1)) 0 81 20 (-1) = m2 at *
      refine t_clearLaws hL (fun m3 g3 e33 e813 => ?_)
      refine s_return (dc kc_X12_init_3 25 rfl) rfl (Nat.le_of_ble_eq_true rfl) (Nat.le_of_ble_eq_true rfl) ?_
      have off : ∀ a b k, b ≠ 81 → ¬ (b = 80 ∧ k = 33) → m3 a b k = m a b k := fun a b k h1 h2 => by
        rw [← hg2 a b k (fun z => h1 (by injection z))]
        rcases g3 a b k with z | z
        · exfalso
          have := z.2
          simp at this
          omega
        · exact z
      refine hQ m3 r hL ?_ (fun a b h => funext fun k => (hc a b k (fun z => h (by have := List.mem_singleton.mp z; injection this))).2) (fun a b h => funext fun k => ?_) ?_ ⟨?_, ?_, ?_, ?_, e33⟩ (fun k => ⟨?_, ?_⟩)
      · intro i h1 h2 k
        refine ⟨?_, (hzm i h1 h2 k).2⟩
        have hne : ∀ j, j < 130 → nm i ≠ nm j := fun j hj z => by have := nm_inj h2 (by omega) z; omega
        rcases g3 (nm i).1 (nm i).2 k with z | z
        · exfalso
          obtain ⟨y1, y2⟩ := z
          simp at y2
          rcases y2 with w | ⟨w, -⟩
          · exact hne 109 (by omega) (by rw [show nm 109 = (0, 81) from rfl, ← y1, ← w])
          · exact hne 108 (by omega) (by rw [show nm 108 = (0, 80) from rfl, ← y1, ← w])
        · rw [z, hg2 (nm i).1 (nm i).2 k (fun w => hne 109 (by omega) (by rw [show nm 109 = (0, 81) from rfl]; exact w))]
          exact (hzm i h1 h2 k).1
      · rw [off a b k (by omega) (by omega), em, up_j (by omega)]
      · rw [e813, e2]
        funext i
        unfold iniR ud
        by_cases h1 : 110 ≤ i ∧ i < 146
        · rw [if_pos h1, if_pos h1]
        · rw [if_neg h1, if_neg h1]
          by_cases h2 : 30 ≤ i ∧ i < 54
          · rw [if_pos h2, if_neg (by omega), if_neg (by omega), if_neg (by omega), if_neg (by omega), if_neg (by omega), if_neg (by omega), if_neg (by omega)]
            exact if_pos h2
          · rw [show (fun k : Int => if 30 ≤ k ∧ k < 54 then loC (k - 30) else 0) i = 0 from if_neg h2, if_neg h2]
            (repeat' split) <;> first | rfl | omega
      · rw [off 0 80 1 (by decide) (by decide), em, up_k (by decide)]; exact c80 1
      · rw [off 0 80 11 (by decide) (by decide), em, up_k (by decide)]; exact c80 11
      · rw [off 0 80 16 (by decide) (by decide), em, up_at]
      · rw [off 0 80 25 (by decide) (by decide), em, up_k (by decide)]; exact c80 25
      · rw [off 0 84 k (by decide) (by omega)]; exact z0 84 k (by decide) (by decide)
      · rw [off 0 86 k (by decide) (by omega)]; exact z0 86 k (by decide) (by decide)
    have loop : ∀ i : Nat, i ≤ 24 → ∀ m' : MI, Cn (0, 81) m m' → m' 0 81 = (fun k => if 30 ≤ k ∧ k < 30 + (i : Int) then loC (k - 30) else 0) → Run (d+3) mt_X12_init Q (130, r, 21, 18270) m' 182 [vR (some (0, 80)), vI (i : Int)] [] := by
      refine nloop ?_
      intro i hi ih m' hm e81
      have nx : ∀ v, v = loC (i : Int) → up m' 0 81 (30 + (i : Int)) v 0 81 = (fun k => if 30 ≤ k ∧ k < 30 + ((i + 1 : Nat) : Int) then loC (k - 30) else 0) := fun v hv => by
        rw [up_ud, e81]
        funext k
        unfold ud
        by_cases e : k = 30 + (i : Int)
        · rw [if_pos e, if_pos (by omega), hv, e, show 30 + (i : Int) - 30 = i by omega]
        · rw [if_neg e]
          by_cases e2 : 30 ≤ k ∧ k < 30 + (i : Int)
          · rw [if_pos (show 30 ≤ k ∧ k < 30 + ((i + 1 : Nat) : Int) by omega)]; exact if_pos e2
          · rw [if_neg (show ¬ (30 ≤ k ∧ k < 30 + ((i + 1 : Nat) : Int)) by omega)]; exact if_neg e2
      by_cases he : i < 24
      · refine s_iload_n (dc kc_X12_init_2 11 rfl) rfl <| k_b (dc kc_X12_init_2 12 rfl) rfl <| s_icmp_ge (tgt := 215) (dc kc_X12_init_2 13 rfl) rfl (fun c185 => (?_)) (fun c185 => (r_aload_n (dc kc_X12_init_2 14 rfl) rfl <| s_getA (dc kc_X12_init_2 15 rfl) fl_X12_7 (ly_80_2 hL) <| k_b (dc kc_X12_init_2 16 rfl) rfl <| s_iload_n (dc kc_X12_init_2 17 rfl) rfl <| b_iadd (dc kc_X12_init_2 18 rfl) (by first | omega | (simp [up] <;> omega)) (by first | omega | (simp [up] <;> omega)) <| s_iload_n (dc kc_X12_init_2 19 rfl) rfl <| c_s1r (dc kc_X12_init_2 20 rfl) cl_X12_79 rfl (Nat.le_of_ble_eq_true rfl) (Nat.le_of_ble_eq_true rfl) (Nat.le_of_ble_eq_true rfl) <| t_isNode (by first | omega | (simp [up] <;> omega)) <| s_if_eqb (tgt := 207) (dc kc_X12_init_2 21 rfl) rfl (fun c200 => (k_i (dc kc_X12_init_2 24 rfl) rfl <| s_iastore (dc kc_X12_init_2 25 rfl) rfl (by first | omega | (simp [up] <;> omega)) (by first | omega | (simp [up] <;> omega)) <| b_inc1 (dc kc_X12_init_2 26 rfl) rfl (Nat.le_of_ble_eq_true rfl) rfl (by first | omega | (simp [up] <;> omega)) (by first | omega | (simp [up] <;> omega)) <| s_goto (tgt := 182) (dc kc_X12_init_2 27 rfl) rfl <| ?_)) (fun c200 => (k_i (dc kc_X12_init_2 22 rfl) rfl <| s_goto (tgt := 208) (dc kc_X12_init_2 23 rfl) rfl <| s_iastore (dc kc_X12_init_2 25 rfl) rfl (by first | omega | (simp [up] <;> omega)) (by first | omega | (simp [up] <;> omega)) <| b_inc1 (dc kc_X12_init_2 26 rfl) rfl (Nat.le_of_ble_eq_true rfl) rfl (by first | omega | (simp [up] <;> omega)) (by first | omega | (simp [up] <;> omega)) <| s_goto (tgt := 182) (dc kc_X12_init_2 27 rfl) rfl <| ?_))))
        · exfalso; omega
        · refine ih he _ (fun a b k h => by rw [up_a h]; exact hm a b k h) (nx 0 ?_)
          unfold loC
          rw [if_neg (by omega)]
        · refine ih he _ (fun a b k h => by rw [up_a h]; exact hm a b k h) (nx (-1) ?_)
          unfold loC
          rw [if_pos (by omega)]
      · have : i = 24 := by omega
        subst this
        refine s_iload_n (dc kc_X12_init_2 11 rfl) rfl <| k_b (dc kc_X12_init_2 12 rfl) rfl <| s_icmp_ge (tgt := 215) (dc kc_X12_init_2 13 rfl) rfl (fun c185 => (?_)) (fun c185 => (?_))
        · exact hB m' hm e81
        · exfalso; omega
    refine k_i (dc kc_X12_init_2 9 rfl) rfl <| t_i1 (dc kc_X12_init_2 10 rfl) (Nat.le_of_ble_eq_true rfl) rfl <| ?_
    refine loop 0 (Nat.zero_le _) m (fun _ _ _ _ => rfl) ?_
    funext k
    rw [z0 81 k (by decide) (by decide), if_neg (by omega)]
  refine tx_intro (ls := [vR (some (0, 80)), vX 0]) om_X12_init rfl (Nat.le_of_ble_eq_true rfl) ?_
  refine r_aload_n (dc kc_X12_init_0 0 rfl) rfl <| s_objInit (dc kc_X12_init_0 1 rfl) oi_X12_1 im_obj co_obj <| r_aload_n (dc kc_X12_init_0 2 rfl) rfl <| k_s (dc kc_X12_init_0 3 rfl) rfl <| s_newa (dc kc_X12_init_0 4 rfl) (by first | assumption | rfl) rfl rfl (by first | decide | omega) (by decide) ?_ ac_int (Nat.le_of_ble_eq_true rfl) (Nat.le_of_ble_eq_true rfl) <| s_pAF (dc kc_X12_init_0 5 rfl) fl_X12_7 rfl (by decide) <| r_aload_n (dc kc_X12_init_0 6 rfl) rfl <| k_s (dc kc_X12_init_0 7 rfl) rfl <| s_newa (dc kc_X12_init_0 8 rfl) (by first | assumption | rfl) rfl rfl (by first | decide | omega) (by decide) ?_ ac_int (Nat.le_of_ble_eq_true rfl) (Nat.le_of_ble_eq_true rfl) <| s_pAF (dc kc_X12_init_0 9 rfl) fl_X12_13 rfl (by decide) <| r_aload_n (dc kc_X12_init_0 10 rfl) rfl <| k_s (dc kc_X12_init_0 11 rfl) rfl <| s_newa (dc kc_X12_init_0 12 rfl) (by first | assumption | rfl) rfl rfl (by first | decide | omega) (by decide) ?_ ac_int (Nat.le_of_ble_eq_true rfl) (Nat.le_of_ble_eq_true rfl) <| s_pAF (dc kc_X12_init_0 13 rfl) fl_X12_16 rfl (by decide) <| r_aload_n (dc kc_X12_init_0 14 rfl) rfl <| k_i (dc kc_X12_init_0 15 rfl) rfl <| s_newaZ (dc kc_X12_init_0 16 rfl) (by first | assumption | rfl) rfl rfl (by first | decide | omega) (by decide) ?_ ac_boolean (Nat.le_of_ble_eq_true rfl) (Nat.le_of_ble_eq_true rfl) <| s_pAF (dc kc_X12_init_0 17 rfl) fl_X12_19 rfl (by decide) <| r_aload_n (dc kc_X12_init_0 18 rfl) rfl <| k_b (dc kc_X12_init_0 19 rfl) rfl <| s_newa (dc kc_X12_init_0 20 rfl) (by first | assumption | rfl) rfl rfl (by first | decide | omega) (by decide) ?_ ac_int (Nat.le_of_ble_eq_true rfl) (Nat.le_of_ble_eq_true rfl) <| s_pAF (dc kc_X12_init_0 21 rfl) fl_X12_23 rfl (by decide) <| r_aload_n (dc kc_X12_init_0 22 rfl) rfl <| k_s (dc kc_X12_init_0 23 rfl) rfl <| s_newa (dc kc_X12_init_0 24 rfl) (by first | assumption | rfl) rfl rfl (by first | decide | omega) (by decide) ?_ ac_int (Nat.le_of_ble_eq_true rfl) (Nat.le_of_ble_eq_true rfl) <| s_pAF (dc kc_X12_init_0 25 rfl) fl_X12_26 rfl (by decide) <| r_aload_n (dc kc_X12_init_0 26 rfl) rfl <| k_i (dc kc_X12_init_0 27 rfl) rfl <| s_putI (dc kc_X12_init_0 28 rfl) fl_X12_29 <| r_aload_n (dc kc_X12_init_0 29 rfl) rfl <| k_s (dc kc_X12_init_0 30 rfl) rfl <| s_newa (dc kc_X12_init_0 31 rfl) (by first | assumption | rfl) rfl rfl (by first | decide | omega) (by decide) ?_ ac_int (Nat.le_of_ble_eq_true rfl) (Nat.le_of_ble_eq_true rfl) <| s_pAF (dc kc_X12_init_0 32 rfl) fl_X12_33 rfl (by decide) <| r_aload_n (dc kc_X12_init_0 33 rfl) rfl <| k_s (dc kc_X12_init_0 34 rfl) rfl <| s_newa (dc kc_X12_init_0 35 rfl) (by first | assumption | rfl) rfl rfl (by first | decide | omega) (by decide) ?_ ac_int (Nat.le_of_ble_eq_true rfl) (Nat.le_of_ble_eq_true rfl) <| s_pAF (dc kc_X12_init_0 36 rfl) fl_X12_36 rfl (by decide) <| r_aload_n (dc kc_X12_init_0 37 rfl) rfl <| k_s (dc kc_X12_init_0 38 rfl) rfl <| s_newa (dc kc_X12_init_0 39 rfl) (by first | assumption | rfl) rfl rfl (by first | decide | omega) (by decide) ?_ ac_int (Nat.le_of_ble_eq_true rfl) (Nat.le_of_ble_eq_true rfl) <| s_pAF (dc kc_X12_init_1 0 rfl) fl_X12_39 rfl (by decide) <| r_aload_n (dc kc_X12_init_1 1 rfl) rfl <| k_b (dc kc_X12_init_1 2 rfl) rfl <| s_newa (dc kc_X12_init_1 3 rfl) (by first | assumption | rfl) rfl rfl (by first | decide | omega) (by decide) ?_ ac_int (Nat.le_of_ble_eq_true rfl) (Nat.le_of_ble_eq_true rfl) <| s_pAF (dc kc_X12_init_1 4 rfl) fl_X12_42 rfl (by decide) <| r_aload_n (dc kc_X12_init_1 5 rfl) rfl <| k_b (dc kc_X12_init_1 6 rfl) rfl <| s_newa (dc kc_X12_init_1 7 rfl) (by first | assumption | rfl) rfl rfl (by first | decide | omega) (by decide) ?_ ac_int (Nat.le_of_ble_eq_true rfl) (Nat.le_of_ble_eq_true rfl) <| s_pAF (dc kc_X12_init_1 8 rfl) fl_X12_45 rfl (by decide) <| r_aload_n (dc kc_X12_init_1 9 rfl) rfl <| k_s (dc kc_X12_init_1 10 rfl) rfl <| s_newa (dc kc_X12_init_1 11 rfl) (by first | assumption | rfl) rfl rfl (by first | decide | omega) (by decide) ?_ ac_int (Nat.le_of_ble_eq_true rfl) (Nat.le_of_ble_eq_true rfl) <| s_pAF (dc kc_X12_init_1 12 rfl) fl_X12_48 rfl (by decide) <| r_aload_n (dc kc_X12_init_1 13 rfl) rfl <| k_s (dc kc_X12_init_1 14 rfl) rfl <| s_newaJ (dc kc_X12_init_1 15 rfl) (by first | assumption | rfl) rfl rfl (by first | decide | omega) (by decide) ?_ ac_long (Nat.le_of_ble_eq_true rfl) (Nat.le_of_ble_eq_true rfl) <| s_pAF (dc kc_X12_init_1 16 rfl) fl_X12_51 rfl (by decide) <| r_aload_n (dc kc_X12_init_1 17 rfl) rfl <| k_i (dc kc_X12_init_1 18 rfl) rfl <| s_newa (dc kc_X12_init_1 19 rfl) (by first | assumption | rfl) rfl rfl (by first | decide | omega) (by decide) ?_ ac_int (Nat.le_of_ble_eq_true rfl) (Nat.le_of_ble_eq_true rfl) <| s_pAF (dc kc_X12_init_1 20 rfl) fl_X12_55 rfl (by decide) <| r_aload_n (dc kc_X12_init_1 21 rfl) rfl <| k_i (dc kc_X12_init_1 22 rfl) rfl <| s_newa (dc kc_X12_init_1 23 rfl) (by first | assumption | rfl) rfl rfl (by first | decide | omega) (by decide) ?_ ac_int (Nat.le_of_ble_eq_true rfl) (Nat.le_of_ble_eq_true rfl) <| s_pAF (dc kc_X12_init_1 24 rfl) fl_X12_58 rfl (by decide) <| r_aload_n (dc kc_X12_init_1 25 rfl) rfl <| k_i (dc kc_X12_init_1 26 rfl) rfl <| s_newa (dc kc_X12_init_1 27 rfl) (by first | assumption | rfl) rfl rfl (by first | decide | omega) (by decide) ?_ ac_int (Nat.le_of_ble_eq_true rfl) (Nat.le_of_ble_eq_true rfl) <| s_pAF (dc kc_X12_init_1 28 rfl) fl_X12_61 rfl (by decide) <| r_aload_n (dc kc_X12_init_1 29 rfl) rfl <| k_i (dc kc_X12_init_1 30 rfl) rfl <| s_newa (dc kc_X12_init_1 31 rfl) (by first | assumption | rfl) rfl rfl (by first | decide | omega) (by decide) ?_ ac_int (Nat.le_of_ble_eq_true rfl) (Nat.le_of_ble_eq_true rfl) <| s_pAF (dc kc_X12_init_1 32 rfl) fl_X12_64 rfl (by decide) <| r_aload_n (dc kc_X12_init_1 33 rfl) rfl <| k_i (dc kc_X12_init_1 34 rfl) rfl <| s_newa (dc kc_X12_init_1 35 rfl) (by first | assumption | rfl) rfl rfl (by first | decide | omega) (by decide) ?_ ac_int (Nat.le_of_ble_eq_true rfl) (Nat.le_of_ble_eq_true rfl) <| s_pAF (dc kc_X12_init_1 36 rfl) fl_X12_67 rfl (by decide) <| r_aload_n (dc kc_X12_init_1 37 rfl) rfl <| k_b (dc kc_X12_init_1 38 rfl) rfl <| s_newa (dc kc_X12_init_1 39 rfl) (by first | assumption | rfl) rfl rfl (by first | decide | omega) (by decide) ?_ ac_int (Nat.le_of_ble_eq_true rfl) (Nat.le_of_ble_eq_true rfl) <| s_pAF (dc kc_X12_init_2 0 rfl) fl_X12_70 rfl (by decide) <| r_aload_n (dc kc_X12_init_2 1 rfl) rfl <| k_b (dc kc_X12_init_2 2 rfl) rfl <| s_newa (dc kc_X12_init_2 3 rfl) (by first | assumption | rfl) rfl rfl (by first | decide | omega) (by decide) ?_ ac_int (Nat.le_of_ble_eq_true rfl) (Nat.le_of_ble_eq_true rfl) <| s_pAF (dc kc_X12_init_2 4 rfl) fl_X12_73 rfl (by decide) <| r_aload_n (dc kc_X12_init_2 5 rfl) rfl <| k_b (dc kc_X12_init_2 6 rfl) rfl <| s_newa (dc kc_X12_init_2 7 rfl) (by first | assumption | rfl) rfl rfl (by first | decide | omega) (by decide) ?_ ac_int (Nat.le_of_ble_eq_true rfl) (Nat.le_of_ble_eq_true rfl) <| s_pAF (dc kc_X12_init_2 8 rfl) fl_X12_76 rfl (by decide) <| ?_
  all_goals first | exact (hz.clb (A := [(0, 80)]) (by repeat (first | exact Cl.rf | refine Cl.up rfl ?_ | refine Cl.upR rfl ?_)) (by decide +kernel) (by omega)).fr (by omega) | skip
  refine hb _ _ (by repeat (first | exact Cl.rf | refine Cl.up rfl ?_ | refine Cl.upR rfl ?_)) ?_ rfl
  repeat' (first | exact LF.nil | refine LF.cons ?_ ?_)
  all_goals simp [upR]
end INF
