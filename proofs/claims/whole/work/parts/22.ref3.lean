/-! the reference: readWay, the evaluation of laws' own words -/
theorem Bm.congr {x : Int} {L L' : List Int} (h : Bm x L) (hm : ∀ a, a ∈ L ↔ a ∈ L') : Bm x L' := ⟨h.1, fun i hi => (h.2 i hi).trans (hm i)⟩
theorem Bm.or {x y : Int} {L L' : List Int} (h : Bm x L) (h' : Bm y L') : Bm (bOr x y) (L ++ L') := ⟨bOr_rg _ _, fun i hi => by rw [tB_or, Bool.or_eq_true, h.2 i hi, h'.2 i hi, List.mem_append]⟩
theorem Bm.one {a : Int} (h0 : 0 ≤ a) (h1 : a < 32) : Bm (bShl 1 a) [a] := ⟨bShl_rg _ _, fun i hi => by rw [tB_bit h0 h1 hi, decide_eq_true_eq, List.mem_singleton]; omega⟩
/-- what is asked of a node on a way -/
def askN (b k x : Int) : List Int := (6 + 3 * x) :: ((if b ≠ 0 then [7 + 3 * x] else []) ++ (if k ≠ 0 then [8 + 3 * x] else []))
def askW (c : Int → Int) (h b k : Int) : List Int := h :: (way c h).flatMap (askN b k)
theorem way_rg {c : Int → Int} (hc : VC c) {h : Int} (h0 : 0 ≤ h) (h1 : h < 3) : ∀ x ∈ way c h, 0 ≤ x ∧ x ≤ 5 := wayL_rg hc 6 [] _ (hc.1 h h0 h1).1 (hc.1 h h0 h1).2
theorem way_len (c : Int → Int) (h : Int) : (way c h).length ≤ 6 := wayL_len c 6 [] _
theorem Arr.mem {f : Int → Int} {L : List Int} (h : Arr f L) {i : Int} (h0 : 0 ≤ i) (h1 : i < L.length) : f i ∈ L := by
  have := h i.toNat (by omega)
  rw [Int.toNat_of_nonneg h0] at this
  exact List.mem_of_getElem? this
theorem Arr.take {f : Int → Int} {L : List Int} (h : Arr f L) {i : Nat} (h1 : i < L.length) : L.take (i + 1) = L.take i ++ [f i] := by
  rw [List.take_succ, h i h1]
  rfl
section REF3
variable {d n G : Nat} {mr : MR} {Q : V → MI → Nat → MR → Prop}
theorem readWay_loop (hL : Lay G mr) {mi0 : MI} {hd b k : Int} {W L0 : List Int} (hW : ∀ x ∈ W, 0 ≤ x ∧ x ≤ 5) (hWl : W.length ≤ 6) (hQ : ∀ mi', Ch pR mi0 mi' → mi' 0 80 7 = W.length → mi' 0 80 8 = mi0 0 80 8 → Arr (mi' 0 85) W → Bm (mi' 0 80 9) (W.flatMap (askN b k) ++ L0) → Q (vX 0) mi' n mr) : ∀ (r i : Nat) (mi : MI), i + r = W.length → Ch pR mi0 mi → mi 0 80 7 = W.length → mi 0 80 8 = mi0 0 80 8 → Arr (mi 0 85) W → Bm (mi 0 80 9) ((W.take i).flatMap (askN b k) ++ L0) → Run (d+2) mt_X12_readWay Q (n, mr, 0, 0) mi 13 [vR (some (0, 80)), vI hd, vI b, vI k, vI (i : Int)] [] := by
  intro r
  induction r with
  | zero =>
    intro i mi hi hCh h7 h8 hA hB
    refine s_iload (dc kc_X12_readWay_0 8 rfl) rfl <| r_aload_n (dc kc_X12_readWay_0 9 rfl) rfl <| s_getI (dc kc_X12_readWay_0 10 rfl) fl_X12_111 <| s_icmp_ge (tgt := 92) (dc kc_X12_readWay_0 11 rfl) rfl (fun c19 => (s_return (dc kc_X12_readWay_1 9 rfl) rfl (Nat.zero_le _) (Nat.zero_le _) ?_)) (fun c19 => (?_))
    · refine hQ _ hCh h7 h8 hA ?_
      rw [List.take_of_length_le (by omega)] at hB
      exact hB
    · exfalso; omega
  | succ r ih =>
    intro i mi hi hCh h7 h8 hA hB
    have hx := hW _ (hA.mem (i := i) (by omega) (by omega))
    have hstep : ∀ y, Bm y ((if b ≠ 0 then [7 + 3 * mi 0 85 i] else []) ++ (if k ≠ 0 then [8 + 3 * mi 0 85 i] else [])) → Run (d+2) mt_X12_readWay Q (n, mr, 0, 0) (up (up mi 0 80 9 (bOr (mi 0 80 9) (bShl 1 (6 + 3 * mi 0 85 i)))) 0 80 9 (bOr (bOr (mi 0 80 9) (bShl 1 (6 + 3 * mi 0 85 i))) y)) 13 [vR (some (0, 80)), vI hd, vI b, vI k, vI ((i : Int) + 1)] [] := by
      intro y hy
      refine ih (i + 1) _ (by omega) ((hCh.up rfl).up rfl) (by rw [up_k (by decide), up_k (by decide)]; exact h7) (by rw [up_k (by decide), up_k (by decide)]; exact h8) (by rw [up_j (by decide), up_j (by decide)]; exact hA) ?_
      rw [up_at, hA.take (by omega)]
      refine ((hB.set (a := 6 + 3 * mi 0 85 i) (by omega) (by omega)).or hy).congr (fun a => ?_)
      simp only [List.flatMap_append, List.flatMap_cons, List.flatMap_nil, List.append_nil, askN, List.mem_append, List.mem_cons]
      constructor
      · rintro ((q | q | q) | q)
        · exact Or.inl (Or.inr (Or.inl q))
        · exact Or.inl (Or.inl q)
        · exact Or.inr q
        · exact Or.inl (Or.inr (Or.inr q))
      · rintro ((q | q | q) | q)
        · exact Or.inl (Or.inr (Or.inl q))
        · exact Or.inl (Or.inl q)
        · exact Or.inr q
        · exact Or.inl (Or.inr (Or.inr q))
    refine s_iload (dc kc_X12_readWay_0 8 rfl) rfl <| r_aload_n (dc kc_X12_readWay_0 9 rfl) rfl <| s_getI (dc kc_X12_readWay_0 10 rfl) fl_X12_111 <| s_icmp_ge (tgt := 92) (dc kc_X12_readWay_0 11 rfl) rfl (fun c19 => (?_)) (fun c19 => (r_aload_n (dc kc_X12_readWay_0 12 rfl) rfl <| r_aload_n (dc kc_X12_readWay_0 13 rfl) rfl <| s_getA (dc kc_X12_readWay_0 14 rfl) fl_X12_23 (ly_80_6 hL) <| s_iload (dc kc_X12_readWay_0 15 rfl) rfl <| s_iaload (dc kc_X12_readWay_0 16 rfl) rfl (by first | omega | (simp [up] <;> omega)) (by first | omega | (simp [up] <;> omega)) <| c_s1r (dc kc_X12_readWay_0 17 rfl) cl_X12_114 rfl (Nat.le_of_ble_eq_true rfl) (Nat.zero_le _) (Nat.zero_le _) <| t_nextOf (by first | omega | (simp [up] <;> omega)) (by first | omega | (simp [up] <;> omega)) <| c_v1 (dc kc_X12_readWay_0 18 rfl) cl_X12_128 rfl (Nat.le_of_ble_eq_true rfl) (Nat.zero_le _) (Nat.zero_le _) <| t_readCell <| r_aload_n (dc kc_X12_readWay_0 19 rfl) rfl <| s_dup (dc kc_X12_readWay_0 20 rfl) rfl <| s_getI (dc kc_X12_readWay_0 21 rfl) fl_X12_121 <| s_iload_n (dc kc_X12_readWay_0 22 rfl) rfl <| s_if_eq (tgt := 60) (dc kc_X12_readWay_0 23 rfl) rfl (fun c42 => (k_i (dc kc_X12_readWay_0 32 rfl) rfl <| s_iload_n (dc kc_X12_readWay_0 33 rfl) rfl <| s_if_eq (tgt := 80) (dc kc_X12_readWay_0 34 rfl) rfl (fun c62 => (k_i (dc kc_X12_readWay_1 3 rfl) rfl <| s_ior (dc kc_X12_readWay_1 4 rfl) <| s_ior (dc kc_X12_readWay_1 5 rfl) <| s_putI (dc kc_X12_readWay_1 6 rfl) fl_X12_121 <| b_inc4 (dc kc_X12_readWay_1 7 rfl) rfl (Nat.le_of_ble_eq_true rfl) rfl (by first | omega | (simp [up] <;> omega)) (by first | omega | (simp [up] <;> omega)) <| s_goto (tgt := 13) (dc kc_X12_readWay_1 8 rfl) rfl <| ?_)) (fun c62 => (k_i (dc kc_X12_readWay_0 35 rfl) rfl <| r_aload_n (dc kc_X12_readWay_0 36 rfl) rfl <| s_getA (dc kc_X12_readWay_0 37 rfl) fl_X12_23 (ly_80_6 hL) <| s_iload (dc kc_X12_readWay_0 38 rfl) rfl <| s_iaload (dc kc_X12_readWay_0 39 rfl) rfl (by first | omega | (simp [up] <;> omega)) (by first | omega | (simp [up] <;> omega)) <| c_s1r (dc kc_X12_readWay_1 0 rfl) cl_X12_134 rfl (Nat.le_of_ble_eq_true rfl) (Nat.zero_le _) (Nat.zero_le _) <| t_keyOf (by first | omega | (simp [up] <;> omega)) (by first | omega | (simp [up] <;> omega)) <| s_ishl (dc kc_X12_readWay_1 1 rfl) <| s_goto (tgt := 81) (dc kc_X12_readWay_1 2 rfl) rfl <| s_ior (dc kc_X12_readWay_1 4 rfl) <| s_ior (dc kc_X12_readWay_1 5 rfl) <| s_putI (dc kc_X12_readWay_1 6 rfl) fl_X12_121 <| b_inc4 (dc kc_X12_readWay_1 7 rfl) rfl (Nat.le_of_ble_eq_true rfl) rfl (by first | omega | (simp [up] <;> omega)) (by first | omega | (simp [up] <;> omega)) <| s_goto (tgt := 13) (dc kc_X12_readWay_1 8 rfl) rfl <| ?_)))) (fun c42 => (k_i (dc kc_X12_readWay_0 24 rfl) rfl <| r_aload_n (dc kc_X12_readWay_0 25 rfl) rfl <| s_getA (dc kc_X12_readWay_0 26 rfl) fl_X12_23 (ly_80_6 hL) <| s_iload (dc kc_X12_readWay_0 27 rfl) rfl <| s_iaload (dc kc_X12_readWay_0 28 rfl) rfl (by first | omega | (simp [up] <;> omega)) (by first | omega | (simp [up] <;> omega)) <| c_s1r (dc kc_X12_readWay_0 29 rfl) cl_X12_131 rfl (Nat.le_of_ble_eq_true rfl) (Nat.zero_le _) (Nat.zero_le _) <| t_backOf (by first | omega | (simp [up] <;> omega)) (by first | omega | (simp [up] <;> omega)) <| s_ishl (dc kc_X12_readWay_0 30 rfl) <| s_goto (tgt := 61) (dc kc_X12_readWay_0 31 rfl) rfl <| s_iload_n (dc kc_X12_readWay_0 33 rfl) rfl <| s_if_eq (tgt := 80) (dc kc_X12_readWay_0 34 rfl) rfl (fun c62 => (k_i (dc kc_X12_readWay_1 3 rfl) rfl <| s_ior (dc kc_X12_readWay_1 4 rfl) <| s_ior (dc kc_X12_readWay_1 5 rfl) <| s_putI (dc kc_X12_readWay_1 6 rfl) fl_X12_121 <| b_inc4 (dc kc_X12_readWay_1 7 rfl) rfl (Nat.le_of_ble_eq_true rfl) rfl (by first | omega | (simp [up] <;> omega)) (by first | omega | (simp [up] <;> omega)) <| s_goto (tgt := 13) (dc kc_X12_readWay_1 8 rfl) rfl <| ?_)) (fun c62 => (k_i (dc kc_X12_readWay_0 35 rfl) rfl <| r_aload_n (dc kc_X12_readWay_0 36 rfl) rfl <| s_getA (dc kc_X12_readWay_0 37 rfl) fl_X12_23 (ly_80_6 hL) <| s_iload (dc kc_X12_readWay_0 38 rfl) rfl <| s_iaload (dc kc_X12_readWay_0 39 rfl) rfl (by first | omega | (simp [up] <;> omega)) (by first | omega | (simp [up] <;> omega)) <| c_s1r (dc kc_X12_readWay_1 0 rfl) cl_X12_134 rfl (Nat.le_of_ble_eq_true rfl) (Nat.zero_le _) (Nat.zero_le _) <| t_keyOf (by first | omega | (simp [up] <;> omega)) (by first | omega | (simp [up] <;> omega)) <| s_ishl (dc kc_X12_readWay_1 1 rfl) <| s_goto (tgt := 81) (dc kc_X12_readWay_1 2 rfl) rfl <| s_ior (dc kc_X12_readWay_1 4 rfl) <| s_ior (dc kc_X12_readWay_1 5 rfl) <| s_putI (dc kc_X12_readWay_1 6 rfl) fl_X12_121 <| b_inc4 (dc kc_X12_readWay_1 7 rfl) rfl (Nat.le_of_ble_eq_true rfl) rfl (by first | omega | (simp [up] <;> omega)) (by first | omega | (simp [up] <;> omega)) <| s_goto (tgt := 13) (dc kc_X12_readWay_1 8 rfl) rfl <| ?_))))))
    · exfalso; omega
    · simp only [up_at, up_j (j := 80) (j' := 85) (by decide)]
      exact hstep _ (by rw [if_neg (by omega), if_neg (by omega)]; exact Bm.nil.or Bm.nil)
    · simp only [up_at, up_j (j := 80) (j' := 85) (by decide)]
      exact hstep _ (by rw [if_neg (by omega), if_pos c62]; exact Bm.nil.or (Bm.one (by omega) (by omega)))
    · simp only [up_at, up_j (j := 80) (j' := 85) (by decide)]
      exact hstep _ (by rw [if_pos c42, if_neg (by omega)]; exact (Bm.one (by omega) (by omega)).or Bm.nil)
    · simp only [up_at, up_j (j := 80) (j' := 85) (by decide)]
      exact hstep _ (by rw [if_pos c42, if_pos c62]; exact (Bm.one (by omega) (by omega)).or (Bm.one (by omega) (by omega)))
theorem t_readWay (hL : Lay G mr) {mi : MI} {hd b k : Int} {L0 : List Int} (hc : VC (cel mi)) (h0 : 0 ≤ hd) (h1 : hd < 3) (hB : Bm (mi 0 80 9) L0) (hQ : ∀ mi', Ch pR mi mi' → mi' 0 80 7 = (way (cel mi) hd).length → mi' 0 80 8 = bi (wend (cel mi) hd = -1) → Arr (mi' 0 85) (way (cel mi) hd) → Bm (mi' 0 80 9) (askW (cel mi) hd b k ++ L0) → Q (vX 0) mi' n mr) : Tx (d+3) mt_X12_readWay [vR (some (0, 80)), vI hd, vI b, vI k] mi n mr Q := by
  refine tx_intro (ls := [vR (some (0, 80)), vI hd, vI b, vI k, vX 0]) om_X12_readWay rfl (Nat.le_of_ble_eq_true rfl) ?_
  refine r_aload_n (dc kc_X12_readWay_0 0 rfl) rfl <| s_iload_n (dc kc_X12_readWay_0 1 rfl) rfl <| c_v1 (dc kc_X12_readWay_0 2 rfl) cl_X12_124 rfl (Nat.le_of_ble_eq_true rfl) (Nat.zero_le _) (Nat.zero_le _) ?_
  refine t_findWay hL hc h0 h1 (fun mi1 hCh h7 h8 hA => ?_)
  refine r_aload_n (dc kc_X12_readWay_0 3 rfl) rfl <| s_iload_n (dc kc_X12_readWay_0 4 rfl) rfl <| c_v1 (dc kc_X12_readWay_0 5 rfl) cl_X12_128 rfl (Nat.le_of_ble_eq_true rfl) (Nat.zero_le _) (Nat.zero_le _) <| t_readCell <| k_i (dc kc_X12_readWay_0 6 rfl) rfl <| t_i4 (dc kc_X12_readWay_0 7 rfl) (Nat.le_of_ble_eq_true rfl) rfl <| ?_
  have hCh2 : Ch pR mi mi1 := hCh.mono (fun j k h => by simp only [pW, pR, Bool.or_eq_true, Bool.and_eq_true, beq_iff_eq] at h ⊢; omega)
  have h9 : mi1 0 80 9 = mi 0 80 9 := hCh.at (by decide)
  refine readWay_loop hL (mi0 := up mi1 0 80 9 (bOr (mi1 0 80 9) (bShl 1 hd))) (L0 := hd :: L0) (way_rg hc h0 h1) (way_len _ _) (fun mi2 g1 g2 g3 g4 g5 => hQ mi2 ((hCh2.up rfl).tr g1) g2 (by rw [g3, up_k (by decide)]; exact h8) g4 (g5.congr fun a => ?_)) _ 0 _ (Nat.zero_add _) Ch.rf (by rw [up_k (by decide)]; exact h7) rfl (by rw [up_j (by decide)]; exact hA) ?_
  · simp only [askW, List.mem_append, List.mem_cons]
    constructor
    · rintro (q | q | q)
      · exact Or.inl (Or.inr q)
      · exact Or.inl (Or.inl q)
      · exact Or.inr q
    · rintro ((q | q) | q)
      · exact Or.inr (Or.inl q)
      · exact Or.inl q
      · exact Or.inr (Or.inr q)
  · rw [up_at, h9]
    exact hB.set h0 (by omega)
end REF3
