/-! the class: what a line would do -/
/-- a line in a text: target, node, value, test -/
def LnT (mi : MI) (x : Nat) (j t : Int) (p v w : List CT) : Prop := mi x 26 j = t ∧ (0 ≤ t ∧ t ≤ 9) ∧ (0 ≤ mi x 22 j ∧ mi x 22 j ≤ mi x 23 j ∧ mi x 23 j ≤ mi x 24 j ∧ mi x 24 j ≤ mi x 25 j ∧ mi x 25 j ≤ 400) ∧ slcC (mi x 21) (mi x 23 j - mi x 22 j).toNat (mi x 22 j) = p ∧ slcC (mi x 21) (mi x 24 j - mi x 23 j).toNat (mi x 23 j) = v ∧ slcC (mi x 21) (mi x 25 j - mi x 24 j).toNat (mi x 24 j) = w ∧ Lin t p v w
/-- what a work holds of an outcome -/
def Wk (o : OC) (mk : Int) (mi : MI) (w : Nat) : Prop := (o.1 = 0 → mi w 55 1 = 0) ∧ (o.1 = 1 → mi w 55 1 = 1) ∧ (o.1 = 2 → mi w 55 1 = 2 ∧ mi w 55 2 = o.2.1 ∧ mi w 55 3 = o.2.2.1 ∧ mi w 55 4 = mkM o.2.2.2 ∧ mi w 55 5 = bi (bAnd (mkM o.2.2.2) mk ≠ 0)) ∧ (o.1 = 3 → mi w 55 1 = (if bAnd (mkM o.2.2.2) mk ≠ 0 then 4 else 3) ∧ mi w 55 3 = o.2.2.1)
theorem Wk_1 {mk : Int} {mi : MI} {w : Nat} (h : mi w 55 1 = 1) : Wk oc1 mk mi w := ⟨fun z => (by cases z), fun _ => h, fun z => (by cases z), fun z => (by cases z)⟩
def pW5 (w g j : Nat) (k : Int) : Bool := (g == w && j == 55 && (k == 1 || k == 2 || k == 3 || k == 4 || k == 5)) || pQ (1 + 3 * w) g j k
section WRK
variable {d n G : Nat} {mr : MR} {Q : V → MI → Nat → MR → Prop}
theorem u_judge (hL : Lay G mr) {mi : MI} {w : Nat} {t : Int} (hw : w < 2) (hc : t ≠ 9 → mi (1 + 3 * w) 50 4 = 0 → 0 ≤ mi w 55 2) (hQ1 : mi (1 + 3 * w) 50 4 ≠ 0 → Q (vI 1) mi n mr) (hQ2 : mi (1 + 3 * w) 50 4 = 0 → t = 9 → Q (vI (if mi w 55 5 = 1 then 4 else 3)) mi n mr) (hQ3 : mi (1 + 3 * w) 50 4 = 0 → t ≠ 9 → Q (vI (if biC (mi w 55 2) (mi w 55 3) = 1 then 2 else 1)) mi n mr) : Tx (d+4) mt_X2_judge [vR (some (w, 55)), vI t] mi n mr Q := by
  have hok : okI G 55 w := hw
  refine tx_intro (ls := [vR (some (w, 55)), vI t]) om_X2_judge rfl (Nat.le_of_ble_eq_true rfl) ?_
  refine r_aload_n (dc kc_X2_judge 0 rfl) rfl <| s_getO (dc kc_X2_judge 1 rfl) fl_X2_12 (ly_55_0 hL (by assumption)) <| s_getZ (dc kc_X2_judge 2 rfl) fl_X2_60 <| s_if_eq (tgt := 12) (dc kc_X2_judge 3 rfl) rfl (fun c7 => (s_iload_n (dc kc_X2_judge 6 rfl) rfl <| k_b (dc kc_X2_judge 7 rfl) rfl <| s_icmp_ne (tgt := 32) (dc kc_X2_judge 8 rfl) rfl (fun c15 => (?_)) (fun c15 => (r_aload_n (dc kc_X2_judge 9 rfl) rfl <| s_getI (dc kc_X2_judge 10 rfl) fl_X2_31 <| k_i (dc kc_X2_judge 11 rfl) rfl <| s_icmp_ne (tgt := 30) (dc kc_X2_judge 12 rfl) rfl (fun c23 => (k_i (dc kc_X2_judge 15 rfl) rfl <| s_ireturn (dc kc_X2_judge 16 rfl) rfl (Nat.zero_le _) (Nat.zero_le _) ?_)) (fun c23 => (k_i (dc kc_X2_judge 13 rfl) rfl <| s_goto (tgt := 31) (dc kc_X2_judge 14 rfl) rfl <| s_ireturn (dc kc_X2_judge 16 rfl) rfl (Nat.zero_le _) (Nat.zero_le _) ?_)))))) (fun c7 => (k_i (dc kc_X2_judge 4 rfl) rfl <| s_ireturn (dc kc_X2_judge 5 rfl) rfl (Nat.zero_le _) (Nat.zero_le _) ?_))
  · have := hc c15 c7
    have hq := hQ3 c7 c15
    refine r_aload_n (dc kc_X2_judge 17 rfl) rfl <| s_getI (dc kc_X2_judge 18 rfl) fl_X2_22 <| r_aload_n (dc kc_X2_judge 19 rfl) rfl <| s_getI (dc kc_X2_judge 20 rfl) fl_X2_25 <| c_s2r (dc kc_X2_judge 21 rfl) cl_X2_85 rfl (Nat.le_of_ble_eq_true rfl) (Nat.zero_le _) (Nat.zero_le _) <| u_canBe (by first | omega | (simp [up] <;> omega)) <| s_if_eq (tgt := 50) (dc kc_X2_judge 22 rfl) rfl (fun c43 => (k_i (dc kc_X2_judge 25 rfl) rfl <| s_ireturn (dc kc_X2_judge 26 rfl) rfl (Nat.zero_le _) (Nat.zero_le _) ?_)) (fun c43 => (k_i (dc kc_X2_judge 23 rfl) rfl <| s_goto (tgt := 51) (dc kc_X2_judge 24 rfl) rfl <| s_ireturn (dc kc_X2_judge 26 rfl) rfl (Nat.zero_le _) (Nat.zero_le _) ?_))
    · have := biC_01 (c := mi w 55 2) (v := mi w 55 3)
      rw [if_neg (by omega)] at hq; exact hq
    · have := biC_01 (c := mi w 55 2) (v := mi w 55 3)
      rw [if_pos (by omega)] at hq; exact hq
  · have hq := hQ2 c7 c15
    rw [if_neg c23] at hq; exact hq
  · have hq := hQ2 c7 c15
    rw [if_pos c23] at hq; exact hq
  · exact hQ1 c7
theorem u_findCell (hL : Lay G mr) {mi : MI} {w g x : Nat} (hw : w < 2) (hx : okI G 20 x) (hcel : mr (1 + 3 * w) 50 0 = some (g, 16)) (hc : VC (clG mi g)) {j t : Int} {p v ww : List CT} {rd : List Int} (hj0 : 0 ≤ j) (hj1 : j < 12) (hT : LnT mi x j t p v ww) (ham : mi (1 + 3 * w) 50 4 = 0) (hB : Bm (mi (1 + 3 * w) 50 3) rd) (hrd : ∀ a ∈ rd, 0 ≤ a ∧ a < 24) (hQ : ∀ mi', Cg (pW5 w) mi mi' → ((mi' (1 + 3 * w) 50 4 = 1 ∧ fin1 (clG mi g) t p v rd = oc1) ∨ ∃ nd rd', mi' (1 + 3 * w) 50 4 = 0 ∧ Bm (mi' (1 + 3 * w) 50 3) rd' ∧ (∀ a ∈ rd', 0 ≤ a ∧ a < 24) ∧ mi' w 55 2 = t + 3 * nd ∧ (0 ≤ nd ∧ nd ≤ 5) ∧ fin1 (clG mi g) t p v rd = fin2 (clG mi g) t v nd rd') → Q (vX 0) mi' n mr) : Tx (d+4) mt_X2_findCell [vR (some (w, 55)), vR (some (x, 20)), vI j] mi n mr Q := by
  have hok : okI G 55 w := hw
  have hr5 : 1 + 3 * w < 5 := by omega
  obtain ⟨ht, ht9, hix, hp, hv, hw', hlin⟩ := hT
  refine tx_intro (ls := [vR (some (w, 55)), vR (some (x, 20)), vI j, vX 0]) om_X2_findCell rfl (Nat.le_of_ble_eq_true rfl) ?_
  have hlen := slcC_len (f := mi x 21) (mi x 23 j - mi x 22 j).toNat (mi x 22 j)
  rw [hp] at hlen
  have h60 := hlin.2.2.2.1
  have plain : ¬ (6 ≤ t ∧ t ≤ 8) → Q (vX 0) (up mi w 55 2 t) n mr := by
    intro hn
    refine hQ _ (Cg.rf.up (by simp [pW5])) (Or.inr ⟨0, rd, by rw [up_j (by decide), ham], by rw [up_j (by decide)]; exact hB, hrd, by rw [up_at]; omega, by omega, ?_⟩)
    unfold fin1
    rw [if_neg hn]
  refine r_aload_n (dc kc_X2_findCell_0 0 rfl) rfl <| r_aload_n (dc kc_X2_findCell_0 1 rfl) rfl <| s_getA (dc kc_X2_findCell_0 2 rfl) fl_X2_75 (ly_20_7 hL (by assumption)) <| s_iload_n (dc kc_X2_findCell_0 3 rfl) rfl <| s_iaload (dc kc_X2_findCell_0 4 rfl) rfl (by first | omega | (simp [up] <;> omega)) (by first | omega | (simp [up] <;> omega)) <| s_putI (dc kc_X2_findCell_0 5 rfl) fl_X2_22 <| r_aload_n (dc kc_X2_findCell_0 6 rfl) rfl <| s_getI (dc kc_X2_findCell_0 7 rfl) fl_X2_22 <| k_b (dc kc_X2_findCell_0 8 rfl) rfl <| s_icmp_lt (tgt := 76) (dc kc_X2_findCell_0 9 rfl) rfl (fun c16 => (s_return (dc kc_X2_findCell_1 2 rfl) rfl (Nat.zero_le _) (Nat.zero_le _) ?_)) (fun c16 => (r_aload_n (dc kc_X2_findCell_0 10 rfl) rfl <| s_getI (dc kc_X2_findCell_0 11 rfl) fl_X2_22 <| k_b (dc kc_X2_findCell_0 12 rfl) rfl <| s_icmp_ge (tgt := 76) (dc kc_X2_findCell_0 13 rfl) rfl (fun c25 => (s_return (dc kc_X2_findCell_1 2 rfl) rfl (Nat.zero_le _) (Nat.zero_le _) ?_)) (fun c25 => (?_))))
  · rw [up_at, ht] at c16
    rw [ht]; exact plain (by omega)
  · rw [up_at, ht] at c16 c25
    rw [ht]; exact plain (by omega)
  · rw [up_at, ht] at c16 c25
    rw [ht]
    have e22 : up mi w 55 2 t x 22 = mi x 22 := up_j (by decide)
    have e23 : up mi w 55 2 t x 23 = mi x 23 := up_j (by decide)
    have e21 : up mi w 55 2 t x 21 = mi x 21 := up_j (by decide)
    have ecl : clG (up mi w 55 2 t) g = clG mi g := by unfold clG; rw [up_j (by decide)]
    have e50 : ∀ k, up mi w 55 2 t (1 + 3 * w) 50 k = mi (1 + 3 * w) 50 k := fun k => by rw [up_j (by decide)]
    have e55 : up mi w 55 2 t w 55 2 = t := up_at
    have g0 : Cg (pW5 w) mi (up mi w 55 2 t) := Cg.rf.up (by simp [pW5])
    generalize up mi w 55 2 t = m0 at *
    refine r_aload_n (dc kc_X2_findCell_0 14 rfl) rfl <| s_getO (dc kc_X2_findCell_0 15 rfl) fl_X2_12 (ly_55_0 hL (by assumption)) <| r_aload_n (dc kc_X2_findCell_0 16 rfl) rfl <| r_aload_n (dc kc_X2_findCell_0 17 rfl) rfl <| s_getA (dc kc_X2_findCell_0 18 rfl) fl_X2_82 (ly_20_3 hL (by assumption)) <| s_iload_n (dc kc_X2_findCell_0 19 rfl) rfl <| s_iaload (dc kc_X2_findCell_0 20 rfl) rfl (by first | omega | (simp [up] <;> omega)) (by first | omega | (simp [up] <;> omega)) <| r_aload_n (dc kc_X2_findCell_0 21 rfl) rfl <| s_getA (dc kc_X2_findCell_0 22 rfl) fl_X2_68 (ly_20_4 hL (by assumption)) <| s_iload_n (dc kc_X2_findCell_0 23 rfl) rfl <| s_iaload (dc kc_X2_findCell_0 24 rfl) rfl (by first | omega | (simp [up] <;> omega)) (by first | omega | (simp [up] <;> omega)) <| c_v3r (dc kc_X2_findCell_0 25 rfl) cl_X2_56 rfl (Nat.le_of_ble_eq_true rfl) (Nat.zero_le _) (Nat.zero_le _) ?_
    rw [e22, e23]
    refine u_run (t := 0) hL hr5 hx hcel (by rw [ecl]; exact hc) hix.1 hix.2.1 (by omega) (by omega) (by rw [e21, hp]; exact hlin.1 (by omega) (by omega)) (by rw [e50]; exact hB) (fun m1 y g1 hty hm => ?_)
    rw [ecl, e21, hp, e50] at hm
    have hy := hty.1 rfl
    have gg : Cg (pW5 w) mi m1 := g0.tr (g1.mono (fun _ _ _ z => by simp [pW5]; exact Or.inr z))
    have k2 : m1 w 55 2 = t := by rw [g1.at (by simp [pQ]), e55]
    have hf1 : fin1 (clG mi g) t p v rd = match evs (clG mi g) p [] rd with
      | some (nd :: _, r1) => fin2 (clG mi g) t v nd r1
      | _ => oc1 := by unfold fin1; rw [if_pos (by omega)]; rfl
    refine t_i3 (dc kc_X2_findCell_0 26 rfl) (Nat.le_of_ble_eq_true rfl) rfl <| s_iload_n (dc kc_X2_findCell_0 27 rfl) rfl <| s_if_ge (tgt := 64) (dc kc_X2_findCell_0 28 rfl) rfl (fun c50 => (r_aload_n (dc kc_X2_findCell_0 34 rfl) rfl <| s_dup (dc kc_X2_findCell_0 35 rfl) rfl <| s_getI (dc kc_X2_findCell_0 36 rfl) fl_X2_22 <| k_i (dc kc_X2_findCell_0 37 rfl) rfl <| s_iload_n (dc kc_X2_findCell_0 38 rfl) rfl <| b_imul (dc kc_X2_findCell_0 39 rfl) (by first | omega | (simp [up] <;> omega)) (by first | omega | (simp [up] <;> omega)) <| b_iadd (dc kc_X2_findCell_1 0 rfl) (by first | omega | (simp [up] <;> omega)) (by first | omega | (simp [up] <;> omega)) <| s_putI (dc kc_X2_findCell_1 1 rfl) fl_X2_22 <| s_return (dc kc_X2_findCell_1 2 rfl) rfl (Nat.zero_le _) (Nat.zero_le _) ?_)) (fun c50 => (r_aload_n (dc kc_X2_findCell_0 29 rfl) rfl <| s_getO (dc kc_X2_findCell_0 30 rfl) fl_X2_12 (ly_55_0 hL (by assumption)) <| k_i (dc kc_X2_findCell_0 31 rfl) rfl <| s_putZ (dc kc_X2_findCell_0 32 rfl) fl_X2_60 (by first | exact Or.inl rfl | exact Or.inr rfl | exact bi_01 | assumption) <| s_goto (tgt := 76) (dc kc_X2_findCell_0 33 rfl) rfl <| s_return (dc kc_X2_findCell_1 2 rfl) rfl (Nat.zero_le _) (Nat.zero_le _) ?_))
    · -- a node
      have k2' : m1 w 55 2 = t := k2
      refine hQ _ (gg.up (by simp [pW5])) ?_
      rcases hm with ⟨z1, z2⟩ | ⟨rd', z1, z2, z3⟩
      · left
        rw [z1] at hf1
        exact ⟨by rw [up_j (by decide), z2], hf1⟩
      · right
        rw [z1] at hf1
        have hev := evs_ty hc p (st := []) (ts := []) rd (hlin.1 (by omega) (by omega)) trivial
        have hrd' : ∀ a ∈ rd', 0 ≤ a ∧ a < 24 := by
          rcases hev with q | ⟨s1, r1, q1, q2, q3⟩
          · rw [z1] at q; cases q
          · rw [z1] at q1
            injection q1 with q1
            injection q1 with _ q1
            rw [q1]
            intro a ha
            rcases List.mem_append.mp ha with b | b
            · exact q3 a b
            · exact hrd a b
        exact ⟨y, rd', by rw [up_j (by decide), z3, ham], by rw [up_j (by decide)]; exact z2, hrd', by rw [up_at, k2], ⟨c50, hy.2⟩, hf1⟩
    · refine hQ _ (gg.up (by simp [pW5, pQ])) (Or.inl ⟨up_at, ?_⟩)
      rcases hm with ⟨z1, z2⟩ | ⟨rd', z1, z2, z3⟩
      · rw [hf1, z1]
      · rw [hf1, z1]
        show fin2 (clG mi g) t v y rd' = oc1
        have hym : y = -1 := by omega
        unfold fin2
        split
        · unfold fin3; rw [if_pos hym]
        · rfl
theorem u_perform (hL : Lay G mr) {mi : MI} {w g x : Nat} (hw : w < 2) (hx : okI G 20 x) (hg : okI G 15 g) (hc : VC (clG mi g)) {j t : Int} {p v ww : List CT} (hj0 : 0 ≤ j) (hj1 : j < mi x 20 0) (h12 : mi x 20 0 ≤ 12) (hT : LnT mi x j t p v ww) (hQ : ∀ mi' mr', Cg (pW5 w) mi mi' → Cr mr mr' → Wk (lnA (clG mi g) t p v ww) (mi g 15 1) mi' w → Q (vX 0) mi' n mr') : Tx (d+5) mt_X2_perform [vR (some (w, 55)), vR (some (x, 20)), vI j, vR (some (g, 15))] mi n mr Q := by
  have hok : okI G 55 w := hw
  have hr5 : 1 + 3 * w < 5 := by omega
  obtain ⟨ht, ht9, hix, hp, hv, hw', hlin⟩ := id hT
  refine tx_intro (ls := [vR (some (w, 55)), vR (some (x, 20)), vI j, vR (some (g, 15)), vX 0]) om_X2_perform rfl (Nat.le_of_ble_eq_true rfl) ?_
  have hlv := slcC_len (f := mi x 21) (mi x 24 j - mi x 23 j).toNat (mi x 23 j)
  have hlw := slcC_len (f := mi x 21) (mi x 25 j - mi x 24 j).toNat (mi x 24 j)
  rw [hv] at hlv
  rw [hw'] at hlw
  have h60v := hlin.2.2.2.2.1
  have h60w := hlin.2.2.2.2.2
  have b1 : mi x 24 j - mi x 23 j ≤ 60 := by omega
  have b2 : mi x 25 j - mi x 24 j ≤ 60 := by omega
  have b3 : mi x 24 j ≤ 400 := by omega
  have b4 : 0 ≤ mi x 23 j := by omega
  have b5 : 0 ≤ mi x 24 j := by omega
  -- from the value on
  have tail : ∀ (m : MI) (mr' : MR) (T : OC) (x4 : V), Cg (pW5 w) mi m → Cr mr mr' → mr' (1 + 3 * w) 50 0 = some (g, 16) → ((m (1 + 3 * w) 50 4 = 1 ∧ T = oc1) ∨ ∃ nd rd', m (1 + 3 * w) 50 4 = 0 ∧ Bm (m (1 + 3 * w) 50 3) rd' ∧ (∀ a ∈ rd', 0 ≤ a ∧ a < 24) ∧ m w 55 2 = t + 3 * nd ∧ (0 ≤ nd ∧ nd ≤ 5) ∧ T = fin2 (clG mi g) t v nd rd') → (∀ mi' mr', Cg (pW5 w) mi mi' → Cr mr mr' → Wk T (mi g 15 1) mi' w → Q (vX 0) mi' n mr') → Run (d+5) mt_X2_perform Q (n, mr', 0, 0) m 90 [vR (some (w, 55)), vR (some (x, 20)), vI j, vR (some (g, 15)), x4] [] := by
    intro m mr' T x4 hC hR hcel hmode hQ
    have hL := hR.lay hL
    have e2x : ∀ q, 20 ≤ q → q ≤ 27 → m x q = mi x q := fun q a b => hC.row (fun k => by simp [pW5, pQ]; omega)
    have ecl : clG m g = clG mi g := by unfold clG; rw [hC.row (fun k => by simp [pW5, pQ])]
    have e15 : m g 15 = mi g 15 := hC.row (fun k => by simp [pW5, pQ])
    refine r_aload_n (dc kc_X2_perform_1 10 rfl) rfl <| r_aload_n (dc kc_X2_perform_1 11 rfl) rfl <| s_getO (dc kc_X2_perform_1 12 rfl) fl_X2_12 (ly_55_0 hL (by assumption)) <| ?_
    refine s_rngf (g := 1 + 3 * w) (j := 50) (k0 := 3) rfl (by decide) (by decide) rfl (List.mem_append_right _ List.mem_cons_self) (fun hrg => ?_)
    obtain ⟨Lx, hLx⟩ := Bm.ex hrg
    have hB : ∃ L0, Bm (m (1 + 3 * w) 50 3) L0 ∧ (m (1 + 3 * w) 50 4 = 0 → (∀ a ∈ L0, 0 ≤ a ∧ a < 24) ∧ ∃ nd, m w 55 2 = t + 3 * nd ∧ (0 ≤ nd ∧ nd ≤ 5) ∧ T = fin2 (clG mi g) t v nd L0) := by
      rcases hmode with ⟨z1, z2⟩ | ⟨nd, rd', z1, z2, z3, z4, z5, z6⟩
      · exact ⟨Lx, hLx, fun z => by omega⟩
      · exact ⟨rd', z2, fun _ => ⟨z3, nd, z4, z5, z6⟩⟩
    obtain ⟨L0, hB0, hB1⟩ := hB
    have h01 : m (1 + 3 * w) 50 4 = 0 ∨ (m (1 + 3 * w) 50 4 = 1 ∧ T = oc1) := by
      rcases hmode with z | ⟨nd, rd', z1, _⟩
      · exact Or.inr z
      · exact Or.inl z1
    obtain ⟨tt, htt, htt01⟩ : ∃ tt, tyc v [] = some [tt] ∧ (tt = 0 ∨ tt = 1) := by
      rcases hlin.2.1 with z | z
      · exact ⟨0, z, Or.inl rfl⟩
      · exact ⟨1, z, Or.inr rfl⟩
    refine r_aload_n (dc kc_X2_perform_1 13 rfl) rfl <| r_aload_n (dc kc_X2_perform_1 14 rfl) rfl <| s_getA (dc kc_X2_perform_1 15 rfl) fl_X2_68 (ly_20_4 hL (by assumption)) <| s_iload_n (dc kc_X2_perform_1 16 rfl) rfl <| s_iaload (dc kc_X2_perform_1 17 rfl) rfl (by first | omega | (simp [up] <;> omega)) (by first | omega | (simp [up] <;> omega)) <| r_aload_n (dc kc_X2_perform_1 18 rfl) rfl <| s_getA (dc kc_X2_perform_1 19 rfl) fl_X2_53 (ly_20_5 hL (by assumption)) <| s_iload_n (dc kc_X2_perform_1 20 rfl) rfl <| s_iaload (dc kc_X2_perform_1 21 rfl) rfl (by first | omega | (simp [up] <;> omega)) (by first | omega | (simp [up] <;> omega)) <| c_v3r (dc kc_X2_perform_1 22 rfl) cl_X2_56 rfl (Nat.le_of_ble_eq_true rfl) (Nat.zero_le _) (Nat.zero_le _) ?_
    rw [e2x 23 (by omega) (by omega), e2x 24 (by omega) (by omega)]
    refine u_run (t := tt) hL hr5 hx hcel (by rw [ecl]; exact hc) b4 hix.2.2.1 b3 b1 (by rw [e2x 21 (by omega) (by omega), hv]; exact htt) hB0 (fun m1 y g1 _ hm => ?_)
    rw [ecl, e2x 21 (by omega) (by omega), hv] at hm
    have gg : Cg (pW5 w) mi m1 := hC.tr (g1.mono (fun _ _ _ z => by simp [pW5]; exact Or.inr z))
    have k55 : ∀ k, m1 w 55 k = m w 55 k := fun k => g1.at (by simp [pQ])
    have k26 : m1 x 26 = mi x 26 := by rw [g1.row (fun k => by simp [pQ]), e2x 26 (by omega) (by omega)]
    have k15 : m1 g 15 = mi g 15 := by rw [g1.row (fun k => by simp [pQ]), e15]
    generalize hRD : m1 (1 + 3 * w) 50 3 = RD at *
    generalize hAM : m1 (1 + 3 * w) 50 4 = AM at *
    -- the last: judged
    have last : ∀ mk, mk = bi (bAnd RD (mi g 15 1) ≠ 0) → Run (d+5) mt_X2_perform Q (n, mr', 0, 0) (up (up (up m1 w 55 3 y) w 55 4 RD) w 55 5 mk) 146 [vR (some (w, 55)), vR (some (x, 20)), vI j, vR (some (g, 15)), x4] [] := by
      intro mk emk
      have q1 : ∀ k, k ≠ 3 → k ≠ 4 → k ≠ 5 → up (up (up m1 w 55 3 y) w 55 4 RD) w 55 5 mk w 55 k = m w 55 k := fun k a b c => by rw [up_k c, up_k b, up_k a, k55]
      have q3 : up (up (up m1 w 55 3 y) w 55 4 RD) w 55 5 mk w 55 3 = y := by rw [up_k (by decide), up_k (by decide), up_at]
      have q4 : up (up (up m1 w 55 3 y) w 55 4 RD) w 55 5 mk w 55 4 = RD := by rw [up_k (by decide), up_at]
      have q5 : up (up (up m1 w 55 3 y) w 55 4 RD) w 55 5 mk w 55 5 = mk := up_at
      have qam : up (up (up m1 w 55 3 y) w 55 4 RD) w 55 5 mk (1 + 3 * w) 50 4 = AM := by rw [up_j (by decide), up_j (by decide), up_j (by decide), hAM]
      have q26 : up (up (up m1 w 55 3 y) w 55 4 RD) w 55 5 mk x 26 j = t := by rw [up_j (by decide), up_j (by decide), up_j (by decide), k26, ht]
      have gq : Cg (pW5 w) mi (up (up (up m1 w 55 3 y) w 55 4 RD) w 55 5 mk) := ((gg.up (by simp [pW5])).up (by simp [pW5])).up (by simp [pW5])
      generalize up (up (up m1 w 55 3 y) w 55 4 RD) w 55 5 mk = m2 at *
      have hmk01 : mk = 0 ∨ mk = 1 := by rw [emk]; exact bi_01
      -- in the good case all is known
      have good : AM = 0 → ∃ nd r2, (0 ≤ nd ∧ nd ≤ 5) ∧ m w 55 2 = t + 3 * nd ∧ T = fin3 t nd y r2 ∧ RD = mkM r2 := by
        intro h0
        rcases hm with ⟨z1, z2⟩ | ⟨rd2, z1, z2, z3⟩
        · omega
        · obtain ⟨b1, nd, b2, b3, b4⟩ := hB1 (by omega)
          have hev := evs_ty hc v (st := []) (ts := []) L0 htt trivial
          have hrd2 : ∀ a ∈ rd2, 0 ≤ a ∧ a < 32 := by
            rcases hev with q | ⟨s1, r1, q1, q2, q3⟩
            · rw [z1] at q; cases q
            · rw [z1] at q1
              injection q1 with q1
              injection q1 with _ q1
              rw [q1]
              intro a ha
              rcases List.mem_append.mp ha with b | b
              · have := q3 a b; omega
              · have := b1 a b; omega
          refine ⟨nd, rd2, b3, b2, ?_, z2.mk hrd2⟩
          rw [b4]
          unfold fin2
          rw [z1]
      refine r_aload_n (dc kc_X2_perform_2 0 rfl) rfl <| r_aload_n (dc kc_X2_perform_2 1 rfl) rfl <| r_aload_n (dc kc_X2_perform_2 2 rfl) rfl <| s_getA (dc kc_X2_perform_2 3 rfl) fl_X2_75 (ly_20_7 hL (by assumption)) <| s_iload_n (dc kc_X2_perform_2 4 rfl) rfl <| s_iaload (dc kc_X2_perform_2 5 rfl) rfl (by first | omega | (simp [up] <;> omega)) (by first | omega | (simp [up] <;> omega)) <| c_v1r (dc kc_X2_perform_2 6 rfl) cl_X2_78 rfl (Nat.le_of_ble_eq_true rfl) (Nat.zero_le _) (Nat.zero_le _) ?_
      rw [q26]
      refine u_judge hL hw (fun h9 h0 => ?_) (fun h1 => ?_) (fun h0 h9 => ?_) (fun h0 h9 => ?_)
      · rw [qam] at h0
        obtain ⟨nd, r2, a, b, c, e⟩ := good h0
        rw [q1 2 (by decide) (by decide) (by decide), b]; omega
      · rw [qam] at h1
        refine s_putI (dc kc_X2_perform_2 7 rfl) fl_X2_18 <| s_return (dc kc_X2_perform_2 8 rfl) rfl (Nat.zero_le _) (Nat.zero_le _) ?_
        refine hQ _ _ (gq.up (by simp [pW5])) hR ?_
        have hT1 : T = oc1 := by
          rcases h01 with z | z
          · rcases hm with ⟨z1, z2⟩ | ⟨rd2, z1, z2, z3⟩
            · obtain ⟨b1, nd, b2, b3, b4⟩ := hB1 z
              rw [b4]; unfold fin2; rw [z1]
            · omega
          · exact z.2
        rw [hT1]
        exact Wk_1 up_at
      · rw [qam] at h0
        obtain ⟨nd, r2, a, b, c, e⟩ := good h0
        rw [q5]
        refine s_putI (dc kc_X2_perform_2 7 rfl) fl_X2_18 <| s_return (dc kc_X2_perform_2 8 rfl) rfl (Nat.zero_le _) (Nat.zero_le _) ?_
        refine hQ _ _ (gq.up (by simp [pW5])) hR ?_
        have hT3 : T = (3, 9, y, r2) := by rw [c]; unfold fin3; rw [if_neg (by omega), if_pos h9]
        rw [hT3]
        refine ⟨fun z => (by cases z), fun z => (by cases z), fun z => (by cases z), fun _ => ⟨?_, by rw [up_k (by decide), q3]⟩⟩
        show up m2 w 55 1 (if mk = 1 then 4 else 3) w 55 1 = if bAnd (mkM r2) (mi g 15 1) ≠ 0 then 4 else 3
        rw [up_at, emk, e]
        by_cases hz : bAnd (mkM r2) (mi g 15 1) ≠ 0
        · rw [if_pos hz, bi_t hz, if_pos rfl]
        · rw [if_neg hz, bi_f hz, if_neg (by decide)]
      · rw [qam] at h0
        obtain ⟨nd, r2, a, b, c, e⟩ := good h0
        rw [q1 2 (by decide) (by decide) (by decide), q3, b]
        refine s_putI (dc kc_X2_perform_2 7 rfl) fl_X2_18 <| s_return (dc kc_X2_perform_2 8 rfl) rfl (Nat.zero_le _) (Nat.zero_le _) ?_
        refine hQ _ _ (gq.up (by simp [pW5])) hR ?_
        rw [c]
        unfold fin3
        rw [if_neg (by omega), if_neg h9]
        by_cases hz : biC (t + 3 * nd) y = 1
        · rw [if_pos hz, if_pos hz]
          refine ⟨fun z => (by cases z), fun z => (by cases z), fun _ => ⟨up_at, by rw [up_k (by decide), q1 2 (by decide) (by decide) (by decide), b], by rw [up_k (by decide), q3], by rw [up_k (by decide), q4, e], by rw [up_k (by decide), q5, emk, e]⟩, fun z => (by cases z)⟩
        · rw [if_neg hz, if_neg hz]
          exact Wk_1 up_at
    have r3 : ∀ v, up m1 w 55 3 v (1 + 3 * w) 50 3 = RD := fun v => by rw [up_j (by decide), hRD]
    have r4 : ∀ v u, up (up m1 w 55 3 v) w 55 4 u w 55 4 = u := fun v u => up_at
    have r15 : ∀ v u, up (up m1 w 55 3 v) w 55 4 u g 15 1 = mi g 15 1 := fun v u => by rw [up_j (by decide), up_j (by decide), k15]
    refine s_putI (dc kc_X2_perform_1 23 rfl) fl_X2_25 <| r_aload_n (dc kc_X2_perform_1 24 rfl) rfl <| r_aload_n (dc kc_X2_perform_1 25 rfl) rfl <| s_getO (dc kc_X2_perform_1 26 rfl) fl_X2_12 (ly_55_0 hL (by assumption)) <| s_getI (dc kc_X2_perform_1 27 rfl) fl_X2_71 <| s_putI (dc kc_X2_perform_1 28 rfl) fl_X2_28 <| r_aload_n (dc kc_X2_perform_1 29 rfl) rfl <| r_aload_n (dc kc_X2_perform_1 30 rfl) rfl <| s_getI (dc kc_X2_perform_1 31 rfl) fl_X2_28 <| r_aload_n (dc kc_X2_perform_1 32 rfl) rfl <| s_getI (dc kc_X2_perform_1 33 rfl) fl_X2_72 <| s_iand (dc kc_X2_perform_1 34 rfl) <| s_if_eq (tgt := 142) (dc kc_X2_perform_1 35 rfl) rfl (fun c135 => (k_i (dc kc_X2_perform_1 38 rfl) rfl <| s_putI (dc kc_X2_perform_1 39 rfl) fl_X2_31 <| ?_)) (fun c135 => (k_i (dc kc_X2_perform_1 36 rfl) rfl <| s_goto (tgt := 143) (dc kc_X2_perform_1 37 rfl) rfl <| s_putI (dc kc_X2_perform_1 39 rfl) fl_X2_31 <| ?_))
    · rw [r3] at c135
      rw [r4, r15] at c135
      rw [r3]
      exact last 0 (by rw [bi_f]; exact fun z => z c135)
    · rw [r3] at c135
      rw [r4, r15] at c135
      rw [r3]
      exact last 1 (by rw [bi_t]; exact c135)
  -- behind the test
  have mid : ∀ (m : MI) (mr' : MR) (rd : List Int) (x4 : V), Cg (pW5 w) mi m → Cr mr mr' → mr' (1 + 3 * w) 50 0 = some (g, 16) → m (1 + 3 * w) 50 4 = 0 → Bm (m (1 + 3 * w) 50 3) rd → (∀ a ∈ rd, 0 ≤ a ∧ a < 24) → lnA (clG mi g) t p v ww = fin1 (clG mi g) t p v rd → Run (d+5) mt_X2_perform Q (n, mr', 0, 0) m 84 [vR (some (w, 55)), vR (some (x, 20)), vI j, vR (some (g, 15)), x4] [] := by
    intro m mr' rd x4 hC hR hcel h4 hB hrd hln
    have e2x : ∀ q, 20 ≤ q → q ≤ 27 → m x q = mi x q := fun q a b => hC.row (fun k => by simp [pW5, pQ]; omega)
    have ecl : clG m g = clG mi g := by unfold clG; rw [hC.row (fun k => by simp [pW5, pQ])]
    refine r_aload_n (dc kc_X2_perform_1 6 rfl) rfl <| r_aload_n (dc kc_X2_perform_1 7 rfl) rfl <| s_iload_n (dc kc_X2_perform_1 8 rfl) rfl <| c_v2 (dc kc_X2_perform_1 9 rfl) cl_X2_64 rfl (Nat.le_of_ble_eq_true rfl) (Nat.zero_le _) (Nat.zero_le _) ?_
    refine u_findCell (rd := rd) (hR.lay hL) hw hx hcel (by rw [ecl]; exact hc) hj0 (by omega) (t := t) (p := p) (v := v) (ww := ww) (by unfold LnT; rw [e2x 21 (by omega) (by omega), e2x 22 (by omega) (by omega), e2x 23 (by omega) (by omega), e2x 24 (by omega) (by omega), e2x 25 (by omega) (by omega), e2x 26 (by omega) (by omega)]; exact hT) h4 hB hrd (fun m1 g1 hm => ?_)
    rw [ecl] at hm
    exact tail m1 mr' (fin1 (clG mi g) t p v rd) x4 (hC.tr g1) hR hcel hm (fun mi' mr' a b c => hQ mi' mr' a b (by rw [hln]; exact c))
  refine r_aload_n (dc kc_X2_perform_0 0 rfl) rfl <| k_i (dc kc_X2_perform_0 1 rfl) rfl <| s_putI (dc kc_X2_perform_0 2 rfl) fl_X2_18 <| r_aload_n (dc kc_X2_perform_0 3 rfl) rfl <| s_iload_n (dc kc_X2_perform_0 4 rfl) rfl <| c_v1r (dc kc_X2_perform_0 5 rfl) cl_X2_34 rfl (Nat.le_of_ble_eq_true rfl) (Nat.zero_le _) (Nat.zero_le _) <| u_has <| s_if_neb (tgt := 14) (dc kc_X2_perform_0 6 rfl) rfl (fun c10 => (r_aload_n (dc kc_X2_perform_0 8 rfl) rfl <| s_getO (dc kc_X2_perform_0 9 rfl) fl_X2_12 (ly_55_0 hL (by assumption)) <| r_aload_n (dc kc_X2_perform_0 10 rfl) rfl <| s_getA (dc kc_X2_perform_0 11 rfl) fl_X2_40 (ly_15_0 hL (by assumption)) <| c_v1 (dc kc_X2_perform_0 12 rfl) cl_X2_46 rfl (Nat.le_of_ble_eq_true rfl) (Nat.zero_le _) (Nat.zero_le _) ?_)) (fun c10 => (s_return (dc kc_X2_perform_0 7 rfl) rfl (Nat.zero_le _) (Nat.zero_le _) ?_))
  · rw [up_j (by decide)] at c10
    refine u_rbegin ?_
    have hcel : upR mr (1 + 3 * w) 50 0 (some (g, 16)) (1 + 3 * w) 50 0 = some (g, 16) := upR_at
    have hR : Cr mr (upR mr (1 + 3 * w) 50 0 (some (g, 16))) := Cr.rf.cel (fun z => by first | rfl | omega)
    have hL' := hR.lay hL
    have gg : Cg (pW5 w) mi (up (up (up mi w 55 1 0) (1 + 3 * w) 50 3 0) (1 + 3 * w) 50 4 0) := ((Cg.rf.up (by simp [pW5])).up (by simp [pW5, pQ])).up (by simp [pW5, pQ])
    have f1 : up (up (up mi w 55 1 0) (1 + 3 * w) 50 3 0) (1 + 3 * w) 50 4 0 w 55 1 = 0 := by rw [up_j (by decide), up_j (by decide), up_at]
    have f4 : up (up (up mi w 55 1 0) (1 + 3 * w) 50 3 0) (1 + 3 * w) 50 4 0 (1 + 3 * w) 50 4 = 0 := up_at
    have f3 : up (up (up mi w 55 1 0) (1 + 3 * w) 50 3 0) (1 + 3 * w) 50 4 0 (1 + 3 * w) 50 3 = 0 := by rw [up_k (by decide), up_at]
    generalize up (up (up mi w 55 1 0) (1 + 3 * w) 50 3 0) (1 + 3 * w) 50 4 0 = m0 at *
    generalize upR mr (1 + 3 * w) 50 0 (some (g, 16)) = mr0 at *
    have e2x : ∀ q, 20 ≤ q → q ≤ 27 → m0 x q = mi x q := fun q a b => gg.row (fun k => by simp [pW5, pQ]; omega)
    have e24 : m0 x 24 j = mi x 24 j := by rw [e2x 24 (by omega) (by omega)]
    have e25 : m0 x 25 j = mi x 25 j := by rw [e2x 25 (by omega) (by omega)]
    have ecl : clG m0 g = clG mi g := by unfold clG; rw [gg.row (fun k => by simp [pW5, pQ])]
    have nil24 : ∀ a ∈ ([] : List Int), 0 ≤ a ∧ a < 24 := fun a h => by cases h
    have hB0 : Bm (m0 (1 + 3 * w) 50 3) [] := by rw [f3]; exact Bm.nil
    have hL := hL'
    refine r_aload_n (dc kc_X2_perform_0 13 rfl) rfl <| s_getA (dc kc_X2_perform_0 14 rfl) fl_X2_50 (ly_20_6 hL (by assumption)) <| s_iload_n (dc kc_X2_perform_0 15 rfl) rfl <| s_iaload (dc kc_X2_perform_0 16 rfl) rfl (by first | omega | (simp [up] <;> omega)) (by first | omega | (simp [up] <;> omega)) <| r_aload_n (dc kc_X2_perform_0 17 rfl) rfl <| s_getA (dc kc_X2_perform_0 18 rfl) fl_X2_53 (ly_20_5 hL (by assumption)) <| s_iload_n (dc kc_X2_perform_0 19 rfl) rfl <| s_iaload (dc kc_X2_perform_0 20 rfl) rfl (by first | omega | (simp [up] <;> omega)) (by first | omega | (simp [up] <;> omega)) <| s_icmp_le (tgt := 84) (dc kc_X2_perform_0 21 rfl) rfl (fun c37 => (?_)) (fun c37 => (r_aload_n (dc kc_X2_perform_0 22 rfl) rfl <| s_getO (dc kc_X2_perform_0 23 rfl) fl_X2_12 (ly_55_0 hL (by assumption)) <| r_aload_n (dc kc_X2_perform_0 24 rfl) rfl <| r_aload_n (dc kc_X2_perform_0 25 rfl) rfl <| s_getA (dc kc_X2_perform_0 26 rfl) fl_X2_53 (ly_20_5 hL (by assumption)) <| s_iload_n (dc kc_X2_perform_0 27 rfl) rfl <| s_iaload (dc kc_X2_perform_0 28 rfl) rfl (by first | omega | (simp [up] <;> omega)) (by first | omega | (simp [up] <;> omega)) <| r_aload_n (dc kc_X2_perform_0 29 rfl) rfl <| s_getA (dc kc_X2_perform_0 30 rfl) fl_X2_50 (ly_20_6 hL (by assumption)) <| s_iload_n (dc kc_X2_perform_0 31 rfl) rfl <| s_iaload (dc kc_X2_perform_0 32 rfl) rfl (by first | omega | (simp [up] <;> omega)) (by first | omega | (simp [up] <;> omega)) <| c_v3r (dc kc_X2_perform_0 33 rfl) cl_X2_56 rfl (Nat.le_of_ble_eq_true rfl) (Nat.zero_le _) (Nat.zero_le _) ?_))
    · rw [e24, e25] at c37
      have hwn : ww = [] := List.length_eq_zero_iff.mp (by omega)
      exact mid m0 mr0 [] _ gg hR hcel f4 hB0 nil24 (by unfold lnA; rw [if_pos hwn])
    · rw [e24, e25] at c37
      have hwn : ww ≠ [] := fun z => by rw [z] at hlw; simp only [List.length_nil] at hlw; omega
      have hty : tyc ww [] = some [2] := hlin.2.2.1.elim (fun z => absurd z hwn) id
      have hln : lnA (clG mi g) t p v ww = match evs (clG mi g) ww [] [] with
        | some (x :: _, r) => if x = 0 then oc0 else fin1 (clG mi g) t p v r
        | _ => oc1 := by unfold lnA; rw [if_neg hwn]; rfl
      rw [e24, e25]
      refine u_run (t := 2) hL hr5 hx hcel (by rw [ecl]; exact hc) b5 (by omega) hix.2.2.2.2 b2 (by rw [e2x 21 (by omega) (by omega), hw']; exact hty) hB0 (fun m1 y g1 htv hm => ?_)
      rw [ecl, e2x 21 (by omega) (by omega), hw', f4] at hm
      have gm : Cg (pW5 w) mi m1 := gg.tr (g1.mono (fun _ _ _ z => by simp [pW5]; exact Or.inr z))
      have k1 : m1 w 55 1 = 0 := by rw [g1.at (by simp [pQ]), f1]
      have hev := evs_ty hc ww (st := []) (ts := []) [] hty trivial
      rcases hm with ⟨z1, z2⟩ | ⟨rd, z1, z2, z3⟩
      · rw [z1] at hln
        refine t_i4 (dc kc_X2_perform_0 34 rfl) (Nat.le_of_ble_eq_true rfl) rfl <| r_aload_n (dc kc_X2_perform_0 35 rfl) rfl <| s_getO (dc kc_X2_perform_0 36 rfl) fl_X2_12 (ly_55_0 hL (by assumption)) <| s_getZ (dc kc_X2_perform_0 37 rfl) fl_X2_60 <| s_if_eq (tgt := 78) (dc kc_X2_perform_0 38 rfl) rfl (fun c69 => (?_)) (fun c69 => (r_aload_n (dc kc_X2_perform_0 39 rfl) rfl <| k_i (dc kc_X2_perform_1 0 rfl) rfl <| s_putI (dc kc_X2_perform_1 1 rfl) fl_X2_18 <| s_return (dc kc_X2_perform_1 2 rfl) rfl (Nat.zero_le _) (Nat.zero_le _) ?_))
        · exfalso; omega
        · refine hQ _ mr0 (gm.up (by simp [pW5])) hR ?_
          rw [hln]
          exact Wk_1 up_at
      · rw [z1] at hln
        have hrd : ∀ a ∈ rd, 0 ≤ a ∧ a < 24 := by
          rcases hev with q | ⟨s1, r1, q1, q2, q3⟩
          · rw [z1] at q; cases q
          · rw [z1] at q1
            injection q1 with q1
            injection q1 with _ q1
            rw [q1, List.append_nil]
            exact q3
        refine t_i4 (dc kc_X2_perform_0 34 rfl) (Nat.le_of_ble_eq_true rfl) rfl <| r_aload_n (dc kc_X2_perform_0 35 rfl) rfl <| s_getO (dc kc_X2_perform_0 36 rfl) fl_X2_12 (ly_55_0 hL (by assumption)) <| s_getZ (dc kc_X2_perform_0 37 rfl) fl_X2_60 <| s_if_eq (tgt := 78) (dc kc_X2_perform_0 38 rfl) rfl (fun c69 => (s_iload (dc kc_X2_perform_1 3 rfl) rfl <| s_if_ne (tgt := 84) (dc kc_X2_perform_1 4 rfl) rfl (fun c80 => (?_)) (fun c80 => (s_return (dc kc_X2_perform_1 5 rfl) rfl (Nat.zero_le _) (Nat.zero_le _) ?_)))) (fun c69 => (?_))
        · refine mid m1 mr0 rd _ gm hR hcel z3 z2 hrd ?_
          rw [hln]
          show (if y = 0 then oc0 else fin1 (clG mi g) t p v rd) = _
          rw [if_neg c80]
        · refine hQ m1 mr0 gm hR ?_
          rw [hln]
          show Wk (if y = 0 then oc0 else fin1 (clG mi g) t p v rd) _ _ _
          rw [if_pos c80]
          exact ⟨fun _ => k1, fun z => (by cases z), fun z => (by cases z), fun z => (by cases z)⟩
        · exfalso; omega
  · rw [up_j (by decide)] at c10
    exact absurd ⟨hj0, hj1⟩ c10
end WRK
