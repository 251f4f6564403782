/-! the class: the lines go on on paper -/
def pGo (a b : Nat) (k : Int) : Bool := pW5 1 a b k || (a == 9 && (b == 16 || (b == 15 && k == 1))) || (a == 0 && (b == 71 || (b == 70 && (k == 4 || k == 5))))
/-- what the paper holds of a run -/
def GoS (m : MI) (q : GO) : Prop := (∀ i, 0 ≤ i → i < 24 → m 9 16 i = q.1 (30 + i)) ∧ m 9 15 1 = q.1 19 ∧ PAr m 71 (m 0 70 4) q.2.2.1 ∧ m 0 70 5 = q.2.2.2
theorem PAr.snoc {m m' : MI} {j : Nat} {c c' v : Int} {L : List Int} (h : PAr m j c L) (h24 : L.length < 24) (ec : c' = c + 1) (hm : m' 0 j = ud (m 0 j) c v) : PAr m' j c' (L ++ [v]) := by
  obtain ⟨a, b, e⟩ := h
  refine ⟨by rw [List.length_append, List.length_singleton]; omega, by rw [List.length_append, List.length_singleton]; omega, fun i x hx => ?_⟩
  rw [hm]
  by_cases hi : i < L.length
  · rw [List.getElem?_append_left hi] at hx
    rw [ud_ne (by omega)]
    exact e i x hx
  · rw [List.getElem?_append_right (by omega)] at hx
    have hi' : i = L.length := by
      have := (List.getElem?_eq_some_iff.mp hx).1
      rw [List.length_singleton] at this
      omega
    subst hi'
    rw [Nat.sub_self] at hx
    injection hx with hx
    rw [← a, ud_at, ← hx]
section PGO
variable {d n G : Nat} {mr : MR} {Q : V → MI → Nat → MR → Prop}
theorem u_goOn (hL : Lay G mr) {mi : MI} {g : Nat} {σ : Int → Int} {x : Int} (hG : G ≤ 4) (hg : g < G) (hx0 : 0 ≤ x) (hx : x ≤ 24) (hN : RepN mi g σ) (h6 : mi g 6 7 = σ 7) (hV : VC (clR σ)) (h7 : 0 ≤ σ 7 ∧ σ 7 < σ 17) (h17 : σ 17 ≤ 12) (h8 : 0 ≤ σ 8 ∧ σ 8 ≤ 200) (hl : ∀ j, 0 ≤ j → j < σ 17 → WfLine σ j) (hc : ∀ i, 0 ≤ i → i < 24 → mi 9 16 i = σ (30 + i)) (hm : mi 9 15 1 = σ 19) (hQ : ∀ mi' mr', Cg pGo mi mi' → Cr mr mr' → GoS mi' (goF σ x.toNat) → Q (vX 0) mi' n mr') : Tx (d+6) mt_X5_goOn [vR (some (0, 70)), vR (some (g, 5)), vI x] mi n mr Q := by
  have hok : okI G 5 g := hg
  have hokT : okI G 20 (g + 10) := Or.inr (Or.inl ⟨by omega, by omega⟩)
  have hok9 : okI G 15 9 := Or.inr rfl
  have hok1 : okI G 55 1 := (by decide : 1 < 2)
  have loop : ∀ i : Nat, i ≤ x.toNat → ∀ (m : MI) (mr1 : MR), Cg pGo mi m → Cr mr mr1 → GoS m (goF σ i) → Run (d+6) mt_X5_goOn Q (n, mr1, 0, 0) m 21 [vR (some (0, 70)), vR (some (g, 5)), vI x, vI (goF σ i).2.1, vI (i : Int)] [] := by
    refine nloop ?_
    intro i hi ih m mr1 gm hr1 hS
    have hL := hr1.lay hL
    obtain ⟨a, b, c, dd, e⟩ := goF_Inv hV h7 h8 hl i
    obtain ⟨s1, s2, s3, s4⟩ := hS
    by_cases he : (i : Int) < x
    · have ih := ih (by omega)
      rw [goF] at ih
      generalize goF σ i = q at *
      have hhi : hiEq σ q.1 := fun k hk => b k (by omega) (by omega)
      have hw : WfLine q.1 q.2.1 := (hl _ c.1 c.2).hi hhi c.1
      have e17 : q.1 17 = σ 17 := b 17 (by omega) (by omega)
      have hNm : RepN m g q.1 := (RepN.mv hN (fun b z1 z2 => gm.row (fun k => by simp [pGo, pW5, pQ] <;> omega))).row hl e17 hhi
      have hLn := hNm.2 q.2.1 c.1 (by omega)
      have hag : ag (clR q.1) (clG m 9) := fun i z0 z1 => s1 i z0 z1
      have e20 : m (g + 10) 20 0 = σ 17 := by rw [hNm.1, e17]
      have eo : lnA (clG m 9) (tgtOf q.1 q.2.1) (lnP q.1 q.2.1) (lnV q.1 q.2.1) (lnT q.1 q.2.1) = lnO q.1 q.2.1 := lnA_ag a hag hLn.2.2.2.2.2.2
      have hrg := lnA_rg (c := clR q.1) (t := tgtOf q.1 q.2.1) (p := lnP q.1 q.2.1) (v := lnV q.1 q.2.1) (w := lnT q.1 q.2.1)
      rw [show lnA (clR q.1) (tgtOf q.1 q.2.1) (lnP q.1 q.2.1) (lnV q.1 q.2.1) (lnT q.1 q.2.1) = lnO q.1 q.2.1 from rfl] at hrg
      have hn0 := c.1
      have hn1 := c.2
      refine s_iload (dc kc_X5_goOn_0 13 rfl) rfl <| s_iload_n (dc kc_X5_goOn_0 14 rfl) rfl <| s_icmp_ge (tgt := 197) (dc kc_X5_goOn_0 15 rfl) rfl (fun c24 => (?_)) (fun c24 => (r_aload_n (dc kc_X5_goOn_0 16 rfl) rfl <| s_getO (dc kc_X5_goOn_0 17 rfl) fl_X5_21 (ly_70_1 hL) <| r_aload_n (dc kc_X5_goOn_0 18 rfl) rfl <| s_getO (dc kc_X5_goOn_0 19 rfl) fl_X5_102 (ly_5_2 hL (by assumption)) <| s_iload_n (dc kc_X5_goOn_0 20 rfl) rfl <| r_aload_n (dc kc_X5_goOn_0 21 rfl) rfl <| s_getO (dc kc_X5_goOn_0 22 rfl) fl_X5_28 (ly_70_2 hL) <| c_v3 (dc kc_X5_goOn_0 23 rfl) cl_X5_105 rfl (Nat.le_of_ble_eq_true rfl) (Nat.zero_le _) (Nat.zero_le _) ?_))
      · exfalso; omega
      · refine u_perform hL (by decide) hokT hok9 (a.ag hag) c.1 (by omega) (by omega) hLn (fun m1 mr2 g1 hr2 hwk => ?_)
        rw [eo, s2] at hwk
        have hL := hr2.lay hL
        have hr12 := hr1.tr hr2
        obtain ⟨w0, w1, w2, w3⟩ := hwk
        have gm1 : Cg pGo mi m1 := gm.tr (g1.mono (fun _ _ _ z => by simp [pGo, z]))
        have f16 : m1 9 16 = m 9 16 := g1.row (fun k => by simp [pW5, pQ])
        have f15 : m1 9 15 1 = m 9 15 1 := g1.at (by simp [pW5, pQ])
        have f71 : m1 0 71 = m 0 71 := g1.row (fun k => by simp [pW5, pQ])
        have f70 : m1 0 70 = m 0 70 := g1.row (fun k => by simp [pW5, pQ])
        have f704 : m1 0 70 4 = m 0 70 4 := by rw [f70]
        have f705 : m1 0 70 5 = m 0 70 5 := by rw [f70]
        have f20 : m1 (g + 10) 20 0 = σ 17 := by rw [g1.at (by simp [pW5, pQ]), e20]
        have p4 : m 0 70 4 = (q.2.2.1.length : Int) := s3.1
        -- behind one line
        have nxt : ∀ m2 : MI, Cg pGo mi m2 → m2 (g + 10) 20 0 = σ 17 → GoS m2 (go1 (σ 17) q) → Run (d+6) mt_X5_goOn Q (n, mr2, 0, 0) m2 170 [vR (some (0, 70)), vR (some (g, 5)), vI x, vI q.2.1, vI (i : Int)] [] := by
          intro m2 gm2 h20 hS2
          have := ih m2 mr2 gm2 hr12 hS2
          have el : (go1 (σ 17) q).2.1 = (q.2.1 + 1) % σ 17 := rfl
          refine s_iload_n (dc kc_X5_goOn_2 4 rfl) rfl <| k_i (dc kc_X5_goOn_2 5 rfl) rfl <| b_iadd (dc kc_X5_goOn_2 6 rfl) (by first | omega | (simp [up] <;> omega)) (by first | omega | (simp [up] <;> omega)) <| r_aload_n (dc kc_X5_goOn_2 7 rfl) rfl <| s_getO (dc kc_X5_goOn_2 8 rfl) fl_X5_102 (ly_5_2 hL (by assumption)) <| s_getI (dc kc_X5_goOn_2 9 rfl) fl_X5_125 <| s_icmp_ge (tgt := 189) (dc kc_X5_goOn_2 10 rfl) rfl (fun c180 => (k_i (dc kc_X5_goOn_2 15 rfl) rfl <| t_i3 (dc kc_X5_goOn_2 16 rfl) (Nat.le_of_ble_eq_true rfl) rfl <| b_inc4 (dc kc_X5_goOn_2 17 rfl) rfl (Nat.le_of_ble_eq_true rfl) rfl (by first | omega | (simp [up] <;> omega)) (by first | omega | (simp [up] <;> omega)) <| s_goto (tgt := 21) (dc kc_X5_goOn_2 18 rfl) rfl <| ?_)) (fun c180 => (s_iload_n (dc kc_X5_goOn_2 11 rfl) rfl <| k_i (dc kc_X5_goOn_2 12 rfl) rfl <| b_iadd (dc kc_X5_goOn_2 13 rfl) (by first | omega | (simp [up] <;> omega)) (by first | omega | (simp [up] <;> omega)) <| s_goto (tgt := 190) (dc kc_X5_goOn_2 14 rfl) rfl <| t_i3 (dc kc_X5_goOn_2 16 rfl) (Nat.le_of_ble_eq_true rfl) rfl <| b_inc4 (dc kc_X5_goOn_2 17 rfl) rfl (Nat.le_of_ble_eq_true rfl) rfl (by first | omega | (simp [up] <;> omega)) (by first | omega | (simp [up] <;> omega)) <| s_goto (tgt := 21) (dc kc_X5_goOn_2 18 rfl) rfl <| ?_))
          · rw [el, show (q.2.1 + 1) % σ 17 = 0 by rw [show q.2.1 + 1 = σ 17 by omega, Int.emod_self]] at this
            exact this
          · rw [el, Int.emod_eq_of_lt (by omega) (by omega)] at this
            exact this
        have same : (lnO q.1 q.2.1).1 ≠ 2 → (lnO q.1 q.2.1).1 ≠ 3 → GoS m1 (go1 (σ 17) q) := by
          intro n2 n3
          unfold go1 lnR GoS
          simp only []
          rw [if_neg n2, if_neg (fun z => n3 z.1), if_neg (fun z => n3 z.1), f16, f15, f704, f705]
          exact ⟨s1, s2, by unfold PAr; rw [f71]; exact s3, s4⟩
        have ho : (lnO q.1 q.2.1).1 = 0 ∨ (lnO q.1 q.2.1).1 = 1 ∨ (lnO q.1 q.2.1).1 = 2 ∨ (lnO q.1 q.2.1).1 = 3 := by omega
        rcases ho with o | o | o | o
        · have := w0 o
          refine r_aload_n (dc kc_X5_goOn_0 24 rfl) rfl <| s_getO (dc kc_X5_goOn_0 25 rfl) fl_X5_21 (ly_70_1 hL) <| s_getI (dc kc_X5_goOn_0 26 rfl) fl_X5_109 <| k_i (dc kc_X5_goOn_0 27 rfl) rfl <| s_icmp_ne (tgt := 100) (dc kc_X5_goOn_0 28 rfl) rfl (fun c51 => (r_aload_n (dc kc_X5_goOn_1 9 rfl) rfl <| s_getO (dc kc_X5_goOn_1 10 rfl) fl_X5_21 (ly_70_1 hL) <| s_getI (dc kc_X5_goOn_1 11 rfl) fl_X5_109 <| k_i (dc kc_X5_goOn_1 12 rfl) rfl <| s_icmp_ne (tgt := 149) (dc kc_X5_goOn_1 13 rfl) rfl (fun c108 => (r_aload_n (dc kc_X5_goOn_1 33 rfl) rfl <| s_getO (dc kc_X5_goOn_1 34 rfl) fl_X5_21 (ly_70_1 hL) <| s_getI (dc kc_X5_goOn_1 35 rfl) fl_X5_109 <| k_i (dc kc_X5_goOn_1 36 rfl) rfl <| s_icmp_ne (tgt := 170) (dc kc_X5_goOn_1 37 rfl) rfl (fun c157 => (?_)) (fun c157 => (?_)))) (fun c108 => (?_)))) (fun c51 => (?_))
          all_goals first | (exfalso; omega) | exact nxt m1 gm1 f20 (same (by omega) (by omega))
        · have := w1 o
          refine r_aload_n (dc kc_X5_goOn_0 24 rfl) rfl <| s_getO (dc kc_X5_goOn_0 25 rfl) fl_X5_21 (ly_70_1 hL) <| s_getI (dc kc_X5_goOn_0 26 rfl) fl_X5_109 <| k_i (dc kc_X5_goOn_0 27 rfl) rfl <| s_icmp_ne (tgt := 100) (dc kc_X5_goOn_0 28 rfl) rfl (fun c51 => (r_aload_n (dc kc_X5_goOn_1 9 rfl) rfl <| s_getO (dc kc_X5_goOn_1 10 rfl) fl_X5_21 (ly_70_1 hL) <| s_getI (dc kc_X5_goOn_1 11 rfl) fl_X5_109 <| k_i (dc kc_X5_goOn_1 12 rfl) rfl <| s_icmp_ne (tgt := 149) (dc kc_X5_goOn_1 13 rfl) rfl (fun c108 => (r_aload_n (dc kc_X5_goOn_1 33 rfl) rfl <| s_getO (dc kc_X5_goOn_1 34 rfl) fl_X5_21 (ly_70_1 hL) <| s_getI (dc kc_X5_goOn_1 35 rfl) fl_X5_109 <| k_i (dc kc_X5_goOn_1 36 rfl) rfl <| s_icmp_ne (tgt := 170) (dc kc_X5_goOn_1 37 rfl) rfl (fun c157 => (?_)) (fun c157 => (?_)))) (fun c108 => (?_)))) (fun c51 => (?_))
          all_goals first | (exfalso; omega) | exact nxt m1 gm1 f20 (same (by omega) (by omega))
        · obtain ⟨v1, v2, v3, v4, v5⟩ := w2 o
          obtain ⟨t0, t1, t2⟩ := lnO_2 a hw o
          refine r_aload_n (dc kc_X5_goOn_0 24 rfl) rfl <| s_getO (dc kc_X5_goOn_0 25 rfl) fl_X5_21 (ly_70_1 hL) <| s_getI (dc kc_X5_goOn_0 26 rfl) fl_X5_109 <| k_i (dc kc_X5_goOn_0 27 rfl) rfl <| s_icmp_ne (tgt := 100) (dc kc_X5_goOn_0 28 rfl) rfl (fun c51 => (r_aload_n (dc kc_X5_goOn_1 9 rfl) rfl <| s_getO (dc kc_X5_goOn_1 10 rfl) fl_X5_21 (ly_70_1 hL) <| s_getI (dc kc_X5_goOn_1 11 rfl) fl_X5_109 <| k_i (dc kc_X5_goOn_1 12 rfl) rfl <| s_icmp_ne (tgt := 149) (dc kc_X5_goOn_1 13 rfl) rfl (fun c108 => (r_aload_n (dc kc_X5_goOn_1 33 rfl) rfl <| s_getO (dc kc_X5_goOn_1 34 rfl) fl_X5_21 (ly_70_1 hL) <| s_getI (dc kc_X5_goOn_1 35 rfl) fl_X5_109 <| k_i (dc kc_X5_goOn_1 36 rfl) rfl <| s_icmp_ne (tgt := 170) (dc kc_X5_goOn_1 37 rfl) rfl (fun c157 => (?_)) (fun c157 => (?_)))) (fun c108 => (?_)))) (fun c51 => (?_))
          all_goals first | (exfalso; omega) | skip
          refine r_aload_n (dc kc_X5_goOn_0 29 rfl) rfl <| s_getO (dc kc_X5_goOn_0 30 rfl) fl_X5_28 (ly_70_2 hL) <| s_getA (dc kc_X5_goOn_0 31 rfl) fl_X5_88 (ly_15_0 hL (by assumption)) <| r_aload_n (dc kc_X5_goOn_0 32 rfl) rfl <| s_getO (dc kc_X5_goOn_0 33 rfl) fl_X5_21 (ly_70_1 hL) <| s_getI (dc kc_X5_goOn_0 34 rfl) fl_X5_112 <| r_aload_n (dc kc_X5_goOn_0 35 rfl) rfl <| s_getO (dc kc_X5_goOn_0 36 rfl) fl_X5_21 (ly_70_1 hL) <| s_getI (dc kc_X5_goOn_0 37 rfl) fl_X5_115 <| s_iastore (dc kc_X5_goOn_0 38 rfl) rfl (by first | omega | (simp [up] <;> omega)) (by first | omega | (simp [up] <;> omega)) <| ?_
          rw [v2, v3]
          generalize hcc : (lnO q.1 q.2.1).2.1 = cc at *
          generalize hyy : (lnO q.1 q.2.1).2.2.1 = yy at *
          have k2 : up m1 9 16 cc yy 1 55 2 = cc := by rw [up_j (by decide), v2]
          have k5 : up m1 9 16 cc yy 1 55 5 = mkd q.1 (lnO q.1 q.2.1).2.2.2 := by rw [up_j (by decide), v5]; rfl
          have k15 : up m1 9 16 cc yy 9 15 1 = q.1 19 := by rw [up_j (by decide), f15, s2]
          have k16 : up m1 9 16 cc yy 9 16 = ud (m 9 16) cc yy := by rw [up_ud, f16]
          have k71 : up m1 9 16 cc yy 0 71 = m 0 71 := by rw [up_j (by decide), f71]
          have k70 : up m1 9 16 cc yy 0 70 = m 0 70 := by rw [up_j (by decide), f70]
          have k20 : up m1 9 16 cc yy (g + 10) 20 0 = σ 17 := by rw [up_j (by decide), f20]
          have gm2 : Cg pGo mi (up m1 9 16 cc yy) := gm1.up (by simp [pGo])
          generalize up m1 9 16 cc yy = m2 at *
          have h01 : m2 1 55 5 = 0 ∨ m2 1 55 5 = 1 := by rw [k5]; exact bi_01
          have n3 : ¬ (lnO q.1 q.2.1).1 = 3 := by omega
          refine r_aload_n (dc kc_X5_goOn_0 39 rfl) rfl <| s_getO (dc kc_X5_goOn_1 0 rfl) fl_X5_28 (ly_70_2 hL) <| r_aload_n (dc kc_X5_goOn_1 1 rfl) rfl <| s_getO (dc kc_X5_goOn_1 2 rfl) fl_X5_21 (ly_70_1 hL) <| s_getI (dc kc_X5_goOn_1 3 rfl) fl_X5_112 <| r_aload_n (dc kc_X5_goOn_1 4 rfl) rfl <| s_getO (dc kc_X5_goOn_1 5 rfl) fl_X5_21 (ly_70_1 hL) <| s_getI (dc kc_X5_goOn_1 6 rfl) fl_X5_118 <| c_v2 (dc kc_X5_goOn_1 7 rfl) cl_X5_121 rfl (Nat.le_of_ble_eq_true rfl) (Nat.zero_le _) (Nat.zero_le _) <| u_mark (by first | omega | (simp [up] <;> omega)) (by first | omega | (simp [up] <;> omega)) (by first | omega | assumption | (simp [up] <;> omega)) <| s_goto (tgt := 170) (dc kc_X5_goOn_1 8 rfl) rfl <| ?_
          refine nxt _ (gm2.up (by simp [pGo])) (by rw [up_j (by decide), k20]) ?_
          unfold go1 lnR GoS
          simp only []
          rw [if_pos o, if_neg (show ¬ (1 : Int) = 0 by decide), if_neg (show ¬ ((lnO q.1 q.2.1).1 = 3 ∧ mkd q.1 (lnO q.1 q.2.1).2.2.2 = 0) from fun z => n3 z.1), if_neg (show ¬ ((lnO q.1 q.2.1).1 = 3 ∧ mkd q.1 (lnO q.1 q.2.1).2.2.2 ≠ 0) from fun z => n3 z.1), hcc, hyy, up_j (by decide), up_at, up_j (by decide), k16, k2, k5, k15, k70]
          refine ⟨fun i z0 z1 => ?_, ?_, by unfold PAr; rw [up_j (by decide), k71]; exact s3, s4⟩
          · rw [mkR_off (by omega)]
            by_cases ei : i = cc
            · rw [ei, ud_at, ud_at]
            · rw [ud_ne ei, ud_ne (by omega)]; exact s1 i z0 z1
          · unfold mkR
            rw [ud_at, ud_ne (by omega)]
        · obtain ⟨v1, v3⟩ := w3 o
          by_cases hz : bAnd (mkM (lnO q.1 q.2.1).2.2.2) (q.1 19) = 0
          · have hmk : mkd q.1 (lnO q.1 q.2.1).2.2.2 = 0 := by unfold mkd; rw [bi_f (fun z => z hz)]
            rw [if_neg (fun z => z hz)] at v1
            have hlen : q.2.2.1.length < 24 := by omega
            refine r_aload_n (dc kc_X5_goOn_0 24 rfl) rfl <| s_getO (dc kc_X5_goOn_0 25 rfl) fl_X5_21 (ly_70_1 hL) <| s_getI (dc kc_X5_goOn_0 26 rfl) fl_X5_109 <| k_i (dc kc_X5_goOn_0 27 rfl) rfl <| s_icmp_ne (tgt := 100) (dc kc_X5_goOn_0 28 rfl) rfl (fun c51 => (r_aload_n (dc kc_X5_goOn_1 9 rfl) rfl <| s_getO (dc kc_X5_goOn_1 10 rfl) fl_X5_21 (ly_70_1 hL) <| s_getI (dc kc_X5_goOn_1 11 rfl) fl_X5_109 <| k_i (dc kc_X5_goOn_1 12 rfl) rfl <| s_icmp_ne (tgt := 149) (dc kc_X5_goOn_1 13 rfl) rfl (fun c108 => (?_)) (fun c108 => (r_aload_n (dc kc_X5_goOn_1 14 rfl) rfl <| s_getI (dc kc_X5_goOn_1 15 rfl) fl_X5_36 <| k_b (dc kc_X5_goOn_1 16 rfl) rfl <| s_icmp_ge (tgt := 149) (dc kc_X5_goOn_1 17 rfl) rfl (fun c117 => (?_)) (fun c117 => (?_)))))) (fun c51 => (?_))
            all_goals first | (exfalso; omega) | skip
            refine r_aload_n (dc kc_X5_goOn_1 18 rfl) rfl <| s_getA (dc kc_X5_goOn_1 19 rfl) fl_X5_32 (ly_70_3 hL) <| r_aload_n (dc kc_X5_goOn_1 20 rfl) rfl <| s_getI (dc kc_X5_goOn_1 21 rfl) fl_X5_36 <| r_aload_n (dc kc_X5_goOn_1 22 rfl) rfl <| s_getO (dc kc_X5_goOn_1 23 rfl) fl_X5_21 (ly_70_1 hL) <| s_getI (dc kc_X5_goOn_1 24 rfl) fl_X5_115 <| s_iastore (dc kc_X5_goOn_1 25 rfl) rfl (by first | omega | (simp [up] <;> omega)) (by first | omega | (simp [up] <;> omega)) <| r_aload_n (dc kc_X5_goOn_1 26 rfl) rfl <| s_dup (dc kc_X5_goOn_1 27 rfl) rfl <| s_getI (dc kc_X5_goOn_1 28 rfl) fl_X5_36 <| k_i (dc kc_X5_goOn_1 29 rfl) rfl <| b_iadd (dc kc_X5_goOn_1 30 rfl) (by first | omega | (simp [up] <;> omega)) (by first | omega | (simp [up] <;> omega)) <| s_putI (dc kc_X5_goOn_1 31 rfl) fl_X5_36 <| s_goto (tgt := 170) (dc kc_X5_goOn_1 32 rfl) rfl <| ?_
            rw [f704, v3]
            refine nxt _ ((gm1.up (by simp [pGo])).up (by simp [pGo])) (by rw [up_j (by decide), up_j (by decide), f20]) ?_
            unfold go1 lnR GoS
            simp only []
            rw [if_neg (by omega), if_pos ⟨o, hmk⟩, if_neg (fun z => z.2 hmk), up_at, up_k (by decide), up_j (by decide), up_j (by decide), up_j (by decide), up_j (by decide), f16, f15, up_j (by decide), f704, f705]
            exact ⟨s1, s2, s3.snoc hlen rfl (by rw [up_j (by decide), up_ud, f71]), s4⟩
          · have hmk : mkd q.1 (lnO q.1 q.2.1).2.2.2 ≠ 0 := by unfold mkd; rw [bi_t hz]; decide
            rw [if_pos hz] at v1
            refine r_aload_n (dc kc_X5_goOn_0 24 rfl) rfl <| s_getO (dc kc_X5_goOn_0 25 rfl) fl_X5_21 (ly_70_1 hL) <| s_getI (dc kc_X5_goOn_0 26 rfl) fl_X5_109 <| k_i (dc kc_X5_goOn_0 27 rfl) rfl <| s_icmp_ne (tgt := 100) (dc kc_X5_goOn_0 28 rfl) rfl (fun c51 => (r_aload_n (dc kc_X5_goOn_1 9 rfl) rfl <| s_getO (dc kc_X5_goOn_1 10 rfl) fl_X5_21 (ly_70_1 hL) <| s_getI (dc kc_X5_goOn_1 11 rfl) fl_X5_109 <| k_i (dc kc_X5_goOn_1 12 rfl) rfl <| s_icmp_ne (tgt := 149) (dc kc_X5_goOn_1 13 rfl) rfl (fun c108 => (r_aload_n (dc kc_X5_goOn_1 33 rfl) rfl <| s_getO (dc kc_X5_goOn_1 34 rfl) fl_X5_21 (ly_70_1 hL) <| s_getI (dc kc_X5_goOn_1 35 rfl) fl_X5_109 <| k_i (dc kc_X5_goOn_1 36 rfl) rfl <| s_icmp_ne (tgt := 170) (dc kc_X5_goOn_1 37 rfl) rfl (fun c157 => (s_iload_n (dc kc_X5_goOn_2 4 rfl) rfl <| k_i (dc kc_X5_goOn_2 5 rfl) rfl <| b_iadd (dc kc_X5_goOn_2 6 rfl) (by first | omega | (simp [up] <;> omega)) (by first | omega | (simp [up] <;> omega)) <| r_aload_n (dc kc_X5_goOn_2 7 rfl) rfl <| s_getO (dc kc_X5_goOn_2 8 rfl) fl_X5_102 (ly_5_2 hL (by assumption)) <| s_getI (dc kc_X5_goOn_2 9 rfl) fl_X5_125 <| s_icmp_ge (tgt := 189) (dc kc_X5_goOn_2 10 rfl) rfl (fun c180 => (k_i (dc kc_X5_goOn_2 15 rfl) rfl <| t_i3 (dc kc_X5_goOn_2 16 rfl) (Nat.le_of_ble_eq_true rfl) rfl <| b_inc4 (dc kc_X5_goOn_2 17 rfl) rfl (Nat.le_of_ble_eq_true rfl) rfl (by first | omega | (simp [up] <;> omega)) (by first | omega | (simp [up] <;> omega)) <| s_goto (tgt := 21) (dc kc_X5_goOn_2 18 rfl) rfl <| s_iload (dc kc_X5_goOn_0 13 rfl) rfl <| s_iload_n (dc kc_X5_goOn_0 14 rfl) rfl <| s_icmp_ge (tgt := 197) (dc kc_X5_goOn_0 15 rfl) rfl (fun c24 => (s_return (dc kc_X5_goOn_2 19 rfl) rfl (Nat.zero_le _) (Nat.zero_le _) ?_)) (fun c24 => (r_aload_n (dc kc_X5_goOn_0 16 rfl) rfl <| s_getO (dc kc_X5_goOn_0 17 rfl) fl_X5_21 (ly_70_1 hL) <| r_aload_n (dc kc_X5_goOn_0 18 rfl) rfl <| s_getO (dc kc_X5_goOn_0 19 rfl) fl_X5_102 (ly_5_2 hL (by assumption)) <| s_iload_n (dc kc_X5_goOn_0 20 rfl) rfl <| r_aload_n (dc kc_X5_goOn_0 21 rfl) rfl <| s_getO (dc kc_X5_goOn_0 22 rfl) fl_X5_28 (ly_70_2 hL) <| c_v3 (dc kc_X5_goOn_0 23 rfl) cl_X5_105 rfl (Nat.le_of_ble_eq_true rfl) (Nat.zero_le _) (Nat.zero_le _) ?_)))) (fun c180 => (s_iload_n (dc kc_X5_goOn_2 11 rfl) rfl <| k_i (dc kc_X5_goOn_2 12 rfl) rfl <| b_iadd (dc kc_X5_goOn_2 13 rfl) (by first | omega | (simp [up] <;> omega)) (by first | omega | (simp [up] <;> omega)) <| s_goto (tgt := 190) (dc kc_X5_goOn_2 14 rfl) rfl <| t_i3 (dc kc_X5_goOn_2 16 rfl) (Nat.le_of_ble_eq_true rfl) rfl <| b_inc4 (dc kc_X5_goOn_2 17 rfl) rfl (Nat.le_of_ble_eq_true rfl) rfl (by first | omega | (simp [up] <;> omega)) (by first | omega | (simp [up] <;> omega)) <| s_goto (tgt := 21) (dc kc_X5_goOn_2 18 rfl) rfl <| s_iload (dc kc_X5_goOn_0 13 rfl) rfl <| s_iload_n (dc kc_X5_goOn_0 14 rfl) rfl <| s_icmp_ge (tgt := 197) (dc kc_X5_goOn_0 15 rfl) rfl (fun c24 => (s_return (dc kc_X5_goOn_2 19 rfl) rfl (Nat.zero_le _) (Nat.zero_le _) ?_)) (fun c24 => (r_aload_n (dc kc_X5_goOn_0 16 rfl) rfl <| s_getO (dc kc_X5_goOn_0 17 rfl) fl_X5_21 (ly_70_1 hL) <| r_aload_n (dc kc_X5_goOn_0 18 rfl) rfl <| s_getO (dc kc_X5_goOn_0 19 rfl) fl_X5_102 (ly_5_2 hL (by assumption)) <| s_iload_n (dc kc_X5_goOn_0 20 rfl) rfl <| r_aload_n (dc kc_X5_goOn_0 21 rfl) rfl <| s_getO (dc kc_X5_goOn_0 22 rfl) fl_X5_28 (ly_70_2 hL) <| c_v3 (dc kc_X5_goOn_0 23 rfl) cl_X5_105 rfl (Nat.le_of_ble_eq_true rfl) (Nat.zero_le _) (Nat.zero_le _) ?_)))))) (fun c157 => (?_)))) (fun c108 => (?_)))) (fun c51 => (?_))
            all_goals first | (exfalso; omega) | skip
            refine r_aload_n (dc kc_X5_goOn_1 38 rfl) rfl <| s_dup (dc kc_X5_goOn_1 39 rfl) rfl <| s_getI (dc kc_X5_goOn_2 0 rfl) fl_X5_40 <| k_i (dc kc_X5_goOn_2 1 rfl) rfl <| b_iadd (dc kc_X5_goOn_2 2 rfl) (by first | omega | (simp [up] <;> omega)) (by first | omega | (simp [up] <;> omega)) <| s_putI (dc kc_X5_goOn_2 3 rfl) fl_X5_40 <| ?_
            refine nxt _ (gm1.up (by simp [pGo])) (by rw [up_j (by decide), f20]) ?_
            unfold go1 lnR GoS
            simp only []
            rw [if_neg (by omega), if_neg (fun z => hmk z.2), if_pos ⟨o, hmk⟩, up_at, up_k (by decide), up_j (by decide), up_j (by decide), f16, f15, f704, f705, s4]
            exact ⟨s1, s2, by unfold PAr; rw [up_j (by decide), f71]; exact s3, rfl⟩
    · refine s_iload (dc kc_X5_goOn_0 13 rfl) rfl <| s_iload_n (dc kc_X5_goOn_0 14 rfl) rfl <| s_icmp_ge (tgt := 197) (dc kc_X5_goOn_0 15 rfl) rfl (fun c24 => (s_return (dc kc_X5_goOn_2 19 rfl) rfl (Nat.zero_le _) (Nat.zero_le _) ?_)) (fun c24 => (?_))
      · have hi' : i = x.toNat := by omega
        subst hi'
        exact hQ m mr1 gm hr1 ⟨s1, s2, s3, s4⟩
      · exfalso; omega
  refine tx_intro (ls := [vR (some (0, 70)), vR (some (g, 5)), vI x, vX 0, vX 0]) om_X5_goOn rfl (Nat.le_of_ble_eq_true rfl) ?_
  refine r_aload_n (dc kc_X5_goOn_0 0 rfl) rfl <| k_i (dc kc_X5_goOn_0 1 rfl) rfl <| s_putI (dc kc_X5_goOn_0 2 rfl) fl_X5_36 <| r_aload_n (dc kc_X5_goOn_0 3 rfl) rfl <| k_i (dc kc_X5_goOn_0 4 rfl) rfl <| s_putI (dc kc_X5_goOn_0 5 rfl) fl_X5_40 <| r_aload_n (dc kc_X5_goOn_0 6 rfl) rfl <| s_getA (dc kc_X5_goOn_0 7 rfl) fl_X5_99 (ly_5_5 hL (by assumption)) <| k_b (dc kc_X5_goOn_0 8 rfl) rfl <| s_iaload (dc kc_X5_goOn_0 9 rfl) rfl (by first | omega | (simp [up] <;> omega)) (by first | omega | (simp [up] <;> omega)) <| t_i3 (dc kc_X5_goOn_0 10 rfl) (Nat.le_of_ble_eq_true rfl) rfl <| k_i (dc kc_X5_goOn_0 11 rfl) rfl <| t_i4 (dc kc_X5_goOn_0 12 rfl) (Nat.le_of_ble_eq_true rfl) rfl <| ?_
  have e6 : up (up mi 0 70 4 0) 0 70 5 0 g 6 7 = σ 7 := by rw [up_j (by decide), up_j (by decide), h6]
  rw [e6]
  refine loop 0 (Nat.zero_le _) _ mr ((Cg.rf.up (by simp [pGo])).up (by simp [pGo])) Cr.rf ⟨fun i z0 z1 => by rw [up_j (by decide), up_j (by decide)]; exact hc i z0 z1, by rw [up_j (by decide), up_j (by decide)]; exact hm, ⟨by rw [up_k (by decide), up_at]; rfl, Nat.zero_le 24, fun i x hx => by cases hx⟩, by rw [up_at]; rfl⟩
end PGO
