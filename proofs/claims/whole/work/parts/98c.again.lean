/-! the class: steps done again; row -/
def pAg (g a b : Nat) (k : Int) : Bool := pSt g a b k || pW5 0 a b k || (a == g && (b == 37 || b == 38))
theorem agF_none {ρ : Int → Int} {s : Int} {i : Nat} (h : agF ρ s i = none) : ∀ k : Nat, agF ρ s (i + k) = none
  | 0 => h
  | k + 1 => by rw [← Nat.add_assoc, agF, agF_none h k]
/-- a state behind a step done anew -/
theorem Rep_ag {m m' : MI} {g : Nat} {ρ R : Int → Int} {p b : Int} (hR : Rep (-1) m g ρ) (hwf : WfR ρ) (h8 : R 8 ≤ 200) (hp : 0 ≤ p ∧ p < 200) (hm : ∀ a b, rlS g a b = true → ¬ (a = g ∧ ((30 ≤ b ∧ b ≤ 38) ∨ b = 15 ∨ b = 16)) → m' a b = m a b) (e37 : m' g 37 = ud (m g 37) p (ρ (246 + 2 * p))) (e38 : m' g 38 = ud (m g 38) p b) (hoff : ∀ k, k ≠ 8 ∧ k ≠ 20 ∧ k ≠ 19 ∧ (k < 30 ∨ 54 ≤ k ∧ k < 646 ∨ 2046 ≤ k) → R k = ρ k) (rW : RepW m' g R) (rJ : RepJ m' g R) : Rep (-1) m' g (ud R (246 + 2 * p + 1) b) := by
  obtain ⟨-, rL, rN, -, rS, rH, rC⟩ := hR
  have off : ∀ k, k ≠ 8 ∧ k ≠ 20 ∧ k ≠ 19 ∧ (k < 30 ∨ 54 ≤ k ∧ k < 246 ∨ 2046 ≤ k) → ud R (246 + 2 * p + 1) b k = ρ k := fun k hk => by rw [ud_ne (by omega)]; exact hoff k (by omega)
  have hi : hiEq ρ (ud R (246 + 2 * p + 1) b) := fun k hk => off k (by omega)
  refine ⟨rW.row (fun k hk => ud_ne (by omega)), (rL.mv (fun c z1 z2 => hm g c (by simp [rlS, z1, z2]) (by omega))).row hwf.1 (off 16 (by omega)) hi, (rN.mv (fun c z1 z2 => hm (g + 10) c (by simp [rlS, z1, z2]) (by omega))).row hwf.2 (off 17 (by omega)) hi, rJ.row h8 (fun k hk => ud_ne (by omega)), fun s s0 s1 => ?_, (rH.mv (fun c z1 z2 => hm g c (by simp [rlS]; omega) (by omega))).row (fun k hk => off k (by omega)), (rC.mv (fun c z1 z2 => hm g c (by simp [rlS]; omega) (by omega))).row (fun k hk => off k (by omega))⟩
  have := rS s s0 s1
  rw [e37, e38]
  by_cases e : s = p
  · rw [e, ud_at, ud_at, ud_at, ud_ne (by omega), hoff _ (by omega)]
    exact ⟨rfl, rfl⟩
  · rw [ud_ne e, ud_ne e, ud_ne (by omega), ud_ne (by omega), hoff _ (by omega), hoff _ (by omega)]
    exact this
section CAG
variable {d n G : Nat} {mr : MR} {Q : V → MI → Nat → MR → Prop}
theorem u_doAgain (hL : Lay G mr) {mi : MI} {g : Nat} {ρ : Int → Int} {B s : Int} (hG : G ≤ 4) (hg : g < G) (hR : Rep (-1) mi g ρ) (hI : Inv B ρ) (hs0 : 0 ≤ s) (hs1 : s < ρ 0) (h20 : ρ 20 < s) (hQ1 : agF (ag0 ρ s) (s + 1) (ρ 0 - s - 1).toNat = none → ∀ mi' mr', Cg (pAg g) mi mi' → Cr mr mr' → Q (vI (-1)) mi' n mr') (hQ2 : ∀ q, agF (ag0 ρ s) (s + 1) (ρ 0 - s - 1).toNat = some q → ∀ mi' mr', Cg (pAg g) mi mi' → Cr mr mr' → Rep (-1) mi' g q.1 → Q (vI q.2) mi' n mr') : Tx (d+6) mt_X11_doAgain [vR (some (0, 0)), vR (some (g, 5)), vI s] mi n mr Q := by
  have hok : okI G 5 g := hg
  have hokJ : okI G 30 g := hg
  have hokT : okI G 20 (g + 10) := Or.inr (Or.inl ⟨by omega, by omega⟩)
  have hokW : okI G 15 g := Or.inl hg
  obtain ⟨hI0, hW, hC, hB⟩ := id hI
  obtain ⟨hV, h0, h7, h8, h10, h16, h17, h18, hlw, hln⟩ := hI0
  have h17p : 0 < ρ 17 := by have := hW.2.2.2.1; omega
  have hA0 := ag0_Inv (s := s) hV hW h8 hC.2.2.2.2.2.2.2.2.2 hs0 h20
  have hwf : WfR ρ := ⟨hlw, hln⟩
  have loop : ∀ i : Nat, i ≤ (ρ 0 - s - 1).toNat → ∀ (m : MI) (mr1 : MR) (p : (Int → Int) × Int) (x5 x6 : V), Cg (pAg g) mi m → Cr mr mr1 → agF (ag0 ρ s) (s + 1) i = some p → Rep (-1) m g p.1 → Run (d+6) mt_X11_doAgain Q (n, mr1, 0, 0) m 20 [vR (some (0, 0)), vR (some (g, 5)), vI s, vI p.2, vI (s + 1 + i), x5, x6] [] := by
    refine nloop ?_
    intro i hi ih m mr1 p x5 x6 gm hr1 ep hRm
    have hL := hr1.lay hL
    have hA := agF_Inv hA0 hs0 h17p hln i p (by omega) ep
    obtain ⟨hVp, hWp, h8p, hst, h20p, hof, h19⟩ := id hA.1
    have hp2 := hA.2
    have e60 : m g 6 0 = ρ 0 := by rw [hRm.2.2.2.2.2.2.1 0 (by omega) (by omega) (by omega)]; exact hof 0 (by omega) (by omega) (by omega) (by omega)
    by_cases he : s + 1 + (i : Int) < ρ 0
    · have ex : agF (ag0 ρ s) (s + 1) (i + 1) = match agS p.1 (s + 1 + i) with
        | none => none
        | some q => some (q.1, p.2 + q.2) := by rw [agF, ep]; rfl
      have nonefin : agS p.1 (s + 1 + i) = none → agF (ag0 ρ s) (s + 1) (ρ 0 - s - 1).toNat = none := by
        intro hz
        rw [hz] at ex
        have := agF_none ex ((ρ 0 - s - 1).toNat - (i + 1))
        rw [show i + 1 + ((ρ 0 - s - 1).toNat - (i + 1)) = (ρ 0 - s - 1).toNat by omega] at this
        exact this
      have ih := ih (by omega)
      generalize hs' : s + 1 + (i : Int) = s' at *
      have hs1' : s' + 1 = s + 1 + ((i + 1 : Nat) : Int) := by omega
      have hj := hWp.2.2.1 (s' % 200) (by omega) (by omega)
      have e17 : p.1 17 = ρ 17 := hof 17 (by omega) (by omega) (by omega) (by omega)
      have hsS := hRm.2.2.2.2.1 (s' % 200) (by omega) (by omega)
      have hwfp : WfR p.1 := hwf.hi (hof 16 (by omega) (by omega) (by omega) (by omega)) e17 hA.1.hi
      generalize hj' : p.1 (246 + 2 * (s' % 200)) = j at *
      -- to the next
      have nxt : ∀ (m' : MI) (mr2 : MR) (q : (Int → Int) × Int) (x5 x6 : V), agS p.1 s' = some q → Cg (pAg g) mi m' → Cr mr mr2 → Rep (-1) m' g q.1 → Run (d+6) mt_X11_doAgain Q (n, mr2, 0, 0) m' 185 [vR (some (0, 0)), vR (some (g, 5)), vI s, vI (p.2 + q.2), vI s', x5, x6] [] := by
        intro m' mr2 q x5 x6 hq g' hr' hR'
        rw [hq] at ex
        have hn' := ih m' mr2 (q.1, p.2 + q.2) x5 x6 g' hr' ex hR'
        refine b_inc4 (dc kc_X11_doAgain_2 9 rfl) rfl (Nat.le_of_ble_eq_true rfl) rfl (by first | omega | (simp [up] <;> omega)) (by first | omega | (simp [up] <;> omega)) <| s_goto (tgt := 20) (dc kc_X11_doAgain_2 10 rfl) rfl <| ?_
        rw [hs1']
        exact hn'
      refine s_iload (dc kc_X11_doAgain_0 13 rfl) rfl <| r_aload_n (dc kc_X11_doAgain_0 14 rfl) rfl <| s_getA (dc kc_X11_doAgain_0 15 rfl) fl_X11_118 (ly_5_5 hL (by assumption)) <| k_i (dc kc_X11_doAgain_0 16 rfl) rfl <| s_iaload (dc kc_X11_doAgain_0 17 rfl) rfl (by first | omega | (simp [up] <;> omega)) (by first | omega | (simp [up] <;> omega)) <| s_icmp_ge (tgt := 191) (dc kc_X11_doAgain_0 18 rfl) rfl (fun c28 => (?_)) (fun c28 => (r_aload_n (dc kc_X11_doAgain_0 19 rfl) rfl <| s_getO (dc kc_X11_doAgain_0 20 rfl) fl_X11_127 (ly_5_3 hL (by assumption)) <| s_iload (dc kc_X11_doAgain_0 21 rfl) rfl <| c_v1r (dc kc_X11_doAgain_0 22 rfl) cl_X11_331 rfl (Nat.le_of_ble_eq_true rfl) (Nat.zero_le _) (Nat.zero_le _) ?_))
      · exfalso; omega
      · refine u_lineOf hL hg (by omega) (by omega) ?_
        rw [hsS.1]
        refine t_i5 (dc kc_X11_doAgain_0 23 rfl) (Nat.le_of_ble_eq_true rfl) rfl <| s_iload (dc kc_X11_doAgain_0 24 rfl) rfl <| k_i (dc kc_X11_doAgain_0 25 rfl) rfl <| s_icmp_ne (tgt := 51) (dc kc_X11_doAgain_0 26 rfl) rfl (fun c45 => (?_)) (fun c45 => (s_goto (tgt := 185) (dc kc_X11_doAgain_0 27 rfl) rfl <| ?_))
        · skip
          have hj2 : 0 ≤ j ∧ j < ρ 17 := by omega
          have hNm := hRm.2.2.1
          have hLn := hNm.2 j hj2.1 (by omega)
          have e20 : m (g + 10) 20 0 = ρ 17 := by rw [hNm.1, e17]
          have hw := hwfp.2 j hj2.1 (by omega)
          refine b_inc3 (dc kc_X11_doAgain_0 28 rfl) rfl (Nat.le_of_ble_eq_true rfl) rfl (by first | omega | (simp [up] <;> omega)) (by first | omega | (simp [up] <;> omega)) <| r_aload_n (dc kc_X11_doAgain_0 29 rfl) rfl <| s_getO (dc kc_X11_doAgain_0 30 rfl) fl_X11_115 (ly_5_2 hL (by assumption)) <| s_iload (dc kc_X11_doAgain_0 31 rfl) rfl <| c_v1r (dc kc_X11_doAgain_0 32 rfl) cl_X11_334 rfl (Nat.le_of_ble_eq_true rfl) (Nat.zero_le _) (Nat.zero_le _) ?_
          refine u_targetOf hL hokT hj2.1 (by omega) (by omega) ?_
          rw [hLn.1]
          have ht := hw.1.cs
          refine k_b (dc kc_X11_doAgain_0 33 rfl) rfl <| s_icmp_ne (tgt := 71) (dc kc_X11_doAgain_0 34 rfl) rfl (fun c65 => (?_)) (fun c65 => (s_goto (tgt := 185) (dc kc_X11_doAgain_0 35 rfl) rfl <| ?_))
          · skip
            have hn5 : ¬ p.1 (2166 + 10 * j) = 5 := by omega
            have hag : ag (clR p.1) (clG m g) := fun i z0 z1 => hRm.1.1 i z0 z1
            have eo : lnA (clG m g) (tgtOf p.1 j) (lnP p.1 j) (lnV p.1 j) (lnT p.1 j) = lnO p.1 j := lnA_ag hVp hag hLn.2.2.2.2.2.2
            refine r_aload_n (dc kc_X11_doAgain_0 36 rfl) rfl <| s_getO (dc kc_X11_doAgain_0 37 rfl) fl_X11_54 (ly_0_9 hL) <| r_aload_n (dc kc_X11_doAgain_0 38 rfl) rfl <| s_getO (dc kc_X11_doAgain_0 39 rfl) fl_X11_115 (ly_5_2 hL (by assumption)) <| s_iload (dc kc_X11_doAgain_1 0 rfl) rfl <| r_aload_n (dc kc_X11_doAgain_1 1 rfl) rfl <| s_getO (dc kc_X11_doAgain_1 2 rfl) fl_X11_140 (ly_5_0 hL (by assumption)) <| c_v3 (dc kc_X11_doAgain_1 3 rfl) cl_X11_206 rfl (Nat.le_of_ble_eq_true rfl) (Nat.zero_le _) (Nat.zero_le _) ?_
            refine u_perform hL (by decide) hokT hokW (hVp.ag hag) hj2.1 (by omega) (by omega) hLn (fun m1 mr2 g1 hr2 hwk => ?_)
            rw [eo, hRm.1.2] at hwk
            have hL := hr2.lay hL
            have hr12 := hr1.tr hr2
            obtain ⟨w0, w1, w2, w3⟩ := hwk
            have gm1 : Cg (pAg g) mi m1 := gm.tr (g1.mono (fun _ _ _ z => by simp [pAg, z]))
            have rl1 : ∀ a b, rlS g a b = true → m1 a b = m a b := fun a b z => g1.row (fun k => by
              simp [rlS] at z
              simp [pW5, pQ]
              omega)
            have hR1 : Rep (-1) m1 g p.1 := hRm.mv rl1
            have hs1S := hR1.2.2.2.2.1 (s' % 200) (by omega) (by omega)
            have hrg := lnA_rg (c := clR p.1) (t := tgtOf p.1 j) (p := lnP p.1 j) (v := lnV p.1 j) (w := lnT p.1 j)
            rw [show lnA (clR p.1) (tgtOf p.1 j) (lnP p.1 j) (lnV p.1 j) (lnT p.1 j) = lnO p.1 j from rfl] at hrg
            have h551 : m1 0 55 1 = 1 ↔ (lnO p.1 j).1 = 1 := by
              have ho : (lnO p.1 j).1 = 0 ∨ (lnO p.1 j).1 = 1 ∨ (lnO p.1 j).1 = 2 ∨ (lnO p.1 j).1 = 3 := by omega
              rcases ho with o | o | o | o
              · have := w0 o; omega
              · have := w1 o; omega
              · have := (w2 o).1; omega
              · have := (w3 o).1
                split at this <;> omega
            have h552 : m1 0 55 1 = 2 ↔ (lnO p.1 j).1 = 2 := by
              have ho : (lnO p.1 j).1 = 0 ∨ (lnO p.1 j).1 = 1 ∨ (lnO p.1 j).1 = 2 ∨ (lnO p.1 j).1 = 3 := by omega
              rcases ho with o | o | o | o
              · have := w0 o; omega
              · have := w1 o; omega
              · have := (w2 o).1; omega
              · have := (w3 o).1
                split at this <;> omega
            -- kept as it went now
            have keep : ∀ b, b = bi ((lnO p.1 j).1 = 1) → ¬ ((lnO p.1 j).1 = 1 ∧ p.1 (246 + 2 * (s' % 200) + 1) ≠ 1) → Run (d+6) mt_X11_doAgain Q (n, mr2, 0, 0) m1 125 [vR (some (0, 0)), vR (some (g, 5)), vI s, vI (p.2 + 1), vI s', vI j, vI b] [] := by
              intro b hb hgo
              have hS : agS p.1 s' = some (ud (lnR p.1 j s' 0) (246 + 2 * (s' % 200) + 1) (bi ((lnO p.1 j).1 = 1)), 1) := by
                unfold agS
                rw [hj', if_neg (by omega), if_neg hn5, if_neg hgo]
              rw [← hb] at hS
              have hb01 : b = 0 ∨ b = 1 := by rw [hb]; exact bi_01
              refine r_aload_n (dc kc_X11_doAgain_1 22 rfl) rfl <| s_getO (dc kc_X11_doAgain_1 23 rfl) fl_X11_127 (ly_5_3 hL (by assumption)) <| s_iload (dc kc_X11_doAgain_1 24 rfl) rfl <| s_iload (dc kc_X11_doAgain_1 25 rfl) rfl <| s_iload (dc kc_X11_doAgain_1 26 rfl) rfl <| c_v3 (dc kc_X11_doAgain_1 27 rfl) cl_X11_340 rfl (Nat.le_of_ble_eq_true rfl) (Nat.zero_le _) (Nat.zero_le _) ?_
              refine u_noteStep hL hg (by omega) (by omega) hb01 ?_
              have hoff : ∀ k, k ≠ 8 ∧ k ≠ 20 ∧ k ≠ 19 ∧ (k < 30 ∨ 54 ≤ k ∧ k < 646 ∨ 2046 ≤ k) → lnR p.1 j s' 0 k = p.1 k := fun k hk => lnR_off hVp hw h8p.1 h8p.2 hk
              have h55 : ∀ k, up (up m1 g 37 (s' % 200) j) g 38 (s' % 200) b 0 55 k = m1 0 55 k := fun k => by rw [up_j (by decide), up_j (by decide)]
              have f37 : up (up m1 g 37 (s' % 200) j) g 38 (s' % 200) b g 37 = ud (m1 g 37) (s' % 200) j := by rw [up_j (by decide), up_ud]
              have f38 : up (up m1 g 37 (s' % 200) j) g 38 (s' % 200) b g 38 = ud (m1 g 38) (s' % 200) b := by rw [up_ud, up_j (by decide)]
              have fo : ∀ a c, c ≠ 37 → c ≠ 38 → up (up m1 g 37 (s' % 200) j) g 38 (s' % 200) b a c = m1 a c := fun a c z1 z2 => by rw [up_j z2, up_j z1]
              have gm2 : Cg (pAg g) mi (up (up m1 g 37 (s' % 200) j) g 38 (s' % 200) b) := (gm1.up (by simp [pAg])).up (by simp [pAg])
              generalize up (up m1 g 37 (s' % 200) j) g 38 (s' % 200) b = m2 at *
              have rW2 : RepW m2 g p.1 := hR1.1.mv (fo _ _ (by decide) (by decide)) (by rw [fo _ _ (by decide) (by decide)])
              have rJ2 : RepJ m2 g p.1 := hR1.2.2.2.1.mv (fun c z1 z2 => fo _ _ (by omega) (by omega))
              have e551 := h55 1
              refine r_aload_n (dc kc_X11_doAgain_1 28 rfl) rfl <| s_getO (dc kc_X11_doAgain_1 29 rfl) fl_X11_54 (ly_0_9 hL) <| s_getI (dc kc_X11_doAgain_1 30 rfl) fl_X11_228 <| k_i (dc kc_X11_doAgain_1 31 rfl) rfl <| s_icmp_ne (tgt := 185) (dc kc_X11_doAgain_1 32 rfl) rfl (fun c146 => (?_)) (fun c146 => (?_))
              · have hno : ¬ (lnO p.1 j).1 = 2 := fun z => by have := h552.mpr z; omega
                have hlr : lnR p.1 j s' 0 = p.1 := by unfold lnR; rw [if_neg hno]
                refine nxt m2 mr2 _ _ _ hS gm2 hr12 (Rep_ag (ρ := p.1) hR1 hwfp (by rw [hlr]; exact h8p.2) (by omega) (fun a c z1 z2 => fo a c (fun z => ?_) (fun z => ?_)) (by rw [hj']; exact f37) f38 hoff (by rw [hlr]; exact rW2) (by rw [hlr]; exact rJ2))
                · subst z; simp [rlS] at z1; omega
                · subst z; simp [rlS] at z1; omega
              · have ho2 : (lnO p.1 j).1 = 2 := h552.mp (by omega)
                obtain ⟨v1, v2, v3, v4, v5⟩ := w2 ho2
                obtain ⟨t0, t1, t2⟩ := lnO_2 hVp hw ho2
                have hlr : lnR p.1 j s' 0 = wrR p.1 s' j (lnO p.1 j).2.1 (lnO p.1 j).2.2.1 (mkd p.1 (lnO p.1 j).2.2.2) (mkM (lnO p.1 j).2.2.2) := by unfold lnR; rw [if_pos ho2, if_pos rfl]; rfl
                have x2 : m2 0 55 2 = (lnO p.1 j).2.1 := by rw [h55, v2]
                have x3 : m2 0 55 3 = (lnO p.1 j).2.2.1 := by rw [h55, v3]
                have x4 : m2 0 55 4 = mkM (lnO p.1 j).2.2.2 := by rw [h55, v4]
                have x5 : m2 0 55 5 = mkd p.1 (lnO p.1 j).2.2.2 := by rw [h55, v5]; rfl
                refine r_aload_n (dc kc_X11_doAgain_1 33 rfl) rfl <| s_iload (dc kc_X11_doAgain_1 34 rfl) rfl <| s_iload (dc kc_X11_doAgain_1 35 rfl) rfl <| r_aload_n (dc kc_X11_doAgain_1 36 rfl) rfl <| s_getO (dc kc_X11_doAgain_1 37 rfl) fl_X11_54 (ly_0_9 hL) <| s_getI (dc kc_X11_doAgain_1 38 rfl) fl_X11_344 <| r_aload_n (dc kc_X11_doAgain_1 39 rfl) rfl <| s_getO (dc kc_X11_doAgain_2 0 rfl) fl_X11_54 (ly_0_9 hL) <| s_getI (dc kc_X11_doAgain_2 1 rfl) fl_X11_347 <| r_aload_n (dc kc_X11_doAgain_2 2 rfl) rfl <| s_getO (dc kc_X11_doAgain_2 3 rfl) fl_X11_54 (ly_0_9 hL) <| s_getI (dc kc_X11_doAgain_2 4 rfl) fl_X11_350 <| r_aload_n (dc kc_X11_doAgain_2 5 rfl) rfl <| s_getO (dc kc_X11_doAgain_2 6 rfl) fl_X11_54 (ly_0_9 hL) <| s_getI (dc kc_X11_doAgain_2 7 rfl) fl_X11_353 <| c_v6 (dc kc_X11_doAgain_2 8 rfl) cl_X11_354 rfl (Nat.le_of_ble_eq_true rfl) (Nat.zero_le _) (Nat.zero_le _) ?_
                rw [x2, x3, x4, x5]
                refine u_writeJ hL hg rW2 rJ2 hWp h8p t1 t2 bi_01 (fun m3 g3 rW3 rJ3 => ?_)
                rw [← hlr] at rW3 rJ3
                have h8r : lnR p.1 j s' 0 8 ≤ 200 := (lnR_8 hVp hw h8p.1 h8p.2).2
                refine nxt m3 mr2 _ _ _ hS (gm2.tr (g3.mono (fun _ _ _ z => by simp [pAg, z]))) hr12 (Rep_ag (ρ := p.1) hR1 hwfp h8r (by omega) (fun a c z1 z2 => ?_) (by rw [hj', g3.row (fun k => by simp [pSt, pJ])]; exact f37) (by rw [g3.row (fun k => by simp [pSt, pJ])]; exact f38) hoff rW3 rJ3)
                have z3 : c ≠ 37 ∧ c ≠ 38 := by
                  simp [rlS] at z1
                  omega
                rw [g3.row (fun k => by simp [rlS] at z1; simp [pSt, pJ]; omega), fo a c z3.1 z3.2]
            refine r_aload_n (dc kc_X11_doAgain_1 4 rfl) rfl <| s_getO (dc kc_X11_doAgain_1 5 rfl) fl_X11_54 (ly_0_9 hL) <| s_getI (dc kc_X11_doAgain_1 6 rfl) fl_X11_228 <| k_i (dc kc_X11_doAgain_1 7 rfl) rfl <| s_icmp_ne (tgt := 103) (dc kc_X11_doAgain_1 8 rfl) rfl (fun c96 => (k_i (dc kc_X11_doAgain_1 11 rfl) rfl <| t_i6 (dc kc_X11_doAgain_1 12 rfl) (Nat.le_of_ble_eq_true rfl) rfl <| s_iload (dc kc_X11_doAgain_1 13 rfl) rfl <| s_if_eq (tgt := 125) (dc kc_X11_doAgain_1 14 rfl) rfl (fun c108 => (?_)) (fun c108 => (?_)))) (fun c96 => (k_i (dc kc_X11_doAgain_1 9 rfl) rfl <| s_goto (tgt := 104) (dc kc_X11_doAgain_1 10 rfl) rfl <| t_i6 (dc kc_X11_doAgain_1 12 rfl) (Nat.le_of_ble_eq_true rfl) rfl <| s_iload (dc kc_X11_doAgain_1 13 rfl) rfl <| s_if_eq (tgt := 125) (dc kc_X11_doAgain_1 14 rfl) rfl (fun c108 => (?_)) (fun c108 => (?_))))
            all_goals first | (exfalso; omega) | skip
            · exact keep 0 (by rw [bi_f (fun z => c96 (h551.mpr z))]) (fun z => c96 (h551.mpr z.1))
            · have ho1 := h551.mp c96
              refine r_aload_n (dc kc_X11_doAgain_1 15 rfl) rfl <| s_getO (dc kc_X11_doAgain_1 16 rfl) fl_X11_127 (ly_5_3 hL (by assumption)) <| s_iload (dc kc_X11_doAgain_1 17 rfl) rfl <| c_v1r (dc kc_X11_doAgain_1 18 rfl) cl_X11_337 rfl (Nat.le_of_ble_eq_true rfl) (Nat.zero_le _) (Nat.zero_le _) ?_
              refine u_wasAmiss hL hg (by omega) (by omega) ?_
              rw [hs1S.2]
              refine s_if_ne (tgt := 125) (dc kc_X11_doAgain_1 19 rfl) rfl (fun c120 => (?_)) (fun c120 => (k_i (dc kc_X11_doAgain_1 20 rfl) rfl <| s_ireturn (dc kc_X11_doAgain_1 21 rfl) rfl (Nat.zero_le _) (Nat.zero_le _) ?_))
              · exact keep 1 (by rw [bi_t ho1]) (fun z => z.2 (bi_ne0.mp c120))
              · refine hQ1 (nonefin ?_) m1 mr2 gm1 hr12
                unfold agS
                rw [hj', if_neg (by omega), if_neg hn5, if_pos ⟨ho1, fun z => by rw [bi_t z] at c120; omega⟩]
          · have h5 : p.1 (2166 + 10 * j) = 5 := by omega
            exact nxt m mr1 (p.1, 1) _ _ (by unfold agS; rw [hj', if_neg (by omega), if_pos h5]) gm hr1 hRm
        · have := nxt m mr1 (p.1, 0) (vI j) x6 (by unfold agS; rw [hj', if_pos (by omega)]) gm hr1 hRm
          rw [Int.add_zero] at this
          exact this
    · refine s_iload (dc kc_X11_doAgain_0 13 rfl) rfl <| r_aload_n (dc kc_X11_doAgain_0 14 rfl) rfl <| s_getA (dc kc_X11_doAgain_0 15 rfl) fl_X11_118 (ly_5_5 hL (by assumption)) <| k_i (dc kc_X11_doAgain_0 16 rfl) rfl <| s_iaload (dc kc_X11_doAgain_0 17 rfl) rfl (by first | omega | (simp [up] <;> omega)) (by first | omega | (simp [up] <;> omega)) <| s_icmp_ge (tgt := 191) (dc kc_X11_doAgain_0 18 rfl) rfl (fun c28 => (s_iload_n (dc kc_X11_doAgain_2 11 rfl) rfl <| s_ireturn (dc kc_X11_doAgain_2 12 rfl) rfl (Nat.zero_le _) (Nat.zero_le _) ?_)) (fun c28 => (?_))
      · have hi' : i = (ρ 0 - s - 1).toNat := by omega
        subst hi'
        exact hQ2 p ep m mr1 gm hr1 hRm
      · exfalso; omega
  refine tx_intro (ls := [vR (some (0, 0)), vR (some (g, 5)), vI s, vX 0, vX 0, vX 0, vX 0]) om_X11_doAgain rfl (Nat.le_of_ble_eq_true rfl) ?_
  refine r_aload_n (dc kc_X11_doAgain_0 0 rfl) rfl <| s_iload_n (dc kc_X11_doAgain_0 1 rfl) rfl <| c_v1 (dc kc_X11_doAgain_0 2 rfl) cl_X11_325 rfl (Nat.le_of_ble_eq_true rfl) (Nat.zero_le _) (Nat.zero_le _) ?_
  refine u_takeBackFrom hL hg hR hV hW hwf h8 (fun m1 g1 hR1 => ?_)
  refine r_aload_n (dc kc_X11_doAgain_0 3 rfl) rfl <| s_getO (dc kc_X11_doAgain_0 4 rfl) fl_X11_127 (ly_5_3 hL (by assumption)) <| s_iload_n (dc kc_X11_doAgain_0 5 rfl) rfl <| c_v1 (dc kc_X11_doAgain_0 6 rfl) cl_X11_328 rfl (Nat.le_of_ble_eq_true rfl) (Nat.zero_le _) (Nat.zero_le _) ?_
  refine u_leaveOut hL hg hs0 (by omega) ?_
  refine k_i (dc kc_X11_doAgain_0 7 rfl) rfl <| t_i3 (dc kc_X11_doAgain_0 8 rfl) (Nat.le_of_ble_eq_true rfl) rfl <| s_iload_n (dc kc_X11_doAgain_0 9 rfl) rfl <| k_i (dc kc_X11_doAgain_0 10 rfl) rfl <| b_iadd (dc kc_X11_doAgain_0 11 rfl) (by first | omega | (simp [up] <;> omega)) (by first | omega | (simp [up] <;> omega)) <| t_i4 (dc kc_X11_doAgain_0 12 rfl) (Nat.le_of_ble_eq_true rfl) rfl <| ?_
  have hag0 : Rep (-1) (up m1 g 37 (s % 200) (-1)) g (ag0 ρ s) := by
    unfold ag0
    obtain ⟨a1, a2, a3, a4, a5, a6⟩ := tkB_Inv (s := s) (ρ 8).toNat ρ hV hW (by omega) (by omega)
    obtain ⟨rW, rL, rN, rJ, rS, rH, rC⟩ := hR1
    have hwt : WfR (tkB s (ρ 8).toNat ρ) := hwf.hi (a4 16 (by omega) (by omega) (by omega)) (a4 17 (by omega) (by omega) (by omega)) (fun k hk => a4 k (by omega) (by omega) (by omega))
    generalize tkB s (ρ 8).toNat ρ = T at *
    have o : ∀ k, k < 246 ∨ 646 ≤ k → ud T (246 + 2 * (s % 200)) (-1) k = T k := fun k hk => ud_ne (by omega)
    refine ⟨(rW.mv (up_j (by decide)) (by rw [up_j (by decide)])).row (fun k hk => o k (by omega)), (rL.mv (fun c z1 z2 => up_j (by omega))).row hwt.1 (o 16 (by omega)) (fun k hk => o k (by omega)), (rN.mv (fun c z1 z2 => up_j (by omega))).row hwt.2 (o 17 (by omega)) (fun k hk => o k (by omega)), (rJ.mv (fun c z1 z2 => up_j (by omega))).row a3.2 (fun k hk => o k (by omega)), fun t t0 t1 => ?_, (rH.mv (fun c z1 z2 => up_j (by omega))).row (fun k hk => o k (by omega)), (rC.mv (fun c z1 z2 => up_j (by omega))).row (fun k hk => o k (by omega))⟩
    have := rS t t0 t1
    rw [up_ud, up_j (by decide)]
    by_cases e : t = s % 200
    · rw [e, ud_at, ud_at, ud_ne (by omega)]
      rw [e] at this
      exact ⟨rfl, this.2⟩
    · rw [ud_ne e, ud_ne (by omega), ud_ne (by omega)]
      exact this
  have := loop 0 (Nat.zero_le _) (up m1 g 37 (s % 200) (-1)) mr (ag0 ρ s, 0) (vX 0) (vX 0) ((g1.mono (fun _ _ _ z => by simp [pAg, z])).up (by simp [pAg])) Cr.rf rfl hag0
  rw [show s + 1 + ((0 : Nat) : Int) = s + 1 by omega] at this
  exact this
end CAG
