/-! lines: what they do -/
def lnP (ρ : Int → Int) (j : Int) : List CT := slc ρ 3086 (ρ (2166 + 10 * j + 3) - ρ (2166 + 10 * j + 2)).toNat (ρ (2166 + 10 * j + 2))
def lnV (ρ : Int → Int) (j : Int) : List CT := slc ρ 3086 (ρ (2166 + 10 * j + 5) - ρ (2166 + 10 * j + 4)).toNat (ρ (2166 + 10 * j + 4))
def lnT (ρ : Int → Int) (j : Int) : List CT := slc ρ 3086 (ρ (2166 + 10 * j + 7) - ρ (2166 + 10 * j + 6)).toNat (ρ (2166 + 10 * j + 6))
def Lin (t : Int) (p v w : List CT) : Prop := (6 ≤ t → t ≤ 8 → tyc p [] = some [0]) ∧ (tyc v [] = some [0] ∨ tyc v [] = some [1]) ∧ (w = [] ∨ tyc w [] = some [2]) ∧ p.length ≤ 60 ∧ v.length ≤ 60 ∧ w.length ≤ 60
def WfLine (ρ : Int → Int) (j : Int) : Prop := WfTgt ρ j ∧ (0 ≤ ρ (2166 + 10 * j + 2) ∧ ρ (2166 + 10 * j + 2) ≤ ρ (2166 + 10 * j + 3) ∧ ρ (2166 + 10 * j + 3) = ρ (2166 + 10 * j + 4) ∧ ρ (2166 + 10 * j + 4) ≤ ρ (2166 + 10 * j + 5) ∧ ρ (2166 + 10 * j + 5) = ρ (2166 + 10 * j + 6) ∧ ρ (2166 + 10 * j + 6) ≤ ρ (2166 + 10 * j + 7) ∧ ρ (2166 + 10 * j + 7) ≤ 400) ∧ Lin (tgtOf ρ j) (lnP ρ j) (lnV ρ j) (lnT ρ j)
abbrev OC : Type := Int × Int × Int × List Int
def oc0 : OC := (0, 0, 0, [])
def oc1 : OC := (1, 0, 0, [])
def fin3 (t nd y : Int) (r : List Int) : OC := if nd = -1 then oc1 else if t = 9 then (3, 9, y, r) else if biC (t + 3 * nd) y = 1 then (2, t + 3 * nd, y, r) else oc1
def fin2 (c : Int → Int) (t : Int) (v : List CT) (nd : Int) (r : List Int) : OC := match evs c v [] r with
  | some (y :: _, r2) => fin3 t nd y r2
  | _ => oc1
def fin1 (c : Int → Int) (t : Int) (p v : List CT) (r : List Int) : OC := if 6 ≤ t ∧ t ≤ 8 then (match evs c p [] r with
  | some (nd :: _, r1) => fin2 c t v nd r1
  | _ => oc1) else fin2 c t v 0 r
/-- what a line comes to: 0 passed, 1 amiss, 2 written, 3 paid; the cell, the value, the cells read -/
def lnA (c : Int → Int) (t : Int) (p v w : List CT) : OC := if w = [] then fin1 c t p v [] else match evs c w [] [] with
  | some (x :: _, r) => if x = 0 then oc0 else fin1 c t p v r
  | _ => oc1
def lnO (ρ : Int → Int) (j : Int) : OC := lnA (fun i => ρ (30 + i)) (tgtOf ρ j) (lnP ρ j) (lnV ρ j) (lnT ρ j)
/-- whether what was read is marked -/
def mkd (ρ : Int → Int) (r : List Int) : Int := bi (bAnd (mkM r) (ρ 19) ≠ 0)
def lnR (ρ : Int → Int) (j s p : Int) : Int → Int := if (lnO ρ j).1 = 2 then mkR (ud (if p = 0 then kw ρ s j (lnO ρ j).2.1 (lnO ρ j).2.2.1 (mkM (lnO ρ j).2.2.2) else ρ) (30 + (lnO ρ j).2.1) (lnO ρ j).2.2.1) (lnO ρ j).2.1 (mkd ρ (lnO ρ j).2.2.2) else ρ
def rcO (o : OC) : Int := if o.1 = 0 then 1 else if o.1 = 1 then 2 else if o.1 = 2 then 3 else 4
def pD (j : Nat) (k : Int) : Bool := j == 81 || j == 85 || j == 92 || (j == 80 && (k == 7 || k == 8 || k == 9 || k == 30 || k == 31 || k == 32))
theorem pE_pD (j : Nat) (k : Int) (h : pE j k = true) : pD j k = true := by
  simp only [pE, pD, Bool.or_eq_true, Bool.and_eq_true, beq_iff_eq] at h ⊢; omega
theorem p81_pD (j : Nat) (k : Int) (h : p81 j k = true) : pD j k = true := by
  simp only [p81, pD, Bool.or_eq_true, Bool.and_eq_true, beq_iff_eq] at h ⊢; omega
theorem kw_19 {ρ : Int → Int} {s l c v r : Int} (h0 : 0 ≤ ρ 8) (h1 : ρ 8 ≤ 200) : kw ρ s l c v r 19 = ρ 19 := by
  have h8 := kw0_8 h0 h1
  unfold kw kw1
  rw [ud_ne (by omega), ud_ne (by omega), ud_ne (by omega), ud_ne (by omega), ud_ne (by omega), ud_ne (by omega), ud_ne (by omega), ud_ne (by omega)]
  unfold kw0
  split
  · simp
  · rfl
theorem biC_01 {c v : Int} : biC c v = 0 ∨ biC c v = 1 := bi_01
section REF9
variable {d n G : Nat} {mr : MR} {Q : V → MI → Nat → MR → Prop}
theorem t_doLine (hL : Lay G mr) {mi : MI} {j s p : Int} (hc : VC (cel mi)) (hj0 : 0 ≤ j) (hj1 : j < 12) (hw : WfLine (mi 0 81) j) (h0 : 0 ≤ mi 0 81 8) (h1 : mi 0 81 8 ≤ 200) (hQ : ∀ mi', Ch pD mi mi' → mi' 0 81 = lnR (mi 0 81) j s p → ((lnO (mi 0 81) j).1 = 3 → mi' 0 80 31 = (lnO (mi 0 81) j).2.2.1 ∧ mi' 0 80 32 = mkd (mi 0 81) (lnO (mi 0 81) j).2.2.2) → Q (vI (rcO (lnO (mi 0 81) j))) mi' n mr) : Tx (d+6) mt_X12_doLine [vR (some (0, 80)), vI j, vI s, vI p] mi n mr Q := by
  refine tx_intro (ls := [vR (some (0, 80)), vI j, vI s, vI p, vX 0, vX 0, vX 0, vX 0, vX 0, vX 0]) om_X12_doLine rfl (Nat.le_of_ble_eq_true rfl) ?_
  obtain ⟨ht, hs, hlin⟩ := hw
  have tcs := ht.cs
  have fin : ∀ mi' v, Ch pD mi mi' → mi' 0 81 = lnR (mi 0 81) j s p → ((lnO (mi 0 81) j).1 = 3 → mi' 0 80 31 = (lnO (mi 0 81) j).2.2.1 ∧ mi' 0 80 32 = mkd (mi 0 81) (lnO (mi 0 81) j).2.2.2) → v = rcO (lnO (mi 0 81) j) → Q (vI v) mi' n mr := fun mi' v g1 g2 g3 g4 => by subst g4; exact hQ mi' g1 g2 g3
  -- outcomes that leave the row
  have amis : ∀ mi1, Ch pE mi mi1 → lnO (mi 0 81) j = oc1 → Q (vI 2) mi1 n mr := by
    intro mi1 g e
    have := hQ mi1 (g.mono pE_pD) (by rw [g.row (fun _ => rfl)]; unfold lnR; rw [e]; rfl) (by rw [e]; intro z; cases z)
    rw [e] at this
    exact this
  have pass : ∀ mi1, Ch pE mi mi1 → lnO (mi 0 81) j = oc0 → Q (vI 1) mi1 n mr := by
    intro mi1 g e
    have := hQ mi1 (g.mono pE_pD) (by rw [g.row (fun _ => rfl)]; unfold lnR; rw [e]; rfl) (by rw [e]; intro z; cases z)
    rw [e] at this
    exact this
  -- the end: amiss or not
  have stC : ∀ (mi1 : MI) (so nd y : Int) (x8 x9 : V), Ch pE mi mi1 → ((mi1 0 80 30 = 1 ∧ lnO (mi 0 81) j = oc1) ∨ (mi1 0 80 30 = 0 ∧ (-1 ≤ nd ∧ nd ≤ 5 ∧ (tgtOf (mi 0 81) j < 6 ∨ 8 < tgtOf (mi 0 81) j → nd = 0)) ∧ ∃ r, Bm (mi1 0 80 9) r ∧ (∀ a ∈ r, 0 ≤ a ∧ a < 24) ∧ lnO (mi 0 81) j = fin3 (tgtOf (mi 0 81) j) nd y r)) → Run (d+6) mt_X12_doLine Q (n, mr, 0, 0) mi1 186 [vR (some (0, 80)), vI j, vI s, vI p, vI (2166 + 10 * j), vI so, vI nd, vI y, x8, x9] [] := by
    intro mi1 so nd y x8 x9 g hm
    have hrow : mi1 0 81 = mi 0 81 := g.row (fun _ => rfl)
    refine r_aload_n (dc kc_X12_doLine_2 24 rfl) rfl <| s_getZ (dc kc_X12_doLine_2 25 rfl) fl_X12_353 <| s_if_ne (tgt := 199) (dc kc_X12_doLine_2 26 rfl) rfl (fun c190 => (?_)) (fun c190 => (s_iload (dc kc_X12_doLine_2 27 rfl) rfl <| k_i (dc kc_X12_doLine_2 28 rfl) rfl <| s_icmp_ne (tgt := 201) (dc kc_X12_doLine_2 29 rfl) rfl (fun c196 => (?_)) (fun c196 => (?_))))
    · rcases hm with ⟨e, eo⟩ | ⟨e, ⟨hn0, hn1, hnt⟩, r, hB, hr, eo⟩
      · refine k_i (dc kc_X12_doLine_2 30 rfl) rfl <| s_ireturn (dc kc_X12_doLine_2 31 rfl) rfl (Nat.zero_le _) (Nat.zero_le _) ?_
        exact amis _ g eo
      · exact absurd e c190
    · rcases hm with ⟨e, eo⟩ | ⟨e, ⟨hn0, hn1, hnt⟩, r, hB, hr, eo⟩
      · exfalso; omega
      · unfold fin3 at eo
        rw [if_neg c196] at eo
        have eM : mi1 0 80 9 = mkM r := hB.mk (fun a ha => by have := hr a ha; omega)
        have held : ∀ b, b = mkd (mi 0 81) r → Run (d+6) mt_X12_doLine Q (n, mr, 0, 0) mi1 223 [vR (some (0, 80)), vI j, vI s, vI p, vI (2166 + 10 * j), vI so, vI nd, vI y, vI b, x9] [] := by
          intro b eb
          have hb01 : b = 0 ∨ b = 1 := by rw [eb]; exact bi_01
          have stD : tgtOf (mi 0 81) j ≠ 9 → ∀ cc, cc = tgtOf (mi 0 81) j + 3 * nd → Run (d+6) mt_X12_doLine Q (n, mr, 0, 0) mi1 338 [vR (some (0, 80)), vI j, vI s, vI p, vI (2166 + 10 * j), vI so, vI nd, vI y, vI b, x9] [vI cc] := by
            intro h9 cc ecc
            rw [if_neg h9, ← ecc] at eo
            have hcc : 0 ≤ cc ∧ cc < 24 := by omega
            have h8 : 0 ≤ mi1 0 81 8 ∧ mi1 0 81 8 ≤ 200 := by rw [hrow]; exact ⟨h0, h1⟩
            have wr : ∀ mi2 w, Ch pD mi mi2 → lnO (mi 0 81) j = (2, cc, y, r) → mi2 0 81 = w → w 19 = mi 0 81 19 → (w = if p = 0 then kw (mi 0 81) s j cc y (mkM r) else mi 0 81) → Run (d+6) mt_X12_doLine Q (n, mr, 0, 0) mi2 370 [vR (some (0, 80)), vI j, vI s, vI p, vI (2166 + 10 * j), vI so, vI nd, vI y, vI b, vI cc] [] := by
              intro mi2 w g2 e2 hw2 hw19 hww
              refine r_aload_n (dc kc_X12_doLine_5 2 rfl) rfl <| s_getA (dc kc_X12_doLine_5 3 rfl) fl_X12_7 (ly_80_2 hL) <| k_b (dc kc_X12_doLine_5 4 rfl) rfl <| s_iload (dc kc_X12_doLine_5 5 rfl) rfl <| b_iadd (dc kc_X12_doLine_5 6 rfl) (by first | omega | (simp [up] <;> omega)) (by first | omega | (simp [up] <;> omega)) <| s_iload (dc kc_X12_doLine_5 7 rfl) rfl <| s_iastore (dc kc_X12_doLine_5 8 rfl) rfl (by first | omega | (simp [up] <;> omega)) (by first | omega | (simp [up] <;> omega)) <| r_aload_n (dc kc_X12_doLine_5 9 rfl) rfl <| s_iload (dc kc_X12_doLine_5 10 rfl) rfl <| s_iload (dc kc_X12_doLine_5 11 rfl) rfl <| c_v2 (dc kc_X12_doLine_5 12 rfl) cl_X12_410 rfl (Nat.le_of_ble_eq_true rfl) (Nat.zero_le _) (Nat.zero_le _) <| t_mark hL <| k_i (dc kc_X12_doLine_5 13 rfl) rfl <| s_ireturn (dc kc_X12_doLine_5 14 rfl) rfl (Nat.zero_le _) (Nat.zero_le _) ?_
              refine fin _ _ ((g2.up rfl).up rfl) ?_ (by rw [e2]; intro z; cases z) (by rw [e2]; rfl)
              rw [up_ud, up_ud, hw2]
              unfold lnR
              rw [e2]
              simp only [if_true]
              rw [← hww, ← eb]
              rfl
            refine t_i9 (dc kc_X12_doLine_4 25 rfl) (Nat.le_of_ble_eq_true rfl) rfl <| s_iload (dc kc_X12_doLine_4 26 rfl) rfl <| s_iload (dc kc_X12_doLine_4 27 rfl) rfl <| c_s2r (dc kc_X12_doLine_4 28 rfl) cl_X12_394 rfl (Nat.le_of_ble_eq_true rfl) (Nat.zero_le _) (Nat.zero_le _) <| t_canBe (by first | omega | (simp [up] <;> omega)) <| s_if_neb (tgt := 352) (dc kc_X12_doLine_4 29 rfl) rfl (fun c347 => (?_)) (fun c347 => (k_i (dc kc_X12_doLine_4 30 rfl) rfl <| s_ireturn (dc kc_X12_doLine_4 31 rfl) rfl (Nat.zero_le _) (Nat.zero_le _) ?_))
            · -- it can be
              have e2 : lnO (mi 0 81) j = (2, cc, y, r) := by rw [eo, if_pos (by unfold biC; exact bi_t c347)]
              refine s_iload_n (dc kc_X12_doLine_4 32 rfl) rfl <| s_if_ne (tgt := 370) (dc kc_X12_doLine_4 33 rfl) rfl (fun c353 => (?_)) (fun c353 => (?_))
              · exact wr mi1 (mi 0 81) (g.mono pE_pD) e2 hrow rfl (by rw [if_neg c353])
              · refine r_aload_n (dc kc_X12_doLine_4 34 rfl) rfl <| s_iload_n (dc kc_X12_doLine_4 35 rfl) rfl <| s_iload_n (dc kc_X12_doLine_4 36 rfl) rfl <| s_iload (dc kc_X12_doLine_4 37 rfl) rfl <| s_iload (dc kc_X12_doLine_4 38 rfl) rfl <| r_aload_n (dc kc_X12_doLine_4 39 rfl) rfl <| s_getI (dc kc_X12_doLine_5 0 rfl) fl_X12_121 <| c_v5 (dc kc_X12_doLine_5 1 rfl) cl_X12_390 rfl (Nat.le_of_ble_eq_true rfl) (Nat.zero_le _) (Nat.zero_le _) ?_
                refine t_keepWrite hL h8.1 h8.2 hcc.1 hcc.2 (fun mi2 g2 e3 => ?_)
                rw [hrow, eM] at e3
                exact wr mi2 _ ((g.mono pE_pD).tr (g2.mono p81_pD)) e2 e3 (kw_19 h0 h1) (by rw [if_pos c353])
            · exact amis _ g (by rw [eo, if_neg (by unfold biC; rw [bi_f c347]; decide)])
          rcases tcs with ⟨e0, et, hr0⟩ | ⟨e0, et, hr0⟩ | ⟨e0, et⟩ | ⟨e0, et⟩ | ⟨e0, et⟩ | ⟨e0, et⟩
          all_goals rw [← hrow] at e0
          all_goals (have e1 : mi1 0 81 (2166 + 10 * j + 1) = mi 0 81 (2166 + 10 * j + 1) := by rw [hrow])
          · have := hnt (by omega)
            refine r_aload_n (dc kc_X12_doLine_3 4 rfl) rfl <| s_getA (dc kc_X12_doLine_3 5 rfl) fl_X12_7 (ly_80_2 hL) <| s_iload (dc kc_X12_doLine_3 6 rfl) rfl <| s_iaload (dc kc_X12_doLine_3 7 rfl) rfl (by first | omega | (simp [up] <;> omega)) (by first | omega | (simp [up] <;> omega)) <| k_i (dc kc_X12_doLine_3 8 rfl) rfl <| s_icmp_ne (tgt := 248) (dc kc_X12_doLine_3 9 rfl) rfl (fun c231 => (r_aload_n (dc kc_X12_doLine_3 18 rfl) rfl <| s_getA (dc kc_X12_doLine_3 19 rfl) fl_X12_7 (ly_80_2 hL) <| s_iload (dc kc_X12_doLine_3 20 rfl) rfl <| s_iaload (dc kc_X12_doLine_3 21 rfl) rfl (by first | omega | (simp [up] <;> omega)) (by first | omega | (simp [up] <;> omega)) <| s_if_ne (tgt := 270) (dc kc_X12_doLine_3 22 rfl) rfl (fun c255 => (r_aload_n (dc kc_X12_doLine_3 30 rfl) rfl <| s_getA (dc kc_X12_doLine_3 31 rfl) fl_X12_7 (ly_80_2 hL) <| s_iload (dc kc_X12_doLine_3 32 rfl) rfl <| s_iaload (dc kc_X12_doLine_3 33 rfl) rfl (by first | omega | (simp [up] <;> omega)) (by first | omega | (simp [up] <;> omega)) <| k_i (dc kc_X12_doLine_3 34 rfl) rfl <| s_icmp_ne (tgt := 295) (dc kc_X12_doLine_3 35 rfl) rfl (fun c278 => (r_aload_n (dc kc_X12_doLine_4 5 rfl) rfl <| s_getA (dc kc_X12_doLine_4 6 rfl) fl_X12_7 (ly_80_2 hL) <| s_iload (dc kc_X12_doLine_4 7 rfl) rfl <| s_iaload (dc kc_X12_doLine_4 8 rfl) rfl (by first | omega | (simp [up] <;> omega)) (by first | omega | (simp [up] <;> omega)) <| k_i (dc kc_X12_doLine_4 9 rfl) rfl <| s_icmp_ne (tgt := 314) (dc kc_X12_doLine_4 10 rfl) rfl (fun c303 => (r_aload_n (dc kc_X12_doLine_4 14 rfl) rfl <| s_getA (dc kc_X12_doLine_4 15 rfl) fl_X12_7 (ly_80_2 hL) <| s_iload (dc kc_X12_doLine_4 16 rfl) rfl <| s_iaload (dc kc_X12_doLine_4 17 rfl) rfl (by first | omega | (simp [up] <;> omega)) (by first | omega | (simp [up] <;> omega)) <| k_i (dc kc_X12_doLine_4 18 rfl) rfl <| s_icmp_ne (tgt := 333) (dc kc_X12_doLine_4 19 rfl) rfl (fun c322 => (s_iload (dc kc_X12_doLine_4 23 rfl) rfl <| c_s1r (dc kc_X12_doLine_4 24 rfl) cl_X12_134 rfl (Nat.le_of_ble_eq_true rfl) (Nat.zero_le _) (Nat.zero_le _) <| t_keyOf (by first | omega | (simp [up] <;> omega)) (by first | omega | (simp [up] <;> omega)) <| ?_)) (fun c322 => (s_iload (dc kc_X12_doLine_4 20 rfl) rfl <| c_s1r (dc kc_X12_doLine_4 21 rfl) cl_X12_131 rfl (Nat.le_of_ble_eq_true rfl) (Nat.zero_le _) (Nat.zero_le _) <| t_backOf (by first | omega | (simp [up] <;> omega)) (by first | omega | (simp [up] <;> omega)) <| s_goto (tgt := 338) (dc kc_X12_doLine_4 22 rfl) rfl <| ?_)))) (fun c303 => (s_iload (dc kc_X12_doLine_4 11 rfl) rfl <| c_s1r (dc kc_X12_doLine_4 12 rfl) cl_X12_114 rfl (Nat.le_of_ble_eq_true rfl) (Nat.zero_le _) (Nat.zero_le _) <| t_nextOf (by first | omega | (simp [up] <;> omega)) (by first | omega | (simp [up] <;> omega)) <| s_goto (tgt := 338) (dc kc_X12_doLine_4 13 rfl) rfl <| ?_)))) (fun c278 => (k_i (dc kc_X12_doLine_3 36 rfl) rfl <| r_aload_n (dc kc_X12_doLine_3 37 rfl) rfl <| s_getA (dc kc_X12_doLine_3 38 rfl) fl_X12_7 (ly_80_2 hL) <| s_iload (dc kc_X12_doLine_3 39 rfl) rfl <| k_i (dc kc_X12_doLine_4 0 rfl) rfl <| b_iadd (dc kc_X12_doLine_4 1 rfl) (by first | omega | (simp [up] <;> omega)) (by first | omega | (simp [up] <;> omega)) <| s_iaload (dc kc_X12_doLine_4 2 rfl) rfl (by first | omega | (simp [up] <;> omega)) (by first | omega | (simp [up] <;> omega)) <| b_iadd (dc kc_X12_doLine_4 3 rfl) (by first | omega | (simp [up] <;> omega)) (by first | omega | (simp [up] <;> omega)) <| s_goto (tgt := 338) (dc kc_X12_doLine_4 4 rfl) rfl <| ?_)))) (fun c255 => (r_aload_n (dc kc_X12_doLine_3 23 rfl) rfl <| s_getA (dc kc_X12_doLine_3 24 rfl) fl_X12_7 (ly_80_2 hL) <| s_iload (dc kc_X12_doLine_3 25 rfl) rfl <| k_i (dc kc_X12_doLine_3 26 rfl) rfl <| b_iadd (dc kc_X12_doLine_3 27 rfl) (by first | omega | (simp [up] <;> omega)) (by first | omega | (simp [up] <;> omega)) <| s_iaload (dc kc_X12_doLine_3 28 rfl) rfl (by first | omega | (simp [up] <;> omega)) (by first | omega | (simp [up] <;> omega)) <| s_goto (tgt := 338) (dc kc_X12_doLine_3 29 rfl) rfl <| ?_)))) (fun c231 => (r_aload_n (dc kc_X12_doLine_3 10 rfl) rfl <| s_iload (dc kc_X12_doLine_3 11 rfl) rfl <| s_putI (dc kc_X12_doLine_3 12 rfl) fl_X12_404 <| r_aload_n (dc kc_X12_doLine_3 13 rfl) rfl <| s_iload (dc kc_X12_doLine_3 14 rfl) rfl <| s_putZ (dc kc_X12_doLine_3 15 rfl) fl_X12_407 (by first | exact Or.inl rfl | exact Or.inr rfl | exact bi_01 | assumption) <| k_i (dc kc_X12_doLine_3 16 rfl) rfl <| s_ireturn (dc kc_X12_doLine_3 17 rfl) rfl (Nat.zero_le _) (Nat.zero_le _) ?_))
            all_goals first | (exfalso; omega) | exact stD (by omega) _ (by omega)
          · have := hnt (by omega)
            refine r_aload_n (dc kc_X12_doLine_3 4 rfl) rfl <| s_getA (dc kc_X12_doLine_3 5 rfl) fl_X12_7 (ly_80_2 hL) <| s_iload (dc kc_X12_doLine_3 6 rfl) rfl <| s_iaload (dc kc_X12_doLine_3 7 rfl) rfl (by first | omega | (simp [up] <;> omega)) (by first | omega | (simp [up] <;> omega)) <| k_i (dc kc_X12_doLine_3 8 rfl) rfl <| s_icmp_ne (tgt := 248) (dc kc_X12_doLine_3 9 rfl) rfl (fun c231 => (r_aload_n (dc kc_X12_doLine_3 18 rfl) rfl <| s_getA (dc kc_X12_doLine_3 19 rfl) fl_X12_7 (ly_80_2 hL) <| s_iload (dc kc_X12_doLine_3 20 rfl) rfl <| s_iaload (dc kc_X12_doLine_3 21 rfl) rfl (by first | omega | (simp [up] <;> omega)) (by first | omega | (simp [up] <;> omega)) <| s_if_ne (tgt := 270) (dc kc_X12_doLine_3 22 rfl) rfl (fun c255 => (r_aload_n (dc kc_X12_doLine_3 30 rfl) rfl <| s_getA (dc kc_X12_doLine_3 31 rfl) fl_X12_7 (ly_80_2 hL) <| s_iload (dc kc_X12_doLine_3 32 rfl) rfl <| s_iaload (dc kc_X12_doLine_3 33 rfl) rfl (by first | omega | (simp [up] <;> omega)) (by first | omega | (simp [up] <;> omega)) <| k_i (dc kc_X12_doLine_3 34 rfl) rfl <| s_icmp_ne (tgt := 295) (dc kc_X12_doLine_3 35 rfl) rfl (fun c278 => (r_aload_n (dc kc_X12_doLine_4 5 rfl) rfl <| s_getA (dc kc_X12_doLine_4 6 rfl) fl_X12_7 (ly_80_2 hL) <| s_iload (dc kc_X12_doLine_4 7 rfl) rfl <| s_iaload (dc kc_X12_doLine_4 8 rfl) rfl (by first | omega | (simp [up] <;> omega)) (by first | omega | (simp [up] <;> omega)) <| k_i (dc kc_X12_doLine_4 9 rfl) rfl <| s_icmp_ne (tgt := 314) (dc kc_X12_doLine_4 10 rfl) rfl (fun c303 => (r_aload_n (dc kc_X12_doLine_4 14 rfl) rfl <| s_getA (dc kc_X12_doLine_4 15 rfl) fl_X12_7 (ly_80_2 hL) <| s_iload (dc kc_X12_doLine_4 16 rfl) rfl <| s_iaload (dc kc_X12_doLine_4 17 rfl) rfl (by first | omega | (simp [up] <;> omega)) (by first | omega | (simp [up] <;> omega)) <| k_i (dc kc_X12_doLine_4 18 rfl) rfl <| s_icmp_ne (tgt := 333) (dc kc_X12_doLine_4 19 rfl) rfl (fun c322 => (s_iload (dc kc_X12_doLine_4 23 rfl) rfl <| c_s1r (dc kc_X12_doLine_4 24 rfl) cl_X12_134 rfl (Nat.le_of_ble_eq_true rfl) (Nat.zero_le _) (Nat.zero_le _) <| t_keyOf (by first | omega | (simp [up] <;> omega)) (by first | omega | (simp [up] <;> omega)) <| ?_)) (fun c322 => (s_iload (dc kc_X12_doLine_4 20 rfl) rfl <| c_s1r (dc kc_X12_doLine_4 21 rfl) cl_X12_131 rfl (Nat.le_of_ble_eq_true rfl) (Nat.zero_le _) (Nat.zero_le _) <| t_backOf (by first | omega | (simp [up] <;> omega)) (by first | omega | (simp [up] <;> omega)) <| s_goto (tgt := 338) (dc kc_X12_doLine_4 22 rfl) rfl <| ?_)))) (fun c303 => (s_iload (dc kc_X12_doLine_4 11 rfl) rfl <| c_s1r (dc kc_X12_doLine_4 12 rfl) cl_X12_114 rfl (Nat.le_of_ble_eq_true rfl) (Nat.zero_le _) (Nat.zero_le _) <| t_nextOf (by first | omega | (simp [up] <;> omega)) (by first | omega | (simp [up] <;> omega)) <| s_goto (tgt := 338) (dc kc_X12_doLine_4 13 rfl) rfl <| ?_)))) (fun c278 => (k_i (dc kc_X12_doLine_3 36 rfl) rfl <| r_aload_n (dc kc_X12_doLine_3 37 rfl) rfl <| s_getA (dc kc_X12_doLine_3 38 rfl) fl_X12_7 (ly_80_2 hL) <| s_iload (dc kc_X12_doLine_3 39 rfl) rfl <| k_i (dc kc_X12_doLine_4 0 rfl) rfl <| b_iadd (dc kc_X12_doLine_4 1 rfl) (by first | omega | (simp [up] <;> omega)) (by first | omega | (simp [up] <;> omega)) <| s_iaload (dc kc_X12_doLine_4 2 rfl) rfl (by first | omega | (simp [up] <;> omega)) (by first | omega | (simp [up] <;> omega)) <| b_iadd (dc kc_X12_doLine_4 3 rfl) (by first | omega | (simp [up] <;> omega)) (by first | omega | (simp [up] <;> omega)) <| s_goto (tgt := 338) (dc kc_X12_doLine_4 4 rfl) rfl <| ?_)))) (fun c255 => (r_aload_n (dc kc_X12_doLine_3 23 rfl) rfl <| s_getA (dc kc_X12_doLine_3 24 rfl) fl_X12_7 (ly_80_2 hL) <| s_iload (dc kc_X12_doLine_3 25 rfl) rfl <| k_i (dc kc_X12_doLine_3 26 rfl) rfl <| b_iadd (dc kc_X12_doLine_3 27 rfl) (by first | omega | (simp [up] <;> omega)) (by first | omega | (simp [up] <;> omega)) <| s_iaload (dc kc_X12_doLine_3 28 rfl) rfl (by first | omega | (simp [up] <;> omega)) (by first | omega | (simp [up] <;> omega)) <| s_goto (tgt := 338) (dc kc_X12_doLine_3 29 rfl) rfl <| ?_)))) (fun c231 => (r_aload_n (dc kc_X12_doLine_3 10 rfl) rfl <| s_iload (dc kc_X12_doLine_3 11 rfl) rfl <| s_putI (dc kc_X12_doLine_3 12 rfl) fl_X12_404 <| r_aload_n (dc kc_X12_doLine_3 13 rfl) rfl <| s_iload (dc kc_X12_doLine_3 14 rfl) rfl <| s_putZ (dc kc_X12_doLine_3 15 rfl) fl_X12_407 (by first | exact Or.inl rfl | exact Or.inr rfl | exact bi_01 | assumption) <| k_i (dc kc_X12_doLine_3 16 rfl) rfl <| s_ireturn (dc kc_X12_doLine_3 17 rfl) rfl (Nat.zero_le _) (Nat.zero_le _) ?_))
            all_goals first | (exfalso; omega) | exact stD (by omega) _ (by omega)
          · refine r_aload_n (dc kc_X12_doLine_3 4 rfl) rfl <| s_getA (dc kc_X12_doLine_3 5 rfl) fl_X12_7 (ly_80_2 hL) <| s_iload (dc kc_X12_doLine_3 6 rfl) rfl <| s_iaload (dc kc_X12_doLine_3 7 rfl) rfl (by first | omega | (simp [up] <;> omega)) (by first | omega | (simp [up] <;> omega)) <| k_i (dc kc_X12_doLine_3 8 rfl) rfl <| s_icmp_ne (tgt := 248) (dc kc_X12_doLine_3 9 rfl) rfl (fun c231 => (r_aload_n (dc kc_X12_doLine_3 18 rfl) rfl <| s_getA (dc kc_X12_doLine_3 19 rfl) fl_X12_7 (ly_80_2 hL) <| s_iload (dc kc_X12_doLine_3 20 rfl) rfl <| s_iaload (dc kc_X12_doLine_3 21 rfl) rfl (by first | omega | (simp [up] <;> omega)) (by first | omega | (simp [up] <;> omega)) <| s_if_ne (tgt := 270) (dc kc_X12_doLine_3 22 rfl) rfl (fun c255 => (r_aload_n (dc kc_X12_doLine_3 30 rfl) rfl <| s_getA (dc kc_X12_doLine_3 31 rfl) fl_X12_7 (ly_80_2 hL) <| s_iload (dc kc_X12_doLine_3 32 rfl) rfl <| s_iaload (dc kc_X12_doLine_3 33 rfl) rfl (by first | omega | (simp [up] <;> omega)) (by first | omega | (simp [up] <;> omega)) <| k_i (dc kc_X12_doLine_3 34 rfl) rfl <| s_icmp_ne (tgt := 295) (dc kc_X12_doLine_3 35 rfl) rfl (fun c278 => (r_aload_n (dc kc_X12_doLine_4 5 rfl) rfl <| s_getA (dc kc_X12_doLine_4 6 rfl) fl_X12_7 (ly_80_2 hL) <| s_iload (dc kc_X12_doLine_4 7 rfl) rfl <| s_iaload (dc kc_X12_doLine_4 8 rfl) rfl (by first | omega | (simp [up] <;> omega)) (by first | omega | (simp [up] <;> omega)) <| k_i (dc kc_X12_doLine_4 9 rfl) rfl <| s_icmp_ne (tgt := 314) (dc kc_X12_doLine_4 10 rfl) rfl (fun c303 => (r_aload_n (dc kc_X12_doLine_4 14 rfl) rfl <| s_getA (dc kc_X12_doLine_4 15 rfl) fl_X12_7 (ly_80_2 hL) <| s_iload (dc kc_X12_doLine_4 16 rfl) rfl <| s_iaload (dc kc_X12_doLine_4 17 rfl) rfl (by first | omega | (simp [up] <;> omega)) (by first | omega | (simp [up] <;> omega)) <| k_i (dc kc_X12_doLine_4 18 rfl) rfl <| s_icmp_ne (tgt := 333) (dc kc_X12_doLine_4 19 rfl) rfl (fun c322 => (s_iload (dc kc_X12_doLine_4 23 rfl) rfl <| c_s1r (dc kc_X12_doLine_4 24 rfl) cl_X12_134 rfl (Nat.le_of_ble_eq_true rfl) (Nat.zero_le _) (Nat.zero_le _) <| t_keyOf (by first | omega | (simp [up] <;> omega)) (by first | omega | (simp [up] <;> omega)) <| ?_)) (fun c322 => (s_iload (dc kc_X12_doLine_4 20 rfl) rfl <| c_s1r (dc kc_X12_doLine_4 21 rfl) cl_X12_131 rfl (Nat.le_of_ble_eq_true rfl) (Nat.zero_le _) (Nat.zero_le _) <| t_backOf (by first | omega | (simp [up] <;> omega)) (by first | omega | (simp [up] <;> omega)) <| s_goto (tgt := 338) (dc kc_X12_doLine_4 22 rfl) rfl <| ?_)))) (fun c303 => (s_iload (dc kc_X12_doLine_4 11 rfl) rfl <| c_s1r (dc kc_X12_doLine_4 12 rfl) cl_X12_114 rfl (Nat.le_of_ble_eq_true rfl) (Nat.zero_le _) (Nat.zero_le _) <| t_nextOf (by first | omega | (simp [up] <;> omega)) (by first | omega | (simp [up] <;> omega)) <| s_goto (tgt := 338) (dc kc_X12_doLine_4 13 rfl) rfl <| ?_)))) (fun c278 => (k_i (dc kc_X12_doLine_3 36 rfl) rfl <| r_aload_n (dc kc_X12_doLine_3 37 rfl) rfl <| s_getA (dc kc_X12_doLine_3 38 rfl) fl_X12_7 (ly_80_2 hL) <| s_iload (dc kc_X12_doLine_3 39 rfl) rfl <| k_i (dc kc_X12_doLine_4 0 rfl) rfl <| b_iadd (dc kc_X12_doLine_4 1 rfl) (by first | omega | (simp [up] <;> omega)) (by first | omega | (simp [up] <;> omega)) <| s_iaload (dc kc_X12_doLine_4 2 rfl) rfl (by first | omega | (simp [up] <;> omega)) (by first | omega | (simp [up] <;> omega)) <| b_iadd (dc kc_X12_doLine_4 3 rfl) (by first | omega | (simp [up] <;> omega)) (by first | omega | (simp [up] <;> omega)) <| s_goto (tgt := 338) (dc kc_X12_doLine_4 4 rfl) rfl <| ?_)))) (fun c255 => (r_aload_n (dc kc_X12_doLine_3 23 rfl) rfl <| s_getA (dc kc_X12_doLine_3 24 rfl) fl_X12_7 (ly_80_2 hL) <| s_iload (dc kc_X12_doLine_3 25 rfl) rfl <| k_i (dc kc_X12_doLine_3 26 rfl) rfl <| b_iadd (dc kc_X12_doLine_3 27 rfl) (by first | omega | (simp [up] <;> omega)) (by first | omega | (simp [up] <;> omega)) <| s_iaload (dc kc_X12_doLine_3 28 rfl) rfl (by first | omega | (simp [up] <;> omega)) (by first | omega | (simp [up] <;> omega)) <| s_goto (tgt := 338) (dc kc_X12_doLine_3 29 rfl) rfl <| ?_)))) (fun c231 => (r_aload_n (dc kc_X12_doLine_3 10 rfl) rfl <| s_iload (dc kc_X12_doLine_3 11 rfl) rfl <| s_putI (dc kc_X12_doLine_3 12 rfl) fl_X12_404 <| r_aload_n (dc kc_X12_doLine_3 13 rfl) rfl <| s_iload (dc kc_X12_doLine_3 14 rfl) rfl <| s_putZ (dc kc_X12_doLine_3 15 rfl) fl_X12_407 (by first | exact Or.inl rfl | exact Or.inr rfl | exact bi_01 | assumption) <| k_i (dc kc_X12_doLine_3 16 rfl) rfl <| s_ireturn (dc kc_X12_doLine_3 17 rfl) rfl (Nat.zero_le _) (Nat.zero_le _) ?_))
            all_goals first | (exfalso; omega) | exact stD (by omega) _ (by omega)
          · refine r_aload_n (dc kc_X12_doLine_3 4 rfl) rfl <| s_getA (dc kc_X12_doLine_3 5 rfl) fl_X12_7 (ly_80_2 hL) <| s_iload (dc kc_X12_doLine_3 6 rfl) rfl <| s_iaload (dc kc_X12_doLine_3 7 rfl) rfl (by first | omega | (simp [up] <;> omega)) (by first | omega | (simp [up] <;> omega)) <| k_i (dc kc_X12_doLine_3 8 rfl) rfl <| s_icmp_ne (tgt := 248) (dc kc_X12_doLine_3 9 rfl) rfl (fun c231 => (r_aload_n (dc kc_X12_doLine_3 18 rfl) rfl <| s_getA (dc kc_X12_doLine_3 19 rfl) fl_X12_7 (ly_80_2 hL) <| s_iload (dc kc_X12_doLine_3 20 rfl) rfl <| s_iaload (dc kc_X12_doLine_3 21 rfl) rfl (by first | omega | (simp [up] <;> omega)) (by first | omega | (simp [up] <;> omega)) <| s_if_ne (tgt := 270) (dc kc_X12_doLine_3 22 rfl) rfl (fun c255 => (r_aload_n (dc kc_X12_doLine_3 30 rfl) rfl <| s_getA (dc kc_X12_doLine_3 31 rfl) fl_X12_7 (ly_80_2 hL) <| s_iload (dc kc_X12_doLine_3 32 rfl) rfl <| s_iaload (dc kc_X12_doLine_3 33 rfl) rfl (by first | omega | (simp [up] <;> omega)) (by first | omega | (simp [up] <;> omega)) <| k_i (dc kc_X12_doLine_3 34 rfl) rfl <| s_icmp_ne (tgt := 295) (dc kc_X12_doLine_3 35 rfl) rfl (fun c278 => (r_aload_n (dc kc_X12_doLine_4 5 rfl) rfl <| s_getA (dc kc_X12_doLine_4 6 rfl) fl_X12_7 (ly_80_2 hL) <| s_iload (dc kc_X12_doLine_4 7 rfl) rfl <| s_iaload (dc kc_X12_doLine_4 8 rfl) rfl (by first | omega | (simp [up] <;> omega)) (by first | omega | (simp [up] <;> omega)) <| k_i (dc kc_X12_doLine_4 9 rfl) rfl <| s_icmp_ne (tgt := 314) (dc kc_X12_doLine_4 10 rfl) rfl (fun c303 => (r_aload_n (dc kc_X12_doLine_4 14 rfl) rfl <| s_getA (dc kc_X12_doLine_4 15 rfl) fl_X12_7 (ly_80_2 hL) <| s_iload (dc kc_X12_doLine_4 16 rfl) rfl <| s_iaload (dc kc_X12_doLine_4 17 rfl) rfl (by first | omega | (simp [up] <;> omega)) (by first | omega | (simp [up] <;> omega)) <| k_i (dc kc_X12_doLine_4 18 rfl) rfl <| s_icmp_ne (tgt := 333) (dc kc_X12_doLine_4 19 rfl) rfl (fun c322 => (s_iload (dc kc_X12_doLine_4 23 rfl) rfl <| c_s1r (dc kc_X12_doLine_4 24 rfl) cl_X12_134 rfl (Nat.le_of_ble_eq_true rfl) (Nat.zero_le _) (Nat.zero_le _) <| t_keyOf (by first | omega | (simp [up] <;> omega)) (by first | omega | (simp [up] <;> omega)) <| ?_)) (fun c322 => (s_iload (dc kc_X12_doLine_4 20 rfl) rfl <| c_s1r (dc kc_X12_doLine_4 21 rfl) cl_X12_131 rfl (Nat.le_of_ble_eq_true rfl) (Nat.zero_le _) (Nat.zero_le _) <| t_backOf (by first | omega | (simp [up] <;> omega)) (by first | omega | (simp [up] <;> omega)) <| s_goto (tgt := 338) (dc kc_X12_doLine_4 22 rfl) rfl <| ?_)))) (fun c303 => (s_iload (dc kc_X12_doLine_4 11 rfl) rfl <| c_s1r (dc kc_X12_doLine_4 12 rfl) cl_X12_114 rfl (Nat.le_of_ble_eq_true rfl) (Nat.zero_le _) (Nat.zero_le _) <| t_nextOf (by first | omega | (simp [up] <;> omega)) (by first | omega | (simp [up] <;> omega)) <| s_goto (tgt := 338) (dc kc_X12_doLine_4 13 rfl) rfl <| ?_)))) (fun c278 => (k_i (dc kc_X12_doLine_3 36 rfl) rfl <| r_aload_n (dc kc_X12_doLine_3 37 rfl) rfl <| s_getA (dc kc_X12_doLine_3 38 rfl) fl_X12_7 (ly_80_2 hL) <| s_iload (dc kc_X12_doLine_3 39 rfl) rfl <| k_i (dc kc_X12_doLine_4 0 rfl) rfl <| b_iadd (dc kc_X12_doLine_4 1 rfl) (by first | omega | (simp [up] <;> omega)) (by first | omega | (simp [up] <;> omega)) <| s_iaload (dc kc_X12_doLine_4 2 rfl) rfl (by first | omega | (simp [up] <;> omega)) (by first | omega | (simp [up] <;> omega)) <| b_iadd (dc kc_X12_doLine_4 3 rfl) (by first | omega | (simp [up] <;> omega)) (by first | omega | (simp [up] <;> omega)) <| s_goto (tgt := 338) (dc kc_X12_doLine_4 4 rfl) rfl <| ?_)))) (fun c255 => (r_aload_n (dc kc_X12_doLine_3 23 rfl) rfl <| s_getA (dc kc_X12_doLine_3 24 rfl) fl_X12_7 (ly_80_2 hL) <| s_iload (dc kc_X12_doLine_3 25 rfl) rfl <| k_i (dc kc_X12_doLine_3 26 rfl) rfl <| b_iadd (dc kc_X12_doLine_3 27 rfl) (by first | omega | (simp [up] <;> omega)) (by first | omega | (simp [up] <;> omega)) <| s_iaload (dc kc_X12_doLine_3 28 rfl) rfl (by first | omega | (simp [up] <;> omega)) (by first | omega | (simp [up] <;> omega)) <| s_goto (tgt := 338) (dc kc_X12_doLine_3 29 rfl) rfl <| ?_)))) (fun c231 => (r_aload_n (dc kc_X12_doLine_3 10 rfl) rfl <| s_iload (dc kc_X12_doLine_3 11 rfl) rfl <| s_putI (dc kc_X12_doLine_3 12 rfl) fl_X12_404 <| r_aload_n (dc kc_X12_doLine_3 13 rfl) rfl <| s_iload (dc kc_X12_doLine_3 14 rfl) rfl <| s_putZ (dc kc_X12_doLine_3 15 rfl) fl_X12_407 (by first | exact Or.inl rfl | exact Or.inr rfl | exact bi_01 | assumption) <| k_i (dc kc_X12_doLine_3 16 rfl) rfl <| s_ireturn (dc kc_X12_doLine_3 17 rfl) rfl (Nat.zero_le _) (Nat.zero_le _) ?_))
            all_goals first | (exfalso; omega) | exact stD (by omega) _ (by omega)
          · refine r_aload_n (dc kc_X12_doLine_3 4 rfl) rfl <| s_getA (dc kc_X12_doLine_3 5 rfl) fl_X12_7 (ly_80_2 hL) <| s_iload (dc kc_X12_doLine_3 6 rfl) rfl <| s_iaload (dc kc_X12_doLine_3 7 rfl) rfl (by first | omega | (simp [up] <;> omega)) (by first | omega | (simp [up] <;> omega)) <| k_i (dc kc_X12_doLine_3 8 rfl) rfl <| s_icmp_ne (tgt := 248) (dc kc_X12_doLine_3 9 rfl) rfl (fun c231 => (r_aload_n (dc kc_X12_doLine_3 18 rfl) rfl <| s_getA (dc kc_X12_doLine_3 19 rfl) fl_X12_7 (ly_80_2 hL) <| s_iload (dc kc_X12_doLine_3 20 rfl) rfl <| s_iaload (dc kc_X12_doLine_3 21 rfl) rfl (by first | omega | (simp [up] <;> omega)) (by first | omega | (simp [up] <;> omega)) <| s_if_ne (tgt := 270) (dc kc_X12_doLine_3 22 rfl) rfl (fun c255 => (r_aload_n (dc kc_X12_doLine_3 30 rfl) rfl <| s_getA (dc kc_X12_doLine_3 31 rfl) fl_X12_7 (ly_80_2 hL) <| s_iload (dc kc_X12_doLine_3 32 rfl) rfl <| s_iaload (dc kc_X12_doLine_3 33 rfl) rfl (by first | omega | (simp [up] <;> omega)) (by first | omega | (simp [up] <;> omega)) <| k_i (dc kc_X12_doLine_3 34 rfl) rfl <| s_icmp_ne (tgt := 295) (dc kc_X12_doLine_3 35 rfl) rfl (fun c278 => (r_aload_n (dc kc_X12_doLine_4 5 rfl) rfl <| s_getA (dc kc_X12_doLine_4 6 rfl) fl_X12_7 (ly_80_2 hL) <| s_iload (dc kc_X12_doLine_4 7 rfl) rfl <| s_iaload (dc kc_X12_doLine_4 8 rfl) rfl (by first | omega | (simp [up] <;> omega)) (by first | omega | (simp [up] <;> omega)) <| k_i (dc kc_X12_doLine_4 9 rfl) rfl <| s_icmp_ne (tgt := 314) (dc kc_X12_doLine_4 10 rfl) rfl (fun c303 => (r_aload_n (dc kc_X12_doLine_4 14 rfl) rfl <| s_getA (dc kc_X12_doLine_4 15 rfl) fl_X12_7 (ly_80_2 hL) <| s_iload (dc kc_X12_doLine_4 16 rfl) rfl <| s_iaload (dc kc_X12_doLine_4 17 rfl) rfl (by first | omega | (simp [up] <;> omega)) (by first | omega | (simp [up] <;> omega)) <| k_i (dc kc_X12_doLine_4 18 rfl) rfl <| s_icmp_ne (tgt := 333) (dc kc_X12_doLine_4 19 rfl) rfl (fun c322 => (s_iload (dc kc_X12_doLine_4 23 rfl) rfl <| c_s1r (dc kc_X12_doLine_4 24 rfl) cl_X12_134 rfl (Nat.le_of_ble_eq_true rfl) (Nat.zero_le _) (Nat.zero_le _) <| t_keyOf (by first | omega | (simp [up] <;> omega)) (by first | omega | (simp [up] <;> omega)) <| ?_)) (fun c322 => (s_iload (dc kc_X12_doLine_4 20 rfl) rfl <| c_s1r (dc kc_X12_doLine_4 21 rfl) cl_X12_131 rfl (Nat.le_of_ble_eq_true rfl) (Nat.zero_le _) (Nat.zero_le _) <| t_backOf (by first | omega | (simp [up] <;> omega)) (by first | omega | (simp [up] <;> omega)) <| s_goto (tgt := 338) (dc kc_X12_doLine_4 22 rfl) rfl <| ?_)))) (fun c303 => (s_iload (dc kc_X12_doLine_4 11 rfl) rfl <| c_s1r (dc kc_X12_doLine_4 12 rfl) cl_X12_114 rfl (Nat.le_of_ble_eq_true rfl) (Nat.zero_le _) (Nat.zero_le _) <| t_nextOf (by first | omega | (simp [up] <;> omega)) (by first | omega | (simp [up] <;> omega)) <| s_goto (tgt := 338) (dc kc_X12_doLine_4 13 rfl) rfl <| ?_)))) (fun c278 => (k_i (dc kc_X12_doLine_3 36 rfl) rfl <| r_aload_n (dc kc_X12_doLine_3 37 rfl) rfl <| s_getA (dc kc_X12_doLine_3 38 rfl) fl_X12_7 (ly_80_2 hL) <| s_iload (dc kc_X12_doLine_3 39 rfl) rfl <| k_i (dc kc_X12_doLine_4 0 rfl) rfl <| b_iadd (dc kc_X12_doLine_4 1 rfl) (by first | omega | (simp [up] <;> omega)) (by first | omega | (simp [up] <;> omega)) <| s_iaload (dc kc_X12_doLine_4 2 rfl) rfl (by first | omega | (simp [up] <;> omega)) (by first | omega | (simp [up] <;> omega)) <| b_iadd (dc kc_X12_doLine_4 3 rfl) (by first | omega | (simp [up] <;> omega)) (by first | omega | (simp [up] <;> omega)) <| s_goto (tgt := 338) (dc kc_X12_doLine_4 4 rfl) rfl <| ?_)))) (fun c255 => (r_aload_n (dc kc_X12_doLine_3 23 rfl) rfl <| s_getA (dc kc_X12_doLine_3 24 rfl) fl_X12_7 (ly_80_2 hL) <| s_iload (dc kc_X12_doLine_3 25 rfl) rfl <| k_i (dc kc_X12_doLine_3 26 rfl) rfl <| b_iadd (dc kc_X12_doLine_3 27 rfl) (by first | omega | (simp [up] <;> omega)) (by first | omega | (simp [up] <;> omega)) <| s_iaload (dc kc_X12_doLine_3 28 rfl) rfl (by first | omega | (simp [up] <;> omega)) (by first | omega | (simp [up] <;> omega)) <| s_goto (tgt := 338) (dc kc_X12_doLine_3 29 rfl) rfl <| ?_)))) (fun c231 => (r_aload_n (dc kc_X12_doLine_3 10 rfl) rfl <| s_iload (dc kc_X12_doLine_3 11 rfl) rfl <| s_putI (dc kc_X12_doLine_3 12 rfl) fl_X12_404 <| r_aload_n (dc kc_X12_doLine_3 13 rfl) rfl <| s_iload (dc kc_X12_doLine_3 14 rfl) rfl <| s_putZ (dc kc_X12_doLine_3 15 rfl) fl_X12_407 (by first | exact Or.inl rfl | exact Or.inr rfl | exact bi_01 | assumption) <| k_i (dc kc_X12_doLine_3 16 rfl) rfl <| s_ireturn (dc kc_X12_doLine_3 17 rfl) rfl (Nat.zero_le _) (Nat.zero_le _) ?_))
            all_goals first | (exfalso; omega) | exact stD (by omega) _ (by omega)
          · rw [if_pos et] at eo
            refine r_aload_n (dc kc_X12_doLine_3 4 rfl) rfl <| s_getA (dc kc_X12_doLine_3 5 rfl) fl_X12_7 (ly_80_2 hL) <| s_iload (dc kc_X12_doLine_3 6 rfl) rfl <| s_iaload (dc kc_X12_doLine_3 7 rfl) rfl (by first | omega | (simp [up] <;> omega)) (by first | omega | (simp [up] <;> omega)) <| k_i (dc kc_X12_doLine_3 8 rfl) rfl <| s_icmp_ne (tgt := 248) (dc kc_X12_doLine_3 9 rfl) rfl (fun c231 => (?_)) (fun c231 => (r_aload_n (dc kc_X12_doLine_3 10 rfl) rfl <| s_iload (dc kc_X12_doLine_3 11 rfl) rfl <| s_putI (dc kc_X12_doLine_3 12 rfl) fl_X12_404 <| r_aload_n (dc kc_X12_doLine_3 13 rfl) rfl <| s_iload (dc kc_X12_doLine_3 14 rfl) rfl <| s_putZ (dc kc_X12_doLine_3 15 rfl) fl_X12_407 (by first | exact Or.inl rfl | exact Or.inr rfl | exact bi_01 | assumption) <| k_i (dc kc_X12_doLine_3 16 rfl) rfl <| s_ireturn (dc kc_X12_doLine_3 17 rfl) rfl (Nat.zero_le _) (Nat.zero_le _) ?_))
            · exfalso; omega
            · refine fin _ _ (((g.mono pE_pD).up rfl).up rfl) ?_ (fun _ => ?_) (by rw [eo]; rfl)
              · rw [up_j (by decide), up_j (by decide), hrow]
                unfold lnR
                rw [eo]
                rfl
              · rw [eo]
                exact ⟨by rw [up_k (by decide), up_at], by rw [up_at]; exact eb⟩
        refine r_aload_n (dc kc_X12_doLine_2 32 rfl) rfl <| s_getI (dc kc_X12_doLine_2 33 rfl) fl_X12_121 <| r_aload_n (dc kc_X12_doLine_2 34 rfl) rfl <| s_getA (dc kc_X12_doLine_2 35 rfl) fl_X12_7 (ly_80_2 hL) <| k_b (dc kc_X12_doLine_2 36 rfl) rfl <| s_iaload (dc kc_X12_doLine_2 37 rfl) rfl (by first | omega | (simp [up] <;> omega)) (by first | omega | (simp [up] <;> omega)) <| s_iand (dc kc_X12_doLine_2 38 rfl) <| s_if_eq (tgt := 220) (dc kc_X12_doLine_2 39 rfl) rfl (fun c213 => (k_i (dc kc_X12_doLine_3 2 rfl) rfl <| t_i8 (dc kc_X12_doLine_3 3 rfl) (Nat.le_of_ble_eq_true rfl) rfl <| ?_)) (fun c213 => (k_i (dc kc_X12_doLine_3 0 rfl) rfl <| s_goto (tgt := 221) (dc kc_X12_doLine_3 1 rfl) rfl <| t_i8 (dc kc_X12_doLine_3 3 rfl) (Nat.le_of_ble_eq_true rfl) rfl <| ?_))
        · refine held 0 ?_
          unfold mkd
          rw [bi_f]
          rw [← eM, ← hrow]
          exact fun z => z c213
        · refine held 1 ?_
          unfold mkd
          rw [bi_t]
          rw [← eM, ← hrow]
          exact c213
    · refine k_i (dc kc_X12_doLine_2 30 rfl) rfl <| s_ireturn (dc kc_X12_doLine_2 31 rfl) rfl (Nat.zero_le _) (Nat.zero_le _) ?_
      refine amis _ g ?_
      rcases hm with ⟨e, eo⟩ | ⟨e, ⟨hn0, hn1, hnt⟩, r, hB, hr, eo⟩
      · exact eo
      · rw [eo]; unfold fin3; rw [if_pos c196]
  -- the value
  have hvt : ∃ tv, tyc (lnV (mi 0 81) j) [] = some [tv] := hlin.2.1.elim (fun h => ⟨0, h⟩) (fun h => ⟨1, h⟩)
  obtain ⟨tv, hvt⟩ := hvt
  have single : ∀ (k : List CT) (tt : Nat) (rd0 : List Int) (v : Int) (rd : List Int), tyc k [] = some [tt] → evs (cel mi) k [] rd0 = some ([v], rd) → tyV tt v ∧ ((∀ a ∈ rd0, 0 ≤ a ∧ a < 24) → ∀ a ∈ rd, 0 ≤ a ∧ a < 24) := by
    intro k tt rd0 v rd h1 h2
    rcases evs_ty hc k (st := []) rd0 h1 trivial with z | ⟨s1, r1, z1, z2, z3⟩
    · rw [z] at h2; cases h2
    · rw [z1] at h2; cases h2
      refine ⟨z2.1, fun h a ha => ?_⟩
      rcases List.mem_append.mp ha with q | q
      · exact z3 a q
      · exact h a q
  have stB : ∀ (mi1 : MI) (so nd : Int) (x7 x8 x9 : V), Ch pE mi mi1 → ((mi1 0 80 30 = 1 ∧ lnO (mi 0 81) j = oc1) ∨ (mi1 0 80 30 = 0 ∧ (-1 ≤ nd ∧ nd ≤ 5 ∧ (tgtOf (mi 0 81) j < 6 ∨ 8 < tgtOf (mi 0 81) j → nd = 0)) ∧ ∃ r, Bm (mi1 0 80 9) r ∧ (∀ a ∈ r, 0 ≤ a ∧ a < 24) ∧ lnO (mi 0 81) j = fin2 (cel mi) (tgtOf (mi 0 81) j) (lnV (mi 0 81) j) nd r)) → Run (d+6) mt_X12_doLine Q (n, mr, 0, 0) mi1 159 [vR (some (0, 80)), vI j, vI s, vI p, vI (2166 + 10 * j), vI so, vI nd, x7, x8, x9] [] := by
    intro mi1 so nd x7 x8 x9 g hm
    refine s_rngf (g := 0) (j := 80) (k0 := 9) rfl (by decide) (by decide) rfl (by simp) (fun hrg => ?_)
    obtain ⟨L, hBL⟩ := Bm.ex hrg
    have hrow : mi1 0 81 = mi 0 81 := g.row (fun _ => rfl)
    have hcel : cel mi1 = cel mi := by unfold cel; rw [hrow]
    have key : ∀ L0, Bm (mi1 0 80 9) L0 → ((mi1 0 80 30 = 1 ∧ lnO (mi 0 81) j = oc1) ∨ (mi1 0 80 30 = 0 ∧ (-1 ≤ nd ∧ nd ≤ 5 ∧ (tgtOf (mi 0 81) j < 6 ∨ 8 < tgtOf (mi 0 81) j → nd = 0)) ∧ (∀ a ∈ L0, 0 ≤ a ∧ a < 24) ∧ lnO (mi 0 81) j = fin2 (cel mi) (tgtOf (mi 0 81) j) (lnV (mi 0 81) j) nd L0)) → Run (d+6) mt_X12_doLine Q (n, mr, 0, 0) mi1 159 [vR (some (0, 80)), vI j, vI s, vI p, vI (2166 + 10 * j), vI so, vI nd, x7, x8, x9] [] := by
      intro L0 hB hm
      refine r_aload_n (dc kc_X12_doLine_2 8 rfl) rfl <| k_s (dc kc_X12_doLine_2 9 rfl) rfl <| r_aload_n (dc kc_X12_doLine_2 10 rfl) rfl <| s_getA (dc kc_X12_doLine_2 11 rfl) fl_X12_7 (ly_80_2 hL) <| s_iload (dc kc_X12_doLine_2 12 rfl) rfl <| k_i (dc kc_X12_doLine_2 13 rfl) rfl <| b_iadd (dc kc_X12_doLine_2 14 rfl) (by first | omega | (simp [up] <;> omega)) (by first | omega | (simp [up] <;> omega)) <| s_iaload (dc kc_X12_doLine_2 15 rfl) rfl (by first | omega | (simp [up] <;> omega)) (by first | omega | (simp [up] <;> omega)) <| r_aload_n (dc kc_X12_doLine_2 16 rfl) rfl <| s_getA (dc kc_X12_doLine_2 17 rfl) fl_X12_7 (ly_80_2 hL) <| s_iload (dc kc_X12_doLine_2 18 rfl) rfl <| k_i (dc kc_X12_doLine_2 19 rfl) rfl <| b_iadd (dc kc_X12_doLine_2 20 rfl) (by first | omega | (simp [up] <;> omega)) (by first | omega | (simp [up] <;> omega)) <| s_iaload (dc kc_X12_doLine_2 21 rfl) rfl (by first | omega | (simp [up] <;> omega)) (by first | omega | (simp [up] <;> omega)) <| c_v3r (dc kc_X12_doLine_2 22 rfl) cl_X12_356 rfl (Nat.le_of_ble_eq_true rfl) (Nat.zero_le _) (Nat.zero_le _) ?_
      rw [hrow]
      refine t_reckon hL (t := tv) (Or.inr rfl) (by omega) (by omega) (by omega) (by rw [hcel]; exact hc) (by rw [hrow]; exact hvt) hB (fun mi2 v g2 g3 => ?_)
      rw [hcel, hrow] at g3
      refine t_i7 (dc kc_X12_doLine_2 23 rfl) (Nat.le_of_ble_eq_true rfl) rfl <| ?_
      refine stC mi2 so nd v _ _ (g.tr g2) ?_
      rcases g3 with ⟨z1, z2⟩ | ⟨rd, z1, z2, z3⟩
      · refine Or.inl ⟨z2, ?_⟩
        rcases hm with ⟨_, e⟩ | ⟨_, _, _, e⟩
        · exact e
        · rw [e]
          show (match evs (cel mi) (lnV (mi 0 81) j) [] L0 with | some (y :: _, r2) => fin3 _ nd y r2 | _ => oc1) = oc1
          rw [show evs (cel mi) (lnV (mi 0 81) j) [] L0 = none from z1]
      · rcases hm with ⟨e0, e⟩ | ⟨e0, hn, e1, e⟩
        · exact Or.inl ⟨by rw [z3, e0], e⟩
        · refine Or.inr ⟨by rw [z3, e0], hn, rd, z2, (single _ _ _ _ _ hvt z1).2 e1, ?_⟩
          rw [e]
          show (match evs (cel mi) (lnV (mi 0 81) j) [] L0 with | some (y :: _, r2) => fin3 _ nd y r2 | _ => oc1) = _
          rw [show evs (cel mi) (lnV (mi 0 81) j) [] L0 = some ([v], rd) from z1]
    rcases hm with h | ⟨e0, hn, r, hB, hr, e⟩
    · exact key L hBL (Or.inl h)
    · exact key r hB (Or.inr ⟨e0, hn, hr, e⟩)
  have stA : ∀ (mi1 : MI) (so : Int) (r : List Int) (x6 x7 x8 x9 : V), Ch pE mi mi1 → mi1 0 80 30 = 0 → Bm (mi1 0 80 9) r → (∀ a ∈ r, 0 ≤ a ∧ a < 24) → lnO (mi 0 81) j = fin1 (cel mi) (tgtOf (mi 0 81) j) (lnP (mi 0 81) j) (lnV (mi 0 81) j) r → Run (d+6) mt_X12_doLine Q (n, mr, 0, 0) mi1 106 [vR (some (0, 80)), vI j, vI s, vI p, vI (2166 + 10 * j), vI so, x6, x7, x8, x9] [] := by
    intro mi1 so r x6 x7 x8 x9 g h30 hB hr e
    have hrow : mi1 0 81 = mi 0 81 := g.row (fun _ => rfl)
    have hcel : cel mi1 = cel mi := by unfold cel; rw [hrow]
    unfold fin1 at e
    have other : ¬ (6 ≤ tgtOf (mi 0 81) j ∧ tgtOf (mi 0 81) j ≤ 8) → Run (d+6) mt_X12_doLine Q (n, mr, 0, 0) mi1 159 [vR (some (0, 80)), vI j, vI s, vI p, vI (2166 + 10 * j), vI so, vI 0, x7, x8, x9] [] := by
      intro h
      rw [if_neg h] at e
      exact stB mi1 so 0 _ _ _ g (Or.inr ⟨h30, ⟨by decide, by decide, fun _ => rfl⟩, r, hB, hr, e⟩)
    refine r_aload_n (dc kc_X12_doLine_1 18 rfl) rfl <| s_getA (dc kc_X12_doLine_1 19 rfl) fl_X12_7 (ly_80_2 hL) <| s_iload (dc kc_X12_doLine_1 20 rfl) rfl <| s_iaload (dc kc_X12_doLine_1 21 rfl) rfl (by first | omega | (simp [up] <;> omega)) (by first | omega | (simp [up] <;> omega)) <| k_i (dc kc_X12_doLine_1 22 rfl) rfl <| s_icmp_le (tgt := 156) (dc kc_X12_doLine_1 23 rfl) rfl (fun c114 => (k_i (dc kc_X12_doLine_2 6 rfl) rfl <| t_i6 (dc kc_X12_doLine_2 7 rfl) (Nat.le_of_ble_eq_true rfl) rfl <| ?_)) (fun c114 => (r_aload_n (dc kc_X12_doLine_1 24 rfl) rfl <| s_getA (dc kc_X12_doLine_1 25 rfl) fl_X12_7 (ly_80_2 hL) <| s_iload (dc kc_X12_doLine_1 26 rfl) rfl <| s_iaload (dc kc_X12_doLine_1 27 rfl) rfl (by first | omega | (simp [up] <;> omega)) (by first | omega | (simp [up] <;> omega)) <| k_i (dc kc_X12_doLine_1 28 rfl) rfl <| s_icmp_ge (tgt := 156) (dc kc_X12_doLine_1 29 rfl) rfl (fun c125 => (k_i (dc kc_X12_doLine_2 6 rfl) rfl <| t_i6 (dc kc_X12_doLine_2 7 rfl) (Nat.le_of_ble_eq_true rfl) rfl <| ?_)) (fun c125 => (?_))))
    · exact other (by rw [hrow] at c114; omega)
    · exact other (by rw [hrow] at c125; omega)
    · have ht6 : 6 ≤ tgtOf (mi 0 81) j ∧ tgtOf (mi 0 81) j ≤ 8 := by rw [hrow] at c114 c125; omega
      rw [if_pos ht6] at e
      have hpt := hlin.1 ht6.1 ht6.2
      refine r_aload_n (dc kc_X12_doLine_1 30 rfl) rfl <| k_s (dc kc_X12_doLine_1 31 rfl) rfl <| r_aload_n (dc kc_X12_doLine_1 32 rfl) rfl <| s_getA (dc kc_X12_doLine_1 33 rfl) fl_X12_7 (ly_80_2 hL) <| s_iload (dc kc_X12_doLine_1 34 rfl) rfl <| k_i (dc kc_X12_doLine_1 35 rfl) rfl <| b_iadd (dc kc_X12_doLine_1 36 rfl) (by first | omega | (simp [up] <;> omega)) (by first | omega | (simp [up] <;> omega)) <| s_iaload (dc kc_X12_doLine_1 37 rfl) rfl (by first | omega | (simp [up] <;> omega)) (by first | omega | (simp [up] <;> omega)) <| r_aload_n (dc kc_X12_doLine_1 38 rfl) rfl <| s_getA (dc kc_X12_doLine_1 39 rfl) fl_X12_7 (ly_80_2 hL) <| s_iload (dc kc_X12_doLine_2 0 rfl) rfl <| k_i (dc kc_X12_doLine_2 1 rfl) rfl <| b_iadd (dc kc_X12_doLine_2 2 rfl) (by first | omega | (simp [up] <;> omega)) (by first | omega | (simp [up] <;> omega)) <| s_iaload (dc kc_X12_doLine_2 3 rfl) rfl (by first | omega | (simp [up] <;> omega)) (by first | omega | (simp [up] <;> omega)) <| c_v3r (dc kc_X12_doLine_2 4 rfl) cl_X12_356 rfl (Nat.le_of_ble_eq_true rfl) (Nat.zero_le _) (Nat.zero_le _) ?_
      rw [hrow]
      refine t_reckon hL (t := 0) (Or.inr rfl) (by omega) (by omega) (by omega) (by rw [hcel]; exact hc) (by rw [hrow]; exact hpt) hB (fun mi2 v g2 g3 => ?_)
      rw [hcel, hrow] at g3
      refine s_goto (tgt := 157) (dc kc_X12_doLine_2 5 rfl) rfl <| t_i6 (dc kc_X12_doLine_2 7 rfl) (Nat.le_of_ble_eq_true rfl) rfl <| ?_
      rcases g3 with ⟨z1, z2⟩ | ⟨rd, z1, z2, z3⟩
      · have eo : lnO (mi 0 81) j = oc1 := by
          rw [e, show evs (cel mi) (lnP (mi 0 81) j) [] r = none from z1]
        exact stB mi2 so v _ _ _ (g.tr g2) (Or.inl ⟨z2, eo⟩)
      · have := single _ _ _ _ _ hpt z1
        have hv := this.1.1 rfl
        refine stB mi2 so v _ _ _ (g.tr g2) (Or.inr ⟨by rw [z3, h30], ⟨hv.1, hv.2, fun z => absurd z (by omega)⟩, rd, z2, this.2 hr, ?_⟩)
        rw [e, show evs (cel mi) (lnP (mi 0 81) j) [] r = some ([v], rd) from z1]
  -- the test
  have hrow0 : up (up mi 0 80 9 0) 0 80 30 0 0 81 = mi 0 81 := by rw [up_j (by decide), up_j (by decide)]
  have hcel0 : cel (up (up mi 0 80 9 0) 0 80 30 0) = cel mi := by unfold cel; rw [hrow0]
  have g0 : Ch pE mi (up (up mi 0 80 9 0) 0 80 30 0) := (Ch.rf.up rfl).up rfl
  have h30 : up (up mi 0 80 9 0) 0 80 30 0 0 80 30 = 0 := by rw [up_at]
  have hB0 : Bm (up (up mi 0 80 9 0) 0 80 30 0 0 80 9) [] := by rw [up_k (by decide), up_at]; exact Bm.nil
  refine k_s (dc kc_X12_doLine_0 0 rfl) rfl <| k_b (dc kc_X12_doLine_0 1 rfl) rfl <| s_iload_n (dc kc_X12_doLine_0 2 rfl) rfl <| b_imul (dc kc_X12_doLine_0 3 rfl) (by first | omega | (simp [up] <;> omega)) (by first | omega | (simp [up] <;> omega)) <| b_iadd (dc kc_X12_doLine_0 4 rfl) (by first | omega | (simp [up] <;> omega)) (by first | omega | (simp [up] <;> omega)) <| t_i4 (dc kc_X12_doLine_0 5 rfl) (Nat.le_of_ble_eq_true rfl) rfl <| r_aload_n (dc kc_X12_doLine_0 6 rfl) rfl <| k_i (dc kc_X12_doLine_0 7 rfl) rfl <| s_putI (dc kc_X12_doLine_0 8 rfl) fl_X12_121 <| r_aload_n (dc kc_X12_doLine_0 9 rfl) rfl <| k_i (dc kc_X12_doLine_0 10 rfl) rfl <| s_putZ (dc kc_X12_doLine_0 11 rfl) fl_X12_353 (by first | exact Or.inl rfl | exact Or.inr rfl | exact bi_01 | assumption) <| r_aload_n (dc kc_X12_doLine_0 12 rfl) rfl <| s_getA (dc kc_X12_doLine_0 13 rfl) fl_X12_7 (ly_80_2 hL) <| s_iload (dc kc_X12_doLine_0 14 rfl) rfl <| k_b (dc kc_X12_doLine_0 15 rfl) rfl <| b_iadd (dc kc_X12_doLine_0 16 rfl) (by first | omega | (simp [up] <;> omega)) (by first | omega | (simp [up] <;> omega)) <| s_iaload (dc kc_X12_doLine_0 17 rfl) rfl (by first | omega | (simp [up] <;> omega)) (by first | omega | (simp [up] <;> omega)) <| r_aload_n (dc kc_X12_doLine_0 18 rfl) rfl <| s_getA (dc kc_X12_doLine_0 19 rfl) fl_X12_7 (ly_80_2 hL) <| s_iload (dc kc_X12_doLine_0 20 rfl) rfl <| k_b (dc kc_X12_doLine_0 21 rfl) rfl <| b_iadd (dc kc_X12_doLine_0 22 rfl) (by first | omega | (simp [up] <;> omega)) (by first | omega | (simp [up] <;> omega)) <| s_iaload (dc kc_X12_doLine_0 23 rfl) rfl (by first | omega | (simp [up] <;> omega)) (by first | omega | (simp [up] <;> omega)) <| s_icmp_eq (tgt := 74) (dc kc_X12_doLine_0 24 rfl) rfl (fun c40 => (k_i (dc kc_X12_doLine_1 2 rfl) rfl <| s_goto (tgt := 79) (dc kc_X12_doLine_1 3 rfl) rfl <| t_i5 (dc kc_X12_doLine_1 5 rfl) (Nat.le_of_ble_eq_true rfl) rfl <| ?_)) (fun c40 => (?_))
  · -- no test
    rw [hrow0] at c40
    have e : lnT (mi 0 81) j = [] := by unfold lnT; rw [show (mi 0 81 (2166 + 10 * j + 7) - mi 0 81 (2166 + 10 * j + 6)).toNat = 0 by omega]; rfl
    have eo : lnO (mi 0 81) j = fin1 (cel mi) (tgtOf (mi 0 81) j) (lnP (mi 0 81) j) (lnV (mi 0 81) j) [] := by
      unfold lnO lnA
      rw [if_pos e]
    refine r_aload_n (dc kc_X12_doLine_1 6 rfl) rfl <| s_getZ (dc kc_X12_doLine_1 7 rfl) fl_X12_353 <| s_if_ne (tgt := 93) (dc kc_X12_doLine_1 8 rfl) rfl (fun c85 => (?_)) (fun c85 => (s_iload (dc kc_X12_doLine_1 9 rfl) rfl <| s_if_ne (tgt := 106) (dc kc_X12_doLine_1 10 rfl) rfl (fun c90 => (?_)) (fun c90 => (?_))))
    · exact absurd h30 c85
    · exact stA _ 1 [] _ _ _ _ g0 h30 hB0 (fun a ha => by cases ha) eo
    · exfalso; omega
  · -- a test
    rw [hrow0] at c40
    have hne : lnT (mi 0 81) j ≠ [] := by
      unfold lnT
      obtain ⟨q, hq⟩ : ∃ q, (mi 0 81 (2166 + 10 * j + 7) - mi 0 81 (2166 + 10 * j + 6)).toNat = q + 1 := ⟨(mi 0 81 (2166 + 10 * j + 7) - mi 0 81 (2166 + 10 * j + 6)).toNat - 1, by omega⟩
      rw [hq, slc]
      exact List.cons_ne_nil _ _
    have htt : tyc (lnT (mi 0 81) j) [] = some [2] := hlin.2.2.1.elim (fun z => absurd z hne) id
    have eo : lnO (mi 0 81) j = match evs (cel mi) (lnT (mi 0 81) j) [] [] with | some (x :: _, r) => if x = 0 then oc0 else fin1 (cel mi) (tgtOf (mi 0 81) j) (lnP (mi 0 81) j) (lnV (mi 0 81) j) r | _ => oc1 := by
      unfold lnO lnA
      rw [if_neg hne]
    refine r_aload_n (dc kc_X12_doLine_0 25 rfl) rfl <| k_s (dc kc_X12_doLine_0 26 rfl) rfl <| r_aload_n (dc kc_X12_doLine_0 27 rfl) rfl <| s_getA (dc kc_X12_doLine_0 28 rfl) fl_X12_7 (ly_80_2 hL) <| s_iload (dc kc_X12_doLine_0 29 rfl) rfl <| k_b (dc kc_X12_doLine_0 30 rfl) rfl <| b_iadd (dc kc_X12_doLine_0 31 rfl) (by first | omega | (simp [up] <;> omega)) (by first | omega | (simp [up] <;> omega)) <| s_iaload (dc kc_X12_doLine_0 32 rfl) rfl (by first | omega | (simp [up] <;> omega)) (by first | omega | (simp [up] <;> omega)) <| r_aload_n (dc kc_X12_doLine_0 33 rfl) rfl <| s_getA (dc kc_X12_doLine_0 34 rfl) fl_X12_7 (ly_80_2 hL) <| s_iload (dc kc_X12_doLine_0 35 rfl) rfl <| k_b (dc kc_X12_doLine_0 36 rfl) rfl <| b_iadd (dc kc_X12_doLine_0 37 rfl) (by first | omega | (simp [up] <;> omega)) (by first | omega | (simp [up] <;> omega)) <| s_iaload (dc kc_X12_doLine_0 38 rfl) rfl (by first | omega | (simp [up] <;> omega)) (by first | omega | (simp [up] <;> omega)) <| c_v3r (dc kc_X12_doLine_0 39 rfl) cl_X12_356 rfl (Nat.le_of_ble_eq_true rfl) (Nat.zero_le _) (Nat.zero_le _) ?_
    rw [hrow0]
    refine t_reckon hL (t := 2) (Or.inr rfl) (by omega) (by omega) (by omega) (by rw [hcel0]; exact hc) (by rw [hrow0]; exact htt) hB0 (fun mi2 v g2 g3 => ?_)
    rw [hcel0, hrow0] at g3
    have gE := g0.tr g2
    have aft : ∀ so, (so = 0 ∨ so = 1) → ((mi2 0 80 30 = 1 ∧ lnO (mi 0 81) j = oc1) ∨ (mi2 0 80 30 = 0 ∧ (so = 0 → lnO (mi 0 81) j = oc0) ∧ (so = 1 → ∃ r, Bm (mi2 0 80 9) r ∧ (∀ a ∈ r, 0 ≤ a ∧ a < 24) ∧ lnO (mi 0 81) j = fin1 (cel mi) (tgtOf (mi 0 81) j) (lnP (mi 0 81) j) (lnV (mi 0 81) j) r))) → Run (d+6) mt_X12_doLine Q (n, mr, 0, 0) mi2 81 [vR (some (0, 80)), vI j, vI s, vI p, vI (2166 + 10 * j), vI so, vX 0, vX 0, vX 0, vX 0] [] := by
      intro so h01 hm
      refine r_aload_n (dc kc_X12_doLine_1 6 rfl) rfl <| s_getZ (dc kc_X12_doLine_1 7 rfl) fl_X12_353 <| s_if_ne (tgt := 93) (dc kc_X12_doLine_1 8 rfl) rfl (fun c85 => (?_)) (fun c85 => (s_iload (dc kc_X12_doLine_1 9 rfl) rfl <| s_if_ne (tgt := 106) (dc kc_X12_doLine_1 10 rfl) rfl (fun c90 => (?_)) (fun c90 => (?_))))
      · refine r_aload_n (dc kc_X12_doLine_1 11 rfl) rfl <| s_getZ (dc kc_X12_doLine_1 12 rfl) fl_X12_353 <| s_if_eq (tgt := 104) (dc kc_X12_doLine_1 13 rfl) rfl (fun c97 => (k_i (dc kc_X12_doLine_1 16 rfl) rfl <| s_ireturn (dc kc_X12_doLine_1 17 rfl) rfl (Nat.zero_le _) (Nat.zero_le _) ?_)) (fun c97 => (k_i (dc kc_X12_doLine_1 14 rfl) rfl <| s_goto (tgt := 105) (dc kc_X12_doLine_1 15 rfl) rfl <| s_ireturn (dc kc_X12_doLine_1 17 rfl) rfl (Nat.zero_le _) (Nat.zero_le _) ?_))
        · exfalso; omega
        · rcases hm with ⟨_, e⟩ | ⟨e, _⟩
          · exact amis _ gE e
          · exact absurd e c85
      · rcases hm with ⟨z, e⟩ | ⟨e, _, h⟩
        · exfalso; omega
        · obtain ⟨r, z1, z2, z3⟩ := h (by omega)
          exact stA _ so r _ _ _ _ gE e z1 z2 z3
      · refine r_aload_n (dc kc_X12_doLine_1 11 rfl) rfl <| s_getZ (dc kc_X12_doLine_1 12 rfl) fl_X12_353 <| s_if_eq (tgt := 104) (dc kc_X12_doLine_1 13 rfl) rfl (fun c97 => (k_i (dc kc_X12_doLine_1 16 rfl) rfl <| s_ireturn (dc kc_X12_doLine_1 17 rfl) rfl (Nat.zero_le _) (Nat.zero_le _) ?_)) (fun c97 => (k_i (dc kc_X12_doLine_1 14 rfl) rfl <| s_goto (tgt := 105) (dc kc_X12_doLine_1 15 rfl) rfl <| s_ireturn (dc kc_X12_doLine_1 17 rfl) rfl (Nat.zero_le _) (Nat.zero_le _) ?_))
        · rcases hm with ⟨z, e⟩ | ⟨e, h, _⟩
          · exfalso; omega
          · exact pass _ gE (h c90)
        · exfalso; omega
    have hfin : ∀ so, so = bi (v = 1) → Run (d+6) mt_X12_doLine Q (n, mr, 0, 0) mi2 81 [vR (some (0, 80)), vI j, vI s, vI p, vI (2166 + 10 * j), vI so, vX 0, vX 0, vX 0, vX 0] [] := by
      intro so eso
      refine aft so (by rw [eso]; exact bi_01) ?_
      rcases g3 with ⟨z1, z2⟩ | ⟨rd, z1, z2, z3⟩
      · refine Or.inl ⟨z2, ?_⟩
        rw [eo, show evs (cel mi) (lnT (mi 0 81) j) [] [] = none from z1]
      · have hs1 := single _ _ _ _ _ htt z1
        have hv := hs1.1.2 rfl
        rw [show evs (cel mi) (lnT (mi 0 81) j) [] [] = some ([v], rd) from z1] at eo
        refine Or.inr ⟨by rw [z3, h30], fun z => ?_, fun z => ⟨rd, z2, hs1.2 (fun a ha => by cases ha), ?_⟩⟩
        · rw [eso, bi_eq0] at z
          rw [eo]
          exact if_pos (by omega)
        · rw [eso, bi_eq1] at z
          rw [eo]
          exact if_neg (by omega)
    refine k_i (dc kc_X12_doLine_1 0 rfl) rfl <| s_icmp_ne (tgt := 78) (dc kc_X12_doLine_1 1 rfl) rfl (fun c71 => (k_i (dc kc_X12_doLine_1 4 rfl) rfl <| t_i5 (dc kc_X12_doLine_1 5 rfl) (Nat.le_of_ble_eq_true rfl) rfl <| ?_)) (fun c71 => (k_i (dc kc_X12_doLine_1 2 rfl) rfl <| s_goto (tgt := 79) (dc kc_X12_doLine_1 3 rfl) rfl <| t_i5 (dc kc_X12_doLine_1 5 rfl) (Nat.le_of_ble_eq_true rfl) rfl <| ?_))
    · exact hfin 0 (by rw [bi_f c71])
    · exact hfin 1 (by rw [bi_t c71])
end REF9
