/-! the reference: putIn -/
section PUI
variable {d n G : Nat} {mr : MR} {Q : V → MI → Nat → MR → Prop}
theorem clR_ud {ρ : Int → Int} {c v i : Int} : clR (ud ρ (30 + c) v) i = if i = c then v else clR ρ i := by
  show ud ρ (30 + c) v (30 + i) = _
  by_cases e : i = c
  · rw [e, ud_at, if_pos rfl]
  · rw [ud_ne (by omega), if_neg e]
theorem VC_ud {ρ : Int → Int} {c v : Int} (hV : VC (clR ρ)) (hb : biC c v = 1) : VC (clR (ud ρ (30 + c) v)) := hV.wr fun i h0 h1 => by
  rw [clR_ud]
  by_cases e : i = c
  · right; rw [if_pos e, e]; exact hb
  · left; rw [if_neg e]
theorem pap_back {ρ R P : Int → Int} (h : pap ρ R) (hP : ∀ i, 0 ≤ i → i < 24 → P i = ρ (30 + i)) : ud (cpF R P 30 0 24) 19 (ρ 19) = ρ := by
  funext k
  by_cases e : k = 19
  · rw [e, ud_at]
  · rw [ud_ne e]
    by_cases e2 : 30 ≤ k ∧ k < 54
    · rw [cpF_at e2.1 (by omega), hP _ (by omega) (by omega)]
      congr 1
      omega
    · rw [cpF_off (by omega)]; exact h k e (by omega)
theorem t_putIn (hL : Lay G mr) {mi : MI} {x w : Int} (hI : Inv0 (mi 0 81))
    (hQ1 : ¬ ((1 ≤ x ∧ x ≤ 24) ∧ (0 ≤ w ∧ w ≤ 3) ∧ mi 0 81 17 ≠ 0) → ∀ mi', Ch p0 mi mi' → Q (vI (-1)) mi' n mr)
    (hQ2 : 1 ≤ x → x ≤ 24 → 0 ≤ w → w ≤ 3 → mi 0 81 17 ≠ 0 → ∀ mi', Ch pU mi mi' → mi' 0 81 = mi 0 81 → Q (vI (cntC (mi 0 81) x.toNat w 24)) mi' n mr) : Tx (d+8) mt_X12_putIn [vR (some (0, 80)), vI x, vI w] mi n mr Q := by
  refine tx_intro (ls := [vR (some (0, 80)), vI x, vI w, vX 0, vX 0, vX 0, vX 0, vX 0, vX 0, vX 0, vX 0]) om_X12_putIn rfl (Nat.le_of_ble_eq_true rfl) ?_
  generalize hρ : mi 0 81 = ρ at *
  obtain ⟨hV, h0, h7, h8, h10, h16, h17, h18, hlw, hln⟩ := hI
  have e81 : up mi 0 80 0 0 0 81 = ρ := by rw [up_j (by decide), hρ]
  have e17 : up mi 0 80 0 0 0 81 17 = ρ 17 := by rw [e81]
  refine r_aload_n (dc kc_X12_putIn_0 0 rfl) rfl <| k_i (dc kc_X12_putIn_0 1 rfl) rfl <| s_putI (dc kc_X12_putIn_0 2 rfl) fl_X12_86 <| s_iload_n (dc kc_X12_putIn_0 3 rfl) rfl <| s_i2l (dc kc_X12_putIn_0 4 rfl) <| s_lconst1 (dc kc_X12_putIn_0 5 rfl) <| k_j (dc kc_X12_putIn_0 6 rfl) kj_X12_208 rfl (a := 24) (by decide) <| c_s3r (dc kc_X12_putIn_0 7 rfl) cl_X12_92 rfl (Nat.le_of_ble_eq_true rfl) (Nat.zero_le _) (Nat.zero_le _) <| t_in <| s_if_eqb (tgt := 39) (dc kc_X12_putIn_0 8 rfl) rfl (fun c14 => (k_i (dc kc_X12_putIn_0 20 rfl) rfl <| s_ireturn (dc kc_X12_putIn_0 21 rfl) rfl (Nat.zero_le _) (Nat.zero_le _) ?_)) (fun c14 => (s_iload_n (dc kc_X12_putIn_0 9 rfl) rfl <| s_i2l (dc kc_X12_putIn_0 10 rfl) <| s_lconst0 (dc kc_X12_putIn_0 11 rfl) <| k_j (dc kc_X12_putIn_0 12 rfl) kj_X12_402 rfl (a := 3) (by decide) <| c_s3r (dc kc_X12_putIn_0 13 rfl) cl_X12_92 rfl (Nat.le_of_ble_eq_true rfl) (Nat.zero_le _) (Nat.zero_le _) <| t_in <| s_if_eqb (tgt := 39) (dc kc_X12_putIn_0 14 rfl) rfl (fun c26 => (k_i (dc kc_X12_putIn_0 20 rfl) rfl <| s_ireturn (dc kc_X12_putIn_0 21 rfl) rfl (Nat.zero_le _) (Nat.zero_le _) ?_)) (fun c26 => (r_aload_n (dc kc_X12_putIn_0 15 rfl) rfl <| s_getA (dc kc_X12_putIn_0 16 rfl) fl_X12_7 (ly_80_2 hL) <| k_b (dc kc_X12_putIn_0 17 rfl) rfl <| s_iaload (dc kc_X12_putIn_0 18 rfl) rfl (by first | omega | (simp [up] <;> omega)) (by first | omega | (simp [up] <;> omega)) <| s_if_ne (tgt := 41) (dc kc_X12_putIn_0 19 rfl) rfl (fun c36 => (?_)) (fun c36 => (k_i (dc kc_X12_putIn_0 20 rfl) rfl <| s_ireturn (dc kc_X12_putIn_0 21 rfl) rfl (Nat.zero_le _) (Nat.zero_le _) ?_))))))
  · exact hQ1 (fun z => c14 z.1) _ (Ch.rf.up rfl)
  · exact hQ1 (fun z => c26 z.2.1) _ (Ch.rf.up rfl)
  · rw [e17] at c36
    have g0 : Ch pU mi (up mi 0 80 0 0) := Ch.rf.up rfl
    generalize up mi 0 80 0 0 = m0 at *
    have h7' := h7.2 (by omega)
    have hG := goF_Inv hV ⟨h7.1, h7'⟩ h8 hln
    generalize hP : goF ρ x.toNat = P at *
    have hPx := hG x.toNat
    rw [hP] at hPx
    have hPl : P.2.2.1.length ≤ 24 := by omega
    -- the two loops
    have main : ∀ c : Nat, c ≤ 24 → ∀ (m : MI) (x8 x9 x10 : V), Ch pU mi m → m 0 81 = ρ → (∀ i, 0 ≤ i → i < 24 → m 0 99 i = ρ (30 + i)) → Arr (m 0 101) P.2.2.1 → Run (d+8) mt_X12_putIn Q (n, mr, 0, 0) m 142 [vR (some (0, 80)), vI x, vI w, vI (ρ 19), vI (P.2.2.1.length : Int), vI P.2.2.2, vI (cntC ρ x.toNat w c), vI (c : Int), x8, x9, x10] [] := by
      refine nloop ?_
      intro c hc ih m x8 x9 x10 g em e99 eA
      have hcr := cntC_rg (ρ := ρ) (n := x.toNat) (w := w) c
      by_cases he : c < 24
      · have inner : ∀ i : Nat, i ≤ 11 → ∀ (m : MI) (x9 x10 : V), Ch pU mi m → m 0 81 = ρ → (∀ i, 0 ≤ i → i < 24 → m 0 99 i = ρ (30 + i)) → Arr (m 0 101) P.2.2.1 → Run (d+8) mt_X12_putIn Q (n, mr, 0, 0) m 152 [vR (some (0, 80)), vI x, vI w, vI (ρ 19), vI (P.2.2.1.length : Int), vI P.2.2.2, vI (cntC ρ x.toNat w c + cntV ρ x.toNat w c i), vI (c : Int), vI ((i : Int) - 1), x9, x10] [] := by
          refine nloop ?_
          intro i hi ih2 m x9 x10 g em e99 eA
          have hir := cntV_rg (ρ := ρ) (n := x.toNat) (w := w) (c := c) i
          have e99c := e99 c (by omega) (by omega)
          by_cases hi11 : i < 11
          · have nxt : ∀ (m : MI) (a : Int) (x9 x10 : V), Ch pU mi m → m 0 81 = ρ → (∀ i, 0 ≤ i → i < 24 → m 0 99 i = ρ (30 + i)) → Arr (m 0 101) P.2.2.1 → a = cntC ρ x.toNat w c + cntV ρ x.toNat w c (i + 1) → Run (d+8) mt_X12_putIn Q (n, mr, 0, 0) m 319 [vR (some (0, 80)), vI x, vI w, vI (ρ 19), vI (P.2.2.1.length : Int), vI P.2.2.2, vI a, vI (c : Int), vI ((i : Int) - 1), x9, x10] [] := by
              intro m a x9 x10 g em e99 eA ea
              subst ea
              have := ih2 hi11 m x9 x10 g em e99 eA
              refine b_inc8 (dc kc_X12_putIn_4 5 rfl) rfl (Nat.le_of_ble_eq_true rfl) rfl (by first | omega | (simp [up] <;> omega)) (by first | omega | (simp [up] <;> omega)) <| s_goto (tgt := 152) (dc kc_X12_putIn_4 6 rfl) rfl <| ?_
              rw [show (i : Int) - 1 + 1 = ((i + 1 : Nat) : Int) - 1 by omega]
              exact this
            have skip : ¬ (biC c ((i : Int) - 1) = 1 ∧ (i : Int) - 1 ≠ ρ (30 + c)) → cntC ρ x.toNat w c + cntV ρ x.toNat w c i = cntC ρ x.toNat w c + cntV ρ x.toNat w c (i + 1) := by
              intro hn
              rw [cntV, if_neg (fun z => hn z.1)]
              omega
            refine s_iload (dc kc_X12_putIn_2 1 rfl) rfl <| k_b (dc kc_X12_putIn_2 2 rfl) rfl <| s_icmp_ge (tgt := 325) (dc kc_X12_putIn_2 3 rfl) rfl (fun c156 => (?_)) (fun c156 => (s_iload (dc kc_X12_putIn_2 4 rfl) rfl <| s_iload (dc kc_X12_putIn_2 5 rfl) rfl <| c_s2r (dc kc_X12_putIn_2 6 rfl) cl_X12_394 rfl (Nat.le_of_ble_eq_true rfl) (Nat.zero_le _) (Nat.zero_le _) <| t_canBe (by first | omega | (simp [up] <;> omega)) <| s_if_eq (tgt := 319) (dc kc_X12_putIn_2 7 rfl) rfl (fun c166 => (?_)) (fun c166 => (s_iload (dc kc_X12_putIn_2 8 rfl) rfl <| r_aload_n (dc kc_X12_putIn_2 9 rfl) rfl <| s_getA (dc kc_X12_putIn_2 10 rfl) fl_X12_70 (ly_80_43 hL) <| s_iload (dc kc_X12_putIn_2 11 rfl) rfl <| s_iaload (dc kc_X12_putIn_2 12 rfl) rfl (by first | omega | (simp [up] <;> omega)) (by first | omega | (simp [up] <;> omega)) <| s_icmp_eq (tgt := 319) (dc kc_X12_putIn_2 13 rfl) rfl (fun c178 => (?_)) (fun c178 => (?_))))))
            · exfalso; omega
            · exact nxt m _ _ _ g em e99 eA (skip (by omega))
            · rw [e99c] at c178
              exact nxt m _ _ _ g em e99 eA (skip (fun z => z.2 c178))
            · rw [e99c] at c178
              have hb : biC c ((i : Int) - 1) = 1 := by have := biC_01 (c := c) (v := (i : Int) - 1); omega
              generalize hv : (i : Int) - 1 = v at *
              have er : up m 0 81 (30 + (c : Int)) v 0 81 = ud ρ (30 + c) v := by rw [up_ud, em]
              have hV' := VC_ud hV hb
              have eo : ∀ k, k < 30 ∨ 54 ≤ k → ud ρ (30 + (c : Int)) v k = ρ k := fun k z => ud_ne (by omega)
              refine r_aload_n (dc kc_X12_putIn_2 14 rfl) rfl <| s_getA (dc kc_X12_putIn_2 15 rfl) fl_X12_7 (ly_80_2 hL) <| k_b (dc kc_X12_putIn_2 16 rfl) rfl <| s_iload (dc kc_X12_putIn_2 17 rfl) rfl <| b_iadd (dc kc_X12_putIn_2 18 rfl) (by first | omega | (simp [up] <;> omega)) (by first | omega | (simp [up] <;> omega)) <| s_iload (dc kc_X12_putIn_2 19 rfl) rfl <| s_iastore (dc kc_X12_putIn_2 20 rfl) rfl (by first | omega | (simp [up] <;> omega)) (by first | omega | (simp [up] <;> omega)) <| r_aload_n (dc kc_X12_putIn_2 21 rfl) rfl <| s_iload_n (dc kc_X12_putIn_2 22 rfl) rfl <| c_v1 (dc kc_X12_putIn_2 23 rfl) cl_X12_521 rfl (Nat.le_of_ble_eq_true rfl) (Nat.zero_le _) (Nat.zero_le _) ?_
              refine t_goOn hL (by omega) (by omega) (by rw [er]; exact hV') (by rw [er, eo 7 (by omega), eo 17 (by omega)]; exact ⟨h7.1, h7'⟩) (by rw [er, eo 17 (by omega)]; omega) (by rw [er, eo 8 (by omega)]; exact h8) (by rw [er, eo 17 (by omega)]; exact fun j a b => (hln j a b).hi (fun k hk => eo k (by omega)) a) (fun m1 g1 e1 eA1 e45 e46 => ?_)
              rw [er] at e1 eA1 e45 e46
              have hG' := goF_Inv hV' (by rw [eo 7 (by omega), eo 17 (by omega)]; exact ⟨h7.1, h7'⟩) (by rw [eo 8 (by omega)]; exact h8) (by rw [eo 17 (by omega)]; exact fun j a b => (hln j a b).hi (fun k hk => eo k (by omega)) a) x.toNat
              have hcam : camR ρ x.toNat c v = if allH (fun l => valA (clR (goF (ud ρ (30 + c) v) x.toNat).1) (lawC ρ l)) (ρ 16).toNat = false then 3 else if (goF (ud ρ (30 + c) v) x.toNat).2.2.1 = P.2.2.1 then 0 else if P.2.2.2 < (goF (ud ρ (30 + c) v) x.toNat).2.2.2 then 1 else 2 := by unfold camR; rw [hP]
              generalize goF (ud ρ (30 + c) v) x.toNat = q at *
              have hpq : pap ρ q.1 := fun k z1 z2 => by rw [hG'.2.1 k z1 z2]; exact eo k z2
              have gg : Ch pU mi m1 := (g.up rfl).tr (g1.mono (fun _ _ z => by simp [pO, pU] at z ⊢; omega))
              have f99 : m1 0 99 = m 0 99 := by rw [g1.row (fun _ => rfl), up_j (by decide)]
              have f101 : m1 0 101 = m 0 101 := by rw [g1.row (fun _ => rfl), up_j (by decide)]
              -- when came is known
              have fin : ∀ (m2 : MI) (came : Int) (x9 : Int) (x10 : V), came = camR ρ x.toNat c v → Ch pU mi m2 → m2 0 81 = q.1 → m2 0 99 = m 0 99 → m2 0 101 = m 0 101 → Run (d+8) mt_X12_putIn Q (n, mr, 0, 0) m2 296 [vR (some (0, 80)), vI x, vI w, vI (ρ 19), vI (P.2.2.1.length : Int), vI P.2.2.2, vI (cntC ρ x.toNat w c + cntV ρ x.toNat w c i), vI (c : Int), vI v, vI x9, x10] [vI came] := by
                intro m2 came x9 x10 ec g2 e2 f2 h2
                have put : ∀ a x9 x10, a = cntC ρ x.toNat w c + cntV ρ x.toNat w c (i + 1) → Run (d+8) mt_X12_putIn Q (n, mr, 0, 0) m2 314 [vR (some (0, 80)), vI x, vI w, vI (ρ 19), vI (P.2.2.1.length : Int), vI P.2.2.2, vI a, vI (c : Int), vI v, x9, x10] [] := by
                  intro a x9 x10 ea
                  refine r_aload_n (dc kc_X12_putIn_4 2 rfl) rfl <| s_iload_n (dc kc_X12_putIn_4 3 rfl) rfl <| c_v1 (dc kc_X12_putIn_4 4 rfl) cl_X12_524 rfl (Nat.le_of_ble_eq_true rfl) (Nat.zero_le _) (Nat.zero_le _) ?_
                  refine t_putPaper hL (fun m3 g3 e3 => ?_)
                  have hback : m3 0 81 = ρ := by
                    rw [e3, e2, f2]
                    exact pap_back hpq e99
                  exact nxt m3 a x9 x10 (g2.tr (g3.mono (fun _ _ z => by simp [p81, pU] at z ⊢; omega))) hback (by rw [g3.row (fun _ => rfl), f2]; exact e99) (by rw [g3.row (fun _ => rfl), h2]; exact eA) ea
                refine t_i10 (dc kc_X12_putIn_3 32 rfl) (Nat.le_of_ble_eq_true rfl) rfl <| s_iload (dc kc_X12_putIn_3 33 rfl) rfl <| s_iload (dc kc_X12_putIn_3 34 rfl) rfl <| s_iload_n (dc kc_X12_putIn_3 35 rfl) rfl <| s_icmp_ne (tgt := 310) (dc kc_X12_putIn_3 36 rfl) rfl (fun c303 => (k_i (dc kc_X12_putIn_3 39 rfl) rfl <| b_iadd (dc kc_X12_putIn_4 0 rfl) (by first | omega | (simp [up] <;> omega)) (by first | omega | (simp [up] <;> omega)) <| t_i6 (dc kc_X12_putIn_4 1 rfl) (Nat.le_of_ble_eq_true rfl) rfl <| ?_)) (fun c303 => (k_i (dc kc_X12_putIn_3 37 rfl) rfl <| s_goto (tgt := 311) (dc kc_X12_putIn_3 38 rfl) rfl <| b_iadd (dc kc_X12_putIn_4 0 rfl) (by first | omega | (simp [up] <;> omega)) (by first | omega | (simp [up] <;> omega)) <| t_i6 (dc kc_X12_putIn_4 1 rfl) (Nat.le_of_ble_eq_true rfl) rfl <| ?_))
                · exact put _ _ _ (by rw [cntV, if_neg (fun z => c303 (by rw [ec, ← hv]; exact z.2))]; omega)
                · exact put _ _ _ (by rw [cntV, if_pos ⟨by rw [hv]; exact ⟨hb, c178⟩, by rw [hv, ← ec]; exact c303⟩]; omega)
              -- when same is known
              have lawful : ∀ (m2 : MI) (same : Int) (x10 : V), same = bi (q.2.2.1 = P.2.2.1) → Ch pU mi m2 → m2 0 81 = q.1 → m2 0 99 = m 0 99 → m2 0 101 = m 0 101 → m2 0 80 46 = q.2.2.2 → Run (d+8) mt_X12_putIn Q (n, mr, 0, 0) m2 261 [vR (some (0, 80)), vI x, vI w, vI (ρ 19), vI (P.2.2.1.length : Int), vI P.2.2.2, vI (cntC ρ x.toNat w c + cntV ρ x.toNat w c i), vI (c : Int), vI v, vI same, x10] [] := by
                intro m2 same x10 es g2 e2 f2 h2 h46
                have e16 : q.1 16 = ρ 16 := hpq 16 (by omega) (by omega)
                have ecl : cel m2 = clR q.1 := by unfold cel; rw [e2]
                have hlc : ∀ l, 0 ≤ l → l < ρ 16 → lawC q.1 l = lawC ρ l := fun l a b => lawC_hi (fun k hk => hpq k (by omega) (by omega)) a (fun z => ((hlw l a b).2.2.1 z).1)
                have hwl : ∀ l, 0 ≤ l → l < ρ 16 → WfLaw q.1 l := fun l a b => (hlw l a b).hi (fun k hk => hpq k (by omega) (by omega)) a
                have key : ∀ r, (r = -1 ↔ allH (fun l => valA (clR q.1) (lawC ρ l)) (ρ 16).toNat = true) → ∀ m3 : MI, Ch pE m2 m3 → Run (d+8) mt_X12_putIn Q (n, mr, 0, 0) m3 265 [vR (some (0, 80)), vI x, vI w, vI (ρ 19), vI (P.2.2.1.length : Int), vI P.2.2.2, vI (cntC ρ x.toNat w c + cntV ρ x.toNat w c i), vI (c : Int), vI v, vI same, x10] [vI r] := by
                  intro r hr m3 g3
                  have g33 : Ch pU mi m3 := g2.tr (g3.mono (fun _ _ z => by simp [pE, pU] at z ⊢; omega))
                  have f3 : m3 0 81 = q.1 := by rw [g3.row (fun _ => rfl), e2]
                  have f39 : m3 0 99 = m 0 99 := by rw [g3.row (fun _ => rfl), f2]
                  have f31 : m3 0 101 = m 0 101 := by rw [g3.row (fun _ => rfl), h2]
                  have f46 : m3 0 80 46 = q.2.2.2 := by rw [g3.at (by decide), h46]
                  refine k_i (dc kc_X12_putIn_3 17 rfl) rfl <| s_icmp_eq (tgt := 273) (dc kc_X12_putIn_3 18 rfl) rfl (fun c266 => (s_iload (dc kc_X12_putIn_3 21 rfl) rfl <| s_if_eq (tgt := 282) (dc kc_X12_putIn_3 22 rfl) rfl (fun c275 => (r_aload_n (dc kc_X12_putIn_3 25 rfl) rfl <| s_getI (dc kc_X12_putIn_3 26 rfl) fl_X12_518 <| s_iload (dc kc_X12_putIn_3 27 rfl) rfl <| s_icmp_le (tgt := 295) (dc kc_X12_putIn_3 28 rfl) rfl (fun c288 => (k_i (dc kc_X12_putIn_3 31 rfl) rfl <| ?_)) (fun c288 => (k_i (dc kc_X12_putIn_3 29 rfl) rfl <| s_goto (tgt := 296) (dc kc_X12_putIn_3 30 rfl) rfl <| ?_)))) (fun c275 => (k_i (dc kc_X12_putIn_3 23 rfl) rfl <| s_goto (tgt := 296) (dc kc_X12_putIn_3 24 rfl) rfl <| ?_)))) (fun c266 => (k_i (dc kc_X12_putIn_3 19 rfl) rfl <| s_goto (tgt := 296) (dc kc_X12_putIn_3 20 rfl) rfl <| ?_))
                  · have ha := hr.mp c266
                    rw [ha, if_neg (by decide)] at hcam
                    have hs : ¬ q.2.2.1 = P.2.2.1 := fun z => by rw [es, bi_t z] at c275; omega
                    rw [if_neg hs, if_neg (by omega)] at hcam
                    exact fin m3 _ _ _ hcam.symm g33 f3 f39 f31
                  · have ha := hr.mp c266
                    rw [ha, if_neg (by decide)] at hcam
                    have hs : ¬ q.2.2.1 = P.2.2.1 := fun z => by rw [es, bi_t z] at c275; omega
                    rw [if_neg hs, if_pos (by omega)] at hcam
                    exact fin m3 _ _ _ hcam.symm g33 f3 f39 f31
                  · have ha := hr.mp c266
                    rw [ha, if_neg (by decide)] at hcam
                    have hs : q.2.2.1 = P.2.2.1 := by rw [es] at c275; exact bi_ne0.mp c275
                    rw [if_pos hs] at hcam
                    exact fin m3 _ _ _ hcam.symm g33 f3 f39 f31
                  · have ha : allH (fun l => valA (clR q.1) (lawC ρ l)) (ρ 16).toNat = false := by
                      cases hz : allH (fun l => valA (clR q.1) (lawC ρ l)) (ρ 16).toNat with
                      | false => rfl
                      | true => exact absurd (hr.mpr hz) c266
                    rw [ha, if_pos rfl] at hcam
                    exact fin m3 _ _ _ hcam.symm g33 f3 f39 f31
                refine r_aload_n (dc kc_X12_putIn_3 15 rfl) rfl <| c_v0r (dc kc_X12_putIn_3 16 rfl) cl_X12_478 rfl (Nat.le_of_ble_eq_true rfl) (Nat.zero_le _) (Nat.zero_le _) ?_
                refine t_firstBroken hL (by rw [ecl]; exact hG'.1) (by rw [e2, e16]; exact h16) (by rw [e2, e16]; exact hwl) ?_ ?_
                · rw [ecl, e2, e16]
                  intro hall m3 g3
                  refine key (-1) ⟨fun _ => allH_iff.mpr (fun l a b => ?_), fun _ => rfl⟩ m3 g3
                  rw [← hlc l a (by omega)]
                  exact hall l a (by omega)
                · rw [ecl, e2, e16]
                  intro l a b hz m3 g3
                  refine key l ⟨fun z => by omega, fun z => ?_⟩ m3 g3
                  have := allH_iff.mp z l a (by omega)
                  rw [← hlc l a b, hz] at this
                  omega
              -- are payments the same
              have cmp : q.2.2.1.length = P.2.2.1.length → ∀ k : Nat, k ≤ q.2.2.1.length → q.2.2.1.take k = P.2.2.1.take k → Run (d+8) mt_X12_putIn Q (n, mr, 0, 0) m1 217 [vR (some (0, 80)), vI x, vI w, vI (ρ 19), vI (P.2.2.1.length : Int), vI P.2.2.2, vI (cntC ρ x.toNat w c + cntV ρ x.toNat w c i), vI (c : Int), vI v, vI 1, vI (k : Int)] [] := by
                intro hlen
                refine nloop ?_
                intro k hk ih3 htk
                have hql := hG'.2.2.2.1
                by_cases hkk : k < q.2.2.1.length
                · have r1 := eA1 k hkk
                  have r2 := eA k (by omega)
                  rw [← f101] at r2
                  have tk : ∀ L : List Int, ∀ v, L[k]? = some v → L.take (k + 1) = L.take k ++ [v] := fun L v h => by rw [List.take_add_one, h]; rfl
                  refine s_iload (dc kc_X12_putIn_2 34 rfl) rfl <| r_aload_n (dc kc_X12_putIn_2 35 rfl) rfl <| s_getI (dc kc_X12_putIn_2 36 rfl) fl_X12_515 <| s_icmp_ge (tgt := 261) (dc kc_X12_putIn_2 37 rfl) rfl (fun c223 => (?_)) (fun c223 => (s_iload (dc kc_X12_putIn_2 38 rfl) rfl <| s_if_eq (tgt := 261) (dc kc_X12_putIn_2 39 rfl) rfl (fun c228 => (?_)) (fun c228 => (r_aload_n (dc kc_X12_putIn_3 0 rfl) rfl <| s_getA (dc kc_X12_putIn_3 1 rfl) fl_X12_73 (ly_80_44 hL) <| s_iload (dc kc_X12_putIn_3 2 rfl) rfl <| s_iaload (dc kc_X12_putIn_3 3 rfl) rfl (by first | omega | (simp [up] <;> omega)) (by first | omega | (simp [up] <;> omega)) <| r_aload_n (dc kc_X12_putIn_3 4 rfl) rfl <| s_getA (dc kc_X12_putIn_3 5 rfl) fl_X12_76 (ly_80_47 hL) <| s_iload (dc kc_X12_putIn_3 6 rfl) rfl <| s_iaload (dc kc_X12_putIn_3 7 rfl) rfl (by first | omega | (simp [up] <;> omega)) (by first | omega | (simp [up] <;> omega)) <| s_icmp_ne (tgt := 252) (dc kc_X12_putIn_3 8 rfl) rfl (fun c245 => (k_i (dc kc_X12_putIn_3 11 rfl) rfl <| ?_)) (fun c245 => (k_i (dc kc_X12_putIn_3 9 rfl) rfl <| s_goto (tgt := 253) (dc kc_X12_putIn_3 10 rfl) rfl <| ?_))))))
                  all_goals first | (exfalso; omega) | skip
                  · refine t_i9 (dc kc_X12_putIn_3 12 rfl) (Nat.le_of_ble_eq_true rfl) rfl <| b_inc10 (dc kc_X12_putIn_3 13 rfl) rfl (Nat.le_of_ble_eq_true rfl) rfl (by first | omega | (simp [up] <;> omega)) (by first | omega | (simp [up] <;> omega)) <| s_goto (tgt := 217) (dc kc_X12_putIn_3 14 rfl) rfl <| ?_
                    refine s_iload (dc kc_X12_putIn_2 34 rfl) rfl <| r_aload_n (dc kc_X12_putIn_2 35 rfl) rfl <| s_getI (dc kc_X12_putIn_2 36 rfl) fl_X12_515 <| s_icmp_ge (tgt := 261) (dc kc_X12_putIn_2 37 rfl) rfl (fun c223 => (?_)) (fun c223 => (s_iload (dc kc_X12_putIn_2 38 rfl) rfl <| s_if_eq (tgt := 261) (dc kc_X12_putIn_2 39 rfl) rfl (fun c228 => (?_)) (fun c228 => (?_))))
                    · refine lawful m1 0 _ ?_ gg e1 f99 f101 e46
                      rw [bi_f]
                      intro z
                      rw [z, r2] at r1
                      injection r1 with r1
                      exact c245 r1.symm
                    · refine lawful m1 0 _ ?_ gg e1 f99 f101 e46
                      rw [bi_f]
                      intro z
                      rw [z, r2] at r1
                      injection r1 with r1
                      exact c245 r1.symm
                    · exfalso; omega
                  · refine t_i9 (dc kc_X12_putIn_3 12 rfl) (Nat.le_of_ble_eq_true rfl) rfl <| b_inc10 (dc kc_X12_putIn_3 13 rfl) rfl (Nat.le_of_ble_eq_true rfl) rfl (by first | omega | (simp [up] <;> omega)) (by first | omega | (simp [up] <;> omega)) <| s_goto (tgt := 217) (dc kc_X12_putIn_3 14 rfl) rfl <| ?_
                    refine ih3 hkk ?_
                    rw [tk _ _ r1, tk _ _ r2, htk, c245]
                · refine s_iload (dc kc_X12_putIn_2 34 rfl) rfl <| r_aload_n (dc kc_X12_putIn_2 35 rfl) rfl <| s_getI (dc kc_X12_putIn_2 36 rfl) fl_X12_515 <| s_icmp_ge (tgt := 261) (dc kc_X12_putIn_2 37 rfl) rfl (fun c223 => (?_)) (fun c223 => (?_))
                  · refine lawful m1 1 _ ?_ gg e1 f99 f101 e46
                    rw [bi_t]
                    have hk' : k = q.2.2.1.length := by omega
                    rw [hk', List.take_length, hlen, List.take_length] at htk
                    exact htk
                  · exfalso; omega
              refine r_aload_n (dc kc_X12_putIn_2 24 rfl) rfl <| s_getI (dc kc_X12_putIn_2 25 rfl) fl_X12_515 <| s_iload (dc kc_X12_putIn_2 26 rfl) rfl <| s_icmp_ne (tgt := 211) (dc kc_X12_putIn_2 27 rfl) rfl (fun c204 => (k_i (dc kc_X12_putIn_2 30 rfl) rfl <| t_i9 (dc kc_X12_putIn_2 31 rfl) (Nat.le_of_ble_eq_true rfl) rfl <| k_i (dc kc_X12_putIn_2 32 rfl) rfl <| t_i10 (dc kc_X12_putIn_2 33 rfl) (Nat.le_of_ble_eq_true rfl) rfl <| ?_)) (fun c204 => (k_i (dc kc_X12_putIn_2 28 rfl) rfl <| s_goto (tgt := 212) (dc kc_X12_putIn_2 29 rfl) rfl <| t_i9 (dc kc_X12_putIn_2 31 rfl) (Nat.le_of_ble_eq_true rfl) rfl <| k_i (dc kc_X12_putIn_2 32 rfl) rfl <| t_i10 (dc kc_X12_putIn_2 33 rfl) (Nat.le_of_ble_eq_true rfl) rfl <| ?_))
              · refine s_iload (dc kc_X12_putIn_2 34 rfl) rfl <| r_aload_n (dc kc_X12_putIn_2 35 rfl) rfl <| s_getI (dc kc_X12_putIn_2 36 rfl) fl_X12_515 <| s_icmp_ge (tgt := 261) (dc kc_X12_putIn_2 37 rfl) rfl (fun c223 => (?_)) (fun c223 => (s_iload (dc kc_X12_putIn_2 38 rfl) rfl <| s_if_eq (tgt := 261) (dc kc_X12_putIn_2 39 rfl) rfl (fun c228 => (?_)) (fun c228 => (?_))))
                · refine lawful m1 0 _ ?_ gg e1 f99 f101 e46
                  rw [bi_f]
                  intro z
                  rw [z] at e45
                  exact c204 e45
                · refine lawful m1 0 _ ?_ gg e1 f99 f101 e46
                  rw [bi_f]
                  intro z
                  rw [z] at e45
                  exact c204 e45
                · exfalso; omega
              · exact cmp (by omega) 0 (Nat.zero_le _) rfl
          · have : i = 11 := by omega
            subst this
            have := ih he m (vI ((11 : Nat) - 1 : Int)) x9 x10 g em e99 eA
            rw [cntC] at this
            refine s_iload (dc kc_X12_putIn_2 1 rfl) rfl <| k_b (dc kc_X12_putIn_2 2 rfl) rfl <| s_icmp_ge (tgt := 325) (dc kc_X12_putIn_2 3 rfl) rfl (fun c156 => (b_inc7 (dc kc_X12_putIn_4 7 rfl) rfl (Nat.le_of_ble_eq_true rfl) rfl (by first | omega | (simp [up] <;> omega)) (by first | omega | (simp [up] <;> omega)) <| s_goto (tgt := 142) (dc kc_X12_putIn_4 8 rfl) rfl <| ?_)) (fun c156 => (?_))
            · exact this
            · exfalso; omega
        refine s_iload (dc kc_X12_putIn_1 36 rfl) rfl <| k_b (dc kc_X12_putIn_1 37 rfl) rfl <| s_icmp_ge (tgt := 331) (dc kc_X12_putIn_1 38 rfl) rfl (fun c146 => (?_)) (fun c146 => (k_i (dc kc_X12_putIn_1 39 rfl) rfl <| t_i8 (dc kc_X12_putIn_2 0 rfl) (Nat.le_of_ble_eq_true rfl) rfl <| ?_))
        · exfalso; omega
        · have := inner 0 (Nat.zero_le _) m x9 x10 g em e99 eA
          rw [show cntV ρ x.toNat w c 0 = 0 from rfl, Int.add_zero, show ((0 : Nat) : Int) - 1 = -1 by decide] at this
          exact this
      · have : c = 24 := by omega
        subst this
        refine s_iload (dc kc_X12_putIn_1 36 rfl) rfl <| k_b (dc kc_X12_putIn_1 37 rfl) rfl <| s_icmp_ge (tgt := 331) (dc kc_X12_putIn_1 38 rfl) rfl (fun c146 => (s_iload (dc kc_X12_putIn_4 9 rfl) rfl <| s_ireturn (dc kc_X12_putIn_4 10 rfl) rfl (Nat.zero_le _) (Nat.zero_le _) ?_)) (fun c146 => (?_))
        · exact hQ2 c14.1 c14.2 c26.1 c26.2 c36 m g em
        · exfalso; omega
    -- payments without a fault are kept
    have keep : ∀ k : Nat, k ≤ P.2.2.1.length → ∀ (m : MI) (x7 x8 x9 x10 : V), Ch pU mi m → m 0 81 = P.1 → (∀ i, 0 ≤ i → i < 24 → m 0 99 i = ρ (30 + i)) → Arr (m 0 100) P.2.2.1 → m 0 80 45 = P.2.2.1.length → Arr (m 0 101) (P.2.2.1.take k) → Run (d+8) mt_X12_putIn Q (n, mr, 0, 0) m 102 [vR (some (0, 80)), vI x, vI w, vI (ρ 19), vI (P.2.2.1.length : Int), vI P.2.2.2, vI (k : Int), x7, x8, x9, x10] [] := by
      refine nloop ?_
      intro k hk ih m x7 x8 x9 x10 g em e99 eA e45 eB
      by_cases he : k < P.2.2.1.length
      · have r1 := eA k he
        refine s_iload (dc kc_X12_putIn_1 15 rfl) rfl <| r_aload_n (dc kc_X12_putIn_1 16 rfl) rfl <| s_getI (dc kc_X12_putIn_1 17 rfl) fl_X12_515 <| s_icmp_ge (tgt := 131) (dc kc_X12_putIn_1 18 rfl) rfl (fun c108 => (?_)) (fun c108 => (r_aload_n (dc kc_X12_putIn_1 19 rfl) rfl <| s_getA (dc kc_X12_putIn_1 20 rfl) fl_X12_76 (ly_80_47 hL) <| s_iload (dc kc_X12_putIn_1 21 rfl) rfl <| r_aload_n (dc kc_X12_putIn_1 22 rfl) rfl <| s_getA (dc kc_X12_putIn_1 23 rfl) fl_X12_73 (ly_80_44 hL) <| s_iload (dc kc_X12_putIn_1 24 rfl) rfl <| s_iaload (dc kc_X12_putIn_1 25 rfl) rfl (by first | omega | (simp [up] <;> omega)) (by first | omega | (simp [up] <;> omega)) <| s_iastore (dc kc_X12_putIn_1 26 rfl) rfl (by first | omega | (simp [up] <;> omega)) (by first | omega | (simp [up] <;> omega)) <| b_inc6 (dc kc_X12_putIn_1 27 rfl) rfl (Nat.le_of_ble_eq_true rfl) rfl (by first | omega | (simp [up] <;> omega)) (by first | omega | (simp [up] <;> omega)) <| s_goto (tgt := 102) (dc kc_X12_putIn_1 28 rfl) rfl <| ?_))
        · exfalso; omega
        · refine ih he _ _ _ _ _ (g.up rfl) (by rw [up_j (by decide), em]) (by rw [up_j (by decide)]; exact e99) (by rw [up_j (by decide)]; exact eA) (by rw [up_j (by decide), e45]) ?_
          have hl : (P.2.2.1.take k).length = k := by rw [List.length_take]; omega
          have := eB.snoc (v := m 0 100 k)
          rw [hl] at this
          rw [up_ud, List.take_add_one, r1]
          exact this
      · refine s_iload (dc kc_X12_putIn_1 15 rfl) rfl <| r_aload_n (dc kc_X12_putIn_1 16 rfl) rfl <| s_getI (dc kc_X12_putIn_1 17 rfl) fl_X12_515 <| s_icmp_ge (tgt := 131) (dc kc_X12_putIn_1 18 rfl) rfl (fun c108 => (r_aload_n (dc kc_X12_putIn_1 29 rfl) rfl <| s_iload_n (dc kc_X12_putIn_1 30 rfl) rfl <| c_v1 (dc kc_X12_putIn_1 31 rfl) cl_X12_524 rfl (Nat.le_of_ble_eq_true rfl) (Nat.zero_le _) (Nat.zero_le _) ?_)) (fun c108 => (?_))
        · refine t_putPaper hL (fun m3 g3 e3 => ?_)
          refine k_i (dc kc_X12_putIn_1 32 rfl) rfl <| t_i6 (dc kc_X12_putIn_1 33 rfl) (Nat.le_of_ble_eq_true rfl) rfl <| k_i (dc kc_X12_putIn_1 34 rfl) rfl <| t_i7 (dc kc_X12_putIn_1 35 rfl) (Nat.le_of_ble_eq_true rfl) rfl <| ?_
          have hback : m3 0 81 = ρ := by
            rw [e3, em]
            exact pap_back hPx.2.1 e99
          have := main 0 (Nat.zero_le _) m3 x8 x9 x10 (g.tr (g3.mono (fun _ _ z => by simp [p81, pU] at z ⊢; omega))) hback (by rw [g3.row (fun _ => rfl)]; exact e99) (by rw [g3.row (fun _ => rfl)]; rw [show k = P.2.2.1.length by omega, List.take_length] at eB; exact eB)
          exact this
        · exfalso; omega
    have fill : ∀ i : Nat, i ≤ 24 → ∀ (m : MI) (x5 x6 x7 x8 x9 x10 : V), Ch pU mi m → m 0 81 = ρ → (∀ k, 0 ≤ k → k < (i : Int) → m 0 99 k = ρ (30 + k)) → Run (d+8) mt_X12_putIn Q (n, mr, 0, 0) m 52 [vR (some (0, 80)), vI x, vI w, vI (ρ 19), vI (i : Int), x5, x6, x7, x8, x9, x10] [] := by
      refine nloop ?_
      intro i hi ih m x5 x6 x7 x8 x9 x10 g em e99
      by_cases he : i < 24
      · refine s_iload (dc kc_X12_putIn_0 29 rfl) rfl <| k_b (dc kc_X12_putIn_0 30 rfl) rfl <| s_icmp_ge (tgt := 82) (dc kc_X12_putIn_0 31 rfl) rfl (fun c56 => (?_)) (fun c56 => (r_aload_n (dc kc_X12_putIn_0 32 rfl) rfl <| s_getA (dc kc_X12_putIn_0 33 rfl) fl_X12_70 (ly_80_43 hL) <| s_iload (dc kc_X12_putIn_0 34 rfl) rfl <| r_aload_n (dc kc_X12_putIn_0 35 rfl) rfl <| s_getA (dc kc_X12_putIn_0 36 rfl) fl_X12_7 (ly_80_2 hL) <| k_b (dc kc_X12_putIn_0 37 rfl) rfl <| s_iload (dc kc_X12_putIn_0 38 rfl) rfl <| b_iadd (dc kc_X12_putIn_0 39 rfl) (by first | omega | (simp [up] <;> omega)) (by first | omega | (simp [up] <;> omega)) <| s_iaload (dc kc_X12_putIn_1 0 rfl) rfl (by first | omega | (simp [up] <;> omega)) (by first | omega | (simp [up] <;> omega)) <| s_iastore (dc kc_X12_putIn_1 1 rfl) rfl (by first | omega | (simp [up] <;> omega)) (by first | omega | (simp [up] <;> omega)) <| b_inc4 (dc kc_X12_putIn_1 2 rfl) rfl (Nat.le_of_ble_eq_true rfl) rfl (by first | omega | (simp [up] <;> omega)) (by first | omega | (simp [up] <;> omega)) <| s_goto (tgt := 52) (dc kc_X12_putIn_1 3 rfl) rfl <| ?_))
        · exfalso; omega
        · refine ih he _ _ _ _ _ _ _ (g.up rfl) (by rw [up_j (by decide), em]) (fun k a b => ?_)
          rw [up_ud, em]
          by_cases e : k = i
          · rw [e, ud_at]
          · rw [ud_ne e]; exact e99 k a (by omega)
      · have : i = 24 := by omega
        subst this
        refine s_iload (dc kc_X12_putIn_0 29 rfl) rfl <| k_b (dc kc_X12_putIn_0 30 rfl) rfl <| s_icmp_ge (tgt := 82) (dc kc_X12_putIn_0 31 rfl) rfl (fun c56 => (r_aload_n (dc kc_X12_putIn_1 4 rfl) rfl <| s_iload_n (dc kc_X12_putIn_1 5 rfl) rfl <| c_v1 (dc kc_X12_putIn_1 6 rfl) cl_X12_521 rfl (Nat.le_of_ble_eq_true rfl) (Nat.zero_le _) (Nat.zero_le _) ?_)) (fun c56 => (?_))
        · refine t_goOn hL (by omega) (by omega) (by rw [em]; exact hV) (by rw [em]; exact ⟨h7.1, h7'⟩) (by rw [em]; omega) (by rw [em]; exact h8) (by rw [em]; exact hln) (fun m1 g1 e1 eA1 e45 e46 => ?_)
          rw [em, hP] at e1 eA1 e45 e46
          refine r_aload_n (dc kc_X12_putIn_1 7 rfl) rfl <| s_getI (dc kc_X12_putIn_1 8 rfl) fl_X12_515 <| t_i4 (dc kc_X12_putIn_1 9 rfl) (Nat.le_of_ble_eq_true rfl) rfl <| r_aload_n (dc kc_X12_putIn_1 10 rfl) rfl <| s_getI (dc kc_X12_putIn_1 11 rfl) fl_X12_518 <| t_i5 (dc kc_X12_putIn_1 12 rfl) (Nat.le_of_ble_eq_true rfl) rfl <| k_i (dc kc_X12_putIn_1 13 rfl) rfl <| t_i6 (dc kc_X12_putIn_1 14 rfl) (Nat.le_of_ble_eq_true rfl) rfl <| ?_
          rw [e45, e46]
          exact keep 0 (Nat.zero_le _) m1 _ _ _ _ (g.tr (g1.mono (fun _ _ z => by simp [pO, pU] at z ⊢; omega))) e1 (by rw [g1.row (fun _ => rfl)]; exact e99) eA1 e45 Arr.nil
        · exfalso; omega
    have e19 : m0 0 81 19 = ρ 19 := by rw [e81]
    refine r_aload_n (dc kc_X12_putIn_0 22 rfl) rfl <| s_getA (dc kc_X12_putIn_0 23 rfl) fl_X12_7 (ly_80_2 hL) <| k_b (dc kc_X12_putIn_0 24 rfl) rfl <| s_iaload (dc kc_X12_putIn_0 25 rfl) rfl (by first | omega | (simp [up] <;> omega)) (by first | omega | (simp [up] <;> omega)) <| t_i3 (dc kc_X12_putIn_0 26 rfl) (Nat.le_of_ble_eq_true rfl) rfl <| k_i (dc kc_X12_putIn_0 27 rfl) rfl <| t_i4 (dc kc_X12_putIn_0 28 rfl) (Nat.le_of_ble_eq_true rfl) rfl <| ?_
    rw [e19]
    exact fill 0 (Nat.zero_le _) m0 _ _ _ _ _ _ g0 e81 (fun k a b => by omega)
  · rw [e17] at c36
    exact hQ1 (fun z => z.2.2 c36) _ (Ch.rf.up rfl)
end PUI
