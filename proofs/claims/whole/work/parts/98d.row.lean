/-! the class: row -/
def pRw (g a b : Nat) (k : Int) : Bool := pFl g a b k || (a == 0 && b == 0 && k == 1)
theorem rowF_Inv {B : Int} {t : Int → Int} {c : Int} {ρ : Int → Int} (h : Inv B ρ) (hc : 0 ≤ c) : ∀ i : Nat, c + i ≤ 24 → Inv B (rowF t c ρ i).1
  | 0, _ => h
  | i + 1, hi => by
    have ih := rowF_Inv (t := t) h hc i (by omega)
    rw [rowF]
    generalize (if t i = 255 then -1 else t i) = v
    split
    · rename_i hb
      exact Inv_flipR ih (by omega) (by omega) hb
    · exact ih
section CRW
variable {d n G : Nat} {mr : MR} {Q : V → MI → Nat → MR → Prop}
theorem u_crow (hL : Lay G mr) {mi : MI} {g : Nat} {ρ : Int → Int} {B c : Int} (hnow : mr 0 0 4 = some (g, 5)) (hg : g < G) (hR : Rep (-1) mi g ρ) (hI : Inv B ρ) (h0 : 0 ≤ mi 0 0 1) (h1 : mi 0 0 1 ≤ 400)
    (hQ1 : ¬ (0 ≤ c ∧ c ≤ 23) → Q (vI (-1)) (up (up mi 0 0 1 0) 0 0 3 (-1)) n mr)
    (hQ2 : 0 ≤ c → c ≤ 23 → (mi 0 0 1 = 0 ∨ 24 < c + mi 0 0 1) → Q (vI (-6)) (up (up mi 0 0 1 0) 0 0 3 (-6)) n mr)
    (hQ3 : 0 ≤ c → c ≤ 23 → mi 0 0 1 ≠ 0 → c + mi 0 0 1 ≤ 24 → ∀ mi', Cg (pRw g) mi mi' → mi' 0 0 1 = 0 → mi' 0 0 3 = 0 → mi' 0 60 3 = -1 → mi' 0 70 10 = 0 → Rep (-1) mi' g (rowF (mi 0 1) c ρ (mi 0 0 1).toNat).1 → Q (vI (rowF (mi 0 1) c ρ (mi 0 0 1).toNat).2) mi' n mr) : Tx (d+6) mt_X11_row [vR (some (0, 0)), vI c] mi n mr Q := by
  have hok : okI G 5 g := hg
  refine tx_intro (ls := [vR (some (0, 0)), vI c, vX 0, vX 0, vX 0, vX 0]) om_X11_row rfl (Nat.le_of_ble_eq_true rfl) ?_
  refine r_aload_n (dc kc_X11_row_0 0 rfl) rfl <| s_getI (dc kc_X11_row_0 1 rfl) fl_X11_13 <| t_i2 (dc kc_X11_row_0 2 rfl) (Nat.le_of_ble_eq_true rfl) rfl <| r_aload_n (dc kc_X11_row_0 3 rfl) rfl <| k_i (dc kc_X11_row_0 4 rfl) rfl <| s_putI (dc kc_X11_row_0 5 rfl) fl_X11_13 <| s_iload_n (dc kc_X11_row_0 6 rfl) rfl <| c_s1r (dc kc_X11_row_0 7 rfl) cl_X11_169 rfl (Nat.le_of_ble_eq_true rfl) (Nat.zero_le _) (Nat.zero_le _) <| u_isCell <| s_if_neb (tgt := 23) (dc kc_X11_row_0 8 rfl) rfl (fun c14 => (s_iload_n (dc kc_X11_row_0 13 rfl) rfl <| s_if_eq (tgt := 35) (dc kc_X11_row_0 14 rfl) rfl (fun c24 => (r_aload_n (dc kc_X11_row_0 20 rfl) rfl <| k_b (dc kc_X11_row_0 21 rfl) rfl <| c_v1r (dc kc_X11_row_0 22 rfl) cl_X11_80 rfl (Nat.le_of_ble_eq_true rfl) (Nat.zero_le _) (Nat.zero_le _) <| u_refuse <| s_ireturn (dc kc_X11_row_0 23 rfl) rfl (Nat.zero_le _) (Nat.zero_le _) ?_)) (fun c24 => (s_iload_n (dc kc_X11_row_0 15 rfl) rfl <| k_b (dc kc_X11_row_0 16 rfl) rfl <| s_iload_n (dc kc_X11_row_0 17 rfl) rfl <| b_isub (dc kc_X11_row_0 18 rfl) (by first | omega | (simp [up] <;> omega)) (by first | omega | (simp [up] <;> omega)) <| s_icmp_le (tgt := 42) (dc kc_X11_row_0 19 rfl) rfl (fun c32 => (?_)) (fun c32 => (r_aload_n (dc kc_X11_row_0 20 rfl) rfl <| k_b (dc kc_X11_row_0 21 rfl) rfl <| c_v1r (dc kc_X11_row_0 22 rfl) cl_X11_80 rfl (Nat.le_of_ble_eq_true rfl) (Nat.zero_le _) (Nat.zero_le _) <| u_refuse <| s_ireturn (dc kc_X11_row_0 23 rfl) rfl (Nat.zero_le _) (Nat.zero_le _) ?_)))))) (fun c14 => (r_aload_n (dc kc_X11_row_0 9 rfl) rfl <| k_i (dc kc_X11_row_0 10 rfl) rfl <| c_v1r (dc kc_X11_row_0 11 rfl) cl_X11_80 rfl (Nat.le_of_ble_eq_true rfl) (Nat.zero_le _) (Nat.zero_le _) <| u_refuse <| s_ireturn (dc kc_X11_row_0 12 rfl) rfl (Nat.zero_le _) (Nat.zero_le _) ?_))
  · exact hQ2 (by omega) (by omega) (by omega)
  · have loop : ∀ i : Nat, i ≤ (mi 0 0 1).toNat → ∀ (m : MI) (x5 : V), Cg (pRw g) mi m → m 0 0 1 = 0 → Rep (-1) m g (rowF (mi 0 1) c ρ i).1 → Run (d+6) mt_X11_row Q (n, mr, 0, 0) m 47 [vR (some (0, 0)), vI c, vI (mi 0 0 1), vI (rowF (mi 0 1) c ρ i).2, vI (i : Int), x5] [] := by
      refine nloop ?_
      intro i hi ih m x5 gm e1 hRm
      have hn := rowF_n (t := mi 0 1) (c := c) (ρ := ρ) i
      have e01 : m 0 1 = mi 0 1 := gm.row (fun k => by simp [pRw, pFl, pSt, pJ])
      by_cases he : (i : Int) < mi 0 0 1
      · have ih := ih (by omega)
        have hIi := rowF_Inv (t := mi 0 1) hI (by omega : 0 ≤ c) i (by omega)
        rw [rowF] at ih
        generalize rowF (mi 0 1) c ρ i = q at *
        have e60 := hRm.2.2.2.2.2.2.1 0 (by decide) (by decide) (by decide)
        have body : ∀ v, v = (if mi 0 1 i = 255 then -1 else mi 0 1 i) → Run (d+6) mt_X11_row Q (n, mr, 0, 0) m 77 [vR (some (0, 0)), vI c, vI (mi 0 0 1), vI q.2, vI (i : Int), x5] [vI v] := by
          intro v hv
          rw [← hv] at ih
          refine t_i5 (dc kc_X11_row_1 3 rfl) (Nat.le_of_ble_eq_true rfl) rfl <| s_iload_n (dc kc_X11_row_1 4 rfl) rfl <| s_iload (dc kc_X11_row_1 5 rfl) rfl <| b_iadd (dc kc_X11_row_1 6 rfl) (by first | omega | (simp [up] <;> omega)) (by first | omega | (simp [up] <;> omega)) <| s_iload (dc kc_X11_row_1 7 rfl) rfl <| c_s2r (dc kc_X11_row_1 8 rfl) cl_X11_185 rfl (Nat.le_of_ble_eq_true rfl) (Nat.zero_le _) (Nat.zero_le _) <| u_canBe (by first | omega | (simp [up] <;> omega)) <| s_if_eq (tgt := 116) (dc kc_X11_row_1 9 rfl) rfl (fun c88 => (?_)) (fun c88 => (?_))
          · have hb : ¬ biC (c + i) v = 1 := by omega
            rw [if_neg hb] at ih
            refine b_inc4 (dc kc_X11_row_1 23 rfl) rfl (Nat.le_of_ble_eq_true rfl) rfl (by first | omega | (simp [up] <;> omega)) (by first | omega | (simp [up] <;> omega)) <| s_goto (tgt := 47) (dc kc_X11_row_1 24 rfl) rfl <| ?_
            exact ih m _ gm e1 hRm
          · have hb : biC (c + i) v = 1 := by have := biC_01 (c := c + i) (v := v); omega
            rw [if_pos hb] at ih
            refine r_aload_n (dc kc_X11_row_1 10 rfl) rfl <| s_getO (dc kc_X11_row_1 11 rfl) fl_X11_26 hnow <| r_aload_n (dc kc_X11_row_1 12 rfl) rfl <| s_getO (dc kc_X11_row_1 13 rfl) fl_X11_26 hnow <| s_getA (dc kc_X11_row_1 14 rfl) fl_X11_118 (ly_5_5 hL (by assumption)) <| k_i (dc kc_X11_row_1 15 rfl) rfl <| s_iaload (dc kc_X11_row_1 16 rfl) rfl (by first | omega | (simp [up] <;> omega)) (by first | omega | (simp [up] <;> omega)) <| s_iload_n (dc kc_X11_row_1 17 rfl) rfl <| s_iload (dc kc_X11_row_1 18 rfl) rfl <| b_iadd (dc kc_X11_row_1 19 rfl) (by first | omega | (simp [up] <;> omega)) (by first | omega | (simp [up] <;> omega)) <| s_iload (dc kc_X11_row_1 20 rfl) rfl <| c_v3 (dc kc_X11_row_1 21 rfl) cl_X11_189 rfl (Nat.le_of_ble_eq_true rfl) (Nat.zero_le _) (Nat.zero_le _) ?_
            refine u_flipTo hL hg hRm hIi.2.1 hIi.wf hIi.1.2.2.2.1 hIi.2.2.1.2.2.2.2.2.2.2.2.2 (by omega) (by omega) e60 (fun m2 g2 hR2 => ?_)
            refine b_inc3 (dc kc_X11_row_1 22 rfl) rfl (Nat.le_of_ble_eq_true rfl) rfl (by first | omega | (simp [up] <;> omega)) (by first | omega | (simp [up] <;> omega)) <| b_inc4 (dc kc_X11_row_1 23 rfl) rfl (Nat.le_of_ble_eq_true rfl) rfl (by first | omega | (simp [up] <;> omega)) (by first | omega | (simp [up] <;> omega)) <| s_goto (tgt := 47) (dc kc_X11_row_1 24 rfl) rfl <| ?_
            exact ih m2 _ (gm.tr (g2.mono (fun a b k z => by simp [pRw, pFl, z]))) (by rw [g2.at (by simp [pSt, pJ]), e1]) hR2
        refine s_iload (dc kc_X11_row_0 28 rfl) rfl <| s_iload_n (dc kc_X11_row_0 29 rfl) rfl <| s_icmp_ge (tgt := 122) (dc kc_X11_row_0 30 rfl) rfl (fun c50 => (?_)) (fun c50 => (r_aload_n (dc kc_X11_row_0 31 rfl) rfl <| s_getA (dc kc_X11_row_0 32 rfl) fl_X11_9 (ly_0_0 hL) <| s_iload (dc kc_X11_row_0 33 rfl) rfl <| s_iaload (dc kc_X11_row_0 34 rfl) rfl (by first | omega | (simp [up] <;> omega)) (by first | omega | (simp [up] <;> omega)) <| k_s (dc kc_X11_row_0 35 rfl) rfl <| s_icmp_ne (tgt := 70) (dc kc_X11_row_0 36 rfl) rfl (fun c63 => (r_aload_n (dc kc_X11_row_0 39 rfl) rfl <| s_getA (dc kc_X11_row_1 0 rfl) fl_X11_9 (ly_0_0 hL) <| s_iload (dc kc_X11_row_1 1 rfl) rfl <| s_iaload (dc kc_X11_row_1 2 rfl) rfl (by first | omega | (simp [up] <;> omega)) (by first | omega | (simp [up] <;> omega)) <| ?_)) (fun c63 => (k_i (dc kc_X11_row_0 37 rfl) rfl <| s_goto (tgt := 77) (dc kc_X11_row_0 38 rfl) rfl <| ?_))))
        · exfalso; omega
        · rw [e01]; rw [e01] at c63
          exact body _ (by rw [if_neg c63])
        · rw [e01] at c63
          exact body _ (by rw [if_pos c63])
      · have hi' : i = (mi 0 0 1).toNat := by omega
        subst hi'
        refine s_iload (dc kc_X11_row_0 28 rfl) rfl <| s_iload_n (dc kc_X11_row_0 29 rfl) rfl <| s_icmp_ge (tgt := 122) (dc kc_X11_row_0 30 rfl) rfl (fun c50 => (r_aload_n (dc kc_X11_row_1 25 rfl) rfl <| c_v0 (dc kc_X11_row_1 26 rfl) cl_X11_106 rfl (Nat.le_of_ble_eq_true rfl) (Nat.zero_le _) (Nat.zero_le _) <| u_changed hL <| r_aload_n (dc kc_X11_row_1 27 rfl) rfl <| s_iload_n (dc kc_X11_row_1 28 rfl) rfl <| c_v1r (dc kc_X11_row_1 29 rfl) cl_X11_112 rfl (Nat.le_of_ble_eq_true rfl) (Nat.zero_le _) (Nat.zero_le _) <| u_answer <| s_ireturn (dc kc_X11_row_1 30 rfl) rfl (Nat.zero_le _) (Nat.zero_le _) ?_)) (fun c50 => (?_))
        · refine hQ3 (by omega) (by omega) (by omega) (by omega) _ (((gm.up (by simp [pRw, pFl])).up (by simp [pRw, pFl])).up (by simp [pRw, pFl])) (by rw [up_k (by decide), up_j (by decide), up_j (by decide), e1]) up_at (by rw [up_j (by decide), up_j (by decide), up_at]) (by rw [up_j (by decide), up_at]) (hRm.far (fun a b h1 h2 => by rw [up_j (by omega), up_j (by omega), up_j (by omega)]))
        · exfalso; omega
    refine k_i (dc kc_X11_row_0 24 rfl) rfl <| t_i3 (dc kc_X11_row_0 25 rfl) (Nat.le_of_ble_eq_true rfl) rfl <| k_i (dc kc_X11_row_0 26 rfl) rfl <| t_i4 (dc kc_X11_row_0 27 rfl) (Nat.le_of_ble_eq_true rfl) rfl <| ?_
    exact loop 0 (Nat.zero_le _) _ _ (Cg.rf.up (by simp [pRw])) up_at (hR.far (fun a b h1 h2 => up_j (by omega)))
  · exact hQ2 (by omega) (by omega) (by omega)
  · exact hQ1 (fun z => by omega)
end CRW
