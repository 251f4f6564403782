/-! the class: a text compiled, behind its scan -/
def pKc (a b : Nat) (_ : Int) : Bool := (a == 0 && (decide (45 ≤ b) && decide (b ≤ 49))) || (a == 20 && (decide (20 ≤ b) && decide (b ≤ 27)))
theorem pKr_c {B R : Int} {a b : Nat} {k : Int} (h : pKr B R a b k = true) : pKc a b k = true := by
  simp [pKr, pKc] at h ⊢
  omega
def appR (L : List RowT) (r : Int ⊕ List RowT) : Int ⊕ List RowT := match r with
  | .inl p => .inl p
  | .inr L' => .inr (L ++ L')
theorem appR_2 {L : List RowT} {q : RowT} {r : Int ⊕ List RowT} : appR L (match r with | .inl p => .inl p | .inr L' => .inr (q :: L')) = appR (L ++ [q]) r := by
  cases r with
  | inl p => rfl
  | inr L' => show Sum.inr (L ++ q :: L') = Sum.inr (L ++ [q] ++ L'); simp
section CML
variable {d n G : Nat} {mr : MR} {Q : V → MI → Nat → MR → Prop} {tk nu nx : Int → Int} {N o : Int}
theorem u_fail0 (hL : Lay G mr) {mi : MI} (h0 : 0 ≤ mi 0 45 7) (h1 : mi 0 45 7 < 401) (hQ : ∀ mi', Cg (fun a b k => a == 0 && b == 45 && (k == 6 || k == 9 || k == 12)) mi mi' → mi' 0 45 12 = (if mi 0 45 12 = -1 then mi 0 48 (mi 0 45 7) else mi 0 45 12) → Q (vX 0) mi' n mr) : Tx (d+1) mt_X0_fail [vR (some (0, 45))] mi n mr Q := by
  refine tx_intro (ls := [vR (some (0, 45))]) om_X0_fail rfl (Nat.le_of_ble_eq_true rfl) ?_
  refine r_aload_n (dc kc_X0_fail 0 rfl) rfl <| s_getI (dc kc_X0_fail 1 rfl) fl_X0_54 <| k_i (dc kc_X0_fail 2 rfl) rfl <| s_icmp_ne (tgt := 21) (dc kc_X0_fail 3 rfl) rfl (fun c5 => (r_aload_n (dc kc_X0_fail 11 rfl) rfl <| k_b (dc kc_X0_fail 12 rfl) rfl <| s_putI (dc kc_X0_fail 13 rfl) fl_X0_36 <| r_aload_n (dc kc_X0_fail 14 rfl) rfl <| k_i (dc kc_X0_fail 15 rfl) rfl <| s_putI (dc kc_X0_fail 16 rfl) fl_X0_45 <| s_return (dc kc_X0_fail 17 rfl) rfl (Nat.zero_le _) (Nat.zero_le _) ?_)) (fun c5 => (r_aload_n (dc kc_X0_fail 4 rfl) rfl <| r_aload_n (dc kc_X0_fail 5 rfl) rfl <| s_getA (dc kc_X0_fail 6 rfl) fl_X0_29 (ly_45_4 hL) <| r_aload_n (dc kc_X0_fail 7 rfl) rfl <| s_getI (dc kc_X0_fail 8 rfl) fl_X0_39 <| s_iaload (dc kc_X0_fail 9 rfl) rfl (by first | omega | (simp [up] <;> omega)) (by first | omega | (simp [up] <;> omega)) <| s_putI (dc kc_X0_fail 10 rfl) fl_X0_54 <| r_aload_n (dc kc_X0_fail 11 rfl) rfl <| k_b (dc kc_X0_fail 12 rfl) rfl <| s_putI (dc kc_X0_fail 13 rfl) fl_X0_36 <| r_aload_n (dc kc_X0_fail 14 rfl) rfl <| k_i (dc kc_X0_fail 15 rfl) rfl <| s_putI (dc kc_X0_fail 16 rfl) fl_X0_45 <| s_return (dc kc_X0_fail 17 rfl) rfl (Nat.zero_le _) (Nat.zero_le _) ?_))
  · refine hQ _ ((Cg.rf.up (by simp)).up (by simp)) ?_
    rw [if_neg (by omega)]; simp [up]
  · refine hQ _ (((Cg.rf.up (by simp)).up (by simp)).up (by simp)) ?_
    rw [if_pos (by omega)]; simp [up]
theorem u_cloop (hL : Lay G mr) {mi : MI} {f0 x3 : Int} {x1 x2 : V} {F : Int → MS} (hF : F = finR tk nu nx o) (hT : TkE N tk nu nx) (hK : CK tk nu nx N mi) (hCB : CB tk mi f0 0 0) (hN : N ≤ 400) (ho : mi 0 45 1 = o) (ho1 : o = 0 ∨ o = 1)
    (hQ1 : ∀ p, cmpG F tk nx 12 f0 = .inl p → 0 ≤ p → ∀ mi', Cg pKc mi mi' → Q (vI p) mi' n mr)
    (hQ2 : ∀ L, cmpG F tk nx 12 f0 = .inr L → ∀ mi', Cg pKc mi mi' → Rws mi' L → mi' 20 20 0 = L.length → mi' 20 20 1 = sml L → L.length ≤ 12 → sml L ≤ 400 → Q (vI (-1)) mi' n mr) : Run (d+7) mt_X0_compile Q (n, mr, 0, 0) mi 39 [vR (some (0, 45)), x1, x2, vI x3, vI 1, vI 0] [] := by
  generalize hT0 : cmpG F tk nx 12 f0 = T0 at *
  -- a fault at the end
  have bad : ∀ (m : MI) (mo i p : Int), Cg pKc mi m → 0 ≤ m 0 45 7 → m 0 45 7 < 401 → (if m 0 45 12 = -1 then m 0 48 (m 0 45 7) else m 0 45 12) = p → 0 ≤ p → T0 = .inl p → Run (d+7) mt_X0_compile Q (n, mr, 0, 0) m 106 [vR (some (0, 45)), x1, x2, vI x3, vI mo, vI i] [] := by
    intro m mo i p gm h0 h1 hp hp0 hc
    refine r_aload_n (dc kc_X0_compile_1 14 rfl) rfl <| c_v0 (dc kc_X0_compile_1 15 rfl) cl_X0_77 rfl (Nat.le_of_ble_eq_true rfl) (Nat.zero_le _) (Nat.zero_le _) ?_
    refine u_fail0 hL h0 h1 (fun m2 g2 e2 => ?_)
    refine r_aload_n (dc kc_X0_compile_1 16 rfl) rfl <| s_getI (dc kc_X0_compile_1 17 rfl) fl_X0_54 <| s_ireturn (dc kc_X0_compile_1 18 rfl) rfl (Nat.zero_le _) (Nat.zero_le _) ?_
    rw [e2, hp]
    exact hQ1 p hc hp0 m2 (gm.tr (g2.mono (fun a b k z => by simp [pKc] at z ⊢; omega)))
  have loop : ∀ i : Nat, i ≤ 12 → ∀ (m : MI) (f : Int) (L : List RowT), Cg pKc mi m → CK tk nu nx N m → CB tk m f (sml L) i → Rws m L → L.length = i → sml L ≤ f → m 0 45 1 = o → T0 = appR L (cmpG F tk nx (12 - i) f) → Run (d+7) mt_X0_compile Q (n, mr, 0, 0) m 39 [vR (some (0, 45)), x1, x2, vI x3, vI 1, vI (i : Int)] [] := by
    refine nloop ?_
    intro i hi ih m f L gm hKm hCBm hRws hlen hsml hom hcmp
    have hs0 := sml_0 L
    obtain ⟨⟨a1, a2, a3⟩, a4, a5, a6, a7⟩ := id hCBm
    have k401 := hKm.1.2
    by_cases hlt : i < 12
    · refine s_iload (dc kc_X0_compile_0 23 rfl) rfl <| k_b (dc kc_X0_compile_0 24 rfl) rfl <| s_icmp_ge (tgt := 92) (dc kc_X0_compile_0 25 rfl) rfl (fun c43 => (?_)) (fun c43 => (s_iload (dc kc_X0_compile_0 26 rfl) rfl <| s_if_eq (tgt := 92) (dc kc_X0_compile_0 27 rfl) rfl (fun c48 => (?_)) (fun c48 => (?_))))
      · exfalso; omega
      · exfalso; omega
      · refine r_aload_n (dc kc_X0_compile_0 28 rfl) rfl <| c_v0 (dc kc_X0_compile_0 29 rfl) cl_X0_74 rfl (Nat.le_of_ble_eq_true rfl) (Nat.zero_le _) (Nat.zero_le _) ?_
        refine u_compileRow' hL hT hKm hCBm hN ⟨by omega, by omega⟩ ⟨hs0, hsml⟩ hom ho1 (fun s hs m1 g1 hC1 c1 hG1 hrow => ?_)
        have hsF : F f = s := by rw [hs, hF]
        clear hs
        rw [show 12 - i = (12 - (i + 1)) + 1 by omega, cmpG, hsF] at hcmp
        obtain ⟨⟨b1, b2, b3⟩, b4, b5, b6, b7, b8, b9⟩ := hC1
        have gm1 : Cg pKc mi m1 := gm.tr (g1.mono (fun a b k z => pKr_c z))
        have hK1 : CK tk nu nx N m1 := hKm.mv g1
        have k401' := hK1.1.2
        have hfp : 0 ≤ s.1 ∧ s.1 ≤ N := hG1.1
        have hfl : -1 ≤ flt s ∧ flt s ≤ N := hG1.2.2.2.2.2.2.1
        -- the row ends without a next one
        have stop : m1 0 45 6 ≠ 91 → Run (d+7) mt_X0_compile Q (n, mr, 0, 0) m1 92 [vR (some (0, 45)), x1, x2, vI x3, vI 0, vI (i + 1 : Int)] [] := fun h91 => by
          by_cases hd : flt s = -1
          · have hmt : m1 0 45 6 = tk s.1 := by rw [b4]; exact if_pos hd
            rw [if_neg (fun z => z hd), if_neg (by omega)] at hcmp
            by_cases h23 : tk s.1 = 23
            · rw [if_pos h23] at hcmp
              obtain ⟨r1, r2⟩ := hrow hd
              refine s_iload (dc kc_X0_compile_1 8 rfl) rfl <| s_if_ne (tgt := 106) (dc kc_X0_compile_1 9 rfl) rfl (fun c94 => (?_)) (fun c94 => (r_aload_n (dc kc_X0_compile_1 10 rfl) rfl <| s_getI (dc kc_X0_compile_1 11 rfl) fl_X0_36 <| k_b (dc kc_X0_compile_1 12 rfl) rfl <| s_icmp_eq (tgt := 110) (dc kc_X0_compile_1 13 rfl) rfl (fun c103 => (?_)) (fun c103 => (?_))))
              · exfalso; omega
              · refine r_aload_n (dc kc_X0_compile_1 16 rfl) rfl <| s_getI (dc kc_X0_compile_1 17 rfl) fl_X0_54 <| s_ireturn (dc kc_X0_compile_1 18 rfl) rfl (Nat.zero_le _) (Nat.zero_le _) ?_
                rw [b7, hd]
                exact hQ2 (L ++ [rwS s]) hcmp m1 gm1 ((hRws.mv g1 (Int.le_refl _) (by omega)).snoc (by rw [hlen]; exact r2)) (by rw [c1, List.length_append, List.length_singleton, hlen]; omega) (by rw [r1, sml_app]) (by rw [List.length_append, List.length_singleton]; omega) (by
                  rw [sml_app]
                  have hgl := (hG1.2.2.2.2.2.2.2 hd).1
                  have hce := cE_0 (stk s)
                  have : sml L + rlen (rwS s) + cE (stk s) ≤ s.1 := hgl
                  omega)
              · exfalso; omega
            · rw [if_neg h23] at hcmp
              refine s_iload (dc kc_X0_compile_1 8 rfl) rfl <| s_if_ne (tgt := 106) (dc kc_X0_compile_1 9 rfl) rfl (fun c94 => (?_)) (fun c94 => (r_aload_n (dc kc_X0_compile_1 10 rfl) rfl <| s_getI (dc kc_X0_compile_1 11 rfl) fl_X0_36 <| k_b (dc kc_X0_compile_1 12 rfl) rfl <| s_icmp_eq (tgt := 110) (dc kc_X0_compile_1 13 rfl) rfl (fun c103 => (?_)) (fun c103 => (?_))))
              · exfalso; omega
              · exfalso; omega
              · exact bad m1 _ _ s.1 gm1 b1 (by omega) (by rw [b7, if_pos hd]; exact b3) hfp.1 hcmp
          · have hmt : m1 0 45 6 = 24 := by rw [b4]; exact if_neg hd
            rw [if_pos hd] at hcmp
            refine s_iload (dc kc_X0_compile_1 8 rfl) rfl <| s_if_ne (tgt := 106) (dc kc_X0_compile_1 9 rfl) rfl (fun c94 => (?_)) (fun c94 => (r_aload_n (dc kc_X0_compile_1 10 rfl) rfl <| s_getI (dc kc_X0_compile_1 11 rfl) fl_X0_36 <| k_b (dc kc_X0_compile_1 12 rfl) rfl <| s_icmp_eq (tgt := 110) (dc kc_X0_compile_1 13 rfl) rfl (fun c103 => (?_)) (fun c103 => (?_))))
            · exfalso; omega
            · exfalso; omega
            · exact bad m1 _ _ (flt s) gm1 b1 (by omega) (by rw [b7, if_neg hd]) (by omega) hcmp
        have e5 : m1 0 45 5 = m1 0 45 5 := rfl
        by_cases h91 : m1 0 45 6 = 91
        · have hd : flt s = -1 := by
            by_cases z : flt s = -1
            · exact z
            · unfold tkn at b4
              rw [if_neg z] at b4
              omega
          have hmt : tk s.1 = 91 := by
            unfold tkn at b4
            rw [if_pos hd] at b4
            omega
          rw [if_neg (fun z => z hd), if_pos hmt] at hcmp
          have hcmp : T0 = appR (L ++ [rwS s]) (cmpG F tk nx (12 - (i + 1)) (nx s.1)) := by
            rw [hcmp]
            cases cmpG F tk nx (12 - (i + 1)) (nx s.1) with
            | inl p => rfl
            | inr L' => show Sum.inr (L ++ rwS s :: L') = Sum.inr (L ++ [rwS s] ++ L'); simp
          obtain ⟨r1, r2⟩ := hrow hd
          obtain ⟨q1, q2, q3, q4⟩ := hK1.2 _ b1 b2
          rw [b3] at q1 q2 q3 q4
          obtain ⟨q5, q6⟩ := q4 (by omega)
          obtain ⟨p1, p2, p3, p4⟩ := hK1.2 _ (by omega : 0 ≤ m1 0 45 7 + 1) q5
          rw [q6] at p1 p2 p3 p4
          have hgl := (hG1.2.2.2.2.2.2.2 hd).1
          have hce := cE_0 (stk s)
          have hgl : sml L + rlen (rwS s) + cE (stk s) ≤ s.1 := hgl
          have hnx := (hT s.1 hfp.1 hfp.2).2.2.2 (by omega)
          refine r_aload_n (dc kc_X0_compile_0 30 rfl) rfl <| s_getI (dc kc_X0_compile_0 31 rfl) fl_X0_36 <| k_b (dc kc_X0_compile_0 32 rfl) rfl <| s_icmp_ne (tgt := 68) (dc kc_X0_compile_0 33 rfl) rfl (fun c61 => (k_i (dc kc_X0_compile_0 36 rfl) rfl <| t_i4 (dc kc_X0_compile_0 37 rfl) (Nat.le_of_ble_eq_true rfl) rfl <| s_iload (dc kc_X0_compile_0 38 rfl) rfl <| s_if_eq (tgt := 86) (dc kc_X0_compile_0 39 rfl) rfl (fun c73 => (?_)) (fun c73 => (r_aload_n (dc kc_X0_compile_1 0 rfl) rfl <| r_aload_n (dc kc_X0_compile_1 1 rfl) rfl <| s_getI (dc kc_X0_compile_1 2 rfl) fl_X0_39 <| k_i (dc kc_X0_compile_1 3 rfl) rfl <| b_iadd (dc kc_X0_compile_1 4 rfl) (by first | omega | (simp [up] <;> omega)) (by first | omega | (simp [up] <;> omega)) <| c_v1 (dc kc_X0_compile_1 5 rfl) cl_X0_70 rfl (Nat.le_of_ble_eq_true rfl) (Nat.zero_le _) (Nat.zero_le _) ?_)))) (fun c61 => (k_i (dc kc_X0_compile_0 34 rfl) rfl <| s_goto (tgt := 69) (dc kc_X0_compile_0 35 rfl) rfl <| t_i4 (dc kc_X0_compile_0 37 rfl) (Nat.le_of_ble_eq_true rfl) rfl <| s_iload (dc kc_X0_compile_0 38 rfl) rfl <| s_if_eq (tgt := 86) (dc kc_X0_compile_0 39 rfl) rfl (fun c73 => (?_)) (fun c73 => (r_aload_n (dc kc_X0_compile_1 0 rfl) rfl <| r_aload_n (dc kc_X0_compile_1 1 rfl) rfl <| s_getI (dc kc_X0_compile_1 2 rfl) fl_X0_39 <| k_i (dc kc_X0_compile_1 3 rfl) rfl <| b_iadd (dc kc_X0_compile_1 4 rfl) (by first | omega | (simp [up] <;> omega)) (by first | omega | (simp [up] <;> omega)) <| c_v1 (dc kc_X0_compile_1 5 rfl) cl_X0_70 rfl (Nat.le_of_ble_eq_true rfl) (Nat.zero_le _) (Nat.zero_le _) ?_))))
          · exfalso; omega
          · exfalso; omega
          · exfalso; omega
          · refine u_goTo hL (by omega) q5 (by omega) ?_
            have g2 : Cg (pKr (sml L) i) m1 (up (up m1 0 45 7 (m1 0 45 7 + 1)) 0 45 6 (m1 0 46 (m1 0 45 7 + 1))) := (Cg.rf.up (by simp [pKr])).up (by simp [pKr])
            have gm2 := gm1.tr (g2.mono (fun a b k z => pKr_c z))
            have hK2 := hK1.mv g2
            have hCB2 : CB tk (up (up m1 0 45 7 (m1 0 45 7 + 1)) 0 45 6 (m1 0 46 (m1 0 45 7 + 1))) (nx s.1) (sml (L ++ [rwS s])) (i + 1 : Nat) := by
              refine ⟨⟨by simp [up]; omega, by simp [up]; exact q5, by simp [up]; exact q6⟩, by simp [up]; exact p1, by simp [up]; rw [b7, hd], ?_, ?_⟩
              · rw [up_g (by decide), up_g (by decide), c1]; omega
              · rw [up_g (by decide), up_g (by decide), r1, sml_app]
            have hR2 : Rws (up (up m1 0 45 7 (m1 0 45 7 + 1)) 0 45 6 (m1 0 46 (m1 0 45 7 + 1))) (L ++ [rwS s]) := by
              have := ((hRws.mv g1 (Int.le_refl _) (by omega)).snoc (by rw [hlen]; exact r2))
              refine fun i' q' hq' => ?_
              have z := this i' q' hq'
              unfold RW at z ⊢
              rw [up_g (by decide), up_g (by decide), up_g (by decide), up_g (by decide), up_g (by decide), up_g (by decide), up_g (by decide), up_g (by decide), up_g (by decide), up_g (by decide), up_g (by decide), up_g (by decide), up_g (by decide), up_g (by decide)]
              exact z
            have ho2 : up (up m1 0 45 7 (m1 0 45 7 + 1)) 0 45 6 (m1 0 46 (m1 0 45 7 + 1)) 0 45 1 = o := by rw [up_k (by decide), up_k (by decide), g1.at (by simp [pKr]), hom]
            generalize up (up m1 0 45 7 (m1 0 45 7 + 1)) 0 45 6 (m1 0 46 (m1 0 45 7 + 1)) = m2 at *
            refine b_inc5 (dc kc_X0_compile_1 6 rfl) rfl (Nat.le_of_ble_eq_true rfl) rfl (by first | omega | (simp [up] <;> omega)) (by first | omega | (simp [up] <;> omega)) <| s_goto (tgt := 39) (dc kc_X0_compile_1 7 rfl) rfl <| ?_
            have := ih hlt m2 (nx s.1) (L ++ [rwS s]) gm2 hK2 hCB2 hR2 (by rw [List.length_append, List.length_singleton, hlen]) (by rw [sml_app]; omega) ho2 hcmp
            rw [show ((i + 1 : Nat) : Int) = (i : Int) + 1 by omega] at this
            exact this
        · have stop := stop h91
          refine r_aload_n (dc kc_X0_compile_0 30 rfl) rfl <| s_getI (dc kc_X0_compile_0 31 rfl) fl_X0_36 <| k_b (dc kc_X0_compile_0 32 rfl) rfl <| s_icmp_ne (tgt := 68) (dc kc_X0_compile_0 33 rfl) rfl (fun c61 => (k_i (dc kc_X0_compile_0 36 rfl) rfl <| t_i4 (dc kc_X0_compile_0 37 rfl) (Nat.le_of_ble_eq_true rfl) rfl <| s_iload (dc kc_X0_compile_0 38 rfl) rfl <| s_if_eq (tgt := 86) (dc kc_X0_compile_0 39 rfl) rfl (fun c73 => (?_)) (fun c73 => (r_aload_n (dc kc_X0_compile_1 0 rfl) rfl <| r_aload_n (dc kc_X0_compile_1 1 rfl) rfl <| s_getI (dc kc_X0_compile_1 2 rfl) fl_X0_39 <| k_i (dc kc_X0_compile_1 3 rfl) rfl <| b_iadd (dc kc_X0_compile_1 4 rfl) (by first | omega | (simp [up] <;> omega)) (by first | omega | (simp [up] <;> omega)) <| c_v1 (dc kc_X0_compile_1 5 rfl) cl_X0_70 rfl (Nat.le_of_ble_eq_true rfl) (Nat.zero_le _) (Nat.zero_le _) ?_)))) (fun c61 => (k_i (dc kc_X0_compile_0 34 rfl) rfl <| s_goto (tgt := 69) (dc kc_X0_compile_0 35 rfl) rfl <| t_i4 (dc kc_X0_compile_0 37 rfl) (Nat.le_of_ble_eq_true rfl) rfl <| s_iload (dc kc_X0_compile_0 38 rfl) rfl <| s_if_eq (tgt := 86) (dc kc_X0_compile_0 39 rfl) rfl (fun c73 => (?_)) (fun c73 => (r_aload_n (dc kc_X0_compile_1 0 rfl) rfl <| r_aload_n (dc kc_X0_compile_1 1 rfl) rfl <| s_getI (dc kc_X0_compile_1 2 rfl) fl_X0_39 <| k_i (dc kc_X0_compile_1 3 rfl) rfl <| b_iadd (dc kc_X0_compile_1 4 rfl) (by first | omega | (simp [up] <;> omega)) (by first | omega | (simp [up] <;> omega)) <| c_v1 (dc kc_X0_compile_1 5 rfl) cl_X0_70 rfl (Nat.le_of_ble_eq_true rfl) (Nat.zero_le _) (Nat.zero_le _) ?_))))
          · refine b_inc5 (dc kc_X0_compile_1 6 rfl) rfl (Nat.le_of_ble_eq_true rfl) rfl (by first | omega | (simp [up] <;> omega)) (by first | omega | (simp [up] <;> omega)) <| s_goto (tgt := 39) (dc kc_X0_compile_1 7 rfl) rfl <| s_iload (dc kc_X0_compile_0 23 rfl) rfl <| k_b (dc kc_X0_compile_0 24 rfl) rfl <| s_icmp_ge (tgt := 92) (dc kc_X0_compile_0 25 rfl) rfl (fun c43 => (?_)) (fun c43 => (s_iload (dc kc_X0_compile_0 26 rfl) rfl <| s_if_eq (tgt := 92) (dc kc_X0_compile_0 27 rfl) rfl (fun c48 => (?_)) (fun c48 => (r_aload_n (dc kc_X0_compile_0 28 rfl) rfl <| c_v0 (dc kc_X0_compile_0 29 rfl) cl_X0_74 rfl (Nat.le_of_ble_eq_true rfl) (Nat.zero_le _) (Nat.zero_le _) ?_))))
            · exact stop
            · exact stop
            all_goals (exfalso; omega)
          all_goals (exfalso; omega)
    · have hi12 : i = 12 := by omega
      rw [hi12, Nat.sub_self, cmpG] at hcmp
      refine s_iload (dc kc_X0_compile_0 23 rfl) rfl <| k_b (dc kc_X0_compile_0 24 rfl) rfl <| s_icmp_ge (tgt := 92) (dc kc_X0_compile_0 25 rfl) rfl (fun c43 => (?_)) (fun c43 => (s_iload (dc kc_X0_compile_0 26 rfl) rfl <| s_if_eq (tgt := 92) (dc kc_X0_compile_0 27 rfl) rfl (fun c48 => (?_)) (fun c48 => (?_))))
      · refine s_iload (dc kc_X0_compile_1 8 rfl) rfl <| s_if_ne (tgt := 106) (dc kc_X0_compile_1 9 rfl) rfl (fun c94 => (?_)) (fun c94 => (r_aload_n (dc kc_X0_compile_1 10 rfl) rfl <| s_getI (dc kc_X0_compile_1 11 rfl) fl_X0_36 <| k_b (dc kc_X0_compile_1 12 rfl) rfl <| s_icmp_eq (tgt := 110) (dc kc_X0_compile_1 13 rfl) rfl (fun c103 => (r_aload_n (dc kc_X0_compile_1 16 rfl) rfl <| s_getI (dc kc_X0_compile_1 17 rfl) fl_X0_54 <| s_ireturn (dc kc_X0_compile_1 18 rfl) rfl (Nat.zero_le _) (Nat.zero_le _) ?_)) (fun c103 => (?_))))
        · exact bad m _ _ f gm a1 (by omega) (by rw [a5, if_pos rfl]; exact a3) (by omega) hcmp
        all_goals (exfalso; omega)
      · exfalso; omega
      · exfalso; omega
  exact loop 0 (Nat.zero_le _) mi f0 [] Cg.rf hK hCB (fun i q h => by simp at h) rfl (by have := (hK.2 _ hCB.1.1 hCB.1.2.1).2.2.1.1; rw [hCB.1.2.2] at this; exact this) ho (by
    show _ = appR [] (cmpG F tk nx 12 f0)
    rw [hT0]
    cases T0 <;> rfl)
end CML
