/-! the class: laws, lines -/
def pCL (g : Nat) (a b : Nat) (k : Int) : Bool := pKc a b k || (a == 0 && b == 0 && (k == 1 || k == 2 || k == 3)) || rlS g a b || (a == 0 && b == 60 && k == 3) || (a == 0 && b == 70 && k == 10)
section CLW
variable {d n G : Nat} {mr : MR} {Q : V → MI → Nat → MR → Prop}
theorem u_claws (hL : Lay G mr) {mi : MI} {g : Nat} {ρ : Int → Int} {B : Int} (hnow : mr 0 0 4 = some (g, 5)) (hg : g < G) (hG4 : G ≤ 4) (hR : Rep (-1) mi g ρ) (hI : Inv B ρ) (h0 : 0 ≤ mi 0 0 1) (h1 : mi 0 0 1 ≤ 400) (ht : ∀ i, 0 ≤ i → i < mi 0 0 1 → 0 ≤ mi 0 1 i ∧ mi 0 1 i ≤ 255)
    (hQ1 : ∀ p, cmpT (mi 0 1) (mi 0 0 1) 0 = .inl p → 0 ≤ p → ∀ mi', Cg (fun a b k => pKc a b k || (a == 0 && b == 0 && (k == 1 || k == 2 || k == 3))) mi mi' → mi' 0 0 1 = 0 → mi' 0 0 2 = p → mi' 0 0 3 = -6 → Q (vI (-6)) mi' n mr)
    (hQ2 : ∀ L, cmpT (mi 0 1) (mi 0 0 1) 0 = .inr L → L.length ≤ 12 → sml L ≤ 400 → ∀ mi', Cg (fun a b k => pCL g a b k && !(a == g + 10)) mi mi' → mi' 0 0 1 = 0 → mi' 0 0 2 = -1 → mi' 0 0 3 = 0 → mi' 0 60 3 = -1 → mi' 0 70 10 = 0 → (∀ ρ', LawsOf ρ ρ' L → Rep (-1) mi' g ρ' ∧ TxS mi' g) → Q (vI L.length) mi' n mr) : Tx (d+10) mt_X11_laws [vR (some (0, 0))] mi n mr Q := by
  have hok : okI G 5 g := hg
  have hok2 : okI G 20 g := Or.inl hg
  refine tx_intro (ls := [vR (some (0, 0))]) om_X11_laws rfl (Nat.le_of_ble_eq_true rfl) ?_
  refine r_aload_n (dc kc_X11_laws_0 0 rfl) rfl <| r_aload_n (dc kc_X11_laws_0 1 rfl) rfl <| s_getO (dc kc_X11_laws_0 2 rfl) fl_X11_40 (ly_0_7 hL) <| r_aload_n (dc kc_X11_laws_0 3 rfl) rfl <| s_getA (dc kc_X11_laws_0 4 rfl) fl_X11_9 (ly_0_0 hL) <| r_aload_n (dc kc_X11_laws_0 5 rfl) rfl <| s_getI (dc kc_X11_laws_0 6 rfl) fl_X11_13 <| k_i (dc kc_X11_laws_0 7 rfl) rfl <| c_v3r (dc kc_X11_laws_0 8 rfl) cl_X11_76 rfl (Nat.le_of_ble_eq_true rfl) (Nat.zero_le _) (Nat.zero_le _) ?_
  refine u_compile hL h0 h1 ht (Or.inl rfl) (fun p hp p0 m1 g1 => ?_) (fun L hLL m1 g1 r1 r2 r3 r4 r5 => ?_)
  · refine s_putI (dc kc_X11_laws_0 9 rfl) fl_X11_17 <| r_aload_n (dc kc_X11_laws_0 10 rfl) rfl <| k_i (dc kc_X11_laws_0 11 rfl) rfl <| s_putI (dc kc_X11_laws_0 12 rfl) fl_X11_13 <| r_aload_n (dc kc_X11_laws_0 13 rfl) rfl <| s_getI (dc kc_X11_laws_0 14 rfl) fl_X11_17 <| k_i (dc kc_X11_laws_0 15 rfl) rfl <| s_icmp_eq (tgt := 40) (dc kc_X11_laws_0 16 rfl) rfl (fun c30 => (r_aload_n (dc kc_X11_laws_0 21 rfl) rfl <| s_getO (dc kc_X11_laws_0 22 rfl) fl_X11_26 hnow <| s_getO (dc kc_X11_laws_0 23 rfl) fl_X11_84 (ly_5_1 hL (by assumption)) <| r_aload_n (dc kc_X11_laws_0 24 rfl) rfl <| s_getO (dc kc_X11_laws_0 25 rfl) fl_X11_40 (ly_0_7 hL) <| s_getO (dc kc_X11_laws_0 26 rfl) fl_X11_88 (ly_45_0 hL) <| c_v1 (dc kc_X11_laws_0 27 rfl) cl_X11_91 rfl (Nat.le_of_ble_eq_true rfl) (Nat.zero_le _) (Nat.zero_le _) ?_)) (fun c30 => (r_aload_n (dc kc_X11_laws_0 17 rfl) rfl <| k_b (dc kc_X11_laws_0 18 rfl) rfl <| c_v1r (dc kc_X11_laws_0 19 rfl) cl_X11_80 rfl (Nat.le_of_ble_eq_true rfl) (Nat.zero_le _) (Nat.zero_le _) <| u_refuse <| s_ireturn (dc kc_X11_laws_0 20 rfl) rfl (Nat.zero_le _) (Nat.zero_le _) ?_))
    · exfalso
      simp [up] at c30
      omega
    · refine hQ1 p hp p0 _ ((((g1.mono (fun a b k z => by simp [z])).up (by simp)).up (by simp)).up (by simp)) (by simp [up]) (by simp [up]) (by simp [up])
  · refine s_putI (dc kc_X11_laws_0 9 rfl) fl_X11_17 <| r_aload_n (dc kc_X11_laws_0 10 rfl) rfl <| k_i (dc kc_X11_laws_0 11 rfl) rfl <| s_putI (dc kc_X11_laws_0 12 rfl) fl_X11_13 <| r_aload_n (dc kc_X11_laws_0 13 rfl) rfl <| s_getI (dc kc_X11_laws_0 14 rfl) fl_X11_17 <| k_i (dc kc_X11_laws_0 15 rfl) rfl <| s_icmp_eq (tgt := 40) (dc kc_X11_laws_0 16 rfl) rfl (fun c30 => (r_aload_n (dc kc_X11_laws_0 21 rfl) rfl <| s_getO (dc kc_X11_laws_0 22 rfl) fl_X11_26 hnow <| s_getO (dc kc_X11_laws_0 23 rfl) fl_X11_84 (ly_5_1 hL (by assumption)) <| r_aload_n (dc kc_X11_laws_0 24 rfl) rfl <| s_getO (dc kc_X11_laws_0 25 rfl) fl_X11_40 (ly_0_7 hL) <| s_getO (dc kc_X11_laws_0 26 rfl) fl_X11_88 (ly_45_0 hL) <| c_v1 (dc kc_X11_laws_0 27 rfl) cl_X11_91 rfl (Nat.le_of_ble_eq_true rfl) (Nat.zero_le _) (Nat.zero_le _) ?_)) (fun c30 => (?_))
    · have e20 : ∀ b, up (up m1 0 0 2 (-1)) 0 0 1 0 20 b = m1 20 b := fun b => by rw [up_g (by decide), up_g (by decide)]
      refine u_textBecome hL hok2 ok20 (by omega) (by rw [e20, r3]; exact ⟨sml_0 L, r5⟩) (fun m2 g2 t1 t2 t3 => ?_)
      refine r_aload_n (dc kc_X11_laws_0 28 rfl) rfl <| s_getO (dc kc_X11_laws_0 29 rfl) fl_X11_26 hnow <| s_getO (dc kc_X11_laws_0 30 rfl) fl_X11_97 (ly_5_4 hL (by assumption)) <| c_v0 (dc kc_X11_laws_0 31 rfl) cl_X11_101 rfl (Nat.le_of_ble_eq_true rfl) (Nat.zero_le _) (Nat.zero_le _) ?_
      refine u_wforget hL hg (fun m3 g3 t4 => ?_)
      refine r_aload_n (dc kc_X11_laws_0 32 rfl) rfl <| c_v0 (dc kc_X11_laws_0 33 rfl) cl_X11_106 rfl (Nat.le_of_ble_eq_true rfl) (Nat.zero_le _) (Nat.zero_le _) <| u_changed hL <| r_aload_n (dc kc_X11_laws_0 34 rfl) rfl <| r_aload_n (dc kc_X11_laws_0 35 rfl) rfl <| s_getO (dc kc_X11_laws_0 36 rfl) fl_X11_26 hnow <| s_getO (dc kc_X11_laws_0 37 rfl) fl_X11_84 (ly_5_1 hL (by assumption)) <| s_getI (dc kc_X11_laws_0 38 rfl) fl_X11_109 <| c_v1r (dc kc_X11_laws_0 39 rfl) cl_X11_112 rfl (Nat.le_of_ble_eq_true rfl) (Nat.zero_le _) (Nat.zero_le _) <| u_answer <| s_ireturn (dc kc_X11_laws_1 0 rfl) rfl (Nat.zero_le _) (Nat.zero_le _) ?_
      have hTE : TxE (up (up (up m3 0 60 3 (-1)) 0 70 10 0) 0 0 3 0) m1 g 20 := by
        have e3 : ∀ b, 20 ≤ b → b ≤ 27 → up (up (up m3 0 60 3 (-1)) 0 70 10 0) 0 0 3 0 g b = m2 g b := fun b z1 z2 => by rw [up_j (by omega), up_j (by omega), up_j (by omega), g3.row (fun k => by simp; omega)]
        unfold TxE
        rw [e3 20 (by omega) (by omega), e3 21 (by omega) (by omega), e3 22 (by omega) (by omega), e3 23 (by omega) (by omega), e3 24 (by omega) (by omega), e3 25 (by omega) (by omega), e3 26 (by omega) (by omega), e3 27 (by omega) (by omega)]
        simp only [e20] at t1 t2 t3
        exact ⟨t1, t2, t3⟩
      have hcnt : up (up m3 0 60 3 (-1)) 0 70 10 0 g 20 0 = (L.length : Int) := by
        rw [up_j (by decide), up_j (by decide), g3.at (by simp), t1.1, e20, r2]
      rw [hcnt]
      refine hQ2 L hLL r4 r5 _ (((((((((g1.mono (fun a b k z => by
        simp [pCL, z]
        simp [pKc] at z
        omega)).up (by simp [pCL])).up (by simp [pCL])).tr (g2.mono (fun a b k z => by
          simp at z
          simp [pCL, rlS, z]))).tr (g3.mono (fun a b k z => by
          simp at z
          simp [pCL, rlS, z]
          omega))).up (by simp [pCL])).up (by simp [pCL])).up (by simp [pCL]))) ?_ ?_ up_at ?_ ?_ (fun ρ' hl => ?_)
      · rw [up_k (by decide), up_j (by decide), up_j (by decide), g3.at (by simp), g2.at (by simp), up_at]
      · rw [up_k (by decide), up_j (by decide), up_j (by decide), g3.at (by simp), g2.at (by simp), up_k (by decide), up_at]
      · rw [up_j (by decide), up_j (by decide), up_at]
      · rw [up_j (by decide), up_at]
      · refine Rep_laws hR hI hl hTE r1 r2 r3 r4 r5 (fun a b z1 z2 => ?_) (fun i i0 i1 => ?_)
        · have hb : b ≠ 0 ∧ b ≠ 60 ∧ b ≠ 70 := by simp [rlS] at z1; omega
          rw [up_j hb.1, up_j hb.2.2, up_j hb.2.1, g3.row (fun k => by simp; omega), g2.row (fun k => by simp; omega), up_j hb.1, up_j hb.1, g1.row (fun k => by simp [pKc]; simp [rlS] at z1; omega)]
        · rw [up_j (by decide), up_j (by decide), up_j (by decide), up_j (by decide), up_j (by decide), up_j (by decide), up_j (by decide), up_j (by decide), up_j (by decide)]
          exact t4 i i0 i1
    · exfalso
      simp [up] at c30
theorem u_clines (hL : Lay G mr) {mi : MI} {g : Nat} {ρ : Int → Int} {B : Int} (hnow : mr 0 0 4 = some (g, 5)) (hg : g < G) (hG4 : G ≤ 4) (hR : Rep (-1) mi g ρ) (hI : Inv B ρ) (h0 : 0 ≤ mi 0 0 1) (h1 : mi 0 0 1 ≤ 400) (ht : ∀ i, 0 ≤ i → i < mi 0 0 1 → 0 ≤ mi 0 1 i ∧ mi 0 1 i ≤ 255)
    (hQ1 : ∀ p, cmpT (mi 0 1) (mi 0 0 1) 1 = .inl p → 0 ≤ p → ∀ mi', Cg (fun a b k => pKc a b k || (a == 0 && b == 0 && (k == 1 || k == 2 || k == 3))) mi mi' → mi' 0 0 1 = 0 → mi' 0 0 2 = p → mi' 0 0 3 = -6 → Q (vI (-6)) mi' n mr)
    (hQ2 : ∀ L, cmpT (mi 0 1) (mi 0 0 1) 1 = .inr L → L.length ≤ 12 → sml L ≤ 400 → ∀ mi', Cg (fun a b k => pCL g a b k && !(a == g && (decide (20 ≤ b) && decide (b ≤ 27)))) mi mi' → mi' 0 0 1 = 0 → mi' 0 0 2 = -1 → mi' 0 0 3 = 0 → mi' 0 60 3 = -1 → mi' 0 70 10 = 0 → (∀ ρ', LinesOf ρ ρ' L → Rep (-1) mi' g ρ' ∧ TxS mi' (g + 10)) → Q (vI L.length) mi' n mr) : Tx (d+10) mt_X11_lines [vR (some (0, 0))] mi n mr Q := by
  have hok : okI G 5 g := hg
  have hok2 : okI G 20 (g + 10) := Or.inr (Or.inl ⟨by omega, by omega⟩)
  have hok30 : okI G 30 g := hg
  refine tx_intro (ls := [vR (some (0, 0))]) om_X11_lines rfl (Nat.le_of_ble_eq_true rfl) ?_
  refine r_aload_n (dc kc_X11_lines_0 0 rfl) rfl <| r_aload_n (dc kc_X11_lines_0 1 rfl) rfl <| s_getO (dc kc_X11_lines_0 2 rfl) fl_X11_40 (ly_0_7 hL) <| r_aload_n (dc kc_X11_lines_0 3 rfl) rfl <| s_getA (dc kc_X11_lines_0 4 rfl) fl_X11_9 (ly_0_0 hL) <| r_aload_n (dc kc_X11_lines_0 5 rfl) rfl <| s_getI (dc kc_X11_lines_0 6 rfl) fl_X11_13 <| k_i (dc kc_X11_lines_0 7 rfl) rfl <| c_v3r (dc kc_X11_lines_0 8 rfl) cl_X11_76 rfl (Nat.le_of_ble_eq_true rfl) (Nat.zero_le _) (Nat.zero_le _) ?_
  refine u_compile hL h0 h1 ht (Or.inr rfl) (fun p hp p0 m1 g1 => ?_) (fun L hLL m1 g1 r1 r2 r3 r4 r5 => ?_)
  · refine s_putI (dc kc_X11_lines_0 9 rfl) fl_X11_17 <| r_aload_n (dc kc_X11_lines_0 10 rfl) rfl <| k_i (dc kc_X11_lines_0 11 rfl) rfl <| s_putI (dc kc_X11_lines_0 12 rfl) fl_X11_13 <| r_aload_n (dc kc_X11_lines_0 13 rfl) rfl <| s_getI (dc kc_X11_lines_0 14 rfl) fl_X11_17 <| k_i (dc kc_X11_lines_0 15 rfl) rfl <| s_icmp_eq (tgt := 40) (dc kc_X11_lines_0 16 rfl) rfl (fun c30 => (r_aload_n (dc kc_X11_lines_0 21 rfl) rfl <| s_getO (dc kc_X11_lines_0 22 rfl) fl_X11_26 hnow <| s_getO (dc kc_X11_lines_0 23 rfl) fl_X11_115 (ly_5_2 hL (by assumption)) <| r_aload_n (dc kc_X11_lines_0 24 rfl) rfl <| s_getO (dc kc_X11_lines_0 25 rfl) fl_X11_40 (ly_0_7 hL) <| s_getO (dc kc_X11_lines_0 26 rfl) fl_X11_88 (ly_45_0 hL) <| c_v1 (dc kc_X11_lines_0 27 rfl) cl_X11_91 rfl (Nat.le_of_ble_eq_true rfl) (Nat.zero_le _) (Nat.zero_le _) ?_)) (fun c30 => (r_aload_n (dc kc_X11_lines_0 17 rfl) rfl <| k_b (dc kc_X11_lines_0 18 rfl) rfl <| c_v1r (dc kc_X11_lines_0 19 rfl) cl_X11_80 rfl (Nat.le_of_ble_eq_true rfl) (Nat.zero_le _) (Nat.zero_le _) <| u_refuse <| s_ireturn (dc kc_X11_lines_0 20 rfl) rfl (Nat.zero_le _) (Nat.zero_le _) ?_))
    · exfalso
      simp [up] at c30
      omega
    · refine hQ1 p hp p0 _ ((((g1.mono (fun a b k z => by simp [z])).up (by simp)).up (by simp)).up (by simp)) (by simp [up]) (by simp [up]) (by simp [up])
  · refine s_putI (dc kc_X11_lines_0 9 rfl) fl_X11_17 <| r_aload_n (dc kc_X11_lines_0 10 rfl) rfl <| k_i (dc kc_X11_lines_0 11 rfl) rfl <| s_putI (dc kc_X11_lines_0 12 rfl) fl_X11_13 <| r_aload_n (dc kc_X11_lines_0 13 rfl) rfl <| s_getI (dc kc_X11_lines_0 14 rfl) fl_X11_17 <| k_i (dc kc_X11_lines_0 15 rfl) rfl <| s_icmp_eq (tgt := 40) (dc kc_X11_lines_0 16 rfl) rfl (fun c30 => (r_aload_n (dc kc_X11_lines_0 21 rfl) rfl <| s_getO (dc kc_X11_lines_0 22 rfl) fl_X11_26 hnow <| s_getO (dc kc_X11_lines_0 23 rfl) fl_X11_115 (ly_5_2 hL (by assumption)) <| r_aload_n (dc kc_X11_lines_0 24 rfl) rfl <| s_getO (dc kc_X11_lines_0 25 rfl) fl_X11_40 (ly_0_7 hL) <| s_getO (dc kc_X11_lines_0 26 rfl) fl_X11_88 (ly_45_0 hL) <| c_v1 (dc kc_X11_lines_0 27 rfl) cl_X11_91 rfl (Nat.le_of_ble_eq_true rfl) (Nat.zero_le _) (Nat.zero_le _) ?_)) (fun c30 => (?_))
    · have e20 : ∀ b, up (up m1 0 0 2 (-1)) 0 0 1 0 20 b = m1 20 b := fun b => by rw [up_g (by decide), up_g (by decide)]
      refine u_textBecome hL hok2 ok20 (by omega) (by rw [e20, r3]; exact ⟨sml_0 L, r5⟩) (fun m2 g2 t1 t2 t3 => ?_)
      refine r_aload_n (dc kc_X11_lines_0 28 rfl) rfl <| s_getO (dc kc_X11_lines_0 29 rfl) fl_X11_26 hnow <| s_getA (dc kc_X11_lines_0 30 rfl) fl_X11_118 (ly_5_5 hL (by assumption)) <| k_b (dc kc_X11_lines_0 31 rfl) rfl <| k_i (dc kc_X11_lines_0 32 rfl) rfl <| s_iastore (dc kc_X11_lines_0 33 rfl) rfl (by first | omega | (simp [up] <;> omega)) (by first | omega | (simp [up] <;> omega)) <| r_aload_n (dc kc_X11_lines_0 34 rfl) rfl <| s_getO (dc kc_X11_lines_0 35 rfl) fl_X11_26 hnow <| s_getO (dc kc_X11_lines_0 36 rfl) fl_X11_97 (ly_5_4 hL (by assumption)) <| k_i (dc kc_X11_lines_0 37 rfl) rfl <| s_putI (dc kc_X11_lines_0 38 rfl) fl_X11_121 <| r_aload_n (dc kc_X11_lines_0 39 rfl) rfl <| s_getO (dc kc_X11_lines_1 0 rfl) fl_X11_26 hnow <| s_getO (dc kc_X11_lines_1 1 rfl) fl_X11_97 (ly_5_4 hL (by assumption)) <| k_i (dc kc_X11_lines_1 2 rfl) rfl <| s_putI (dc kc_X11_lines_1 3 rfl) fl_X11_124 <| r_aload_n (dc kc_X11_lines_1 4 rfl) rfl <| s_getO (dc kc_X11_lines_1 5 rfl) fl_X11_26 hnow <| s_getO (dc kc_X11_lines_1 6 rfl) fl_X11_127 (ly_5_3 hL (by assumption)) <| c_v0 (dc kc_X11_lines_1 7 rfl) cl_X11_131 rfl (Nat.le_of_ble_eq_true rfl) (Nat.zero_le _) (Nat.zero_le _) ?_
      refine u_loseLines hL hg (fun m3 g3 t4 => ?_)
      refine r_aload_n (dc kc_X11_lines_1 8 rfl) rfl <| c_v0 (dc kc_X11_lines_1 9 rfl) cl_X11_106 rfl (Nat.le_of_ble_eq_true rfl) (Nat.zero_le _) (Nat.zero_le _) <| u_changed hL <| r_aload_n (dc kc_X11_lines_1 10 rfl) rfl <| r_aload_n (dc kc_X11_lines_1 11 rfl) rfl <| s_getO (dc kc_X11_lines_1 12 rfl) fl_X11_26 hnow <| s_getO (dc kc_X11_lines_1 13 rfl) fl_X11_115 (ly_5_2 hL (by assumption)) <| s_getI (dc kc_X11_lines_1 14 rfl) fl_X11_109 <| c_v1r (dc kc_X11_lines_1 15 rfl) cl_X11_112 rfl (Nat.le_of_ble_eq_true rfl) (Nat.zero_le _) (Nat.zero_le _) <| u_answer <| s_ireturn (dc kc_X11_lines_1 16 rfl) rfl (Nat.zero_le _) (Nat.zero_le _) ?_
      have hne : g ≠ g + 10 := by omega
      have hTE : TxE (up (up (up m3 0 60 3 (-1)) 0 70 10 0) 0 0 3 0) m1 (g + 10) 20 := by
        have e3 : ∀ b, 20 ≤ b → b ≤ 27 → up (up (up m3 0 60 3 (-1)) 0 70 10 0) 0 0 3 0 (g + 10) b = m2 (g + 10) b := fun b z1 z2 => by rw [up_j (by omega), up_j (by omega), up_j (by omega), g3.row (fun k => by simp), up_g (by omega), up_g (by omega), up_g (by omega)]
        unfold TxE
        rw [e3 20 (by omega) (by omega), e3 21 (by omega) (by omega), e3 22 (by omega) (by omega), e3 23 (by omega) (by omega), e3 24 (by omega) (by omega), e3 25 (by omega) (by omega), e3 26 (by omega) (by omega), e3 27 (by omega) (by omega)]
        simp only [e20] at t1 t2 t3
        exact ⟨t1, t2, t3⟩
      have hcnt : up (up m3 0 60 3 (-1)) 0 70 10 0 (g + 10) 20 0 = (L.length : Int) := by
        rw [up_j (by decide), up_j (by decide), g3.at (by simp), up_g (by omega), up_g (by omega), up_g (by omega), t1.1, e20, r2]
      rw [hcnt]
      refine hQ2 L hLL r4 r5 _ ((((((((((((g1.mono (fun a b k z => by
        simp [pCL, z]
        simp [pKc] at z
        omega)).up (by simp [pCL])).up (by simp [pCL])).tr (g2.mono (fun a b k z => by
          simp at z
          simp [pCL, rlS, z]))).up (by simp [pCL, rlS])).up (by simp [pCL, rlS])).up (by simp [pCL, rlS])).tr (g3.mono (fun a b k z => by
          simp at z
          simp [pCL, rlS, z]))).up (by simp [pCL])).up (by simp [pCL])).up (by simp [pCL]))) ?_ ?_ up_at ?_ ?_ (fun ρ' hl => ?_)
      · rw [up_k (by decide), up_j (by decide), up_j (by decide), g3.at (by simp), up_j (by decide), up_j (by decide), up_j (by decide), g2.at (by simp), up_at]
      · rw [up_k (by decide), up_j (by decide), up_j (by decide), g3.at (by simp), up_j (by decide), up_j (by decide), up_j (by decide), g2.at (by simp), up_k (by decide), up_at]
      · rw [up_j (by decide), up_j (by decide), up_at]
      · rw [up_j (by decide), up_at]
      · have hback : ∀ a b, rlS g a b = true → ¬ (a = g + 10 ∧ (20 ≤ b ∧ b ≤ 27)) → m2 a b = mi a b := fun a b z1 z2 => by
          have hb : b ≠ 0 := by simp [rlS] at z1; omega
          rw [g2.row (fun k => by simp; omega), up_j hb, up_j hb, g1.row (fun k => by simp [pKc]; simp [rlS] at z1; omega)]
        refine Rep_lines hR hI hl hTE r1 r2 r3 r4 r5 (fun a b z1 z2 z3 => ?_) ?_ (fun i i0 i1 => ?_) ⟨?_, ?_, ?_⟩
        · have hb : b ≠ 0 ∧ b ≠ 60 ∧ b ≠ 70 := by simp [rlS] at z1; omega
          rw [up_j hb.1, up_j hb.2.2, up_j hb.2.1, g3.row (fun k => by simp; omega), up_row (fun z => by injection z; omega), up_row (fun z => by injection z; omega), up_row (fun z => by injection z; omega), hback a b z1 z2]
        · rw [up_j (by decide), up_j (by decide), up_j (by decide), g3.row (fun k => by simp), up_j (by decide), up_j (by decide), up_ud, hback g 6 (by simp [rlS]) (by omega)]
        · rw [up_j (by decide), up_j (by decide), up_j (by decide)]
          exact t4 i i0 i1
        · rw [up_j (by decide), up_j (by decide), up_j (by decide), g3.at (by simp), up_k (by decide), up_k (by decide), up_j (by decide), hback g 40 (by simp [rlS]) (by omega)]
        · rw [up_j (by decide), up_j (by decide), up_j (by decide), g3.at (by simp), up_k (by decide), up_at]
        · rw [up_j (by decide), up_j (by decide), up_j (by decide), g3.at (by simp), up_at]
    · exfalso
      simp [up] at c30
end CLW
