/-! a state of the class against a row of the reference; its journal -/
def RepW (mi : MI) (g : Nat) (ρ : Int → Int) : Prop := (∀ i, 0 ≤ i → i < 24 → mi g 16 i = ρ (30 + i)) ∧ mi g 15 1 = ρ 19
def RepL (mi : MI) (g : Nat) (ρ : Int → Int) : Prop := mi g 20 0 = ρ 16 ∧ ∀ l, 0 ≤ l → l < ρ 16 → LwT mi g l (lawC ρ l) ∧ Bm (mi g 27 l) (needL (lawC ρ l))
def RepN (mi : MI) (g : Nat) (ρ : Int → Int) : Prop := mi (g + 10) 20 0 = ρ 17 ∧ ∀ j, 0 ≤ j → j < ρ 17 → LnT mi (g + 10) j (tgtOf ρ j) (lnP ρ j) (lnV ρ j) (lnT ρ j)
/-- where a write is kept -/
def plc (mi : MI) (g : Nat) (w : Int) : Int := (mi g 30 1 + w) % 200
def RepJ (mi : MI) (g : Nat) (ρ : Int → Int) : Prop := mi g 30 0 = ρ 8 ∧ (0 ≤ mi g 30 1 ∧ mi g 30 1 < 200) ∧ mi g 30 2 = ρ 20 ∧ ∀ w, 0 ≤ w → w < ρ 8 → mi g 31 (plc mi g w) = ρ (646 + 7 * w) ∧ mi g 32 (plc mi g w) = ρ (646 + 7 * w + 1) ∧ mi g 33 (plc mi g w) = ρ (646 + 7 * w + 2) ∧ mi g 34 (plc mi g w) = ρ (646 + 7 * w + 3) ∧ mi g 35 (plc mi g w) = ρ (646 + 7 * w + 4) ∧ mi g 36 (plc mi g w) = ρ (646 + 7 * w + 6)
def RepS (mi : MI) (g : Nat) (ρ : Int → Int) : Prop := ∀ s, 0 ≤ s → s < 200 → mi g 37 s = ρ (246 + 2 * s) ∧ mi g 38 s = ρ (246 + 2 * s + 1)
def RepH (mi : MI) (g : Nat) (ρ : Int → Int) : Prop := mi g 40 0 = ρ 11 ∧ mi g 40 1 = ρ 12 ∧ (ρ 12 ≠ -1 → mi g 40 2 = ρ 13) ∧ (ρ 12 = -1 → mi g 40 2 = -1) ∧ ∀ l, 0 ≤ l → l < 12 → mi g 41 l = ρ (110 + 3 * l) ∧ mi g 42 l = ρ (110 + 3 * l + 1) ∧ mi g 43 l = ρ (110 + 3 * l + 2)
def RepC (e : Int) (mi : MI) (g : Nat) (ρ : Int → Int) : Prop := (∀ k, 0 ≤ k → k < 8 → k ≠ e → mi g 6 k = ρ k) ∧ (∀ i, 0 ≤ i → i < 100 → mi g 7 i = ρ (146 + i)) ∧ (∀ i, 0 ≤ i → i < 24 → mi g 8 i = ρ (54 + i)) ∧ (∀ i, 0 ≤ i → i < 5 → mi g 9 i = ρ (102 + i)) ∧ (∀ i, 0 ≤ i → i < 24 → mi g 10 i = ρ (78 + i)) ∧ mi g 5 10 = ρ 14 ∧ mi g 5 11 = ρ 15 ∧ mi g 5 12 = ρ 9 ∧ mi g 5 13 = ρ 10
/-- a state is a row (but for the count e) -/
def Rep (e : Int) (mi : MI) (g : Nat) (ρ : Int → Int) : Prop := RepW mi g ρ ∧ RepL mi g ρ ∧ RepN mi g ρ ∧ RepJ mi g ρ ∧ RepS mi g ρ ∧ RepH mi g ρ ∧ RepC e mi g ρ
/-- what of memory a state is -/
def rlS (g : Nat) (a b : Nat) : Bool := (a == g && ((5 ≤ b && b ≤ 10) || b == 15 || b == 16 || (20 ≤ b && b ≤ 27) || (30 ≤ b && b ≤ 38) || (40 ≤ b && b ≤ 43))) || (a == g + 10 && (20 ≤ b && b ≤ 27))
theorem Rep.mv {e : Int} {mi mi' : MI} {g : Nat} {ρ : Int → Int} (h : Rep e mi g ρ) (hm : ∀ a b, rlS g a b = true → mi' a b = mi a b) : Rep e mi' g ρ := by
  have q : ∀ b, (rlS g g b = true) → mi' g b = mi g b := fun b z => hm g b z
  have q10 : ∀ b, 20 ≤ b → b ≤ 27 → mi' (g + 10) b = mi (g + 10) b := fun b z1 z2 => hm (g + 10) b (by simp [rlS, z1, z2])
  unfold Rep RepW RepL RepN RepJ RepS RepH RepC LwT LnT plc at *
  rw [q 5 (by simp [rlS]), q 6 (by simp [rlS]), q 7 (by simp [rlS]), q 8 (by simp [rlS]), q 9 (by simp [rlS]), q 10 (by simp [rlS]), q 15 (by simp [rlS]), q 16 (by simp [rlS]), q 20 (by simp [rlS]), q 21 (by simp [rlS]), q 22 (by simp [rlS]), q 25 (by simp [rlS]), q 27 (by simp [rlS]), q 30 (by simp [rlS]), q 31 (by simp [rlS]), q 32 (by simp [rlS]), q 33 (by simp [rlS]), q 34 (by simp [rlS]), q 35 (by simp [rlS]), q 36 (by simp [rlS]), q 37 (by simp [rlS]), q 38 (by simp [rlS]), q 40 (by simp [rlS]), q 41 (by simp [rlS]), q 42 (by simp [rlS]), q 43 (by simp [rlS]), q10 20 (by omega) (by omega), q10 21 (by omega) (by omega), q10 22 (by omega) (by omega), q10 23 (by omega) (by omega), q10 24 (by omega) (by omega), q10 25 (by omega) (by omega), q10 26 (by omega) (by omega)]
  exact h
def pJ (g a b : Nat) (k : Int) : Bool := a == g && ((b == 30 && (k == 0 || k == 1 || k == 2)) || b == 31 || b == 32 || b == 33 || b == 34 || b == 35 || b == 36)
section JRN
variable {d n G : Nat} {mr : MR} {Q : V → MI → Nat → MR → Prop}
theorem u_placeOf {mi : MI} {g : Nat} {i : Int} (h0 : 0 ≤ mi g 30 1) (h1 : mi g 30 1 < 200) (hi0 : 0 ≤ i) (hi1 : i ≤ 200) (hQ : Q (vI ((mi g 30 1 + i) % 200)) mi n mr) : Tx (d+1) mt_X1_placeOf [vR (some (g, 30)), vI i] mi n mr Q := by
  refine tx_intro (ls := [vR (some (g, 30)), vI i]) om_X1_placeOf rfl (Nat.le_of_ble_eq_true rfl) ?_
  refine r_aload_n (dc kc_X1_placeOf 0 rfl) rfl <| s_getI (dc kc_X1_placeOf 1 rfl) fl_X1_15 <| s_iload_n (dc kc_X1_placeOf 2 rfl) rfl <| b_iadd (dc kc_X1_placeOf 3 rfl) (by first | omega | (simp [up] <;> omega)) (by first | omega | (simp [up] <;> omega)) <| k_s (dc kc_X1_placeOf 4 rfl) rfl <| b_irem (dc kc_X1_placeOf 5 rfl) (by first | omega | (simp [up] <;> omega)) (by first | omega | (simp [up] <;> omega)) <| s_ireturn (dc kc_X1_placeOf 6 rfl) rfl (Nat.zero_le _) (Nat.zero_le _) ?_
  exact hQ
theorem u_add (hL : Lay G mr) {mi : MI} {g : Nat} {ρ : Int → Int} (hg : g < G) {s l c v r : Int} (hJ : RepJ mi g ρ) (hW : RepW mi g ρ) (hI : InvW ρ) (h8 : 0 ≤ ρ 8 ∧ ρ 8 ≤ 200) (hc0 : 0 ≤ c) (hc1 : c < 24) (hQ : ∀ mi', Cg (pJ g) mi mi' → RepJ mi' g (kw ρ s l c v r) → Q (vX 0) mi' n mr) : Tx (d+2) mt_X1_add [vR (some (g, 30)), vI s, vI l, vI c, vR (some (g, 15)), vI r] mi n mr Q := by
  have hok : okI G 30 g := hg
  have hok2 : okI G 15 g := Or.inl hg
  obtain ⟨e0, e1, e2, ew⟩ := hJ
  refine tx_intro (ls := [vR (some (g, 30)), vI s, vI l, vI c, vR (some (g, 15)), vI r, vX 0]) om_X1_add rfl (Nat.le_of_ble_eq_true rfl) ?_
  have hsh := shw_rg (ρ := ρ)
  have hs1 := shw_1 (ρ := ρ)
  have hcn := kw_cnt (s := s) (l := l) (c := c) (v := v) (r := r) h8.2
  have hnew := kw_new (s := s) (l := l) (v := v) (r := r) h8.1 h8.2 hc0 hc1 rfl
  have h20 := kw_20 (s := s) (l := l) (c := c) (v := v) (r := r) h8.1 h8.2
  -- with room for one more
  have fin : ∀ (m : MI) (f : Int), Cg (pJ g) mi m → m g 30 0 = ρ 8 - shw ρ → m g 30 1 = f → (0 ≤ f ∧ f < 200) → m g 30 2 = kw ρ s l c v r 20 → (∀ w, 0 ≤ w → w < ρ 8 - shw ρ → (f + w) % 200 = (mi g 30 1 + (w + shw ρ)) % 200) → (∀ b, 31 ≤ b → b ≤ 36 → m g b = mi g b) → ∀ x6, Run (d+2) mt_X1_add Q (n, mr, 0, 0) m 42 [vR (some (g, 30)), vI s, vI l, vI c, vR (some (g, 15)), vI r, x6] [] := by
    intro m f hC k0 k1 hf k2 hpl kb x6
    have hcel := hW.1 c hc0 hc1
    have k16 : m g 16 = mi g 16 := hC.row (fun k => by simp [pJ])
    have k15 : m g 15 1 = ρ 19 := by rw [hC.at (by simp [pJ]), hW.2]
    refine r_aload_n (dc kc_X1_add_0 22 rfl) rfl <| r_aload_n (dc kc_X1_add_0 23 rfl) rfl <| s_getI (dc kc_X1_add_0 24 rfl) fl_X1_9 <| c_v1r (dc kc_X1_add_0 25 rfl) cl_X1_52 rfl (Nat.le_of_ble_eq_true rfl) (Nat.zero_le _) (Nat.zero_le _) <| u_placeOf (by first | omega | (simp [up] <;> omega)) (by first | omega | (simp [up] <;> omega)) (by first | omega | (simp [up] <;> omega)) (by first | omega | (simp [up] <;> omega)) <| t_i6 (dc kc_X1_add_0 26 rfl) (Nat.le_of_ble_eq_true rfl) rfl <| ?_
    rw [k1, k0]
    generalize hP : (f + (ρ 8 - shw ρ)) % 200 = P at *
    have hP0 : 0 ≤ P ∧ P < 200 := by omega
    refine r_aload_n (dc kc_X1_add_0 27 rfl) rfl <| s_getA (dc kc_X1_add_0 28 rfl) fl_X1_21 (ly_30_3 hL (by assumption)) <| s_iload (dc kc_X1_add_0 29 rfl) rfl <| s_iload_n (dc kc_X1_add_0 30 rfl) rfl <| s_iastore (dc kc_X1_add_0 31 rfl) rfl (by first | omega | (simp [up] <;> omega)) (by first | omega | (simp [up] <;> omega)) <| r_aload_n (dc kc_X1_add_0 32 rfl) rfl <| s_getA (dc kc_X1_add_0 33 rfl) fl_X1_25 (ly_30_4 hL (by assumption)) <| s_iload (dc kc_X1_add_0 34 rfl) rfl <| s_iload_n (dc kc_X1_add_0 35 rfl) rfl <| s_iastore (dc kc_X1_add_0 36 rfl) rfl (by first | omega | (simp [up] <;> omega)) (by first | omega | (simp [up] <;> omega)) <| r_aload_n (dc kc_X1_add_0 37 rfl) rfl <| s_getA (dc kc_X1_add_0 38 rfl) fl_X1_28 (ly_30_5 hL (by assumption)) <| s_iload (dc kc_X1_add_0 39 rfl) rfl <| s_iload_n (dc kc_X1_add_1 0 rfl) rfl <| s_iastore (dc kc_X1_add_1 1 rfl) rfl (by first | omega | (simp [up] <;> omega)) (by first | omega | (simp [up] <;> omega)) <| r_aload_n (dc kc_X1_add_1 2 rfl) rfl <| s_getA (dc kc_X1_add_1 3 rfl) fl_X1_31 (ly_30_6 hL (by assumption)) <| s_iload (dc kc_X1_add_1 4 rfl) rfl <| r_aload (dc kc_X1_add_1 5 rfl) rfl <| s_getA (dc kc_X1_add_1 6 rfl) fl_X1_56 (ly_15_0 hL (by assumption)) <| s_iload_n (dc kc_X1_add_1 7 rfl) rfl <| s_iaload (dc kc_X1_add_1 8 rfl) rfl (by first | omega | (simp [up] <;> omega)) (by first | omega | (simp [up] <;> omega)) <| s_iastore (dc kc_X1_add_1 9 rfl) rfl (by first | omega | (simp [up] <;> omega)) (by first | omega | (simp [up] <;> omega)) <| r_aload_n (dc kc_X1_add_1 10 rfl) rfl <| s_getA (dc kc_X1_add_1 11 rfl) fl_X1_34 (ly_30_7 hL (by assumption)) <| s_iload (dc kc_X1_add_1 12 rfl) rfl <| r_aload (dc kc_X1_add_1 13 rfl) rfl <| s_iload_n (dc kc_X1_add_1 14 rfl) rfl <| c_v1r (dc kc_X1_add_1 15 rfl) cl_X1_61 rfl (Nat.le_of_ble_eq_true rfl) (Nat.zero_le _) (Nat.zero_le _) <| u_markOf <| s_iastore (dc kc_X1_add_1 16 rfl) rfl (by first | omega | (simp [up] <;> omega)) (by first | omega | (simp [up] <;> omega)) <| r_aload_n (dc kc_X1_add_1 17 rfl) rfl <| s_getA (dc kc_X1_add_1 18 rfl) fl_X1_37 (ly_30_8 hL (by assumption)) <| s_iload (dc kc_X1_add_1 19 rfl) rfl <| s_iload (dc kc_X1_add_1 20 rfl) rfl <| s_iastore (dc kc_X1_add_1 21 rfl) rfl (by first | omega | (simp [up] <;> omega)) (by first | omega | (simp [up] <;> omega)) <| r_aload_n (dc kc_X1_add_1 22 rfl) rfl <| s_dup (dc kc_X1_add_1 23 rfl) rfl <| s_getI (dc kc_X1_add_1 24 rfl) fl_X1_9 <| k_i (dc kc_X1_add_1 25 rfl) rfl <| b_iadd (dc kc_X1_add_1 26 rfl) (by first | omega | (simp [up] <;> omega)) (by first | omega | (simp [up] <;> omega)) <| s_putI (dc kc_X1_add_1 27 rfl) fl_X1_9 <| s_return (dc kc_X1_add_1 28 rfl) rfl (Nat.zero_le _) (Nat.zero_le _) ?_
    refine hQ _ ((((((((hC.up (by simp [pJ])).up (by simp [pJ])).up (by simp [pJ])).up (by simp [pJ])).up (by simp [pJ])).up (by simp [pJ])).up (by simp [pJ]))) ⟨?_, ?_, ?_, fun w w0 w1 => ?_⟩
    · rw [up_at, hcn]
      simp only [up_j (show (30 : Nat) ≠ 31 by decide), up_j (show (30 : Nat) ≠ 32 by decide), up_j (show (30 : Nat) ≠ 33 by decide), up_j (show (30 : Nat) ≠ 34 by decide), up_j (show (30 : Nat) ≠ 35 by decide), up_j (show (30 : Nat) ≠ 36 by decide), k0]
    · rw [up_k (by decide)]
      simp only [up_j (show (30 : Nat) ≠ 31 by decide), up_j (show (30 : Nat) ≠ 32 by decide), up_j (show (30 : Nat) ≠ 33 by decide), up_j (show (30 : Nat) ≠ 34 by decide), up_j (show (30 : Nat) ≠ 35 by decide), up_j (show (30 : Nat) ≠ 36 by decide), k1]
      exact hf
    · rw [up_k (by decide)]
      simp only [up_j (show (30 : Nat) ≠ 31 by decide), up_j (show (30 : Nat) ≠ 32 by decide), up_j (show (30 : Nat) ≠ 33 by decide), up_j (show (30 : Nat) ≠ 34 by decide), up_j (show (30 : Nat) ≠ 35 by decide), up_j (show (30 : Nat) ≠ 36 by decide), k2]
    · rw [hcn] at w1
      unfold plc
      rw [up_k (by decide)]
      simp only [up_j (show (30 : Nat) ≠ 31 by decide), up_j (show (30 : Nat) ≠ 32 by decide), up_j (show (30 : Nat) ≠ 33 by decide), up_j (show (30 : Nat) ≠ 34 by decide), up_j (show (30 : Nat) ≠ 35 by decide), up_j (show (30 : Nat) ≠ 36 by decide), k1]
      simp only [up_j (show (31 : Nat) ≠ 30 by decide), up_j (show (31 : Nat) ≠ 32 by decide), up_j (show (31 : Nat) ≠ 33 by decide), up_j (show (31 : Nat) ≠ 34 by decide), up_j (show (31 : Nat) ≠ 35 by decide), up_j (show (31 : Nat) ≠ 36 by decide), up_j (show (32 : Nat) ≠ 30 by decide), up_j (show (32 : Nat) ≠ 31 by decide), up_j (show (32 : Nat) ≠ 33 by decide), up_j (show (32 : Nat) ≠ 34 by decide), up_j (show (32 : Nat) ≠ 35 by decide), up_j (show (32 : Nat) ≠ 36 by decide), up_j (show (33 : Nat) ≠ 30 by decide), up_j (show (33 : Nat) ≠ 31 by decide), up_j (show (33 : Nat) ≠ 32 by decide), up_j (show (33 : Nat) ≠ 34 by decide), up_j (show (33 : Nat) ≠ 35 by decide), up_j (show (33 : Nat) ≠ 36 by decide), up_j (show (34 : Nat) ≠ 30 by decide), up_j (show (34 : Nat) ≠ 31 by decide), up_j (show (34 : Nat) ≠ 32 by decide), up_j (show (34 : Nat) ≠ 33 by decide), up_j (show (34 : Nat) ≠ 35 by decide), up_j (show (34 : Nat) ≠ 36 by decide), up_j (show (35 : Nat) ≠ 30 by decide), up_j (show (35 : Nat) ≠ 31 by decide), up_j (show (35 : Nat) ≠ 32 by decide), up_j (show (35 : Nat) ≠ 33 by decide), up_j (show (35 : Nat) ≠ 34 by decide), up_j (show (35 : Nat) ≠ 36 by decide), up_j (show (36 : Nat) ≠ 30 by decide), up_j (show (36 : Nat) ≠ 31 by decide), up_j (show (36 : Nat) ≠ 32 by decide), up_j (show (36 : Nat) ≠ 33 by decide), up_j (show (36 : Nat) ≠ 34 by decide), up_j (show (36 : Nat) ≠ 35 by decide), up_j (show (16 : Nat) ≠ 31 by decide), up_j (show (16 : Nat) ≠ 32 by decide), up_j (show (16 : Nat) ≠ 33 by decide), up_j (show (15 : Nat) ≠ 31 by decide), up_j (show (15 : Nat) ≠ 32 by decide), up_j (show (15 : Nat) ≠ 33 by decide), up_j (show (15 : Nat) ≠ 34 by decide), up_ud, k15, k16, hcel]
      by_cases e : w < ρ 8 - shw ρ
      · have hne : (f + w) % 200 ≠ P := by rw [← hP]; omega
        have old := ew (w + shw ρ) (by omega) (by omega)
        unfold plc at old
        rw [← hpl w w0 e] at old
        rw [ud_ne hne, ud_ne hne, ud_ne hne, ud_ne hne, ud_ne hne, ud_ne hne, kb 31 (by omega) (by omega), kb 32 (by omega) (by omega), kb 33 (by omega) (by omega), kb 34 (by omega) (by omega), kb 35 (by omega) (by omega), kb 36 (by omega) (by omega), kw_old h8.1 h8.2 w0 e (by omega) (by omega), kw_old h8.1 h8.2 w0 e (by omega) (by omega), kw_old h8.1 h8.2 w0 e (by omega) (by omega), kw_old h8.1 h8.2 w0 e (by omega) (by omega), kw_old h8.1 h8.2 w0 e (by omega) (by omega), kw_old0 h8.1 h8.2 w0 e]
        exact old
      · have ew' : w = ρ 8 - shw ρ := by omega
        have hPe : (f + w) % 200 = P := by rw [ew', hP]
        rw [hPe, ud_at, ud_at, ud_at, ud_at, ud_at, ud_at, ew', hnew.1, hnew.2.1, hnew.2.2.1, hnew.2.2.2.1, hnew.2.2.2.2.1, hnew.2.2.2.2.2.2]
        exact ⟨rfl, rfl, rfl, rfl, rfl, rfl⟩
  refine r_aload_n (dc kc_X1_add_0 0 rfl) rfl <| s_getI (dc kc_X1_add_0 1 rfl) fl_X1_9 <| k_s (dc kc_X1_add_0 2 rfl) rfl <| s_icmp_ne (tgt := 42) (dc kc_X1_add_0 3 rfl) rfl (fun c7 => (?_)) (fun c7 => (r_aload_n (dc kc_X1_add_0 4 rfl) rfl <| r_aload_n (dc kc_X1_add_0 5 rfl) rfl <| s_getA (dc kc_X1_add_0 6 rfl) fl_X1_21 (ly_30_3 hL (by assumption)) <| r_aload_n (dc kc_X1_add_0 7 rfl) rfl <| s_getI (dc kc_X1_add_0 8 rfl) fl_X1_15 <| s_iaload (dc kc_X1_add_0 9 rfl) rfl (by first | omega | (simp [up] <;> omega)) (by first | omega | (simp [up] <;> omega)) <| s_putI (dc kc_X1_add_0 10 rfl) fl_X1_18 <| r_aload_n (dc kc_X1_add_0 11 rfl) rfl <| r_aload_n (dc kc_X1_add_0 12 rfl) rfl <| k_i (dc kc_X1_add_0 13 rfl) rfl <| c_v1r (dc kc_X1_add_0 14 rfl) cl_X1_52 rfl (Nat.le_of_ble_eq_true rfl) (Nat.zero_le _) (Nat.zero_le _) <| u_placeOf (by first | omega | (simp [up] <;> omega)) (by first | omega | (simp [up] <;> omega)) (by first | omega | (simp [up] <;> omega)) (by first | omega | (simp [up] <;> omega)) <| s_putI (dc kc_X1_add_0 15 rfl) fl_X1_15 <| r_aload_n (dc kc_X1_add_0 16 rfl) rfl <| s_dup (dc kc_X1_add_0 17 rfl) rfl <| s_getI (dc kc_X1_add_0 18 rfl) fl_X1_9 <| k_i (dc kc_X1_add_0 19 rfl) rfl <| b_isub (dc kc_X1_add_0 20 rfl) (by first | omega | (simp [up] <;> omega)) (by first | omega | (simp [up] <;> omega)) <| s_putI (dc kc_X1_add_0 21 rfl) fl_X1_9 <| ?_))
  · rw [e0] at c7
    have hs0 : shw ρ = 0 := by omega
    refine fin mi (mi g 30 1) Cg.rf (by rw [e0]; omega) rfl e1 ?_ (fun w a b => by rw [hs0, Int.add_zero]) (fun b _ _ => rfl) _
    rw [e2, h20, if_neg c7]
  · rw [e0] at c7
    have hs0 : shw ρ = 1 := hs1.mpr c7
    have z31 : mi g 31 (mi g 30 1) = ρ 646 := by
      have := (ew 0 (by omega) (by omega)).1
      unfold plc at this
      rw [Int.add_zero, Int.emod_eq_of_lt e1.1 e1.2, show (646 : Int) + 7 * 0 = 646 by decide] at this
      exact this
    have hle : ρ 20 ≤ ρ 646 := by
      have := (hI.1 0 (by omega) (by omega)).2.2.2.2
      rw [show (646 : Int) + 7 * 0 = 646 by decide] at this
      exact this
    have y1 : up mi g 30 2 (mi g 31 (mi g 30 1)) g 30 1 = mi g 30 1 := up_k (by decide)
    have y0 : up (up mi g 30 2 (mi g 31 (mi g 30 1))) g 30 1 ((up mi g 30 2 (mi g 31 (mi g 30 1)) g 30 1 + 1) % 200) g 30 0 = 200 := by rw [up_k (by decide), up_k (by decide), e0, c7]
    rw [y0, y1]
    refine fin _ ((mi g 30 1 + 1) % 200) (((Cg.rf.up (by simp [pJ])).up (by simp [pJ])).up (by simp [pJ])) (by rw [up_at]; omega) (by rw [up_k (by decide), up_at]) (by omega) ?_ (fun w a b => by rw [hs0]; omega) (fun b b0 b1 => by rw [up_j (by omega), up_j (by omega), up_j (by omega)]) _
    rw [up_k (by decide), up_k (by decide), up_at, h20, if_pos c7, z31]
    split <;> omega
theorem u_isKeptFrom {mi : MI} {g : Nat} {s : Int} (hQ : Q (vI (bi (mi g 30 2 < s))) mi n mr) : Tx (d+1) mt_X1_isKeptFrom [vR (some (g, 30)), vI s] mi n mr Q := by
  refine tx_intro (ls := [vR (some (g, 30)), vI s]) om_X1_isKeptFrom rfl (Nat.le_of_ble_eq_true rfl) ?_
  refine r_aload_n (dc kc_X1_isKeptFrom 0 rfl) rfl <| s_getI (dc kc_X1_isKeptFrom 1 rfl) fl_X1_18 <| s_iload_n (dc kc_X1_isKeptFrom 2 rfl) rfl <| s_icmp_ge (tgt := 12) (dc kc_X1_isKeptFrom 3 rfl) rfl (fun c5 => (k_i (dc kc_X1_isKeptFrom 6 rfl) rfl <| s_zreturn (dc kc_X1_isKeptFrom 7 rfl) rfl (by first | exact Or.inl rfl | exact Or.inr rfl | exact bi_01 | assumption) (Nat.zero_le _) (Nat.zero_le _) ?_)) (fun c5 => (k_i (dc kc_X1_isKeptFrom 4 rfl) rfl <| s_goto (tgt := 13) (dc kc_X1_isKeptFrom 5 rfl) rfl <| s_zreturn (dc kc_X1_isKeptFrom 7 rfl) rfl (by first | exact Or.inl rfl | exact Or.inr rfl | exact bi_01 | assumption) (Nat.zero_le _) (Nat.zero_le _) ?_))
  all_goals (first | (rw [bi_t (by omega)] at hQ; exact hQ) | (rw [bi_f (by omega)] at hQ; exact hQ))
theorem u_latestLine (hL : Lay G mr) {mi : MI} {g : Nat} {ρ : Int → Int} (hg : g < G) {c : Int} (hJ : RepJ mi g ρ) (h8 : 0 ≤ ρ 8 ∧ ρ 8 ≤ 200) (hQ : Q (vI (latF ρ c (ρ 8).toNat)) mi n mr) : Tx (d+2) mt_X1_latestLine [vR (some (g, 30)), vI c] mi n mr Q := by
  have hok : okI G 30 g := hg
  obtain ⟨e0, e1, e2, ew⟩ := hJ
  refine tx_intro (ls := [vR (some (g, 30)), vI c, vX 0, vX 0]) om_X1_latestLine rfl (Nat.le_of_ble_eq_true rfl) ?_
  have loop : ∀ w : Nat, w ≤ (ρ 8).toNat → latF ρ c w = latF ρ c (ρ 8).toNat → ∀ x3 : V, Run (d+2) mt_X1_latestLine Q (n, mr, 0, 0) mi 7 [vR (some (g, 30)), vI c, vI ((w : Int) - 1), x3] [] := by
    intro w
    induction w with
    | zero =>
      intro hw hl x3
      refine s_iload_n (dc kc_X1_latestLine 5 rfl) rfl <| s_if_lt (tgt := 49) (dc kc_X1_latestLine 6 rfl) rfl (fun c8 => (k_i (dc kc_X1_latestLine 29 rfl) rfl <| s_ireturn (dc kc_X1_latestLine 30 rfl) rfl (Nat.zero_le _) (Nat.zero_le _) ?_)) (fun c8 => (?_))
      · rw [← hl] at hQ; exact hQ
      · exfalso; omega
    | succ w ih =>
      intro hw hl x3
      have hq := ew w (by omega) (by omega)
      unfold plc at hq
      have e33 := hq.2.2.1
      have e32 := hq.2.1
      have hP : 0 ≤ (mi g 30 1 + (w : Int)) % 200 ∧ (mi g 30 1 + (w : Int)) % 200 < 200 := by omega
      rw [latF] at hl
      rw [show ((w + 1 : Nat) : Int) - 1 = w by omega]
      have nxt : ¬ (ρ (646 + 7 * (w : Int) + 2) = c ∧ 0 ≤ ρ (646 + 7 * (w : Int) + 1)) → ∀ x3, Run (d+2) mt_X1_latestLine Q (n, mr, 0, 0) mi 43 [vR (some (g, 30)), vI c, vI (w : Int), vI x3] [] := by
        intro hn x3
        rw [if_neg hn] at hl
        have := ih (by omega) hl (vI x3)
        refine b_inc2 (dc kc_X1_latestLine 27 rfl) rfl (Nat.le_of_ble_eq_true rfl) rfl (by first | omega | (simp [up] <;> omega)) (by first | omega | (simp [up] <;> omega)) <| s_goto (tgt := 7) (dc kc_X1_latestLine 28 rfl) rfl <| ?_
        exact this
      refine s_iload_n (dc kc_X1_latestLine 5 rfl) rfl <| s_if_lt (tgt := 49) (dc kc_X1_latestLine 6 rfl) rfl (fun c8 => (?_)) (fun c8 => (r_aload_n (dc kc_X1_latestLine 7 rfl) rfl <| s_iload_n (dc kc_X1_latestLine 8 rfl) rfl <| c_v1r (dc kc_X1_latestLine 9 rfl) cl_X1_52 rfl (Nat.le_of_ble_eq_true rfl) (Nat.zero_le _) (Nat.zero_le _) <| u_placeOf (by first | omega | (simp [up] <;> omega)) (by first | omega | (simp [up] <;> omega)) (by first | omega | (simp [up] <;> omega)) (by first | omega | (simp [up] <;> omega)) <| t_i3 (dc kc_X1_latestLine 10 rfl) (Nat.le_of_ble_eq_true rfl) rfl <| r_aload_n (dc kc_X1_latestLine 11 rfl) rfl <| s_getA (dc kc_X1_latestLine 12 rfl) fl_X1_28 (ly_30_5 hL (by assumption)) <| s_iload_n (dc kc_X1_latestLine 13 rfl) rfl <| s_iaload (dc kc_X1_latestLine 14 rfl) rfl (by first | omega | (simp [up] <;> omega)) (by first | omega | (simp [up] <;> omega)) <| s_iload_n (dc kc_X1_latestLine 15 rfl) rfl <| s_icmp_ne (tgt := 43) (dc kc_X1_latestLine 16 rfl) rfl (fun c24 => (?_)) (fun c24 => (r_aload_n (dc kc_X1_latestLine 17 rfl) rfl <| s_getA (dc kc_X1_latestLine 18 rfl) fl_X1_25 (ly_30_4 hL (by assumption)) <| s_iload_n (dc kc_X1_latestLine 19 rfl) rfl <| s_iaload (dc kc_X1_latestLine 20 rfl) rfl (by first | omega | (simp [up] <;> omega)) (by first | omega | (simp [up] <;> omega)) <| s_if_lt (tgt := 43) (dc kc_X1_latestLine 21 rfl) rfl (fun c33 => (?_)) (fun c33 => (r_aload_n (dc kc_X1_latestLine 22 rfl) rfl <| s_getA (dc kc_X1_latestLine 23 rfl) fl_X1_25 (ly_30_4 hL (by assumption)) <| s_iload_n (dc kc_X1_latestLine 24 rfl) rfl <| s_iaload (dc kc_X1_latestLine 25 rfl) rfl (by first | omega | (simp [up] <;> omega)) (by first | omega | (simp [up] <;> omega)) <| s_ireturn (dc kc_X1_latestLine 26 rfl) rfl (Nat.zero_le _) (Nat.zero_le _) ?_))))))
      · exfalso; omega
      · rw [e33] at c24
        exact nxt (fun z => c24 z.1) _
      · rw [e32] at c33
        exact nxt (fun z => by omega) _
      · rw [e33] at c24
        rw [e32] at c33 ⊢
        rw [if_pos ⟨c24, by omega⟩] at hl
        rw [← hl] at hQ
        exact hQ
  refine r_aload_n (dc kc_X1_latestLine 0 rfl) rfl <| s_getI (dc kc_X1_latestLine 1 rfl) fl_X1_9 <| k_i (dc kc_X1_latestLine 2 rfl) rfl <| b_isub (dc kc_X1_latestLine 3 rfl) (by first | omega | (simp [up] <;> omega)) (by first | omega | (simp [up] <;> omega)) <| t_i2 (dc kc_X1_latestLine 4 rfl) (Nat.le_of_ble_eq_true rfl) rfl <| ?_
  have := loop (ρ 8).toNat (Nat.le_refl _) rfl (vX 0)
  rw [show ((ρ 8).toNat : Int) - 1 = mi g 30 0 - 1 by omega] at this
  exact this
theorem u_spreadOf (hL : Lay G mr) {mi : MI} {g : Nat} {ρ : Int → Int} (hg : g < G) {c s : Int} (hJ : RepJ mi g ρ) (h8 : 0 ≤ ρ 8 ∧ ρ 8 ≤ 200) (hQ : Q (vI (sprF ρ s c (ρ 8).toNat)) mi n mr) : Tx (d+2) mt_X1_spreadOf [vR (some (g, 30)), vI c, vI s] mi n mr Q := by
  have hok : okI G 30 g := hg
  obtain ⟨e0, e1, e2, ew⟩ := hJ
  refine tx_intro (ls := [vR (some (g, 30)), vI c, vI s, vX 0, vX 0, vX 0, vX 0, vX 0]) om_X1_spreadOf rfl (Nat.le_of_ble_eq_true rfl) ?_
  have loop : ∀ w : Nat, w ≤ (ρ 8).toNat → ∀ x5 x6 x7 : V, Run (d+2) mt_X1_spreadOf Q (n, mr, 0, 0) mi 7 [vR (some (g, 30)), vI c, vI s, vI (sprF ρ s c w), vI (w : Int), x5, x6, x7] [] := by
    refine nloop ?_
    intro w hw ih x5 x6 x7
    by_cases he : (w : Int) < ρ 8
    · have hq := ew w (by omega) he
      unfold plc at hq
      have hP : 0 ≤ (mi g 30 1 + (w : Int)) % 200 ∧ (mi g 30 1 + (w : Int)) % 200 < 200 := by omega
      have key : ∀ b x5 x6 x7, b = sprF ρ s c (w + 1) → Run (d+2) mt_X1_spreadOf Q (n, mr, 0, 0) mi 94 [vR (some (g, 30)), vI c, vI s, vI b, vI (w : Int), x5, x6, x7] [] := by
        intro b x5 x6 x7 eb
        subst eb
        refine b_inc4 (dc kc_X1_spreadOf_1 15 rfl) rfl (Nat.le_of_ble_eq_true rfl) rfl (by first | omega | (simp [up] <;> omega)) (by first | omega | (simp [up] <;> omega)) <| s_goto (tgt := 7) (dc kc_X1_spreadOf_1 16 rfl) rfl <| ?_
        exact ih (by omega) _ _ _
      refine s_iload (dc kc_X1_spreadOf_0 6 rfl) rfl <| r_aload_n (dc kc_X1_spreadOf_0 7 rfl) rfl <| s_getI (dc kc_X1_spreadOf_0 8 rfl) fl_X1_9 <| s_icmp_ge (tgt := 100) (dc kc_X1_spreadOf_0 9 rfl) rfl (fun c13 => (?_)) (fun c13 => (r_aload_n (dc kc_X1_spreadOf_0 10 rfl) rfl <| s_iload (dc kc_X1_spreadOf_0 11 rfl) rfl <| c_v1r (dc kc_X1_spreadOf_0 12 rfl) cl_X1_52 rfl (Nat.le_of_ble_eq_true rfl) (Nat.zero_le _) (Nat.zero_le _) <| u_placeOf (by first | omega | (simp [up] <;> omega)) (by first | omega | (simp [up] <;> omega)) (by first | omega | (simp [up] <;> omega)) (by first | omega | (simp [up] <;> omega)) <| t_i5 (dc kc_X1_spreadOf_0 13 rfl) (Nat.le_of_ble_eq_true rfl) rfl <| r_aload_n (dc kc_X1_spreadOf_0 14 rfl) rfl <| s_getA (dc kc_X1_spreadOf_0 15 rfl) fl_X1_21 (ly_30_3 hL (by assumption)) <| s_iload (dc kc_X1_spreadOf_0 16 rfl) rfl <| s_iaload (dc kc_X1_spreadOf_0 17 rfl) rfl (by first | omega | (simp [up] <;> omega)) (by first | omega | (simp [up] <;> omega)) <| s_iload_n (dc kc_X1_spreadOf_0 18 rfl) rfl <| s_icmp_lt (tgt := 94) (dc kc_X1_spreadOf_0 19 rfl) rfl (fun c32 => (?_)) (fun c32 => (k_i (dc kc_X1_spreadOf_0 20 rfl) rfl <| r_aload_n (dc kc_X1_spreadOf_0 21 rfl) rfl <| s_getA (dc kc_X1_spreadOf_0 22 rfl) fl_X1_28 (ly_30_5 hL (by assumption)) <| s_iload (dc kc_X1_spreadOf_0 23 rfl) rfl <| s_iaload (dc kc_X1_spreadOf_0 24 rfl) rfl (by first | omega | (simp [up] <;> omega)) (by first | omega | (simp [up] <;> omega)) <| s_ishl (dc kc_X1_spreadOf_0 25 rfl) <| t_i6 (dc kc_X1_spreadOf_0 26 rfl) (Nat.le_of_ble_eq_true rfl) rfl <| r_aload_n (dc kc_X1_spreadOf_0 27 rfl) rfl <| s_getA (dc kc_X1_spreadOf_0 28 rfl) fl_X1_25 (ly_30_4 hL (by assumption)) <| s_iload (dc kc_X1_spreadOf_0 29 rfl) rfl <| s_iaload (dc kc_X1_spreadOf_0 30 rfl) rfl (by first | omega | (simp [up] <;> omega)) (by first | omega | (simp [up] <;> omega)) <| s_if_lt (tgt := 72) (dc kc_X1_spreadOf_0 31 rfl) rfl (fun c53 => (k_i (dc kc_X1_spreadOf_1 1 rfl) rfl <| ?_)) (fun c53 => (r_aload_n (dc kc_X1_spreadOf_0 32 rfl) rfl <| s_getA (dc kc_X1_spreadOf_0 33 rfl) fl_X1_37 (ly_30_8 hL (by assumption)) <| s_iload (dc kc_X1_spreadOf_0 34 rfl) rfl <| s_iaload (dc kc_X1_spreadOf_0 35 rfl) rfl (by first | omega | (simp [up] <;> omega)) (by first | omega | (simp [up] <;> omega)) <| s_iload_n (dc kc_X1_spreadOf_0 36 rfl) rfl <| s_iand (dc kc_X1_spreadOf_0 37 rfl) <| s_if_eq (tgt := 72) (dc kc_X1_spreadOf_0 38 rfl) rfl (fun c65 => (k_i (dc kc_X1_spreadOf_1 1 rfl) rfl <| ?_)) (fun c65 => (k_i (dc kc_X1_spreadOf_0 39 rfl) rfl <| s_goto (tgt := 73) (dc kc_X1_spreadOf_1 0 rfl) rfl <| ?_))))))))
      · exfalso; omega
      · rw [hq.1] at c32
        exact key _ _ _ _ (by rw [sprF, if_neg (by omega)])
      all_goals rw [hq.1] at c32
      all_goals rw [hq.2.1] at c53
      · refine t_i7 (dc kc_X1_spreadOf_1 2 rfl) (Nat.le_of_ble_eq_true rfl) rfl <| s_iload (dc kc_X1_spreadOf_1 3 rfl) rfl <| s_if_eq (tgt := 87) (dc kc_X1_spreadOf_1 4 rfl) rfl (fun c77 => (s_iload_n (dc kc_X1_spreadOf_1 9 rfl) rfl <| s_iload (dc kc_X1_spreadOf_1 10 rfl) rfl <| k_i (dc kc_X1_spreadOf_1 11 rfl) rfl <| s_ixor (dc kc_X1_spreadOf_1 12 rfl) <| s_iand (dc kc_X1_spreadOf_1 13 rfl) <| t_i3 (dc kc_X1_spreadOf_1 14 rfl) (Nat.le_of_ble_eq_true rfl) rfl <| ?_)) (fun c77 => (s_iload_n (dc kc_X1_spreadOf_1 5 rfl) rfl <| s_iload (dc kc_X1_spreadOf_1 6 rfl) rfl <| s_ior (dc kc_X1_spreadOf_1 7 rfl) <| s_goto (tgt := 93) (dc kc_X1_spreadOf_1 8 rfl) rfl <| t_i3 (dc kc_X1_spreadOf_1 14 rfl) (Nat.le_of_ble_eq_true rfl) rfl <| ?_))
        · rw [hq.2.2.1]
          exact key _ _ _ _ (by rw [sprF, if_pos (by omega), if_neg (fun z => by omega)])
        · exfalso; omega
      · rw [hq.2.2.2.2.2] at c65
        refine t_i7 (dc kc_X1_spreadOf_1 2 rfl) (Nat.le_of_ble_eq_true rfl) rfl <| s_iload (dc kc_X1_spreadOf_1 3 rfl) rfl <| s_if_eq (tgt := 87) (dc kc_X1_spreadOf_1 4 rfl) rfl (fun c77 => (s_iload_n (dc kc_X1_spreadOf_1 9 rfl) rfl <| s_iload (dc kc_X1_spreadOf_1 10 rfl) rfl <| k_i (dc kc_X1_spreadOf_1 11 rfl) rfl <| s_ixor (dc kc_X1_spreadOf_1 12 rfl) <| s_iand (dc kc_X1_spreadOf_1 13 rfl) <| t_i3 (dc kc_X1_spreadOf_1 14 rfl) (Nat.le_of_ble_eq_true rfl) rfl <| ?_)) (fun c77 => (s_iload_n (dc kc_X1_spreadOf_1 5 rfl) rfl <| s_iload (dc kc_X1_spreadOf_1 6 rfl) rfl <| s_ior (dc kc_X1_spreadOf_1 7 rfl) <| s_goto (tgt := 93) (dc kc_X1_spreadOf_1 8 rfl) rfl <| t_i3 (dc kc_X1_spreadOf_1 14 rfl) (Nat.le_of_ble_eq_true rfl) rfl <| ?_))
        · rw [hq.2.2.1]
          exact key _ _ _ _ (by rw [sprF, if_pos (by omega), if_neg (fun z => z.2 c65)])
        · exfalso; omega
      · rw [hq.2.2.2.2.2] at c65
        refine t_i7 (dc kc_X1_spreadOf_1 2 rfl) (Nat.le_of_ble_eq_true rfl) rfl <| s_iload (dc kc_X1_spreadOf_1 3 rfl) rfl <| s_if_eq (tgt := 87) (dc kc_X1_spreadOf_1 4 rfl) rfl (fun c77 => (s_iload_n (dc kc_X1_spreadOf_1 9 rfl) rfl <| s_iload (dc kc_X1_spreadOf_1 10 rfl) rfl <| k_i (dc kc_X1_spreadOf_1 11 rfl) rfl <| s_ixor (dc kc_X1_spreadOf_1 12 rfl) <| s_iand (dc kc_X1_spreadOf_1 13 rfl) <| t_i3 (dc kc_X1_spreadOf_1 14 rfl) (Nat.le_of_ble_eq_true rfl) rfl <| ?_)) (fun c77 => (s_iload_n (dc kc_X1_spreadOf_1 5 rfl) rfl <| s_iload (dc kc_X1_spreadOf_1 6 rfl) rfl <| s_ior (dc kc_X1_spreadOf_1 7 rfl) <| s_goto (tgt := 93) (dc kc_X1_spreadOf_1 8 rfl) rfl <| t_i3 (dc kc_X1_spreadOf_1 14 rfl) (Nat.le_of_ble_eq_true rfl) rfl <| ?_))
        · exfalso; omega
        · rw [hq.2.2.1]
          exact key _ _ _ _ (by rw [sprF, if_pos (by omega), if_pos ⟨by omega, c65⟩])
    · refine s_iload (dc kc_X1_spreadOf_0 6 rfl) rfl <| r_aload_n (dc kc_X1_spreadOf_0 7 rfl) rfl <| s_getI (dc kc_X1_spreadOf_0 8 rfl) fl_X1_9 <| s_icmp_ge (tgt := 100) (dc kc_X1_spreadOf_0 9 rfl) rfl (fun c13 => (s_iload_n (dc kc_X1_spreadOf_1 17 rfl) rfl <| s_ireturn (dc kc_X1_spreadOf_1 18 rfl) rfl (Nat.zero_le _) (Nat.zero_le _) ?_)) (fun c13 => (?_))
      · rw [show w = (ρ 8).toNat by omega]; exact hQ
      · exfalso; omega
  refine k_i (dc kc_X1_spreadOf_0 0 rfl) rfl <| s_iload_n (dc kc_X1_spreadOf_0 1 rfl) rfl <| s_ishl (dc kc_X1_spreadOf_0 2 rfl) <| t_i3 (dc kc_X1_spreadOf_0 3 rfl) (Nat.le_of_ble_eq_true rfl) rfl <| k_i (dc kc_X1_spreadOf_0 4 rfl) rfl <| t_i4 (dc kc_X1_spreadOf_0 5 rfl) (Nat.le_of_ble_eq_true rfl) rfl <| ?_
  exact loop 0 (Nat.zero_le _) _ _ _
theorem u_noteStep (hL : Lay G mr) {mi : MI} {g : Nat} (hg : g < G) {s l b : Int} (hs0 : 0 ≤ s) (hs1 : s < 2147483648) (hb : b = 0 ∨ b = 1) (hQ : Q (vX 0) (up (up mi g 37 (s % 200) l) g 38 (s % 200) b) n mr) : Tx (d+2) mt_X1_noteStep [vR (some (g, 30)), vI s, vI l, vI b] mi n mr Q := by
  have hok : okI G 30 g := hg
  refine tx_intro (ls := [vR (some (g, 30)), vI s, vI l, vI b, vX 0]) om_X1_noteStep rfl (Nat.le_of_ble_eq_true rfl) ?_
  refine s_iload_n (dc kc_X1_noteStep 0 rfl) rfl <| k_s (dc kc_X1_noteStep 1 rfl) rfl <| c_s2r (dc kc_X1_noteStep 2 rfl) cl_X1_68 rfl (Nat.le_of_ble_eq_true rfl) (Nat.zero_le _) (Nat.zero_le _) ?_
  refine u_floorMod hs0 hs1 (by decide) (by decide) ?_
  refine t_i4 (dc kc_X1_noteStep 3 rfl) (Nat.le_of_ble_eq_true rfl) rfl <| r_aload_n (dc kc_X1_noteStep 4 rfl) rfl <| s_getA (dc kc_X1_noteStep 5 rfl) fl_X1_40 (ly_30_9 hL (by assumption)) <| s_iload (dc kc_X1_noteStep 6 rfl) rfl <| s_iload_n (dc kc_X1_noteStep 7 rfl) rfl <| s_iastore (dc kc_X1_noteStep 8 rfl) rfl (by first | omega | (simp [up] <;> omega)) (by first | omega | (simp [up] <;> omega)) <| r_aload_n (dc kc_X1_noteStep 9 rfl) rfl <| s_getA (dc kc_X1_noteStep 10 rfl) fl_X1_43 (ly_30_10 hL (by assumption)) <| s_iload (dc kc_X1_noteStep 11 rfl) rfl <| s_iload_n (dc kc_X1_noteStep 12 rfl) rfl <| s_if_eq (tgt := 31) (dc kc_X1_noteStep 13 rfl) rfl (fun c24 => (k_i (dc kc_X1_noteStep 16 rfl) rfl <| s_iastore (dc kc_X1_noteStep 17 rfl) rfl (by first | omega | (simp [up] <;> omega)) (by first | omega | (simp [up] <;> omega)) <| s_return (dc kc_X1_noteStep 18 rfl) rfl (Nat.zero_le _) (Nat.zero_le _) ?_)) (fun c24 => (k_i (dc kc_X1_noteStep 14 rfl) rfl <| s_goto (tgt := 32) (dc kc_X1_noteStep 15 rfl) rfl <| s_iastore (dc kc_X1_noteStep 17 rfl) rfl (by first | omega | (simp [up] <;> omega)) (by first | omega | (simp [up] <;> omega)) <| s_return (dc kc_X1_noteStep 18 rfl) rfl (Nat.zero_le _) (Nat.zero_le _) ?_))
  · rw [show b = 0 by omega] at hQ; exact hQ
  · rw [show b = 1 by omega] at hQ; exact hQ
theorem u_lineOf (hL : Lay G mr) {mi : MI} {g : Nat} (hg : g < G) {s : Int} (hs0 : 0 ≤ s) (hs1 : s < 2147483648) (hQ : Q (vI (mi g 37 (s % 200))) mi n mr) : Tx (d+2) mt_X1_lineOf [vR (some (g, 30)), vI s] mi n mr Q := by
  have hok : okI G 30 g := hg
  refine tx_intro (ls := [vR (some (g, 30)), vI s]) om_X1_lineOf rfl (Nat.le_of_ble_eq_true rfl) ?_
  refine r_aload_n (dc kc_X1_lineOf 0 rfl) rfl <| s_getA (dc kc_X1_lineOf 1 rfl) fl_X1_40 (ly_30_9 hL (by assumption)) <| s_iload_n (dc kc_X1_lineOf 2 rfl) rfl <| k_s (dc kc_X1_lineOf 3 rfl) rfl <| c_s2r (dc kc_X1_lineOf 4 rfl) cl_X1_68 rfl (Nat.le_of_ble_eq_true rfl) (Nat.zero_le _) (Nat.zero_le _) ?_
  refine u_floorMod hs0 hs1 (by decide) (by decide) ?_
  refine s_iaload (dc kc_X1_lineOf 5 rfl) rfl (by first | omega | (simp [up] <;> omega)) (by first | omega | (simp [up] <;> omega)) <| s_ireturn (dc kc_X1_lineOf 6 rfl) rfl (Nat.zero_le _) (Nat.zero_le _) ?_
  exact hQ
theorem u_wasAmiss (hL : Lay G mr) {mi : MI} {g : Nat} (hg : g < G) {s : Int} (hs0 : 0 ≤ s) (hs1 : s < 2147483648) (hQ : Q (vI (bi (mi g 38 (s % 200) = 1))) mi n mr) : Tx (d+2) mt_X1_wasAmiss [vR (some (g, 30)), vI s] mi n mr Q := by
  have hok : okI G 30 g := hg
  refine tx_intro (ls := [vR (some (g, 30)), vI s]) om_X1_wasAmiss rfl (Nat.le_of_ble_eq_true rfl) ?_
  refine r_aload_n (dc kc_X1_wasAmiss 0 rfl) rfl <| s_getA (dc kc_X1_wasAmiss 1 rfl) fl_X1_43 (ly_30_10 hL (by assumption)) <| s_iload_n (dc kc_X1_wasAmiss 2 rfl) rfl <| k_s (dc kc_X1_wasAmiss 3 rfl) rfl <| c_s2r (dc kc_X1_wasAmiss 4 rfl) cl_X1_68 rfl (Nat.le_of_ble_eq_true rfl) (Nat.zero_le _) (Nat.zero_le _) ?_
  refine u_floorMod hs0 hs1 (by decide) (by decide) ?_
  refine s_iaload (dc kc_X1_wasAmiss 5 rfl) rfl (by first | omega | (simp [up] <;> omega)) (by first | omega | (simp [up] <;> omega)) <| k_i (dc kc_X1_wasAmiss 6 rfl) rfl <| s_icmp_ne (tgt := 20) (dc kc_X1_wasAmiss 7 rfl) rfl (fun c13 => (k_i (dc kc_X1_wasAmiss 10 rfl) rfl <| s_zreturn (dc kc_X1_wasAmiss 11 rfl) rfl (by first | exact Or.inl rfl | exact Or.inr rfl | exact bi_01 | assumption) (Nat.zero_le _) (Nat.zero_le _) ?_)) (fun c13 => (k_i (dc kc_X1_wasAmiss 8 rfl) rfl <| s_goto (tgt := 21) (dc kc_X1_wasAmiss 9 rfl) rfl <| s_zreturn (dc kc_X1_wasAmiss 11 rfl) rfl (by first | exact Or.inl rfl | exact Or.inr rfl | exact bi_01 | assumption) (Nat.zero_le _) (Nat.zero_le _) ?_))
  all_goals (first | (rw [bi_t (by omega)] at hQ; exact hQ) | (rw [bi_f (by omega)] at hQ; exact hQ))
theorem u_leaveOut (hL : Lay G mr) {mi : MI} {g : Nat} (hg : g < G) {s : Int} (hs0 : 0 ≤ s) (hs1 : s < 2147483648) (hQ : Q (vX 0) (up mi g 37 (s % 200) (-1)) n mr) : Tx (d+2) mt_X1_leaveOut [vR (some (g, 30)), vI s] mi n mr Q := by
  have hok : okI G 30 g := hg
  refine tx_intro (ls := [vR (some (g, 30)), vI s]) om_X1_leaveOut rfl (Nat.le_of_ble_eq_true rfl) ?_
  refine r_aload_n (dc kc_X1_leaveOut 0 rfl) rfl <| s_getA (dc kc_X1_leaveOut 1 rfl) fl_X1_40 (ly_30_9 hL (by assumption)) <| s_iload_n (dc kc_X1_leaveOut 2 rfl) rfl <| k_s (dc kc_X1_leaveOut 3 rfl) rfl <| c_s2r (dc kc_X1_leaveOut 4 rfl) cl_X1_68 rfl (Nat.le_of_ble_eq_true rfl) (Nat.zero_le _) (Nat.zero_le _) ?_
  refine u_floorMod hs0 hs1 (by decide) (by decide) ?_
  refine k_i (dc kc_X1_leaveOut 5 rfl) rfl <| s_iastore (dc kc_X1_leaveOut 6 rfl) rfl (by first | omega | (simp [up] <;> omega)) (by first | omega | (simp [up] <;> omega)) <| s_return (dc kc_X1_leaveOut 7 rfl) rfl (Nat.zero_le _) (Nat.zero_le _) ?_
  exact hQ
end JRN
