/-! the class: a state becomes another -/
theorem slcC_ext {f f' : Int → Int} : ∀ (n : Nat) (k : Int), (∀ j, k ≤ j → j < k + n → f' j = f j) → slcC f' n k = slcC f n k
  | 0, _, _ => rfl
  | n + 1, k, h => by
    rw [slcC, slcC, h k (by omega) (by omega), slcC_ext n (k + 1) (fun j a b => h j (by omega) (by omega))]
/-- one text is as the other -/
def TxE (mi' mi : MI) (a b : Nat) : Prop := (mi' a 20 0 = mi b 20 0 ∧ mi' a 20 1 = mi b 20 1) ∧ (∀ i, 0 ≤ i → i < mi b 20 1 → mi' a 21 i = mi b 21 i) ∧ ∀ i, 0 ≤ i → i < 12 → mi' a 22 i = mi b 22 i ∧ mi' a 23 i = mi b 23 i ∧ mi' a 24 i = mi b 24 i ∧ mi' a 25 i = mi b 25 i ∧ mi' a 26 i = mi b 26 i ∧ mi' a 27 i = mi b 27 i
theorem TxE.S {mi mi' : MI} {a b : Nat} (h : TxE mi' mi a b) (hs : TxS mi b) (h12 : mi b 20 0 ≤ 12) : TxS mi' a := by
  obtain ⟨⟨e0, e1⟩, _, e⟩ := h
  refine ⟨by rw [e1]; exact hs.1, fun l x y => ?_⟩
  rw [e0] at y
  rw [e1, (e l x (by omega)).2.2.2.1]
  exact hs.2 l x y
theorem TxE.slc {mi mi' : MI} {a b : Nat} (h : TxE mi' mi a b) {f t : Int} (h0 : 0 ≤ f) (ht : t ≤ mi b 20 1) : slcC (mi' a 21) (t - f).toNat f = slcC (mi b 21) (t - f).toNat f := slcC_ext _ _ (fun j x y => h.2.1 j (by omega) (by omega))
theorem TxE.lw {mi mi' : MI} {a b : Nat} (h : TxE mi' mi a b) (hs : TxS mi b) (h12 : mi b 20 0 ≤ 12) {l : Int} {k : List CT} (h0 : 0 ≤ l) (h1 : l < mi b 20 0) (hk : LwT mi b l k) : LwT mi' a l k := by
  obtain ⟨e22, e23, e24, e25, e26, e27⟩ := h.2.2 l h0 (by omega)
  have := hs.2 l h0 h1
  unfold LwT at *
  rw [e22, e25, h.slc hk.1 this]
  exact hk
theorem TxE.ln {mi mi' : MI} {a b : Nat} (h : TxE mi' mi a b) (hs : TxS mi b) (h12 : mi b 20 0 ≤ 12) {l t : Int} {p v w : List CT} (h0 : 0 ≤ l) (h1 : l < mi b 20 0) (hk : LnT mi b l t p v w) : LnT mi' a l t p v w := by
  obtain ⟨e22, e23, e24, e25, e26, e27⟩ := h.2.2 l h0 (by omega)
  have hz := hs.2 l h0 h1
  unfold LnT at *
  obtain ⟨k1, k2, k3, k4⟩ := hk
  rw [e22, e23, e24, e25, e26, h.slc k3.1 (by omega), h.slc (by omega) (by omega), h.slc (by omega) hz]
  exact ⟨k1, k2, k3, k4⟩
theorem Rep_copy {mi mi' : MI} {g h : Nat} {ρ : Int → Int} (hR : Rep (-1) mi h ρ) (hS1 : TxS mi h) (hS2 : TxS mi (h + 10)) (h16 : ρ 16 ≤ 12) (h17 : ρ 17 ≤ 12)
    (w16 : ∀ i, 0 ≤ i → i < 24 → mi' g 16 i = mi h 16 i) (w15 : mi' g 15 1 = mi h 15 1) (t1 : TxE mi' mi g h) (t2 : TxE mi' mi (g + 10) (h + 10))
    (j30 : mi' g 30 0 = mi h 30 0 ∧ mi' g 30 1 = mi h 30 1 ∧ mi' g 30 2 = mi h 30 2) (jr : ∀ i, 0 ≤ i → i < 200 → mi' g 31 i = mi h 31 i ∧ mi' g 32 i = mi h 32 i ∧ mi' g 33 i = mi h 33 i ∧ mi' g 34 i = mi h 34 i ∧ mi' g 35 i = mi h 35 i ∧ mi' g 36 i = mi h 36 i ∧ mi' g 37 i = mi h 37 i ∧ mi' g 38 i = mi h 38 i)
    (h40 : mi' g 40 0 = mi h 40 0 ∧ mi' g 40 1 = mi h 40 1 ∧ mi' g 40 2 = mi h 40 2) (hr : ∀ i, 0 ≤ i → i < 12 → mi' g 41 i = mi h 41 i ∧ mi' g 42 i = mi h 42 i ∧ mi' g 43 i = mi h 43 i)
    (c6 : ∀ i, 0 ≤ i → i < 8 → mi' g 6 i = mi h 6 i) (c7 : ∀ i, 0 ≤ i → i < 100 → mi' g 7 i = mi h 7 i) (c8 : ∀ i, 0 ≤ i → i < 24 → mi' g 8 i = mi h 8 i) (c9 : ∀ i, 0 ≤ i → i < 5 → mi' g 9 i = mi h 9 i) (c10 : ∀ i, 0 ≤ i → i < 24 → mi' g 10 i = mi h 10 i)
    (c5 : mi' g 5 10 = mi h 5 10 ∧ mi' g 5 11 = mi h 5 11 ∧ mi' g 5 12 = mi h 5 12 ∧ mi' g 5 13 = mi h 5 13) : Rep (-1) mi' g ρ ∧ TxS mi' g ∧ TxS mi' (g + 10) := by
  obtain ⟨rW, rL, rN, rJ, rS, rH, rC⟩ := hR
  have l12 : mi h 20 0 ≤ 12 := by rw [rL.1]; exact h16
  have n12 : mi (h + 10) 20 0 ≤ 12 := by rw [rN.1]; exact h17
  refine ⟨⟨⟨fun i a b => by rw [w16 i a b]; exact rW.1 i a b, by rw [w15]; exact rW.2⟩, ⟨by rw [t1.1.1]; exact rL.1, fun l a b => ?_⟩, ⟨by rw [t2.1.1]; exact rN.1, fun j a b => t2.ln hS2 n12 a (by rw [rN.1]; exact b) (rN.2 j a b)⟩, ⟨by rw [j30.1]; exact rJ.1, by rw [j30.2.1]; exact rJ.2.1, by rw [j30.2.2]; exact rJ.2.2.1, fun w a b => ?_⟩, fun s a b => ?_, ⟨by rw [h40.1]; exact rH.1, by rw [h40.2.1]; exact rH.2.1, fun z => by rw [h40.2.2]; exact rH.2.2.1 z, fun z => by rw [h40.2.2]; exact rH.2.2.2.1 z, fun l a b => ?_⟩, ⟨fun k a b c => by rw [c6 k a b]; exact rC.1 k a b c, fun i a b => by rw [c7 i a b]; exact rC.2.1 i a b, fun i a b => by rw [c8 i a b]; exact rC.2.2.1 i a b, fun i a b => by rw [c9 i a b]; exact rC.2.2.2.1 i a b, fun i a b => by rw [c10 i a b]; exact rC.2.2.2.2.1 i a b, ?_⟩⟩, t1.S hS1 l12, t2.S hS2 n12⟩
  · obtain ⟨e22, e23, e24, e25, e26, e27⟩ := t1.2.2 l a (by omega)
    have := rL.2 l a b
    exact ⟨t1.lw hS1 l12 a (by rw [rL.1]; exact b) this.1, by rw [e27]; exact this.2⟩
  · have hp : plc mi' g w = plc mi h w := by unfold plc; rw [j30.2.1]
    rw [hp]
    have hb : 0 ≤ plc mi h w ∧ plc mi h w < 200 := by unfold plc; omega
    obtain ⟨e1, e2, e3, e4, e5, e6, _⟩ := jr _ hb.1 hb.2
    rw [e1, e2, e3, e4, e5, e6]
    exact rJ.2.2.2 w a b
  · obtain ⟨_, _, _, _, _, _, e7, e8⟩ := jr s a b
    rw [e7, e8]; exact rS s a b
  · obtain ⟨e1, e2, e3⟩ := hr l a b
    rw [e1, e2, e3]; exact rH.2.2.2.2 l a b
  · rw [c5.1, c5.2.1, c5.2.2.1, c5.2.2.2]; exact rC.2.2.2.2.2
section STB
variable {d n G : Nat} {mr : MR} {Q : V → MI → Nat → MR → Prop}
theorem u_stateBecome (hL : Lay G mr) {mi : MI} {g h : Nat} {ρ : Int → Int} (hG : G ≤ 4) (hg : g < G) (hh : h < G) (hne : g ≠ h) (hR : Rep (-1) mi h ρ) (hS1 : TxS mi h) (hS2 : TxS mi (h + 10)) (h16 : ρ 16 ≤ 12) (h17 : ρ 17 ≤ 12) (h14 : ρ 14 = 0 ∨ ρ 14 = 1) (hQ : ∀ mi', Cg (fun a b _ => rlS g a b) mi mi' → Rep (-1) mi' g ρ → TxS mi' g → TxS mi' (g + 10) → Q (vX 0) mi' n mr) : Tx (d+2) mt_X7_become [vR (some (g, 5)), vR (some (h, 5))] mi n mr Q := by
  have hok : okI G 5 g := hg
  have hok2 : okI G 5 h := hh
  have hne' : h ≠ g := fun z => hne z.symm
  have n1 : h + 10 ≠ g := by omega
  have n2 : h ≠ g + 10 := by omega
  have n3 : h + 10 ≠ g + 10 := by omega
  have n4 : g ≠ g + 10 := by omega
  have n5 : g + 10 ≠ g := by omega
  have e14 : mi h 5 10 = ρ 14 := hR.2.2.2.2.2.2.2.2.2.2.2.1
  refine tx_intro (ls := [vR (some (g, 5)), vR (some (h, 5))]) om_X7_become rfl (Nat.le_of_ble_eq_true rfl) ?_
  refine r_aload_n (dc kc_X7_become_0 0 rfl) rfl <| s_getO (dc kc_X7_become_0 1 rfl) fl_X7_12 (ly_5_0 hL (by assumption)) <| r_aload_n (dc kc_X7_become_0 2 rfl) rfl <| s_getO (dc kc_X7_become_0 3 rfl) fl_X7_12 (ly_5_0 hL (by assumption)) <| c_v1 (dc kc_X7_become_0 4 rfl) cl_X7_72 rfl (Nat.le_of_ble_eq_true rfl) (Nat.zero_le _) (Nat.zero_le _) ?_
  refine u_webBecome hL (Or.inl hg) (Or.inl hh) (fun m1 g1 w16 w15 => ?_)
  refine r_aload_n (dc kc_X7_become_0 5 rfl) rfl <| s_getO (dc kc_X7_become_0 6 rfl) fl_X7_21 (ly_5_1 hL (by assumption)) <| r_aload_n (dc kc_X7_become_0 7 rfl) rfl <| s_getO (dc kc_X7_become_0 8 rfl) fl_X7_21 (ly_5_1 hL (by assumption)) <| c_v1 (dc kc_X7_become_0 9 rfl) cl_X7_76 rfl (Nat.le_of_ble_eq_true rfl) (Nat.zero_le _) (Nat.zero_le _) ?_
  refine u_textBecome hL (Or.inl hg) (Or.inl hh) hne (by rw [g1.at (by simp)]; exact hS1.1) (fun m2 g2 a1 a2 a3 => ?_)
  refine r_aload_n (dc kc_X7_become_0 10 rfl) rfl <| s_getO (dc kc_X7_become_0 11 rfl) fl_X7_25 (ly_5_2 hL (by assumption)) <| r_aload_n (dc kc_X7_become_0 12 rfl) rfl <| s_getO (dc kc_X7_become_0 13 rfl) fl_X7_25 (ly_5_2 hL (by assumption)) <| c_v1 (dc kc_X7_become_0 14 rfl) cl_X7_76 rfl (Nat.le_of_ble_eq_true rfl) (Nat.zero_le _) (Nat.zero_le _) ?_
  refine u_textBecome hL (Or.inr (Or.inl ⟨by omega, by omega⟩)) (Or.inr (Or.inl ⟨by omega, by omega⟩)) (by omega) (by rw [g2.at (by simp [n1]), g1.at (by simp)]; exact hS2.1) (fun m3 g3 b1 b2 b3 => ?_)
  refine r_aload_n (dc kc_X7_become_0 15 rfl) rfl <| s_getO (dc kc_X7_become_0 16 rfl) fl_X7_31 (ly_5_3 hL (by assumption)) <| r_aload_n (dc kc_X7_become_0 17 rfl) rfl <| s_getO (dc kc_X7_become_0 18 rfl) fl_X7_31 (ly_5_3 hL (by assumption)) <| c_v1 (dc kc_X7_become_0 19 rfl) cl_X7_79 rfl (Nat.le_of_ble_eq_true rfl) (Nat.zero_le _) (Nat.zero_le _) ?_
  refine u_journalBecome hL hg hh hne (fun m4 g4 j1 j2 => ?_)
  refine r_aload_n (dc kc_X7_become_0 20 rfl) rfl <| s_getO (dc kc_X7_become_0 21 rfl) fl_X7_38 (ly_5_4 hL (by assumption)) <| r_aload_n (dc kc_X7_become_0 22 rfl) rfl <| s_getO (dc kc_X7_become_0 23 rfl) fl_X7_38 (ly_5_4 hL (by assumption)) <| c_v1 (dc kc_X7_become_0 24 rfl) cl_X7_82 rfl (Nat.le_of_ble_eq_true rfl) (Nat.zero_le _) (Nat.zero_le _) ?_
  refine u_watchBecome hL hg hh hne (fun m5 g5 k1 k2 => ?_)
  have r5 : ∀ a, a ≠ g → a ≠ g + 10 → m5 a = mi a := fun a z1 z2 => by
    funext b k
    rw [g5.at (by simp [z1]), g4.at (by simp [z1]), g3.at (by simp [z2]), g2.at (by simp [z1]), g1.at (by simp [z1])]
  have rh : m5 h = mi h := r5 h hne' n2
  have key : ∀ M : MI, Cg (fun a b _ => a == g && (6 ≤ b && b ≤ 10)) m5 M → (∀ i, 0 ≤ i → i < 8 → M g 6 i = mi h 6 i) → (∀ i, 0 ≤ i → i < 100 → M g 7 i = mi h 7 i) → (∀ i, 0 ≤ i → i < 24 → M g 8 i = mi h 8 i) → (∀ i, 0 ≤ i → i < 5 → M g 9 i = mi h 9 i) → (∀ i, 0 ≤ i → i < 24 → M g 10 i = mi h 10 i) → Run (d+2) mt_X7_become Q (n, mr, 0, 0) M 129 [vR (some (g, 5)), vR (some (h, 5))] [] := by
    intro M gM c6 c7 c8 c9 c10
    have rM : M h = mi h := by
      funext b k
      rw [gM.at (by simp [hne']), rh]
    have h10 : M h 5 10 = 0 ∨ M h 5 10 = 1 := by rw [rM, e14]; exact h14
    have fin : ∀ F : MI, Cg (fun a b _ => a == g && b == 5) M F → (F g 5 10 = mi h 5 10 ∧ F g 5 11 = mi h 5 11 ∧ F g 5 12 = mi h 5 12 ∧ F g 5 13 = mi h 5 13) → Q (vX 0) F n mr := by
      intro F gF c5
      have e1h : m1 h = mi h := by funext b k; exact g1.at (by simp [hne'])
      have e2h : m2 (h + 10) = mi (h + 10) := by funext b k; rw [g2.at (by simp [n1]), g1.at (by simp [n1])]
      have e3h : m3 h = mi h := by funext b k; rw [g3.at (by simp [n2]), g2.at (by simp [hne']), g1.at (by simp [hne'])]
      have e4h : m4 h = mi h := by funext b k; rw [g4.at (by simp [hne'])]; rw [e3h]
      rw [e1h] at a1 a2 a3
      rw [e2h] at b1 b2 b3
      rw [e3h] at j1 j2
      rw [e4h] at k1 k2
      have F6 : ∀ b, 6 ≤ b → b ≤ 10 → F g b = M g b := fun b z1 z2 => gF.row (fun k => by simp; omega)
      have F4 : ∀ b, 11 ≤ b → F g b = m5 g b := fun b z1 => by rw [gF.row (fun k => by simp; omega), gM.row (fun k => by simp; omega)]
      have F3 : ∀ b, 11 ≤ b → b ≤ 39 → F g b = m4 g b := fun b z1 z2 => by rw [F4 b z1, g5.row (fun k => by simp; omega)]
      have F2 : ∀ b, 11 ≤ b → b ≤ 29 → F g b = m2 g b := fun b z1 z2 => by rw [F3 b z1 (by omega), g4.row (fun k => by simp; omega), g3.row (fun k => by simp)]
      have F1 : ∀ b, 11 ≤ b → b ≤ 19 → F g b = m1 g b := fun b z1 z2 => by rw [F2 b z1 (by omega), g2.row (fun k => by simp; omega)]
      have FT : ∀ b, F (g + 10) b = m3 (g + 10) b := fun b => by rw [gF.row (fun k => by simp), gM.row (fun k => by simp), g5.row (fun k => by simp), g4.row (fun k => by simp)]
      have hc := Rep_copy (mi' := F) (g := g) hR hS1 hS2 h16 h17 (by rw [F1 16 (by decide) (by decide)]; exact w16) (by rw [F1 15 (by decide) (by decide)]; exact w15) (by
        unfold TxE
        rw [F2 20 (by decide) (by decide), F2 21 (by decide) (by decide), F2 22 (by decide) (by decide), F2 23 (by decide) (by decide), F2 24 (by decide) (by decide), F2 25 (by decide) (by decide), F2 26 (by decide) (by decide), F2 27 (by decide) (by decide)]
        exact ⟨a1, a2, a3⟩) (by
        unfold TxE
        rw [FT 20, FT 21, FT 22, FT 23, FT 24, FT 25, FT 26, FT 27]
        exact ⟨b1, b2, b3⟩) (by rw [F3 30 (by decide) (by decide)]; exact j1) (by
        rw [F3 31 (by decide) (by decide), F3 32 (by decide) (by decide), F3 33 (by decide) (by decide), F3 34 (by decide) (by decide), F3 35 (by decide) (by decide), F3 36 (by decide) (by decide), F3 37 (by decide) (by decide), F3 38 (by decide) (by decide)]
        exact j2) (by rw [F4 40 (by decide)]; exact k1) (by rw [F4 41 (by decide), F4 42 (by decide), F4 43 (by decide)]; exact k2) (by rw [F6 6 (by decide) (by decide)]; exact c6) (by rw [F6 7 (by decide) (by decide)]; exact c7) (by rw [F6 8 (by decide) (by decide)]; exact c8) (by rw [F6 9 (by decide) (by decide)]; exact c9) (by rw [F6 10 (by decide) (by decide)]; exact c10) c5
      refine hQ F ?_ hc.1 hc.2.1 hc.2.2
      refine (((((g1.mono ?_).tr (g2.mono ?_)).tr (g3.mono ?_)).tr (g4.mono ?_)).tr (g5.mono ?_)).tr ((gM.mono ?_).tr (gF.mono ?_))
      all_goals (intro a b k z; simp at z; simp [rlS]; omega)
    refine r_aload_n (dc kc_X7_become_1 25 rfl) rfl <| r_aload_n (dc kc_X7_become_1 26 rfl) rfl <| s_getZ (dc kc_X7_become_1 27 rfl) fl_X7_58 <| s_putZ (dc kc_X7_become_1 28 rfl) fl_X7_58 (by first | exact Or.inl rfl | exact Or.inr rfl | exact bi_01 | assumption) <| r_aload_n (dc kc_X7_become_1 29 rfl) rfl <| r_aload_n (dc kc_X7_become_1 30 rfl) rfl <| s_getI (dc kc_X7_become_1 31 rfl) fl_X7_62 <| s_putI (dc kc_X7_become_1 32 rfl) fl_X7_62 <| r_aload_n (dc kc_X7_become_1 33 rfl) rfl <| r_aload_n (dc kc_X7_become_1 34 rfl) rfl <| s_getI (dc kc_X7_become_1 35 rfl) fl_X7_66 <| s_putI (dc kc_X7_become_1 36 rfl) fl_X7_66 <| r_aload_n (dc kc_X7_become_1 37 rfl) rfl <| r_aload_n (dc kc_X7_become_1 38 rfl) rfl <| s_getI (dc kc_X7_become_1 39 rfl) fl_X7_69 <| s_putI (dc kc_X7_become_2 0 rfl) fl_X7_69 <| s_return (dc kc_X7_become_2 1 rfl) rfl (Nat.zero_le _) (Nat.zero_le _) ?_
    refine fin _ ((((Cg.rf.up (by simp)).up (by simp)).up (by simp)).up (by simp)) ?_
    simp [up, hne, hne', rM]
  refine r_aload_n (dc kc_X7_become_0 25 rfl) rfl <| s_getA (dc kc_X7_become_0 26 rfl) fl_X7_42 (ly_5_5 hL (by assumption)) <| k_i (dc kc_X7_become_0 27 rfl) rfl <| r_aload_n (dc kc_X7_become_0 28 rfl) rfl <| s_getA (dc kc_X7_become_0 29 rfl) fl_X7_42 (ly_5_5 hL (by assumption)) <| k_i (dc kc_X7_become_0 30 rfl) rfl <| k_b (dc kc_X7_become_0 31 rfl) rfl <| s_copy (dc kc_X7_become_0 32 rfl) rfl rfl cp_X7_85 nat_copy st_copy it_J10 (by first | omega | (simp [up] <;> omega)) (by first | omega | (simp [up] <;> omega)) (by first | omega | (simp [up] <;> omega)) (by first | omega | (simp [up] <;> omega)) (by first | omega | (simp [up] <;> omega)) <| r_aload_n (dc kc_X7_become_0 33 rfl) rfl <| s_getA (dc kc_X7_become_0 34 rfl) fl_X7_46 (ly_5_6 hL (by assumption)) <| k_i (dc kc_X7_become_0 35 rfl) rfl <| r_aload_n (dc kc_X7_become_0 36 rfl) rfl <| s_getA (dc kc_X7_become_0 37 rfl) fl_X7_46 (ly_5_6 hL (by assumption)) <| k_i (dc kc_X7_become_0 38 rfl) rfl <| k_b (dc kc_X7_become_0 39 rfl) rfl <| s_copy (dc kc_X7_become_1 0 rfl) rfl rfl cp_X7_85 nat_copy st_copy it_J10 (by first | omega | (simp [up] <;> omega)) (by first | omega | (simp [up] <;> omega)) (by first | omega | (simp [up] <;> omega)) (by first | omega | (simp [up] <;> omega)) (by first | omega | (simp [up] <;> omega)) <| r_aload_n (dc kc_X7_become_1 1 rfl) rfl <| s_getA (dc kc_X7_become_1 2 rfl) fl_X7_49 (ly_5_7 hL (by assumption)) <| k_i (dc kc_X7_become_1 3 rfl) rfl <| r_aload_n (dc kc_X7_become_1 4 rfl) rfl <| s_getA (dc kc_X7_become_1 5 rfl) fl_X7_49 (ly_5_7 hL (by assumption)) <| k_i (dc kc_X7_become_1 6 rfl) rfl <| k_b (dc kc_X7_become_1 7 rfl) rfl <| s_copy (dc kc_X7_become_1 8 rfl) rfl rfl cp_X7_85 nat_copy st_copy it_J10 (by first | omega | (simp [up] <;> omega)) (by first | omega | (simp [up] <;> omega)) (by first | omega | (simp [up] <;> omega)) (by first | omega | (simp [up] <;> omega)) (by first | omega | (simp [up] <;> omega)) <| r_aload_n (dc kc_X7_become_1 9 rfl) rfl <| s_getA (dc kc_X7_become_1 10 rfl) fl_X7_52 (ly_5_8 hL (by assumption)) <| k_i (dc kc_X7_become_1 11 rfl) rfl <| r_aload_n (dc kc_X7_become_1 12 rfl) rfl <| s_getA (dc kc_X7_become_1 13 rfl) fl_X7_52 (ly_5_8 hL (by assumption)) <| k_i (dc kc_X7_become_1 14 rfl) rfl <| k_i (dc kc_X7_become_1 15 rfl) rfl <| s_copy (dc kc_X7_become_1 16 rfl) rfl rfl cp_X7_85 nat_copy st_copy it_J10 (by first | omega | (simp [up] <;> omega)) (by first | omega | (simp [up] <;> omega)) (by first | omega | (simp [up] <;> omega)) (by first | omega | (simp [up] <;> omega)) (by first | omega | (simp [up] <;> omega)) <| r_aload_n (dc kc_X7_become_1 17 rfl) rfl <| s_getA (dc kc_X7_become_1 18 rfl) fl_X7_55 (ly_5_9 hL (by assumption)) <| k_i (dc kc_X7_become_1 19 rfl) rfl <| r_aload_n (dc kc_X7_become_1 20 rfl) rfl <| s_getA (dc kc_X7_become_1 21 rfl) fl_X7_55 (ly_5_9 hL (by assumption)) <| k_i (dc kc_X7_become_1 22 rfl) rfl <| k_b (dc kc_X7_become_1 23 rfl) rfl <| s_copy (dc kc_X7_become_1 24 rfl) rfl rfl cp_X7_85 nat_copy st_copy it_J10 (by first | omega | (simp [up] <;> omega)) (by first | omega | (simp [up] <;> omega)) (by first | omega | (simp [up] <;> omega)) (by first | omega | (simp [up] <;> omega)) (by first | omega | (simp [up] <;> omega)) <| ?_
  refine key _ (((((Cg.rf.upA (fun k => by simp)).upA (fun k => by simp)).upA (fun k => by simp)).upA (fun k => by simp)).upA (fun k => by simp)) (fun i a b => ?_) (fun i a b => ?_) (fun i a b => ?_) (fun i a b => ?_) (fun i a b => ?_)
  · simp [upA, cpy, hne, hne', a, b, rh]
  · simp [upA, cpy, hne, hne', a, b, rh]
  · simp [upA, cpy, hne, hne', a, b, rh]
  · simp [upA, cpy, hne, hne', a, b, rh]
  · simp [upA, cpy, hne, hne', a, b, rh]
end STB
