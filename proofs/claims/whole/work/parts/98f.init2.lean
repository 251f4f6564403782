/-! the constructors: a state -/
def blkL (g : Nat) : List Ad := [(g, 15), (g, 16), (g, 20), (g, 21), (g, 22), (g, 23), (g, 24), (g, 25), (g, 26), (g, 27), (g + 10, 20), (g + 10, 21), (g + 10, 22), (g + 10, 23), (g + 10, 24), (g + 10, 25), (g + 10, 26), (g + 10, 27), (g, 30), (g, 31), (g, 32), (g, 33), (g, 34), (g, 35), (g, 36), (g, 37), (g, 38), (g, 40), (g, 41), (g, 42), (g, 43), (g, 6), (g, 7), (g, 8), (g, 9), (g, 10)]
/-- references of a state -/
def StL (g : Nat) (mr : MR) : Prop := (mr g 5 0 = some (g, 15) ∧ mr g 5 1 = some (g, 20) ∧ mr g 5 2 = some (g + 10, 20) ∧ mr g 5 3 = some (g, 30) ∧ mr g 5 4 = some (g, 40) ∧ mr g 5 5 = some (g, 6) ∧ mr g 5 6 = some (g, 7) ∧ mr g 5 7 = some (g, 8) ∧ mr g 5 8 = some (g, 9) ∧ mr g 5 9 = some (g, 10)) ∧ mr g 15 0 = some (g, 16) ∧ TxL g mr ∧ TxL (g + 10) mr ∧ JnL g mr ∧ (mr g 40 3 = some (g, 41) ∧ mr g 40 4 = some (g, 42) ∧ mr g 40 5 = some (g, 43))
/-- what a new state holds -/
def StI (g : Nat) (mi : MI) : Prop := (∀ i, 0 ≤ i → i < 24 → mi g 16 i = loC i) ∧ mi g 15 1 = 0 ∧ (mi g 20 0 = 0 ∧ mi g 20 1 = 0 ∧ mi (g + 10) 20 0 = 0 ∧ mi (g + 10) 20 1 = 0) ∧ (mi g 30 0 = 0 ∧ mi g 30 1 = 0 ∧ mi g 30 2 = -1) ∧ (∀ i, mi g 37 i = 0 ∧ mi g 38 i = 0) ∧ (mi g 40 0 = 0 ∧ mi g 40 1 = -1 ∧ mi g 40 2 = -1) ∧ (∀ i, 0 ≤ i → i < 12 → mi g 41 i = -1 ∧ mi g 42 i = -1 ∧ mi g 43 i = -1) ∧ (∀ i, mi g 6 i = 0 ∧ mi g 7 i = 0 ∧ mi g 8 i = 0 ∧ mi g 10 i = 0) ∧ (mi g 9 0 = 5 ∧ mi g 9 1 = 2 ∧ mi g 9 2 = 3 ∧ mi g 9 3 = 2 ∧ mi g 9 4 = 4) ∧ mi g 5 10 = 0 ∧ mi g 5 11 = 0 ∧ mi g 5 12 = 0 ∧ mi g 5 13 = 0
def rlR (g a b : Nat) : Bool := (a == g && (b == 5 || b == 15 || b == 20 || b == 30 || b == 40)) || (a == g + 10 && b == 20)
/-- references are the same but a state's -/
def Cs (g : Nat) (mr mr' : MR) : Prop := ∀ a b k, rlR g a b = true ∨ mr' a b k = mr a b k
theorem Cs.m {g : Nat} {a : Ad} {mr mr' mr2 : MR} (h : Cs g mr mr') (ha : rlR g a.1 a.2 = true) (h2 : Cm a mr' mr2) : Cs g mr mr2 := fun x b k => by
  by_cases e : (x, b) = a
  · left; rw [← e] at ha; exact ha
  · rcases h x b k with z | z
    · exact Or.inl z
    · exact Or.inr ((h2 x b k e).trans z)
theorem Cs.u {g : Nat} {x b : Nat} {k : Int} {v : Option Ad} {mr mr' : MR} (h : Cs g mr mr') (ha : rlR g x b = true) : Cs g mr (upR mr' x b k v) := h.m (a := (x, b)) ha (fun _ _ _ z => upR_a z)
section INS
variable {d n : Nat} {mr : MR} {mi : MI} {Q : V → MI → Nat → MR → Prop}
theorem i_state {g i0 : Nat} (hz : Fz n mi mr) (h0 : nm i0 = (g, 5)) (hi : i0 < n) (hn : n + 36 ≤ 241) (hb : ∀ i, i < 36 → nm (n + i) = (blkL g).getD i (0, 999)) (c5 : mi g 5 10 = 0 ∧ mi g 5 11 = 0 ∧ mi g 5 12 = 0 ∧ mi g 5 13 = 0) (hQ : ∀ mi' mr', Cg (fun a b _ => rlS g a b) mi mi' → StI g mi' → Cs g mr mr' → StL g mr' → Fz (n + 36) mi' mr' → Q (vX 0) mi' (n + 36) mr') : Tx (d+4) mt_X7_init [vR (some (g, 5))] mi n mr Q := by
  have b0 : nm n = (g, 15) := hb 0 (by omega)
  have b1 : nm (n + 1) = (g, 16) := hb 1 (by omega)
  have b2 : nm (n + 2) = (g, 20) := hb 2 (by omega)
  have b3 : nm (n + 3) = (g, 21) := hb 3 (by omega)
  have b4 : nm (n + 4) = (g, 22) := hb 4 (by omega)
  have b5 : nm (n + 5) = (g, 23) := hb 5 (by omega)
  have b6 : nm (n + 6) = (g, 24) := hb 6 (by omega)
  have b7 : nm (n + 7) = (g, 25) := hb 7 (by omega)
  have b8 : nm (n + 8) = (g, 26) := hb 8 (by omega)
  have b9 : nm (n + 9) = (g, 27) := hb 9 (by omega)
  have b10 : nm (n + 10) = (g + 10, 20) := hb 10 (by omega)
  have b11 : nm (n + 11) = (g + 10, 21) := hb 11 (by omega)
  have b12 : nm (n + 12) = (g + 10, 22) := hb 12 (by omega)
  have b13 : nm (n + 13) = (g + 10, 23) := hb 13 (by omega)
  have b14 : nm (n + 14) = (g + 10, 24) := hb 14 (by omega)
  have b15 : nm (n + 15) = (g + 10, 25) := hb 15 (by omega)
  have b16 : nm (n + 16) = (g + 10, 26) := hb 16 (by omega)
  have b17 : nm (n + 17) = (g + 10, 27) := hb 17 (by omega)
  have b18 : nm (n + 18) = (g, 30) := hb 18 (by omega)
  have b19 : nm (n + 19) = (g, 31) := hb 19 (by omega)
  have b20 : nm (n + 20) = (g, 32) := hb 20 (by omega)
  have b21 : nm (n + 21) = (g, 33) := hb 21 (by omega)
  have b22 : nm (n + 22) = (g, 34) := hb 22 (by omega)
  have b23 : nm (n + 23) = (g, 35) := hb 23 (by omega)
  have b24 : nm (n + 24) = (g, 36) := hb 24 (by omega)
  have b25 : nm (n + 25) = (g, 37) := hb 25 (by omega)
  have b26 : nm (n + 26) = (g, 38) := hb 26 (by omega)
  have b27 : nm (n + 27) = (g, 40) := hb 27 (by omega)
  have b28 : nm (n + 28) = (g, 41) := hb 28 (by omega)
  have b29 : nm (n + 29) = (g, 42) := hb 29 (by omega)
  have b30 : nm (n + 30) = (g, 43) := hb 30 (by omega)
  have b31 : nm (n + 31) = (g, 6) := hb 31 (by omega)
  have b32 : nm (n + 32) = (g, 7) := hb 32 (by omega)
  have b33 : nm (n + 33) = (g, 8) := hb 33 (by omega)
  have b34 : nm (n + 34) = (g, 9) := hb 34 (by omega)
  have b35 : nm (n + 35) = (g, 10) := hb 35 (by omega)
  have hz0 := hz
  have zz : ∀ (i : Nat) (a b : Nat), i < 36 → nm (n + i) = (a, b) → ∀ k, mi a b k = 0 := fun i a b h e k => (hz.at (N := 0) e (by omega) (by omega) k).1
  refine tx_intro (ls := [vR (some (g, 5))]) om_X7_init rfl (Nat.le_of_ble_eq_true rfl) ?_
  -- the web
  refine r_aload_n (dc kc_X7_init_0 0 rfl) rfl <| s_objInit (dc kc_X7_init_0 1 rfl) oi_X7_3 im_obj co_obj <| r_aload_n (dc kc_X7_init_0 2 rfl) rfl <| s_new (j := 15) (dc kc_X7_init_0 3 rfl) (by first | assumption | rfl) rfl (by decide) rfl (by first | decide | omega) ?_ kk_X7_9 in_X10 it_X10 (Nat.le_of_ble_eq_true rfl) (Nat.le_of_ble_eq_true rfl) <| s_dup (dc kc_X7_init_0 4 rfl) rfl <| c_i0 (dc kc_X7_init_0 5 rfl) cl_X7_11 (Nat.le_of_ble_eq_true rfl) (Nat.le_of_ble_eq_true rfl) (Nat.le_of_ble_eq_true rfl) ?_
  · exact hz.fr (by omega)
  have cr : ∀ (m : MI) (a : Ad), Cn a m m := fun _ _ _ _ _ _ => rfl
  have cq : ∀ (m : MR) (a : Ad), Cm a m m := fun _ _ _ _ _ _ => rfl
  have cu : ∀ (m : MR) (x b : Nat) (k : Int) (v : Option Ad), Cm (x, b) m (upR m x b k v) := fun _ _ _ _ _ _ _ _ h => upR_a h
  refine i_web (hz.mv h0 hi (cr _ _) (cq _ _) (by omega)) b0 (by omega) (by omega) b1 (zz 0 g 15 (by omega) b0 1) (fun m1 r1 cn1 w1 cm1 l15 => ?_)
  have s1 : Cs g mr (upR r1 g 5 0 (some (g, 15))) := (Cs.m (a := (g, 15)) (fun _ _ _ => Or.inr rfl) (by simp [rlR]) cm1).u (by simp [rlR])
  have z2 : Fz (n + 2) m1 (upR r1 g 5 0 (some (g, 15))) := (((hz.mv (N := n + 2) h0 hi (cr _ _) (cq _ _) (by omega)).mv b1 (by omega) cn1 (cq _ _) (Nat.le_refl _)).mv b0 (by omega) (cr _ _) cm1 (Nat.le_refl _)).mv h0 (by omega) (cr _ _) (cu _ _ _ _ _) (Nat.le_refl _)
  have q0 : upR r1 g 5 0 (some (g, 15)) g 5 0 = some (g, 15) := upR_at
  have q1 : upR r1 g 5 0 (some (g, 15)) g 15 0 = some (g, 16) := by rw [upR_a (by simp), l15]
  have f1 : ∀ a b k, rlS g a b = true ∨ m1 a b k = mi a b k := fun a b k => by
    by_cases e : (a, b) = (g, 16)
    · left; injection e with e1 e2; subst e1; subst e2; simp [rlS]
    · exact Or.inr (cn1 a b k e)
  have e1 : ∀ a b k, b ≠ 16 → m1 a b k = mi a b k := fun a b k h => cn1 a b k (fun z => h (by injection z))
  -- the laws
  refine s_pOF (dc kc_X7_init_0 6 rfl) fl_X7_12 rfl (by decide) <| r_aload_n (dc kc_X7_init_0 7 rfl) rfl <| s_new (j := 20) (dc kc_X7_init_0 8 rfl) (by first | assumption | rfl) rfl (by decide) rfl (by first | decide | omega) ?_ kk_X7_18 in_X8 it_X8 (Nat.le_of_ble_eq_true rfl) (Nat.le_of_ble_eq_true rfl) <| s_dup (dc kc_X7_init_0 9 rfl) rfl <| c_i0 (dc kc_X7_init_0 10 rfl) cl_X7_20 (Nat.le_of_ble_eq_true rfl) (Nat.le_of_ble_eq_true rfl) (Nat.le_of_ble_eq_true rfl) ?_
  · exact z2.fr (by omega)
  generalize upR r1 g 5 0 (some (g, 15)) = r1' at *
  refine i_text (z2.mv h0 (by omega) (cr _ _) (cq _ _) (by omega)) b2 (by omega) (by omega) b3 b4 b5 b6 b7 b8 b9 (by rw [e1 _ _ _ (by decide)]; exact zz 2 g 20 (by omega) b2 0) (by rw [e1 _ _ _ (by decide)]; exact zz 2 g 20 (by omega) b2 1) (fun r2 cm2 t2 => ?_)
  have s2 : Cs g mr (upR r2 g 5 1 (some (g, 20))) := (s1.m (a := (g, 20)) (by simp [rlR]) cm2).u (by simp [rlR])
  have z3 : Fz (n + 10) m1 (upR r2 g 5 1 (some (g, 20))) := ((z2.mv (N := n + 10) h0 (by omega) (cr _ _) (cq _ _) (by omega)).mv b2 (by omega) (cr _ _) cm2 (Nat.le_refl _)).mv h0 (by omega) (cr _ _) (cu _ _ _ _ _) (Nat.le_refl _)
  have k2 : ∀ b k, b ≠ 20 → (b, k) ≠ ((5, 1) : Nat × Int) → upR r2 g 5 1 (some (g, 20)) g b k = r1' g b k := fun b k h1 h2 => by rw [upR_off _ _ _ (fun z => h2 (by injection z)), cm2 _ _ _ (fun z => h1 (by injection z))]
  have t2' : TxL g (upR r2 g 5 1 (some (g, 20))) := by unfold TxL at *; simp only [upR_a (show (g, 20) ≠ (g, 5) by simp)]; exact t2
  have q21 : upR r2 g 5 1 (some (g, 20)) g 5 1 = some (g, 20) := upR_at
  -- the lines
  refine s_pOF (dc kc_X7_init_0 11 rfl) fl_X7_21 rfl (by decide) <| r_aload_n (dc kc_X7_init_0 12 rfl) rfl <| s_new (j := 20) (dc kc_X7_init_0 13 rfl) (by first | assumption | rfl) rfl (by decide) rfl (by first | decide | omega) ?_ kk_X7_18 in_X8 it_X8 (Nat.le_of_ble_eq_true rfl) (Nat.le_of_ble_eq_true rfl) <| s_dup (dc kc_X7_init_0 14 rfl) rfl <| c_i0 (dc kc_X7_init_0 15 rfl) cl_X7_20 (Nat.le_of_ble_eq_true rfl) (Nat.le_of_ble_eq_true rfl) (Nat.le_of_ble_eq_true rfl) ?_
  · exact z3.fr (by omega)
  generalize upR r2 g 5 1 (some (g, 20)) = r2' at *
  refine i_text (z3.mv h0 (by omega) (cr _ _) (cq _ _) (by omega)) b10 (by omega) (by omega) b11 b12 b13 b14 b15 b16 b17 (by rw [e1 _ _ _ (by decide)]; exact zz 10 (g + 10) 20 (by omega) b10 0) (by rw [e1 _ _ _ (by decide)]; exact zz 10 (g + 10) 20 (by omega) b10 1) (fun r3 cm3 t3 => ?_)
  have s3 : Cs g mr (upR r3 g 5 2 (some (g + 10, 20))) := (s2.m (a := (g + 10, 20)) (by simp [rlR]) cm3).u (by simp [rlR])
  have z4 : Fz (n + 18) m1 (upR r3 g 5 2 (some (g + 10, 20))) := ((z3.mv (N := n + 18) h0 (by omega) (cr _ _) (cq _ _) (by omega)).mv b10 (by omega) (cr _ _) cm3 (Nat.le_refl _)).mv h0 (by omega) (cr _ _) (cu _ _ _ _ _) (Nat.le_refl _)
  have k3 : ∀ b k, (b, k) ≠ ((5, 2) : Nat × Int) → upR r3 g 5 2 (some (g + 10, 20)) g b k = r2' g b k := fun b k h2 => by rw [upR_off _ _ _ (fun z => h2 (by injection z)), cm3 _ _ _ (fun z => by injection z; omega)]
  have t3' : TxL (g + 10) (upR r3 g 5 2 (some (g + 10, 20))) := by unfold TxL at *; simp only [upR_a (show (g + 10, 20) ≠ (g, 5) by simp)]; exact t3
  have q32 : upR r3 g 5 2 (some (g + 10, 20)) g 5 2 = some (g + 10, 20) := upR_at
  -- the journal
  refine s_pOF (dc kc_X7_init_0 16 rfl) fl_X7_25 rfl (by decide) <| r_aload_n (dc kc_X7_init_0 17 rfl) rfl <| s_new (j := 30) (dc kc_X7_init_0 18 rfl) (by first | assumption | rfl) rfl (by decide) rfl (by first | decide | omega) ?_ kk_X7_28 in_X1 it_X1 (Nat.le_of_ble_eq_true rfl) (Nat.le_of_ble_eq_true rfl) <| s_dup (dc kc_X7_init_0 19 rfl) rfl <| c_i0 (dc kc_X7_init_0 20 rfl) cl_X7_30 (Nat.le_of_ble_eq_true rfl) (Nat.le_of_ble_eq_true rfl) (Nat.le_of_ble_eq_true rfl) ?_
  · exact z4.fr (by omega)
  generalize upR r3 g 5 2 (some (g + 10, 20)) = r3' at *
  refine i_journal (z4.mv h0 (by omega) (cr _ _) (cq _ _) (by omega)) b18 (by omega) (by omega) b19 b20 b21 b22 b23 b24 b25 b26 (by rw [e1 _ _ _ (by decide)]; exact zz 18 g 30 (by omega) b18 0) (by rw [e1 _ _ _ (by decide)]; exact zz 18 g 30 (by omega) b18 1) (fun r4 cm4 t4 => ?_)
  have s4 : Cs g mr (upR r4 g 5 3 (some (g, 30))) := (s3.m (a := (g, 30)) (by simp [rlR]) cm4).u (by simp [rlR])
  have z5 : Fz (n + 27) (up m1 g 30 2 (-1)) (upR r4 g 5 3 (some (g, 30))) := ((z4.mv (N := n + 27) h0 (by omega) (cr _ _) (cq _ _) (by omega)).mv b18 (by omega) (fun _ _ _ h => up_a h) cm4 (Nat.le_refl _)).mv h0 (by omega) (cr _ _) (cu _ _ _ _ _) (Nat.le_refl _)
  have k4 : ∀ a b k, (a, b) ≠ (g, 30) → (a, b, k) ≠ ((g, 5, 3) : Nat × Nat × Int) → upR r4 g 5 3 (some (g, 30)) a b k = r3' a b k := fun a b k h1 h2 => by rw [upR_off _ _ _ h2, cm4 _ _ _ h1]
  have t4' : JnL g (upR r4 g 5 3 (some (g, 30))) := by unfold JnL at *; simp only [upR_a (show (g, 30) ≠ (g, 5) by simp)]; exact t4
  have q43 : upR r4 g 5 3 (some (g, 30)) g 5 3 = some (g, 30) := upR_at
  have e2 : ∀ a b k, b ≠ 16 → b ≠ 30 → up m1 g 30 2 (-1) a b k = mi a b k := fun a b k h h2 => by rw [up_a (fun z => h2 (by injection z)), e1 a b k h]
  have e16 : up m1 g 30 2 (-1) g 16 = m1 g 16 := up_j (by decide)
  have e30 : up m1 g 30 2 (-1) g 30 0 = 0 ∧ up m1 g 30 2 (-1) g 30 1 = 0 ∧ up m1 g 30 2 (-1) g 30 2 = -1 := ⟨by rw [up_k (by decide), e1 _ _ _ (by decide)]; exact zz 18 g 30 (by omega) b18 0, by rw [up_k (by decide), e1 _ _ _ (by decide)]; exact zz 18 g 30 (by omega) b18 1, up_at⟩
  have f2 : Cg (fun a b _ => rlS g a b) mi (up m1 g 30 2 (-1)) := Cg.up (show Cg (fun a b _ => rlS g a b) mi m1 from f1) (by simp [rlS])
  -- the watch
  refine s_pOF (dc kc_X7_init_0 21 rfl) fl_X7_31 rfl (by decide) <| r_aload_n (dc kc_X7_init_0 22 rfl) rfl <| s_new (j := 40) (dc kc_X7_init_0 23 rfl) (by first | assumption | rfl) rfl (by decide) rfl (by first | decide | omega) ?_ kk_X7_35 in_X9 it_X9 (Nat.le_of_ble_eq_true rfl) (Nat.le_of_ble_eq_true rfl) <| s_dup (dc kc_X7_init_0 24 rfl) rfl <| c_i0 (dc kc_X7_init_0 25 rfl) cl_X7_37 (Nat.le_of_ble_eq_true rfl) (Nat.le_of_ble_eq_true rfl) (Nat.le_of_ble_eq_true rfl) ?_
  · exact z5.fr (by omega)
  generalize upR r4 g 5 3 (some (g, 30)) = r4' at *
  generalize up m1 g 30 2 (-1) = m2 at *
  refine i_watch (z5.mv h0 (by omega) (cr _ _) (cq _ _) (by omega)) b27 (by omega) (by omega) b28 b29 b30 (by rw [e2 _ _ _ (by decide) (by decide)]; exact zz 27 g 40 (by omega) b27 0) (fun m3 r5 g3 h40 h41 cm5 l40 => ?_)
  have s5 : Cs g mr (upR r5 g 5 4 (some (g, 40))) := (s4.m (a := (g, 40)) (by simp [rlR]) cm5).u (by simp [rlR])
  have z6 : Fz (n + 31) m3 (upR r5 g 5 4 (some (g, 40))) := by
    have y : Fz (n + 31) m2 (upR r5 g 5 4 (some (g, 40))) := ((z5.mv (N := n + 31) h0 (by omega) (cr _ _) (cq _ _) (by omega)).mv b27 (by omega) (cr _ _) cm5 (Nat.le_refl _)).mv h0 (by omega) (cr _ _) (cu _ _ _ _ _) (Nat.le_refl _)
    intro i h1 h2 k
    refine ⟨?_, (y i h1 h2 k).2⟩
    rw [g3.at]
    · exact (y i h1 h2 k).1
    · have key : ∀ (j a b : Nat), j < 31 → nm (n + j) = (a, b) → ¬ ((nm i).1 = a ∧ (nm i).2 = b) := fun j a b hj e z => by
        have : nm i = nm (n + j) := by rw [e, ← z.1, ← z.2]
        have := nm_inj h2 (by omega) this
        omega
      have k27 := key 27 g 40 (by omega) b27
      have k28 := key 28 g 41 (by omega) b28
      have k29 := key 29 g 42 (by omega) b29
      have k30 := key 30 g 43 (by omega) b30
      simp
      omega
  have k5 : ∀ a b k, (a, b) ≠ (g, 40) → (a, b, k) ≠ ((g, 5, 4) : Nat × Nat × Int) → upR r5 g 5 4 (some (g, 40)) a b k = r4' a b k := fun a b k h1 h2 => by rw [upR_off _ _ _ h2, cm5 _ _ _ h1]
  have l40' : upR r5 g 5 4 (some (g, 40)) g 40 3 = some (g, 41) ∧ upR r5 g 5 4 (some (g, 40)) g 40 4 = some (g, 42) ∧ upR r5 g 5 4 (some (g, 40)) g 40 5 = some (g, 43) := by simp only [upR_a (show (g, 40) ≠ (g, 5) by simp)]; exact l40
  have q54 : upR r5 g 5 4 (some (g, 40)) g 5 4 = some (g, 40) := upR_at
  have e3 : ∀ a b k, b ≠ 16 → b ≠ 30 → (b < 40 ∨ 43 < b) → m3 a b k = mi a b k := fun a b k h h2 h3 => by rw [g3.at (by simp; omega), e2 a b k h h2]
  have f3 : Cg (fun a b _ => rlS g a b) mi m3 := f2.tr (g3.mono (fun a b k z => by simp at z; simp [rlS]; omega))
  have w16 : ∀ i, 0 ≤ i → i < 24 → m3 g 16 i = loC i := fun i a b => by rw [g3.at (by simp), e16]; exact w1 i a b
  have w30 : m3 g 30 0 = 0 ∧ m3 g 30 1 = 0 ∧ m3 g 30 2 = -1 := by rw [g3.at (by simp), g3.at (by simp), g3.at (by simp)]; exact e30
  refine s_pOF (dc kc_X7_init_0 26 rfl) fl_X7_38 rfl (by decide) <| ?_
  generalize upR r5 g 5 4 (some (g, 40)) = r5' at *
  -- the rows
  refine r_aload_n (dc kc_X7_init_0 27 rfl) rfl <| k_b (dc kc_X7_init_0 28 rfl) rfl <| s_newa (dc kc_X7_init_0 29 rfl) (by first | assumption | rfl) rfl rfl (by first | decide | omega) (by decide) ?_ ac_int (Nat.le_of_ble_eq_true rfl) (Nat.le_of_ble_eq_true rfl) <| s_pAF (dc kc_X7_init_0 30 rfl) fl_X7_42 rfl (by decide) <| r_aload_n (dc kc_X7_init_0 31 rfl) rfl <| k_b (dc kc_X7_init_0 32 rfl) rfl <| s_newa (dc kc_X7_init_0 33 rfl) (by first | assumption | rfl) rfl rfl (by first | decide | omega) (by decide) ?_ ac_int (Nat.le_of_ble_eq_true rfl) (Nat.le_of_ble_eq_true rfl) <| s_pAF (dc kc_X7_init_0 34 rfl) fl_X7_46 rfl (by decide) <| r_aload_n (dc kc_X7_init_0 35 rfl) rfl <| k_b (dc kc_X7_init_0 36 rfl) rfl <| s_newa (dc kc_X7_init_0 37 rfl) (by first | assumption | rfl) rfl rfl (by first | decide | omega) (by decide) ?_ ac_int (Nat.le_of_ble_eq_true rfl) (Nat.le_of_ble_eq_true rfl) <| s_pAF (dc kc_X7_init_0 38 rfl) fl_X7_49 rfl (by decide) <| r_aload_n (dc kc_X7_init_0 39 rfl) rfl <| k_i (dc kc_X7_init_1 0 rfl) rfl <| s_newa (dc kc_X7_init_1 1 rfl) (by first | assumption | rfl) rfl rfl (by first | decide | omega) (by decide) ?_ ac_int (Nat.le_of_ble_eq_true rfl) (Nat.le_of_ble_eq_true rfl) <| s_dup (dc kc_X7_init_1 2 rfl) rfl <| k_i (dc kc_X7_init_1 3 rfl) rfl <| k_i (dc kc_X7_init_1 4 rfl) rfl <| s_iastore (dc kc_X7_init_1 5 rfl) rfl (by first | omega | (simp [up] <;> omega)) (by first | omega | (simp [up] <;> omega)) <| s_dup (dc kc_X7_init_1 6 rfl) rfl <| k_i (dc kc_X7_init_1 7 rfl) rfl <| k_i (dc kc_X7_init_1 8 rfl) rfl <| s_iastore (dc kc_X7_init_1 9 rfl) rfl (by first | omega | (simp [up] <;> omega)) (by first | omega | (simp [up] <;> omega)) <| s_dup (dc kc_X7_init_1 10 rfl) rfl <| k_i (dc kc_X7_init_1 11 rfl) rfl <| k_i (dc kc_X7_init_1 12 rfl) rfl <| s_iastore (dc kc_X7_init_1 13 rfl) rfl (by first | omega | (simp [up] <;> omega)) (by first | omega | (simp [up] <;> omega)) <| s_dup (dc kc_X7_init_1 14 rfl) rfl <| k_i (dc kc_X7_init_1 15 rfl) rfl <| k_i (dc kc_X7_init_1 16 rfl) rfl <| s_iastore (dc kc_X7_init_1 17 rfl) rfl (by first | omega | (simp [up] <;> omega)) (by first | omega | (simp [up] <;> omega)) <| s_dup (dc kc_X7_init_1 18 rfl) rfl <| k_i (dc kc_X7_init_1 19 rfl) rfl <| k_i (dc kc_X7_init_1 20 rfl) rfl <| s_iastore (dc kc_X7_init_1 21 rfl) rfl (by first | omega | (simp [up] <;> omega)) (by first | omega | (simp [up] <;> omega)) <| s_pAF (dc kc_X7_init_1 22 rfl) fl_X7_52 rfl (by decide) <| r_aload_n (dc kc_X7_init_1 23 rfl) rfl <| k_b (dc kc_X7_init_1 24 rfl) rfl <| s_newa (dc kc_X7_init_1 25 rfl) (by first | assumption | rfl) rfl rfl (by first | decide | omega) (by decide) ?_ ac_int (Nat.le_of_ble_eq_true rfl) (Nat.le_of_ble_eq_true rfl) <| s_pAF (dc kc_X7_init_1 26 rfl) fl_X7_55 rfl (by decide) <| ?_
  · exact z6.fr (by omega)
  · exact (z6.mv h0 (by omega) (cr _ _) (fun g j k h => by simp only [upR_a h]) (by omega)).fr (by omega)
  · exact (z6.mv h0 (by omega) (cr _ _) (fun g j k h => by simp only [upR_a h]) (by omega)).fr (by omega)
  · exact (z6.mv h0 (by omega) (cr _ _) (fun g j k h => by simp only [upR_a h]) (by omega)).fr (by omega)
  · exact ((z6.mv (N := n + 35) h0 (by omega) (cr _ _) (fun g j k h => by simp only [upR_a h]) (by omega)).mv b34 (by omega) (fun g j k h => by simp only [up_a h]) (cq _ _) (by omega)).fr (by omega)
  have z7 : Fz (n + 36) (up (up (up (up (up m3 g 9 0 5) g 9 1 2) g 9 2 3) g 9 3 2) g 9 4 4) (upR (upR (upR (upR (upR r5' g 5 5 (some (g, 6))) g 5 6 (some (g, 7))) g 5 7 (some (g, 8))) g 5 8 (some (g, 9))) g 5 9 (some (g, 10))) := (z6.mv (N := n + 36) h0 (by omega) (cr _ _) (fun g j k h => by simp only [upR_a h]) (by omega)).mv b34 (by omega) (fun g j k h => by simp only [up_a h]) (cq _ _) (by omega)
  have e9 : ∀ a b, b ≠ 9 → up (up (up (up (up m3 g 9 0 5) g 9 1 2) g 9 2 3) g 9 3 2) g 9 4 4 a b = m3 a b := fun a b h => by rw [up_j h, up_j h, up_j h, up_j h, up_j h]
  have v9 : up (up (up (up (up m3 g 9 0 5) g 9 1 2) g 9 2 3) g 9 3 2) g 9 4 4 g 9 0 = 5 ∧ up (up (up (up (up m3 g 9 0 5) g 9 1 2) g 9 2 3) g 9 3 2) g 9 4 4 g 9 1 = 2 ∧ up (up (up (up (up m3 g 9 0 5) g 9 1 2) g 9 2 3) g 9 3 2) g 9 4 4 g 9 2 = 3 ∧ up (up (up (up (up m3 g 9 0 5) g 9 1 2) g 9 2 3) g 9 3 2) g 9 4 4 g 9 3 = 2 ∧ up (up (up (up (up m3 g 9 0 5) g 9 1 2) g 9 2 3) g 9 3 2) g 9 4 4 g 9 4 = 4 := by simp [up]
  have f4 : Cg (fun a b _ => rlS g a b) mi (up (up (up (up (up m3 g 9 0 5) g 9 1 2) g 9 2 3) g 9 3 2) g 9 4 4) := ((((f3.up (by simp [rlS])).up (by simp [rlS])).up (by simp [rlS])).up (by simp [rlS])).up (by simp [rlS])
  generalize up (up (up (up (up m3 g 9 0 5) g 9 1 2) g 9 2 3) g 9 3 2) g 9 4 4 = m4 at *
  have v5 : ∀ k, m4 g 5 k = mi g 5 k := fun k => by rw [e9 g 5 (by decide), e3 g 5 k (by decide) (by decide) (by omega)]
  refine r_aload_n (dc kc_X7_init_1 27 rfl) rfl <| k_i (dc kc_X7_init_1 28 rfl) rfl <| s_putZ (dc kc_X7_init_1 29 rfl) fl_X7_58 (by first | exact Or.inl rfl | exact Or.inr rfl | exact bi_01 | assumption) <| r_aload_n (dc kc_X7_init_1 30 rfl) rfl <| k_i (dc kc_X7_init_1 31 rfl) rfl <| s_putI (dc kc_X7_init_1 32 rfl) fl_X7_62 <| r_aload_n (dc kc_X7_init_1 33 rfl) rfl <| k_i (dc kc_X7_init_1 34 rfl) rfl <| s_putI (dc kc_X7_init_1 35 rfl) fl_X7_66 <| r_aload_n (dc kc_X7_init_1 36 rfl) rfl <| k_i (dc kc_X7_init_1 37 rfl) rfl <| s_putI (dc kc_X7_init_1 38 rfl) fl_X7_69 <| s_return (dc kc_X7_init_1 39 rfl) rfl (Nat.le_of_ble_eq_true rfl) (Nat.le_of_ble_eq_true rfl) ?_
  have a1 : up m4 g 5 10 0 = m4 := up_id (by rw [v5]; exact c5.1)
  have a2 : up m4 g 5 11 0 = m4 := up_id (by rw [v5]; exact c5.2.1)
  have a3 : up m4 g 5 12 0 = m4 := up_id (by rw [v5]; exact c5.2.2.1)
  have a4 : up m4 g 5 13 0 = m4 := up_id (by rw [v5]; exact c5.2.2.2)
  rw [a1, a2, a3, a4]
  have o4 : ∀ i a b, i < 36 → nm (n + i) = (a, b) → b ≠ 9 → b ≠ 16 → b ≠ 30 → (b < 40 ∨ 43 < b) → ∀ k, m4 a b k = 0 := fun i a b h e h1 h2 h3 h4 k => by rw [e9 a b h1, e3 a b k h2 h3 h4]; exact zz i a b h e k
  refine hQ m4 (upR (upR (upR (upR (upR r5' g 5 5 (some (g, 6))) g 5 6 (some (g, 7))) g 5 7 (some (g, 8))) g 5 8 (some (g, 9))) g 5 9 (some (g, 10))) f4 ⟨fun i a b => by rw [e9 g 16 (by decide)]; exact w16 i a b, o4 0 g 15 (by omega) b0 (by decide) (by decide) (by decide) (by omega) 1, ⟨o4 2 g 20 (by omega) b2 (by decide) (by decide) (by decide) (by omega) 0, o4 2 g 20 (by omega) b2 (by decide) (by decide) (by decide) (by omega) 1, o4 10 (g + 10) 20 (by omega) b10 (by decide) (by decide) (by decide) (by omega) 0, o4 10 (g + 10) 20 (by omega) b10 (by decide) (by decide) (by decide) (by omega) 1⟩, by rw [e9 g 30 (by decide)]; exact w30, fun i => ⟨o4 25 g 37 (by omega) b25 (by decide) (by decide) (by decide) (by omega) i, o4 26 g 38 (by omega) b26 (by decide) (by decide) (by decide) (by omega) i⟩, by rw [e9 g 40 (by decide)]; exact h40, by rw [e9 g 41 (by decide), e9 g 42 (by decide), e9 g 43 (by decide)]; exact h41, fun i => ⟨o4 31 g 6 (by omega) b31 (by decide) (by decide) (by decide) (by omega) i, o4 32 g 7 (by omega) b32 (by decide) (by decide) (by decide) (by omega) i, o4 33 g 8 (by omega) b33 (by decide) (by decide) (by decide) (by omega) i, o4 35 g 10 (by omega) b35 (by decide) (by decide) (by decide) (by omega) i⟩, v9, by rw [v5]; exact c5.1, by rw [v5]; exact c5.2.1, by rw [v5]; exact c5.2.2.1, by rw [v5]; exact c5.2.2.2⟩ (((((s5.u (by simp [rlR])).u (by simp [rlR])).u (by simp [rlR])).u (by simp [rlR])).u (by simp [rlR])) ?_ z7
  -- references
  have kk : ∀ a b k, (a, b) ≠ (g, 5) → upR (upR (upR (upR (upR r5' g 5 5 (some (g, 6))) g 5 6 (some (g, 7))) g 5 7 (some (g, 8))) g 5 8 (some (g, 9))) g 5 9 (some (g, 10)) a b k = r5' a b k := fun a b k h => by simp only [upR_a h]
  have k55 : ∀ k, k < 5 → upR (upR (upR (upR (upR r5' g 5 5 (some (g, 6))) g 5 6 (some (g, 7))) g 5 7 (some (g, 8))) g 5 8 (some (g, 9))) g 5 9 (some (g, 10)) g 5 k = r5' g 5 k := fun k h => by rw [upR_k (by omega), upR_k (by omega), upR_k (by omega), upR_k (by omega), upR_k (by omega)]
  refine ⟨⟨?_, ?_, ?_, ?_, ?_, by simp [upR], by simp [upR], by simp [upR], by simp [upR], by simp [upR]⟩, ?_, ?_, ?_, ?_, ?_⟩
  · rw [k55 0 (by omega), k5 _ _ _ (by simp) (by simp), k4 _ _ _ (by simp) (by simp), k3 _ _ (by simp), k2 _ _ (by simp) (by simp), q0]
  · rw [k55 1 (by omega), k5 _ _ _ (by simp) (by simp), k4 _ _ _ (by simp) (by simp), k3 _ _ (by simp), q21]
  · rw [k55 2 (by omega), k5 _ _ _ (by simp) (by simp), k4 _ _ _ (by simp) (by simp), q32]
  · rw [k55 3 (by omega), k5 _ _ _ (by simp) (by simp), q43]
  · rw [k55 4 (by omega), q54]
  · rw [kk _ _ _ (by simp), k5 _ _ _ (by simp) (by simp), k4 _ _ _ (by simp) (by simp), k3 _ _ (by simp), k2 _ _ (by simp) (by simp), q1]
  · have : ∀ k, upR (upR (upR (upR (upR r5' g 5 5 (some (g, 6))) g 5 6 (some (g, 7))) g 5 7 (some (g, 8))) g 5 8 (some (g, 9))) g 5 9 (some (g, 10)) g 20 k = r2' g 20 k := fun k => by rw [kk _ _ _ (by simp), k5 _ _ _ (by simp) (by simp), k4 _ _ _ (by simp) (by simp), k3 _ _ (by simp)]
    unfold TxL at *
    simp only [this]
    exact t2'
  · have : ∀ k, upR (upR (upR (upR (upR r5' g 5 5 (some (g, 6))) g 5 6 (some (g, 7))) g 5 7 (some (g, 8))) g 5 8 (some (g, 9))) g 5 9 (some (g, 10)) (g + 10) 20 k = r3' (g + 10) 20 k := fun k => by rw [kk _ _ _ (by simp), k5 _ _ _ (by simp) (by simp), k4 _ _ _ (by simp) (by simp)]
    unfold TxL at *
    simp only [this]
    exact t3'
  · have : ∀ k, upR (upR (upR (upR (upR r5' g 5 5 (some (g, 6))) g 5 6 (some (g, 7))) g 5 7 (some (g, 8))) g 5 8 (some (g, 9))) g 5 9 (some (g, 10)) g 30 k = r4' g 30 k := fun k => by rw [kk _ _ _ (by simp), k5 _ _ _ (by simp) (by simp)]
    unfold JnL at *
    simp only [this]
    exact t4'
  · rw [kk _ _ _ (by simp), kk _ _ _ (by simp), kk _ _ _ (by simp)]
    exact l40'
end INS
