/-! the class: image, back -/
theorem frL_own : frL.all (fun q => !(q.1 == 2) && !(q.1 == 0 && (q.2.1 == 4 || q.2.1 == 5))) = true := rfl
theorem lay_img {G : Nat} {mr : MR} {k : Int} {v : Option Ad} (h : Lay G mr) : Lay G (upR mr 0 2 k v) := by
  intro q hq g hg
  have h1 := List.all_eq_true.mp frL_own q hq
  simp at h1
  rw [upR_off _ _ _ (fun z => by injection z with z1 z2; injection z2 with z2 z3; exact h1.1 z2)]
  exact h q hq g hg
theorem lay_own {G : Nat} {mr : MR} {k : Int} {v : Option Ad} (hk : k = 4 ∨ k = 5) (h : Lay G mr) : Lay G (upR mr 0 0 k v) := by
  intro q hq g hg
  have h1 := List.all_eq_true.mp frL_own q hq
  simp at h1
  rw [upR_off _ _ _ (fun z => by
    injection z with z1 z2
    injection z2 with z2 z3
    have := h1.2
    omega)]
  exact h q hq g hg
def imK (k : Int) (i0 i1 : Option Nat) : Option Nat := if k = 0 then i0 else i1
theorem Own.im {G g : Nat} {s i0 i1 : Option Nat} {mr : MR} {k : Int} (h : Own G g s i0 i1 mr) (hk : 0 ≤ k ∧ k ≤ 1) : mr 0 2 k = adO (imK k i0 i1) := by
  unfold imK
  by_cases e : k = 0
  · rw [if_pos e, e]; exact h.2.2.1
  · rw [if_neg e, show k = 1 by omega]; exact h.2.2.2.1
theorem Own.ih {G g : Nat} {s i0 i1 : Option Nat} {mr : MR} {k : Int} {x : Nat} (h : Own G g s i0 i1 mr) (e : imK k i0 i1 = some x) : x < G ∧ x ≠ g ∧ s ≠ some x := by
  unfold imK at e
  obtain ⟨-, -, -, -, -, -, h0, h1, -⟩ := h
  split at e
  · exact h0 x e
  · exact ⟨(h1 x e).1, (h1 x e).2.1, (h1 x e).2.2.1⟩
theorem Own.new {G g : Nat} {s i0 i1 : Option Nat} {mr : MR} {k : Int} (h : Own G g s i0 i1 mr) (hk : 0 ≤ k ∧ k ≤ 1) (e : imK k i0 i1 = none) : Own (G + 1) g s (if k = 0 then some G else i0) (if k = 0 then i1 else some G) (upR mr 0 2 k (some (G, 5))) := by
  obtain ⟨a1, a2, a3, a4, a5, a6, a7, a8, a9⟩ := h
  unfold imK at e
  have a6' : s ≠ some G := fun z => by have := (a6 G z).1; omega
  have a7' : i0 ≠ some G := fun z => by have := (a7 G z).1; omega
  have a8' : i1 ≠ some G := fun z => by have := (a8 G z).1; omega
  by_cases ek : k = 0
  · rw [if_pos ek] at e
    subst e
    subst ek
    rw [if_pos rfl, if_pos rfl]
    refine ⟨by rw [upR_a (by simp)]; exact a1, by rw [upR_a (by simp)]; exact a2, by rw [upR_at]; rfl, by rw [upR_k (by decide)]; exact a4, by omega, fun x hx => ?_, fun x hx => ?_, fun x hx => ?_, by rw [a9]; simp [one]; omega⟩
    · have := a6 x hx; exact ⟨by omega, this.2⟩
    · injection hx with hx; subst hx; exact ⟨by omega, by omega, a6'⟩
    · have := a8 x hx
      exact ⟨by omega, this.2.1, this.2.2.1, fun z => by injection z with z; omega⟩
  · rw [if_neg ek] at e
    subst e
    have ek1 : k = 1 := by omega
    subst ek1
    rw [if_neg ek, if_neg ek]
    refine ⟨by rw [upR_a (by simp)]; exact a1, by rw [upR_a (by simp)]; exact a2, by rw [upR_k (by decide)]; exact a3, by rw [upR_at]; rfl, by omega, fun x hx => ?_, fun x hx => ?_, fun x hx => ?_, by rw [a9]; simp [one] <;> omega⟩
    · have := a6 x hx; exact ⟨by omega, this.2⟩
    · have := a7 x hx; exact ⟨by omega, this.2⟩
    · injection hx with hx; subst hx; exact ⟨by omega, by omega, a6', a7'⟩
theorem Own.old {G g : Nat} {s i0 i1 : Option Nat} {mr : MR} {k : Int} {x : Nat} (h : Own G g s i0 i1 mr) (e : imK k i0 i1 = some x) : Own G g s (if k = 0 then some x else i0) (if k = 0 then i1 else some x) mr := by
  unfold imK at e
  by_cases ek : k = 0
  · rw [if_pos ek] at e ⊢; rw [if_pos ek, ← e]; exact h
  · rw [if_neg ek] at e ⊢; rw [if_neg ek, ← e]; exact h
def pIm (h a b : Nat) (k : Int) : Bool := rlS h a b || (a == 0 && b == 0 && k == 3)
def pBk (g a b : Nat) (k : Int) : Bool := rlS g a b || (a == 0 && b == 0 && k == 3) || (a == 0 && b == 60 && k == 3) || (a == 0 && b == 70 && k == 10)
theorem TxS.mv {mi mi' : MI} {x : Nat} (h : TxS mi x) (e : ∀ b, 20 ≤ b → b ≤ 27 → mi' x b = mi x b) : TxS mi' x := by
  unfold TxS at *
  rw [e 20 (by omega) (by omega), e 25 (by omega) (by omega)]
  exact h
/-- cells that are not made: of states to come -/
def unm (G a b : Nat) : Prop := (G ≤ a ∧ a < 4 ∧ 5 ≤ b ∧ b ≤ 43) ∨ (G + 10 ≤ a ∧ a < 14 ∧ 20 ≤ b ∧ b ≤ 27)
def unB (G a b : Nat) : Bool := (Nat.ble G a && Nat.ble a 3 && Nat.ble 5 b && Nat.ble b 43) || (Nat.ble (G + 10) a && Nat.ble a 13 && Nat.ble 20 b && Nat.ble b 27)
theorem nm_unm0 : ((List.range 241).all fun i => ((List.range 5).all fun G => Nat.beq G 0 || Nat.ble (i + 1) (93 + 37 * G) || unB G (nm i).1 (nm i).2)) = true := by decide +kernel
theorem nm_unm {G n i : Nat} (h1 : 1 ≤ G) (h4 : G ≤ 4) (hn : n = 93 + 37 * G) (hi : n ≤ i) (h2 : i < 241) : unm G (nm i).1 (nm i).2 := by
  have h := List.all_eq_true.mp (List.all_eq_true.mp nm_unm0 i (List.mem_range.mpr h2)) G (List.mem_range.mpr (by omega))
  have e1 : Nat.beq G 0 = false := by
    cases G with
    | zero => omega
    | succ G => rfl
  have e2 : Nat.ble (i + 1) (93 + 37 * G) = false := by
    cases hb : Nat.ble (i + 1) (93 + 37 * G) with
    | false => rfl
    | true => have := Nat.le_of_ble_eq_true hb; omega
  rw [e1, e2] at h
  simp only [Bool.false_or, unB, Bool.or_eq_true, Bool.and_eq_true, Nat.ble_eq] at h
  unfold unm
  omega
theorem Fz.cg {G n : Nat} {P : Nat → Nat → Int → Bool} {mi mi' : MI} {mr mr' : MR} (hz : Fz n mi mr) (h1 : 1 ≤ G) (h4 : G ≤ 4) (hn : n = 93 + 37 * G) (hC : Cg P mi mi') (hP : ∀ a b k, unm G a b → P a b k = false) (hr : ∀ a b k, unm G a b → mr' a b k = mr a b k) : Fz n mi' mr' := fun i hi h2 k => by
  have hu := nm_unm h1 h4 hn hi h2
  rw [hC.at (hP _ _ k hu), hr _ _ k hu]
  exact hz i hi h2 k
section IMG
variable {d n G : Nat} {mr : MR} {Q : V → MI → Nat → MR → Prop}
theorem u_cimage (hL : Lay G mr) {mi : MI} {g : Nat} {s i0 i1 : Option Nat} {ρ : Int → Int} {B k : Int} (hO : Own G g s i0 i1 mr) (hn : n = 93 + 37 * G) (hz : Fz n mi mr) (hR : Rep (-1) mi g ρ) (hI : Inv B ρ) (hS1 : TxS mi g) (hS2 : TxS mi (g + 10)) (hQ1 : ¬ (0 ≤ k ∧ k ≤ 1) → Q (vI (-1)) (up mi 0 0 3 (-1)) n mr) (hQ2 : 0 ≤ k → k ≤ 1 → ∀ mi' mr' G' n' h, Lay G' mr' → n' = 93 + 37 * G' → Own G' g s (if k = 0 then some h else i0) (if k = 0 then i1 else some h) mr' → Fz n' mi' mr' → Cg (pIm h) mi mi' → mi' 0 0 3 = 0 → Rep (-1) mi' h ρ → TxS mi' h → TxS mi' (h + 10) → mr' 2 50 0 = mr 2 50 0 → Q (vI 0) mi' n' mr') : Tx (d+5) mt_X11_image [vR (some (0, 0)), vI k] mi n mr Q := by
  have hnow := hO.1
  have hg := hO.2.2.2.2.1
  have h16 := hI.1.2.2.2.2.2.1
  have h17 := hI.1.2.2.2.2.2.2.1
  have h14 := hI.2.2.1.2.2.2.2.1
  have hG4 := hO.g4
  refine tx_intro (ls := [vR (some (0, 0)), vI k]) om_X11_image rfl (Nat.le_of_ble_eq_true rfl) ?_
  by_cases hk : 0 ≤ k ∧ k ≤ 1
  · have hik := hO.im hk
    cases hx : imK k i0 i1 with
    | none =>
      rw [hx] at hik
      have hO' := hO.new hk hx
      have hG' := hO'.g4
      obtain ⟨nb0, nb1, nb2⟩ := nm_blk hG4.1 (by omega) hn
      have z0 := fun k => hz.at (N := 0) nb0 (Nat.le_refl _) (by omega) k
      refine s_iload_n (dc kc_X11_image 0 rfl) rfl <| s_if_lt (tgt := 9) (dc kc_X11_image 1 rfl) rfl (fun c1 => (?_)) (fun c1 => (s_iload_n (dc kc_X11_image 2 rfl) rfl <| k_i (dc kc_X11_image 3 rfl) rfl <| s_icmp_lt (tgt := 15) (dc kc_X11_image 4 rfl) rfl (fun c6 => (r_aload_n (dc kc_X11_image 9 rfl) rfl <| s_getA (dc kc_X11_image 10 rfl) fl_X11_33 (ly_0_6 hL) <| s_iload_n (dc kc_X11_image 11 rfl) rfl <| s_aaload (dc kc_X11_image 12 rfl) rfl (by decide) (by first | omega | (simp [up] <;> omega)) (by first | omega | (simp [up] <;> omega)) hik <| s_ifnonnull (tgt := 37) (dc kc_X11_image 13 rfl) rfl (fun c21 => (r_aload_n (dc kc_X11_image 14 rfl) rfl <| s_getA (dc kc_X11_image 15 rfl) fl_X11_33 (ly_0_6 hL) <| s_iload_n (dc kc_X11_image 16 rfl) rfl <| s_new (j := 5) (dc kc_X11_image 17 rfl) (by first | assumption | rfl) rfl (by decide) rfl (by first | decide | omega) ?_ kk_X11_23 in_X7 it_X7 (Nat.le_of_ble_eq_true rfl) (Nat.le_of_ble_eq_true rfl) <| s_dup (dc kc_X11_image 18 rfl) rfl <| c_i0 (dc kc_X11_image 19 rfl) cl_X11_25 (Nat.le_of_ble_eq_true rfl) (Nat.le_of_ble_eq_true rfl) (Nat.le_of_ble_eq_true rfl) ?_)) (fun a21 c21 => (?_)))) (fun c6 => (?_))))
      all_goals first | (exfalso; omega) | skip
      · exact hz.fr (by omega)
      · refine i_state (i0 := n) (fun i a b k => hz i (by omega) b k) nb0 (by omega) (by omega) nb1 ⟨(z0 _).1, (z0 _).1, (z0 _).1, (z0 _).1⟩ (fun m1 r1 g1 si cs sl zf => ?_)
        have hL1 : Lay (G + 1) (upR r1 0 2 k (some (G, 5))) := lay_img (hL.ext sl cs)
        have hO1 : Own (G + 1) g s (if k = 0 then some G else i0) (if k = 0 then i1 else some G) (upR r1 0 2 k (some (G, 5))) := (hO.cs cs).new hk hx
        have hR1 : Rep (-1) m1 g ρ := hR.mv (fun a b z => g1.row (fun k => by
          simp [rlS] at z
          simp [rlS]
          omega))
        have hT1 : TxS m1 g := hS1.mv (fun b z1 z2 => g1.row (fun k => by simp [rlS]; omega))
        have hT2 : TxS m1 (g + 10) := hS2.mv (fun b z1 z2 => g1.row (fun k => by simp [rlS]; omega))
        have h42 : upR r1 0 2 k (some (G, 5)) 0 2 k = some (G, 5) := upR_at
        have zf1 : Fz (n + 1 + 36) m1 (upR r1 0 2 k (some (G, 5))) := zf.mv (i0 := 39) (a := (0, 2)) rfl (by omega) (fun _ _ _ _ => rfl) (fun _ _ _ h => upR_a h) (Nat.le_refl _)
        have e50 : upR r1 0 2 k (some (G, 5)) 2 50 0 = mr 2 50 0 := by rw [upR_a (by simp)]; exact (cs 2 50 0).resolve_left (by simp [rlR])
        have hL0 := hL
        have hL := hL.ext sl cs
        refine s_aastore (dc kc_X11_image 20 rfl) rfl (by decide) (by first | omega | (simp [up] <;> omega)) (by first | omega | (simp [up] <;> omega)) <| ?_
        have hL := hL1
        generalize upR r1 0 2 k (some (G, 5)) = r2 at *
        have hnow := hO1.1
        refine r_aload_n (dc kc_X11_image 21 rfl) rfl <| s_getA (dc kc_X11_image 22 rfl) fl_X11_33 (ly_0_6 hL) <| s_iload_n (dc kc_X11_image 23 rfl) rfl <| s_aaload (dc kc_X11_image 24 rfl) rfl (by decide) (by first | omega | (simp [up] <;> omega)) (by first | omega | (simp [up] <;> omega)) h42 <| r_aload_n (dc kc_X11_image 25 rfl) rfl <| s_getO (dc kc_X11_image 26 rfl) fl_X11_26 hnow <| c_v1 (dc kc_X11_image 27 rfl) cl_X11_318 rfl (Nat.le_of_ble_eq_true rfl) (Nat.le_of_ble_eq_true rfl) (Nat.le_of_ble_eq_true rfl) ?_
        refine u_stateBecome hL (by omega) (by omega) (by omega) (by omega) hR1 hT1 hT2 h16.2 h17.2 h14 (fun m2 g2 hR2 t1 t2 => ?_)
        refine r_aload_n (dc kc_X11_image 28 rfl) rfl <| k_i (dc kc_X11_image 29 rfl) rfl <| c_v1r (dc kc_X11_image 30 rfl) cl_X11_112 rfl (Nat.le_of_ble_eq_true rfl) (Nat.le_of_ble_eq_true rfl) (Nat.le_of_ble_eq_true rfl) <| u_answer <| s_ireturn (dc kc_X11_image 31 rfl) rfl (Nat.le_of_ble_eq_true rfl) (Nat.le_of_ble_eq_true rfl) ?_
        refine hQ2 hk.1 hk.2 _ r2 (G + 1) (n + 1 + 36) G hL1 (by omega) hO1 ?_ (((g1.tr g2).mono (fun _ _ _ z => by simp [pIm]; exact Or.inl z)).up (by simp [pIm])) up_at (hR2.far (fun a b z1 z2 => up_j (by omega))) (t1.mv (fun b z1 z2 => up_j (by omega))) (t2.mv (fun b z1 z2 => up_j (by omega))) e50
        exact zf1.cg (G := G + 1) (by omega) (by omega) (by omega) ((g2.mono (P' := pIm G) (fun _ _ _ z => by simp [pIm]; exact Or.inl z)).up (by simp [pIm])) (fun a b k z => by simp [pIm, rlS]; unfold unm at z; omega) (fun _ _ _ _ => rfl)
      · exact absurd c21 (by simp [adO])
    | some h =>
      rw [hx] at hik
      have hih := hO.ih hx
      have hO1 := hO.old hx
      refine s_iload_n (dc kc_X11_image 0 rfl) rfl <| s_if_lt (tgt := 9) (dc kc_X11_image 1 rfl) rfl (fun c1 => (?_)) (fun c1 => (s_iload_n (dc kc_X11_image 2 rfl) rfl <| k_i (dc kc_X11_image 3 rfl) rfl <| s_icmp_lt (tgt := 15) (dc kc_X11_image 4 rfl) rfl (fun c6 => (r_aload_n (dc kc_X11_image 9 rfl) rfl <| s_getA (dc kc_X11_image 10 rfl) fl_X11_33 (ly_0_6 hL) <| s_iload_n (dc kc_X11_image 11 rfl) rfl <| s_aaload (dc kc_X11_image 12 rfl) rfl (by decide) (by first | omega | (simp [up] <;> omega)) (by first | omega | (simp [up] <;> omega)) hik <| s_ifnonnull (tgt := 37) (dc kc_X11_image 13 rfl) rfl (fun c21 => (?_)) (fun a21 c21 => (?_)))) (fun c6 => (?_))))
      all_goals first | (exfalso; omega) | skip
      · exact absurd c21 (by simp [adO])
      · refine r_aload_n (dc kc_X11_image 21 rfl) rfl <| s_getA (dc kc_X11_image 22 rfl) fl_X11_33 (ly_0_6 hL) <| s_iload_n (dc kc_X11_image 23 rfl) rfl <| s_aaload (dc kc_X11_image 24 rfl) rfl (by decide) (by first | omega | (simp [up] <;> omega)) (by first | omega | (simp [up] <;> omega)) hik <| r_aload_n (dc kc_X11_image 25 rfl) rfl <| s_getO (dc kc_X11_image 26 rfl) fl_X11_26 hnow <| c_v1 (dc kc_X11_image 27 rfl) cl_X11_318 rfl (Nat.le_of_ble_eq_true rfl) (Nat.le_of_ble_eq_true rfl) (Nat.le_of_ble_eq_true rfl) ?_
        refine u_stateBecome hL (by omega) (by omega) (by omega) (by omega) hR hS1 hS2 h16.2 h17.2 h14 (fun m2 g2 hR2 t1 t2 => ?_)
        refine r_aload_n (dc kc_X11_image 28 rfl) rfl <| k_i (dc kc_X11_image 29 rfl) rfl <| c_v1r (dc kc_X11_image 30 rfl) cl_X11_112 rfl (Nat.le_of_ble_eq_true rfl) (Nat.le_of_ble_eq_true rfl) (Nat.le_of_ble_eq_true rfl) <| u_answer <| s_ireturn (dc kc_X11_image 31 rfl) rfl (Nat.le_of_ble_eq_true rfl) (Nat.le_of_ble_eq_true rfl) ?_
        refine hQ2 hk.1 hk.2 _ mr G n h hL hn hO1 ?_ ((g2.mono (fun _ _ _ z => by simp [pIm]; exact Or.inl z)).up (by simp [pIm])) up_at (hR2.far (fun a b z1 z2 => up_j (by omega))) (t1.mv (fun b z1 z2 => up_j (by omega))) (t2.mv (fun b z1 z2 => up_j (by omega))) rfl
        exact hz.cg (G := G) (by omega) (by omega) hn ((g2.mono (P' := pIm h) (fun _ _ _ z => by simp [pIm]; exact Or.inl z)).up (by simp [pIm])) (fun a b k z => by simp [pIm, rlS]; unfold unm at z; omega) (fun _ _ _ _ => rfl)
  · refine s_iload_n (dc kc_X11_image 0 rfl) rfl <| s_if_lt (tgt := 9) (dc kc_X11_image 1 rfl) rfl (fun c1 => (r_aload_n (dc kc_X11_image 5 rfl) rfl <| k_i (dc kc_X11_image 6 rfl) rfl <| c_v1r (dc kc_X11_image 7 rfl) cl_X11_80 rfl (Nat.le_of_ble_eq_true rfl) (Nat.le_of_ble_eq_true rfl) (Nat.le_of_ble_eq_true rfl) <| u_refuse <| s_ireturn (dc kc_X11_image 8 rfl) rfl (Nat.le_of_ble_eq_true rfl) (Nat.le_of_ble_eq_true rfl) ?_)) (fun c1 => (s_iload_n (dc kc_X11_image 2 rfl) rfl <| k_i (dc kc_X11_image 3 rfl) rfl <| s_icmp_lt (tgt := 15) (dc kc_X11_image 4 rfl) rfl (fun c6 => (?_)) (fun c6 => (r_aload_n (dc kc_X11_image 5 rfl) rfl <| k_i (dc kc_X11_image 6 rfl) rfl <| c_v1r (dc kc_X11_image 7 rfl) cl_X11_80 rfl (Nat.le_of_ble_eq_true rfl) (Nat.le_of_ble_eq_true rfl) (Nat.le_of_ble_eq_true rfl) <| u_refuse <| s_ireturn (dc kc_X11_image 8 rfl) rfl (Nat.le_of_ble_eq_true rfl) (Nat.le_of_ble_eq_true rfl) ?_))))
    all_goals first | (exfalso; omega) | exact hQ1 hk
theorem u_cback (hL : Lay G mr) {mi : MI} {g : Nat} {s i0 i1 : Option Nat} {σ : Int → Int} {B k : Int} (hO : Own G g s i0 i1 mr) (hR : ∀ h, imK k i0 i1 = some h → Rep (-1) mi h σ ∧ TxS mi h ∧ TxS mi (h + 10) ∧ Inv B σ) (hQ1 : ¬ (0 ≤ k ∧ k ≤ 1) → Q (vI (-1)) (up mi 0 0 3 (-1)) n mr) (hQ2 : 0 ≤ k → k ≤ 1 → imK k i0 i1 = none → Q (vI (-2)) (up mi 0 0 3 (-2)) n mr) (hQ3 : 0 ≤ k → k ≤ 1 → imK k i0 i1 ≠ none → ∀ mi', Cg (pBk g) mi mi' → mi' 0 0 3 = 0 → mi' 0 60 3 = -1 → mi' 0 70 10 = 0 → Rep (-1) mi' g σ → TxS mi' g → TxS mi' (g + 10) → Q (vI 0) mi' n mr) : Tx (d+3) mt_X11_back [vR (some (0, 0)), vI k] mi n mr Q := by
  have hnow := hO.1
  have hg := hO.2.2.2.2.1
  have hG4 := hO.g4
  refine tx_intro (ls := [vR (some (0, 0)), vI k, vX 0]) om_X11_back rfl (Nat.le_of_ble_eq_true rfl) ?_
  by_cases hk : 0 ≤ k ∧ k ≤ 1
  · have hik := hO.im hk
    cases hx : imK k i0 i1 with
    | none =>
      rw [hx] at hik
      refine s_iload_n (dc kc_X11_back 0 rfl) rfl <| s_if_lt (tgt := 9) (dc kc_X11_back 1 rfl) rfl (fun c1 => (?_)) (fun c1 => (s_iload_n (dc kc_X11_back 2 rfl) rfl <| k_i (dc kc_X11_back 3 rfl) rfl <| s_icmp_lt (tgt := 15) (dc kc_X11_back 4 rfl) rfl (fun c6 => (r_aload_n (dc kc_X11_back 9 rfl) rfl <| s_getA (dc kc_X11_back 10 rfl) fl_X11_33 (ly_0_6 hL) <| s_iload_n (dc kc_X11_back 11 rfl) rfl <| s_aaload (dc kc_X11_back 12 rfl) rfl (by decide) (by first | omega | (simp [up] <;> omega)) (by first | omega | (simp [up] <;> omega)) hik <| t_r2 (dc kc_X11_back 13 rfl) (Nat.le_of_ble_eq_true rfl) rfl <| r_aload_n (dc kc_X11_back 14 rfl) rfl <| s_ifnonnull (tgt := 33) (dc kc_X11_back 15 rfl) rfl (fun c23 => (r_aload_n (dc kc_X11_back 16 rfl) rfl <| k_b (dc kc_X11_back 17 rfl) rfl <| c_v1r (dc kc_X11_back 18 rfl) cl_X11_80 rfl (Nat.le_of_ble_eq_true rfl) (Nat.zero_le _) (Nat.zero_le _) <| u_refuse <| s_ireturn (dc kc_X11_back 19 rfl) rfl (Nat.zero_le _) (Nat.zero_le _) ?_)) (fun a23 c23 => (?_)))) (fun c6 => (?_))))
      all_goals first | (exfalso; omega) | skip
      · exact hQ2 hk.1 hk.2 hx
      · exact absurd c23 (by simp [adO])
    | some h =>
      rw [hx] at hik
      have hik : mr 0 2 k = some (h, 5) := hik
      have hih := hO.ih hx
      obtain ⟨r1, r2, r3, hI⟩ := hR h hx
      have h16 := hI.1.2.2.2.2.2.1
      have h17 := hI.1.2.2.2.2.2.2.1
      have h14 := hI.2.2.1.2.2.2.2.1
      refine s_iload_n (dc kc_X11_back 0 rfl) rfl <| s_if_lt (tgt := 9) (dc kc_X11_back 1 rfl) rfl (fun c1 => (?_)) (fun c1 => (s_iload_n (dc kc_X11_back 2 rfl) rfl <| k_i (dc kc_X11_back 3 rfl) rfl <| s_icmp_lt (tgt := 15) (dc kc_X11_back 4 rfl) rfl (fun c6 => (r_aload_n (dc kc_X11_back 9 rfl) rfl <| s_getA (dc kc_X11_back 10 rfl) fl_X11_33 (ly_0_6 hL) <| s_iload_n (dc kc_X11_back 11 rfl) rfl <| s_aaload (dc kc_X11_back 12 rfl) rfl (by decide) (by first | omega | (simp [up] <;> omega)) (by first | omega | (simp [up] <;> omega)) hik <| t_r2 (dc kc_X11_back 13 rfl) (Nat.le_of_ble_eq_true rfl) rfl <| r_aload_n (dc kc_X11_back 14 rfl) rfl <| s_ifnonnull (tgt := 33) (dc kc_X11_back 15 rfl) rfl (fun c23 => (?_)) (fun a23 c23 => (?_)))) (fun c6 => (?_))))
      all_goals first | (exfalso; omega) | skip
      · cases c23
      · refine r_aload_n (dc kc_X11_back 20 rfl) rfl <| s_getO (dc kc_X11_back 21 rfl) fl_X11_26 hnow <| r_aload_n (dc kc_X11_back 22 rfl) rfl <| c_v1 (dc kc_X11_back 23 rfl) cl_X11_318 rfl (Nat.le_of_ble_eq_true rfl) (Nat.zero_le _) (Nat.zero_le _) ?_
        refine u_stateBecome hL (by omega) (by omega) (by omega) (by omega) r1 r2 r3 h16.2 h17.2 h14 (fun m2 g2 hR2 t1 t2 => ?_)
        refine r_aload_n (dc kc_X11_back 24 rfl) rfl <| c_v0 (dc kc_X11_back 25 rfl) cl_X11_106 rfl (Nat.le_of_ble_eq_true rfl) (Nat.zero_le _) (Nat.zero_le _) <| u_changed hL <| r_aload_n (dc kc_X11_back 26 rfl) rfl <| k_i (dc kc_X11_back 27 rfl) rfl <| c_v1r (dc kc_X11_back 28 rfl) cl_X11_112 rfl (Nat.le_of_ble_eq_true rfl) (Nat.zero_le _) (Nat.zero_le _) <| u_answer <| s_ireturn (dc kc_X11_back 29 rfl) rfl (Nat.zero_le _) (Nat.zero_le _) ?_
        refine hQ3 hk.1 hk.2 (by rw [hx]; simp) _ ((((g2.mono (P' := pBk g) (fun _ _ _ z => by simp [pBk]; exact Or.inl (Or.inl (Or.inl z)))).up (by simp [pBk])).up (by simp [pBk])).up (by simp [pBk])) up_at (by rw [up_j (by decide), up_j (by decide), up_at]) (by rw [up_j (by decide), up_at]) (hR2.far (fun a b z1 z2 => by rw [up_j (by omega), up_j (by omega), up_j (by omega)])) (t1.mv (fun b z1 z2 => by rw [up_j (by omega), up_j (by omega), up_j (by omega)])) (t2.mv (fun b z1 z2 => by rw [up_j (by omega), up_j (by omega), up_j (by omega)]))
  · refine s_iload_n (dc kc_X11_back 0 rfl) rfl <| s_if_lt (tgt := 9) (dc kc_X11_back 1 rfl) rfl (fun c1 => (r_aload_n (dc kc_X11_back 5 rfl) rfl <| k_i (dc kc_X11_back 6 rfl) rfl <| c_v1r (dc kc_X11_back 7 rfl) cl_X11_80 rfl (Nat.le_of_ble_eq_true rfl) (Nat.zero_le _) (Nat.zero_le _) <| u_refuse <| s_ireturn (dc kc_X11_back 8 rfl) rfl (Nat.zero_le _) (Nat.zero_le _) ?_)) (fun c1 => (s_iload_n (dc kc_X11_back 2 rfl) rfl <| k_i (dc kc_X11_back 3 rfl) rfl <| s_icmp_lt (tgt := 15) (dc kc_X11_back 4 rfl) rfl (fun c6 => (?_)) (fun c6 => (r_aload_n (dc kc_X11_back 5 rfl) rfl <| k_i (dc kc_X11_back 6 rfl) rfl <| c_v1r (dc kc_X11_back 7 rfl) cl_X11_80 rfl (Nat.le_of_ble_eq_true rfl) (Nat.zero_le _) (Nat.zero_le _) <| u_refuse <| s_ireturn (dc kc_X11_back 8 rfl) rfl (Nat.zero_le _) (Nat.zero_le _) ?_))))
    all_goals first | (exfalso; omega) | exact hQ1 hk
end IMG
