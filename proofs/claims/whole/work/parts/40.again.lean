/-! the reference: takeBack, again -/
def tk1 (ρ : Int → Int) (w : Int) : Int → Int := ud (mkR (ud ρ (30 + ρ (646 + 7 * w + 2)) (ρ (646 + 7 * w + 3))) (ρ (646 + 7 * w + 2)) (ρ (646 + 7 * w + 4))) 8 w
def tkB (s : Int) : Nat → (Int → Int) → Int → Int
  | 0, ρ => ρ
  | w + 1, ρ => if s ≤ ρ (646 + 7 * (w : Int)) then tkB s w (tk1 ρ w) else ρ
theorem mkR_off {ρ : Int → Int} {c b k : Int} (h : k ≠ 19) : mkR ρ c b k = ρ k := ud_ne h
theorem tk1_off {ρ : Int → Int} {w k : Int} (h : k ≠ 8 ∧ k ≠ 19 ∧ k ≠ 30 + ρ (646 + 7 * w + 2)) : tk1 ρ w k = ρ k := by
  unfold tk1
  rw [ud_ne h.1, mkR_off h.2.1, ud_ne h.2.2]
theorem tk1_8 {ρ : Int → Int} {w : Int} : tk1 ρ w 8 = w := by unfold tk1; rw [ud_at]
theorem tk1_Inv {ρ : Int → Int} {w : Int} (hV : VC (clR ρ)) (hW : InvW ρ) (h1 : ρ 8 ≤ 200) (hw0 : 0 ≤ w) (hw1 : w < ρ 8) : VC (clR (tk1 ρ w)) ∧ InvW (tk1 ρ w) := by
  have h := hW.1 w hw0 hw1
  have e : ∀ k, k ≠ 8 → k ≠ 19 → (k < 30 ∨ 54 ≤ k) → tk1 ρ w k = ρ k := fun k z0 z1 z2 => tk1_off (by omega)
  constructor
  · refine hV.wr fun i h0 h1 => ?_
    show tk1 ρ w (30 + i) = ρ (30 + i) ∨ biC i (tk1 ρ w (30 + i)) = 1
    by_cases e1 : i = ρ (646 + 7 * w + 2)
    · right
      unfold tk1
      rw [ud_ne (by omega), mkR_off (by omega), e1, ud_at]
      exact h.2.1
    · left; exact tk1_off (by omega)
  · refine ⟨fun v g0 g1 => ?_, fun v g0 g1 => ?_, fun s g0 g1 => ?_, ?_, ?_⟩
    · rw [tk1_8] at g1
      rw [e _ (by omega) (by omega) (by omega), e _ (by omega) (by omega) (by omega), e _ (by omega) (by omega) (by omega), e _ (by omega) (by omega) (by omega), e _ (by omega) (by omega) (by omega), e _ (by omega) (by omega) (by omega)]
      exact hW.1 v g0 (by omega)
    · rw [tk1_8] at g1
      rw [e _ (by omega) (by omega) (by omega), e _ (by omega) (by omega) (by omega)]
      exact hW.2.1 v g0 (by omega)
    · rw [e _ (by omega) (by omega) (by omega), e _ (by omega) (by omega) (by omega)]
      exact hW.2.2.1 s g0 g1
    · rw [e _ (by omega) (by omega) (by omega), e _ (by omega) (by omega) (by omega)]
      exact hW.2.2.2.1
    · rw [e _ (by omega) (by omega) (by omega), e _ (by omega) (by omega) (by omega)]
      exact hW.2.2.2.2
/-- what is left when writes are taken back -/
theorem tkB_Inv {s : Int} : ∀ (w : Nat) (ρ : Int → Int), VC (clR ρ) → InvW ρ → ρ 8 = w → w ≤ 200 → VC (clR (tkB s w ρ)) ∧ InvW (tkB s w ρ) ∧ (0 ≤ tkB s w ρ 8 ∧ tkB s w ρ 8 ≤ 200) ∧ (∀ k, k ≠ 8 → k ≠ 19 → (k < 30 ∨ 54 ≤ k) → tkB s w ρ k = ρ k) ∧ (∀ v, 0 ≤ v → v < tkB s w ρ 8 → tkB s w ρ (646 + 7 * v) < s) ∧ (rg (ρ 19) → rg (tkB s w ρ 19))
  | 0, ρ, hV, hW, h8, h200 => ⟨hV, hW, by rw [tkB]; omega, fun _ _ _ _ => rfl, fun v g0 g1 => by rw [tkB] at g1; omega, id⟩
  | w + 1, ρ, hV, hW, h8, h200 => by
    rw [tkB]
    by_cases e : s ≤ ρ (646 + 7 * (w : Int))
    · rw [if_pos e]
      have h1 := tk1_Inv (w := w) hV hW (by omega) (by omega) (by omega)
      have hc := hW.1 w (by omega) (by omega)
      obtain ⟨a, b, c, d, f, g⟩ := tkB_Inv (s := s) w (tk1 ρ w) h1.1 h1.2 tk1_8 (by omega)
      refine ⟨a, b, c, fun k z0 z1 z2 => by rw [d k z0 z1 z2]; exact tk1_off (by omega), f, fun _ => g ?_⟩
      unfold tk1
      rw [ud_ne (by omega)]
      exact mkR_rg
    · rw [if_neg e]
      refine ⟨hV, hW, by omega, fun _ _ _ _ => rfl, fun v g0 g1 => ?_, id⟩
      have hm : ∀ (m : Nat) (v : Int), 0 ≤ v → v + m = w → ρ (646 + 7 * v) ≤ ρ (646 + 7 * (w : Int)) := by
        intro m
        induction m with
        | zero => intro v _ z; rw [show v = (w : Int) by omega]; omega
        | succ m ih =>
          intro v z0 z1
          have := ih (v + 1) (by omega) (by omega)
          have := hW.2.1 v z0 (by omega)
          omega
      have := hm (w - v).toNat v g0 (by omega)
      omega
/-- one step done anew: the row, whether it has a line, whether it goes well -/
def agS (ρ : Int → Int) (s : Int) : Option ((Int → Int) × Int) :=
  if ρ (246 + 2 * (s % 200)) = -1 then some (ρ, 0)
  else if ρ (2166 + 10 * ρ (246 + 2 * (s % 200))) = 5 then some (ρ, 1)
  else if (lnO ρ (ρ (246 + 2 * (s % 200)))).1 = 1 ∧ ρ (246 + 2 * (s % 200) + 1) ≠ 1 then none
  else some (ud (lnR ρ (ρ (246 + 2 * (s % 200))) s 0) (246 + 2 * (s % 200) + 1) (bi ((lnO ρ (ρ (246 + 2 * (s % 200)))).1 = 1)), 1)
def agF (ρ : Int → Int) (s : Int) : Nat → Option ((Int → Int) × Int)
  | 0 => some (ρ, 0)
  | i + 1 => match agF ρ s i with
    | none => none
    | some p => match agS p.1 (s + i) with
      | none => none
      | some q => some (q.1, p.2 + q.2)
/-- the row before the first is done anew -/
def ag0 (ρ : Int → Int) (s : Int) : Int → Int := ud (tkB s (ρ 8).toNat ρ) (246 + 2 * (s % 200)) (-1)
/-- what is true while steps are done anew -/
def InvA (ρ0 ρ : Int → Int) (s : Int) : Prop := VC (clR ρ) ∧ InvW ρ ∧ (0 ≤ ρ 8 ∧ ρ 8 ≤ 200) ∧ (∀ w, 0 ≤ w → w < ρ 8 → ρ (646 + 7 * w) ≤ s) ∧ ρ 20 ≤ s ∧ (∀ k, k ≠ 8 → k ≠ 19 → k ≠ 20 → (k < 30 ∨ 54 ≤ k ∧ k < 246 ∨ 2046 ≤ k) → ρ k = ρ0 k) ∧ rg (ρ 19)
section AGN
variable {ρ0 ρ : Int → Int} {s : Int}
theorem InvA.hi (h : InvA ρ0 ρ s) : hiEq ρ0 ρ := fun k hk => h.2.2.2.2.2.1 k (by omega) (by omega) (by omega) (by omega)
theorem ag0_Inv (hV : VC (clR ρ0)) (hW : InvW ρ0) (h8 : 0 ≤ ρ0 8 ∧ ρ0 8 ≤ 200) (h19 : rg (ρ0 19)) (hs : 0 ≤ s) (h20 : ρ0 20 < s) : InvA ρ0 (ag0 ρ0 s) s := by
  obtain ⟨a, b, c, d, f, g⟩ := tkB_Inv (s := s) (ρ0 8).toNat ρ0 hV hW (by omega) (by omega)
  unfold ag0
  generalize hT : tkB s (ρ0 8).toNat ρ0 = T at *
  have e : ∀ k, (k < 246 ∨ 646 ≤ k) → ud T (246 + 2 * (s % 200)) (-1) k = T k := fun k z => ud_ne (by omega)
  refine ⟨a.ag (fun i g0 g1 => e _ (by omega)), ⟨fun w g0 g1 => ?_, fun w g0 g1 => ?_, fun x g0 g1 => ?_, ?_, ?_⟩, by rw [e 8 (by omega)]; exact c, fun w g0 g1 => ?_, ?_, fun k z0 z1 z2 z3 => ?_, by rw [e _ (by omega)]; exact g h19⟩
  · rw [e 8 (by omega)] at g1
    rw [e _ (by omega), e _ (by omega), e _ (by omega), e _ (by omega), e _ (by omega), e _ (by omega)]
    exact b.1 w g0 g1
  · rw [e 8 (by omega)] at g1
    rw [e _ (by omega), e _ (by omega)]
    exact b.2.1 w g0 g1
  · rw [e 17 (by omega)]
    by_cases e1 : x = s % 200
    · rw [← e1, ud_at]; omega
    · rw [ud_ne (by omega)]; exact b.2.2.1 x g0 g1
  · rw [e _ (by omega), e _ (by omega)]; exact b.2.2.2.1
  · rw [e _ (by omega), e _ (by omega)]; exact b.2.2.2.2
  · rw [e 8 (by omega)] at g1
    rw [e _ (by omega)]
    have := f w g0 g1
    omega
  · rw [e _ (by omega), d 20 (by omega) (by omega) (by omega)]; omega
  · rw [e _ (by omega)]; exact d k z0 z1 (by omega)
theorem agS_Inv (h : InvA ρ0 ρ s) (hs : 0 ≤ s) (hs1 : s ≤ ρ0 0) (h17 : 0 < ρ0 17) (hl : ∀ j, 0 ≤ j → j < ρ0 17 → WfLine ρ0 j) {q : (Int → Int) × Int} (e : agS ρ s = some q) : InvA ρ0 q.1 s ∧ (q.2 = 0 ∨ q.2 = 1) := by
  have hi := h.hi
  obtain ⟨hV, hW, h8, hst, h20, hof, h19⟩ := id h
  unfold agS at e
  by_cases e1 : ρ (246 + 2 * (s % 200)) = -1
  · rw [if_pos e1] at e; cases e; exact ⟨h, Or.inl rfl⟩
  · rw [if_neg e1] at e
    by_cases e2 : ρ (2166 + 10 * ρ (246 + 2 * (s % 200))) = 5
    · rw [if_pos e2] at e; cases e; exact ⟨h, Or.inr rfl⟩
    · rw [if_neg e2] at e
      have e17 : ρ 17 = ρ0 17 := hof 17 (by omega) (by omega) (by omega) (by omega)
      have e0 : ρ 0 = ρ0 0 := hof 0 (by omega) (by omega) (by omega) (by omega)
      have hj := hW.2.2.1 (s % 200) (by omega) (by omega)
      generalize hjj : ρ (246 + 2 * (s % 200)) = j at *
      have hj0 : 0 ≤ j ∧ j < ρ0 17 := by omega
      have hw : WfLine ρ j := (hl j hj0.1 hj0.2).hi hi hj0.1
      split at e
      · cases e
      · cases e
        have k := InvW_lnR (j := j) (s := s) h8.1 h8.2 hW hV hw hs (by omega) hst h20
        have kV := lnR_VC (s := s) (p := 0) hV hw h8.1 h8.2
        have k8 := lnR_8 (s := s) (p := 0) hV hw h8.1 h8.2
        have kof : ∀ k, k ≠ 8 → k ≠ 20 → k ≠ 19 → (k < 30 ∨ 54 ≤ k ∧ k < 646 ∨ 2046 ≤ k) → lnR ρ j s 0 k = ρ k := fun k a b c d => lnR_off hV hw h8.1 h8.2 ⟨a, b, c, d⟩
        have kr : rg (lnR ρ j s 0 19) := by
          unfold lnR
          split
          · exact mkR_rg
          · exact h19
        have e : ∀ k, (k < 246 ∨ 646 ≤ k) → ud (lnR ρ j s 0) (246 + 2 * (s % 200) + 1) (bi ((lnO ρ j).1 = 1)) k = lnR ρ j s 0 k := fun k z => ud_ne (by omega)
        show InvA ρ0 (ud (lnR ρ j s 0) (246 + 2 * (s % 200) + 1) (bi ((lnO ρ j).1 = 1))) s ∧ _
        refine ⟨⟨kV.ag (fun i g0 g1 => e _ (by omega)), ⟨fun w g0 g1 => ?_, fun w g0 g1 => ?_, fun x g0 g1 => ?_, ?_, ?_⟩, by rw [e 8 (by omega)]; exact k8, fun w g0 g1 => ?_, ?_, fun k z0 z1 z2 z3 => ?_, by rw [e _ (by omega)]; exact kr⟩, Or.inr rfl⟩
        · rw [e 8 (by omega)] at g1
          rw [e _ (by omega), e _ (by omega), e _ (by omega), e _ (by omega), e _ (by omega), e _ (by omega)]
          exact k.1.1 w g0 g1
        · rw [e 8 (by omega)] at g1
          rw [e _ (by omega), e _ (by omega)]
          exact k.1.2.1 w g0 g1
        · rw [e 17 (by omega), ud_ne (by omega)]
          exact k.1.2.2.1 x g0 g1
        · rw [e _ (by omega), e _ (by omega)]; exact k.1.2.2.2.1
        · rw [e _ (by omega), e _ (by omega)]; exact k.1.2.2.2.2
        · rw [e 8 (by omega)] at g1
          rw [e _ (by omega)]
          exact k.2.1 w g0 g1
        · rw [e _ (by omega)]; exact k.2.2
        · rw [e _ (by omega), kof k z0 z2 z1 (by omega)]; exact hof k z0 z1 z2 z3
theorem InvA.mono {s' : Int} (h : InvA ρ0 ρ s) (hs : s ≤ s') : InvA ρ0 ρ s' := ⟨h.1, h.2.1, h.2.2.1, fun w g0 g1 => by have := h.2.2.2.1 w g0 g1; omega, by have := h.2.2.2.2.1; omega, h.2.2.2.2.2⟩
theorem agF_Inv {ρ1 : Int → Int} (h : InvA ρ0 ρ1 s) (hs : 0 ≤ s) (h17 : 0 < ρ0 17) (hl : ∀ j, 0 ≤ j → j < ρ0 17 → WfLine ρ0 j) : ∀ (i : Nat) (q : (Int → Int) × Int), s + i ≤ ρ0 0 → agF ρ1 (s + 1) i = some q → InvA ρ0 q.1 (s + i) ∧ 0 ≤ q.2 ∧ q.2 ≤ i
  | 0, q, _, e => by
    rw [agF] at e; cases e
    rw [show s + ((0 : Nat) : Int) = s by omega]
    exact ⟨h, Int.le_refl _, Int.le_refl _⟩
  | i + 1, q, hi, e => by
    rw [agF] at e
    cases e1 : agF ρ1 (s + 1) i with
    | none => rw [e1] at e; cases e
    | some p =>
      rw [e1] at e
      simp only [] at e
      have ih := agF_Inv h hs h17 hl i p (by omega) e1
      cases e2 : agS p.1 (s + 1 + i) with
      | none => rw [e2] at e; cases e
      | some r =>
        rw [e2] at e
        simp only [] at e
        cases e
        have := agS_Inv (ih.1.mono (s' := s + 1 + i) (by omega)) (by omega) (by omega) h17 hl e2
        rw [show s + ((i + 1 : Nat) : Int) = s + 1 + i by omega]
        exact ⟨this.1, by simp only []; omega, by simp only []; omega⟩
end AGN
section AGT
variable {d n G : Nat} {mr : MR} {Q : V → MI → Nat → MR → Prop}
theorem t_takeBack (hL : Lay G mr) {mi : MI} {s : Int} (hV : VC (cel mi)) (hW : InvW (mi 0 81)) (h8 : 0 ≤ mi 0 81 8 ∧ mi 0 81 8 ≤ 200) (hQ : ∀ mi', Ch p81 mi mi' → mi' 0 81 = tkB s (mi 0 81 8).toNat (mi 0 81) → Q (vX 0) mi' n mr) : Tx (d+2) mt_X12_takeBack [vR (some (0, 80)), vI s] mi n mr Q := by
  refine tx_intro (ls := [vR (some (0, 80)), vI s, vX 0]) om_X12_takeBack rfl (Nat.le_of_ble_eq_true rfl) ?_
  have loop : ∀ (w : Nat) (m : MI) (x2 : V), Ch p81 mi m → VC (cel m) → InvW (m 0 81) → m 0 81 8 = w → w ≤ 200 → tkB s w (m 0 81) = tkB s (mi 0 81 8).toNat (mi 0 81) → Run (d+2) mt_X12_takeBack Q (n, mr, 0, 0) m 0 [vR (some (0, 80)), vI s, x2] [] := by
    intro w
    induction w with
    | zero =>
      intro m x2 g hv hw e8 h200 et
      refine r_aload_n (dc kc_X12_takeBack_0 0 rfl) rfl <| s_getA (dc kc_X12_takeBack_0 1 rfl) fl_X12_7 (ly_80_2 hL) <| k_b (dc kc_X12_takeBack_0 2 rfl) rfl <| s_iaload (dc kc_X12_takeBack_0 3 rfl) rfl (by first | omega | (simp [up] <;> omega)) (by first | omega | (simp [up] <;> omega)) <| s_if_le (tgt := 119) (dc kc_X12_takeBack_0 4 rfl) rfl (fun c7 => (s_return (dc kc_X12_takeBack_1 36 rfl) rfl (Nat.zero_le _) (Nat.zero_le _) ?_)) (fun c7 => (?_))
      · exact hQ m g (by rw [← et]; rfl)
      · exfalso; omega
    | succ w ih =>
      intro m x2 g hv hw e8 h200 et
      have hc := hw.1 w (by omega) (by omega)
      have ex : m 0 81 8 - 1 = (w : Int) := by omega
      have e2 : ∀ v, up m 0 81 (30 + m 0 81 (646 + 7 * (w : Int) + 2)) v 0 81 (646 + 7 * (w : Int) + 2) = m 0 81 (646 + 7 * (w : Int) + 2) := fun v => by rw [up_ud, ud_ne (by omega)]
      have e4 : ∀ v, up m 0 81 (30 + m 0 81 (646 + 7 * (w : Int) + 2)) v 0 81 (646 + 7 * (w : Int) + 4) = m 0 81 (646 + 7 * (w : Int) + 4) := fun v => by rw [up_ud, ud_ne (by omega)]
      have fin : ∀ b (x2 : V), b = m 0 81 (646 + 7 * (w : Int) + 4) → s ≤ m 0 81 (646 + 7 * (w : Int)) → Run (d+2) mt_X12_takeBack Q (n, mr, 0, 0) (up m 0 81 (30 + m 0 81 (646 + 7 * (w : Int) + 2)) (m 0 81 (646 + 7 * (w : Int) + 3))) 102 [vR (some (0, 80)), vI s, x2] [vI b, vI (m 0 81 (646 + 7 * (w : Int) + 2)), vR (some (0, 80))] := by
        intro b x2 eb hs
        have h1 := tk1_Inv (w := w) hv hw (by omega) (by omega) (by omega)
        have e19 : up m 0 81 (30 + m 0 81 (646 + 7 * (w : Int) + 2)) (m 0 81 (646 + 7 * (w : Int) + 3)) 0 81 = ud (m 0 81) (30 + m 0 81 (646 + 7 * (w : Int) + 2)) (m 0 81 (646 + 7 * (w : Int) + 3)) := up_ud
        have ge : Ch p81 mi (up m 0 81 (30 + m 0 81 (646 + 7 * (w : Int) + 2)) (m 0 81 (646 + 7 * (w : Int) + 3))) := g.up rfl
        generalize hm1 : up m 0 81 (30 + m 0 81 (646 + 7 * (w : Int) + 2)) (m 0 81 (646 + 7 * (w : Int) + 3)) = m1 at *
        have e18 : m1 0 81 8 = m 0 81 8 := by rw [e19, ud_ne (by omega)]
        have e8' : ∀ v, up m1 0 81 19 v 0 81 8 = m 0 81 8 := fun v => by rw [up_k (by decide), e18]
        refine c_v2 (dc kc_X12_takeBack_1 26 rfl) cl_X12_410 rfl (Nat.le_of_ble_eq_true rfl) (Nat.zero_le _) (Nat.zero_le _) <| t_mark hL <| r_aload_n (dc kc_X12_takeBack_1 27 rfl) rfl <| s_getA (dc kc_X12_takeBack_1 28 rfl) fl_X12_7 (ly_80_2 hL) <| k_b (dc kc_X12_takeBack_1 29 rfl) rfl <| s_dup2 (dc kc_X12_takeBack_1 30 rfl) rfl rfl <| s_iaload (dc kc_X12_takeBack_1 31 rfl) rfl (by first | omega | (simp [up] <;> omega)) (by first | omega | (simp [up] <;> omega)) <| k_i (dc kc_X12_takeBack_1 32 rfl) rfl <| b_isub (dc kc_X12_takeBack_1 33 rfl) (by first | omega | (simp [up] <;> omega)) (by first | omega | (simp [up] <;> omega)) <| s_iastore (dc kc_X12_takeBack_1 34 rfl) rfl (by first | omega | (simp [up] <;> omega)) (by first | omega | (simp [up] <;> omega)) <| s_goto (tgt := 0) (dc kc_X12_takeBack_1 35 rfl) rfl <| ?_
        rw [e8', ex]
        have er : up (up m1 0 81 19 (if b = 0 then bClr (m1 0 81 19) (m 0 81 (646 + 7 * (w : Int) + 2)) else bSet (m1 0 81 19) (m 0 81 (646 + 7 * (w : Int) + 2)))) 0 81 8 (w : Int) 0 81 = tk1 (m 0 81) w := by
          rw [up_ud, up_ud]
          unfold tk1 mkR
          rw [e19, eb]
        refine ih _ _ ((ge.up rfl).up rfl) (by unfold cel; rw [er]; exact h1.1) (by rw [er]; exact h1.2) (by rw [er]; exact tk1_8) (by omega) ?_
        rw [er, ← et, tkB, if_pos hs]
      have e65 : ∀ v, up m 0 81 (30 + m 0 81 (646 + 7 * (w : Int) + 2)) v 0 81 8 = m 0 81 8 := fun v => by rw [up_ud, ud_ne (by omega)]
      refine r_aload_n (dc kc_X12_takeBack_0 0 rfl) rfl <| s_getA (dc kc_X12_takeBack_0 1 rfl) fl_X12_7 (ly_80_2 hL) <| k_b (dc kc_X12_takeBack_0 2 rfl) rfl <| s_iaload (dc kc_X12_takeBack_0 3 rfl) rfl (by first | omega | (simp [up] <;> omega)) (by first | omega | (simp [up] <;> omega)) <| s_if_le (tgt := 119) (dc kc_X12_takeBack_0 4 rfl) rfl (fun c7 => (s_return (dc kc_X12_takeBack_1 36 rfl) rfl (Nat.zero_le _) (Nat.zero_le _) ?_)) (fun c7 => (?_))
      · exfalso; omega
      · refine r_aload_n (dc kc_X12_takeBack_0 5 rfl) rfl <| s_getA (dc kc_X12_takeBack_0 6 rfl) fl_X12_7 (ly_80_2 hL) <| k_s (dc kc_X12_takeBack_0 7 rfl) rfl <| k_b (dc kc_X12_takeBack_0 8 rfl) rfl <| r_aload_n (dc kc_X12_takeBack_0 9 rfl) rfl <| s_getA (dc kc_X12_takeBack_0 10 rfl) fl_X12_7 (ly_80_2 hL) <| k_b (dc kc_X12_takeBack_0 11 rfl) rfl <| s_iaload (dc kc_X12_takeBack_0 12 rfl) rfl (by first | omega | (simp [up] <;> omega)) (by first | omega | (simp [up] <;> omega)) <| k_i (dc kc_X12_takeBack_0 13 rfl) rfl <| b_isub (dc kc_X12_takeBack_0 14 rfl) (by first | omega | (simp [up] <;> omega)) (by first | omega | (simp [up] <;> omega)) <| b_imul (dc kc_X12_takeBack_0 15 rfl) (by first | omega | (simp [up] <;> omega)) (by first | omega | (simp [up] <;> omega)) <| b_iadd (dc kc_X12_takeBack_0 16 rfl) (by first | omega | (simp [up] <;> omega)) (by first | omega | (simp [up] <;> omega)) <| s_iaload (dc kc_X12_takeBack_0 17 rfl) rfl (by first | omega | (simp [up] <;> omega)) (by first | omega | (simp [up] <;> omega)) <| s_iload_n (dc kc_X12_takeBack_0 18 rfl) rfl <| s_icmp_lt (tgt := 119) (dc kc_X12_takeBack_0 19 rfl) rfl (fun c32 => (?_)) (fun c32 => (?_))
        · rw [ex] at c32
          refine s_return (dc kc_X12_takeBack_1 36 rfl) rfl (Nat.zero_le _) (Nat.zero_le _) ?_
          refine hQ m g ?_
          rw [← et, tkB, if_neg (by omega)]
        · rw [ex] at c32
          refine k_s (dc kc_X12_takeBack_0 20 rfl) rfl <| k_b (dc kc_X12_takeBack_0 21 rfl) rfl <| r_aload_n (dc kc_X12_takeBack_0 22 rfl) rfl <| s_getA (dc kc_X12_takeBack_0 23 rfl) fl_X12_7 (ly_80_2 hL) <| k_b (dc kc_X12_takeBack_0 24 rfl) rfl <| s_iaload (dc kc_X12_takeBack_0 25 rfl) rfl (by first | omega | (simp [up] <;> omega)) (by first | omega | (simp [up] <;> omega)) <| k_i (dc kc_X12_takeBack_0 26 rfl) rfl <| b_isub (dc kc_X12_takeBack_0 27 rfl) (by first | omega | (simp [up] <;> omega)) (by first | omega | (simp [up] <;> omega)) <| b_imul (dc kc_X12_takeBack_0 28 rfl) (by first | omega | (simp [up] <;> omega)) (by first | omega | (simp [up] <;> omega)) <| b_iadd (dc kc_X12_takeBack_0 29 rfl) (by first | omega | (simp [up] <;> omega)) (by first | omega | (simp [up] <;> omega)) <| t_i2 (dc kc_X12_takeBack_0 30 rfl) (Nat.le_of_ble_eq_true rfl) rfl <| ?_
          rw [ex]
          refine r_aload_n (dc kc_X12_takeBack_0 31 rfl) rfl <| s_getA (dc kc_X12_takeBack_0 32 rfl) fl_X12_7 (ly_80_2 hL) <| k_b (dc kc_X12_takeBack_0 33 rfl) rfl <| r_aload_n (dc kc_X12_takeBack_0 34 rfl) rfl <| s_getA (dc kc_X12_takeBack_0 35 rfl) fl_X12_7 (ly_80_2 hL) <| s_iload_n (dc kc_X12_takeBack_0 36 rfl) rfl <| k_i (dc kc_X12_takeBack_0 37 rfl) rfl <| b_iadd (dc kc_X12_takeBack_0 38 rfl) (by first | omega | (simp [up] <;> omega)) (by first | omega | (simp [up] <;> omega)) <| s_iaload (dc kc_X12_takeBack_0 39 rfl) rfl (by first | omega | (simp [up] <;> omega)) (by first | omega | (simp [up] <;> omega)) <| b_iadd (dc kc_X12_takeBack_1 0 rfl) (by first | omega | (simp [up] <;> omega)) (by first | omega | (simp [up] <;> omega)) <| r_aload_n (dc kc_X12_takeBack_1 1 rfl) rfl <| s_getA (dc kc_X12_takeBack_1 2 rfl) fl_X12_7 (ly_80_2 hL) <| s_iload_n (dc kc_X12_takeBack_1 3 rfl) rfl <| k_i (dc kc_X12_takeBack_1 4 rfl) rfl <| b_iadd (dc kc_X12_takeBack_1 5 rfl) (by first | omega | (simp [up] <;> omega)) (by first | omega | (simp [up] <;> omega)) <| s_iaload (dc kc_X12_takeBack_1 6 rfl) rfl (by first | omega | (simp [up] <;> omega)) (by first | omega | (simp [up] <;> omega)) <| s_iastore (dc kc_X12_takeBack_1 7 rfl) rfl (by first | omega | (simp [up] <;> omega)) (by first | omega | (simp [up] <;> omega)) <| r_aload_n (dc kc_X12_takeBack_1 8 rfl) rfl <| r_aload_n (dc kc_X12_takeBack_1 9 rfl) rfl <| s_getA (dc kc_X12_takeBack_1 10 rfl) fl_X12_7 (ly_80_2 hL) <| s_iload_n (dc kc_X12_takeBack_1 11 rfl) rfl <| k_i (dc kc_X12_takeBack_1 12 rfl) rfl <| b_iadd (dc kc_X12_takeBack_1 13 rfl) (by first | omega | (simp [up] <;> omega)) (by first | omega | (simp [up] <;> omega)) <| s_iaload (dc kc_X12_takeBack_1 14 rfl) rfl (by first | omega | (simp [up] <;> omega)) (by first | omega | (simp [up] <;> omega)) <| r_aload_n (dc kc_X12_takeBack_1 15 rfl) rfl <| s_getA (dc kc_X12_takeBack_1 16 rfl) fl_X12_7 (ly_80_2 hL) <| s_iload_n (dc kc_X12_takeBack_1 17 rfl) rfl <| k_i (dc kc_X12_takeBack_1 18 rfl) rfl <| b_iadd (dc kc_X12_takeBack_1 19 rfl) (by first | omega | (simp [up] <;> omega)) (by first | omega | (simp [up] <;> omega)) <| s_iaload (dc kc_X12_takeBack_1 20 rfl) rfl (by first | omega | (simp [up] <;> omega)) (by first | omega | (simp [up] <;> omega)) <| k_i (dc kc_X12_takeBack_1 21 rfl) rfl <| s_icmp_ne (tgt := 101) (dc kc_X12_takeBack_1 22 rfl) rfl (fun c94 => (k_i (dc kc_X12_takeBack_1 25 rfl) rfl <| ?_)) (fun c94 => (k_i (dc kc_X12_takeBack_1 23 rfl) rfl <| s_goto (tgt := 102) (dc kc_X12_takeBack_1 24 rfl) rfl <| ?_))
          all_goals rw [e2] at *
          all_goals rw [e4] at c94
          · exact fin _ _ (by omega) (by omega)
          · exact fin _ _ (by omega) (by omega)
  exact loop (mi 0 81 8).toNat mi _ Ch.rf hV hW (by omega) (by omega) rfl
end AGT
