/-! the reference: the lines go on on paper -/
abbrev GO : Type := (Int → Int) × Int × List Int × Int
def go1 (N : Int) (g : GO) : GO := (lnR g.1 g.2.1 0 1, (g.2.1 + 1) % N, (if (lnO g.1 g.2.1).1 = 3 ∧ mkd g.1 (lnO g.1 g.2.1).2.2.2 = 0 then g.2.2.1 ++ [(lnO g.1 g.2.1).2.2.1] else g.2.2.1), (if (lnO g.1 g.2.1).1 = 3 ∧ mkd g.1 (lnO g.1 g.2.1).2.2.2 ≠ 0 then g.2.2.2 + 1 else g.2.2.2))
def goF (ρ : Int → Int) : Nat → GO
  | 0 => (ρ, ρ 7, [], 0)
  | k + 1 => go1 (ρ 17) (goF ρ k)
def allH (H : Int → Int) : Nat → Bool
  | 0 => true
  | l + 1 => allH H l && decide (H l = 1)
theorem allH_iff {H : Int → Int} : ∀ {N : Nat}, allH H N = true ↔ ∀ l : Int, 0 ≤ l → l < N → H l = 1
  | 0 => ⟨fun _ l h0 h1 => by omega, fun _ => rfl⟩
  | N + 1 => by
    rw [allH, Bool.and_eq_true, allH_iff, decide_eq_true_eq]
    constructor
    · rintro ⟨h1, h2⟩ l h0 hl
      by_cases e : l = N
      · rw [e]; exact h2
      · exact h1 l h0 (by omega)
    · intro h
      exact ⟨fun l h0 h1 => h l h0 (by omega), h N (by omega) (by omega)⟩
def camR (ρ : Int → Int) (n : Nat) (c v : Int) : Int :=
  if allH (fun l => valA (clR (goF (ud ρ (30 + c) v) n).1) (lawC ρ l)) (ρ 16).toNat = false then 3
  else if (goF (ud ρ (30 + c) v) n).2.2.1 = (goF ρ n).2.2.1 then 0
  else if (goF ρ n).2.2.2 < (goF (ud ρ (30 + c) v) n).2.2.2 then 1 else 2
def cntV (ρ : Int → Int) (n : Nat) (w c : Int) : Nat → Int
  | 0 => 0
  | i + 1 => cntV ρ n w c i + (if (biC c ((i : Int) - 1) = 1 ∧ (i : Int) - 1 ≠ ρ (30 + c)) ∧ camR ρ n c ((i : Int) - 1) = w then 1 else 0)
def cntC (ρ : Int → Int) (n : Nat) (w : Int) : Nat → Int
  | 0 => 0
  | c + 1 => cntC ρ n w c + cntV ρ n w c 11
theorem cntV_rg {ρ : Int → Int} {n : Nat} {w c : Int} : ∀ i : Nat, 0 ≤ cntV ρ n w c i ∧ cntV ρ n w c i ≤ i
  | 0 => ⟨Int.le_refl _, Int.le_refl _⟩
  | i + 1 => by
    have := cntV_rg (ρ := ρ) (n := n) (w := w) (c := c) i
    rw [cntV]
    split <;> omega
theorem cntC_rg {ρ : Int → Int} {n : Nat} {w : Int} : ∀ c : Nat, 0 ≤ cntC ρ n w c ∧ cntC ρ n w c ≤ 11 * c
  | 0 => ⟨Int.le_refl _, Int.le_refl _⟩
  | c + 1 => by
    have := cntC_rg (ρ := ρ) (n := n) (w := w) c
    have := cntV_rg (ρ := ρ) (n := n) (w := w) (c := c) 11
    rw [cntC]
    omega
/-- what a run on paper leaves alone -/
def pap (ρ ρ' : Int → Int) : Prop := ∀ k, k ≠ 19 → (k < 30 ∨ 54 ≤ k) → ρ' k = ρ k
section GOF
variable {ρ : Int → Int}
theorem lnR1_pap {ρ : Int → Int} {j s : Int} (hV : VC (clR ρ)) (hw : WfLine ρ j) : pap ρ (lnR ρ j s 1) := by
  intro k h19 hk
  unfold lnR
  by_cases e : (lnO ρ j).1 = 2
  · have h2 := lnO_2 hV hw e
    rw [if_pos e, if_neg (by decide), mkR_off h19, ud_ne (by omega)]
  · rw [if_neg e]
theorem goF_Inv (hV : VC (clR ρ)) (h7 : 0 ≤ ρ 7 ∧ ρ 7 < ρ 17) (h8 : 0 ≤ ρ 8 ∧ ρ 8 ≤ 200) (hl : ∀ j, 0 ≤ j → j < ρ 17 → WfLine ρ j) : ∀ k : Nat, VC (clR (goF ρ k).1) ∧ pap ρ (goF ρ k).1 ∧ (0 ≤ (goF ρ k).2.1 ∧ (goF ρ k).2.1 < ρ 17) ∧ (goF ρ k).2.2.1.length ≤ k ∧ (0 ≤ (goF ρ k).2.2.2 ∧ (goF ρ k).2.2.2 ≤ k)
  | 0 => ⟨hV, fun _ _ _ => rfl, h7, Nat.zero_le _, Int.le_refl _, Int.le_refl _⟩
  | k + 1 => by
    obtain ⟨a, b, c, d, e⟩ := goF_Inv hV h7 h8 hl k
    rw [goF]
    generalize goF ρ k = g at *
    have hw : WfLine g.1 g.2.1 := (hl _ c.1 c.2).hi (fun k hk => b k (by omega) (by omega)) c.1
    have p1 := lnR1_pap (s := 0) a hw
    have e8 : g.1 8 = ρ 8 := b 8 (by omega) (by omega)
    unfold go1
    refine ⟨lnR_VC a hw (by omega) (by omega), fun k h1 h2 => (p1 k h1 h2).trans (b k h1 h2), ⟨Int.emod_nonneg _ (by omega), Int.emod_lt_of_pos _ (by omega)⟩, ?_, ?_⟩
    · show (if _ then _ else _ : List Int).length ≤ k + 1
      split
      · rw [List.length_append, List.length_singleton]; omega
      · omega
    · have e1 := e.1
      have e2 := e.2
      generalize g.2.2.2 = x at *
      have ec : ((k + 1 : Nat) : Int) = (k : Int) + 1 := by omega
      rw [ec]
      simp only []
      split
      · exact ⟨Int.add_nonneg e1 (by decide), Int.add_le_add_right e2 1⟩
      · exact ⟨e1, Int.le_trans e2 (by omega)⟩
end GOF
def pO (j : Nat) (k : Int) : Bool := j == 81 || j == 85 || j == 92 || j == 100 || (j == 80 && (k == 7 || k == 8 || k == 9 || k == 30 || k == 31 || k == 32 || k == 45 || k == 46))
def pU (j : Nat) (k : Int) : Bool := j == 81 || j == 85 || j == 92 || j == 99 || j == 100 || j == 101 || (j == 80 && (k == 0 || k == 7 || k == 8 || k == 9 || k == 30 || k == 31 || k == 32 || k == 45 || k == 46))
section PAP
variable {d n G : Nat} {mr : MR} {Q : V → MI → Nat → MR → Prop}
theorem t_goOn (hL : Lay G mr) {mi : MI} {x : Int} (hx0 : 0 ≤ x) (hx : x ≤ 24) (hV : VC (clR (mi 0 81))) (h7 : 0 ≤ mi 0 81 7 ∧ mi 0 81 7 < mi 0 81 17) (h17 : mi 0 81 17 ≤ 12) (h8 : 0 ≤ mi 0 81 8 ∧ mi 0 81 8 ≤ 200) (hl : ∀ j, 0 ≤ j → j < mi 0 81 17 → WfLine (mi 0 81) j) (hQ : ∀ mi', Ch pO mi mi' → mi' 0 81 = (goF (mi 0 81) x.toNat).1 → Arr (mi' 0 100) (goF (mi 0 81) x.toNat).2.2.1 → mi' 0 80 45 = (goF (mi 0 81) x.toNat).2.2.1.length → mi' 0 80 46 = (goF (mi 0 81) x.toNat).2.2.2 → Q (vX 0) mi' n mr) : Tx (d+7) mt_X12_goOn [vR (some (0, 80)), vI x] mi n mr Q := by
  refine tx_intro (ls := [vR (some (0, 80)), vI x, vX 0, vX 0]) om_X12_goOn rfl (Nat.le_of_ble_eq_true rfl) ?_
  generalize hρ : mi 0 81 = ρ at *
  have loop : ∀ i : Nat, i ≤ x.toNat → ∀ m : MI, Ch pO mi m → m 0 81 = (goF ρ i).1 → Arr (m 0 100) (goF ρ i).2.2.1 → m 0 80 45 = (goF ρ i).2.2.1.length → m 0 80 46 = (goF ρ i).2.2.2 → Run (d+7) mt_X12_goOn Q (n, mr, 0, 0) m 20 [vR (some (0, 80)), vI x, vI (goF ρ i).2.1, vI (i : Int)] [] := by
    refine nloop ?_
    intro i hi ih m g em eA e45 e46
    obtain ⟨a, b, c, dd, e⟩ := goF_Inv hV h7 h8 hl i
    by_cases he : (i : Int) < x
    · have ih := ih (by omega)
      rw [goF] at ih
      generalize goF ρ i = q at *
      have hw : WfLine q.1 q.2.1 := (hl _ c.1 c.2).hi (fun k hk => b k (by omega) (by omega)) c.1
      have e8 : q.1 8 = ρ 8 := b 8 (by omega) (by omega)
      refine s_iload_n (dc kc_X12_goOn_0 13 rfl) rfl <| s_iload_n (dc kc_X12_goOn_0 14 rfl) rfl <| s_icmp_ge (tgt := 105) (dc kc_X12_goOn_0 15 rfl) rfl (fun c22 => (?_)) (fun c22 => (r_aload_n (dc kc_X12_goOn_0 16 rfl) rfl <| s_iload_n (dc kc_X12_goOn_0 17 rfl) rfl <| k_i (dc kc_X12_goOn_0 18 rfl) rfl <| k_i (dc kc_X12_goOn_0 19 rfl) rfl <| c_v3r (dc kc_X12_goOn_0 20 rfl) cl_X12_423 rfl (Nat.le_of_ble_eq_true rfl) (Nat.zero_le _) (Nat.zero_le _) ?_))
      · exfalso; omega
      · refine t_doLine hL (by rw [show cel m = clR q.1 by unfold cel; rw [em]]; exact a) c.1 (by omega) (by rw [em]; exact hw) (by rw [em, e8]; exact h8.1) (by rw [em, e8]; exact h8.2) (fun m1 g1 e1 e31 => ?_)
        rw [em] at e1 e31 ⊢
        have e117 : m1 0 81 17 = ρ 17 := by rw [e1, lnR1_pap a hw 17 (by omega) (by omega)]; exact b 17 (by omega) (by omega)
        have h4 : rcO (lnO q.1 q.2.1) = 4 ↔ (lnO q.1 q.2.1).1 = 3 := by
          have hr := lnA_rg (c := clR q.1) (t := tgtOf q.1 q.2.1) (p := lnP q.1 q.2.1) (v := lnV q.1 q.2.1) (w := lnT q.1 q.2.1)
          rw [show lnA (clR q.1) (tgtOf q.1 q.2.1) (lnP q.1 q.2.1) (lnV q.1 q.2.1) (lnT q.1 q.2.1) = lnO q.1 q.2.1 from rfl] at hr
          unfold rcO
          split
          · omega
          · split
            · omega
            · split <;> omega
        have g2 : Ch pO mi m1 := g.tr (g1.mono (fun _ _ z => by simp [pD, pO] at z ⊢; omega))
        have f100 : m1 0 100 = m 0 100 := g1.row (fun _ => rfl)
        have f45 : m1 0 80 45 = m 0 80 45 := g1.at (by decide)
        have f46 : m1 0 80 46 = m 0 80 46 := g1.at (by decide)
        have nxt : ∀ m2 : MI, Ch pO mi m2 → m2 0 81 = m1 0 81 → Arr (m2 0 100) (go1 (ρ 17) q).2.2.1 → m2 0 80 45 = (go1 (ρ 17) q).2.2.1.length → m2 0 80 46 = (go1 (ρ 17) q).2.2.2 → Run (d+7) mt_X12_goOn Q (n, mr, 0, 0) m2 87 [vR (some (0, 80)), vI x, vI q.2.1, vI (i : Int)] [] := by
          intro m2 g2 em2 eA2 e452 e462
          have e217 : m2 0 81 17 = ρ 17 := by rw [em2, e117]
          refine s_iload_n (dc kc_X12_goOn_1 10 rfl) rfl <| k_i (dc kc_X12_goOn_1 11 rfl) rfl <| b_iadd (dc kc_X12_goOn_1 12 rfl) (by first | omega | (simp [up] <;> omega)) (by first | omega | (simp [up] <;> omega)) <| r_aload_n (dc kc_X12_goOn_1 13 rfl) rfl <| s_getA (dc kc_X12_goOn_1 14 rfl) fl_X12_7 (ly_80_2 hL) <| k_b (dc kc_X12_goOn_1 15 rfl) rfl <| s_iaload (dc kc_X12_goOn_1 16 rfl) rfl (by first | omega | (simp [up] <;> omega)) (by first | omega | (simp [up] <;> omega)) <| b_irem (dc kc_X12_goOn_1 17 rfl) (by first | omega | (simp [up] <;> omega)) (by first | omega | (simp [up] <;> omega)) <| t_i2 (dc kc_X12_goOn_1 18 rfl) (Nat.le_of_ble_eq_true rfl) rfl <| b_inc3 (dc kc_X12_goOn_1 19 rfl) rfl (Nat.le_of_ble_eq_true rfl) rfl (by first | omega | (simp [up] <;> omega)) (by first | omega | (simp [up] <;> omega)) <| s_goto (tgt := 20) (dc kc_X12_goOn_1 20 rfl) rfl <| ?_
          rw [e217]
          exact ih m2 g2 (by rw [em2, e1]; rfl) eA2 e452 e462
        refine k_i (dc kc_X12_goOn_0 21 rfl) rfl <| s_icmp_ne (tgt := 87) (dc kc_X12_goOn_0 22 rfl) rfl (fun c33 => (?_)) (fun c33 => (?_))
        · have hn : ¬ (lnO q.1 q.2.1).1 = 3 := fun z => c33 (h4.mpr z)
          refine nxt m1 g2 rfl ?_ ?_ ?_
          · unfold go1; simp only []; rw [if_neg (fun z => hn z.1), f100]; exact eA
          · unfold go1; simp only []; rw [if_neg (fun z => hn z.1), f45]; exact e45
          · unfold go1; simp only []; rw [if_neg (fun z => hn z.1), f46]; exact e46
        · have h3 := h4.mp c33
          obtain ⟨ep, eh⟩ := e31 h3
          have h01 : mkd q.1 (lnO q.1 q.2.1).2.2.2 = 0 ∨ mkd q.1 (lnO q.1 q.2.1).2.2.2 = 1 := bi_01
          have k32 : ∀ v, up m1 0 80 46 v 0 80 32 = m1 0 80 32 := fun v => up_k (by decide)
          have k45 : ∀ v, up m1 0 80 46 v 0 80 45 = m1 0 80 45 := fun v => up_k (by decide)
          have k31 : ∀ v, up m1 0 80 46 v 0 80 31 = m1 0 80 31 := fun v => up_k (by decide)
          refine r_aload_n (dc kc_X12_goOn_0 23 rfl) rfl <| s_dup (dc kc_X12_goOn_0 24 rfl) rfl <| s_getI (dc kc_X12_goOn_0 25 rfl) fl_X12_518 <| r_aload_n (dc kc_X12_goOn_0 26 rfl) rfl <| s_getZ (dc kc_X12_goOn_0 27 rfl) fl_X12_407 <| s_if_eq (tgt := 52) (dc kc_X12_goOn_0 28 rfl) rfl (fun c45 => (k_i (dc kc_X12_goOn_0 31 rfl) rfl <| b_iadd (dc kc_X12_goOn_0 32 rfl) (by first | omega | (simp [up] <;> omega)) (by first | omega | (simp [up] <;> omega)) <| s_putI (dc kc_X12_goOn_0 33 rfl) fl_X12_518 <| r_aload_n (dc kc_X12_goOn_0 34 rfl) rfl <| s_getZ (dc kc_X12_goOn_0 35 rfl) fl_X12_407 <| s_if_ne (tgt := 87) (dc kc_X12_goOn_0 36 rfl) rfl (fun c61 => (?_)) (fun c61 => (?_)))) (fun c45 => (k_i (dc kc_X12_goOn_0 29 rfl) rfl <| s_goto (tgt := 53) (dc kc_X12_goOn_0 30 rfl) rfl <| b_iadd (dc kc_X12_goOn_0 32 rfl) (by first | omega | (simp [up] <;> omega)) (by first | omega | (simp [up] <;> omega)) <| s_putI (dc kc_X12_goOn_0 33 rfl) fl_X12_518 <| r_aload_n (dc kc_X12_goOn_0 34 rfl) rfl <| s_getZ (dc kc_X12_goOn_0 35 rfl) fl_X12_407 <| s_if_ne (tgt := 87) (dc kc_X12_goOn_0 36 rfl) rfl (fun c61 => (?_)) (fun c61 => (?_))))
          all_goals rw [k32] at c61
          all_goals first | (exfalso; omega) | skip
          · have hz : mkd q.1 (lnO q.1 q.2.1).2.2.2 = 0 := by omega
            have kk : ∀ v w, up (up m1 0 80 46 v) 0 100 (m1 0 80 45) w 0 80 45 = m1 0 80 45 := fun v w => by rw [up_j (by decide), k45]
            refine r_aload_n (dc kc_X12_goOn_0 37 rfl) rfl <| s_getA (dc kc_X12_goOn_0 38 rfl) fl_X12_73 (ly_80_44 hL) <| r_aload_n (dc kc_X12_goOn_0 39 rfl) rfl <| s_getI (dc kc_X12_goOn_1 0 rfl) fl_X12_515 <| r_aload_n (dc kc_X12_goOn_1 1 rfl) rfl <| s_getI (dc kc_X12_goOn_1 2 rfl) fl_X12_404 <| s_iastore (dc kc_X12_goOn_1 3 rfl) rfl (by first | omega | (simp [up] <;> omega)) (by first | omega | (simp [up] <;> omega)) <| r_aload_n (dc kc_X12_goOn_1 4 rfl) rfl <| s_dup (dc kc_X12_goOn_1 5 rfl) rfl <| s_getI (dc kc_X12_goOn_1 6 rfl) fl_X12_515 <| k_i (dc kc_X12_goOn_1 7 rfl) rfl <| b_iadd (dc kc_X12_goOn_1 8 rfl) (by first | omega | (simp [up] <;> omega)) (by first | omega | (simp [up] <;> omega)) <| s_putI (dc kc_X12_goOn_1 9 rfl) fl_X12_515 <| ?_
            rw [k45, kk, k31, ep]
            refine nxt _ (((g2.up rfl).up rfl).up rfl) (by rw [up_j (by decide), up_j (by decide), up_j (by decide)]) ?_ ?_ ?_
            · unfold go1; simp only []; rw [if_pos ⟨h3, hz⟩, up_j (by decide), up_ud, up_j (by decide), f100, f45, e45]; exact eA.snoc
            · unfold go1; simp only []; rw [if_pos ⟨h3, hz⟩, up_at, f45, e45, List.length_append, List.length_singleton]; omega
            · unfold go1; simp only []; rw [if_neg (fun z => z.2 hz), up_k (by decide), up_j (by decide), up_at, f46, e46]; omega
          · have hz : mkd q.1 (lnO q.1 q.2.1).2.2.2 ≠ 0 := by omega
            refine nxt _ (g2.up rfl) (by rw [up_j (by decide)]) ?_ ?_ ?_
            · unfold go1; simp only []; rw [if_neg (fun z => hz z.2), up_j (by decide), f100]; exact eA
            · unfold go1; simp only []; rw [if_neg (fun z => hz z.2), k45, f45]; exact e45
            · unfold go1; simp only []; rw [if_pos ⟨h3, hz⟩, up_at, f46, e46]
    · refine s_iload_n (dc kc_X12_goOn_0 13 rfl) rfl <| s_iload_n (dc kc_X12_goOn_0 14 rfl) rfl <| s_icmp_ge (tgt := 105) (dc kc_X12_goOn_0 15 rfl) rfl (fun c22 => (s_return (dc kc_X12_goOn_1 21 rfl) rfl (Nat.zero_le _) (Nat.zero_le _) ?_)) (fun c22 => (?_))
      · have hi' : i = x.toNat := by omega
        subst hi'
        exact hQ m g em eA e45 e46
      · exfalso; omega
  refine r_aload_n (dc kc_X12_goOn_0 0 rfl) rfl <| k_i (dc kc_X12_goOn_0 1 rfl) rfl <| s_putI (dc kc_X12_goOn_0 2 rfl) fl_X12_515 <| r_aload_n (dc kc_X12_goOn_0 3 rfl) rfl <| k_i (dc kc_X12_goOn_0 4 rfl) rfl <| s_putI (dc kc_X12_goOn_0 5 rfl) fl_X12_518 <| r_aload_n (dc kc_X12_goOn_0 6 rfl) rfl <| s_getA (dc kc_X12_goOn_0 7 rfl) fl_X12_7 (ly_80_2 hL) <| k_b (dc kc_X12_goOn_0 8 rfl) rfl <| s_iaload (dc kc_X12_goOn_0 9 rfl) rfl (by first | omega | (simp [up] <;> omega)) (by first | omega | (simp [up] <;> omega)) <| t_i2 (dc kc_X12_goOn_0 10 rfl) (Nat.le_of_ble_eq_true rfl) rfl <| k_i (dc kc_X12_goOn_0 11 rfl) rfl <| t_i3 (dc kc_X12_goOn_0 12 rfl) (Nat.le_of_ble_eq_true rfl) rfl <| ?_
  have e7 : up (up mi 0 80 45 0) 0 80 46 0 0 81 = ρ := by rw [up_j (by decide), up_j (by decide), hρ]
  rw [e7]
  exact loop 0 (Nat.zero_le _) _ ((Ch.rf.up rfl).up rfl) e7 Arr.nil (by rw [up_k (by decide), up_at]; rfl) (by rw [up_at]; rfl)
theorem t_putPaper (hL : Lay G mr) {mi : MI} {x : Int} (hQ : ∀ mi', Ch p81 mi mi' → mi' 0 81 = ud (cpF (mi 0 81) (mi 0 99) 30 0 24) 19 x → Q (vX 0) mi' n mr) : Tx (d+1) mt_X12_putPaper [vR (some (0, 80)), vI x] mi n mr Q := by
  refine tx_intro (ls := [vR (some (0, 80)), vI x, vX 0]) om_X12_putPaper rfl (Nat.le_of_ble_eq_true rfl) ?_
  have loop : ∀ i : Nat, i ≤ 24 → ∀ m : MI, Ch p81 mi m → m 0 81 = cpF (mi 0 81) (mi 0 99) 30 0 i → Run (d+1) mt_X12_putPaper Q (n, mr, 0, 0) m 2 [vR (some (0, 80)), vI x, vI (i : Int)] [] := by
    refine nloop ?_
    intro i hi ih m g em
    by_cases he : i < 24
    · refine s_iload_n (dc kc_X12_putPaper 2 rfl) rfl <| k_b (dc kc_X12_putPaper 3 rfl) rfl <| s_icmp_ge (tgt := 29) (dc kc_X12_putPaper 4 rfl) rfl (fun c5 => (?_)) (fun c5 => (r_aload_n (dc kc_X12_putPaper 5 rfl) rfl <| s_getA (dc kc_X12_putPaper 6 rfl) fl_X12_7 (ly_80_2 hL) <| k_b (dc kc_X12_putPaper 7 rfl) rfl <| s_iload_n (dc kc_X12_putPaper 8 rfl) rfl <| b_iadd (dc kc_X12_putPaper 9 rfl) (by first | omega | (simp [up] <;> omega)) (by first | omega | (simp [up] <;> omega)) <| r_aload_n (dc kc_X12_putPaper 10 rfl) rfl <| s_getA (dc kc_X12_putPaper 11 rfl) fl_X12_70 (ly_80_43 hL) <| s_iload_n (dc kc_X12_putPaper 12 rfl) rfl <| s_iaload (dc kc_X12_putPaper 13 rfl) rfl (by first | omega | (simp [up] <;> omega)) (by first | omega | (simp [up] <;> omega)) <| s_iastore (dc kc_X12_putPaper 14 rfl) rfl (by first | omega | (simp [up] <;> omega)) (by first | omega | (simp [up] <;> omega)) <| b_inc2 (dc kc_X12_putPaper 15 rfl) rfl (Nat.le_of_ble_eq_true rfl) rfl (by first | omega | (simp [up] <;> omega)) (by first | omega | (simp [up] <;> omega)) <| s_goto (tgt := 2) (dc kc_X12_putPaper 16 rfl) rfl <| ?_))
      · exfalso; omega
      · refine ih he _ (g.up rfl) ?_
        rw [up_ud, em, g.at rfl, show ((i + 1 : Nat) : Int) = (i : Int) + 1 by omega]
        exact cpF_s (by omega) (by rw [Int.zero_add])
    · have : i = 24 := by omega
      subst this
      refine s_iload_n (dc kc_X12_putPaper 2 rfl) rfl <| k_b (dc kc_X12_putPaper 3 rfl) rfl <| s_icmp_ge (tgt := 29) (dc kc_X12_putPaper 4 rfl) rfl (fun c5 => (r_aload_n (dc kc_X12_putPaper 17 rfl) rfl <| s_getA (dc kc_X12_putPaper 18 rfl) fl_X12_7 (ly_80_2 hL) <| k_b (dc kc_X12_putPaper 19 rfl) rfl <| s_iload_n (dc kc_X12_putPaper 20 rfl) rfl <| s_iastore (dc kc_X12_putPaper 21 rfl) rfl (by first | omega | (simp [up] <;> omega)) (by first | omega | (simp [up] <;> omega)) <| s_return (dc kc_X12_putPaper 22 rfl) rfl (Nat.zero_le _) (Nat.zero_le _) ?_)) (fun c5 => (?_))
      · refine hQ _ (g.up rfl) ?_
        rw [up_ud, em]
        rfl
      · exfalso; omega
  refine k_i (dc kc_X12_putPaper 0 rfl) rfl <| t_i2 (dc kc_X12_putPaper 1 rfl) (Nat.le_of_ble_eq_true rfl) rfl <| ?_
  exact loop 0 (Nat.zero_le _) _ Ch.rf cpF_0.symm
theorem t_firstBroken (hL : Lay G mr) {mi : MI} (hV : VC (cel mi)) (h16 : 0 ≤ mi 0 81 16 ∧ mi 0 81 16 ≤ 12) (hl : ∀ l, 0 ≤ l → l < mi 0 81 16 → WfLaw (mi 0 81) l) (hQ1 : (∀ l, 0 ≤ l → l < mi 0 81 16 → valA (cel mi) (lawC (mi 0 81) l) = 1) → ∀ mi', Ch pE mi mi' → Q (vI (-1)) mi' n mr) (hQ2 : ∀ l, 0 ≤ l → l < mi 0 81 16 → valA (cel mi) (lawC (mi 0 81) l) = 0 → ∀ mi', Ch pE mi mi' → Q (vI l) mi' n mr) : Tx (d+7) mt_X12_firstBroken [vR (some (0, 80))] mi n mr Q := by
  refine tx_intro (ls := [vR (some (0, 80)), vX 0]) om_X12_firstBroken rfl (Nat.le_of_ble_eq_true rfl) ?_
  have loop : ∀ i : Nat, i ≤ (mi 0 81 16).toNat → ∀ m : MI, Ch pE mi m → (∀ l, 0 ≤ l → l < (i : Int) → valA (cel mi) (lawC (mi 0 81) l) = 1) → Run (d+7) mt_X12_firstBroken Q (n, mr, 0, 0) m 2 [vR (some (0, 80)), vI (i : Int)] [] := by
    refine nloop ?_
    intro i hi ih m g hh
    have e81 : m 0 81 = mi 0 81 := g.row (fun _ => rfl)
    have e16 : m 0 81 16 = mi 0 81 16 := by rw [e81]
    have ec : cel m = cel mi := by unfold cel; rw [e81]
    by_cases he : (i : Int) < mi 0 81 16
    · have hw := hl i (by omega) he
      have h01 : valA (cel mi) (lawC (mi 0 81) i) = 0 ∨ valA (cel mi) (lawC (mi 0 81) i) = 1 := (law_ev hV hw.2.2.2).2.1
      refine s_iload_n (dc kc_X12_firstBroken 2 rfl) rfl <| r_aload_n (dc kc_X12_firstBroken 3 rfl) rfl <| s_getA (dc kc_X12_firstBroken 4 rfl) fl_X12_7 (ly_80_2 hL) <| k_b (dc kc_X12_firstBroken 5 rfl) rfl <| s_iaload (dc kc_X12_firstBroken 6 rfl) rfl (by first | omega | (simp [up] <;> omega)) (by first | omega | (simp [up] <;> omega)) <| s_icmp_ge (tgt := 29) (dc kc_X12_firstBroken 7 rfl) rfl (fun c10 => (?_)) (fun c10 => (r_aload_n (dc kc_X12_firstBroken 8 rfl) rfl <| s_iload_n (dc kc_X12_firstBroken 9 rfl) rfl <| c_v1r (dc kc_X12_firstBroken 10 rfl) cl_X12_371 rfl (Nat.le_of_ble_eq_true rfl) (Nat.zero_le _) (Nat.zero_le _) ?_))
      · exfalso; omega
      · refine t_doesHold hL (by rw [ec]; exact hV) (by omega) (by omega) (by rw [e81]; exact hw) (fun m1 g1 => ?_)
        rw [ec, e81]
        refine s_if_ne (tgt := 23) (dc kc_X12_firstBroken 11 rfl) rfl (fun c18 => (b_inc1 (dc kc_X12_firstBroken 14 rfl) rfl (Nat.le_of_ble_eq_true rfl) rfl (by first | omega | (simp [up] <;> omega)) (by first | omega | (simp [up] <;> omega)) <| s_goto (tgt := 2) (dc kc_X12_firstBroken 15 rfl) rfl <| ?_)) (fun c18 => (s_iload_n (dc kc_X12_firstBroken 12 rfl) rfl <| s_ireturn (dc kc_X12_firstBroken 13 rfl) rfl (Nat.zero_le _) (Nat.zero_le _) ?_))
        · refine ih (by omega) m1 (g.tr g1) (fun l a b => ?_)
          by_cases e : l = i
          · rw [e]; omega
          · exact hh l a (by omega)
        · exact hQ2 i (by omega) he c18 m1 (g.tr g1)
    · refine s_iload_n (dc kc_X12_firstBroken 2 rfl) rfl <| r_aload_n (dc kc_X12_firstBroken 3 rfl) rfl <| s_getA (dc kc_X12_firstBroken 4 rfl) fl_X12_7 (ly_80_2 hL) <| k_b (dc kc_X12_firstBroken 5 rfl) rfl <| s_iaload (dc kc_X12_firstBroken 6 rfl) rfl (by first | omega | (simp [up] <;> omega)) (by first | omega | (simp [up] <;> omega)) <| s_icmp_ge (tgt := 29) (dc kc_X12_firstBroken 7 rfl) rfl (fun c10 => (k_i (dc kc_X12_firstBroken 16 rfl) rfl <| s_ireturn (dc kc_X12_firstBroken 17 rfl) rfl (Nat.zero_le _) (Nat.zero_le _) ?_)) (fun c10 => (?_))
      · exact hQ1 (fun l a b => hh l a (by omega)) m g
      · exfalso; omega
  refine k_i (dc kc_X12_firstBroken 0 rfl) rfl <| t_i1 (dc kc_X12_firstBroken 1 rfl) (Nat.le_of_ble_eq_true rfl) rfl <| ?_
  exact loop 0 (Nat.zero_le _) mi Ch.rf (fun l a b => by omega)
end PAP
