/-! the reference: steps -/
/-- cells of a row -/
abbrev clR (ρ : Int → Int) : Int → Int := fun i => ρ (30 + i)
def f1 (ρ : Int → Int) (s : Int) (H : Int → Int) (N : Int) : Int → Int := fun i => if 110 ≤ i ∧ i < 110 + 3 * N ∧ (i - 110) % 3 ≠ 2 then (if H ((i - 110) / 3) = 1 then -1 else if (i - 110) % 3 = 0 ∧ ρ i = -1 then s else ρ i) else ρ i
def cnt (A : Int → Int) : Nat → Int
  | 0 => 0
  | m + 1 => cnt A m + A m
def f2 (ρ : Int → Int) (s : Int) (H A : Int → Int) (N : Nat) : Int → Int := fun i => if i = 6 then (if cnt A N = 0 then ρ 6 else w32 (ρ 6 + cnt A N)) else if 110 ≤ i ∧ i < 110 + 3 * (N : Int) ∧ (A ((i - 110) / 3) = 1 ∧ ρ (111 + 3 * ((i - 110) / 3)) = -1 ∧ H ((i - 110) / 3) ≠ 1) ∧ (i - 110) % 3 ≠ 0 then (if (i - 110) % 3 = 1 then s else w32 (s - ρ (110 + 3 * ((i - 110) / 3)))) else ρ i
def askR (ρ : Int → Int) (l s h : Int) : Int → Int := if ρ (111 + 3 * l) = -1 ∧ h ≠ 1 then ud (ud (inc ρ 6 1) (111 + 3 * l) s) (112 + 3 * l) (w32 (s - ρ (110 + 3 * l))) else inc ρ 6 1
theorem w32_add (x y : Int) : w32 (w32 x + y) = w32 (x + y) := by unfold w32; exact Int.bmod_add_bmod
theorem f1_0 {ρ : Int → Int} {s : Int} {H : Int → Int} : f1 ρ s H 0 = ρ := by
  funext i
  unfold f1
  rw [if_neg (by omega)]
theorem f1_succ {ρ : Int → Int} {s : Int} {H : Int → Int} {N : Int} (hN : 0 ≤ N) : f1 ρ s H (N + 1) = ud (ud (f1 ρ s H N) (110 + 3 * N) (if H N = 1 then -1 else if ρ (110 + 3 * N) = -1 then s else ρ (110 + 3 * N))) (110 + 3 * N + 1) (if H N = 1 then -1 else ρ (110 + 3 * N + 1)) := by
  funext i
  by_cases e1 : i = 110 + 3 * N + 1
  · subst e1
    rw [ud_at]
    unfold f1
    rw [if_pos (by omega), show (110 + 3 * N + 1 - 110) / 3 = N by omega]
    split
    · rfl
    · rw [if_neg (by omega)]
  · rw [ud_ne e1]
    by_cases e0 : i = 110 + 3 * N
    · subst e0
      rw [ud_at]
      unfold f1
      rw [if_pos (by omega), show (110 + 3 * N - 110) / 3 = N by omega]
      split
      · rfl
      · by_cases e2 : ρ (110 + 3 * N) = -1
        · rw [if_pos ⟨by omega, e2⟩, if_pos e2]
        · rw [if_neg (fun z => e2 z.2), if_neg e2]
    · rw [ud_ne e0]
      unfold f1
      by_cases e2 : 110 ≤ i ∧ i < 110 + 3 * N ∧ (i - 110) % 3 ≠ 2
      · rw [if_pos (by omega), if_pos e2]
      · rw [if_neg (by omega), if_neg e2]
theorem f1_off {ρ : Int → Int} {s : Int} {H : Int → Int} {N i : Int} (h : i < 110 ∨ 110 + 3 * N ≤ i ∨ (i - 110) % 3 = 2) : f1 ρ s H N i = ρ i := by
  unfold f1
  rw [if_neg (by omega)]
theorem cnt_nn {A : Int → Int} (hA : ∀ l, A l = 0 ∨ A l = 1) : ∀ m, 0 ≤ cnt A m
  | 0 => Int.le_refl _
  | m + 1 => by have := cnt_nn hA m; have := hA m; rw [cnt]; omega
theorem f2_0 {ρ : Int → Int} {s : Int} {H A : Int → Int} : f2 ρ s H A 0 = ρ := by
  funext i
  unfold f2
  by_cases e : i = 6
  · rw [if_pos e, cnt, if_pos rfl, e]
  · rw [if_neg e, if_neg (by omega)]
theorem f2_off {ρ : Int → Int} {s : Int} {H A : Int → Int} {N : Nat} {i : Int} (h6 : i ≠ 6) (h : i < 110 ∨ 110 + 3 * (N : Int) ≤ i ∨ (i - 110) % 3 = 0) : f2 ρ s H A N i = ρ i := by
  unfold f2
  rw [if_neg h6, if_neg (by omega)]
theorem f2_no {ρ : Int → Int} {s : Int} {H A : Int → Int} {N : Nat} (h : A N = 0) : f2 ρ s H A (N + 1) = f2 ρ s H A N := by
  funext i
  unfold f2
  by_cases e6 : i = 6
  · rw [if_pos e6, if_pos e6, cnt, h, Int.add_zero]
  · rw [if_neg e6, if_neg e6]
    by_cases e : (i - 110) / 3 = N
    · rw [if_neg (by rw [e]; omega), if_neg (by rw [e]; omega)]
    · by_cases e2 : 110 ≤ i ∧ i < 110 + 3 * (N : Int) ∧ (A ((i - 110) / 3) = 1 ∧ ρ (111 + 3 * ((i - 110) / 3)) = -1 ∧ H ((i - 110) / 3) ≠ 1) ∧ (i - 110) % 3 ≠ 0
      · rw [if_pos e2, if_pos ⟨e2.1, by omega, e2.2.2⟩]
      · rw [if_neg e2, if_neg (fun z => e2 ⟨z.1, by omega, z.2.2⟩)]
theorem f2_yes {ρ : Int → Int} {s : Int} {H A : Int → Int} {N : Nat} (hA : ∀ l, A l = 0 ∨ A l = 1) (h : A N = 1) : f2 ρ s H A (N + 1) = askR (f2 ρ s H A N) N s (H N) := by
  have hp : f2 ρ s H A N (111 + 3 * (N : Int)) = ρ (111 + 3 * (N : Int)) := f2_off (by omega) (by omega)
  have hq : f2 ρ s H A N (110 + 3 * (N : Int)) = ρ (110 + 3 * (N : Int)) := f2_off (by omega) (by omega)
  have h6 : ∀ i, i = 6 → f2 ρ s H A (N + 1) i = inc (f2 ρ s H A N) 6 1 i := by
    intro i e
    subst e
    unfold inc
    rw [ud_at]
    unfold f2
    have := cnt_nn hA N
    rw [if_pos rfl, if_pos rfl, cnt, h, if_neg (by omega)]
    split
    · rename_i e; rw [e]; rfl
    · rw [w32_add, Int.add_assoc]
  have hoth : ∀ i : Int, i ≠ 6 → (i - 110) / 3 ≠ N ∨ i < 110 → f2 ρ s H A (N + 1) i = f2 ρ s H A N i := by
    intro i e6 e
    unfold f2
    rw [if_neg e6, if_neg e6]
    by_cases e2 : 110 ≤ i ∧ i < 110 + 3 * (N : Int) ∧ (A ((i - 110) / 3) = 1 ∧ ρ (111 + 3 * ((i - 110) / 3)) = -1 ∧ H ((i - 110) / 3) ≠ 1) ∧ (i - 110) % 3 ≠ 0
    · rw [if_pos e2, if_pos ⟨e2.1, by omega, e2.2.2⟩]
    · rw [if_neg e2, if_neg (fun z => e2 ⟨z.1, by omega, z.2.2⟩)]
  unfold askR
  rw [hp, hq]
  funext i
  by_cases hc : ρ (111 + 3 * (N : Int)) = -1 ∧ H N ≠ 1
  · rw [if_pos hc]
    by_cases e2 : i = 112 + 3 * (N : Int)
    · subst e2
      rw [ud_at]
      unfold f2
      rw [show (112 + 3 * (N : Int) - 110) / 3 = N by omega, if_neg (by omega), if_pos ⟨by omega, by omega, ⟨h, hc⟩, by omega⟩, if_neg (by omega)]
    · rw [ud_ne e2]
      by_cases e1 : i = 111 + 3 * (N : Int)
      · subst e1
        rw [ud_at]
        unfold f2
        rw [show (111 + 3 * (N : Int) - 110) / 3 = N by omega, if_neg (by omega), if_pos ⟨by omega, by omega, ⟨h, hc⟩, by omega⟩, if_pos (by omega)]
      · rw [ud_ne e1]
        by_cases e6 : i = 6
        · exact h6 i e6
        · unfold inc
          rw [ud_ne e6]
          by_cases e0 : i = 110 + 3 * (N : Int)
          · subst e0
            rw [f2_off (by omega) (by omega), f2_off (by omega) (by omega)]
          · exact hoth i e6 (by omega)
  · rw [if_neg hc]
    by_cases e6 : i = 6
    · exact h6 i e6
    · unfold inc
      rw [ud_ne e6]
      by_cases e : (i - 110) / 3 = N ∧ 110 ≤ i
      · unfold f2
        rw [if_neg e6, if_neg e6, e.1, if_neg (fun z => hc ⟨z.2.2.1.2.1, z.2.2.1.2.2⟩), if_neg (by omega)]
      · exact hoth i e6 (by omega)
/-! cells out of range don't matter -/
def ag (c c' : Int → Int) : Prop := ∀ i, 0 ≤ i → i < 24 → c' i = c i
theorem ag.rf {c : Int → Int} : ag c c := fun _ _ _ => rfl
theorem ag.sy {c c' : Int → Int} (h : ag c c') : ag c' c := fun i h0 h1 => (h i h0 h1).symm
theorem ag.tr {c c' c2 : Int → Int} (h : ag c c') (h2 : ag c' c2) : ag c c2 := fun i h0 h1 => (h2 i h0 h1).trans (h i h0 h1)
theorem VC.ag {c c' : Int → Int} (hc : VC c) (h : ag c c') : VC c' := ⟨fun i h0 h1 => by rw [h i h0 (by omega)]; exact hc.1 i h0 h1, fun i h0 h1 => by rw [h i (by omega) (by omega)]; exact hc.2.1 i h0 h1, fun x h0 h1 => by rw [h _ (by omega) (by omega), h _ (by omega) (by omega), h _ (by omega) (by omega)]; exact hc.2.2 x h0 h1⟩
theorem evs_ag {c c' : Int → Int} (hc : VC c) (h : ag c c') {k : List CT} {ts ts' : List Nat} {st rd : List Int} (hty : tyc k ts = some ts') (hs : Tys ts st) (hrd : ∀ x ∈ rd, 0 ≤ x ∧ x < 24) : evs c' k st rd = evs c k st rd := by
  have mem : ∀ r : List Int, (∀ x ∈ r, 0 ≤ x ∧ x < 24) → ∀ x ∈ r ++ rd, 0 ≤ x ∧ x < 24 := fun r hr x hx => (List.mem_append.mp hx).elim (hr x) (hrd x)
  rcases evs_ty hc k rd hty hs with z | ⟨s1, r1, z1, _, z3⟩
  · rcases evs_ty (hc.ag h) k rd hty hs with y | ⟨s2, r2, y1, _, y3⟩
    · rw [z, y]
    · rw [evs_loc k y1 (fun x hx => by have := mem r2 y3 x hx; exact (h x this.1 this.2).symm)] at z
      cases z
  · rw [z1]
    exact evs_loc k z1 (fun x hx => by have := mem r1 z3 x hx; exact h x this.1 this.2)
theorem valA_ag {c c' : Int → Int} (hc : VC c) (h : ag c c') {k : List CT} (hk : Law k) : valA c' k = valA c k := by
  unfold valA
  rw [evs_ag hc h (st := []) (rd := []) hk.1 trivial (fun x hx => by cases hx)]
theorem askA_ag {c c' : Int → Int} (hc : VC c) (h : ag c c') {k : List CT} (hk : Law k) : askA c' k = askA c k := by
  unfold askA
  rw [evs_ag hc h (st := []) (rd := []) hk.1 trivial (fun x hx => by cases hx)]
section REF11
variable {d n G : Nat} {mr : MR} {Q : V → MI → Nat → MR → Prop}
theorem t_ask (hL : Lay G mr) {mi : MI} {l s h : Int} (hc : VC (cel mi)) (h0 : 0 ≤ l) (h1 : l < 12) (hw : WfLaw (mi 0 81) l) (hh : h = valA (cel mi) (lawC (mi 0 81) l)) (hQ : ∀ mi', Ch pS mi mi' → mi' 0 81 = askR (mi 0 81) l s h → Q (vX 0) mi' n mr) : Tx (d+7) mt_X12_ask [vR (some (0, 80)), vI l, vI s] mi n mr Q := by
  refine tx_intro (ls := [vR (some (0, 80)), vI l, vI s, vX 0]) om_X12_ask rfl (Nat.le_of_ble_eq_true rfl) ?_
  have hrow : up mi 0 81 6 (w32 (mi 0 81 6 + 1)) 0 81 = inc (mi 0 81) 6 1 := by rw [up_ud]; rfl
  have hhi : hiEq (mi 0 81) (inc (mi 0 81) 6 1) := fun i hi => ud_ne (by omega)
  have hag : ag (cel mi) (cel (up mi 0 81 6 (w32 (mi 0 81 6 + 1)))) := fun i h0 h1 => by
    show up mi 0 81 6 (w32 (mi 0 81 6 + 1)) 0 81 (30 + i) = _
    rw [hrow]
    exact ud_ne (by omega)
  have hs := fun e => (hw.2.2.1 e).1
  have e1 : up mi 0 81 6 (w32 (mi 0 81 6 + 1)) 0 81 (110 + 3 * l + 1) = mi 0 81 (111 + 3 * l) := by
    rw [hrow, show 110 + 3 * l + 1 = 111 + 3 * l by omega]; exact ud_ne (by omega)
  have e0 : inc (mi 0 81) 6 1 (110 + 3 * l) = mi 0 81 (110 + 3 * l) := ud_ne (by omega)
  refine r_aload_n (dc kc_X12_ask_0 0 rfl) rfl <| s_getA (dc kc_X12_ask_0 1 rfl) fl_X12_7 (ly_80_2 hL) <| k_b (dc kc_X12_ask_0 2 rfl) rfl <| s_dup2 (dc kc_X12_ask_0 3 rfl) rfl rfl <| s_iaload (dc kc_X12_ask_0 4 rfl) rfl (by first | omega | (simp [up] <;> omega)) (by first | omega | (simp [up] <;> omega)) <| k_i (dc kc_X12_ask_0 5 rfl) rfl <| s_iadd (dc kc_X12_ask_0 6 rfl) <| s_iastore (dc kc_X12_ask_0 7 rfl) rfl (by first | omega | (simp [up] <;> omega)) (by first | omega | (simp [up] <;> omega)) <| k_b (dc kc_X12_ask_0 8 rfl) rfl <| k_i (dc kc_X12_ask_0 9 rfl) rfl <| s_iload_n (dc kc_X12_ask_0 10 rfl) rfl <| b_imul (dc kc_X12_ask_0 11 rfl) (by first | omega | (simp [up] <;> omega)) (by first | omega | (simp [up] <;> omega)) <| b_iadd (dc kc_X12_ask_0 12 rfl) (by first | omega | (simp [up] <;> omega)) (by first | omega | (simp [up] <;> omega)) <| t_i3 (dc kc_X12_ask_0 13 rfl) (Nat.le_of_ble_eq_true rfl) rfl <| r_aload_n (dc kc_X12_ask_0 14 rfl) rfl <| s_getA (dc kc_X12_ask_0 15 rfl) fl_X12_7 (ly_80_2 hL) <| s_iload_n (dc kc_X12_ask_0 16 rfl) rfl <| k_i (dc kc_X12_ask_0 17 rfl) rfl <| b_iadd (dc kc_X12_ask_0 18 rfl) (by first | omega | (simp [up] <;> omega)) (by first | omega | (simp [up] <;> omega)) <| s_iaload (dc kc_X12_ask_0 19 rfl) rfl (by first | omega | (simp [up] <;> omega)) (by first | omega | (simp [up] <;> omega)) <| k_i (dc kc_X12_ask_0 20 rfl) rfl <| s_icmp_ne (tgt := 63) (dc kc_X12_ask_0 21 rfl) rfl (fun c27 => (s_return (dc kc_X12_ask_1 5 rfl) rfl (Nat.zero_le _) (Nat.zero_le _) ?_)) (fun c27 => (?_))
  · refine hQ _ (Ch.rf.up rfl) ?_
    rw [e1] at c27
    unfold askR
    rw [if_neg (fun z => c27 z.1), hrow]
  · rw [e1] at c27
    refine r_aload_n (dc kc_X12_ask_0 22 rfl) rfl <| s_iload_n (dc kc_X12_ask_0 23 rfl) rfl <| c_v1r (dc kc_X12_ask_0 24 rfl) cl_X12_371 rfl (Nat.le_of_ble_eq_true rfl) (Nat.zero_le _) (Nat.zero_le _) ?_
    refine t_doesHold hL (hc.ag hag) h0 h1 (by rw [hrow]; exact hw.hi hhi h0) (fun mi1 g1 => ?_)
    rw [hrow, lawC_hi hhi h0 hs, valA_ag hc hag hw.2.2.2, ← hh]
    have hrow1 : mi1 0 81 = inc (mi 0 81) 6 1 := by rw [g1.row (fun _ => rfl), hrow]
    have gS : Ch pS mi mi1 := (Ch.rf.up rfl).tr (g1.mono pE_pS)
    have h01 : h = 0 ∨ h = 1 := by rw [hh]; exact (law_ev hc hw.2.2.2).2.1
    have ex : up mi1 0 81 (110 + 3 * l + 1) s 0 81 (110 + 3 * l) = mi 0 81 (110 + 3 * l) := by
      rw [up_ud, ud_ne (by omega), hrow1]; exact e0
    refine s_if_ne (tgt := 63) (dc kc_X12_ask_0 25 rfl) rfl (fun c35 => (s_return (dc kc_X12_ask_1 5 rfl) rfl (Nat.zero_le _) (Nat.zero_le _) ?_)) (fun c35 => (r_aload_n (dc kc_X12_ask_0 26 rfl) rfl <| s_getA (dc kc_X12_ask_0 27 rfl) fl_X12_7 (ly_80_2 hL) <| s_iload_n (dc kc_X12_ask_0 28 rfl) rfl <| k_i (dc kc_X12_ask_0 29 rfl) rfl <| b_iadd (dc kc_X12_ask_0 30 rfl) (by first | omega | (simp [up] <;> omega)) (by first | omega | (simp [up] <;> omega)) <| s_iload_n (dc kc_X12_ask_0 31 rfl) rfl <| s_iastore (dc kc_X12_ask_0 32 rfl) rfl (by first | omega | (simp [up] <;> omega)) (by first | omega | (simp [up] <;> omega)) <| r_aload_n (dc kc_X12_ask_0 33 rfl) rfl <| s_getA (dc kc_X12_ask_0 34 rfl) fl_X12_7 (ly_80_2 hL) <| s_iload_n (dc kc_X12_ask_0 35 rfl) rfl <| k_i (dc kc_X12_ask_0 36 rfl) rfl <| b_iadd (dc kc_X12_ask_0 37 rfl) (by first | omega | (simp [up] <;> omega)) (by first | omega | (simp [up] <;> omega)) <| s_iload_n (dc kc_X12_ask_0 38 rfl) rfl <| r_aload_n (dc kc_X12_ask_0 39 rfl) rfl <| s_getA (dc kc_X12_ask_1 0 rfl) fl_X12_7 (ly_80_2 hL) <| s_iload_n (dc kc_X12_ask_1 1 rfl) rfl <| s_iaload (dc kc_X12_ask_1 2 rfl) rfl (by first | omega | (simp [up] <;> omega)) (by first | omega | (simp [up] <;> omega)) <| s_isub (dc kc_X12_ask_1 3 rfl) <| s_iastore (dc kc_X12_ask_1 4 rfl) rfl (by first | omega | (simp [up] <;> omega)) (by first | omega | (simp [up] <;> omega)) <| s_return (dc kc_X12_ask_1 5 rfl) rfl (Nat.zero_le _) (Nat.zero_le _) ?_))
    · refine hQ _ gS ?_
      unfold askR
      rw [if_neg (by omega), hrow1]
    · refine hQ _ ((gS.up rfl).up rfl) ?_
      unfold askR
      rw [if_pos ⟨c27, by omega⟩, ex, up_ud, up_ud, hrow1, show 110 + 3 * l + 1 = 111 + 3 * l by omega, show 110 + 3 * l + 2 = 112 + 3 * l by omega]
end REF11
