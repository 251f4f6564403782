/-! the reference: the next change -/
/-- a change that may be tried behind a path -/
def Vp (ρ : Int → Int) (A : List PR) (M c v : Int) : Prop := bAnd (bShr M c) 1 = 1 ∧ (∀ q ∈ A, q.1 ≠ c) ∧ (0 ≤ c ∧ c < 24) ∧ biC c v = 1 ∧ v ≠ ρ (30 + c)
def aft (c v c0 v0 : Int) : Prop := c0 < c ∨ (c = c0 ∧ v0 < v)
theorem biC_lo {c v w : Int} (h : biC c v = 1) (hw : v ≤ w) (h2 : biC c w = 0) {u : Int} (hu : w ≤ u) : biC c u = 0 := by
  unfold biC at *
  rw [bi_eq1] at h
  rw [bi_eq0] at h2 ⊢
  omega
def pC (j : Nat) (k : Int) : Bool := j == 81 || j == 94 || j == 95 || j == 96 || j == 98
section LK3
variable {d n G : Nat} {mr : MR} {Q : V → MI → Nat → MR → Prop}
theorem t_beginAt (hL : Lay G mr) {mi : MI} {D l : Int} (hD : 0 ≤ D ∧ D ≤ 2) (hc : VC (cel mi)) (h0 : 0 ≤ l) (h1 : l < 12) (hw : WfLaw (mi 0 81) l) (hQ : ∀ mi' M, Ch (fun j k => pE j k || j == 94 || j == 95 || j == 97) mi mi' → Bm M (askA (cel mi) (lawC (mi 0 81) l)) → mi' 0 97 = ud (mi 0 97) D M → mi' 0 94 = ud (mi 0 94) D (-1) → mi' 0 95 = ud (mi 0 95) D 0 → Q (vX 0) mi' n mr) : Tx (d+7) mt_X12_beginAt [vR (some (0, 80)), vI D, vI l] mi n mr Q := by
  refine tx_intro (ls := [vR (some (0, 80)), vI D, vI l]) om_X12_beginAt rfl (Nat.le_of_ble_eq_true rfl) ?_
  refine r_aload_n (dc kc_X12_beginAt 0 rfl) rfl <| s_getA (dc kc_X12_beginAt 1 rfl) fl_X12_64 (ly_80_41 hL) <| s_iload_n (dc kc_X12_beginAt 2 rfl) rfl <| r_aload_n (dc kc_X12_beginAt 3 rfl) rfl <| s_iload_n (dc kc_X12_beginAt 4 rfl) rfl <| c_v1r (dc kc_X12_beginAt 5 rfl) cl_X12_374 rfl (Nat.le_of_ble_eq_true rfl) (Nat.zero_le _) (Nat.zero_le _) ?_
  refine t_askedOf hL hc h0 h1 hw (fun m M g hM => ?_)
  refine s_iastore (dc kc_X12_beginAt 6 rfl) rfl (by first | omega | (simp [up] <;> omega)) (by first | omega | (simp [up] <;> omega)) <| r_aload_n (dc kc_X12_beginAt 7 rfl) rfl <| s_getA (dc kc_X12_beginAt 8 rfl) fl_X12_55 (ly_80_38 hL) <| s_iload_n (dc kc_X12_beginAt 9 rfl) rfl <| k_i (dc kc_X12_beginAt 10 rfl) rfl <| s_iastore (dc kc_X12_beginAt 11 rfl) rfl (by first | omega | (simp [up] <;> omega)) (by first | omega | (simp [up] <;> omega)) <| r_aload_n (dc kc_X12_beginAt 12 rfl) rfl <| s_getA (dc kc_X12_beginAt 13 rfl) fl_X12_58 (ly_80_39 hL) <| s_iload_n (dc kc_X12_beginAt 14 rfl) rfl <| k_i (dc kc_X12_beginAt 15 rfl) rfl <| s_iastore (dc kc_X12_beginAt 16 rfl) rfl (by first | omega | (simp [up] <;> omega)) (by first | omega | (simp [up] <;> omega)) <| s_return (dc kc_X12_beginAt 17 rfl) rfl (Nat.zero_le _) (Nat.zero_le _) ?_
  refine hQ _ M ((((g.mono (fun j k z => by rw [z]; rfl)).up rfl).up rfl).up rfl) hM ?_ ?_ ?_
  · rw [up_j (by decide), up_j (by decide), up_ud, g.row (fun _ => rfl)]
  · rw [up_j (by decide), up_ud, up_j (by decide), g.row (fun _ => rfl)]
  · rw [up_ud, up_j (by decide), up_j (by decide), g.row (fun _ => rfl)]
theorem t_change (hL : Lay G mr) {mi : MI} {D : Int} {ρ : Int → Int} {A : List PR} {c0 v0 : Int} (hD : D = A.length) (hA2 : A.length ≤ 2) (hS : Sav mi A) (hP : Pth ρ A) (hV : VC (clR ρ)) (h8 : 0 ≤ ρ 8 ∧ ρ 8 ≤ 200) (h0 : 0 ≤ ρ 0 ∧ ρ 0 ≤ 1000000) (hp : ∀ i, 0 ≤ i → i < 5 → 1 ≤ ρ (102 + i) ∧ ρ (102 + i) ≤ 9) (hsp : 0 ≤ mi 0 98 D ∧ mi 0 98 D ≤ 1000)
    (e94 : mi 0 94 D = c0) (e95 : mi 0 95 D = v0)
    (hst : (c0 = -1 ∧ mi 0 81 = rowA ρ A ∧ v0 = 0) ∨ (Vp ρ A (mi 0 97 D) c0 v0 ∧ mi 0 96 D = ρ (30 + c0) ∧ mi 0 81 = rowA ρ (A ++ [(c0, v0)])))
    (hQF : (∀ c v, Vp ρ A (mi 0 97 D) c v → aft c v c0 v0 → False) → ∀ mi', Ch pC mi mi' → mi' 0 81 = rowA ρ A → mi' 0 98 = mi 0 98 → (∀ i, i ≠ D → mi' 0 94 i = mi 0 94 i ∧ mi' 0 95 i = mi 0 95 i ∧ mi' 0 96 i = mi 0 96 i) → Q (vI 0) mi' n mr)
    (hQT : ∀ c v, Vp ρ A (mi 0 97 D) c v → aft c v c0 v0 → (∀ c' v', Vp ρ A (mi 0 97 D) c' v' → aft c' v' c0 v0 → (c' = c ∧ v' = v) ∨ aft c' v' c v) → ∀ mi', Ch pC mi mi' → mi' 0 81 = rowA ρ (A ++ [(c, v)]) → mi' 0 94 = ud (mi 0 94) D c → mi' 0 95 = ud (mi 0 95) D v → mi' 0 96 = ud (mi 0 96) D (ρ (30 + c)) → mi' 0 98 = ud (mi 0 98) (D + 1) (mi 0 98 D + prR ρ c v) → Q (vI 1) mi' n mr) : Tx (d+3) mt_X12_change [vR (some (0, 80)), vI D] mi n mr Q := by
  refine tx_intro (ls := [vR (some (0, 80)), vI D, vX 0, vX 0]) om_X12_change rfl (Nat.le_of_ble_eq_true rfl) ?_
  have hoff : ∀ k, k < 30 ∨ 54 ≤ k → rowA ρ A k = ρ k := fun k hk => rowA_off hP hk
  generalize hM : mi 0 97 D = M at *
  -- a change is made
  have done : ∀ (m : MI) (c v : Int), Ch pC mi m → m 0 81 = rowA ρ A → m 0 98 = mi 0 98 → m 0 94 = ud (mi 0 94) D c → m 0 95 = ud (mi 0 95) D v → m 0 96 = ud (mi 0 96) D (ρ (30 + c)) → Vp ρ A M c v → aft c v c0 v0 → (∀ c' v', Vp ρ A M c' v' → aft c' v' c0 v0 → (c' = c ∧ v' = v) ∨ aft c' v' c v) → Run (d+3) mt_X12_change Q (n, mr, 0, 0) m 137 [vR (some (0, 80)), vI D, vI c, vI v] [] := by
    intro m c v g e81 e98 f94 f95 f96 hv ha hmin
    have hc := hv.2.2.1
    have er : up m 0 81 (30 + c) v 0 81 = rowA ρ (A ++ [(c, v)]) := by rw [up_ud, e81, rowA_snoc]
    have hoff2 : ∀ k, k < 30 ∨ 54 ≤ k → up m 0 81 (30 + c) v 0 81 k = ρ k := fun k hk => by rw [up_ud, ud_ne (by omega), e81]; exact hoff k hk
    have e98D : up m 0 81 (30 + c) v 0 98 = mi 0 98 := by rw [up_j (by decide), e98]
    have h9 := prR_9 (v := v) hc.1 hc.2 hp
    have h1 := prR_1 (ρ := ρ) (c := c) (v := v)
    refine r_aload_n (dc kc_X12_change_2 2 rfl) rfl <| s_getA (dc kc_X12_change_2 3 rfl) fl_X12_7 (ly_80_2 hL) <| k_b (dc kc_X12_change_2 4 rfl) rfl <| s_iload_n (dc kc_X12_change_2 5 rfl) rfl <| b_iadd (dc kc_X12_change_2 6 rfl) (by first | omega | (simp [up] <;> omega)) (by first | omega | (simp [up] <;> omega)) <| s_iload_n (dc kc_X12_change_2 7 rfl) rfl <| s_iastore (dc kc_X12_change_2 8 rfl) rfl (by first | omega | (simp [up] <;> omega)) (by first | omega | (simp [up] <;> omega)) <| r_aload_n (dc kc_X12_change_2 9 rfl) rfl <| s_getA (dc kc_X12_change_2 10 rfl) fl_X12_67 (ly_80_42 hL) <| s_iload_n (dc kc_X12_change_2 11 rfl) rfl <| k_i (dc kc_X12_change_2 12 rfl) rfl <| b_iadd (dc kc_X12_change_2 13 rfl) (by first | omega | (simp [up] <;> omega)) (by first | omega | (simp [up] <;> omega)) <| r_aload_n (dc kc_X12_change_2 14 rfl) rfl <| s_getA (dc kc_X12_change_2 15 rfl) fl_X12_67 (ly_80_42 hL) <| s_iload_n (dc kc_X12_change_2 16 rfl) rfl <| s_iaload (dc kc_X12_change_2 17 rfl) rfl (by first | omega | (simp [up] <;> omega)) (by first | omega | (simp [up] <;> omega)) <| r_aload_n (dc kc_X12_change_2 18 rfl) rfl <| s_iload_n (dc kc_X12_change_2 19 rfl) rfl <| s_iload_n (dc kc_X12_change_2 20 rfl) rfl <| c_v2r (dc kc_X12_change_2 21 rfl) cl_X12_475 rfl (Nat.le_of_ble_eq_true rfl) (Nat.zero_le _) (Nat.zero_le _) ?_
    refine t_priceOf hL hc.1 hc.2 (by rw [hoff2 8 (by omega)]; exact h8) (by rw [hoff2 0 (by omega)]; exact h0) (fun i a b => by rw [hoff2 _ (by omega)]; exact hp i a b) ?_
    rw [prR_off hoff2 hc.1 hc.2, e98D]
    refine b_iadd (dc kc_X12_change_2 22 rfl) (by first | omega | (simp [up] <;> omega)) (by first | omega | (simp [up] <;> omega)) <| s_iastore (dc kc_X12_change_2 23 rfl) rfl (by first | omega | (simp [up] <;> omega)) (by first | omega | (simp [up] <;> omega)) <| k_i (dc kc_X12_change_2 24 rfl) rfl <| s_zreturn (dc kc_X12_change_2 25 rfl) rfl (by first | exact Or.inl rfl | exact Or.inr rfl | exact bi_01 | assumption) (Nat.zero_le _) (Nat.zero_le _) ?_
    refine hQT c v hv ha hmin _ ((g.up rfl).up rfl) (by rw [up_j (by decide), er]) (by rw [up_j (by decide), up_j (by decide), f94]) (by rw [up_j (by decide), up_j (by decide), f95]) (by rw [up_j (by decide), up_j (by decide), f96]) ?_
    rw [up_ud, e98D]
  have cellr : ∀ c, (∀ q ∈ A, q.1 ≠ c) → rowA ρ A (30 + c) = ρ (30 + c) := fun c h => rowA_not (fun q hq z => h q hq (by omega))
  have main : ∀ (N : Nat) (m : MI) (c v : Int), (24 - c) * 20 + 12 - v ≤ N → Ch pC mi m → m 0 81 = rowA ρ A → m 0 98 = mi 0 98 → (∃ z, m 0 94 = ud (mi 0 94) D z ∧ (c ≠ -1 → z = c)) → (∃ z, m 0 95 = ud (mi 0 95) D z) → (∃ z, m 0 96 = ud (mi 0 96) D z ∧ (c ≠ -1 → z = ρ (30 + c))) → ((c = -1 ∧ v = 0) ∨ ((0 ≤ c ∧ c < 24) ∧ (∀ q ∈ A, q.1 ≠ c) ∧ biC c v = 1 ∧ bAnd (bShr M c) 1 = 1)) → (c0 < c ∨ (c0 = c ∧ v0 ≤ v)) → (∀ c' v', Vp ρ A M c' v' → aft c' v' c0 v0 → aft c' v' c v) → Run (d+3) mt_X12_change Q (n, mr, 0, 0) m 34 [vR (some (0, 80)), vI D, vI c, vI v] [] := by
    intro N
    induction N with
    | zero =>
      intro m c v hN g e81 e98 f94 f95 f96 hc hle hno
      exfalso
      rcases hc with ⟨h1, h2⟩ | ⟨h1, h2, h3, h4⟩
      · omega
      · unfold biC at h3; rw [bi_eq1] at h3; omega
    | succ N ih =>
      intro m c v hN g e81 e98 f94 f95 f96 hc hle hno
      -- a value is tried
      have val : ∀ (m : MI) (c v v' : Int), v' = v + 1 → -2 ≤ v → (24 - c) * 20 + 12 - v' ≤ N → Ch pC mi m → m 0 81 = rowA ρ A → m 0 98 = mi 0 98 → m 0 94 = ud (mi 0 94) D c → (∃ z, m 0 95 = ud (mi 0 95) D z) → m 0 96 = ud (mi 0 96) D (ρ (30 + c)) → (0 ≤ c ∧ c < 24) → (∀ q ∈ A, q.1 ≠ c) → biC c v' = 1 → bAnd (bShr M c) 1 = 1 → aft c v' c0 v0 → (∀ c' w, Vp ρ A M c' w → aft c' w c0 v0 → (c' = c ∧ w = v') ∨ aft c' w c v') → Run (d+3) mt_X12_change Q (n, mr, 0, 0) m 117 [vR (some (0, 80)), vI D, vI c, vI v] [] := by
        intro m c v v' ev hv2 hN g e81 e98 f94 f95 f96 hc hA hb hbit ha hno
        obtain ⟨z5, f95⟩ := f95
        have hv9 : v' ≤ 9 := by unfold biC at hb; rw [bi_eq1] at hb; omega
        have e96 : ∀ w, up m 0 95 D w 0 96 D = ρ (30 + c) := fun w => by rw [up_j (by decide), f96, ud_at]
        have e95 : up m 0 95 D v' 0 95 = ud (mi 0 95) D v' := by
          rw [up_ud, f95]
          funext i
          by_cases e : i = D
          · rw [e, ud_at, ud_at]
          · rw [ud_ne e, ud_ne e, ud_ne e]
        refine b_inc3 (dc kc_X12_change_1 30 rfl) rfl (Nat.le_of_ble_eq_true rfl) rfl (by first | omega | (simp [up] <;> omega)) (by first | omega | (simp [up] <;> omega)) <| r_aload_n (dc kc_X12_change_1 31 rfl) rfl <| s_getA (dc kc_X12_change_1 32 rfl) fl_X12_58 (ly_80_39 hL) <| s_iload_n (dc kc_X12_change_1 33 rfl) rfl <| s_iload_n (dc kc_X12_change_1 34 rfl) rfl <| s_iastore (dc kc_X12_change_1 35 rfl) rfl (by first | omega | (simp [up] <;> omega)) (by first | omega | (simp [up] <;> omega)) <| s_iload_n (dc kc_X12_change_1 36 rfl) rfl <| r_aload_n (dc kc_X12_change_1 37 rfl) rfl <| s_getA (dc kc_X12_change_1 38 rfl) fl_X12_61 (ly_80_40 hL) <| s_iload_n (dc kc_X12_change_1 39 rfl) rfl <| s_iaload (dc kc_X12_change_2 0 rfl) rfl (by first | omega | (simp [up] <;> omega)) (by first | omega | (simp [up] <;> omega)) <| s_icmp_eq (tgt := 34) (dc kc_X12_change_2 1 rfl) rfl (fun c134 => (?_)) (fun c134 => (?_))
        all_goals rw [e96] at c134
        all_goals rw [← ev] at c134 ⊢
        · refine ih _ c v' hN (g.up rfl) (by rw [up_j (by decide), e81]) (by rw [up_j (by decide), e98]) ⟨c, by rw [up_j (by decide), f94], fun _ => rfl⟩ ⟨v', e95⟩ ⟨_, by rw [up_j (by decide), f96], fun _ => rfl⟩ (Or.inr ⟨hc, hA, hb, hbit⟩) (by unfold aft at ha; omega) (fun c' w hv hw => ?_)
          rcases hno c' w hv hw with ⟨z1, z2⟩ | z
          · exact absurd (by rw [z1, z2, c134]) hv.2.2.2.2
          · exact z
        · exact done _ c v' (g.up rfl) (by rw [up_j (by decide), e81]) (by rw [up_j (by decide), e98]) (by rw [up_j (by decide), f94]) e95 (by rw [up_j (by decide), f96]) ⟨hbit, hA, hc, hb, c134⟩ ha hno
      have hv9 : -1 ≤ v ∧ v ≤ 9 := by
        rcases hc with ⟨h1, h2⟩ | ⟨h1, h2, h3, h4⟩
        · omega
        · unfold biC at h3; rw [bi_eq1] at h3; omega
      -- the next cell
      have nxt : ∀ (r : Nat) (c1 : Int), c1 + r = 24 → c < c1 → 0 ≤ c1 → (∀ c' w, Vp ρ A M c' w → aft c' w c0 v0 → c1 ≤ c') → Run (d+3) mt_X12_change Q (n, mr, 0, 0) m 52 [vR (some (0, 80)), vI D, vI c1, vI v] [] := by
        intro r
        induction r with
        | zero =>
          intro c1 hr hc1 h01 hno1
          have : c1 = 24 := by omega
          subst this
          obtain ⟨z4, f94, _⟩ := f94
          obtain ⟨z5, f95⟩ := f95
          obtain ⟨z6, f96, _⟩ := f96
          refine s_iload_n (dc kc_X12_change_0 33 rfl) rfl <| k_b (dc kc_X12_change_0 34 rfl) rfl <| s_icmp_ge (tgt := 73) (dc kc_X12_change_0 35 rfl) rfl (fun c55 => (s_iload_n (dc kc_X12_change_1 3 rfl) rfl <| k_b (dc kc_X12_change_1 4 rfl) rfl <| s_icmp_ne (tgt := 81) (dc kc_X12_change_1 5 rfl) rfl (fun c76 => (?_)) (fun c76 => (k_i (dc kc_X12_change_1 6 rfl) rfl <| s_zreturn (dc kc_X12_change_1 7 rfl) rfl (by first | exact Or.inl rfl | exact Or.inr rfl | exact bi_01 | assumption) (Nat.zero_le _) (Nat.zero_le _) ?_)))) (fun c55 => (?_))
          · exfalso; omega
          · refine hQF (fun c' w hv hw => ?_) m g e81 e98 (fun i hi => by rw [f94, f95, f96, ud_ne hi, ud_ne hi, ud_ne hi]; exact ⟨rfl, rfl, rfl⟩)
            have := hno1 c' w hv hw
            have := hv.2.2.1
            omega
          · exfalso; omega
        | succ r ihr =>
          intro c1 hr hc1 h01 hno1
          have hS' : Sav m A := fun i q h => by
            have hi : i < A.length := (List.getElem?_eq_some_iff.mp h).1
            obtain ⟨z4, f94, _⟩ := f94
            obtain ⟨z5, f95⟩ := f95
            rw [f94, f95, ud_ne (by omega), ud_ne (by omega)]
            exact hS i q h
          have hM' : m 0 97 D = M := by rw [g.row (fun _ => rfl)]; exact hM
          refine s_iload_n (dc kc_X12_change_0 33 rfl) rfl <| k_b (dc kc_X12_change_0 34 rfl) rfl <| s_icmp_ge (tgt := 73) (dc kc_X12_change_0 35 rfl) rfl (fun c55 => (?_)) (fun c55 => (r_aload_n (dc kc_X12_change_0 36 rfl) rfl <| s_iload_n (dc kc_X12_change_0 37 rfl) rfl <| s_iload_n (dc kc_X12_change_0 38 rfl) rfl <| c_v2r (dc kc_X12_change_0 39 rfl) cl_X12_472 rfl (Nat.le_of_ble_eq_true rfl) (Nat.zero_le _) (Nat.zero_le _) ?_))
          · exfalso; omega
          · refine t_mayChange hL hD hA2 hS' ?_ ?_
            · intro hbit hA
              rw [hM'] at hbit
              refine s_if_ne (tgt := 73) (dc kc_X12_change_1 0 rfl) rfl (fun c64 => (?_)) (fun c64 => (?_))
              · have cr := cellr c1 hA
                have ce : m 0 81 (30 + c1) = ρ (30 + c1) := by rw [e81]; exact cr
                obtain ⟨z4, f94, _⟩ := f94
                obtain ⟨z6, f96, _⟩ := f96
                have uu : ∀ (f : Int → Int) (a b : Int), ud (ud f D a) D b = ud f D b := fun f a b => by
                  funext i
                  by_cases e : i = D
                  · rw [e, ud_at, ud_at]
                  · rw [ud_ne e, ud_ne e, ud_ne e]
                have fin : ∀ v1, (-2 ≤ v1) → (v1 ≤ -1) → biC c1 (v1 + 1) = 1 → (∀ w, biC c1 w = 1 → v1 + 1 ≤ w) → Run (d+3) mt_X12_change Q (n, mr, 0, 0) (up (up m 0 96 D (m 0 81 (30 + c1))) 0 94 D c1) 117 [vR (some (0, 80)), vI D, vI c1, vI v1] [] := by
                  intro v1 h1 h2 hb hlow
                  refine val _ c1 v1 (v1 + 1) rfl h1 (by omega) ((g.up rfl).up rfl) (by rw [up_j (by decide), up_j (by decide), e81]) (by rw [up_j (by decide), up_j (by decide), e98]) (by rw [up_ud, up_j (by decide), f94, uu]) ?_ (by rw [up_j (by decide), up_ud, f96, uu, ce]) ⟨h01, by omega⟩ hA hb hbit (by unfold aft; omega) (fun c' w hv hw => ?_)
                  · obtain ⟨z5, f95⟩ := f95
                    exact ⟨z5, by rw [up_j (by decide), up_j (by decide), f95]⟩
                  · have := hno1 c' w hv hw
                    by_cases e : c' = c1
                    · have := hlow w (by rw [← e]; exact hv.2.2.2.1)
                      unfold aft
                      omega
                    · unfold aft; omega
                refine s_iload_n (dc kc_X12_change_1 3 rfl) rfl <| k_b (dc kc_X12_change_1 4 rfl) rfl <| s_icmp_ne (tgt := 81) (dc kc_X12_change_1 5 rfl) rfl (fun c76 => (s_iload_n (dc kc_X12_change_1 8 rfl) rfl <| c_s1r (dc kc_X12_change_1 9 rfl) cl_X12_79 rfl (Nat.le_of_ble_eq_true rfl) (Nat.zero_le _) (Nat.zero_le _) <| t_isNode (by first | omega | (simp [up] <;> omega)) <| s_if_eqb (tgt := 93) (dc kc_X12_change_1 10 rfl) rfl (fun c85 => (k_i (dc kc_X12_change_1 13 rfl) rfl <| t_i3 (dc kc_X12_change_1 14 rfl) (Nat.le_of_ble_eq_true rfl) rfl <| r_aload_n (dc kc_X12_change_1 15 rfl) rfl <| s_getA (dc kc_X12_change_1 16 rfl) fl_X12_61 (ly_80_40 hL) <| s_iload_n (dc kc_X12_change_1 17 rfl) rfl <| r_aload_n (dc kc_X12_change_1 18 rfl) rfl <| s_getA (dc kc_X12_change_1 19 rfl) fl_X12_7 (ly_80_2 hL) <| k_b (dc kc_X12_change_1 20 rfl) rfl <| s_iload_n (dc kc_X12_change_1 21 rfl) rfl <| b_iadd (dc kc_X12_change_1 22 rfl) (by first | omega | (simp [up] <;> omega)) (by first | omega | (simp [up] <;> omega)) <| s_iaload (dc kc_X12_change_1 23 rfl) rfl (by first | omega | (simp [up] <;> omega)) (by first | omega | (simp [up] <;> omega)) <| s_iastore (dc kc_X12_change_1 24 rfl) rfl (by first | omega | (simp [up] <;> omega)) (by first | omega | (simp [up] <;> omega)) <| r_aload_n (dc kc_X12_change_1 25 rfl) rfl <| s_getA (dc kc_X12_change_1 26 rfl) fl_X12_55 (ly_80_38 hL) <| s_iload_n (dc kc_X12_change_1 27 rfl) rfl <| s_iload_n (dc kc_X12_change_1 28 rfl) rfl <| s_iastore (dc kc_X12_change_1 29 rfl) rfl (by first | omega | (simp [up] <;> omega)) (by first | omega | (simp [up] <;> omega)) <| ?_)) (fun c85 => (k_b (dc kc_X12_change_1 11 rfl) rfl <| s_goto (tgt := 94) (dc kc_X12_change_1 12 rfl) rfl <| t_i3 (dc kc_X12_change_1 14 rfl) (Nat.le_of_ble_eq_true rfl) rfl <| r_aload_n (dc kc_X12_change_1 15 rfl) rfl <| s_getA (dc kc_X12_change_1 16 rfl) fl_X12_61 (ly_80_40 hL) <| s_iload_n (dc kc_X12_change_1 17 rfl) rfl <| r_aload_n (dc kc_X12_change_1 18 rfl) rfl <| s_getA (dc kc_X12_change_1 19 rfl) fl_X12_7 (ly_80_2 hL) <| k_b (dc kc_X12_change_1 20 rfl) rfl <| s_iload_n (dc kc_X12_change_1 21 rfl) rfl <| b_iadd (dc kc_X12_change_1 22 rfl) (by first | omega | (simp [up] <;> omega)) (by first | omega | (simp [up] <;> omega)) <| s_iaload (dc kc_X12_change_1 23 rfl) rfl (by first | omega | (simp [up] <;> omega)) (by first | omega | (simp [up] <;> omega)) <| s_iastore (dc kc_X12_change_1 24 rfl) rfl (by first | omega | (simp [up] <;> omega)) (by first | omega | (simp [up] <;> omega)) <| r_aload_n (dc kc_X12_change_1 25 rfl) rfl <| s_getA (dc kc_X12_change_1 26 rfl) fl_X12_55 (ly_80_38 hL) <| s_iload_n (dc kc_X12_change_1 27 rfl) rfl <| s_iload_n (dc kc_X12_change_1 28 rfl) rfl <| s_iastore (dc kc_X12_change_1 29 rfl) rfl (by first | omega | (simp [up] <;> omega)) (by first | omega | (simp [up] <;> omega)) <| ?_)))) (fun c76 => (?_))
                · refine fin (-1) (by decide) (by decide) ?_ (fun w hw => ?_)
                  · unfold biC; rw [bi_eq1]; omega
                  · unfold biC at hw; rw [bi_eq1] at hw; omega
                · refine fin (-2) (by decide) (by decide) ?_ (fun w hw => ?_)
                  · unfold biC; rw [bi_eq1]; omega
                  · unfold biC at hw; rw [bi_eq1] at hw; omega
                · exfalso; omega
              · exfalso; omega
            · intro hn
              rw [hM'] at hn
              refine s_if_ne (tgt := 73) (dc kc_X12_change_1 0 rfl) rfl (fun c64 => (?_)) (fun c64 => (b_inc2 (dc kc_X12_change_1 1 rfl) rfl (Nat.le_of_ble_eq_true rfl) rfl (by first | omega | (simp [up] <;> omega)) (by first | omega | (simp [up] <;> omega)) <| s_goto (tgt := 52) (dc kc_X12_change_1 2 rfl) rfl <| ?_))
              · exfalso; omega
              · refine ihr (c1 + 1) (by omega) (by omega) (by omega) (fun c' w hv hw => ?_)
                have := hno1 c' w hv hw
                by_cases e : c' = c1
                · rw [e] at hv; exact absurd ⟨hv.1, hv.2.1⟩ hn
                · omega
      rcases hc with ⟨h1, h2⟩ | ⟨h1, h2, h3, h4⟩
      · refine s_iload_n (dc kc_X12_change_0 23 rfl) rfl <| k_i (dc kc_X12_change_0 24 rfl) rfl <| s_icmp_eq (tgt := 49) (dc kc_X12_change_0 25 rfl) rfl (fun c36 => (b_inc2 (dc kc_X12_change_0 32 rfl) rfl (Nat.le_of_ble_eq_true rfl) rfl (by first | omega | (simp [up] <;> omega)) (by first | omega | (simp [up] <;> omega)) <| ?_)) (fun c36 => (?_))
        · subst h1
          exact nxt 24 _ (by omega) (by omega) (by omega) (fun c' w hv hw => by have := hv.2.2.1; omega)
        · exfalso; omega
      · have hvr : -1 ≤ v ∧ v ≤ 9 := by unfold biC at h3; rw [bi_eq1] at h3; omega
        refine s_iload_n (dc kc_X12_change_0 23 rfl) rfl <| k_i (dc kc_X12_change_0 24 rfl) rfl <| s_icmp_eq (tgt := 49) (dc kc_X12_change_0 25 rfl) rfl (fun c36 => (?_)) (fun c36 => (s_iload_n (dc kc_X12_change_0 26 rfl) rfl <| s_iload_n (dc kc_X12_change_0 27 rfl) rfl <| k_i (dc kc_X12_change_0 28 rfl) rfl <| b_iadd (dc kc_X12_change_0 29 rfl) (by first | omega | (simp [up] <;> omega)) (by first | omega | (simp [up] <;> omega)) <| c_s2r (dc kc_X12_change_0 30 rfl) cl_X12_394 rfl (Nat.le_of_ble_eq_true rfl) (Nat.zero_le _) (Nat.zero_le _) <| t_canBe (by first | omega | (simp [up] <;> omega)) <| s_if_ne (tgt := 117) (dc kc_X12_change_0 31 rfl) rfl (fun c46 => (?_)) (fun c46 => (?_))))
        · exfalso; omega
        · have hb : biC c (v + 1) = 1 := by have := biC_01 (c := c) (v := v + 1); omega
          obtain ⟨z4, f94, g4⟩ := f94
          obtain ⟨z6, f96, g6⟩ := f96
          have e4 := g4 (by omega)
          have e6 := g6 (by omega)
          subst e4
          subst e6
          refine val m z4 v (v + 1) rfl (by omega) (by omega) g e81 e98 f94 f95 f96 h1 h2 hb h4 (by unfold aft; omega) (fun c' w hv hw => ?_)
          have := hno c' w hv hw
          unfold aft at this ⊢
          omega
        · refine b_inc2 (dc kc_X12_change_0 32 rfl) rfl (Nat.le_of_ble_eq_true rfl) rfl (by first | omega | (simp [up] <;> omega)) (by first | omega | (simp [up] <;> omega)) <| ?_
          refine nxt (23 - c).toNat (c + 1) (by omega) (by omega) (by omega) (fun c' w hv hw => ?_)
          have h := hno c' w hv hw
          unfold aft at h
          by_cases e : c' = c
          · have hb := biC_lo h3 (w := v + 1) (by omega) c46 (u := w) (by omega)
            have := hv.2.2.2.1
            rw [e, hb] at this
            omega
          · omega
  rcases hst with ⟨h1, h2, h3⟩ | ⟨hv, h96, h81⟩
  · refine r_aload_n (dc kc_X12_change_0 0 rfl) rfl <| s_getA (dc kc_X12_change_0 1 rfl) fl_X12_55 (ly_80_38 hL) <| s_iload_n (dc kc_X12_change_0 2 rfl) rfl <| s_iaload (dc kc_X12_change_0 3 rfl) rfl (by first | omega | (simp [up] <;> omega)) (by first | omega | (simp [up] <;> omega)) <| t_i2 (dc kc_X12_change_0 4 rfl) (Nat.le_of_ble_eq_true rfl) rfl <| r_aload_n (dc kc_X12_change_0 5 rfl) rfl <| s_getA (dc kc_X12_change_0 6 rfl) fl_X12_58 (ly_80_39 hL) <| s_iload_n (dc kc_X12_change_0 7 rfl) rfl <| s_iaload (dc kc_X12_change_0 8 rfl) rfl (by first | omega | (simp [up] <;> omega)) (by first | omega | (simp [up] <;> omega)) <| t_i3 (dc kc_X12_change_0 9 rfl) (Nat.le_of_ble_eq_true rfl) rfl <| s_iload_n (dc kc_X12_change_0 10 rfl) rfl <| k_i (dc kc_X12_change_0 11 rfl) rfl <| s_icmp_eq (tgt := 34) (dc kc_X12_change_0 12 rfl) rfl (fun c16 => (?_)) (fun c16 => (r_aload_n (dc kc_X12_change_0 13 rfl) rfl <| s_getA (dc kc_X12_change_0 14 rfl) fl_X12_7 (ly_80_2 hL) <| k_b (dc kc_X12_change_0 15 rfl) rfl <| s_iload_n (dc kc_X12_change_0 16 rfl) rfl <| b_iadd (dc kc_X12_change_0 17 rfl) (by first | omega | (simp [up] <;> omega)) (by first | omega | (simp [up] <;> omega)) <| r_aload_n (dc kc_X12_change_0 18 rfl) rfl <| s_getA (dc kc_X12_change_0 19 rfl) fl_X12_61 (ly_80_40 hL) <| s_iload_n (dc kc_X12_change_0 20 rfl) rfl <| s_iaload (dc kc_X12_change_0 21 rfl) rfl (by first | omega | (simp [up] <;> omega)) (by first | omega | (simp [up] <;> omega)) <| s_iastore (dc kc_X12_change_0 22 rfl) rfl (by first | omega | (simp [up] <;> omega)) (by first | omega | (simp [up] <;> omega)) <| ?_))
    · rw [e94, e95]
      rw [e94] at c16
      exact main _ mi c0 v0 (Int.self_le_toNat _) Ch.rf h2 rfl ⟨_, ud_same.symm, fun z => absurd h1 z⟩ ⟨_, ud_same.symm⟩ ⟨_, ud_same.symm, fun z => absurd h1 z⟩ (Or.inl ⟨h1, h3⟩) (Or.inr ⟨rfl, Int.le_refl _⟩) (fun _ _ _ h => h)
    · exfalso; omega
  · have hc := hv.2.2.1
    refine r_aload_n (dc kc_X12_change_0 0 rfl) rfl <| s_getA (dc kc_X12_change_0 1 rfl) fl_X12_55 (ly_80_38 hL) <| s_iload_n (dc kc_X12_change_0 2 rfl) rfl <| s_iaload (dc kc_X12_change_0 3 rfl) rfl (by first | omega | (simp [up] <;> omega)) (by first | omega | (simp [up] <;> omega)) <| t_i2 (dc kc_X12_change_0 4 rfl) (Nat.le_of_ble_eq_true rfl) rfl <| r_aload_n (dc kc_X12_change_0 5 rfl) rfl <| s_getA (dc kc_X12_change_0 6 rfl) fl_X12_58 (ly_80_39 hL) <| s_iload_n (dc kc_X12_change_0 7 rfl) rfl <| s_iaload (dc kc_X12_change_0 8 rfl) rfl (by first | omega | (simp [up] <;> omega)) (by first | omega | (simp [up] <;> omega)) <| t_i3 (dc kc_X12_change_0 9 rfl) (Nat.le_of_ble_eq_true rfl) rfl <| s_iload_n (dc kc_X12_change_0 10 rfl) rfl <| k_i (dc kc_X12_change_0 11 rfl) rfl <| s_icmp_eq (tgt := 34) (dc kc_X12_change_0 12 rfl) rfl (fun c16 => (?_)) (fun c16 => (r_aload_n (dc kc_X12_change_0 13 rfl) rfl <| s_getA (dc kc_X12_change_0 14 rfl) fl_X12_7 (ly_80_2 hL) <| k_b (dc kc_X12_change_0 15 rfl) rfl <| s_iload_n (dc kc_X12_change_0 16 rfl) rfl <| b_iadd (dc kc_X12_change_0 17 rfl) (by first | omega | (simp [up] <;> omega)) (by first | omega | (simp [up] <;> omega)) <| r_aload_n (dc kc_X12_change_0 18 rfl) rfl <| s_getA (dc kc_X12_change_0 19 rfl) fl_X12_61 (ly_80_40 hL) <| s_iload_n (dc kc_X12_change_0 20 rfl) rfl <| s_iaload (dc kc_X12_change_0 21 rfl) rfl (by first | omega | (simp [up] <;> omega)) (by first | omega | (simp [up] <;> omega)) <| s_iastore (dc kc_X12_change_0 22 rfl) rfl (by first | omega | (simp [up] <;> omega)) (by first | omega | (simp [up] <;> omega)) <| ?_))
    · exfalso; omega
    · rw [e94, e95, h96]
      have er : up mi 0 81 (30 + c0) (ρ (30 + c0)) 0 81 = rowA ρ A := by
        rw [up_ud, h81, rowA_snoc]
        funext i
        by_cases e : i = 30 + c0
        · rw [e, ud_at, cellr c0 hv.2.1]
        · rw [ud_ne e, ud_ne e]
      refine main _ _ c0 v0 (Int.self_le_toNat _) (Ch.rf.up rfl) er (by rw [up_j (by decide)]) ⟨mi 0 94 D, by rw [up_j (by decide), ud_same], fun _ => e94⟩ ⟨_, by rw [up_j (by decide)]; exact ud_same.symm⟩ ⟨mi 0 96 D, by rw [up_j (by decide), ud_same], fun _ => h96⟩ (Or.inr ⟨hc, hv.2.1, hv.2.2.2.1, hv.1⟩) (Or.inr ⟨rfl, Int.le_refl _⟩) (fun _ _ _ h => h)
end LK3
