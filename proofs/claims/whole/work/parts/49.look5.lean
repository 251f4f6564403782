/-! the reference: look, and what is read off -/
def okP (q : PR) : Prop := 0 ≤ q.1 ∧ q.1 < 24 ∧ -1 ≤ q.2 ∧ q.2 ≤ 9
theorem Pth.ok {ρ : Int → Int} {A : List PR} (h : Pth ρ A) : ∀ q ∈ A, okP q := fun q hq => by
  have h1 := h.2 q hq
  have hb := h1.2.2.1
  unfold biC at hb
  rw [bi_eq1] at hb
  unfold okP
  omega
theorem key3_inj : ∀ (k : Nat) {L L' : List PR}, L.length = k → L'.length = k → (∀ q ∈ L, okP q) → (∀ q ∈ L', okP q) → key3 L = key3 L' → L = L'
  | 0, L, L', h, h', _, _, _ => by rw [List.length_eq_zero_iff.mp h, List.length_eq_zero_iff.mp h']
  | k + 1, L, L', h, h', hq, hq', e => by
    have hne : L ≠ [] := fun z => by rw [z] at h; cases h
    have hne' : L' ≠ [] := fun z => by rw [z] at h'; cases h'
    have e1 := (List.dropLast_concat_getLast hne).symm
    have e2 := (List.dropLast_concat_getLast hne').symm
    have m1 := hq _ (List.getLast_mem hne)
    have m2 := hq' _ (List.getLast_mem hne')
    rw [e1, e2, key3_snoc, key3_snoc] at e
    unfold okP at m1 m2
    have hk : key3 L.dropLast = key3 L'.dropLast := by omega
    have ih := key3_inj k (by rw [List.length_dropLast]; omega) (by rw [List.length_dropLast]; omega) (fun q z => hq q (List.dropLast_subset L z)) (fun q z => hq' q (List.dropLast_subset L' z)) hk
    have hlast : L.getLast hne = L'.getLast hne' := Prod.ext (by omega) (by omega)
    rw [e1, e2, ih, hlast]
def Lst (ρ : Int → Int) (P C : Int) (Y : List (List PR)) : Prop := (Y.map key3).Pairwise (· < ·) ∧ ∀ L, L ∈ Y ↔ (Mnd ρ L ∧ (L.length : Int) = C ∧ prc ρ L = P)
theorem list_choose {α : Type} {f : α → Int} {p : α → Prop} : ∀ (K : List Int), (∀ k ∈ K, ∃ L, p L ∧ f L = k) → ∃ Y : List α, Y.map f = K ∧ ∀ L ∈ Y, p L
  | [], _ => ⟨[], rfl, fun L h => by cases h⟩
  | k :: K, h => by
    obtain ⟨L, h1, h2⟩ := h k List.mem_cons_self
    obtain ⟨Y, h3, h4⟩ := list_choose K (fun x hx => h x (List.mem_cons_of_mem _ hx))
    refine ⟨L :: Y, by rw [List.map_cons, h2, h3], fun M hM => ?_⟩
    rcases List.mem_cons.mp hM with e | e
    · rw [e]; exact h1
    · exact h4 M e
theorem Keys.lst {ρ : Int → Int} {P C : Int} {K : List Int} (h : Keys key3 ρ P C K) : ∃ Y, Lst ρ P C Y ∧ Y.map key3 = K := by
  obtain ⟨Y, h1, h2⟩ := list_choose (f := key3) (p := fun L => Mnd ρ L ∧ (L.length : Int) = C ∧ prc ρ L = P) K (fun k hk => by
    obtain ⟨L, a, b, c, d⟩ := (h.2 k).mp hk
    exact ⟨L, ⟨a, b, c⟩, d⟩)
  refine ⟨Y, ⟨by rw [h1]; exact h.1, fun L => ⟨h2 L, fun hL => ?_⟩⟩, h1⟩
  have hk : key3 L ∈ K := (h.2 _).mpr ⟨L, hL.1, hL.2.1, hL.2.2, rfl⟩
  rw [← h1] at hk
  obtain ⟨M, hM, e⟩ := List.mem_map.mp hk
  have := h2 M hM
  rw [← key3_inj L.length (by omega) rfl (this.1.2.1.ok) (hL.1.2.1.ok) e]
  exact hM
def LkY (ρ : Int → Int) (m : Int) (mi : MI) : Prop := (mi 0 80 34 = -1 ∧ NoMend ρ m) ∨ (0 ≤ mi 0 80 34 ∧ Least ρ m (mi 0 80 34) (mi 0 80 35) ∧ ∃ Y, Lst ρ (mi 0 80 34) (mi 0 80 35) Y ∧ mi 0 80 36 = min (Y.length : Int) 501 ∧ ∀ (i : Nat) L, i < 501 → Y[i]? = some L → mi 0 93 i = key3 L)
theorem LookOK.Y {ρ : Int → Int} {m : Int} {mi : MI} (h : LookOK ρ m mi) : LkY ρ m mi := by
  rcases h with h | ⟨h1, h2, K, h3, h4, h5⟩
  · exact Or.inl h
  · obtain ⟨Y, a, b⟩ := h3.lst
    have hl : K.length = Y.length := by rw [← b, List.length_map]
    refine Or.inr ⟨h1, h2, Y, a, by rw [h4, hl], fun i L hi hL => ?_⟩
    have hi' : i < Y.length := (List.getElem?_eq_some_iff.mp hL).1
    have := h5 i (by omega) hi
    rw [← b, List.getElem?_map, hL] at this
    injection this with this
    exact this.symm
theorem LkY.K {ρ : Int → Int} {m : Int} {mi : MI} (h : LkY ρ m mi) : LookOK ρ m mi := by
  rcases h with h | ⟨h1, h2, Y, h3, h4, h5⟩
  · exact Or.inl h
  · refine Or.inr ⟨h1, h2, Y.map key3, ⟨h3.1, fun k => ?_⟩, by rw [List.length_map]; exact h4, fun i hi hi5 => ?_⟩
    · rw [List.mem_map]
      constructor
      · rintro ⟨L, hL, e⟩
        have := (h3.2 L).mp hL
        exact ⟨L, this.1, this.2.1, this.2.2, e⟩
      · rintro ⟨L, a, b, c, e⟩
        exact ⟨L, (h3.2 L).mpr ⟨a, b, c⟩, e⟩
    · rw [List.length_map] at hi
      have hg : Y[i]? = some Y[i] := List.getElem?_eq_getElem hi
      rw [List.getElem?_map, hg, h5 i _ hi5 hg]
      rfl
theorem LkY.mv {ρ : Int → Int} {m : Int} {mi mi' : MI} (h : LkY ρ m mi) (e34 : mi' 0 80 34 = mi 0 80 34) (e35 : mi' 0 80 35 = mi 0 80 35) (e36 : mi' 0 80 36 = mi 0 80 36) (e93 : mi' 0 93 = mi 0 93) : LkY ρ m mi' := by
  unfold LkY at *
  rw [e34, e35, e36, e93]
  exact h
section LK5
variable {d n G : Nat} {mr : MR} {Q : V → MI → Nat → MR → Prop}
theorem lvl_all (hL : Lay G mr) {ρ : Int → Int} {mi0 : MI} {mm : Int} (hI : Inv0 ρ) (hp : ∀ i, 0 ≤ i → i < 5 → 1 ≤ ρ (102 + i) ∧ ρ (102 + i) ≤ 9) (hm : 1 ≤ mm ∧ mm ≤ 3) : ∀ (r : Nat) (A : List PR), (A.length : Int) + r + 1 = mm → Pth ρ A → Lvl d n mr Q ρ mi0 mm A := by
  intro r
  induction r with
  | zero => intro A hlen hP; exact lvl_core hL hI hp hm (by omega) hP (fun c v h _ => by omega)
  | succ r ih => intro A hlen hP; exact lvl_core hL hI hp hm (by omega) hP (fun c v h hP' => ih _ (by rw [List.length_append, List.length_singleton]; omega) hP')
theorem t_look (hL : Lay G mr) {mi : MI} {m : Int} (hI : Inv0 (mi 0 81)) (hp : ∀ i, 0 ≤ i → i < 5 → 1 ≤ mi 0 81 (102 + i) ∧ mi 0 81 (102 + i) ≤ 9) (hm : 1 ≤ m ∧ m ≤ 3) (hk : mi 0 80 33 = m → LkY (mi 0 81) m mi) (hQ : ∀ mi', Ch pK mi mi' → mi' 0 81 = mi 0 81 → mi' 0 80 33 = m → LkY (mi 0 81) m mi' → Q (vX 0) mi' n mr) : Tx (d+9) mt_X12_look [vR (some (0, 80)), vI m] mi n mr Q := by
  refine tx_intro (ls := [vR (some (0, 80)), vI m, vX 0, vX 0]) om_X12_look rfl (Nat.le_of_ble_eq_true rfl) ?_
  generalize hρ : mi 0 81 = ρ at *
  obtain ⟨hV, h0, h7, h8, h10, h16, h17, h18, hlw, hln⟩ := id hI
  refine r_aload_n (dc kc_X12_look_0 0 rfl) rfl <| s_getI (dc kc_X12_look_0 1 rfl) fl_X12_100 <| s_iload_n (dc kc_X12_look_0 2 rfl) rfl <| s_icmp_ne (tgt := 9) (dc kc_X12_look_0 3 rfl) rfl (fun c5 => (r_aload_n (dc kc_X12_look_0 5 rfl) rfl <| s_iload_n (dc kc_X12_look_0 6 rfl) rfl <| s_putI (dc kc_X12_look_0 7 rfl) fl_X12_100 <| r_aload_n (dc kc_X12_look_0 8 rfl) rfl <| k_i (dc kc_X12_look_0 9 rfl) rfl <| s_putI (dc kc_X12_look_0 10 rfl) fl_X12_458 <| r_aload_n (dc kc_X12_look_0 11 rfl) rfl <| k_i (dc kc_X12_look_0 12 rfl) rfl <| s_putI (dc kc_X12_look_0 13 rfl) fl_X12_461 <| r_aload_n (dc kc_X12_look_0 14 rfl) rfl <| k_i (dc kc_X12_look_0 15 rfl) rfl <| s_putI (dc kc_X12_look_0 16 rfl) fl_X12_455 <| r_aload_n (dc kc_X12_look_0 17 rfl) rfl <| s_getA (dc kc_X12_look_0 18 rfl) fl_X12_67 (ly_80_42 hL) <| k_i (dc kc_X12_look_0 19 rfl) rfl <| k_i (dc kc_X12_look_0 20 rfl) rfl <| s_iastore (dc kc_X12_look_0 21 rfl) rfl (by first | omega | (simp [up] <;> omega)) (by first | omega | (simp [up] <;> omega)) <| r_aload_n (dc kc_X12_look_0 22 rfl) rfl <| c_v0r (dc kc_X12_look_0 23 rfl) cl_X12_478 rfl (Nat.le_of_ble_eq_true rfl) (Nat.zero_le _) (Nat.zero_le _) ?_)) (fun c5 => (s_return (dc kc_X12_look_0 4 rfl) rfl (Nat.zero_le _) (Nat.zero_le _) ?_))
  · -- looked for anew
    have e81 : ∀ (v w x y : Int), up (up (up (up (up mi 0 80 33 v) 0 80 34 w) 0 80 35 x) 0 80 36 y) 0 98 0 0 0 81 = ρ := fun v w x y => by rw [up_j (by decide), up_j (by decide), up_j (by decide), up_j (by decide), up_j (by decide), hρ]
    have g0 : Ch pK mi (up (up (up (up (up mi 0 80 33 m) 0 80 34 (-1)) 0 80 35 0) 0 80 36 0) 0 98 0 0) := ((((Ch.rf.up rfl).up rfl).up rfl).up rfl).up rfl
    have e33 : up (up (up (up (up mi 0 80 33 m) 0 80 34 (-1)) 0 80 35 0) 0 80 36 0) 0 98 0 0 0 80 33 = m := by rw [up_j (by decide), up_k (by decide), up_k (by decide), up_k (by decide), up_at]
    have e34 : up (up (up (up (up mi 0 80 33 m) 0 80 34 (-1)) 0 80 35 0) 0 80 36 0) 0 98 0 0 0 80 34 = -1 := by rw [up_j (by decide), up_k (by decide), up_k (by decide), up_at]
    have e35 : up (up (up (up (up mi 0 80 33 m) 0 80 34 (-1)) 0 80 35 0) 0 80 36 0) 0 98 0 0 0 80 35 = 0 := by rw [up_j (by decide), up_k (by decide), up_at]
    have e98 : up (up (up (up (up mi 0 80 33 m) 0 80 34 (-1)) 0 80 35 0) 0 80 36 0) 0 98 0 0 0 98 0 = 0 := by rw [up_at]
    have e81' := e81 m (-1) 0 0
    generalize up (up (up (up (up mi 0 80 33 m) 0 80 34 (-1)) 0 80 35 0) 0 80 36 0) 0 98 0 0 = m0 at *
    have ec : cel m0 = clR ρ := by unfold cel; rw [e81']
    refine t_firstBroken hL (by rw [ec]; exact hV) (by rw [e81']; exact h16) (by rw [e81']; exact hlw) ?_ ?_
    · rw [ec, e81']
      intro hall m1 g1
      have f35 : m1 0 80 35 = 0 := by rw [g1.at (by decide), e35]
      refine t_i2 (dc kc_X12_look_0 24 rfl) (Nat.le_of_ble_eq_true rfl) rfl <| s_iload_n (dc kc_X12_look_0 25 rfl) rfl <| k_i (dc kc_X12_look_0 26 rfl) rfl <| s_icmp_ne (tgt := 64) (dc kc_X12_look_0 27 rfl) rfl (fun c43 => (?_)) (fun c43 => (r_aload_n (dc kc_X12_look_0 28 rfl) rfl <| k_i (dc kc_X12_look_0 29 rfl) rfl <| s_putI (dc kc_X12_look_0 30 rfl) fl_X12_458 <| r_aload_n (dc kc_X12_look_0 31 rfl) rfl <| k_i (dc kc_X12_look_0 32 rfl) rfl <| s_putI (dc kc_X12_look_0 33 rfl) fl_X12_455 <| r_aload_n (dc kc_X12_look_0 34 rfl) rfl <| s_getA (dc kc_X12_look_0 35 rfl) fl_X12_51 (ly_80_37 hL) <| k_i (dc kc_X12_look_0 36 rfl) rfl <| s_lconst0 (dc kc_X12_look_0 37 rfl) <| s_lastore (dc kc_X12_look_0 38 rfl) rfl (by first | omega | (simp [up] <;> omega)) (by first | omega | (simp [up] <;> omega)) <| s_return (dc kc_X12_look_0 39 rfl) rfl (Nat.zero_le _) (Nat.zero_le _) ?_))
      · exfalso; omega
      · refine hQ _ ((((g0.tr (g1.mono (fun _ _ z => by simp [pE, pK] at z ⊢; omega))).up rfl).up rfl).up rfl) (by rw [up_j (by decide), up_j (by decide), up_j (by decide), g1.row (fun _ => rfl), e81']) (by rw [up_j (by decide), up_k (by decide), up_k (by decide), g1.at (by decide), e33]) ?_
        have k34 : up (up (up m1 0 80 34 0) 0 80 36 1) 0 93 0 0 0 80 34 = 0 := by rw [up_j (by decide), up_k (by decide), up_at]
        have k35 : up (up (up m1 0 80 34 0) 0 80 36 1) 0 93 0 0 0 80 35 = 0 := by rw [up_j (by decide), up_k (by decide), up_k (by decide), f35]
        have k36 : up (up (up m1 0 80 34 0) 0 80 36 1) 0 93 0 0 0 80 36 = 1 := by rw [up_j (by decide), up_at]
        have hnil : Mnd ρ [] := ⟨List.Pairwise.nil, ⟨by simp, fun q h => by cases h⟩, hall⟩
        unfold LkY
        rw [k34, k35, k36]
        refine Or.inr ⟨Int.le_refl _, ⟨⟨[], hnil, rfl, rfl⟩, by omega, fun L hL1 _ => ?_⟩, [[]], ⟨by simp, fun L => ?_⟩, rfl, fun i L hi hL => ?_⟩
        · have := prc_nn (ρ := ρ) (nodup_of_fst hL1.2.1.1)
          omega
        · rw [List.mem_singleton]
          constructor
          · intro e; rw [e]; exact ⟨hnil, rfl, rfl⟩
          · rintro ⟨_, h, _⟩
            exact List.length_eq_zero_iff.mp (by omega)
        · cases i with
          | zero => cases hL; exact up_at (mi := up (up m1 0 80 34 0) 0 80 36 1) (g := 0) (j := 93) (k := 0) (v := 0)
          | succ i => cases hL
    · rw [ec, e81']
      intro l l0 l1 hbr m1 g1
      have f81 : m1 0 81 = ρ := by rw [g1.row (fun _ => rfl), e81']
      have ec1 : cel m1 = clR ρ := by unfold cel; rw [f81]
      have hPn : Pth ρ [] := ⟨by simp, fun q h => by cases h⟩
      refine t_i2 (dc kc_X12_look_0 24 rfl) (Nat.le_of_ble_eq_true rfl) rfl <| s_iload_n (dc kc_X12_look_0 25 rfl) rfl <| k_i (dc kc_X12_look_0 26 rfl) rfl <| s_icmp_ne (tgt := 64) (dc kc_X12_look_0 27 rfl) rfl (fun c43 => (k_i (dc kc_X12_look_1 0 rfl) rfl <| t_i3 (dc kc_X12_look_1 1 rfl) (Nat.le_of_ble_eq_true rfl) rfl <| r_aload_n (dc kc_X12_look_1 2 rfl) rfl <| k_i (dc kc_X12_look_1 3 rfl) rfl <| s_iload_n (dc kc_X12_look_1 4 rfl) rfl <| c_v2 (dc kc_X12_look_1 5 rfl) cl_X12_481 rfl (Nat.le_of_ble_eq_true rfl) (Nat.zero_le _) (Nat.zero_le _) ?_)) (fun c43 => (?_))
      · refine t_beginAt hL (by omega) (by rw [ec1]; exact hV) l0 (by omega) (by rw [f81]; exact hlw l l0 l1) (fun m2 M g2 hM f97 f94 f95 => ?_)
        rw [ec1, f81] at hM
        have s2 : ∀ j, j ≠ 80 → j ≠ 85 → j ≠ 92 → j ≠ 94 → j ≠ 95 → j ≠ 97 → m2 0 j = m1 0 j := fun j a b c d e f => g2.row (fun k => by simp [pE, a, b, c, d, e, f])
        have gg : Ch pK mi m2 := (g0.tr (g1.mono (fun _ _ z => by simp [pE, pK] at z ⊢; omega))).tr (g2.mono (fun _ _ z => by simp [pE, pK] at z ⊢; omega))
        have f33 : m2 0 80 33 = m := by rw [g2.at (by decide), g1.at (by decide), e33]
        have lv := lvl_all (d := d) (n := n) (Q := Q) hL (mi0 := mi) hI hp hm (m - 1).toNat [] (by simp only [List.length_nil]; omega) hPn (-1) 0 m2 [] l gg f33 ⟨fun i q h => by simp at h, by rw [show (([] : List PR).length : Int) = 0 from rfl, f94, ud_at], by rw [show (([] : List PR).length : Int) = 0 from rfl, f95, ud_at], by rw [show (([] : List PR).length : Int) = 0 from rfl, s2 98 (by decide) (by decide) (by decide) (by decide) (by decide) (by decide), g1.row (fun _ => rfl), e98]; rfl, Or.inl ⟨rfl, by rw [s2 81 (by decide) (by decide) (by decide) (by decide) (by decide) (by decide), f81]; rfl, rfl⟩⟩ (Or.inl ⟨rfl, by rw [g2.at (by decide), g1.at (by decide), e34]⟩) (fun L h => by cases h) (fun m3 X3 x3 g3 e333 e3 _ hX3 hSd3 _ hcov => ?_)
        · exact lv
        · have hcv : ∀ L, Mnd ρ L → (L.length : Int) ≤ m → Cov ρ X3 L := by
            intro L hL1 hL2
            obtain ⟨q, hq, hqa, hqn⟩ := broken_asks (A := []) hV hPn hL1 (fun q h => by cases h) l0 l1 (hlw l l0 l1).2.2.2 hbr
            have hqr := hL1.2.1.2 q hq
            refine hcov L hL1 hL2 (fun q h => by cases h) ⟨q, hq, ⟨?_, hqn, ⟨hqr.1, hqr.2.1⟩, hqr.2.2.1, hqr.2.2.2⟩, Or.inl (by omega)⟩
            rw [show (([] : List PR).length : Int) = 0 from rfl, f97, ud_at]
            have hb := hM.bit hqr.1 (by omega : q.1 < 32)
            have h01 : bAnd (bShr M q.1) 1 = 0 ∨ bAnd (bShr M q.1) 1 = 1 := by rw [bit_is hqr.1 (by omega)]; split <;> simp
            rcases h01 with z | z
            · exact absurd hqa (hb.mp z)
            · exact z
          have hfin : LookOK ρ m m3 := by
            rcases hX3 with ⟨a, b⟩ | ⟨hp1, ⟨L0, hL0, e5, e6⟩, hle, K, hK, hm', hf, hA⟩
            · refine Or.inl ⟨b, fun L hL1 => Classical.byContradiction fun hn => ?_⟩
              obtain ⟨L', hL', _⟩ := hcv L hL1 (by omega)
              rw [a] at hL'
              cases hL'
            · refine Or.inr ⟨by omega, ⟨⟨L0, (hSd3 L0 hL0).1, e6, e5⟩, by have := (hSd3 L0 hL0).2; omega, fun L hL1 hL2 => ?_⟩, K, ⟨hK, fun k => ?_⟩, hf, hA⟩
              · obtain ⟨L', hL', hc⟩ := hcv L hL1 hL2
                have := hle L' hL'
                rcases hc with z | ⟨z1, z2 | z2⟩
                · omega
                · omega
                · rw [z2] at this; exact this
              · rw [hm' k]
                constructor
                · rintro ⟨L, hL1, a, b, c⟩
                  exact ⟨L, (hSd3 L hL1).1, b, a, c⟩
                · rintro ⟨L, hL1, b, a, c⟩
                  obtain ⟨L', hL', hc⟩ := hcv L hL1 (by have := (hSd3 L0 hL0).2; omega)
                  have := hle L' hL'
                  rcases hc with z | ⟨z1, z2 | z2⟩
                  · omega
                  · omega
                  · rw [z2] at hL'; exact ⟨L, hL', a, b, c⟩
          refine s_iload_n (dc kc_X12_look_1 6 rfl) rfl <| s_if_lt (tgt := 175) (dc kc_X12_look_1 7 rfl) rfl (fun c73 => (s_return (dc kc_X12_look_2 23 rfl) rfl (Nat.zero_le _) (Nat.zero_le _) ?_)) (fun c73 => (?_))
          · exact hQ m3 g3 e3 e333 hfin.Y
          · exfalso; rw [show (([] : List PR).length : Int) - 1 = -1 from rfl] at c73; omega
      · exfalso; omega
  · exact hQ mi Ch.rf hρ c5.symm.symm (hk c5)
end LK5
