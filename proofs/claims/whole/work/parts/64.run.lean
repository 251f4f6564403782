/-! the class: its reader runs code -/
/-- code as pairs, as a text has it -/
def slcC (f : Int → Int) : Nat → Int → List CT
  | 0, _ => []
  | m + 1, k => (bShr (f k) 7, bAnd (f k) 127) :: slcC f m (k + 1)
section RD4
variable {d n G : Nat} {mr : MR} {Q : V → MI → Nat → MR → Prop}
theorem u_run (hL : Lay G mr) {mi : MI} {r g x : Nat} (hr : r < 5) (hx : okI G 20 x) (hcel : mr r 50 0 = some (g, 16)) (hc : VC (clG mi g)) {f l : Int} {t : Nat} {L0 : List Int} (h0 : 0 ≤ f) (hf : f ≤ l) (hl : l ≤ 400) (h60 : l - f ≤ 60) (hty : tyc (slcC (mi x 21) (l - f).toNat f) [] = some [t]) (hB : Bm (mi r 50 3) L0) (hQ : ∀ mi' v, Cg (pQ r) mi mi' → tyV t v → ((evs (clG mi g) (slcC (mi x 21) (l - f).toNat f) [] L0 = none ∧ mi' r 50 4 = 1) ∨ ∃ rd, evs (clG mi g) (slcC (mi x 21) (l - f).toNat f) [] L0 = some ([v], rd) ∧ Bm (mi' r 50 3) rd ∧ mi' r 50 4 = mi r 50 4) → Q (vI v) mi' n mr) : Tx (d+3) mt_X6_run [vR (some (r, 50)), vR (some (x, 20)), vI f, vI l] mi n mr Q := by
  have hok : okI G 50 r := hr
  refine tx_intro (ls := [vR (some (r, 50)), vR (some (x, 20)), vI f, vI l, vX 0, vX 0, vX 0]) om_X6_run rfl (Nat.le_of_ble_eq_true rfl) ?_
  generalize hTT : evs (clG mi g) (slcC (mi x 21) (l - f).toNat f) [] L0 = T at *
  have loop : ∀ (m : Nat) (k : Int) (w : V) (ts : List Nat) (st rd : List Int) (m1 : MI), k + m = l → f ≤ k → tyc (slcC (mi x 21) m k) ts = some [t] → Tys ts st → sab ts st ≤ 99 * (k - f) → (st.length : Int) ≤ k - f → m1 r 50 2 = st.length → Arr (m1 r 52) st.reverse → Cg (pQ r) mi m1 → Bm (m1 r 50 3) rd → ((evs (clG mi g) (slcC (mi x 21) m k) st rd = T ∧ m1 r 50 4 = mi r 50 4) ∨ (T = none ∧ m1 r 50 4 = 1)) → Run (d+3) mt_X6_run Q (n, mr, 0, 0) m1 14 [vR (some (r, 50)), vR (some (x, 20)), vI f, vI l, vR (some (x, 21)), vI k, w] [] := by
    intro m
    induction m with
    | zero =>
      intro k w ts st rd m1 hk hk0 hty hT hsab hlen ht hA hC hB hmode
      cases hty
      obtain ⟨v, vs, e1, hv, hvs⟩ := hT.cons
      subst e1
      cases vs with
      | cons _ _ => cases hvs
      | nil =>
        have fin : Run (d+3) mt_X6_run Q (n, mr, 0, 0) m1 851 [vR (some (r, 50)), vR (some (x, 20)), vI f, vI l, vR (some (x, 21)), vI k, w] [] := by
          refine r_aload_n (dc kc_X6_run_5 26 rfl) rfl <| c_v0r (dc kc_X6_run_5 27 rfl) cl_X6_70 rfl (Nat.le_of_ble_eq_true rfl) (Nat.zero_le _) (Nat.zero_le _) ?_
          refine u_pop hL hr ht (by simp) hA (fun m2 g2 e2 a2 => ?_)
          refine s_ireturn (dc kc_X6_run_5 28 rfl) rfl (Nat.zero_le _) (Nat.zero_le _) ?_
          refine hQ m2 v (hC.tr (g2.mono (fun _ _ _ z => by simp [pQ, pV, pRd] at z ⊢; omega))) hv ?_
          rcases hmode with ⟨h1, h2⟩ | ⟨h1, h2⟩
          · exact Or.inr ⟨rd, h1.symm, by rw [g2.at (by simp)]; exact hB, by rw [g2.at (by simp), h2]⟩
          · exact Or.inl ⟨h1, by rw [g2.at (by simp), h2]⟩
        refine s_iload (dc kc_X6_run_0 8 rfl) rfl <| s_iload_n (dc kc_X6_run_0 9 rfl) rfl <| s_icmp_ge (tgt := 851) (dc kc_X6_run_0 10 rfl) rfl (fun c17 => (?_)) (fun c17 => (s_iload (dc kc_X6_run_0 11 rfl) rfl <| r_aload (dc kc_X6_run_0 12 rfl) rfl <| s_alen (dc kc_X6_run_0 13 rfl) rfl (by decide) <| s_icmp_ge (tgt := 851) (dc kc_X6_run_0 14 rfl) rfl (fun c25 => (?_)) (fun c25 => (?_))))
        · exact fin
        · exact fin
        · exfalso; omega
    | succ m ih =>
      intro k w ts st rd m1 hk hk0 hty hT hsab hlen ht hA hC hB hmode
      have e21 : m1 x 21 = mi x 21 := hC.row (fun k => by simp [pQ])
      have ecl : clG m1 g = clG mi g := by unfold clG; rw [hC.row (fun k => by simp [pQ])]
      rw [slcC] at hty hmode
      obtain ⟨t1, hty1, hty2⟩ := tyc_c hty
      refine s_iload (dc kc_X6_run_0 8 rfl) rfl <| s_iload_n (dc kc_X6_run_0 9 rfl) rfl <| s_icmp_ge (tgt := 851) (dc kc_X6_run_0 10 rfl) rfl (fun c17 => (?_)) (fun c17 => (s_iload (dc kc_X6_run_0 11 rfl) rfl <| r_aload (dc kc_X6_run_0 12 rfl) rfl <| s_alen (dc kc_X6_run_0 13 rfl) rfl (by decide) <| s_icmp_ge (tgt := 851) (dc kc_X6_run_0 14 rfl) rfl (fun c25 => (?_)) (fun c25 => (r_aload (dc kc_X6_run_0 15 rfl) rfl <| s_iload (dc kc_X6_run_0 16 rfl) rfl <| s_iaload (dc kc_X6_run_0 17 rfl) rfl (by first | omega | (simp [up] <;> omega)) (by first | omega | (simp [up] <;> omega)) <| k_b (dc kc_X6_run_0 18 rfl) rfl <| s_iand (dc kc_X6_run_0 19 rfl) <| t_i6 (dc kc_X6_run_0 20 rfl) (Nat.le_of_ble_eq_true rfl) rfl <| r_aload (dc kc_X6_run_0 21 rfl) rfl <| s_iload (dc kc_X6_run_0 22 rfl) rfl <| s_iaload (dc kc_X6_run_0 23 rfl) rfl (by first | omega | (simp [up] <;> omega)) (by first | omega | (simp [up] <;> omega)) <| k_b (dc kc_X6_run_0 24 rfl) rfl <| s_ishr (dc kc_X6_run_0 25 rfl) <| ?_))))
      · exfalso; omega
      · exfalso; omega
      · rw [e21]
        refine u_apply hL hr hcel (by rw [ecl]; exact hc) hty1 hT ht (by omega) hA hB (by omega) (fun m2 st' rd' g2 e2 a2 b2 t2 s2 l2 hm => ?_)
        rw [ecl] at hm
        refine b_inc5 (dc kc_X6_run_5 24 rfl) rfl (Nat.le_of_ble_eq_true rfl) rfl (by first | omega | (simp [up] <;> omega)) (by first | omega | (simp [up] <;> omega)) <| s_goto (tgt := 14) (dc kc_X6_run_5 25 rfl) rfl <| ?_
        refine ih (k + 1) _ t1 st' rd' m2 (by omega) (by omega) hty2 t2 (by omega) (by omega) e2 a2 (hC.tr g2) b2 ?_
        rcases hmode with ⟨h1, h2⟩ | ⟨h1, h2⟩
        · rcases hm with ⟨z1, z2⟩ | ⟨z1, z2⟩
          · exact Or.inl ⟨by rw [← h1, evs_c z1], by rw [z2, h2]⟩
          · exact Or.inr ⟨by rw [← h1, evs_n z1], z2⟩
        · rcases hm with ⟨z1, z2⟩ | ⟨z1, z2⟩
          · exact Or.inr ⟨h1, by rw [z2, h2]⟩
          · exact Or.inr ⟨h1, z2⟩
  refine r_aload_n (dc kc_X6_run_0 0 rfl) rfl <| k_i (dc kc_X6_run_0 1 rfl) rfl <| s_putI (dc kc_X6_run_0 2 rfl) fl_X6_18 <| r_aload_n (dc kc_X6_run_0 3 rfl) rfl <| s_getA (dc kc_X6_run_0 4 rfl) fl_X6_60 (ly_20_2 hL (by assumption)) <| t_r4 (dc kc_X6_run_0 5 rfl) (Nat.le_of_ble_eq_true rfl) rfl <| s_iload_n (dc kc_X6_run_0 6 rfl) rfl <| t_i5 (dc kc_X6_run_0 7 rfl) (Nat.le_of_ble_eq_true rfl) rfl <| ?_
  refine loop (l - f).toNat f _ [] [] L0 _ (by omega) (by omega) hty trivial (by show (0 : Int) ≤ _; omega) (by simp) (by rw [up_at]; rfl) Arr.nil (Cg.rf.up (by simp [pQ])) (by rw [up_k (by decide)]; exact hB) (Or.inl ⟨hTT, by rw [up_k (by decide)]⟩)
/-- a law's code in a text -/
def LwT (mi : MI) (x : Nat) (l : Int) (k : List CT) : Prop := 0 ≤ mi x 22 l ∧ mi x 22 l ≤ mi x 25 l ∧ mi x 25 l ≤ 400 ∧ slcC (mi x 21) (mi x 25 l - mi x 22 l).toNat (mi x 22 l) = k ∧ Law k
theorem slcC_len {f : Int → Int} : ∀ (m : Nat) (k : Int), (slcC f m k).length = m
  | 0, _ => rfl
  | m + 1, k => by rw [slcC, List.length_cons, slcC_len]
/-- a law is run -/
theorem u_runL (hL : Lay G mr) {mi : MI} {r g x : Nat} (hr : r < 5) (hx : okI G 20 x) (hcel : mr r 50 0 = some (g, 16)) (hc : VC (clG mi g)) {l : Int} {k : List CT} {L0 : List Int} (hk : LwT mi x l k) (hB : Bm (mi r 50 3) L0) (hQ : ∀ mi', Cg (pQ r) mi mi' → Bm (mi' r 50 3) (askA (clG mi g) k ++ L0) → mi' r 50 4 = mi r 50 4 → Q (vI (valA (clG mi g) k)) mi' n mr) : Tx (d+3) mt_X6_run [vR (some (r, 50)), vR (some (x, 20)), vI (mi x 22 l), vI (mi x 25 l)] mi n mr Q := by
  obtain ⟨h0, h1, h2, h3, h4⟩ := hk
  have hlen := slcC_len (f := mi x 21) (mi x 25 l - mi x 22 l).toNat (mi x 22 l)
  rw [h3] at hlen
  have h60 := h4.2.1
  refine u_run (t := 2) hL hr hx hcel hc h0 h1 h2 (by omega) (by rw [h3]; exact h4.1) hB (fun m1 v g1 _ hm => ?_)
  rw [h3, (law_ev hc h4).1 L0] at hm
  rcases hm with ⟨z, _⟩ | ⟨rd, z1, z2, z3⟩
  · cases z
  · injection z1 with z1
    injection z1 with z1 z4
    injection z1 with z1
    rw [← z1]
    exact hQ m1 g1 (by rw [z4]; exact z2) z3
theorem u_allHold (hL : Lay G mr) {mi : MI} {r g x : Nat} (hr : r < 5) (hx : okI G 20 x) (hcel : mr r 50 0 = some (g, 16)) (hc : VC (clG mi g)) {K : Int → List CT} (h12 : mi x 20 0 ≤ 12) (hK : ∀ l, 0 ≤ l → l < mi x 20 0 → LwT mi x l (K l)) {L0 : List Int} (hB : Bm (mi r 50 3) L0) (hQ1 : (∀ l, 0 ≤ l → l < mi x 20 0 → valA (clG mi g) (K l) = 1) → ∀ mi', Cg (pQ r) mi mi' → Q (vI 1) mi' n mr) (hQ0 : (∃ l, 0 ≤ l ∧ l < mi x 20 0 ∧ valA (clG mi g) (K l) = 0) → ∀ mi', Cg (pQ r) mi mi' → Q (vI 0) mi' n mr) : Tx (d+4) mt_X6_allHold [vR (some (r, 50)), vR (some (x, 20))] mi n mr Q := by
  refine tx_intro (ls := [vR (some (r, 50)), vR (some (x, 20)), vX 0]) om_X6_allHold rfl (Nat.le_of_ble_eq_true rfl) ?_
  have loop : ∀ i : Nat, i ≤ (mi x 20 0).toNat → ∀ (m : MI) (L : List Int), Cg (pQ r) mi m → Bm (m r 50 3) L → (∀ l, 0 ≤ l → l < (i : Int) → valA (clG mi g) (K l) = 1) → Run (d+4) mt_X6_allHold Q (n, mr, 0, 0) m 2 [vR (some (r, 50)), vR (some (x, 20)), vI (i : Int)] [] := by
    refine nloop ?_
    intro i hi ih m L hC hB hh
    have e20 : m x 20 = mi x 20 := hC.row (fun k => by simp [pQ])
    have e21 : m x 21 = mi x 21 := hC.row (fun k => by simp [pQ])
    have e22 : m x 22 = mi x 22 := hC.row (fun k => by simp [pQ])
    have e25 : m x 25 = mi x 25 := hC.row (fun k => by simp [pQ])
    have e0 : m x 20 0 = mi x 20 0 := by rw [e20]
    have ecl : clG m g = clG mi g := by unfold clG; rw [hC.row (fun k => by simp [pQ])]
    by_cases he : (i : Int) < mi x 20 0
    · have hk := hK i (by omega) he
      have h01 := (law_ev hc hk.2.2.2.2).2.1
      refine s_iload_n (dc kc_X6_allHold 2 rfl) rfl <| r_aload_n (dc kc_X6_allHold 3 rfl) rfl <| s_getI (dc kc_X6_allHold 4 rfl) fl_X6_41 <| s_icmp_ge (tgt := 38) (dc kc_X6_allHold 5 rfl) rfl (fun c7 => (?_)) (fun c7 => (r_aload_n (dc kc_X6_allHold 6 rfl) rfl <| r_aload_n (dc kc_X6_allHold 7 rfl) rfl <| r_aload_n (dc kc_X6_allHold 8 rfl) rfl <| s_getA (dc kc_X6_allHold 9 rfl) fl_X6_46 (ly_20_3 hL (by assumption)) <| s_iload_n (dc kc_X6_allHold 10 rfl) rfl <| s_iaload (dc kc_X6_allHold 11 rfl) rfl (by first | omega | (simp [up] <;> omega)) (by first | omega | (simp [up] <;> omega)) <| r_aload_n (dc kc_X6_allHold 12 rfl) rfl <| s_getA (dc kc_X6_allHold 13 rfl) fl_X6_49 (ly_20_6 hL (by assumption)) <| s_iload_n (dc kc_X6_allHold 14 rfl) rfl <| s_iaload (dc kc_X6_allHold 15 rfl) rfl (by first | omega | (simp [up] <;> omega)) (by first | omega | (simp [up] <;> omega)) <| c_v3r (dc kc_X6_allHold 16 rfl) cl_X6_52 rfl (Nat.le_of_ble_eq_true rfl) (Nat.zero_le _) (Nat.zero_le _) ?_))
      · exfalso; omega
      · refine u_runL hL hr hx hcel (by rw [ecl]; exact hc) (k := K i) (by unfold LwT; rw [e21, e22, e25]; exact hk) hB (fun m1 g1 b1 _ => ?_)
        rw [ecl] at b1 ⊢
        refine s_if_ne (tgt := 32) (dc kc_X6_allHold 17 rfl) rfl (fun c27 => (b_inc2 (dc kc_X6_allHold 20 rfl) rfl (Nat.le_of_ble_eq_true rfl) rfl (by first | omega | (simp [up] <;> omega)) (by first | omega | (simp [up] <;> omega)) <| s_goto (tgt := 2) (dc kc_X6_allHold 21 rfl) rfl <| ?_)) (fun c27 => (k_i (dc kc_X6_allHold 18 rfl) rfl <| s_zreturn (dc kc_X6_allHold 19 rfl) rfl (by first | exact Or.inl rfl | exact Or.inr rfl | exact bi_01 | assumption) (Nat.zero_le _) (Nat.zero_le _) ?_))
        · refine ih (by omega) m1 _ (hC.tr g1) b1 (fun l a b => ?_)
          by_cases e : l = i
          · rw [e]; omega
          · exact hh l a (by omega)
        · exact hQ0 ⟨i, by omega, he, c27⟩ m1 (hC.tr g1)
    · refine s_iload_n (dc kc_X6_allHold 2 rfl) rfl <| r_aload_n (dc kc_X6_allHold 3 rfl) rfl <| s_getI (dc kc_X6_allHold 4 rfl) fl_X6_41 <| s_icmp_ge (tgt := 38) (dc kc_X6_allHold 5 rfl) rfl (fun c7 => (k_i (dc kc_X6_allHold 22 rfl) rfl <| s_zreturn (dc kc_X6_allHold 23 rfl) rfl (by first | exact Or.inl rfl | exact Or.inr rfl | exact bi_01 | assumption) (Nat.zero_le _) (Nat.zero_le _) ?_)) (fun c7 => (?_))
      · exact hQ1 (fun l a b => hh l a (by omega)) m hC
      · exfalso; omega
  refine k_i (dc kc_X6_allHold 0 rfl) rfl <| t_i2 (dc kc_X6_allHold 1 rfl) (Nat.le_of_ble_eq_true rfl) rfl <| ?_
  exact loop 0 (Nat.zero_le _) mi L0 Cg.rf hB (fun l a b => by omega)
/-- the broken laws as bits -/
def brkF (H : Int → Int) : Nat → Int
  | 0 => 0
  | l + 1 => if H l = 0 then bOr (brkF H l) (bShl 1 l) else brkF H l
theorem brkF_tB {H : Int → Int} : ∀ (N : Nat), N ≤ 31 → ∀ i : Nat, i < 32 → (tB (brkF H N) i = true ↔ i < N ∧ H i = 0)
  | 0, _, i, _ => by
    rw [brkF, tB_0]
    exact ⟨fun h => (by cases h), fun h => absurd h.1 (by omega)⟩
  | N + 1, h, i, hi => by
    have ih := brkF_tB (H := H) N (by omega) i hi
    rw [brkF]
    by_cases e : H N = 0
    · rw [if_pos e, tB_or, tB_bit (by omega) (by omega) hi, Bool.or_eq_true, ih, decide_eq_true_eq, Int.toNat_natCast]
      constructor
      · rintro (h | h)
        · exact ⟨by omega, h.2⟩
        · rw [h]; exact ⟨by omega, e⟩
      · rintro ⟨h1, h2⟩
        by_cases e2 : i = N
        · exact Or.inr e2
        · exact Or.inl ⟨by omega, h2⟩
    · rw [if_neg e, ih]
      constructor
      · rintro ⟨h1, h2⟩; exact ⟨by omega, h2⟩
      · rintro ⟨h1, h2⟩
        by_cases e2 : i = N
        · rw [e2] at h2; exact absurd h2 e
        · exact ⟨by omega, h2⟩
/-- a bit of the broken laws -/
theorem brkF_bit {H : Int → Int} {N : Nat} (hN : N ≤ 31) {l : Int} (h0 : 0 ≤ l) (h1 : l < 32) : bAnd (bShr (brkF H N) l) 1 = 0 ↔ ¬ (l < N ∧ H l = 0) := by
  rw [bit0 h0 h1]
  have := brkF_tB (H := H) N hN l.toNat (by omega)
  rw [Int.toNat_of_nonneg h0] at this
  constructor
  · intro h z
    rw [this.mpr ⟨by omega, z.2⟩] at h
    cases h
  · intro h
    cases hb : tB (brkF H N) l.toNat with
    | false => rfl
    | true => exact absurd ⟨by have := (this.mp hb).1; omega, (this.mp hb).2⟩ h
theorem u_brokenLaws (hL : Lay G mr) {mi : MI} {r g x : Nat} (hr : r < 5) (hx : okI G 20 x) (hcel : mr r 50 0 = some (g, 16)) (hc : VC (clG mi g)) {K : Int → List CT} (h00 : 0 ≤ mi x 20 0) (h12 : mi x 20 0 ≤ 12) (hK : ∀ l, 0 ≤ l → l < mi x 20 0 → LwT mi x l (K l)) {L0 : List Int} (hB : Bm (mi r 50 3) L0) (hQ : ∀ mi', Cg (pQ r) mi mi' → Q (vI (brkF (fun l => valA (clG mi g) (K l)) (mi x 20 0).toNat)) mi' n mr) : Tx (d+4) mt_X6_brokenLaws [vR (some (r, 50)), vR (some (x, 20))] mi n mr Q := by
  refine tx_intro (ls := [vR (some (r, 50)), vR (some (x, 20)), vX 0, vX 0]) om_X6_brokenLaws rfl (Nat.le_of_ble_eq_true rfl) ?_
  have loop : ∀ i : Nat, i ≤ (mi x 20 0).toNat → ∀ (m : MI) (L : List Int), Cg (pQ r) mi m → Bm (m r 50 3) L → Run (d+4) mt_X6_brokenLaws Q (n, mr, 0, 0) m 4 [vR (some (r, 50)), vR (some (x, 20)), vI (brkF (fun l => valA (clG mi g) (K l)) i), vI (i : Int)] [] := by
    refine nloop ?_
    intro i hi ih m L hC hB
    have e20 : m x 20 = mi x 20 := hC.row (fun k => by simp [pQ])
    have e21 : m x 21 = mi x 21 := hC.row (fun k => by simp [pQ])
    have e22 : m x 22 = mi x 22 := hC.row (fun k => by simp [pQ])
    have e25 : m x 25 = mi x 25 := hC.row (fun k => by simp [pQ])
    have e0 : m x 20 0 = mi x 20 0 := by rw [e20]
    have ecl : clG m g = clG mi g := by unfold clG; rw [hC.row (fun k => by simp [pQ])]
    by_cases he : (i : Int) < mi x 20 0
    · have hk := hK i (by omega) he
      refine s_iload_n (dc kc_X6_brokenLaws 4 rfl) rfl <| r_aload_n (dc kc_X6_brokenLaws 5 rfl) rfl <| s_getI (dc kc_X6_brokenLaws 6 rfl) fl_X6_41 <| s_icmp_ge (tgt := 44) (dc kc_X6_brokenLaws 7 rfl) rfl (fun c9 => (?_)) (fun c9 => (r_aload_n (dc kc_X6_brokenLaws 8 rfl) rfl <| r_aload_n (dc kc_X6_brokenLaws 9 rfl) rfl <| r_aload_n (dc kc_X6_brokenLaws 10 rfl) rfl <| s_getA (dc kc_X6_brokenLaws 11 rfl) fl_X6_46 (ly_20_3 hL (by assumption)) <| s_iload_n (dc kc_X6_brokenLaws 12 rfl) rfl <| s_iaload (dc kc_X6_brokenLaws 13 rfl) rfl (by first | omega | (simp [up] <;> omega)) (by first | omega | (simp [up] <;> omega)) <| r_aload_n (dc kc_X6_brokenLaws 14 rfl) rfl <| s_getA (dc kc_X6_brokenLaws 15 rfl) fl_X6_49 (ly_20_6 hL (by assumption)) <| s_iload_n (dc kc_X6_brokenLaws 16 rfl) rfl <| s_iaload (dc kc_X6_brokenLaws 17 rfl) rfl (by first | omega | (simp [up] <;> omega)) (by first | omega | (simp [up] <;> omega)) <| c_v3r (dc kc_X6_brokenLaws 18 rfl) cl_X6_52 rfl (Nat.le_of_ble_eq_true rfl) (Nat.zero_le _) (Nat.zero_le _) ?_))
      · exfalso; omega
      · refine u_runL hL hr hx hcel (by rw [ecl]; exact hc) (k := K i) (by unfold LwT; rw [e21, e22, e25]; exact hk) hB (fun m1 g1 b1 _ => ?_)
        rw [ecl] at b1 ⊢
        have ih := ih (by omega) m1 _ (hC.tr g1) b1
        refine s_if_ne (tgt := 38) (dc kc_X6_brokenLaws 19 rfl) rfl (fun c29 => (b_inc3 (dc kc_X6_brokenLaws 26 rfl) rfl (Nat.le_of_ble_eq_true rfl) rfl (by first | omega | (simp [up] <;> omega)) (by first | omega | (simp [up] <;> omega)) <| s_goto (tgt := 4) (dc kc_X6_brokenLaws 27 rfl) rfl <| ?_)) (fun c29 => (s_iload_n (dc kc_X6_brokenLaws 20 rfl) rfl <| k_i (dc kc_X6_brokenLaws 21 rfl) rfl <| s_iload_n (dc kc_X6_brokenLaws 22 rfl) rfl <| s_ishl (dc kc_X6_brokenLaws 23 rfl) <| s_ior (dc kc_X6_brokenLaws 24 rfl) <| t_i2 (dc kc_X6_brokenLaws 25 rfl) (Nat.le_of_ble_eq_true rfl) rfl <| b_inc3 (dc kc_X6_brokenLaws 26 rfl) rfl (Nat.le_of_ble_eq_true rfl) rfl (by first | omega | (simp [up] <;> omega)) (by first | omega | (simp [up] <;> omega)) <| s_goto (tgt := 4) (dc kc_X6_brokenLaws 27 rfl) rfl <| ?_))
        · rw [brkF, if_neg c29] at ih; exact ih
        · rw [brkF, if_pos c29] at ih; exact ih
    · refine s_iload_n (dc kc_X6_brokenLaws 4 rfl) rfl <| r_aload_n (dc kc_X6_brokenLaws 5 rfl) rfl <| s_getI (dc kc_X6_brokenLaws 6 rfl) fl_X6_41 <| s_icmp_ge (tgt := 44) (dc kc_X6_brokenLaws 7 rfl) rfl (fun c9 => (s_iload_n (dc kc_X6_brokenLaws 28 rfl) rfl <| s_ireturn (dc kc_X6_brokenLaws 29 rfl) rfl (Nat.zero_le _) (Nat.zero_le _) ?_)) (fun c9 => (?_))
      · rw [show i = (mi x 20 0).toNat by omega]; exact hQ m hC
      · exfalso; omega
  refine k_i (dc kc_X6_brokenLaws 0 rfl) rfl <| t_i2 (dc kc_X6_brokenLaws 1 rfl) (Nat.le_of_ble_eq_true rfl) rfl <| k_i (dc kc_X6_brokenLaws 2 rfl) rfl <| t_i3 (dc kc_X6_brokenLaws 3 rfl) (Nat.le_of_ble_eq_true rfl) rfl <| ?_
  exact loop 0 (Nat.zero_le _) mi L0 Cg.rf hB
theorem u_nodeOnWay (hL : Lay G mr) {mi : MI} {r g : Nat} (hr : r < 5) (hcel : mr r 50 0 = some (g, 16)) (hc : VC (clG mi g)) {h i : Int} (h0 : 0 ≤ h) (h3 : h < 3) {L0 : List Int} (hB : Bm (mi r 50 3) L0) (hQ : ∀ mi', Cg (pQ r) mi mi' → Q (vI (if 0 ≤ i ∧ i < (way (clG mi g) h).length then (way (clG mi g) h).getD i.toNat 0 else -1)) mi' n mr) : Tx (d+2) mt_X6_nodeOnWay [vR (some (r, 50)), vI h, vI i] mi n mr Q := by
  have hok : okI G 50 r := hr
  refine tx_intro (ls := [vR (some (r, 50)), vI h, vI i]) om_X6_nodeOnWay rfl (Nat.le_of_ble_eq_true rfl) ?_
  have hl := way_len (clG mi g) h
  refine r_aload_n (dc kc_X6_nodeOnWay 0 rfl) rfl <| s_iload_n (dc kc_X6_nodeOnWay 1 rfl) rfl <| c_v1 (dc kc_X6_nodeOnWay 2 rfl) cl_X6_56 rfl (Nat.le_of_ble_eq_true rfl) (Nat.zero_le _) (Nat.zero_le _) ?_
  refine u_follow hL hr hcel hc h0 h3 hB (fun m1 g1 e6 e7 e8 hA _ => ?_)
  have hq := hQ m1 (g1.mono (fun _ _ _ z => by simp [pQ, pV, pRd] at z ⊢; omega))
  refine s_iload_n (dc kc_X6_nodeOnWay 3 rfl) rfl <| s_if_lt (tgt := 26) (dc kc_X6_nodeOnWay 4 rfl) rfl (fun c6 => (k_i (dc kc_X6_nodeOnWay 14 rfl) rfl <| s_ireturn (dc kc_X6_nodeOnWay 15 rfl) rfl (Nat.zero_le _) (Nat.zero_le _) ?_)) (fun c6 => (s_iload_n (dc kc_X6_nodeOnWay 5 rfl) rfl <| r_aload_n (dc kc_X6_nodeOnWay 6 rfl) rfl <| s_getI (dc kc_X6_nodeOnWay 7 rfl) fl_X6_32 <| s_icmp_ge (tgt := 26) (dc kc_X6_nodeOnWay 8 rfl) rfl (fun c14 => (k_i (dc kc_X6_nodeOnWay 14 rfl) rfl <| s_ireturn (dc kc_X6_nodeOnWay 15 rfl) rfl (Nat.zero_le _) (Nat.zero_le _) ?_)) (fun c14 => (r_aload_n (dc kc_X6_nodeOnWay 9 rfl) rfl <| s_getA (dc kc_X6_nodeOnWay 10 rfl) fl_X6_29 (ly_50_5 hL (by assumption)) <| s_iload_n (dc kc_X6_nodeOnWay 11 rfl) rfl <| s_iaload (dc kc_X6_nodeOnWay 12 rfl) rfl (by first | omega | (simp [up] <;> omega)) (by first | omega | (simp [up] <;> omega)) <| s_goto (tgt := 27) (dc kc_X6_nodeOnWay 13 rfl) rfl <| s_ireturn (dc kc_X6_nodeOnWay 15 rfl) rfl (Nat.zero_le _) (Nat.zero_le _) ?_))))
  · rw [if_neg (by omega)] at hq; exact hq
  · rw [if_neg (by omega)] at hq; exact hq
  · rw [if_pos (by omega)] at hq
    have := hA i.toNat (by omega)
    rw [Int.toNat_of_nonneg (by omega)] at this
    rw [List.getD_eq_getElem?_getD, this] at hq
    exact hq
end RD4
