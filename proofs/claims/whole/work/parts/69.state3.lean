/-! the class: what comes of a line; lots -/
theorem evs_ag' {c c' : Int → Int} (hc : VC c) (h : ag c c') {k : List CT} {ts ts' : List Nat} {st rd : List Int} (hty : tyc k ts = some ts') (hs : Tys ts st) (hrd : ∀ x ∈ rd, 0 ≤ x ∧ x < 24) : evs c' k st rd = evs c k st rd := evs_ag hc h hty hs hrd
/-- the cells matter only where they are -/
theorem lnA_ag {c c' : Int → Int} (hc : VC c) (h : ag c c') {t : Int} {p v w : List CT} (hl : Lin t p v w) : lnA c' t p v w = lnA c t p v w := by
  have nil24 : ∀ x ∈ ([] : List Int), 0 ≤ x ∧ x < 24 := fun x hx => by cases hx
  have rdr : ∀ {k : List CT} {ts' : List Nat} {rd st' rd' : List Int}, tyc k [] = some ts' → (∀ x ∈ rd, 0 ≤ x ∧ x < 24) → evs c k [] rd = some (st', rd') → ∀ x ∈ rd', 0 ≤ x ∧ x < 24 := by
    intro k ts' rd st' rd' hty hrd he
    rcases evs_ty hc k (st := []) (ts := []) rd hty trivial with q | ⟨s1, r1, q1, q2, q3⟩
    · rw [he] at q; cases q
    · rw [he] at q1
      injection q1 with q1
      injection q1 with _ q1
      rw [q1]
      intro a ha
      rcases List.mem_append.mp ha with b | b
      · exact q3 a b
      · exact hrd a b
  have k2 : ∀ nd rd, (∀ x ∈ rd, 0 ≤ x ∧ x < 24) → fin2 c' t v nd rd = fin2 c t v nd rd := by
    intro nd rd hrd
    unfold fin2
    rcases hl.2.1 with z | z
    · rw [evs_ag hc h z (st := []) trivial hrd]
    · rw [evs_ag hc h z (st := []) trivial hrd]
  have k1 : ∀ rd, (∀ x ∈ rd, 0 ≤ x ∧ x < 24) → fin1 c' t p v rd = fin1 c t p v rd := by
    intro rd hrd
    unfold fin1
    by_cases e : 6 ≤ t ∧ t ≤ 8
    · rw [if_pos e, if_pos e, evs_ag hc h (hl.1 e.1 e.2) (st := []) trivial hrd]
      cases he : evs c p [] rd with
      | none => rfl
      | some s =>
        obtain ⟨s1, r1⟩ := s
        cases s1 with
        | nil => rfl
        | cons x s1 => exact k2 x r1 (rdr (hl.1 e.1 e.2) hrd he)
    · rw [if_neg e, if_neg e]; exact k2 0 rd hrd
  unfold lnA
  by_cases e : w = []
  · rw [if_pos e, if_pos e]; exact k1 [] nil24
  · have hty : tyc w [] = some [2] := hl.2.2.1.elim (fun z => absurd z e) id
    rw [if_neg e, if_neg e, evs_ag hc h hty (st := []) trivial nil24]
    cases he : evs c w [] [] with
    | none => rfl
    | some s =>
      obtain ⟨s1, r1⟩ := s
      cases s1 with
      | nil => rfl
      | cons x s1 =>
        show (if x = 0 then oc0 else fin1 c' t p v r1) = (if x = 0 then oc0 else fin1 c t p v r1)
        rw [k1 r1 (rdr hty nil24 he)]
section ST3
variable {d n G : Nat} {mr : MR} {Q : V → MI → Nat → MR → Prop}
theorem u_writeJ (hL : Lay G mr) {mi : MI} {g : Nat} {ρ : Int → Int} (hg : g < G) {s l c v m r : Int} (rW : RepW mi g ρ) (rJ : RepJ mi g ρ) (hI : InvW ρ) (h8 : 0 ≤ ρ 8 ∧ ρ 8 ≤ 200) (hc0 : 0 ≤ c) (hc1 : c < 24) (hm : m = 0 ∨ m = 1) (hQ : ∀ mi', Cg (pSt g) mi mi' → RepW mi' g (wrR ρ s l c v m r) → RepJ mi' g (wrR ρ s l c v m r) → Q (vX 0) mi' n mr) : Tx (d+3) mt_X7_write [vR (some (g, 5)), vI s, vI l, vI c, vI v, vI m, vI r] mi n mr Q := by
  have hok : okI G 5 g := hg
  have hok2 : okI G 15 g := Or.inl hg
  refine tx_intro (ls := [vR (some (g, 5)), vI s, vI l, vI c, vI v, vI m, vI r]) om_X7_write rfl (Nat.le_of_ble_eq_true rfl) ?_
  refine s_iload_n (dc kc_X7_write 0 rfl) rfl <| c_s1r (dc kc_X7_write 1 rfl) cl_X7_91 rfl (Nat.le_of_ble_eq_true rfl) (Nat.zero_le _) (Nat.zero_le _) <| u_isCell <| s_if_neb (tgt := 8) (dc kc_X7_write 2 rfl) rfl (fun c4 => (r_aload_n (dc kc_X7_write 4 rfl) rfl <| s_getO (dc kc_X7_write 5 rfl) fl_X7_31 (ly_5_3 hL (by assumption)) <| s_iload_n (dc kc_X7_write 6 rfl) rfl <| s_iload_n (dc kc_X7_write 7 rfl) rfl <| s_iload_n (dc kc_X7_write 8 rfl) rfl <| r_aload_n (dc kc_X7_write 9 rfl) rfl <| s_getO (dc kc_X7_write 10 rfl) fl_X7_12 (ly_5_0 hL (by assumption)) <| s_iload (dc kc_X7_write 11 rfl) rfl <| c_v5 (dc kc_X7_write 12 rfl) cl_X7_95 rfl (Nat.le_of_ble_eq_true rfl) (Nat.zero_le _) (Nat.zero_le _) ?_)) (fun c4 => (s_return (dc kc_X7_write 3 rfl) rfl (Nat.zero_le _) (Nat.zero_le _) ?_))
  · refine u_add hL hg (v := v) rJ rW hI h8 hc0 hc1 (fun m1 g1 j1 => ?_)
    have k16 : m1 g 16 = mi g 16 := g1.row (fun k => by simp [pJ])
    have k15 : m1 g 15 1 = mi g 15 1 := g1.at (by simp [pJ])
    refine r_aload_n (dc kc_X7_write 13 rfl) rfl <| s_getO (dc kc_X7_write 14 rfl) fl_X7_12 (ly_5_0 hL (by assumption)) <| s_getA (dc kc_X7_write 15 rfl) fl_X7_99 (ly_15_0 hL (by assumption)) <| s_iload_n (dc kc_X7_write 16 rfl) rfl <| s_iload (dc kc_X7_write 17 rfl) rfl <| s_iastore (dc kc_X7_write 18 rfl) rfl (by first | omega | (simp [up] <;> omega)) (by first | omega | (simp [up] <;> omega)) <| r_aload_n (dc kc_X7_write 19 rfl) rfl <| s_getO (dc kc_X7_write 20 rfl) fl_X7_12 (ly_5_0 hL (by assumption)) <| s_iload_n (dc kc_X7_write 21 rfl) rfl <| s_iload (dc kc_X7_write 22 rfl) rfl <| c_v2 (dc kc_X7_write 23 rfl) cl_X7_102 rfl (Nat.le_of_ble_eq_true rfl) (Nat.zero_le _) (Nat.zero_le _) <| u_mark (by first | omega | (simp [up] <;> omega)) (by first | omega | (simp [up] <;> omega)) (by first | omega | assumption | (simp [up] <;> omega)) <| s_return (dc kc_X7_write 24 rfl) rfl (Nat.zero_le _) (Nat.zero_le _) ?_
    have e15 : up m1 g 16 c v g 15 1 = ρ 19 := by rw [up_j (by decide), k15, rW.2]
    rw [e15]
    have gg : Cg (pSt g) mi m1 := g1.mono (fun _ _ _ z => by simp [pSt, z])
    refine hQ _ ((gg.up (by simp [pSt])).up (by simp [pSt])) ⟨fun i a b => ?_, ?_⟩ ?_
    · rw [up_j (by decide), up_ud, k16]
      unfold wrR
      rw [mkR_off (by omega)]
      by_cases ei : i = c
      · rw [ei, ud_at, ud_at]
      · rw [ud_ne ei, ud_ne (by omega), kw_off h8.1 h8.2 (by omega)]
        exact rW.1 i a b
    · rw [up_at]
      unfold wrR mkR
      rw [ud_at, ud_ne (by omega), kw_19 h8.1 h8.2]
    · have k8 := kw_8 (s := s) (l := l) (c := c) (v := v) (r := r) h8.1 h8.2
      refine (j1.row k8.2 (fun k hk => ?_)).mv (fun b z1 z2 => by rw [up_j (by omega), up_j (by omega)])
      unfold wrR
      rw [mkR_off (by omega), ud_ne (by omega)]
  · exfalso; exact c4 ⟨hc0, hc1⟩
def pTo (g a b : Nat) (k : Int) : Bool := pSt g a b k || (a == g && (b == 6 || b == 7 || b == 37 || b == 38))
theorem u_takeOutcome (hL : Lay G mr) {B : Int} {mi : MI} {g : Nat} {ρ : Int → Int} (hg : g < G) (hR : Rep (-1) mi g ρ) (hI : Inv B ρ) (h17 : 0 < ρ 17) (hW : Wk (lnO ρ (ρ 7)) (ρ 19) mi 0) (hQ : ∀ mi', Cg (pTo g) mi mi' → Rep 7 mi' g (stp4 ρ) → Q (vX 0) mi' n mr) : Tx (d+4) mt_X7_takeOutcome [vR (some (g, 5)), vI (ρ 0), vI (ρ 7), vR (some (0, 55))] mi n mr Q := by
  have hok : okI G 5 g := hg
  obtain ⟨rW, rL, rN, rJ, rS, rH, rC⟩ := id hR
  obtain ⟨hI0, hIW, hIC, hB⟩ := id hI
  have h00 := hI0.2.1
  have h8 := hI0.2.2.2.1
  have hw := hI0.2.2.2.2.2.2.2.2.2 _ hI0.2.2.1.1 (hI0.2.2.1.2 h17)
  have hV := hI0.1
  have hrg : 0 ≤ (lnO ρ (ρ 7)).1 ∧ (lnO ρ (ρ 7)).1 ≤ 3 := lnA_rg (c := clR ρ) (t := tgtOf ρ (ρ 7)) (p := lnP ρ (ρ 7)) (v := lnV ρ (ρ 7)) (w := lnT ρ (ρ 7))
  obtain ⟨c1, c2, c3, c4, c5, c6, c7, c8, c9⟩ := id rC
  have hrc : ∀ x, (lnO ρ (ρ 7)).1 = x → rcS ρ = (if x = 0 then 1 else if x = 1 then 2 else if x = 2 then 3 else 4) := fun x hx => by unfold rcS rcO; rw [hx]
  have s1n : (lnO ρ (ρ 7)).1 ≠ 2 → stp1 ρ = ρ := fun z => by unfold stp1 lnR; rw [if_neg z]
  have hw1 : w32 (ρ 1 + 0) = ρ 1 := by have := hIC.1 1 (by omega) (by omega); rw [Int.add_zero]; exact w32_id this.1 this.2
  have hw2 : w32 (ρ 2 + 0) = ρ 2 := by have := hIC.1 2 (by omega) (by omega); rw [Int.add_zero]; exact w32_id this.1 this.2
  have hw3 : w32 (ρ 3 + 0) = ρ 3 := by have := hIC.1 3 (by omega) (by omega); rw [Int.add_zero]; exact w32_id this.1 this.2
  have hw4 : w32 (ρ 4 + 0) = ρ 4 := by have := hIC.1 4 (by omega) (by omega); rw [Int.add_zero]; exact w32_id this.1 this.2
  have s2o : ∀ k, 3 ≤ k → k ≤ 4 ∨ (146 ≤ k ∧ k < 246) ∨ k = 18 → stp2 ρ k = ρ k := fun k a b => stp2_off hI0 h17 (by omega)
  have h18 := hI0.2.2.2.2.2.2.2.1
  have hr18 := hIC.2.2.2.2.2.2.2.2.1
  have hr3 := hIC.2.2.2.2.2.2.2.1
  -- all but what the outcome changes
  have fin : ∀ (m : MI) (b : Int), b = bi (rcS ρ = 2) → Cg (pTo g) mi m → (∀ a q, q ≠ 6 → q ≠ 7 → q ≠ 15 → q ≠ 16 → ¬ (30 ≤ q ∧ q ≤ 36) → m a q = up (up mi g 37 (ρ 0 % 200) (ρ 7)) g 38 (ρ 0 % 200) b a q) → RepW m g (stp1 ρ) → RepJ m g (stp1 ρ) → m g 6 0 = ρ 0 → m g 6 1 = w32 (ρ 1 + bi (rcS ρ = 1)) → m g 6 2 = w32 (ρ 2 + bi (rcS ρ = 2)) → m g 6 3 = stp3 ρ 3 → m g 6 4 = stp3 ρ 4 → (∀ k, 5 ≤ k → k ≤ 6 → m g 6 k = ρ k) → (∀ i, 0 ≤ i → i < 100 → m g 7 i = stp3 ρ (146 + i)) → Q (vX 0) m n mr := by
    intro m b eb hC hsame hRW hRJ k0 k1 k2 k3 k4 k5 kout
    have ks : ∀ a q, q ≠ 6 → q ≠ 7 → q ≠ 15 → q ≠ 16 → q ≠ 37 → q ≠ 38 → ¬ (30 ≤ q ∧ q ≤ 36) → m a q = mi a q := fun a q z1 z2 z3 z4 z5 z6 z7 => by rw [hsame a q z1 z2 z3 z4 z7, up_j z6, up_j z5]
    refine hQ m hC (Rep_stp4 hI h17 hRW (rL.mv (fun b z1 z2 => ks g b (by omega) (by omega) (by omega) (by omega) (by omega) (by omega) (by omega))) (rN.mv (fun b z1 z2 => ks (g + 10) b (by omega) (by omega) (by omega) (by omega) (by omega) (by omega) (by omega))) hRJ (fun s a b' => ?_) (rH.mv (fun b z1 z2 => ks g b (by omega) (by omega) (by omega) (by omega) (by omega) (by omega) (by omega))) k0 k1 k2 k3 k4 k5 kout (fun i a b => by rw [ks g 8 (by decide) (by decide) (by decide) (by decide) (by decide) (by decide) (by decide)]; exact c3 i a b) (fun i a b => by rw [ks g 9 (by decide) (by decide) (by decide) (by decide) (by decide) (by decide) (by decide)]; exact c4 i a b) (fun i a b => by rw [ks g 10 (by decide) (by decide) (by decide) (by decide) (by decide) (by decide) (by decide)]; exact c5 i a b) ?_)
    · have e37 : up (up mi g 37 (ρ 0 % 200) (ρ 7)) g 38 (ρ 0 % 200) b g 37 = ud (mi g 37) (ρ 0 % 200) (ρ 7) := by rw [up_j (by decide), up_ud]
      have e38 : up (up mi g 37 (ρ 0 % 200) (ρ 7)) g 38 (ρ 0 % 200) b g 38 = ud (mi g 38) (ρ 0 % 200) b := by rw [up_ud, up_j (by decide)]
      rw [hsame g 37 (by decide) (by decide) (by decide) (by decide) (by decide), hsame g 38 (by decide) (by decide) (by decide) (by decide) (by decide), e37, e38]
      have := rS s a b'
      by_cases es : s = ρ 0 % 200
      · rw [if_pos es, if_pos es, es, ud_at, ud_at]; exact ⟨rfl, eb⟩
      · rw [if_neg es, if_neg es, ud_ne es, ud_ne es]; exact this
    · rw [ks g 5 (by decide) (by decide) (by decide) (by decide) (by decide) (by decide) (by decide)]
      exact ⟨c6, c7, c8, c9⟩
  have np : rcS ρ ≠ 4 → stp3 ρ = stp2 ρ := fun z => by unfold stp3; rw [if_neg z]
  refine tx_intro (ls := [vR (some (g, 5)), vI (ρ 0), vI (ρ 7), vR (some (0, 55))]) om_X7_takeOutcome rfl (Nat.le_of_ble_eq_true rfl) ?_
  have body : ∀ b, b = bi (rcS ρ = 2) → mi 0 55 1 = mi 0 55 1 → Run (d+4) mt_X7_takeOutcome Q (n, mr, 0, 0) (up (up mi g 37 (ρ 0 % 200) (ρ 7)) g 38 (ρ 0 % 200) b) 22 [vR (some (g, 5)), vI (ρ 0), vI (ρ 7), vR (some (0, 55))] [] := by
    intro b eb _
    have hb01 : b = 0 ∨ b = 1 := by rw [eb]; exact bi_01
    have gm : Cg (pTo g) mi (up (up mi g 37 (ρ 0 % 200) (ρ 7)) g 38 (ρ 0 % 200) b) := (Cg.rf.up (by simp [pTo])).up (by simp [pTo])
    have m55 : ∀ k, up (up mi g 37 (ρ 0 % 200) (ρ 7)) g 38 (ρ 0 % 200) b 0 55 k = mi 0 55 k := fun k => by rw [up_j (by decide), up_j (by decide)]
    have m6 : up (up mi g 37 (ρ 0 % 200) (ρ 7)) g 38 (ρ 0 % 200) b g 6 = mi g 6 := by rw [up_j (by decide), up_j (by decide)]
    have m7 : up (up mi g 37 (ρ 0 % 200) (ρ 7)) g 38 (ρ 0 % 200) b g 7 = mi g 7 := by rw [up_j (by decide), up_j (by decide)]
    have mW : RepW (up (up mi g 37 (ρ 0 % 200) (ρ 7)) g 38 (ρ 0 % 200) b) g ρ := rW.mv (by rw [up_j (by decide), up_j (by decide)]) (by rw [up_j (by decide), up_j (by decide)])
    have mJ : RepJ (up (up mi g 37 (ρ 0 % 200) (ρ 7)) g 38 (ρ 0 % 200) b) g ρ := rJ.mv (fun q z1 z2 => by rw [up_j (by omega), up_j (by omega)])
    have fin' := fun m => fin m b eb
    generalize up (up mi g 37 (ρ 0 % 200) (ρ 7)) g 38 (ρ 0 % 200) b = m1 at *
    have q0 : m1 g 6 0 = ρ 0 := by rw [m6]; exact c1 0 (by omega) (by omega) (by omega)
    have q1 : m1 g 6 1 = ρ 1 := by rw [m6]; exact c1 1 (by omega) (by omega) (by omega)
    have q2 : m1 g 6 2 = ρ 2 := by rw [m6]; exact c1 2 (by omega) (by omega) (by omega)
    have q3 : m1 g 6 3 = ρ 3 := by rw [m6]; exact c1 3 (by omega) (by omega) (by omega)
    have q4 : m1 g 6 4 = ρ 4 := by rw [m6]; exact c1 4 (by omega) (by omega) (by omega)
    have q56 : ∀ k, 5 ≤ k → k ≤ 6 → m1 g 6 k = ρ k := fun k a b => by rw [m6]; exact c1 k (by omega) (by omega) (by omega)
    have q7 : ∀ i, 0 ≤ i → i < 100 → m1 g 7 i = ρ (146 + i) := fun i a b => by rw [m7]; exact c2 i a b
    have hc : (lnO ρ (ρ 7)).1 = 0 ∨ (lnO ρ (ρ 7)).1 = 1 ∨ (lnO ρ (ρ 7)).1 = 2 ∨ (lnO ρ (ρ 7)).1 = 3 := by omega
    rcases hc with ho | ho | ho | ho
    · have eo := hW.1 ho
      have er : rcS ρ = 1 := by rw [hrc 0 ho]; rfl
      have es1 := s1n (by omega)
      have es3 := np (by omega)
      refine r_aload_n (dc kc_X7_takeOutcome_0 12 rfl) rfl <| s_getI (dc kc_X7_takeOutcome_0 13 rfl) fl_X7_118 <| s_tabC (k0 := 0) (tgt := 60) (dc kc_X7_takeOutcome_0 14 rfl) ?_ rfl rfl rfl <| r_aload_n (dc kc_X7_takeOutcome_0 15 rfl) rfl <| s_getA (dc kc_X7_takeOutcome_0 16 rfl) fl_X7_42 (ly_5_5 hL (by assumption)) <| k_i (dc kc_X7_takeOutcome_0 17 rfl) rfl <| s_dup2 (dc kc_X7_takeOutcome_0 18 rfl) rfl rfl <| s_iaload (dc kc_X7_takeOutcome_0 19 rfl) rfl (by first | omega | (simp [up] <;> omega)) (by first | omega | (simp [up] <;> omega)) <| k_i (dc kc_X7_takeOutcome_0 20 rfl) rfl <| s_iadd (dc kc_X7_takeOutcome_0 21 rfl) <| s_iastore (dc kc_X7_takeOutcome_0 22 rfl) rfl (by first | omega | (simp [up] <;> omega)) (by first | omega | (simp [up] <;> omega)) <| s_goto (tgt := 132) (dc kc_X7_takeOutcome_0 23 rfl) rfl <| s_return (dc kc_X7_takeOutcome_1 19 rfl) rfl (Nat.zero_le _) (Nat.zero_le _) ?_
      · rw [m55, eo]
      · refine fin' _ (gm.up (by simp [pTo])) (fun a q z1 z2 z3 z4 z5 => up_j z1) (by rw [es1]; exact mW.mv (up_j (by decide)) (by rw [up_j (by decide)])) (by rw [es1]; exact mJ.mv (fun q z1 z2 => up_j (by omega))) (by rw [up_k (by decide), q0]) (by rw [up_at, q1, bi_t er]) (by rw [up_k (by decide), q2, bi_f (by omega), hw2]) (by rw [up_k (by decide), q3, es3, s2o 3 (by omega) (by omega)]) (by rw [up_k (by decide), q4, es3, s2o 4 (by omega) (by omega)]) (fun k a b => by rw [up_k (by omega)]; exact q56 k a b) (fun i a b => by rw [up_j (by decide), q7 i a b, es3, s2o _ (by omega) (by omega)])
    · have eo := hW.2.1 ho
      have er : rcS ρ = 2 := by rw [hrc 1 ho]; rfl
      have es1 := s1n (by omega)
      have es3 := np (by omega)
      refine r_aload_n (dc kc_X7_takeOutcome_0 12 rfl) rfl <| s_getI (dc kc_X7_takeOutcome_0 13 rfl) fl_X7_118 <| s_tabC (k0 := 1) (tgt := 73) (dc kc_X7_takeOutcome_0 14 rfl) ?_ rfl rfl rfl <| r_aload_n (dc kc_X7_takeOutcome_0 24 rfl) rfl <| s_getA (dc kc_X7_takeOutcome_0 25 rfl) fl_X7_42 (ly_5_5 hL (by assumption)) <| k_i (dc kc_X7_takeOutcome_0 26 rfl) rfl <| s_dup2 (dc kc_X7_takeOutcome_0 27 rfl) rfl rfl <| s_iaload (dc kc_X7_takeOutcome_0 28 rfl) rfl (by first | omega | (simp [up] <;> omega)) (by first | omega | (simp [up] <;> omega)) <| k_i (dc kc_X7_takeOutcome_0 29 rfl) rfl <| s_iadd (dc kc_X7_takeOutcome_0 30 rfl) <| s_iastore (dc kc_X7_takeOutcome_0 31 rfl) rfl (by first | omega | (simp [up] <;> omega)) (by first | omega | (simp [up] <;> omega)) <| s_goto (tgt := 132) (dc kc_X7_takeOutcome_0 32 rfl) rfl <| s_return (dc kc_X7_takeOutcome_1 19 rfl) rfl (Nat.zero_le _) (Nat.zero_le _) ?_
      · rw [m55, eo]
      · refine fin' _ (gm.up (by simp [pTo])) (fun a q z1 z2 z3 z4 z5 => up_j z1) (by rw [es1]; exact mW.mv (up_j (by decide)) (by rw [up_j (by decide)])) (by rw [es1]; exact mJ.mv (fun q z1 z2 => up_j (by omega))) (by rw [up_k (by decide), q0]) (by rw [up_k (by decide), q1, bi_f (by omega), hw1]) (by rw [up_at, q2, bi_t er]) (by rw [up_k (by decide), q3, es3, s2o 3 (by omega) (by omega)]) (by rw [up_k (by decide), q4, es3, s2o 4 (by omega) (by omega)]) (fun k a b => by rw [up_k (by omega)]; exact q56 k a b) (fun i a b => by rw [up_j (by decide), q7 i a b, es3, s2o _ (by omega) (by omega)])
    · have eo := hW.2.2.1 ho
      have er : rcS ρ = 3 := by rw [hrc 2 ho]; rfl
      have es3 := np (by omega)
      have h2 := lnO_2 hV hw ho
      refine r_aload_n (dc kc_X7_takeOutcome_0 12 rfl) rfl <| s_getI (dc kc_X7_takeOutcome_0 13 rfl) fl_X7_118 <| s_tabC (k0 := 2) (tgt := 110) (dc kc_X7_takeOutcome_0 14 rfl) ?_ rfl rfl rfl <| r_aload_n (dc kc_X7_takeOutcome_1 7 rfl) rfl <| s_iload_n (dc kc_X7_takeOutcome_1 8 rfl) rfl <| s_iload_n (dc kc_X7_takeOutcome_1 9 rfl) rfl <| r_aload_n (dc kc_X7_takeOutcome_1 10 rfl) rfl <| s_getI (dc kc_X7_takeOutcome_1 11 rfl) fl_X7_134 <| r_aload_n (dc kc_X7_takeOutcome_1 12 rfl) rfl <| s_getI (dc kc_X7_takeOutcome_1 13 rfl) fl_X7_127 <| r_aload_n (dc kc_X7_takeOutcome_1 14 rfl) rfl <| s_getI (dc kc_X7_takeOutcome_1 15 rfl) fl_X7_137 <| r_aload_n (dc kc_X7_takeOutcome_1 16 rfl) rfl <| s_getI (dc kc_X7_takeOutcome_1 17 rfl) fl_X7_140 <| c_v6 (dc kc_X7_takeOutcome_1 18 rfl) cl_X7_110 rfl (Nat.le_of_ble_eq_true rfl) (Nat.zero_le _) (Nat.zero_le _) ?_
      · rw [m55, eo.1]
      · rw [m55, m55, m55, m55, eo.2.1, eo.2.2.1, eo.2.2.2.1, eo.2.2.2.2]
        refine u_writeJ hL hg mW mJ hIW h8 h2.2.1 h2.2.2 bi_01 (fun m2 g2 W2 J2 => ?_)
        have e1 : stp1 ρ = wrR ρ (ρ 0) (ρ 7) (lnO ρ (ρ 7)).2.1 (lnO ρ (ρ 7)).2.2.1 (bi (bAnd (mkM (lnO ρ (ρ 7)).2.2.2) (ρ 19) ≠ 0)) (mkM (lnO ρ (ρ 7)).2.2.2) := by
          unfold stp1 lnR
          rw [if_pos ho, if_pos rfl]
          rfl
        have g6 : m2 g 6 = m1 g 6 := g2.row (fun k => by simp [pSt, pJ])
        have g7 : m2 g 7 = m1 g 7 := g2.row (fun k => by simp [pSt, pJ])
        refine s_return (dc kc_X7_takeOutcome_1 19 rfl) rfl (Nat.zero_le _) (Nat.zero_le _) ?_
        exact fin' m2 (gm.tr (g2.mono (fun _ _ _ z => by simp [pTo, z]))) (fun a q z1 z2 z3 z4 z5 => g2.row (fun k => by simp [pSt, pJ]; omega)) (by rw [e1]; exact W2) (by rw [e1]; exact J2) (by rw [g6, q0]) (by rw [g6, q1, bi_f (by omega), hw1]) (by rw [g6, q2, bi_f (by omega), hw2]) (by rw [g6, q3, es3, s2o 3 (by omega) (by omega)]) (by rw [g6, q4, es3, s2o 4 (by omega) (by omega)]) (fun k a b => by rw [g6]; exact q56 k a b) (fun i a b => by rw [g7, q7 i a b, es3, s2o _ (by omega) (by omega)])
    · have eo := hW.2.2.2 ho
      have er : rcS ρ = 4 := by rw [hrc 3 ho]; rfl
      have es1 := s1n (by omega)
      have e18 := s2o 18 (by omega) (by omega)
      have ep : stp3 ρ = payR (stp2 ρ) (mkd ρ (lnO ρ (ρ 7)).2.2.2) (lnO ρ (ρ 7)).2.2.1 := by unfold stp3; rw [if_pos er]
      by_cases hz : bAnd (mkM (lnO ρ (ρ 7)).2.2.2) (ρ 19) ≠ 0
      · rw [if_pos hz] at eo
        have hmk : mkd ρ (lnO ρ (ρ 7)).2.2.2 = 1 := by unfold mkd; exact bi_t hz
        have hpb : stp3 ρ = payB (stp2 ρ) 1 := by rw [ep, hmk]; unfold payR; rw [if_neg (by omega)]
        have k3 : stp3 ρ 3 = ρ 3 := by rw [hpb]; unfold payB; show ud _ 3 _ 3 = _; rw [ud_at, inc_off (by omega), s2o 3 (by omega) (by omega)]; exact hw3
        have k4 : stp3 ρ 4 = w32 (ρ 4 + 1) := by rw [hpb]; unfold payB; rw [inc_off (by omega)]; show ud _ 4 _ 4 = _; rw [ud_at, s2o 4 (by omega) (by omega)]
        have ko : ∀ i, 0 ≤ i → i < 100 → stp3 ρ (146 + i) = ρ (146 + i) := fun i a b => by rw [hpb]; unfold payB; rw [inc_off (by omega), inc_off (by omega), s2o _ (by omega) (by omega)]
        refine r_aload_n (dc kc_X7_takeOutcome_0 12 rfl) rfl <| s_getI (dc kc_X7_takeOutcome_0 13 rfl) fl_X7_118 <| s_tabC (k0 := 4) (tgt := 97) (dc kc_X7_takeOutcome_0 14 rfl) ?_ rfl rfl rfl <| r_aload_n (dc kc_X7_takeOutcome_0 38 rfl) rfl <| s_getA (dc kc_X7_takeOutcome_0 39 rfl) fl_X7_42 (ly_5_5 hL (by assumption)) <| k_i (dc kc_X7_takeOutcome_1 0 rfl) rfl <| s_dup2 (dc kc_X7_takeOutcome_1 1 rfl) rfl rfl <| s_iaload (dc kc_X7_takeOutcome_1 2 rfl) rfl (by first | omega | (simp [up] <;> omega)) (by first | omega | (simp [up] <;> omega)) <| k_i (dc kc_X7_takeOutcome_1 3 rfl) rfl <| s_iadd (dc kc_X7_takeOutcome_1 4 rfl) <| s_iastore (dc kc_X7_takeOutcome_1 5 rfl) rfl (by first | omega | (simp [up] <;> omega)) (by first | omega | (simp [up] <;> omega)) <| s_goto (tgt := 132) (dc kc_X7_takeOutcome_1 6 rfl) rfl <| s_return (dc kc_X7_takeOutcome_1 19 rfl) rfl (Nat.zero_le _) (Nat.zero_le _) ?_
        · rw [m55, eo.1]
        · refine fin' _ (gm.up (by simp [pTo])) (fun a q z1 z2 z3 z4 z5 => up_j z1) (by rw [es1]; exact mW.mv (up_j (by decide)) (by rw [up_j (by decide)])) (by rw [es1]; exact mJ.mv (fun q z1 z2 => up_j (by omega))) (by rw [up_k (by decide), q0]) (by rw [up_k (by decide), q1, bi_f (by omega), hw1]) (by rw [up_k (by decide), q2, bi_f (by omega), hw2]) (by rw [up_k (by decide), q3, k3]) (by rw [up_at, q4, k4]) (fun k a b => by rw [up_k (by omega)]; exact q56 k a b) (fun i a b => by rw [up_j (by decide), q7 i a b, ko i a b])
      · rw [if_neg hz] at eo
        have hmk : mkd ρ (lnO ρ (ρ 7)).2.2.2 = 0 := by unfold mkd; exact bi_f hz
        have k3 : stp3 ρ 3 = w32 (ρ 3 + 1) := by
          rw [ep, hmk]; unfold payR payB
          split
          · rw [inc_off (by omega), ud_ne (by omega)]; show ud _ 3 _ 3 = _; rw [ud_at, inc_off (by omega), s2o 3 (by omega) (by omega)]; rfl
          · show ud _ 3 _ 3 = _; rw [ud_at, inc_off (by omega), s2o 3 (by omega) (by omega)]; rfl
        have k4 : stp3 ρ 4 = ρ 4 := by
          rw [ep, hmk]; unfold payR payB
          split
          · rw [inc_off (by omega), ud_ne (by omega), inc_off (by omega)]; show ud _ 4 _ 4 = _; rw [ud_at, s2o 4 (by omega) (by omega)]; exact hw4
          · rw [inc_off (by omega)]; show ud _ 4 _ 4 = _; rw [ud_at, s2o 4 (by omega) (by omega)]; exact hw4
        have ko : ∀ i, 0 ≤ i → i < 100 → stp3 ρ (146 + i) = if ρ 3 < 100 ∧ i = ρ 3 then (lnO ρ (ρ 7)).2.2.1 else ρ (146 + i) := fun i a b => by
          rw [ep, hmk]; unfold payR payB
          rw [e18]
          by_cases hlt : ρ 18 < 100
          · have h318 : ρ 18 = ρ 3 ∧ ρ 3 < 100 := by split at hr18 <;> omega
            rw [if_pos ⟨rfl, hlt⟩, inc_off (by omega)]
            by_cases ei : i = ρ 3
            · rw [if_pos ⟨h318.2, ei⟩, h318.1, ei, ud_at]
            · rw [if_neg (fun z => ei z.2), ud_ne (by omega), inc_off (by omega), inc_off (by omega), s2o _ (by omega) (by omega)]
          · have h318 : ¬ ρ 3 < 100 := by split at hr18 <;> omega
            rw [if_neg (fun z => hlt z.2), if_neg (fun z => h318 z.1), inc_off (by omega), inc_off (by omega), s2o _ (by omega) (by omega)]
        refine r_aload_n (dc kc_X7_takeOutcome_0 12 rfl) rfl <| s_getI (dc kc_X7_takeOutcome_0 13 rfl) fl_X7_118 <| s_tabC (k0 := 3) (tgt := 86) (dc kc_X7_takeOutcome_0 14 rfl) ?_ rfl rfl rfl <| r_aload_n (dc kc_X7_takeOutcome_0 33 rfl) rfl <| r_aload_n (dc kc_X7_takeOutcome_0 34 rfl) rfl <| s_getI (dc kc_X7_takeOutcome_0 35 rfl) fl_X7_127 <| c_v1 (dc kc_X7_takeOutcome_0 36 rfl) cl_X7_130 rfl (Nat.le_of_ble_eq_true rfl) (Nat.zero_le _) (Nat.zero_le _) ?_
        · rw [m55, eo.1]
        · rw [m55, eo.2]
          refine u_payOut hL hg (by omega) ?_
          rw [q3]
          refine s_goto (tgt := 132) (dc kc_X7_takeOutcome_0 37 rfl) rfl <| s_return (dc kc_X7_takeOutcome_1 19 rfl) rfl (Nat.zero_le _) (Nat.zero_le _) ?_
          have hif : ∀ a q, q ≠ 7 → (if ρ 3 < 100 then up m1 g 7 (ρ 3) (lnO ρ (ρ 7)).2.2.1 else m1) a q = m1 a q := fun a q z => by
            split
            · exact up_j z
            · rfl
          have hif7 : ∀ i, (if ρ 3 < 100 then up m1 g 7 (ρ 3) (lnO ρ (ρ 7)).2.2.1 else m1) g 7 i = if ρ 3 < 100 ∧ i = ρ 3 then (lnO ρ (ρ 7)).2.2.1 else m1 g 7 i := fun i => by
            by_cases e1 : ρ 3 < 100
            · rw [if_pos e1, up_ud]
              by_cases ei : i = ρ 3
              · rw [if_pos ⟨e1, ei⟩, ei, ud_at]
              · rw [if_neg (fun z => ei z.2), ud_ne ei]
            · rw [if_neg e1, if_neg (fun z => e1 z.1)]
          have gif : Cg (pTo g) mi (if ρ 3 < 100 then up m1 g 7 (ρ 3) (lnO ρ (ρ 7)).2.2.1 else m1) := by
            split
            · exact gm.up (by simp [pTo])
            · exact gm
          refine fin' _ (gif.up (by simp [pTo])) (fun a q z1 z2 z3 z4 z5 => by rw [up_j z1, hif a q z2]) (by rw [es1]; exact mW.mv (by rw [up_j (by decide), hif g 16 (by decide)]) (by rw [up_j (by decide), hif g 15 (by decide)])) (by rw [es1]; exact mJ.mv (fun q z1 z2 => by rw [up_j (by omega), hif g q (by omega)])) (by rw [up_k (by decide), hif g 6 (by decide), q0]) (by rw [up_k (by decide), hif g 6 (by decide), q1, bi_f (by omega), hw1]) (by rw [up_k (by decide), hif g 6 (by decide), q2, bi_f (by omega), hw2]) (by rw [up_at, k3]) (by rw [up_k (by decide), hif g 6 (by decide), q4, k4]) (fun k a b => by rw [up_k (by omega), hif g 6 (by decide)]; exact q56 k a b) (fun i a b => by rw [up_j (by decide), hif7, ko i a b, q7 i a b])
  have o1 : mi 0 55 1 = 1 ↔ rcS ρ = 2 := by
    have hc : (lnO ρ (ρ 7)).1 = 0 ∨ (lnO ρ (ρ 7)).1 = 1 ∨ (lnO ρ (ρ 7)).1 = 2 ∨ (lnO ρ (ρ 7)).1 = 3 := by omega
    rcases hc with ho | ho | ho | ho
    · have := hW.1 ho; have er : rcS ρ = 1 := by rw [hrc 0 ho]; rfl
      omega
    · have := hW.2.1 ho; have er : rcS ρ = 2 := by rw [hrc 1 ho]; rfl
      omega
    · have := (hW.2.2.1 ho).1; have er : rcS ρ = 3 := by rw [hrc 2 ho]; rfl
      omega
    · have h := (hW.2.2.2 ho).1; have er : rcS ρ = 4 := by rw [hrc 3 ho]; rfl
      split at h <;> omega
  refine r_aload_n (dc kc_X7_takeOutcome_0 0 rfl) rfl <| s_getO (dc kc_X7_takeOutcome_0 1 rfl) fl_X7_31 (ly_5_3 hL (by assumption)) <| s_iload_n (dc kc_X7_takeOutcome_0 2 rfl) rfl <| s_iload_n (dc kc_X7_takeOutcome_0 3 rfl) rfl <| r_aload_n (dc kc_X7_takeOutcome_0 4 rfl) rfl <| s_getI (dc kc_X7_takeOutcome_0 5 rfl) fl_X7_118 <| k_i (dc kc_X7_takeOutcome_0 6 rfl) rfl <| s_icmp_ne (tgt := 18) (dc kc_X7_takeOutcome_0 7 rfl) rfl (fun c11 => (k_i (dc kc_X7_takeOutcome_0 10 rfl) rfl <| c_v3 (dc kc_X7_takeOutcome_0 11 rfl) cl_X7_123 rfl (Nat.le_of_ble_eq_true rfl) (Nat.zero_le _) (Nat.zero_le _) ?_)) (fun c11 => (k_i (dc kc_X7_takeOutcome_0 8 rfl) rfl <| s_goto (tgt := 19) (dc kc_X7_takeOutcome_0 9 rfl) rfl <| c_v3 (dc kc_X7_takeOutcome_0 11 rfl) cl_X7_123 rfl (Nat.le_of_ble_eq_true rfl) (Nat.zero_le _) (Nat.zero_le _) ?_))
  · refine u_noteStep hL hg h00.1 (by omega) (Or.inl rfl) ?_
    exact body 0 (by rw [bi_f]; exact fun z => c11 (o1.mpr z)) rfl
  · refine u_noteStep hL hg h00.1 (by omega) (Or.inr rfl) ?_
    exact body 1 (by rw [bi_t]; exact o1.mp c11) rfl
end ST3
