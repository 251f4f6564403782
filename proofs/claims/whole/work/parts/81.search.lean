/-! the class: the mender searches mends of k cells -/
def pSe (k a b : Nat) (i : Int) : Bool := pGr k a b i || (a == 0 && b == 60 && (i == 9 || i == 10))
/-- the least mends by at most k cells, in memory: of s cells -/
def MkV (mi : MI) (ρ : Int → Int) (k s : Int) : Prop := (s = -1 ∧ NoMend ρ k) ∨ ∃ (C : Nat) (P : Int) (K : List Int), s = C ∧ ML mi C C P K ∧ K ≠ [] ∧ Least ρ k P C ∧ Keys key5 ρ P C K
theorem MkV.mv {mi mi' : MI} {ρ : Int → Int} {k s : Int} (h : MkV mi ρ k s) (hm : ∀ C : Nat, (C : Int) ≤ k → mi' C 57 = mi C 57 ∧ mi' C 58 = mi C 58) : MkV mi' ρ k s := by
  rcases h with h | ⟨C, P, K, h1, h2, h3, h4, h5⟩
  · exact Or.inl h
  · have := hm C h4.2.1
    exact Or.inr ⟨C, P, K, h1, h2.mv this.1 this.2, h3, h4, h5⟩
theorem Ts_nil {ρ : Int → Int} {k : Nat} {L : List PR} : Ts ρ k [] 0 L ↔ Mnd ρ L ∧ L.length = k := by
  constructor
  · intro h; exact ⟨h.1, h.2.1⟩
  · intro h; exact ⟨h.1, h.2, fun q hq => (by cases hq), fun q _ _ => tB_0 _⟩
/-- what a search tells of at most k cells -/
theorem Tol_least {ρ : Int → Int} {k : Nat} {lim0 lim P : Int} {K : List Int} (h : Tol ρ k lim0 (fun L => False ∨ Ts ρ k [] 0 L) lim P K) (hs : K.Pairwise (· < ·)) (hns : ∀ L, Mnd ρ L → L.length < k → lim0 < prc ρ L) (hne : K ≠ []) : Least ρ k P k ∧ Keys key5 ρ P k K := by
  obtain ⟨a, b, c, e, f⟩ := h
  have eP := e hne
  have hmem : ∀ y, y ∈ K ↔ ∃ L, Mnd ρ L ∧ (L.length : Int) = k ∧ prc ρ L = P ∧ key5 L = y := fun y => by
    rw [f y]
    constructor
    · rintro ⟨L, z, z2, z3⟩
      rcases z with z | z
      · exact z.elim
      · exact ⟨L, z.1, by rw [z.2.1], by omega, z3⟩
    · rintro ⟨L, z1, z2, z3, z4⟩
      exact ⟨L, Or.inr (Ts_nil.mpr ⟨z1, by omega⟩), by omega, z4⟩
  refine ⟨⟨?_, Int.le_refl _, fun L hL hl => ?_⟩, hs, hmem⟩
  · obtain ⟨y, hy⟩ := List.exists_mem_of_ne_nil K hne
    obtain ⟨L, z1, z2, z3, _⟩ := (hmem y).mp hy
    exact ⟨L, z1, z2, z3⟩
  · by_cases el : L.length = k
    · have := (b L (Or.inr (Ts_nil.mpr ⟨hL, el⟩))).2.2
      omega
    · have := hns L hL (by omega)
      omega
theorem Tol_none {ρ : Int → Int} {k : Nat} {lim0 lim P : Int} {K : List Int} (h : Tol ρ k lim0 (fun L => False ∨ Ts ρ k [] 0 L) lim P K) (he : K = []) : ∀ L, Mnd ρ L → L.length = k → lim0 < prc ρ L := fun L hL hl => by
  obtain ⟨a, b, c, e, f⟩ := h
  have el := c he
  have hx : False ∨ Ts ρ k [] 0 L := Or.inr (Ts_nil.mpr ⟨hL, hl⟩)
  have := (b L hx).2.2
  have hn : prc ρ L ≠ lim := fun z => by
    have := (f (key5 L)).mpr ⟨L, hx, z, rfl⟩
    rw [he] at this; cases this
  omega
section MD4
variable {d n G : Nat} {mr : MR} {Q : V → MI → Nat → MR → Prop}
theorem u_search (hL : Lay G mr) {mi : MI} {x k : Nat} {ρ : Int → Int} (hcel : mr 2 50 0 = some (0, 63)) (hmlw : mr 0 60 4 = some (x, 20)) (hx : okI G 20 x) (hk1 : 1 ≤ k) (hk3 : k ≤ 3) (hV : VC (clR ρ)) (hMB : MB mi ρ) (hLw : MLw mi x ρ) (hA : ag (clR ρ) (clM mi 0)) (hpv : MkV mi ρ ((k : Int) - 1) (mi 0 62 ((k : Int) - 1))) (hQ : ∀ mi' b, (b = 0 ∨ b = 1) → Cg (pSe k) mi mi' → ag (clR ρ) (clM mi' 0) → MkV mi' ρ k (if b = 1 then (k : Int) else mi 0 62 ((k : Int) - 1)) → Q (vI b) mi' n mr) : Tx (d+11) mt_X4_search [vR (some (0, 60)), vI (k : Int)] mi n mr Q := by
  have hok : okI G 57 k := by show k < 4; omega
  have haa2 : mr 0 61 (k : Int) = some (k, 57) := by
    have : k = 1 ∨ k = 2 ∨ k = 3 := by omega
    rcases this with rfl | rfl | rfl
    · exact ly_61_1 hL
    · exact ly_61_2 hL
    · exact ly_61_3 hL
  have h8 := hMB.2
  have hck : 0 ≤ mi 0 60 8 * (k : Int) ∧ mi 0 60 8 * (k : Int) ≤ 27 := by
    have : k = 1 ∨ k = 2 ∨ k = 3 := by omega
    rcases this with rfl | rfl | rfl <;> omega
  refine tx_intro (ls := [vR (some (0, 60)), vI (k : Int)]) om_X4_search rfl (Nat.le_of_ble_eq_true rfl) ?_
  -- behind the limit
  have body : ∀ (lim0 : Int), -1 ≤ lim0 → lim0 ≤ 27 → (∀ L, Mnd ρ L → L.length < k → lim0 < prc ρ L) → ((∀ L, Mnd ρ L → L.length = k → lim0 < prc ρ L) → ∀ mi', Cg (pSe k) mi mi' → MkV mi' ρ k (mi 0 62 ((k : Int) - 1))) → Run (d+11) mt_X4_search Q (n, mr, 0, 0) mi 49 [vR (some (0, 60)), vI (k : Int)] [vI lim0, vR (some (0, 60))] := by
    intro lim0 hlo hhi hns hno
    -- the end
    have fin : ∀ m : MI, Cg (pSe k) mi m → ag (clR ρ) (clM m 0) → Tm ρ k lim0 (fun L => False ∨ Ts ρ k [] 0 L) m → Run (d+11) mt_X4_search Q (n, mr, 0, 0) m 87 [vR (some (0, 60)), vI (k : Int)] [] := by
      intro m gC ga gT
      obtain ⟨P, K, hML, hTol⟩ := gT
      have h2 := hML.2.1
      refine r_aload_n (dc kc_X4_search_1 14 rfl) rfl <| s_getA (dc kc_X4_search_1 15 rfl) fl_X4_20 (ly_60_1 hL) <| s_iload_n (dc kc_X4_search_1 16 rfl) rfl <| s_aaload (dc kc_X4_search_1 17 rfl) rfl (by decide) (by first | omega | (simp [up] <;> omega)) (by first | omega | (simp [up] <;> omega)) haa2 <| s_getI (dc kc_X4_search_1 18 rfl) fl_X4_130 <| s_if_le (tgt := 103) (dc kc_X4_search_1 19 rfl) rfl (fun c96 => (k_i (dc kc_X4_search_1 22 rfl) rfl <| s_zreturn (dc kc_X4_search_1 23 rfl) rfl (by first | exact Or.inl rfl | exact Or.inr rfl | exact bi_01 | assumption) (Nat.zero_le _) (Nat.zero_le _) ?_)) (fun c96 => (k_i (dc kc_X4_search_1 20 rfl) rfl <| s_goto (tgt := 104) (dc kc_X4_search_1 21 rfl) rfl <| s_zreturn (dc kc_X4_search_1 23 rfl) rfl (by first | exact Or.inl rfl | exact Or.inr rfl | exact bi_01 | assumption) (Nat.zero_le _) (Nat.zero_le _) ?_))
      · have hK : K = [] := List.length_eq_zero_iff.mp (by omega)
        exact hQ m 0 (Or.inl rfl) gC ga (by rw [if_neg (by decide)]; exact hno (Tol_none hTol hK) m gC)
      · have hK : K ≠ [] := fun z => by rw [z] at h2; simp at h2; omega
        have := Tol_least hTol hML.2.2.2.1 hns hK
        exact hQ m 1 (Or.inr rfl) gC ga (by rw [if_pos rfl]; exact Or.inr ⟨k, P, K, rfl, hML, hK, this.1, this.2⟩)
    refine s_putI (dc kc_X4_search_0 32 rfl) fl_X4_54 <| r_aload_n (dc kc_X4_search_0 33 rfl) rfl <| s_iload_n (dc kc_X4_search_0 34 rfl) rfl <| s_putI (dc kc_X4_search_0 35 rfl) fl_X4_51 <| r_aload_n (dc kc_X4_search_0 36 rfl) rfl <| s_getA (dc kc_X4_search_0 37 rfl) fl_X4_20 (ly_60_1 hL) <| s_iload_n (dc kc_X4_search_0 38 rfl) rfl <| s_aaload (dc kc_X4_search_0 39 rfl) rfl (by decide) (by first | omega | (simp [up] <;> omega)) (by first | omega | (simp [up] <;> omega)) haa2 <| s_iload_n (dc kc_X4_search_1 0 rfl) rfl <| c_v1 (dc kc_X4_search_1 1 rfl) cl_X4_109 rfl (Nat.le_of_ble_eq_true rfl) (Nat.zero_le _) (Nat.zero_le _) ?_
    refine u_mclear (fun m1 g1 hml => ?_)
    have gC1 : Cg (pSe k) mi m1 := ((Cg.rf.up (by simp [pSe])).up (by simp [pSe])).tr (g1.mono (fun a b i z => by simp [pSe, pGr, z]))
    have q9 : m1 0 60 9 = (k : Int) := by rw [g1.at (by simp [pML]), up_at]
    have q10 : m1 0 60 10 = lim0 := by rw [g1.at (by simp [pML]), up_k (by decide), up_at]
    have q8 : m1 0 60 8 = mi 0 60 8 := gC1.at (by simp [pSe, pGr, pQ, pML])
    have a1 : ag (clR ρ) (clM m1 0) := fun e a b => by
      show m1 0 63 e = _
      rw [g1.at (by simp [pML]), up_j (by decide), up_j (by decide)]; exact hA e a b
    have hM1 : Mc m1 ρ k x := ⟨q9, hMB.mv (gC1.row (fun i => by simp [pSe, pGr, pQ, pML])) (gC1.row (fun i => by simp [pSe, pGr, pQ, pML])) q8, hLw.mv (gC1.at (by simp [pSe, pGr, pQ, pML])) (gC1.row (fun i => by simp [pSe, pGr, pQ, pML])) (gC1.row (fun i => by simp [pSe, pGr, pQ, pML])) (gC1.row (fun i => by simp [pSe, pGr, pQ, pML]))⟩
    have t1 : Tm ρ k lim0 (fun _ => False) m1 := ⟨0, [], hml 0, by rw [q10]; exact Int.le_refl _, fun L z => z.elim, fun _ => q10, fun z => absurd rfl z, fun y => ⟨fun z => (by cases z), fun ⟨L, z, _⟩ => z.elim⟩⟩
    rw [← q8] at hck
    refine r_aload_n (dc kc_X4_search_1 2 rfl) rfl <| s_getI (dc kc_X4_search_1 3 rfl) fl_X4_54 <| r_aload_n (dc kc_X4_search_1 4 rfl) rfl <| s_getI (dc kc_X4_search_1 5 rfl) fl_X4_48 <| s_iload_n (dc kc_X4_search_1 6 rfl) rfl <| b_imul (dc kc_X4_search_1 7 rfl) (by first | omega | (simp [up] <;> omega)) (by first | omega | (simp [up] <;> omega)) <| s_icmp_lt (tgt := 87) (dc kc_X4_search_1 8 rfl) rfl (fun c77 => (?_)) (fun c77 => (r_aload_n (dc kc_X4_search_1 9 rfl) rfl <| k_i (dc kc_X4_search_1 10 rfl) rfl <| k_i (dc kc_X4_search_1 11 rfl) rfl <| k_i (dc kc_X4_search_1 12 rfl) rfl <| c_v3 (dc kc_X4_search_1 13 rfl) cl_X4_126 rfl (Nat.le_of_ble_eq_true rfl) (Nat.zero_le _) (Nat.zero_le _) ?_))
    · refine fin m1 gC1 a1 (t1.more (fun L z => z.elim) (fun L z => Or.inr ?_))
      rcases z with z | z
      · exact z.elim
      · refine ⟨z.1, z.2.1, ?_⟩
        have := prc_subC (ρ := ρ) (ch := m1 0 60 8) (A := []) (L := L) (fun c v a b e => ((hM1.2.1.1 c a b).2 v e).2) (by simp) (nodup_of_fst z.1.2.1.1) z.1.ok (fun q hq => by cases hq)
        rw [show prc ρ [] = 0 from rfl, z.2.1, Int.zero_add, show (k : Int) - (([] : List PR).length : Int) = (k : Int) by simp] at this
        omega
    · have hG : Grw (d + 10) n mr ρ k x lim0 [] := by
        have hP : Pth ρ [] := ⟨by simp, fun q hq => by cases hq⟩
        have : k = 1 ∨ k = 2 ∨ k = 3 := by omega
        rcases this with rfl | rfl | rfl
        · exact u_grow (d := d + 4) hL hcel hmlw hx hk3 hV hns 0 [] rfl hP
        · exact u_grow (d := d + 2) hL hcel hmlw hx hk3 hV hns 1 [] rfl hP
        · exact u_grow (d := d) hL hcel hmlw hx hk3 hV hns 2 [] rfl hP
      refine hG 0 m1 (fun _ => False) _ hM1 a1 (fun i q z => by cases z) (fun q hq => by cases hq) t1 (fun L _ z => z) (fun m2 g2 _ a2 t2 => ?_)
      exact fin m2 (gC1.tr (g2.mono (fun a b i z => by simp [pSe, z]))) a2 t2
  rcases hpv with ⟨hs, hno⟩ | ⟨C, P, K, hs, hML, hne, hlst, hkey⟩
  · refine r_aload_n (dc kc_X4_search_0 0 rfl) rfl <| s_getA (dc kc_X4_search_0 1 rfl) fl_X4_24 (ly_60_2 hL) <| s_iload_n (dc kc_X4_search_0 2 rfl) rfl <| k_i (dc kc_X4_search_0 3 rfl) rfl <| b_isub (dc kc_X4_search_0 4 rfl) (by first | omega | (simp [up] <;> omega)) (by first | omega | (simp [up] <;> omega)) <| s_iaload (dc kc_X4_search_0 5 rfl) rfl (by first | omega | (simp [up] <;> omega)) (by first | omega | (simp [up] <;> omega)) <| s_if_ne (tgt := 13) (dc kc_X4_search_0 6 rfl) rfl (fun c8 => (r_aload_n (dc kc_X4_search_0 9 rfl) rfl <| r_aload_n (dc kc_X4_search_0 10 rfl) rfl <| s_getA (dc kc_X4_search_0 11 rfl) fl_X4_24 (ly_60_2 hL) <| s_iload_n (dc kc_X4_search_0 12 rfl) rfl <| k_i (dc kc_X4_search_0 13 rfl) rfl <| b_isub (dc kc_X4_search_0 14 rfl) (by first | omega | (simp [up] <;> omega)) (by first | omega | (simp [up] <;> omega)) <| s_iaload (dc kc_X4_search_0 15 rfl) rfl (by first | omega | (simp [up] <;> omega)) (by first | omega | (simp [up] <;> omega)) <| k_i (dc kc_X4_search_0 16 rfl) rfl <| s_icmp_ne (tgt := 31) (dc kc_X4_search_0 17 rfl) rfl (fun c23 => (?_)) (fun c23 => (k_b (dc kc_X4_search_0 18 rfl) rfl <| s_goto (tgt := 49) (dc kc_X4_search_0 19 rfl) rfl <| ?_)))) (fun c8 => (k_i (dc kc_X4_search_0 7 rfl) rfl <| s_zreturn (dc kc_X4_search_0 8 rfl) rfl (by first | exact Or.inl rfl | exact Or.inr rfl | exact bi_01 | assumption) (Nat.zero_le _) (Nat.zero_le _) ?_))
    · exfalso; omega
    · refine body 27 (by decide) (Int.le_refl _) (fun L hL' hl => by have := hno L hL'; omega) (fun h m _ => Or.inl ⟨hs, fun L hL' => ?_⟩)
      have h1 := hno L hL'
      by_cases e : L.length = k
      · have := h L hL' e
        have := prc_mb hMB hL'.ok
        omega
      · omega
    · exfalso; omega
  · obtain ⟨⟨L0, l1, l2, l3⟩, hCk, hall⟩ := id hlst
    have hP0 := prc_mb hMB l1.ok
    have hP1 := prc_nn (ρ := ρ) (nodup_of_fst l1.2.1.1)
    have hC3 : C ≤ 2 := by omega
    have hokC : okI G 57 C := by show C < 4; omega
    have haa1 : mr 0 61 (mi 0 62 ((k : Int) - 1)) = some (C, 57) := by
      rw [hs]
      have : C = 0 ∨ C = 1 ∨ C = 2 := by omega
      rcases this with rfl | rfl | rfl
      · exact ly_61_0 hL
      · exact ly_61_1 hL
      · exact ly_61_2 hL
    have hPt := hML.2.2.1 hne
    refine r_aload_n (dc kc_X4_search_0 0 rfl) rfl <| s_getA (dc kc_X4_search_0 1 rfl) fl_X4_24 (ly_60_2 hL) <| s_iload_n (dc kc_X4_search_0 2 rfl) rfl <| k_i (dc kc_X4_search_0 3 rfl) rfl <| b_isub (dc kc_X4_search_0 4 rfl) (by first | omega | (simp [up] <;> omega)) (by first | omega | (simp [up] <;> omega)) <| s_iaload (dc kc_X4_search_0 5 rfl) rfl (by first | omega | (simp [up] <;> omega)) (by first | omega | (simp [up] <;> omega)) <| s_if_ne (tgt := 13) (dc kc_X4_search_0 6 rfl) rfl (fun c8 => (r_aload_n (dc kc_X4_search_0 9 rfl) rfl <| r_aload_n (dc kc_X4_search_0 10 rfl) rfl <| s_getA (dc kc_X4_search_0 11 rfl) fl_X4_24 (ly_60_2 hL) <| s_iload_n (dc kc_X4_search_0 12 rfl) rfl <| k_i (dc kc_X4_search_0 13 rfl) rfl <| b_isub (dc kc_X4_search_0 14 rfl) (by first | omega | (simp [up] <;> omega)) (by first | omega | (simp [up] <;> omega)) <| s_iaload (dc kc_X4_search_0 15 rfl) rfl (by first | omega | (simp [up] <;> omega)) (by first | omega | (simp [up] <;> omega)) <| k_i (dc kc_X4_search_0 16 rfl) rfl <| s_icmp_ne (tgt := 31) (dc kc_X4_search_0 17 rfl) rfl (fun c23 => (r_aload_n (dc kc_X4_search_0 20 rfl) rfl <| s_getA (dc kc_X4_search_0 21 rfl) fl_X4_20 (ly_60_1 hL) <| r_aload_n (dc kc_X4_search_0 22 rfl) rfl <| s_getA (dc kc_X4_search_0 23 rfl) fl_X4_24 (ly_60_2 hL) <| s_iload_n (dc kc_X4_search_0 24 rfl) rfl <| k_i (dc kc_X4_search_0 25 rfl) rfl <| b_isub (dc kc_X4_search_0 26 rfl) (by first | omega | (simp [up] <;> omega)) (by first | omega | (simp [up] <;> omega)) <| s_iaload (dc kc_X4_search_0 27 rfl) rfl (by first | omega | (simp [up] <;> omega)) (by first | omega | (simp [up] <;> omega)) <| s_aaload (dc kc_X4_search_0 28 rfl) rfl (by decide) (by first | omega | (simp [up] <;> omega)) (by first | omega | (simp [up] <;> omega)) haa1 <| s_getI (dc kc_X4_search_0 29 rfl) fl_X4_123 <| k_i (dc kc_X4_search_0 30 rfl) rfl <| b_isub (dc kc_X4_search_0 31 rfl) (by first | omega | (simp [up] <;> omega)) (by first | omega | (simp [up] <;> omega)) <| ?_)) (fun c23 => (?_)))) (fun c8 => (k_i (dc kc_X4_search_0 7 rfl) rfl <| s_zreturn (dc kc_X4_search_0 8 rfl) rfl (by first | exact Or.inl rfl | exact Or.inr rfl | exact bi_01 | assumption) (Nat.zero_le _) (Nat.zero_le _) ?_))
    · rw [hPt]
      refine body (P - 1) (by omega) (by omega) (fun L hL' hl => by have := hall L hL' (by omega); omega) (fun h m gC => Or.inr ⟨C, P, K, hs, hML.mv (gC.row (fun i => ?_)) (gC.row (fun i => ?_)), hne, ⟨⟨L0, l1, l2, l3⟩, by omega, fun L hL' hl => ?_⟩, hkey⟩)
      · have : C ≠ k := by omega
        simp [pSe, pGr, pQ, pML, this]
      · have : C ≠ k := by omega
        simp [pSe, pGr, pQ, pML, this]
      · by_cases e : L.length = k
        · have := h L hL' e; omega
        · exact hall L hL' (by omega)
    · exfalso; omega
    · refine hQ mi 0 (Or.inl rfl) Cg.rf hA ?_
      rw [if_neg (by decide)]
      refine Or.inr ⟨C, P, K, hs, hML, hne, ⟨⟨L0, l1, l2, l3⟩, by omega, fun L hL' hl => ?_⟩, hkey⟩
      have := prc_nn (ρ := ρ) (nodup_of_fst hL'.2.1.1)
      have := prc_mb hMB hL'.ok
      have hC0 : C = 0 := by omega
      have : L0 = [] := List.length_eq_zero_iff.mp (by omega)
      rw [this] at l3
      have hp0 : (0 : Int) = P := l3
      omega
end MD4
