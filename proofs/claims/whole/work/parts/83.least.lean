/-! the class: the mender begins; the least mends -/
def pBg (a b : Nat) (i : Int) : Bool := pQ 2 a b i || pML 0 a b i || (a == 0 && (b == 62 || b == 63 || b == 64 || b == 65 || (b == 60 && (i == 3 || i == 8))))
def cpI (ρ : Int → Int) : Int := if ρ 14 = 1 then 1 else 0
section MD6
variable {d n G : Nat} {mr : MR} {Q : V → MI → Nat → MR → Prop}
theorem u_mbegin (hL : Lay G mr) {mi : MI} {g : Nat} {ρ : Int → Int} {B : Int} (hg : g < G) (hR : Rep (-1) mi g ρ) (hI : Inv B ρ) (hQ : ∀ mi' mr', Cg pBg mi mi' → Cr mr mr' → mr' 2 50 0 = some (0, 63) → mi' 0 60 3 = 0 → MB mi' ρ → ag (clR ρ) (clM mi' 0) → MkV mi' ρ 0 (mi' 0 62 0) → Q (vX 0) mi' n mr') : Tx (d+5) mt_X4_begin [vR (some (0, 60)), vR (some (g, 5))] mi n mr Q := by
  have hok : okI G 5 g := hg
  have hok2 : okI G 20 g := Or.inl hg
  have hok3 : okI G 15 g := Or.inl hg
  have hok4 : okI G 57 0 := by show 0 < 4; decide
  obtain ⟨hI0, hIW, hIC, hB⟩ := id hI
  have hV := hI0.1
  have h00 := hI0.2.1
  have h8 := hI0.2.2.2.1
  have h16 := hI0.2.2.2.2.2.1
  have hp := hIC.2.1
  have h14 := hIC.2.2.2.2.1
  obtain ⟨rW, rL, rN, rJ, rS, rH, rC⟩ := id hR
  have haa : mr 0 61 0 = some (0, 57) := ly_61_0 hL
  refine tx_intro (ls := [vR (some (0, 60)), vR (some (g, 5)), vX 0]) om_X4_begin rfl (Nat.le_of_ble_eq_true rfl) ?_
  refine r_aload_n (dc kc_X4_begin_0 0 rfl) rfl <| s_getO (dc kc_X4_begin_0 1 rfl) fl_X4_77 (ly_5_0 hL (by assumption)) <| s_getA (dc kc_X4_begin_0 2 rfl) fl_X4_81 (ly_15_0 hL (by assumption)) <| k_i (dc kc_X4_begin_0 3 rfl) rfl <| r_aload_n (dc kc_X4_begin_0 4 rfl) rfl <| s_getA (dc kc_X4_begin_0 5 rfl) fl_X4_39 (ly_60_5 hL) <| k_i (dc kc_X4_begin_0 6 rfl) rfl <| k_b (dc kc_X4_begin_0 7 rfl) rfl <| s_copy (dc kc_X4_begin_0 8 rfl) rfl rfl cp_X4_84 nat_copy st_copy it_J10 (by first | omega | (simp [up] <;> omega)) (by first | omega | (simp [up] <;> omega)) (by first | omega | (simp [up] <;> omega)) (by first | omega | (simp [up] <;> omega)) (by first | omega | (simp [up] <;> omega)) <| r_aload_n (dc kc_X4_begin_0 9 rfl) rfl <| r_aload_n (dc kc_X4_begin_0 10 rfl) rfl <| s_getA (dc kc_X4_begin_0 11 rfl) fl_X4_42 (ly_60_6 hL) <| c_v1 (dc kc_X4_begin_0 12 rfl) cl_X4_90 rfl (Nat.le_of_ble_eq_true rfl) (Nat.zero_le _) (Nat.zero_le _) ?_
  have gC0 : Cg pBg mi (upA mi 0 63 (cpy (mi g 16) (mi 0 63) 0 0 24)) := Cg.rf.upA (fun k => by simp [pBg])
  have a0 : ag (clR ρ) (clM (upA mi 0 63 (cpy (mi g 16) (mi 0 63) 0 0 24)) 0) := fun c a b => by
    show upA mi 0 63 (cpy (mi g 16) (mi 0 63) 0 0 24) 0 63 c = ρ (30 + c)
    rw [upA_at]
    unfold cpy
    rw [if_pos (by omega), show (0 : Int) + (c - 0) = c by omega]
    exact rW.1 c a b
  have hR0 : Rep (-1) (upA mi 0 63 (cpy (mi g 16) (mi 0 63) 0 0 24)) g ρ := hR.mv (fun a b z => upA_a (fun w => by
    injection w with w1 w2
    subst w1; subst w2
    simp [rlS] at z))
  generalize upA mi 0 63 (cpy (mi g 16) (mi 0 63) 0 0 24) = m0 at *
  obtain ⟨rW0, rL0, rN0, rJ0, rS0, rH0, rC0⟩ := id hR0
  refine u_basePrices hL hg rJ0 rC0 hIW h8 h00 hp (fun m1 g1 hb1 => ?_)
  have gC1 : Cg pBg mi m1 := gC0.tr (g1.mono (fun a b i z => by simp [pBp] at z; simp [pBg, z]))
  have a1 : ag (clR ρ) (clM m1 0) := fun c a b => by
    show m1 0 63 c = _
    rw [g1.at (by simp [pBp])]; exact a0 c a b
  have hbs : ∀ c, 0 ≤ c → c < 24 → 0 ≤ bsP ρ c ∧ bsP ρ c ≤ 9 := fun c a b => by
    have hk := knd_rg a b
    have := hp (knd c) hk.1 (by omega)
    unfold bsP
    split <;> omega
  have s10 : ∀ m : MI, Cg pBg mi m → m g 5 10 = ρ 14 := fun m h => by rw [h.at (by simp [pBg, pQ, pML])]; exact rC.2.2.2.2.2.1
  have s9 : ∀ m : MI, Cg pBg mi m → ∀ c, 0 ≤ c → c < 24 → m g 10 c = ρ (78 + c) := fun m h c a b => by rw [h.at (by simp [pBg, pQ, pML])]; exact rC.2.2.2.2.1 c a b
  have hcp : cpI ρ = 0 ∨ cpI ρ = 1 := by unfold cpI; split <;> simp
  -- behind the loop
  have tail : ∀ m : MI, Cg pBg mi m → ag (clR ρ) (clM m 0) → (∀ c, 0 ≤ c → c < 24 → m 0 64 c = bsP ρ c) → (∀ c, 0 ≤ c → c < 24 → m 0 65 c = if ρ 14 = 1 then ρ (78 + c) else -1000) → m 0 60 8 ≤ 9 → (∀ c, 0 ≤ c → c < 24 → m 0 60 8 ≤ bsP ρ c - cpI ρ) → Run (d+5) mt_X4_begin Q (n, mr, 0, 0) m 101 [vR (some (0, 60)), vR (some (g, 5)), vI 24] [] := by
    intro m gC ga g64 g65 g8 g8b
    refine r_aload_n (dc kc_X4_begin_1 12 rfl) rfl <| r_aload_n (dc kc_X4_begin_1 13 rfl) rfl <| s_getI (dc kc_X4_begin_1 14 rfl) fl_X4_48 <| k_i (dc kc_X4_begin_1 15 rfl) rfl <| c_s2r (dc kc_X4_begin_1 16 rfl) cl_X4_106 rfl (Nat.le_of_ble_eq_true rfl) (Nat.zero_le _) (Nat.zero_le _) <| u_max <| s_putI (dc kc_X4_begin_1 17 rfl) fl_X4_48 <| r_aload_n (dc kc_X4_begin_1 18 rfl) rfl <| s_getA (dc kc_X4_begin_1 19 rfl) fl_X4_20 (ly_60_1 hL) <| k_i (dc kc_X4_begin_1 20 rfl) rfl <| s_aaload (dc kc_X4_begin_1 21 rfl) rfl (by decide) (by first | omega | (simp [up] <;> omega)) (by first | omega | (simp [up] <;> omega)) haa <| k_i (dc kc_X4_begin_1 22 rfl) rfl <| c_v1 (dc kc_X4_begin_1 23 rfl) cl_X4_109 rfl (Nat.le_of_ble_eq_true rfl) (Nat.zero_le _) (Nat.zero_le _) ?_
    refine u_mclear (fun m2 g2 hml => ?_)
    have gC2 : Cg pBg mi m2 := (gC.up (by simp [pBg])).tr (g2.mono (fun a b i z => by simp [pBg, z]))
    have q8 : m2 0 60 8 = max (m 0 60 8) 1 := by rw [g2.at (by simp [pML]), up_at]
    have q64 : ∀ c, 0 ≤ c → c < 24 → m2 0 64 c = bsP ρ c := fun c a b => by rw [g2.at (by simp [pML]), up_j (by decide)]; exact g64 c a b
    have q65 : ∀ c, 0 ≤ c → c < 24 → m2 0 65 c = if ρ 14 = 1 then ρ (78 + c) else -1000 := fun c a b => by rw [g2.at (by simp [pML]), up_j (by decide)]; exact g65 c a b
    have q63 : ag (clR ρ) (clM m2 0) := fun c a b => by
      show m2 0 63 c = _
      rw [g2.at (by simp [pML]), up_j (by decide)]; exact ga c a b
    have hMB : MB m2 ρ := by
      refine ⟨fun c a b => ⟨by rw [q64 c a b]; exact hbs c a b, fun v hv => ?_⟩, by omega, by omega⟩
      rw [q64 c a b, q65 c a b, q8]
      have hx := g8b c a b
      have e : bsP ρ c - (if v = (if ρ 14 = 1 then ρ (78 + c) else -1000) then 1 else 0) = ρ (102 + knd c) - (if lateF ρ c (ρ 8).toNat = true then 1 else 0) - (if ρ 14 = 1 ∧ ρ (78 + c) = v then 1 else 0) := by
        unfold bsP
        by_cases h1 : ρ 14 = 1
        · rw [if_pos h1]
          by_cases h2 : v = ρ (78 + c)
          · rw [if_pos h2, if_pos (show ρ 14 = 1 ∧ ρ (78 + c) = v from ⟨h1, h2.symm⟩)]
          · rw [if_neg h2, if_neg (show ¬ (ρ 14 = 1 ∧ ρ (78 + c) = v) from fun z => h2 z.2.symm)]
        · rw [if_neg h1, if_neg (show ¬ v = -1000 by omega), if_neg (show ¬ (ρ 14 = 1 ∧ ρ (78 + c) = v) from fun z => h1 z.1)]
      refine ⟨by unfold prR; rw [e], ?_⟩
      have e2 : prR ρ c v = max 1 (bsP ρ c - (if v = (if ρ 14 = 1 then ρ (78 + c) else -1000) then 1 else 0)) := by unfold prR; rw [e]
      rw [e2]
      unfold cpI at hx
      by_cases h1 : ρ 14 = 1
      · rw [if_pos h1] at hx ⊢
        split <;> omega
      · rw [if_neg h1] at hx ⊢
        rw [if_neg (show ¬ v = -1000 by omega)]
        omega
    refine r_aload_n (dc kc_X4_begin_1 24 rfl) rfl <| s_getA (dc kc_X4_begin_1 25 rfl) fl_X4_24 (ly_60_2 hL) <| k_i (dc kc_X4_begin_1 26 rfl) rfl <| k_i (dc kc_X4_begin_1 27 rfl) rfl <| s_iastore (dc kc_X4_begin_1 28 rfl) rfl (by first | omega | (simp [up] <;> omega)) (by first | omega | (simp [up] <;> omega)) <| r_aload_n (dc kc_X4_begin_1 29 rfl) rfl <| s_getO (dc kc_X4_begin_1 30 rfl) fl_X4_12 (ly_60_0 hL) <| r_aload_n (dc kc_X4_begin_1 31 rfl) rfl <| s_getA (dc kc_X4_begin_1 32 rfl) fl_X4_39 (ly_60_5 hL) <| c_v1 (dc kc_X4_begin_1 33 rfl) cl_X4_113 rfl (Nat.le_of_ble_eq_true rfl) (Nat.zero_le _) (Nat.zero_le _) ?_
    refine u_rbegin ?_
    have hR0 : Cr mr (upR mr 2 50 0 (some (0, 63))) := Cr.rf.cel (fun z => by first | rfl | omega)
    have hcel : upR mr 2 50 0 (some (0, 63)) 2 50 0 = some (0, 63) := upR_at
    have hL1 := hR0.lay hL
    generalize upR mr 2 50 0 (some (0, 63)) = mr1 at *
    have hL := hL1
    have haa : mr1 0 61 0 = some (0, 57) := ly_61_0 hL
    have gC3 : Cg pBg mi (up (up (up m2 0 62 0 (-1)) 2 50 3 0) 2 50 4 0) := ((gC2.up (by simp [pBg])).up (by simp [pBg, pQ])).up (by simp [pBg, pQ])
    have b3 : Bm (up (up (up m2 0 62 0 (-1)) 2 50 3 0) 2 50 4 0 2 50 3) [] := by rw [up_k (by decide), up_at]; exact Bm.nil
    have r63 : ag (clR ρ) (clM (up (up (up m2 0 62 0 (-1)) 2 50 3 0) 2 50 4 0) 0) := fun c a b => by
      show up (up (up m2 0 62 0 (-1)) 2 50 3 0) 2 50 4 0 0 63 c = _
      rw [up_j (by decide), up_j (by decide), up_j (by decide)]; exact q63 c a b
    have r62 : up (up (up m2 0 62 0 (-1)) 2 50 3 0) 2 50 4 0 0 62 0 = -1 := by rw [up_j (by decide), up_j (by decide), up_at]
    have rMB : MB (up (up (up m2 0 62 0 (-1)) 2 50 3 0) 2 50 4 0) ρ := hMB.mv (by rw [up_j (by decide), up_j (by decide), up_j (by decide)]) (by rw [up_j (by decide), up_j (by decide), up_j (by decide)]) (by rw [up_j (by decide), up_j (by decide), up_j (by decide)])
    have rML : ∀ P, ML (up (up (up m2 0 62 0 (-1)) 2 50 3 0) 2 50 4 0) 0 0 P [] := fun P => (hml P).mv (by rw [up_j (by decide), up_j (by decide), up_j (by decide)]) (by rw [up_j (by decide), up_j (by decide), up_j (by decide)])
    generalize up (up (up m2 0 62 0 (-1)) 2 50 3 0) 2 50 4 0 = m3 at *
    have hR3 : Rep (-1) m3 g ρ := hR.mv (fun a b z => gC3.row (fun i => by simp [rlS] at z; simp [pBg, pQ, pML]; omega))
    have rL3 := hR3.2.1
    have hwf : ∀ l, 0 ≤ l → l < ρ 16 → Law (lawC ρ l) := fun l a b => (rL3.2 l a b).1.2.2.2.2
    refine r_aload_n (dc kc_X4_begin_1 34 rfl) rfl <| s_getO (dc kc_X4_begin_1 35 rfl) fl_X4_12 (ly_60_0 hL) <| r_aload_n (dc kc_X4_begin_1 36 rfl) rfl <| s_getO (dc kc_X4_begin_1 37 rfl) fl_X4_70 (ly_5_1 hL (by assumption)) <| c_v1r (dc kc_X4_begin_1 38 rfl) cl_X4_115 rfl (Nat.le_of_ble_eq_true rfl) (Nat.zero_le _) (Nat.zero_le _) ?_
    -- known
    have fin : ∀ m4 : MI, Cg pBg mi m4 → ag (clR ρ) (clM m4 0) → MB m4 ρ → MkV m4 ρ 0 (m4 0 62 0) → Run (d+5) mt_X4_begin Q (n, mr1, 0, 0) m4 173 [vR (some (0, 60)), vR (some (g, 5)), vI 24] [] := by
      intro m4 t1 t2 t3 t4
      refine r_aload_n (dc kc_X4_begin_2 12 rfl) rfl <| k_i (dc kc_X4_begin_2 13 rfl) rfl <| s_putI (dc kc_X4_begin_2 14 rfl) fl_X4_28 <| s_return (dc kc_X4_begin_2 15 rfl) rfl (Nat.zero_le _) (Nat.zero_le _) ?_
      refine hQ _ mr1 (t1.up (by simp [pBg])) hR0 hcel up_at (t3.mv (by rw [up_j (by decide)]) (by rw [up_j (by decide)]) (by rw [up_k (by decide)])) (fun c a b => ?_) ?_
      · show up m4 0 60 3 0 0 63 c = _
        rw [up_j (by decide)]; exact t2 c a b
      · rw [up_j (by decide)]
        exact t4.mv (fun C _ => ⟨by rw [up_j (by decide)], by rw [up_j (by decide)]⟩)
    have vnil : ∀ l, 0 ≤ l → l < ρ 16 → valA (clM m3 0) (lawC ρ l) = valA (clR (rowA ρ [])) (lawC ρ l) := fun l a b => valA_ag hV r63 (hwf l a b)
    refine mu_allHold hL (by decide) hok2 hcel (hV.ag r63) (K := lawC ρ) (by rw [rL3.1]; omega) (fun l a b => (rL3.2 l a (by rw [← rL3.1]; exact b)).1) b3 (fun hall m4 g4 => ?_) (fun hbr m4 g4 => ?_)
    · have gC4 : Cg pBg mi m4 := gC3.tr (g4.mono (fun a b i z => by simp [pBg, z]))
      have hold : Hold ρ [] := fun l a b => by rw [← vnil l a b]; exact hall l a (by rw [rL3.1]; exact b)
      have hmn : Mnd ρ [] := ⟨List.Pairwise.nil, ⟨by simp, fun q hq => by cases hq⟩, hold⟩
      have hML4 : ML m4 0 0 0 [] := (rML 0).mv (g4.row (fun i => by simp [pQ])) (g4.row (fun i => by simp [pQ]))
      refine s_if_eq (tgt := 173) (dc kc_X4_begin_1 39 rfl) rfl (fun c152 => (?_)) (fun c152 => (r_aload_n (dc kc_X4_begin_2 0 rfl) rfl <| s_getA (dc kc_X4_begin_2 1 rfl) fl_X4_20 (ly_60_1 hL) <| k_i (dc kc_X4_begin_2 2 rfl) rfl <| s_aaload (dc kc_X4_begin_2 3 rfl) rfl (by decide) (by first | omega | (simp [up] <;> omega)) (by first | omega | (simp [up] <;> omega)) haa <| k_i (dc kc_X4_begin_2 4 rfl) rfl <| k_i (dc kc_X4_begin_2 5 rfl) rfl <| c_v2 (dc kc_X4_begin_2 6 rfl) cl_X4_119 rfl (Nat.le_of_ble_eq_true rfl) (Nat.zero_le _) (Nat.zero_le _) ?_))
      · exfalso; omega
      · refine u_madd hL (by decide) hML4 (by decide) (fun z => absurd rfl z) (fun z => absurd rfl z) (fun m5 K' g5 ML5 mem5 _ => ?_)
        refine r_aload_n (dc kc_X4_begin_2 7 rfl) rfl <| s_getA (dc kc_X4_begin_2 8 rfl) fl_X4_24 (ly_60_2 hL) <| k_i (dc kc_X4_begin_2 9 rfl) rfl <| k_i (dc kc_X4_begin_2 10 rfl) rfl <| s_iastore (dc kc_X4_begin_2 11 rfl) rfl (by first | omega | (simp [up] <;> omega)) (by first | omega | (simp [up] <;> omega)) <| ?_
        have gC5 : Cg pBg mi m5 := gC4.tr (g5.mono (fun a b i z => by simp [pBg, z]))
        have hmem : ∀ y, y ∈ K' ↔ y = 0 := fun y => by rw [mem5 y]; simp
        have hne : K' ≠ [] := fun z => by have := (hmem 0).mpr rfl; rw [z] at this; cases this
        refine fin _ (gC5.up (by simp [pBg])) (fun c a b => ?_) ((rMB.mv (mi' := m5) (by rw [g5.row (fun i => by simp [pML]), g4.row (fun i => by simp [pQ])]) (by rw [g5.row (fun i => by simp [pML]), g4.row (fun i => by simp [pQ])]) (by rw [g5.at (by simp [pML]), g4.at (by simp [pQ])])).mv (by rw [up_j (by decide)]) (by rw [up_j (by decide)]) (by rw [up_j (by decide)])) ?_
        · show up m5 0 62 0 0 0 63 c = _
          rw [up_j (by decide), g5.at (by simp [pML]), g4.at (by simp [pQ])]; exact r63 c a b
        · rw [up_at]
          refine Or.inr ⟨0, 0, K', rfl, ML5.mv (by rw [up_j (by decide)]) (by rw [up_j (by decide)]), hne, ⟨⟨[], hmn, rfl, rfl⟩, Int.le_refl _, fun L hL' hl => Or.inr ?_⟩, ML5.2.2.2.1, fun y => ?_⟩
          · have : L = [] := List.length_eq_zero_iff.mp (by omega)
            subst this; exact ⟨rfl, Int.le_refl _⟩
          · rw [hmem y]
            constructor
            · intro z; exact ⟨[], hmn, rfl, rfl, by rw [z]; rfl⟩
            · rintro ⟨L, _, z2, _, z4⟩
              have : L = [] := List.length_eq_zero_iff.mp (by omega)
              subst this; rw [← z4]; rfl
    · have gC4 : Cg pBg mi m4 := gC3.tr (g4.mono (fun a b i z => by simp [pBg, z]))
      refine s_if_eq (tgt := 173) (dc kc_X4_begin_1 39 rfl) rfl (fun c152 => (?_)) (fun c152 => (?_))
      · refine fin m4 gC4 (fun c a b => ?_) (rMB.mv (g4.row (fun i => by simp [pQ])) (g4.row (fun i => by simp [pQ])) (g4.at (by simp [pQ]))) ?_
        · show m4 0 63 c = _
          rw [g4.at (by simp [pQ])]; exact r63 c a b
        · rw [g4.at (by simp [pQ]), r62]
          refine Or.inl ⟨rfl, fun L hL' => ?_⟩
          by_cases e : L = []
          · obtain ⟨l, w1, w2, w3⟩ := hbr
            rw [rL3.1] at w2
            rw [vnil l w1 w2] at w3
            have := hL'.2.2 l w1 w2
            rw [e, w3] at this
            cases this
          · have := List.length_pos_iff.mpr e
            omega
      · exfalso; omega
  have loop : ∀ i : Nat, i ≤ 24 → ∀ m : MI, Cg pBg mi m → ag (clR ρ) (clM m 0) → (∀ c, 0 ≤ c → c < 24 → m 0 64 c = bsP ρ c) → (∀ c, 0 ≤ c → c < (i : Int) → m 0 65 c = if ρ 14 = 1 then ρ (78 + c) else -1000) → m 0 60 8 ≤ 9 → -1 ≤ m 0 60 8 → (∀ c, 0 ≤ c → c < (i : Int) → m 0 60 8 ≤ bsP ρ c - cpI ρ) → Run (d+5) mt_X4_begin Q (n, mr, 0, 0) m 34 [vR (some (0, 60)), vR (some (g, 5)), vI (i : Int)] [] := by
    refine nloop ?_
    intro i hi ih m gC ga g64 g65 g8 g8n g8b
    by_cases he : i < 24
    · have z10 := s10 m gC
      have z9 := s9 m gC i (by omega) (by omega)
      have z64 := g64 i (by omega) (by omega)
      have zb := hbs i (by omega) (by omega)
      have ih := ih he
      -- one cell
      have one : ∀ (y x : Int), y = (if ρ 14 = 1 then ρ (78 + (i : Int)) else -1000) → x = min (m 0 60 8) (bsP ρ i - cpI ρ) → Run (d+5) mt_X4_begin Q (n, mr, 0, 0) (up (up m 0 65 i y) 0 60 8 x) 34 [vR (some (0, 60)), vR (some (g, 5)), vI ((i : Int) + 1)] [] := by
        intro y x hy hx
        refine ih _ ((gC.up (by simp [pBg])).up (by simp [pBg])) (fun c a b => ?_) (fun c a b => ?_) (fun c a b => ?_) (by rw [up_at]; omega) (by rw [up_at]; omega) (fun c a b => ?_)
        · show up (up m 0 65 i y) 0 60 8 x 0 63 c = _
          rw [up_j (by decide), up_j (by decide)]; exact ga c a b
        · rw [up_j (by decide), up_j (by decide)]; exact g64 c a b
        · rw [up_j (by decide)]
          by_cases e : c = i
          · subst e; rw [up_at]; exact hy
          · rw [up_k e]; exact g65 c a (by omega)
        · rw [up_at]
          by_cases e : c = i
          · subst e; omega
          · have := g8b c a (by omega); omega
      have w10 : ∀ y, up m 0 65 i y g 5 10 = ρ 14 := fun y => by rw [up_j (by decide)]; exact z10
      have w64 : ∀ y, up m 0 65 i y 0 64 i = bsP ρ i := fun y => by rw [up_j (by decide)]; exact z64
      have w8 : ∀ y, up m 0 65 i y 0 60 8 = m 0 60 8 := fun y => by rw [up_j (by decide)]
      refine s_iload_n (dc kc_X4_begin_0 18 rfl) rfl <| k_b (dc kc_X4_begin_0 19 rfl) rfl <| s_icmp_ge (tgt := 101) (dc kc_X4_begin_0 20 rfl) rfl (fun c37 => (?_)) (fun c37 => (r_aload_n (dc kc_X4_begin_0 21 rfl) rfl <| s_getA (dc kc_X4_begin_0 22 rfl) fl_X4_45 (ly_60_7 hL) <| s_iload_n (dc kc_X4_begin_0 23 rfl) rfl <| r_aload_n (dc kc_X4_begin_0 24 rfl) rfl <| s_getZ (dc kc_X4_begin_0 25 rfl) fl_X4_94 <| s_if_eq (tgt := 61) (dc kc_X4_begin_0 26 rfl) rfl (fun c49 => (k_s (dc kc_X4_begin_0 32 rfl) rfl <| s_iastore (dc kc_X4_begin_0 33 rfl) rfl (by first | omega | (simp [up] <;> omega)) (by first | omega | (simp [up] <;> omega)) <| ?_)) (fun c49 => (r_aload_n (dc kc_X4_begin_0 27 rfl) rfl <| s_getA (dc kc_X4_begin_0 28 rfl) fl_X4_97 (ly_5_9 hL (by assumption)) <| s_iload_n (dc kc_X4_begin_0 29 rfl) rfl <| s_iaload (dc kc_X4_begin_0 30 rfl) rfl (by first | omega | (simp [up] <;> omega)) (by first | omega | (simp [up] <;> omega)) <| s_goto (tgt := 64) (dc kc_X4_begin_0 31 rfl) rfl <| s_iastore (dc kc_X4_begin_0 33 rfl) rfl (by first | omega | (simp [up] <;> omega)) (by first | omega | (simp [up] <;> omega)) <| ?_))))
      · exfalso; omega
      · rw [z10] at c49
        have hcp0 : cpI ρ = 0 := by unfold cpI; rw [if_neg (by omega)]
        have w := w10 (-1000)
        refine r_aload_n (dc kc_X4_begin_0 34 rfl) rfl <| r_aload_n (dc kc_X4_begin_0 35 rfl) rfl <| s_getI (dc kc_X4_begin_0 36 rfl) fl_X4_48 <| r_aload_n (dc kc_X4_begin_0 37 rfl) rfl <| s_getA (dc kc_X4_begin_0 38 rfl) fl_X4_42 (ly_60_6 hL) <| s_iload_n (dc kc_X4_begin_0 39 rfl) rfl <| s_iaload (dc kc_X4_begin_1 0 rfl) rfl (by first | omega | (simp [up] <;> omega)) (by first | omega | (simp [up] <;> omega)) <| r_aload_n (dc kc_X4_begin_1 1 rfl) rfl <| s_getZ (dc kc_X4_begin_1 2 rfl) fl_X4_94 <| s_if_eq (tgt := 87) (dc kc_X4_begin_1 3 rfl) rfl (fun c80 => (k_i (dc kc_X4_begin_1 6 rfl) rfl <| b_isub (dc kc_X4_begin_1 7 rfl) (by first | omega | (simp [up] <;> omega)) (by first | omega | (simp [up] <;> omega)) <| c_s2r (dc kc_X4_begin_1 8 rfl) cl_X4_100 rfl (Nat.le_of_ble_eq_true rfl) (Nat.zero_le _) (Nat.zero_le _) <| u_min <| s_putI (dc kc_X4_begin_1 9 rfl) fl_X4_48 <| b_inc2 (dc kc_X4_begin_1 10 rfl) rfl (Nat.le_of_ble_eq_true rfl) rfl (by first | omega | (simp [up] <;> omega)) (by first | omega | (simp [up] <;> omega)) <| s_goto (tgt := 34) (dc kc_X4_begin_1 11 rfl) rfl <| ?_)) (fun c80 => (k_i (dc kc_X4_begin_1 4 rfl) rfl <| s_goto (tgt := 88) (dc kc_X4_begin_1 5 rfl) rfl <| b_isub (dc kc_X4_begin_1 7 rfl) (by first | omega | (simp [up] <;> omega)) (by first | omega | (simp [up] <;> omega)) <| c_s2r (dc kc_X4_begin_1 8 rfl) cl_X4_100 rfl (Nat.le_of_ble_eq_true rfl) (Nat.zero_le _) (Nat.zero_le _) <| u_min <| s_putI (dc kc_X4_begin_1 9 rfl) fl_X4_48 <| b_inc2 (dc kc_X4_begin_1 10 rfl) rfl (Nat.le_of_ble_eq_true rfl) rfl (by first | omega | (simp [up] <;> omega)) (by first | omega | (simp [up] <;> omega)) <| s_goto (tgt := 34) (dc kc_X4_begin_1 11 rfl) rfl <| ?_))
        · rw [w8, w64]
          exact one _ _ (by rw [if_neg (by omega)]) (by rw [hcp0])
        · exfalso; omega
      · rw [z10] at c49
        have h1 : ρ 14 = 1 := by omega
        have hcp1 : cpI ρ = 1 := by unfold cpI; rw [if_pos h1]
        have w := w10 (m g 10 i)
        have w' := w64 (m g 10 i)
        have w'' := w8 (m g 10 i)
        refine r_aload_n (dc kc_X4_begin_0 34 rfl) rfl <| r_aload_n (dc kc_X4_begin_0 35 rfl) rfl <| s_getI (dc kc_X4_begin_0 36 rfl) fl_X4_48 <| r_aload_n (dc kc_X4_begin_0 37 rfl) rfl <| s_getA (dc kc_X4_begin_0 38 rfl) fl_X4_42 (ly_60_6 hL) <| s_iload_n (dc kc_X4_begin_0 39 rfl) rfl <| s_iaload (dc kc_X4_begin_1 0 rfl) rfl (by first | omega | (simp [up] <;> omega)) (by first | omega | (simp [up] <;> omega)) <| r_aload_n (dc kc_X4_begin_1 1 rfl) rfl <| s_getZ (dc kc_X4_begin_1 2 rfl) fl_X4_94 <| s_if_eq (tgt := 87) (dc kc_X4_begin_1 3 rfl) rfl (fun c80 => (k_i (dc kc_X4_begin_1 6 rfl) rfl <| b_isub (dc kc_X4_begin_1 7 rfl) (by first | omega | (simp [up] <;> omega)) (by first | omega | (simp [up] <;> omega)) <| c_s2r (dc kc_X4_begin_1 8 rfl) cl_X4_100 rfl (Nat.le_of_ble_eq_true rfl) (Nat.zero_le _) (Nat.zero_le _) <| u_min <| s_putI (dc kc_X4_begin_1 9 rfl) fl_X4_48 <| b_inc2 (dc kc_X4_begin_1 10 rfl) rfl (Nat.le_of_ble_eq_true rfl) rfl (by first | omega | (simp [up] <;> omega)) (by first | omega | (simp [up] <;> omega)) <| s_goto (tgt := 34) (dc kc_X4_begin_1 11 rfl) rfl <| ?_)) (fun c80 => (k_i (dc kc_X4_begin_1 4 rfl) rfl <| s_goto (tgt := 88) (dc kc_X4_begin_1 5 rfl) rfl <| b_isub (dc kc_X4_begin_1 7 rfl) (by first | omega | (simp [up] <;> omega)) (by first | omega | (simp [up] <;> omega)) <| c_s2r (dc kc_X4_begin_1 8 rfl) cl_X4_100 rfl (Nat.le_of_ble_eq_true rfl) (Nat.zero_le _) (Nat.zero_le _) <| u_min <| s_putI (dc kc_X4_begin_1 9 rfl) fl_X4_48 <| b_inc2 (dc kc_X4_begin_1 10 rfl) rfl (Nat.le_of_ble_eq_true rfl) rfl (by first | omega | (simp [up] <;> omega)) (by first | omega | (simp [up] <;> omega)) <| s_goto (tgt := 34) (dc kc_X4_begin_1 11 rfl) rfl <| ?_))
        · exfalso; omega
        · rw [w8, w64]
          exact one _ _ (by rw [if_pos h1, z9]) (by rw [hcp1])
    · have e : i = 24 := by omega
      subst e
      refine s_iload_n (dc kc_X4_begin_0 18 rfl) rfl <| k_b (dc kc_X4_begin_0 19 rfl) rfl <| s_icmp_ge (tgt := 101) (dc kc_X4_begin_0 20 rfl) rfl (fun c37 => (?_)) (fun c37 => (?_))
      · exact tail m gC ga g64 g65 g8 g8b
      · exfalso; omega
  refine r_aload_n (dc kc_X4_begin_0 13 rfl) rfl <| k_b (dc kc_X4_begin_0 14 rfl) rfl <| s_putI (dc kc_X4_begin_0 15 rfl) fl_X4_48 <| k_i (dc kc_X4_begin_0 16 rfl) rfl <| t_i2 (dc kc_X4_begin_0 17 rfl) (Nat.le_of_ble_eq_true rfl) rfl <| ?_
  refine loop 0 (Nat.zero_le _) _ (gC1.up (by simp [pBg])) (fun c a b => ?_) (fun c a b => ?_) (fun c a b => by omega) (by rw [up_at]; decide) (by rw [up_at]; decide) (fun c a b => by omega)
  · show up m1 0 60 8 9 0 63 c = _
    rw [up_j (by decide)]; exact a1 c a b
  · rw [up_j (by decide)]; exact hb1 c a b
/-- what the mender keeps of a row -/
def MkK (mi : MI) (mr : MR) (ρ : Int → Int) : Prop := mi 0 60 3 = -1 ∨ ((0 ≤ mi 0 60 3 ∧ mi 0 60 3 ≤ 3) ∧ mr 2 50 0 = some (0, 63) ∧ MB mi ρ ∧ ag (clR ρ) (clM mi 0) ∧ ∀ j, 0 ≤ j → j ≤ mi 0 60 3 → MkV mi ρ j (mi 0 62 j))
def pMd (a b : Nat) (i : Int) : Bool := pQ 2 a b i || (57 ≤ b && b ≤ 68)
theorem pBg_pMd {a b : Nat} {i : Int} (z : pBg a b i = true) : pMd a b i = true := by
  simp [pBg, pML] at z
  simp [pMd]
  rcases z with (z | z) | z
  · exact Or.inl z
  · exact Or.inr (by omega)
  · exact Or.inr (by omega)
theorem pSe_pMd {k a b : Nat} {i : Int} (z : pSe k a b i = true) : pMd a b i = true := by
  simp [pSe, pGr, pML] at z
  simp [pMd]
  rcases z with (((z | z) | z) | z) | z
  · exact Or.inl z
  · exact Or.inr (by omega)
  · exact Or.inr (by omega)
  · exact Or.inr (by omega)
  · exact Or.inr (by omega)
theorem Rep.md {mi mi' : MI} {g : Nat} {ρ : Int → Int} {e : Int} (h : Rep e mi g ρ) (hC : Cg pMd mi mi') : Rep e mi' g ρ := h.mv (fun a b z => hC.row (fun i => by
  simp [rlS] at z
  simp [pMd, pQ]
  omega))
theorem u_leastBy (hL : Lay G mr) {mi : MI} {g : Nat} {ρ : Int → Int} {B m : Int} (hg : g < G) (hR : Rep (-1) mi g ρ) (hI : Inv B ρ) (hK : MkK mi mr ρ) (hm1 : 1 ≤ m) (hm3 : m ≤ 3) (hQ0 : ∀ mi' mr', Cg pMd mi mi' → Cr mr mr' → MkK mi' mr' ρ → NoMend ρ m → Q (vR none) mi' n mr') (hQ1 : ∀ mi' mr' C P K, Cg pMd mi mi' → Cr mr mr' → MkK mi' mr' ρ → C ≤ 3 → ML mi' C C P K → K ≠ [] → Least ρ m P C → Keys key5 ρ P C K → Q (vR (some (C, 57))) mi' n mr') : Tx (d+12) mt_X4_leastBy [vR (some (0, 60)), vR (some (g, 5)), vI m] mi n mr Q := by
  have hok : okI G 5 g := hg
  have hok2 : okI G 20 g := Or.inl hg
  have hV := hI.1.1
  have h16 := hI.1.2.2.2.2.2.1
  refine tx_intro (ls := [vR (some (0, 60)), vR (some (g, 5)), vI m, vX 0]) om_X4_leastBy rfl (Nat.le_of_ble_eq_true rfl) ?_
  -- what is wanting is searched
  have loop : ∀ (mr1 : MR), Lay G mr1 → Cr mr mr1 → mr1 2 50 0 = some (0, 63) → mr1 0 60 4 = some (g, 20) → ∀ (r i : Nat) (m1 : MI), 1 ≤ i → ((i : Int) + r = m + 1 ∨ (r = 0 ∧ m < i)) → i ≤ 4 → Cg pMd mi m1 → m1 0 60 3 = (i : Int) - 1 → MB m1 ρ → ag (clR ρ) (clM m1 0) → (∀ j, 0 ≤ j → j < (i : Int) → MkV m1 ρ j (m1 0 62 j)) → Run (d+12) mt_X4_leastBy Q (n, mr1, 0, 0) m1 40 [vR (some (0, 60)), vR (some (g, 5)), vI m, vI (i : Int)] [] := by
    intro mr1 hL hCr hcel hmlw r
    induction r with
    | zero =>
      intro i m1 hi1 hir hi4 gC g3 gB ga gV
      have hK1 : MkK m1 mr1 ρ := Or.inr ⟨by omega, hcel, gB, ga, fun j a b => gV j a (by omega)⟩
      have hv := gV m (by omega) (by omega)
      refine s_iload_n (dc kc_X4_leastBy_0 24 rfl) rfl <| s_iload_n (dc kc_X4_leastBy_0 25 rfl) rfl <| s_icmp_gt (tgt := 82) (dc kc_X4_leastBy_0 26 rfl) rfl (fun c42 => (?_)) (fun c42 => (?_))
      · rcases hv with ⟨hs, hno⟩ | ⟨C, P, K, hs, hML, hne, hlst, hkey⟩
        · refine r_aload_n (dc kc_X4_leastBy_1 8 rfl) rfl <| s_getA (dc kc_X4_leastBy_1 9 rfl) fl_X4_24 (ly_60_2 hL) <| s_iload_n (dc kc_X4_leastBy_1 10 rfl) rfl <| s_iaload (dc kc_X4_leastBy_1 11 rfl) rfl (by first | omega | (simp [up] <;> omega)) (by first | omega | (simp [up] <;> omega)) <| k_i (dc kc_X4_leastBy_1 12 rfl) rfl <| s_icmp_ne (tgt := 96) (dc kc_X4_leastBy_1 13 rfl) rfl (fun c89 => (?_)) (fun c89 => (s_null (dc kc_X4_leastBy_1 14 rfl) <| s_goto (tgt := 107) (dc kc_X4_leastBy_1 15 rfl) rfl <| s_areturn (dc kc_X4_leastBy_1 23 rfl) rfl (Nat.zero_le _) (Nat.zero_le _) ?_))
          · exfalso; omega
          · exact hQ0 m1 mr1 gC hCr hK1 hno
        · have hC3 : C ≤ 3 := by have := hlst.2.1; omega
          have haa : mr1 0 61 (m1 0 62 m) = some (C, 57) := by
            rw [hs]
            have : C = 0 ∨ C = 1 ∨ C = 2 ∨ C = 3 := by omega
            rcases this with rfl | rfl | rfl | rfl
            · exact ly_61_0 hL
            · exact ly_61_1 hL
            · exact ly_61_2 hL
            · exact ly_61_3 hL
          refine r_aload_n (dc kc_X4_leastBy_1 8 rfl) rfl <| s_getA (dc kc_X4_leastBy_1 9 rfl) fl_X4_24 (ly_60_2 hL) <| s_iload_n (dc kc_X4_leastBy_1 10 rfl) rfl <| s_iaload (dc kc_X4_leastBy_1 11 rfl) rfl (by first | omega | (simp [up] <;> omega)) (by first | omega | (simp [up] <;> omega)) <| k_i (dc kc_X4_leastBy_1 12 rfl) rfl <| s_icmp_ne (tgt := 96) (dc kc_X4_leastBy_1 13 rfl) rfl (fun c89 => (r_aload_n (dc kc_X4_leastBy_1 16 rfl) rfl <| s_getA (dc kc_X4_leastBy_1 17 rfl) fl_X4_20 (ly_60_1 hL) <| r_aload_n (dc kc_X4_leastBy_1 18 rfl) rfl <| s_getA (dc kc_X4_leastBy_1 19 rfl) fl_X4_24 (ly_60_2 hL) <| s_iload_n (dc kc_X4_leastBy_1 20 rfl) rfl <| s_iaload (dc kc_X4_leastBy_1 21 rfl) rfl (by first | omega | (simp [up] <;> omega)) (by first | omega | (simp [up] <;> omega)) <| s_aaload (dc kc_X4_leastBy_1 22 rfl) rfl (by decide) (by first | omega | (simp [up] <;> omega)) (by first | omega | (simp [up] <;> omega)) haa <| s_areturn (dc kc_X4_leastBy_1 23 rfl) rfl (Nat.zero_le _) (Nat.zero_le _) ?_)) (fun c89 => (s_null (dc kc_X4_leastBy_1 14 rfl) <| s_goto (tgt := 107) (dc kc_X4_leastBy_1 15 rfl) rfl <| s_areturn (dc kc_X4_leastBy_1 23 rfl) rfl (Nat.zero_le _) (Nat.zero_le _) ?_))
          · exact hQ1 m1 mr1 C P K gC hCr hK1 hC3 hML hne hlst hkey
          · exfalso; omega
      · exfalso; omega
    | succ r ih =>
      intro i m1 hi1 hir hi4 gC g3 gB ga gV
      have hi3 : i ≤ 3 := by omega
      have hR1 := hR.md gC
      have hLw : MLw m1 g ρ := ⟨hR1.2.1.1, h16, fun l a b => (hR1.2.1.2 l a b).1⟩
      refine s_iload_n (dc kc_X4_leastBy_0 24 rfl) rfl <| s_iload_n (dc kc_X4_leastBy_0 25 rfl) rfl <| s_icmp_gt (tgt := 82) (dc kc_X4_leastBy_0 26 rfl) rfl (fun c42 => (?_)) (fun c42 => (r_aload_n (dc kc_X4_leastBy_0 27 rfl) rfl <| s_getA (dc kc_X4_leastBy_0 28 rfl) fl_X4_24 (ly_60_2 hL) <| s_iload_n (dc kc_X4_leastBy_0 29 rfl) rfl <| r_aload_n (dc kc_X4_leastBy_0 30 rfl) rfl <| s_iload_n (dc kc_X4_leastBy_0 31 rfl) rfl <| c_v1r (dc kc_X4_leastBy_0 32 rfl) cl_X4_73 rfl (Nat.le_of_ble_eq_true rfl) (Nat.zero_le _) (Nat.zero_le _) ?_))
      · exfalso; omega
      · refine u_search hL hcel hmlw hok2 hi1 hi3 hV gB hLw ga (gV _ (by omega) (by omega)) (fun m2 b hb g2 a2 v2 => ?_)
        have e62 : ∀ j, m2 0 62 j = m1 0 62 j := fun j => g2.at (by simp [pSe, pGr, pQ, pML])
        have gC2 : Cg pMd mi m2 := gC.tr (g2.mono (fun a b i z => pSe_pMd z))
        have B2 : MB m2 ρ := gB.mv (g2.row (fun i => by simp [pSe, pGr, pQ, pML])) (g2.row (fun i => by simp [pSe, pGr, pQ, pML])) (g2.at (by simp [pSe, pGr, pQ, pML]))
        have nxt : ∀ y : Int, y = (if b = 1 then (i : Int) else m1 0 62 ((i : Int) - 1)) → Run (d+12) mt_X4_leastBy Q (n, mr1, 0, 0) (up (up m2 0 62 i y) 0 60 3 i) 40 [vR (some (0, 60)), vR (some (g, 5)), vI m, vI ((i : Int) + 1)] [] := by
          intro y hy
          have := ih (i + 1) (up (up m2 0 62 i y) 0 60 3 i) (by omega) (by omega) (by omega) ((gC2.up (by simp [pMd])).up (by simp [pMd])) (by rw [up_at]; omega) (B2.mv (by rw [up_j (by decide), up_j (by decide)]) (by rw [up_j (by decide), up_j (by decide)]) (by rw [up_k (by decide), up_j (by decide)])) (fun c a b => by
            show up (up m2 0 62 i y) 0 60 3 i 0 63 c = _
            rw [up_j (by decide), up_j (by decide)]; exact a2 c a b) (fun j a bj => by
            have mvv : ∀ s, MkV m2 ρ j s → MkV (up (up m2 0 62 i y) 0 60 3 i) ρ j s := fun s z => z.mv (fun C _ => ⟨by rw [up_j (by decide), up_j (by decide)], by rw [up_j (by decide), up_j (by decide)]⟩)
            rw [up_j (by decide)]
            by_cases e : j = i
            · subst e
              rw [up_at]
              have w := mvv _ v2
              rw [← hy] at w
              exact w
            · rw [up_k e, e62]
              refine mvv _ ((gV j a (by omega)).mv (fun C hC => ?_))
              have hne : C ≠ i := by omega
              exact ⟨g2.row (fun w => by simp [pSe, pGr, pQ, pML, hne]), g2.row (fun w => by simp [pSe, pGr, pQ, pML, hne])⟩)
          rw [show ((i + 1 : Nat) : Int) = (i : Int) + 1 by omega] at this
          exact this
        refine s_if_eq (tgt := 62) (dc kc_X4_leastBy_0 33 rfl) rfl (fun c55 => (r_aload_n (dc kc_X4_leastBy_0 36 rfl) rfl <| s_getA (dc kc_X4_leastBy_0 37 rfl) fl_X4_24 (ly_60_2 hL) <| s_iload_n (dc kc_X4_leastBy_0 38 rfl) rfl <| k_i (dc kc_X4_leastBy_0 39 rfl) rfl <| b_isub (dc kc_X4_leastBy_1 0 rfl) (by first | omega | (simp [up] <;> omega)) (by first | omega | (simp [up] <;> omega)) <| s_iaload (dc kc_X4_leastBy_1 1 rfl) rfl (by first | omega | (simp [up] <;> omega)) (by first | omega | (simp [up] <;> omega)) <| s_iastore (dc kc_X4_leastBy_1 2 rfl) rfl (by first | omega | (simp [up] <;> omega)) (by first | omega | (simp [up] <;> omega)) <| r_aload_n (dc kc_X4_leastBy_1 3 rfl) rfl <| s_iload_n (dc kc_X4_leastBy_1 4 rfl) rfl <| s_putI (dc kc_X4_leastBy_1 5 rfl) fl_X4_28 <| b_inc3 (dc kc_X4_leastBy_1 6 rfl) rfl (Nat.le_of_ble_eq_true rfl) rfl (by first | omega | (simp [up] <;> omega)) (by first | omega | (simp [up] <;> omega)) <| s_goto (tgt := 40) (dc kc_X4_leastBy_1 7 rfl) rfl <| ?_)) (fun c55 => (s_iload_n (dc kc_X4_leastBy_0 34 rfl) rfl <| s_goto (tgt := 70) (dc kc_X4_leastBy_0 35 rfl) rfl <| s_iastore (dc kc_X4_leastBy_1 2 rfl) rfl (by first | omega | (simp [up] <;> omega)) (by first | omega | (simp [up] <;> omega)) <| r_aload_n (dc kc_X4_leastBy_1 3 rfl) rfl <| s_iload_n (dc kc_X4_leastBy_1 4 rfl) rfl <| s_putI (dc kc_X4_leastBy_1 5 rfl) fl_X4_28 <| b_inc3 (dc kc_X4_leastBy_1 6 rfl) rfl (Nat.le_of_ble_eq_true rfl) rfl (by first | omega | (simp [up] <;> omega)) (by first | omega | (simp [up] <;> omega)) <| s_goto (tgt := 40) (dc kc_X4_leastBy_1 7 rfl) rfl <| ?_))
        · rw [e62]
          exact nxt _ (by rw [if_neg (by omega)])
        · exact nxt _ (by rw [if_pos (by omega)])
  have rest : ∀ (m1 : MI) (mr1 : MR), Lay G mr1 → Cr mr mr1 → mr1 2 50 0 = some (0, 63) → Cg pMd mi m1 → (0 ≤ m1 0 60 3 ∧ m1 0 60 3 ≤ 3) → MB m1 ρ → ag (clR ρ) (clM m1 0) → (∀ j, 0 ≤ j → j ≤ m1 0 60 3 → MkV m1 ρ j (m1 0 62 j)) → Run (d+12) mt_X4_leastBy Q (n, mr1, 0, 0) m1 25 [vR (some (0, 60)), vR (some (g, 5)), vI m, vX 0] [] := by
    intro m1 mr1 hL hCr hcel gC g3 gB ga gV
    refine r_aload_n (dc kc_X4_leastBy_0 15 rfl) rfl <| r_aload_n (dc kc_X4_leastBy_0 16 rfl) rfl <| s_getO (dc kc_X4_leastBy_0 17 rfl) fl_X4_70 (ly_5_1 hL (by assumption)) <| s_pO (dc kc_X4_leastBy_0 18 rfl) fl_X4_35 <| r_aload_n (dc kc_X4_leastBy_0 19 rfl) rfl <| s_getI (dc kc_X4_leastBy_0 20 rfl) fl_X4_28 <| k_i (dc kc_X4_leastBy_0 21 rfl) rfl <| b_iadd (dc kc_X4_leastBy_0 22 rfl) (by first | omega | (simp [up] <;> omega)) (by first | omega | (simp [up] <;> omega)) <| t_i3 (dc kc_X4_leastBy_0 23 rfl) (Nat.le_of_ble_eq_true rfl) rfl <| ?_
    have hC2 : Cr mr (upR mr1 0 60 4 (some (g, 20))) := hCr.mlw
    have hcel2 : upR mr1 0 60 4 (some (g, 20)) 2 50 0 = some (0, 63) := by rw [upR_off 2 50 0 (by decide)]; exact hcel
    have hL2 : Lay G (upR mr1 0 60 4 (some (g, 20))) := (Cr.rf.mlw : Cr mr1 _).lay hL
    have := loop _ hL2 hC2 hcel2 upR_at (m + 1 - (m1 0 60 3 + 1)).toNat (m1 0 60 3 + 1).toNat m1 (by omega) (by omega) (by omega) gC (by omega) gB ga (fun j a b => gV j a (by omega))
    rw [show (((m1 0 60 3 + 1).toNat : Nat) : Int) = m1 0 60 3 + 1 by omega] at this
    exact this
  refine s_iload_n (dc kc_X4_leastBy_0 0 rfl) rfl <| k_i (dc kc_X4_leastBy_0 1 rfl) rfl <| s_icmp_lt (tgt := 10) (dc kc_X4_leastBy_0 2 rfl) rfl (fun c2 => (s_null (dc kc_X4_leastBy_0 6 rfl) <| s_areturn (dc kc_X4_leastBy_0 7 rfl) rfl (Nat.zero_le _) (Nat.zero_le _) ?_)) (fun c2 => (s_iload_n (dc kc_X4_leastBy_0 3 rfl) rfl <| k_i (dc kc_X4_leastBy_0 4 rfl) rfl <| s_icmp_le (tgt := 12) (dc kc_X4_leastBy_0 5 rfl) rfl (fun c7 => (r_aload_n (dc kc_X4_leastBy_0 8 rfl) rfl <| s_getI (dc kc_X4_leastBy_0 9 rfl) fl_X4_28 <| k_i (dc kc_X4_leastBy_0 10 rfl) rfl <| s_icmp_ne (tgt := 25) (dc kc_X4_leastBy_0 11 rfl) rfl (fun c17 => (?_)) (fun c17 => (r_aload_n (dc kc_X4_leastBy_0 12 rfl) rfl <| r_aload_n (dc kc_X4_leastBy_0 13 rfl) rfl <| c_v1 (dc kc_X4_leastBy_0 14 rfl) cl_X4_66 rfl (Nat.le_of_ble_eq_true rfl) (Nat.zero_le _) (Nat.zero_le _) ?_)))) (fun c7 => (s_null (dc kc_X4_leastBy_0 6 rfl) <| s_areturn (dc kc_X4_leastBy_0 7 rfl) rfl (Nat.zero_le _) (Nat.zero_le _) ?_))))
  · exfalso; omega
  · rcases hK with z | ⟨z1, z2, z3, z4, z5⟩
    · exact absurd z c17
    · exact rest mi mr hL Cr.rf z2 Cg.rf z1 z3 z4 z5
  · refine u_mbegin hL hg hR hI (fun m1 mr1 g1 hCr hcel e3 gB ga gV => ?_)
    exact rest m1 mr1 (hCr.lay hL) hCr hcel (g1.mono (fun a b i z => pBg_pMd z)) (by omega) gB ga (fun j a b => by
      have : j = 0 := by omega
      subst this; exact gV)
  · exfalso; omega
end MD6
