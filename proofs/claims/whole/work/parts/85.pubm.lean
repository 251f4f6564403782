/-! the class: least, mends, mend -/
theorem ML.lst {mi : MI} {ρ : Int → Int} {m P : Int} {C : Nat} {K : List Int} (hM : ML mi C C P K) (hk : Keys key5 ρ P C K) (hl : Least ρ m P C) : ∃ Y, Lst ρ P C Y ∧ ML mi C C P (Y.map key5) ∧ Y ≠ [] ∧ ∀ L ∈ Y, Mnd ρ L ∧ L.length = C := by
  obtain ⟨Y, h1, h2⟩ := Keys5.lst hk
  refine ⟨Y, h1, by rw [h2]; exact hM, Lst.ne hl h1, fun L hL => ?_⟩
  have := (h1.2 L).mp hL
  exact ⟨this.1, by omega⟩
section PM
variable {d n G : Nat} {mr : MR} {Q : V → MI → Nat → MR → Prop}
theorem u_leastBy0 (hL : Lay G mr) {mi : MI} {g : Nat} {m : Int} (hm : ¬ (1 ≤ m ∧ m ≤ 3)) (hQ : Q (vR none) mi n mr) : Tx (d+1) mt_X4_leastBy [vR (some (0, 60)), vR (some (g, 5)), vI m] mi n mr Q := by
  refine tx_intro (ls := [vR (some (0, 60)), vR (some (g, 5)), vI m, vX 0]) om_X4_leastBy rfl (Nat.le_of_ble_eq_true rfl) ?_
  refine s_iload_n (dc kc_X4_leastBy_0 0 rfl) rfl <| k_i (dc kc_X4_leastBy_0 1 rfl) rfl <| s_icmp_lt (tgt := 10) (dc kc_X4_leastBy_0 2 rfl) rfl (fun c2 => (s_null (dc kc_X4_leastBy_0 6 rfl) <| s_areturn (dc kc_X4_leastBy_0 7 rfl) rfl (Nat.zero_le _) (Nat.zero_le _) ?_)) (fun c2 => (s_iload_n (dc kc_X4_leastBy_0 3 rfl) rfl <| k_i (dc kc_X4_leastBy_0 4 rfl) rfl <| s_icmp_le (tgt := 12) (dc kc_X4_leastBy_0 5 rfl) rfl (fun c7 => (?_)) (fun c7 => (s_null (dc kc_X4_leastBy_0 6 rfl) <| s_areturn (dc kc_X4_leastBy_0 7 rfl) rfl (Nat.zero_le _) (Nat.zero_le _) ?_))))
  · exact hQ
  · exfalso; omega
  · exact hQ
theorem u_refuse {mi : MI} {v : Int} (hQ : Q (vI v) (up mi 0 0 3 v) n mr) : Tx (d+1) mt_X11_refuse [vR (some (0, 0)), vI v] mi n mr Q := by
  refine tx_intro (ls := [vR (some (0, 0)), vI v]) om_X11_refuse rfl (Nat.le_of_ble_eq_true rfl) ?_
  refine r_aload_n (dc kc_X11_refuse 0 rfl) rfl <| s_iload_n (dc kc_X11_refuse 1 rfl) rfl <| s_putI (dc kc_X11_refuse 2 rfl) fl_X11_20 <| s_iload_n (dc kc_X11_refuse 3 rfl) rfl <| s_ireturn (dc kc_X11_refuse 4 rfl) rfl (Nat.zero_le _) (Nat.zero_le _) ?_
  exact hQ
theorem u_answer {mi : MI} {v : Int} (hQ : Q (vI v) (up mi 0 0 3 0) n mr) : Tx (d+1) mt_X11_answer [vR (some (0, 0)), vI v] mi n mr Q := by
  refine tx_intro (ls := [vR (some (0, 0)), vI v]) om_X11_answer rfl (Nat.le_of_ble_eq_true rfl) ?_
  refine r_aload_n (dc kc_X11_answer 0 rfl) rfl <| k_i (dc kc_X11_answer 1 rfl) rfl <| s_putI (dc kc_X11_answer 2 rfl) fl_X11_20 <| s_iload_n (dc kc_X11_answer 3 rfl) rfl <| s_ireturn (dc kc_X11_answer 4 rfl) rfl (Nat.zero_le _) (Nat.zero_le _) ?_
  exact hQ
theorem u_cleast (hL : Lay G mr) {mi : MI} {g : Nat} {ρ : Int → Int} {B m w : Int} (hnow : mr 0 0 4 = some (g, 5)) (hg : g < G) (hR : Rep (-1) mi g ρ) (hI : Inv B ρ) (hK : MkK mi mr ρ) (hQ1 : ¬ ((1 ≤ m ∧ m ≤ 3) ∧ (0 ≤ w ∧ w ≤ 2)) → ∀ mi' mr', Cg pMd mi mi' → Cr mr mr' → MkK mi' mr' ρ → Q (vI (-1)) mi' n mr') (hQ2 : 1 ≤ m → m ≤ 3 → NoMend ρ m → ∀ mi' mr', Cg pMd mi mi' → Cr mr mr' → MkK mi' mr' ρ → Q (vI (-1)) mi' n mr') (hQ3 : 1 ≤ m → m ≤ 3 → (0 ≤ w ∧ w ≤ 2) → ∀ P C Y a, Least ρ m P C → Lst ρ P C Y → (w = 0 → a = P) → (w = 1 → a = min (Y.length : Int) 501) → (w = 2 → (a = 1 ∧ Dif ρ (ρ 15) Y) ∨ (a = 0 ∧ ¬ Dif ρ (ρ 15) Y)) → ∀ mi' mr', Cg pMd mi mi' → Cr mr mr' → MkK mi' mr' ρ → Q (vI a) mi' n mr') : Tx (d+13) mt_X11_least [vR (some (0, 0)), vI m, vI w] mi n mr Q := by
  refine tx_intro (ls := [vR (some (0, 0)), vI m, vI w, vX 0]) om_X11_least rfl (Nat.le_of_ble_eq_true rfl) ?_
  refine r_aload_n (dc kc_X11_least 0 rfl) rfl <| s_getO (dc kc_X11_least 1 rfl) fl_X11_61 (ly_0_10 hL) <| r_aload_n (dc kc_X11_least 2 rfl) rfl <| s_getO (dc kc_X11_least 3 rfl) fl_X11_26 hnow <| s_iload_n (dc kc_X11_least 4 rfl) rfl <| c_v2r (dc kc_X11_least 5 rfl) cl_X11_276 rfl (Nat.le_of_ble_eq_true rfl) (Nat.zero_le _) (Nat.zero_le _) ?_
  by_cases hm : 1 ≤ m ∧ m ≤ 3
  · refine u_leastBy hL hg hR hI hK hm.1 hm.2 (fun mi' mr' g1 hCr hK1 hno => ?_) (fun mi' mr' C P K g1 hCr hK1 hC3 hML hne hlst hkey => ?_)
    · refine t_r3 (dc kc_X11_least 6 rfl) (Nat.le_of_ble_eq_true rfl) rfl <| r_aload_n (dc kc_X11_least 7 rfl) rfl <| s_ifnonnull (tgt := 19) (dc kc_X11_least 8 rfl) rfl (fun c14 => (k_i (dc kc_X11_least 9 rfl) rfl <| s_ireturn (dc kc_X11_least 10 rfl) rfl (Nat.zero_le _) (Nat.zero_le _) ?_)) (fun a14 c14 => (?_))
      · exact hQ2 hm.1 hm.2 hno mi' mr' g1 hCr hK1
      · cases c14
    · obtain ⟨Y, hY, hML', hYne, hYm⟩ := hML.lst hkey hlst
      have hL1 := hCr.lay hL
      have hnow1 : mr' 0 0 4 = some (g, 5) := by rw [hCr.at (by decide) (by decide)]; exact hnow
      have hok : okI G 5 g := hg
      have hokC : okI G 57 C := by show C < 4; omega
      have hL := hL1
      have hnow := hnow1
      have e1 : mi' C 57 1 = P := hML.2.2.1 hne
      have e2 : mi' C 57 2 = (Y.length : Int) := by rw [hML'.2.1, List.length_map]
      have e11 : mi' g 5 11 = ρ 15 := (hR.md g1).2.2.2.2.2.2.2.2.2.2.2.2.1
      refine t_r3 (dc kc_X11_least 6 rfl) (Nat.le_of_ble_eq_true rfl) rfl <| r_aload_n (dc kc_X11_least 7 rfl) rfl <| s_ifnonnull (tgt := 19) (dc kc_X11_least 8 rfl) rfl (fun c14 => (k_i (dc kc_X11_least 9 rfl) rfl <| s_ireturn (dc kc_X11_least 10 rfl) rfl (Nat.zero_le _) (Nat.zero_le _) ?_)) (fun a14 c14 => (?_))
      · cases c14
      by_cases h0 : w = 0
      · refine s_iload_n (dc kc_X11_least 11 rfl) rfl <| s_tabC (k0 := 0) (tgt := 48) (dc kc_X11_least 12 rfl) ?_ rfl rfl rfl <| r_aload_n (dc kc_X11_least 13 rfl) rfl <| s_getI (dc kc_X11_least 14 rfl) fl_X11_280 <| s_ireturn (dc kc_X11_least 15 rfl) rfl (Nat.zero_le _) (Nat.zero_le _) ?_
        · exact h0
        · exact hQ3 hm.1 hm.2 (by omega) P C Y _ hlst hY (fun _ => e1) (fun z => by omega) (fun z => by omega) mi' mr' g1 hCr hK1
      · by_cases h1 : w = 1
        · refine s_iload_n (dc kc_X11_least 11 rfl) rfl <| s_tabC (k0 := 1) (tgt := 53) (dc kc_X11_least 12 rfl) ?_ rfl rfl rfl <| r_aload_n (dc kc_X11_least 16 rfl) rfl <| s_getI (dc kc_X11_least 17 rfl) fl_X11_285 <| k_s (dc kc_X11_least 18 rfl) rfl <| c_s2r (dc kc_X11_least 19 rfl) cl_X11_288 rfl (Nat.le_of_ble_eq_true rfl) (Nat.zero_le _) (Nat.zero_le _) <| u_min <| s_ireturn (dc kc_X11_least 20 rfl) rfl (Nat.zero_le _) (Nat.zero_le _) ?_
          · exact h1
          · exact hQ3 hm.1 hm.2 (by omega) P C Y _ hlst hY (fun z => by omega) (fun _ => by rw [e2]) (fun z => by omega) mi' mr' g1 hCr hK1
        · by_cases h2 : w = 2
          · refine s_iload_n (dc kc_X11_least 11 rfl) rfl <| s_tabC (k0 := 2) (tgt := 64) (dc kc_X11_least 12 rfl) ?_ rfl rfl rfl <| r_aload_n (dc kc_X11_least 21 rfl) rfl <| r_aload_n (dc kc_X11_least 22 rfl) rfl <| s_getO (dc kc_X11_least 23 rfl) fl_X11_26 hnow <| s_getI (dc kc_X11_least 24 rfl) fl_X11_273 <| c_v1r (dc kc_X11_least 25 rfl) cl_X11_293 rfl (Nat.le_of_ble_eq_true rfl) (Nat.zero_le _) (Nat.zero_le _) ?_
            · exact h2
            · rw [e11]
              refine u_differIn (ρ := ρ) hL hC3 hML' hYm hYne (fun hd => ?_) (fun hd => ?_)
              · refine s_if_eq (tgt := 82) (dc kc_X11_least 26 rfl) rfl (fun c75 => (k_i (dc kc_X11_least 29 rfl) rfl <| s_ireturn (dc kc_X11_least 30 rfl) rfl (Nat.zero_le _) (Nat.zero_le _) ?_)) (fun c75 => (k_i (dc kc_X11_least 27 rfl) rfl <| s_goto (tgt := 83) (dc kc_X11_least 28 rfl) rfl <| s_ireturn (dc kc_X11_least 30 rfl) rfl (Nat.zero_le _) (Nat.zero_le _) ?_))
                · exfalso; omega
                · exact hQ3 hm.1 hm.2 (by omega) P C Y _ hlst hY (fun z => by omega) (fun z => by omega) (fun _ => Or.inl ⟨rfl, hd⟩) mi' mr' g1 hCr hK1
              · refine s_if_eq (tgt := 82) (dc kc_X11_least 26 rfl) rfl (fun c75 => (k_i (dc kc_X11_least 29 rfl) rfl <| s_ireturn (dc kc_X11_least 30 rfl) rfl (Nat.zero_le _) (Nat.zero_le _) ?_)) (fun c75 => (k_i (dc kc_X11_least 27 rfl) rfl <| s_goto (tgt := 83) (dc kc_X11_least 28 rfl) rfl <| s_ireturn (dc kc_X11_least 30 rfl) rfl (Nat.zero_le _) (Nat.zero_le _) ?_))
                · exact hQ3 hm.1 hm.2 (by omega) P C Y _ hlst hY (fun z => by omega) (fun z => by omega) (fun _ => Or.inr ⟨rfl, hd⟩) mi' mr' g1 hCr hK1
                · exfalso; omega
          · refine s_iload_n (dc kc_X11_least 11 rfl) rfl <| s_tabD (tgt := 84) (dc kc_X11_least 12 rfl) ?_ rfl <| k_i (dc kc_X11_least 31 rfl) rfl <| s_ireturn (dc kc_X11_least 32 rfl) rfl (Nat.zero_le _) (Nat.zero_le _) ?_
            · omega
            · exact hQ1 (fun z => by omega) mi' mr' g1 hCr hK1
  · refine u_leastBy0 hL hm ?_
    refine t_r3 (dc kc_X11_least 6 rfl) (Nat.le_of_ble_eq_true rfl) rfl <| r_aload_n (dc kc_X11_least 7 rfl) rfl <| s_ifnonnull (tgt := 19) (dc kc_X11_least 8 rfl) rfl (fun c14 => (k_i (dc kc_X11_least 9 rfl) rfl <| s_ireturn (dc kc_X11_least 10 rfl) rfl (Nat.zero_le _) (Nat.zero_le _) ?_)) (fun a14 c14 => (?_))
    · exact hQ1 (fun z => hm z.1) mi mr Cg.rf Cr.rf hK
    · cases c14
theorem u_cmends (hL : Lay G mr) {mi : MI} {g : Nat} {ρ : Int → Int} {B m i k w : Int} (hnow : mr 0 0 4 = some (g, 5)) (hg : g < G) (hR : Rep (-1) mi g ρ) (hI : Inv B ρ) (hK : MkK mi mr ρ) (hQ1 : ¬ ((1 ≤ m ∧ m ≤ 3) ∧ (0 ≤ w ∧ w ≤ 1)) → ∀ mi' mr', Cg pMd mi mi' → Cr mr mr' → MkK mi' mr' ρ → Q (vI (-1000)) mi' n mr') (hQ2 : 1 ≤ m → m ≤ 3 → NoMend ρ m → ∀ mi' mr', Cg pMd mi mi' → Cr mr mr' → MkK mi' mr' ρ → Q (vI (-1000)) mi' n mr') (hQ3 : 1 ≤ m → m ≤ 3 → ∀ P C Y a, Least ρ m P C → Lst ρ P C Y → (¬ ((0 ≤ i ∧ i < min (Y.length : Int) 500) ∧ (0 ≤ k ∧ k < C)) → a = -1000) → ((0 ≤ i ∧ i < min (Y.length : Int) 500) → (0 ≤ k ∧ k < C) → (0 ≤ w ∧ w ≤ 1) → ∃ L q, Y[i.toNat]? = some L ∧ L[k.toNat]? = some q ∧ a = if w = 0 then q.1 else q.2) → (¬ (0 ≤ w ∧ w ≤ 1) → a = -1000) → ∀ mi' mr', Cg pMd mi mi' → Cr mr mr' → MkK mi' mr' ρ → Q (vI a) mi' n mr') : Tx (d+13) mt_X11_mends [vR (some (0, 0)), vI m, vI i, vI k, vI w] mi n mr Q := by
  refine tx_intro (ls := [vR (some (0, 0)), vI m, vI i, vI k, vI w, vX 0]) om_X11_mends rfl (Nat.le_of_ble_eq_true rfl) ?_
  refine r_aload_n (dc kc_X11_mends 0 rfl) rfl <| s_getO (dc kc_X11_mends 1 rfl) fl_X11_61 (ly_0_10 hL) <| r_aload_n (dc kc_X11_mends 2 rfl) rfl <| s_getO (dc kc_X11_mends 3 rfl) fl_X11_26 hnow <| s_iload_n (dc kc_X11_mends 4 rfl) rfl <| c_v2r (dc kc_X11_mends 5 rfl) cl_X11_276 rfl (Nat.le_of_ble_eq_true rfl) (Nat.zero_le _) (Nat.zero_le _) ?_
  by_cases hm : 1 ≤ m ∧ m ≤ 3
  · refine u_leastBy hL hg hR hI hK hm.1 hm.2 (fun mi' mr' g1 hCr hK1 hno => ?_) (fun mi' mr' C P K g1 hCr hK1 hC3 hML hne hlst hkey => ?_)
    · refine t_r5 (dc kc_X11_mends 6 rfl) (Nat.le_of_ble_eq_true rfl) rfl <| r_aload (dc kc_X11_mends 7 rfl) rfl <| s_ifnull (tgt := 41) (dc kc_X11_mends 8 rfl) rfl (fun c16 => (k_s (dc kc_X11_mends 19 rfl) rfl <| s_ireturn (dc kc_X11_mends 20 rfl) rfl (Nat.zero_le _) (Nat.zero_le _) ?_)) (fun a16 c16 => (?_))
      · exact hQ2 hm.1 hm.2 hno mi' mr' g1 hCr hK1
      · cases c16
    · obtain ⟨Y, hY, hML', hYne, hYm⟩ := hML.lst hkey hlst
      have hL1 := hCr.lay hL
      have hokC : okI G 57 C := by show C < 4; omega
      have hL := hL1
      have e0 : mi' C 57 0 = (C : Int) := hML.1
      have e3 : mi' C 57 3 = min (Y.length : Int) 500 := by rw [hML'.2.2.2.2.1, List.length_map]
      have no : ¬ ((0 ≤ i ∧ i < min (Y.length : Int) 500) ∧ (0 ≤ k ∧ k < (C : Int))) → Q (vI (-1000)) mi' n mr' := fun hn => hQ3 hm.1 hm.2 P C Y _ hlst hY (fun _ => rfl) (fun a b => absurd ⟨a, b⟩ hn) (fun _ => rfl) mi' mr' g1 hCr hK1
      refine t_r5 (dc kc_X11_mends 6 rfl) (Nat.le_of_ble_eq_true rfl) rfl <| r_aload (dc kc_X11_mends 7 rfl) rfl <| s_ifnull (tgt := 41) (dc kc_X11_mends 8 rfl) rfl (fun c16 => (k_s (dc kc_X11_mends 19 rfl) rfl <| s_ireturn (dc kc_X11_mends 20 rfl) rfl (Nat.zero_le _) (Nat.zero_le _) ?_)) (fun a16 c16 => (?_))
      · cases c16
      by_cases hin : (0 ≤ i ∧ i < min (Y.length : Int) 500) ∧ (0 ≤ k ∧ k < (C : Int))
      · obtain ⟨hi, hk⟩ := hin
        have hil : i.toNat < Y.length := by omega
        have hg1 : Y[i.toNat]? = some Y[i.toNat] := List.getElem?_eq_getElem hil
        have hYi := hYm Y[i.toNat] (List.getElem_mem hil)
        have hkl : k.toNat < Y[i.toNat].length := by omega
        have hg2 : Y[i.toNat][k.toNat]? = some Y[i.toNat][k.toNat] := List.getElem?_eq_getElem hkl
        have r58 : mi' C 58 ((i.toNat : Nat) : Int) = key5 Y[i.toNat] := hML'.2.2.2.2.2 i.toNat _ (by omega) (by rw [List.getElem?_map, hg1]; rfl)
        have ei : ((i.toNat : Nat) : Int) = i := by omega
        have ek : ((k.toNat : Nat) : Int) = k := by omega
        refine r_aload (dc kc_X11_mends 9 rfl) rfl <| s_iload_n (dc kc_X11_mends 10 rfl) rfl <| c_v1r (dc kc_X11_mends 11 rfl) cl_X11_296 rfl (Nat.le_of_ble_eq_true rfl) (Nat.zero_le _) (Nat.zero_le _) <| u_mhas <| s_if_eqb (tgt := 41) (dc kc_X11_mends 12 rfl) rfl (fun c25 => (?_)) (fun c25 => (s_iload_n (dc kc_X11_mends 13 rfl) rfl <| s_if_lt (tgt := 41) (dc kc_X11_mends 14 rfl) rfl (fun c29 => (?_)) (fun c29 => (s_iload_n (dc kc_X11_mends 15 rfl) rfl <| r_aload (dc kc_X11_mends 16 rfl) rfl <| s_getI (dc kc_X11_mends 17 rfl) fl_X11_297 <| s_icmp_lt (tgt := 45) (dc kc_X11_mends 18 rfl) rfl (fun c38 => (?_)) (fun c38 => (?_))))))
        · exfalso; omega
        · exfalso; omega
        · by_cases w0 : w = 0
          · subst w0
            refine s_iload (dc kc_X11_mends 21 rfl) rfl <| s_lookup (tgt := 72) (dc kc_X11_mends 22 rfl) rfl ?_ <| r_aload (dc kc_X11_mends 23 rfl) rfl <| s_iload_n (dc kc_X11_mends 24 rfl) rfl <| s_iload_n (dc kc_X11_mends 25 rfl) rfl <| c_v2r (dc kc_X11_mends 26 rfl) cl_X11_300 rfl (Nat.le_of_ble_eq_true rfl) (Nat.zero_le _) (Nat.zero_le _) ?_
            · rfl
            · rw [← ei, ← ek]
              refine u_cellOf hL (by omega) (by omega) r58 (by rw [e0, hYi.2]) (by omega) hYi.1.ok hg2 ?_
              refine s_ireturn (dc kc_X11_mends 27 rfl) rfl (Nat.zero_le _) (Nat.zero_le _) ?_
              exact hQ3 hm.1 hm.2 P C Y _ hlst hY (fun z => absurd ⟨hi, hk⟩ z) (fun _ _ _ => ⟨_, _, hg1, hg2, by rw [if_pos rfl]⟩) (fun z => absurd (by decide) z) mi' mr' g1 hCr hK1
          · by_cases w1 : w = 1
            · subst w1
              refine s_iload (dc kc_X11_mends 21 rfl) rfl <| s_lookup (tgt := 80) (dc kc_X11_mends 22 rfl) rfl ?_ <| r_aload (dc kc_X11_mends 28 rfl) rfl <| s_iload_n (dc kc_X11_mends 29 rfl) rfl <| s_iload_n (dc kc_X11_mends 30 rfl) rfl <| c_v2r (dc kc_X11_mends 31 rfl) cl_X11_303 rfl (Nat.le_of_ble_eq_true rfl) (Nat.zero_le _) (Nat.zero_le _) ?_
              · rfl
              · rw [← ei, ← ek]
                refine u_valueOf hL (by omega) (by omega) r58 (by rw [e0, hYi.2]) (by omega) hYi.1.ok hg2 ?_
                refine s_ireturn (dc kc_X11_mends 32 rfl) rfl (Nat.zero_le _) (Nat.zero_le _) ?_
                exact hQ3 hm.1 hm.2 P C Y _ hlst hY (fun z => absurd ⟨hi, hk⟩ z) (fun _ _ _ => ⟨_, _, hg1, hg2, by rw [if_neg (by decide)]⟩) (fun z => absurd (by decide) z) mi' mr' g1 hCr hK1
            · refine s_iload (dc kc_X11_mends 21 rfl) rfl <| s_lookup (tgt := 88) (dc kc_X11_mends 22 rfl) rfl ?_ <| k_s (dc kc_X11_mends 33 rfl) rfl <| s_ireturn (dc kc_X11_mends 34 rfl) rfl (Nat.zero_le _) (Nat.zero_le _) ?_
              · simp [Op.lookupswitch.offset, w0, w1, Ne.symm w0, Ne.symm w1]
              · exact hQ1 (fun z => by omega) mi' mr' g1 hCr hK1
        · exfalso; omega
      · refine r_aload (dc kc_X11_mends 9 rfl) rfl <| s_iload_n (dc kc_X11_mends 10 rfl) rfl <| c_v1r (dc kc_X11_mends 11 rfl) cl_X11_296 rfl (Nat.le_of_ble_eq_true rfl) (Nat.zero_le _) (Nat.zero_le _) <| u_mhas <| s_if_eqb (tgt := 41) (dc kc_X11_mends 12 rfl) rfl (fun c25 => (k_s (dc kc_X11_mends 19 rfl) rfl <| s_ireturn (dc kc_X11_mends 20 rfl) rfl (Nat.zero_le _) (Nat.zero_le _) ?_)) (fun c25 => (s_iload_n (dc kc_X11_mends 13 rfl) rfl <| s_if_lt (tgt := 41) (dc kc_X11_mends 14 rfl) rfl (fun c29 => (k_s (dc kc_X11_mends 19 rfl) rfl <| s_ireturn (dc kc_X11_mends 20 rfl) rfl (Nat.zero_le _) (Nat.zero_le _) ?_)) (fun c29 => (s_iload_n (dc kc_X11_mends 15 rfl) rfl <| r_aload (dc kc_X11_mends 16 rfl) rfl <| s_getI (dc kc_X11_mends 17 rfl) fl_X11_297 <| s_icmp_lt (tgt := 45) (dc kc_X11_mends 18 rfl) rfl (fun c38 => (?_)) (fun c38 => (k_s (dc kc_X11_mends 19 rfl) rfl <| s_ireturn (dc kc_X11_mends 20 rfl) rfl (Nat.zero_le _) (Nat.zero_le _) ?_))))))
        all_goals first | exact no hin | (exfalso; omega)
  · refine u_leastBy0 hL hm ?_
    refine t_r5 (dc kc_X11_mends 6 rfl) (Nat.le_of_ble_eq_true rfl) rfl <| r_aload (dc kc_X11_mends 7 rfl) rfl <| s_ifnull (tgt := 41) (dc kc_X11_mends 8 rfl) rfl (fun c16 => (k_s (dc kc_X11_mends 19 rfl) rfl <| s_ireturn (dc kc_X11_mends 20 rfl) rfl (Nat.zero_le _) (Nat.zero_le _) ?_)) (fun a16 c16 => (?_))
    · exact hQ1 (fun z => hm z.1) mi mr Cg.rf Cr.rf hK
    · cases c16
end PM
