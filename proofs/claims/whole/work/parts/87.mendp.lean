/-! the class: mend -/
theorem MkK.mv {mi mi' : MI} {mr : MR} {ρ : Int → Int} (h : MkK mi mr ρ) (e : ∀ a b, 57 ≤ b → b ≤ 68 → mi' a b = mi a b) : MkK mi' mr ρ := by
  have e60 := e 0 60 (by decide) (by decide)
  have e62 := e 0 62 (by decide) (by decide)
  unfold MkK
  rw [e60, e62]
  rcases h with h | ⟨h1, h2, h3, h4, h5⟩
  · exact Or.inl h
  · refine Or.inr ⟨h1, h2, h3.mv (e 0 64 (by decide) (by decide)) (e 0 65 (by decide) (by decide)) (by rw [e60]), fun c a b => ?_, fun j a b => (h5 j a b).mv (fun C _ => ⟨e C 57 (by decide) (by decide), e C 58 (by decide) (by decide)⟩)⟩
    show mi' 0 63 c = _
    rw [e 0 63 (by decide) (by decide)]; exact h4 c a b
def pMs (a b : Nat) (k : Int) : Bool := pMd a b k || (a == 0 && b == 0 && k == 3)
def pMe (g a b : Nat) (k : Int) : Bool := pMs a b k || pSt g a b k || (a == g && b == 8) || (a == 0 && b == 70 && k == 10)
section PM2
variable {d n G : Nat} {mr : MR} {Q : V → MI → Nat → MR → Prop}
theorem u_mforget {mi : MI} (hQ : Q (vX 0) (up mi 0 60 3 (-1)) n mr) : Tx (d+1) mt_X4_forget [vR (some (0, 60))] mi n mr Q := by
  refine tx_intro (ls := [vR (some (0, 60))]) om_X4_forget rfl (Nat.le_of_ble_eq_true rfl) ?_
  refine r_aload_n (dc kc_X4_forget 0 rfl) rfl <| k_i (dc kc_X4_forget 1 rfl) rfl <| s_putI (dc kc_X4_forget 2 rfl) fl_X4_28 <| s_return (dc kc_X4_forget 3 rfl) rfl (Nat.zero_le _) (Nat.zero_le _) ?_
  exact hQ
theorem u_pforget {mi : MI} (hQ : Q (vX 0) (up mi 0 70 10 0) n mr) : Tx (d+1) mt_X5_forget [vR (some (0, 70))] mi n mr Q := by
  refine tx_intro (ls := [vR (some (0, 70))]) om_X5_forget rfl (Nat.le_of_ble_eq_true rfl) ?_
  refine r_aload_n (dc kc_X5_forget 0 rfl) rfl <| k_i (dc kc_X5_forget 1 rfl) rfl <| s_putI (dc kc_X5_forget 2 rfl) fl_X5_55 <| s_return (dc kc_X5_forget 3 rfl) rfl (Nat.zero_le _) (Nat.zero_le _) ?_
  exact hQ
theorem u_changed (hL : Lay G mr) {mi : MI} (hQ : Q (vX 0) (up (up mi 0 60 3 (-1)) 0 70 10 0) n mr) : Tx (d+2) mt_X11_changed [vR (some (0, 0))] mi n mr Q := by
  refine tx_intro (ls := [vR (some (0, 0))]) om_X11_changed rfl (Nat.le_of_ble_eq_true rfl) ?_
  refine r_aload_n (dc kc_X11_changed 0 rfl) rfl <| s_getO (dc kc_X11_changed 1 rfl) fl_X11_61 (ly_0_10 hL) <| c_v0 (dc kc_X11_changed 2 rfl) cl_X11_365 rfl (Nat.le_of_ble_eq_true rfl) (Nat.zero_le _) (Nat.zero_le _) <| u_mforget <| r_aload_n (dc kc_X11_changed 3 rfl) rfl <| s_getO (dc kc_X11_changed 4 rfl) fl_X11_68 (ly_0_11 hL) <| c_v0 (dc kc_X11_changed 5 rfl) cl_X11_366 rfl (Nat.le_of_ble_eq_true rfl) (Nat.zero_le _) (Nat.zero_le _) <| u_pforget <| s_return (dc kc_X11_changed 6 rfl) rfl (Nat.zero_le _) (Nat.zero_le _) ?_
  exact hQ
theorem u_cmend (hL : Lay G mr) {mi : MI} {g : Nat} {ρ : Int → Int} {B m i : Int} (hnow : mr 0 0 4 = some (g, 5)) (hg : g < G) (hR : Rep (-1) mi g ρ) (hI : Inv B ρ) (hK : MkK mi mr ρ) (hQ1 : ¬ (1 ≤ m ∧ m ≤ 3) → Q (vI (-1)) (up mi 0 0 3 (-1)) n mr) (hQ2 : 1 ≤ m → m ≤ 3 → (NoMend ρ m ∨ ∃ P C Y, Least ρ m P C ∧ Lst ρ P C Y ∧ (C = 0 ∨ (i ≠ -1 ∧ ¬ (0 ≤ i ∧ i < min (Y.length : Int) 500)) ∨ (i = -1 ∧ Dif ρ (ρ 15) Y))) → ∀ mi' mr', Cg pMs mi mi' → Cr mr mr' → MkK mi' mr' ρ → mi' 0 0 3 = -3 → Q (vI (-3)) mi' n mr') (hQ3 : 1 ≤ m → m ≤ 3 → ∀ P C Y L, Least ρ m P C → Lst ρ P C Y → C ≠ 0 → (i ≠ -1 → 0 ≤ i ∧ i < min (Y.length : Int) 500) → (i = -1 → ¬ Dif ρ (ρ 15) Y) → Y[(if i = -1 then 0 else i).toNat]? = some L → ∀ mi' mr', Cg (pMe g) mi mi' → Cr mr mr' → Rep (-1) mi' g (mndR ρ L) → mi' 0 0 3 = 0 → mi' 0 60 3 = -1 → mi' 0 70 10 = 0 → Q (vI P) mi' n mr') : Tx (d+13) mt_X11_mend [vR (some (0, 0)), vI m, vI i] mi n mr Q := by
  refine tx_intro (ls := [vR (some (0, 0)), vI m, vI i, vX 0, vX 0, vX 0]) om_X11_mend rfl (Nat.le_of_ble_eq_true rfl) ?_
  by_cases hm : 1 ≤ m ∧ m ≤ 3
  · refine s_iload_n (dc kc_X11_mend_0 0 rfl) rfl <| k_i (dc kc_X11_mend_0 1 rfl) rfl <| s_icmp_lt (tgt := 10) (dc kc_X11_mend_0 2 rfl) rfl (fun c2 => (r_aload_n (dc kc_X11_mend_0 6 rfl) rfl <| k_i (dc kc_X11_mend_0 7 rfl) rfl <| c_v1r (dc kc_X11_mend_0 8 rfl) cl_X11_80 rfl (Nat.le_of_ble_eq_true rfl) (Nat.zero_le _) (Nat.zero_le _) <| u_refuse <| s_ireturn (dc kc_X11_mend_0 9 rfl) rfl (Nat.zero_le _) (Nat.zero_le _) ?_)) (fun c2 => (s_iload_n (dc kc_X11_mend_0 3 rfl) rfl <| k_i (dc kc_X11_mend_0 4 rfl) rfl <| s_icmp_le (tgt := 16) (dc kc_X11_mend_0 5 rfl) rfl (fun c7 => (r_aload_n (dc kc_X11_mend_0 10 rfl) rfl <| s_getO (dc kc_X11_mend_0 11 rfl) fl_X11_61 (ly_0_10 hL) <| r_aload_n (dc kc_X11_mend_0 12 rfl) rfl <| s_getO (dc kc_X11_mend_0 13 rfl) fl_X11_26 hnow <| s_iload_n (dc kc_X11_mend_0 14 rfl) rfl <| c_v2r (dc kc_X11_mend_0 15 rfl) cl_X11_276 rfl (Nat.le_of_ble_eq_true rfl) (Nat.zero_le _) (Nat.zero_le _) ?_)) (fun c7 => (r_aload_n (dc kc_X11_mend_0 6 rfl) rfl <| k_i (dc kc_X11_mend_0 7 rfl) rfl <| c_v1r (dc kc_X11_mend_0 8 rfl) cl_X11_80 rfl (Nat.le_of_ble_eq_true rfl) (Nat.zero_le _) (Nat.zero_le _) <| u_refuse <| s_ireturn (dc kc_X11_mend_0 9 rfl) rfl (Nat.zero_le _) (Nat.zero_le _) ?_))))
    · exfalso; omega
    · refine u_leastBy hL hg hR hI hK hm.1 hm.2 (fun mi' mr' g1 hCr hK1 hno => ?_) (fun mi' mr' C P K g1 hCr hK1 hC3 hML hne hlst hkey => ?_)
      · refine t_r3 (dc kc_X11_mend_0 16 rfl) (Nat.le_of_ble_eq_true rfl) rfl <| r_aload_n (dc kc_X11_mend_0 17 rfl) rfl <| s_ifnull (tgt := 40) (dc kc_X11_mend_0 18 rfl) rfl (fun c30 => (r_aload_n (dc kc_X11_mend_0 22 rfl) rfl <| k_b (dc kc_X11_mend_0 23 rfl) rfl <| c_v1r (dc kc_X11_mend_0 24 rfl) cl_X11_80 rfl (Nat.le_of_ble_eq_true rfl) (Nat.zero_le _) (Nat.zero_le _) <| u_refuse <| s_ireturn (dc kc_X11_mend_0 25 rfl) rfl (Nat.zero_le _) (Nat.zero_le _) ?_)) (fun a30 c30 => (?_))
        · exact hQ2 hm.1 hm.2 (Or.inl hno) _ mr' ((g1.mono (fun a b k z => by simp [pMs, z])).up (by simp [pMs])) hCr (hK1.mv (fun a b h1 h2 => up_j (by omega))) up_at
        · cases c30
      · obtain ⟨Y, hY, hML', hYne, hYm⟩ := hML.lst hkey hlst
        have hL1 := hCr.lay hL
        have hnow1 : mr' 0 0 4 = some (g, 5) := by rw [hCr.at (by decide) (by decide)]; exact hnow
        have hok : okI G 5 g := hg
        have hokC : okI G 57 C := by show C < 4; omega
        have hL := hL1
        have hnow := hnow1
        have hR1 := hR.md g1
        have e0 : mi' C 57 0 = (C : Int) := hML.1
        have e1 : mi' C 57 1 = P := hML.2.2.1 hne
        have e3 : mi' C 57 3 = min (Y.length : Int) 500 := by rw [hML'.2.2.2.2.1, List.length_map]
        have e11 : mi' g 5 11 = ρ 15 := hR1.2.2.2.2.2.2.2.2.2.2.2.2.1
        have hpos := List.length_pos_iff.mpr hYne
        have no : (C = 0 ∨ (i ≠ -1 ∧ ¬ (0 ≤ i ∧ i < min (Y.length : Int) 500)) ∨ (i = -1 ∧ Dif ρ (ρ 15) Y)) → Q (vI (-3)) (up mi' 0 0 3 (-3)) n mr' := fun z => hQ2 hm.1 hm.2 (Or.inr ⟨P, C, Y, hlst, hY, z.imp_left (fun h => by omega)⟩) _ mr' ((g1.mono (fun a b k z => by simp [pMs, z])).up (by simp [pMs])) hCr (hK1.mv (fun a b h1 h2 => up_j (by omega))) up_at
        have rest : C ≠ 0 → (i = -1 → ¬ Dif ρ (ρ 15) Y) → Run (d+13) mt_X11_mend Q (n, mr', 0, 0) mi' 73 [vR (some (0, 0)), vI m, vI i, vR (some (C, 57)), vX 0, vX 0] [] := by
          intro hC0 hnd
          have idx : ∀ x, x = (if i = -1 then 0 else i) → Run (d+13) mt_X11_mend Q (n, mr', 0, 0) mi' 85 [vR (some (0, 0)), vI m, vI i, vR (some (C, 57)), vI x, vX 0] [] := by
            intro x hx
            by_cases hin : 0 ≤ x ∧ x < min (Y.length : Int) 500
            · have hxl : x.toNat < Y.length := by omega
              have hgx : Y[x.toNat]? = some Y[x.toNat] := List.getElem?_eq_getElem hxl
              have hYi := hYm Y[x.toNat] (List.getElem_mem hxl)
              generalize hLd : Y[x.toNat] = L at *
              have r58 : mi' C 58 ((x.toNat : Nat) : Int) = key5 L := hML'.2.2.2.2.2 x.toNat _ (by omega) (by rw [List.getElem?_map, hgx]; rfl)
              have ex : ((x.toNat : Nat) : Int) = x := by omega
              have hokq : ∀ q ∈ L, 0 ≤ q.1 ∧ q.1 < 24 ∧ biC q.1 q.2 = 1 := fun q hq => ⟨(hYi.1.2.1.2 q hq).1, (hYi.1.2.1.2 q hq).2.1, (hYi.1.2.1.2 q hq).2.2.1⟩
              have loop : ∀ j : Nat, j ≤ L.length → ∀ mm : MI, Cg (fun a b k => pSt g a b k || (a == g && b == 8)) mi' mm → Rep (-1) mm g (mndR ρ (L.take j)) → Run (d+13) mt_X11_mend Q (n, mr', 0, 0) mm 104 [vR (some (0, 0)), vI m, vI i, vR (some (C, 57)), vI x, vI (j : Int)] [] := by
                refine nloop ?_
                intro j hj ih mm gm hRm
                have f0 : mm C 57 0 = (L.length : Int) := by rw [gm.at (by simp [pSt, pJ]), e0, hYi.2]
                have f1 : mm C 57 1 = P := by rw [gm.at (by simp [pSt, pJ])]; exact e1
                have f58 : mm C 58 ((x.toNat : Nat) : Int) = key5 L := by rw [gm.at (by simp [pSt, pJ])]; exact r58
                by_cases he : j < L.length
                · have hgj : L[j]? = some L[j] := List.getElem?_eq_getElem he
                  have hIj := Inv_mndR (L := L.take j) hI (fun q hq => hokq q (List.mem_of_mem_take hq))
                  have hqj := hokq L[j] (List.getElem_mem he)
                  have ih := ih he
                  rw [show L.take (j + 1) = L.take j ++ [L[j]] by rw [List.take_add_one, hgj]; rfl, mndR_snoc] at ih
                  refine s_iload (dc kc_X11_mend_1 16 rfl) rfl <| r_aload_n (dc kc_X11_mend_1 17 rfl) rfl <| s_getI (dc kc_X11_mend_1 18 rfl) fl_X11_297 <| s_icmp_ge (tgt := 142) (dc kc_X11_mend_1 19 rfl) rfl (fun c110 => (?_)) (fun c110 => (r_aload_n (dc kc_X11_mend_1 20 rfl) rfl <| s_getO (dc kc_X11_mend_1 21 rfl) fl_X11_26 hnow <| r_aload_n (dc kc_X11_mend_1 22 rfl) rfl <| s_iload (dc kc_X11_mend_1 23 rfl) rfl <| s_iload (dc kc_X11_mend_1 24 rfl) rfl <| c_v2r (dc kc_X11_mend_1 25 rfl) cl_X11_300 rfl (Nat.le_of_ble_eq_true rfl) (Nat.zero_le _) (Nat.zero_le _) ?_))
                  · exfalso; omega
                  · rw [← ex]
                    refine u_cellOf hL (by omega) (by omega) f58 f0 (by omega) hYi.1.ok hgj ?_
                    refine r_aload_n (dc kc_X11_mend_1 26 rfl) rfl <| s_iload (dc kc_X11_mend_1 27 rfl) rfl <| s_iload (dc kc_X11_mend_1 28 rfl) rfl <| c_v2r (dc kc_X11_mend_1 29 rfl) cl_X11_303 rfl (Nat.le_of_ble_eq_true rfl) (Nat.zero_le _) (Nat.zero_le _) ?_
                    refine u_valueOf hL (by omega) (by omega) f58 f0 (by omega) hYi.1.ok hgj ?_
                    refine c_v2 (dc kc_X11_mend_1 30 rfl) cl_X11_306 rfl (Nat.le_of_ble_eq_true rfl) (Nat.zero_le _) (Nat.zero_le _) ?_
                    refine u_mendTo hL hg hRm hIj.2.1 hIj.wf hIj.1.2.2.2.1 hqj.1 hqj.2.1 (fun m2 g2 hR2 => ?_)
                    rw [ex]
                    refine b_inc5 (dc kc_X11_mend_1 31 rfl) rfl (Nat.le_of_ble_eq_true rfl) rfl (by first | omega | (simp [up] <;> omega)) (by first | omega | (simp [up] <;> omega)) <| s_goto (tgt := 104) (dc kc_X11_mend_1 32 rfl) rfl <| ?_
                    exact ih m2 (gm.tr g2) hR2
                · have e : j = L.length := by omega
                  subst e
                  rw [List.take_length] at hRm
                  refine s_iload (dc kc_X11_mend_1 16 rfl) rfl <| r_aload_n (dc kc_X11_mend_1 17 rfl) rfl <| s_getI (dc kc_X11_mend_1 18 rfl) fl_X11_297 <| s_icmp_ge (tgt := 142) (dc kc_X11_mend_1 19 rfl) rfl (fun c110 => (r_aload_n (dc kc_X11_mend_1 33 rfl) rfl <| c_v0 (dc kc_X11_mend_1 34 rfl) cl_X11_106 rfl (Nat.le_of_ble_eq_true rfl) (Nat.zero_le _) (Nat.zero_le _) <| u_changed hL <| r_aload_n (dc kc_X11_mend_1 35 rfl) rfl <| r_aload_n (dc kc_X11_mend_1 36 rfl) rfl <| s_getI (dc kc_X11_mend_1 37 rfl) fl_X11_280 <| c_v1r (dc kc_X11_mend_1 38 rfl) cl_X11_112 rfl (Nat.le_of_ble_eq_true rfl) (Nat.zero_le _) (Nat.zero_le _) <| u_answer <| s_ireturn (dc kc_X11_mend_1 39 rfl) rfl (Nat.zero_le _) (Nat.zero_le _) ?_)) (fun c110 => (?_))
                  · rw [show up (up mm 0 60 3 (-1)) 0 70 10 0 C 57 1 = P by rw [up_j (by decide), up_j (by decide)]; exact f1]
                    refine hQ3 hm.1 hm.2 P C Y L hlst hY (by omega) (fun z => by rw [if_neg z] at hx; omega) hnd (by rw [← hx]; exact hgx) _ mr' ?_ hCr ?_ up_at (by rw [up_j (by decide), up_j (by decide), up_at]) (by rw [up_j (by decide), up_at])
                    · exact (((g1.mono (fun a b k z => by simp [pMe, pMs, z])).tr (gm.mono (fun a b k z => by simp at z; simp [pMe]; rcases z with z | z <;> simp [z]))).up (by simp [pMe, pMs, pMd])).up (by simp [pMe]) |>.up (by simp [pMe, pMs])
                    · exact hRm.mv (fun a b z => by
                        have hb : b ≠ 0 ∧ b ≠ 70 ∧ b ≠ 60 := by simp [rlS] at z; omega
                        rw [up_j hb.1, up_j hb.2.1, up_j hb.2.2])
                  · exfalso; omega
              refine r_aload_n (dc kc_X11_mend_1 6 rfl) rfl <| s_iload (dc kc_X11_mend_1 7 rfl) rfl <| c_v1r (dc kc_X11_mend_1 8 rfl) cl_X11_296 rfl (Nat.le_of_ble_eq_true rfl) (Nat.zero_le _) (Nat.zero_le _) <| u_mhas <| s_if_neb (tgt := 101) (dc kc_X11_mend_1 9 rfl) rfl (fun c91 => (k_i (dc kc_X11_mend_1 14 rfl) rfl <| t_i5 (dc kc_X11_mend_1 15 rfl) (Nat.le_of_ble_eq_true rfl) rfl <| ?_)) (fun c91 => (r_aload_n (dc kc_X11_mend_1 10 rfl) rfl <| k_b (dc kc_X11_mend_1 11 rfl) rfl <| c_v1r (dc kc_X11_mend_1 12 rfl) cl_X11_80 rfl (Nat.le_of_ble_eq_true rfl) (Nat.zero_le _) (Nat.zero_le _) <| u_refuse <| s_ireturn (dc kc_X11_mend_1 13 rfl) rfl (Nat.zero_le _) (Nat.zero_le _) ?_))
              · exact loop 0 (Nat.zero_le _) mi' Cg.rf hR1
              · exfalso; omega
            · refine r_aload_n (dc kc_X11_mend_1 6 rfl) rfl <| s_iload (dc kc_X11_mend_1 7 rfl) rfl <| c_v1r (dc kc_X11_mend_1 8 rfl) cl_X11_296 rfl (Nat.le_of_ble_eq_true rfl) (Nat.zero_le _) (Nat.zero_le _) <| u_mhas <| s_if_neb (tgt := 101) (dc kc_X11_mend_1 9 rfl) rfl (fun c91 => (?_)) (fun c91 => (r_aload_n (dc kc_X11_mend_1 10 rfl) rfl <| k_b (dc kc_X11_mend_1 11 rfl) rfl <| c_v1r (dc kc_X11_mend_1 12 rfl) cl_X11_80 rfl (Nat.le_of_ble_eq_true rfl) (Nat.zero_le _) (Nat.zero_le _) <| u_refuse <| s_ireturn (dc kc_X11_mend_1 13 rfl) rfl (Nat.zero_le _) (Nat.zero_le _) ?_))
              · exfalso; omega
              · refine no (Or.inr (Or.inl ⟨fun z => ?_, fun z => ?_⟩))
                · rw [if_pos z] at hx; omega
                · rw [if_neg (by omega)] at hx; omega
          refine s_iload_n (dc kc_X11_mend_0 39 rfl) rfl <| k_i (dc kc_X11_mend_1 0 rfl) rfl <| s_icmp_ne (tgt := 82) (dc kc_X11_mend_1 1 rfl) rfl (fun c75 => (s_iload_n (dc kc_X11_mend_1 4 rfl) rfl <| t_i4 (dc kc_X11_mend_1 5 rfl) (Nat.le_of_ble_eq_true rfl) rfl <| ?_)) (fun c75 => (k_i (dc kc_X11_mend_1 2 rfl) rfl <| s_goto (tgt := 83) (dc kc_X11_mend_1 3 rfl) rfl <| t_i4 (dc kc_X11_mend_1 5 rfl) (Nat.le_of_ble_eq_true rfl) rfl <| ?_))
          · exact idx i (by rw [if_neg (by assumption)])
          · exact idx 0 (by rw [if_pos (by assumption)])
        refine t_r3 (dc kc_X11_mend_0 16 rfl) (Nat.le_of_ble_eq_true rfl) rfl <| r_aload_n (dc kc_X11_mend_0 17 rfl) rfl <| s_ifnull (tgt := 40) (dc kc_X11_mend_0 18 rfl) rfl (fun c30 => (r_aload_n (dc kc_X11_mend_0 22 rfl) rfl <| k_b (dc kc_X11_mend_0 23 rfl) rfl <| c_v1r (dc kc_X11_mend_0 24 rfl) cl_X11_80 rfl (Nat.le_of_ble_eq_true rfl) (Nat.zero_le _) (Nat.zero_le _) <| u_refuse <| s_ireturn (dc kc_X11_mend_0 25 rfl) rfl (Nat.zero_le _) (Nat.zero_le _) ?_)) (fun a30 c30 => (r_aload_n (dc kc_X11_mend_0 19 rfl) rfl <| s_getI (dc kc_X11_mend_0 20 rfl) fl_X11_297 <| s_if_ne (tgt := 47) (dc kc_X11_mend_0 21 rfl) rfl (fun c37 => (?_)) (fun c37 => (r_aload_n (dc kc_X11_mend_0 22 rfl) rfl <| k_b (dc kc_X11_mend_0 23 rfl) rfl <| c_v1r (dc kc_X11_mend_0 24 rfl) cl_X11_80 rfl (Nat.le_of_ble_eq_true rfl) (Nat.zero_le _) (Nat.zero_le _) <| u_refuse <| s_ireturn (dc kc_X11_mend_0 25 rfl) rfl (Nat.zero_le _) (Nat.zero_le _) ?_))))
        · cases c30
        · have hC0 : C ≠ 0 := by omega
          refine s_iload_n (dc kc_X11_mend_0 26 rfl) rfl <| k_i (dc kc_X11_mend_0 27 rfl) rfl <| s_icmp_ne (tgt := 73) (dc kc_X11_mend_0 28 rfl) rfl (fun c49 => (?_)) (fun c49 => (r_aload_n (dc kc_X11_mend_0 29 rfl) rfl <| r_aload_n (dc kc_X11_mend_0 30 rfl) rfl <| s_getO (dc kc_X11_mend_0 31 rfl) fl_X11_26 hnow <| s_getI (dc kc_X11_mend_0 32 rfl) fl_X11_273 <| c_v1r (dc kc_X11_mend_0 33 rfl) cl_X11_293 rfl (Nat.le_of_ble_eq_true rfl) (Nat.zero_le _) (Nat.zero_le _) ?_))
          · exact rest hC0 (fun z => absurd z (by assumption))
          · rw [e11]
            refine u_differIn (ρ := ρ) hL hC3 hML' hYm hYne (fun hd => ?_) (fun hd => ?_)
            · refine s_if_eq (tgt := 73) (dc kc_X11_mend_0 34 rfl) rfl (fun c63 => (?_)) (fun c63 => (r_aload_n (dc kc_X11_mend_0 35 rfl) rfl <| k_b (dc kc_X11_mend_0 36 rfl) rfl <| c_v1r (dc kc_X11_mend_0 37 rfl) cl_X11_80 rfl (Nat.le_of_ble_eq_true rfl) (Nat.zero_le _) (Nat.zero_le _) <| u_refuse <| s_ireturn (dc kc_X11_mend_0 38 rfl) rfl (Nat.zero_le _) (Nat.zero_le _) ?_))
              · exfalso; omega
              · exact no (Or.inr (Or.inr ⟨by assumption, hd⟩))
            · refine s_if_eq (tgt := 73) (dc kc_X11_mend_0 34 rfl) rfl (fun c63 => (?_)) (fun c63 => (?_))
              · exact rest hC0 (fun _ => hd)
              · exfalso; omega
        · exact no (Or.inl (by omega))
    · exfalso; omega
  · refine s_iload_n (dc kc_X11_mend_0 0 rfl) rfl <| k_i (dc kc_X11_mend_0 1 rfl) rfl <| s_icmp_lt (tgt := 10) (dc kc_X11_mend_0 2 rfl) rfl (fun c2 => (r_aload_n (dc kc_X11_mend_0 6 rfl) rfl <| k_i (dc kc_X11_mend_0 7 rfl) rfl <| c_v1r (dc kc_X11_mend_0 8 rfl) cl_X11_80 rfl (Nat.le_of_ble_eq_true rfl) (Nat.zero_le _) (Nat.zero_le _) <| u_refuse <| s_ireturn (dc kc_X11_mend_0 9 rfl) rfl (Nat.zero_le _) (Nat.zero_le _) ?_)) (fun c2 => (s_iload_n (dc kc_X11_mend_0 3 rfl) rfl <| k_i (dc kc_X11_mend_0 4 rfl) rfl <| s_icmp_le (tgt := 16) (dc kc_X11_mend_0 5 rfl) rfl (fun c7 => (?_)) (fun c7 => (r_aload_n (dc kc_X11_mend_0 6 rfl) rfl <| k_i (dc kc_X11_mend_0 7 rfl) rfl <| c_v1r (dc kc_X11_mend_0 8 rfl) cl_X11_80 rfl (Nat.le_of_ble_eq_true rfl) (Nat.zero_le _) (Nat.zero_le _) <| u_refuse <| s_ireturn (dc kc_X11_mend_0 9 rfl) rfl (Nat.zero_le _) (Nat.zero_le _) ?_))))
    · exact hQ1 hm
    · exfalso; omega
    · exact hQ1 hm
end PM2
