/-! the law: its start, its loop -/
theorem iniR_0 {k : Int} (h1 : k < 110 ∨ 146 ≤ k) (h2 : k < 30 ∨ 54 ≤ k) (h3 : k ≠ 12) (h4 : k ≠ 20) (h5 : k < 102 ∨ 106 < k) : iniR k = 0 := by
  unfold iniR
  rw [if_neg (by omega), if_neg (by omega), if_neg (by omega), if_neg (by omega), if_neg (by omega), if_neg (by omega), if_neg (by omega), if_neg (by omega)]
theorem iniR_c {i : Int} (h0 : 0 ≤ i) (h1 : i < 24) : iniR (30 + i) = loC i := by
  unfold iniR
  rw [if_neg (by omega), if_pos (by omega), show 30 + i - 30 = i by omega]
theorem iniR_s {k : Int} (h0 : 110 ≤ k) (h1 : k < 146) : iniR k = -1 := by
  unfold iniR
  rw [if_pos ⟨h0, h1⟩]
theorem iniR_12 : iniR 12 = -1 := by decide
theorem iniR_20 : iniR 20 = -1 := by decide
theorem iniR_VC : VC (clR iniR) := VC_iff.mpr (fun i h0 h1 => by
  show biC i (iniR (30 + i)) = 1
  rw [iniR_c h0 h1]
  refine biC_lh.mpr ⟨Int.le_refl _, ?_⟩
  unfold loC hiC
  split <;> omega)
theorem iniR_Inv : Inv 0 iniR := by
  have z : ∀ k, (k < 110 ∨ 146 ≤ k) → (k < 30 ∨ 54 ≤ k) → k ≠ 12 → k ≠ 20 → (k < 102 ∨ 106 < k) → iniR k = 0 := fun k a b c d e => iniR_0 a b c d e
  have z0 := z 0 (by omega) (by omega) (by omega) (by omega) (by omega)
  have z3 := z 3 (by omega) (by omega) (by omega) (by omega) (by omega)
  have z7 := z 7 (by omega) (by omega) (by omega) (by omega) (by omega)
  have z8 := z 8 (by omega) (by omega) (by omega) (by omega) (by omega)
  have z9 := z 9 (by omega) (by omega) (by omega) (by omega) (by omega)
  have z10 := z 10 (by omega) (by omega) (by omega) (by omega) (by omega)
  have z11 := z 11 (by omega) (by omega) (by omega) (by omega) (by omega)
  have z13 := z 13 (by omega) (by omega) (by omega) (by omega) (by omega)
  have z14 := z 14 (by omega) (by omega) (by omega) (by omega) (by omega)
  have z15 := z 15 (by omega) (by omega) (by omega) (by omega) (by omega)
  have z16 := z 16 (by omega) (by omega) (by omega) (by omega) (by omega)
  have z17 := z 17 (by omega) (by omega) (by omega) (by omega) (by omega)
  have z18 := z 18 (by omega) (by omega) (by omega) (by omega) (by omega)
  have z19 := z 19 (by omega) (by omega) (by omega) (by omega) (by omega)
  have z12 := iniR_12
  have z20 := iniR_20
  refine ⟨⟨iniR_VC, by omega, ⟨by omega, fun h => by omega⟩, by omega, by omega, by omega, by omega, ⟨by omega, by omega, by omega, by omega⟩, fun l a b => by omega, fun j a b => by omega⟩, ⟨fun w a b => by omega, fun w a b => by omega, fun s a b => Or.inl z17, fun _ => z0, by omega⟩, ⟨fun k a b => ?_, fun i a b => ?_, by omega, by omega, Or.inl z14, by omega, Or.inl z12, by omega, ?_, ?_⟩, by omega⟩
  · rw [z k (by omega) (by omega) (by omega) (by omega) (by omega)]
    exact ⟨by decide, by decide⟩
  · have : i = 0 ∨ i = 1 ∨ i = 2 ∨ i = 3 ∨ i = 4 := by omega
    rcases this with e | e | e | e | e <;> (subst e; decide)
  · rw [z18, z3]; rfl
  · rw [z19]; exact ⟨by decide, by decide⟩
theorem iniR_Rep {m : MI} (h : StI 0 m) : Rep (-1) m 0 iniR := by
  obtain ⟨a1, a2, ⟨a3, a4, a5, a6⟩, ⟨a7, a8, a9⟩, a10, ⟨a11, a12, a13⟩, a14, a15, ⟨p0, p1, p2, p3, p4⟩, b1, b2, b3, b4⟩ := h
  have z : ∀ k, (k < 110 ∨ 146 ≤ k) → (k < 30 ∨ 54 ≤ k) → k ≠ 12 → k ≠ 20 → (k < 102 ∨ 106 < k) → iniR k = 0 := fun k a b c d e => iniR_0 a b c d e
  refine ⟨⟨fun i u v => ?_, ?_⟩, ⟨?_, fun l u v => ?_⟩, ⟨?_, fun j u v => ?_⟩, ⟨?_, ?_, ?_, fun w u v => ?_⟩, fun s u v => ⟨?_, ?_⟩, ⟨?_, ?_, fun w => ?_, fun _ => a13, fun l u v => ⟨?_, ?_, ?_⟩⟩, ⟨fun k u v _ => ?_, fun i u v => ?_, fun i u v => ?_, fun i u v => ?_, fun i u v => ?_, ?_, ?_, ?_, ?_⟩⟩
  · rw [iniR_c u v]; exact a1 i u v
  · rw [z 19 (by omega) (by omega) (by omega) (by omega) (by omega)]; exact a2
  · rw [z 16 (by omega) (by omega) (by omega) (by omega) (by omega)]; exact a3
  · rw [z 16 (by omega) (by omega) (by omega) (by omega) (by omega)] at v; omega
  · rw [z 17 (by omega) (by omega) (by omega) (by omega) (by omega)]; exact a5
  · rw [z 17 (by omega) (by omega) (by omega) (by omega) (by omega)] at v; omega
  · rw [z 8 (by omega) (by omega) (by omega) (by omega) (by omega)]; exact a7
  · rw [a8]; exact ⟨by decide, by decide⟩
  · rw [iniR_20]; exact a9
  · rw [z 8 (by omega) (by omega) (by omega) (by omega) (by omega)] at v; omega
  · rw [z _ (by omega) (by omega) (by omega) (by omega) (by omega)]; exact (a10 s).1
  · rw [z _ (by omega) (by omega) (by omega) (by omega) (by omega)]; exact (a10 s).2
  · rw [z 11 (by omega) (by omega) (by omega) (by omega) (by omega)]; exact a11
  · rw [iniR_12]; exact a12
  · exact absurd iniR_12 w
  · rw [iniR_s (by omega) (by omega)]; exact (a14 l u v).1
  · rw [iniR_s (by omega) (by omega)]; exact (a14 l u v).2.1
  · rw [iniR_s (by omega) (by omega)]; exact (a14 l u v).2.2
  · rw [z k (by omega) (by omega) (by omega) (by omega) (by omega)]; exact (a15 k).1
  · rw [z _ (by omega) (by omega) (by omega) (by omega) (by omega)]; exact (a15 i).2.1
  · rw [z _ (by omega) (by omega) (by omega) (by omega) (by omega)]; exact (a15 i).2.2.1
  · have : i = 0 ∨ i = 1 ∨ i = 2 ∨ i = 3 ∨ i = 4 := by omega
    rcases this with e | e | e | e | e
    · subst e; exact p0
    · subst e; exact p1
    · subst e; exact p2
    · subst e; exact p3
    · subst e; exact p4
  · rw [z _ (by omega) (by omega) (by omega) (by omega) (by omega)]; exact (a15 i).2.2.2
  · rw [z 14 (by omega) (by omega) (by omega) (by omega) (by omega)]; exact b1
  · rw [z 15 (by omega) (by omega) (by omega) (by omega) (by omega)]; exact b2
  · rw [z 9 (by omega) (by omega) (by omega) (by omega) (by omega)]; exact b3
  · rw [z 10 (by omega) (by omega) (by omega) (by omega) (by omega)]; exact b4
section LOOP
variable {Q : V → MI → Nat → MR → Prop}
set_option maxRecDepth 16000 in
theorem law_loop (hQ : ∀ mi n mr, Q (vI 1) mi n mr) : ∀ (r j : Nat), r + j = 513 → ∀ (mi : MI) (n : Nat) (mr : MR) (kc ks : Nat), LSt (64 * (j : Int)) mi n mr → (0 ≤ mi 0 111 0 ∧ mi 0 111 0 ≤ 3072) → kc ≤ 200 + 37 * j → ks ≤ 30000 + 2816 * j → Run 21 mt_L_law Q (n, mr, kc, ks) mi 18 [vX 1, vR (some (0, 0)), vR (some (0, 80)), vI (6 * (j : Int))] []
  | 0, j, hj, mi, n, mr, kc, ks, hS, hL, hkc, hks => by
    have hk1 : kc ≤ mK mt_L_law := by show kc ≤ 600000; omega
    have hk2 : ks ≤ mS mt_L_law := by show ks ≤ 7302250; omega
    refine s_iload_n (dc kc_L_law_0 10 rfl) rfl <| s_aload_nX (dc kc_L_law_0 11 rfl) rfl <| s_slen (dc kc_L_law_0 12 rfl) <| k_b (dc kc_L_law_0 13 rfl) rfl <| b_isub (dc kc_L_law_0 14 rfl) (by first | omega | (simp [up] <;> omega)) (by first | omega | (simp [up] <;> omega)) <| s_icmp_gt (tgt := 1048) (dc kc_L_law_0 15 rfl) rfl (fun c24 => (k_i (dc kc_L_law_17 18 rfl) rfl <| s_zreturn (dc kc_L_law_17 19 rfl) rfl (by first | exact Or.inl rfl | exact Or.inr rfl | exact bi_01 | assumption) (by assumption) (by assumption) ?_)) (fun c24 => (?_))
    · exact hQ _ _ _
    · exfalso; omega
  | r + 1, j, hj, mi, n, mr, kc, ks, hS, hL, hkc, hks => by
    have ih := law_loop hQ r (j + 1) (by omega)
    have hM : 64 * (j : Int) + 64 ≤ 1000000 := by omega
    have hN : Nxt Q (6 * (j : Int)) (64 * (j : Int) + 64) kc ks mi := fun m2 n2 r2 kc' ks' h1 h2 sc hS2 => by
      have e1 : 64 * (j : Int) + 64 = 64 * ((j + 1 : Nat) : Int) := by omega
      have e2 : 6 * (j : Int) + 6 = 6 * ((j + 1 : Nat) : Int) := by omega
      rw [e1] at hS2
      refine b_inc3 (dc kc_L_law_17 16 rfl) rfl (Nat.le_of_ble_eq_true rfl) rfl (by first | omega | (simp [up] <;> omega)) (by first | omega | (simp [up] <;> omega)) <| s_goto (tgt := 18) (dc kc_L_law_17 17 rfl) rfl <| ?_
      rw [e2]
      exact ih m2 n2 r2 kc' ks' hS2 (by rw [sc.2]; exact hL) (by omega) (by omega)
    have hk1 : kc ≤ mK mt_L_law := by show kc ≤ 600000; omega
    have hk2 : ks ≤ mS mt_L_law := by show ks ≤ 7302250; omega
    have hk3 : kc + 37 ≤ mK mt_L_law := by show kc + 37 ≤ 600000; omega
    have hk4 : ks + 2816 ≤ mS mt_L_law := by show ks + 2816 ≤ 7302250; omega
    refine s_iload_n (dc kc_L_law_0 10 rfl) rfl <| s_aload_nX (dc kc_L_law_0 11 rfl) rfl <| s_slen (dc kc_L_law_0 12 rfl) <| k_b (dc kc_L_law_0 13 rfl) rfl <| b_isub (dc kc_L_law_0 14 rfl) (by first | omega | (simp [up] <;> omega)) (by first | omega | (simp [up] <;> omega)) <| s_icmp_gt (tgt := 1048) (dc kc_L_law_0 15 rfl) rfl (fun c24 => (?_)) (fun c24 => (s_aload_nX (dc kc_L_law_0 16 rfl) rfl <| s_iload_n (dc kc_L_law_0 17 rfl) rfl <| s_sld (dc kc_L_law_0 18 rfl) (by first | omega | (simp [up] <;> omega)) (by first | omega | (simp [up] <;> omega)) <| k_b (dc kc_L_law_0 19 rfl) rfl <| s_iand (dc kc_L_law_0 20 rfl) <| ?_))
    · refine k_i (dc kc_L_law_17 18 rfl) rfl <| s_zreturn (dc kc_L_law_17 19 rfl) rfl (by first | exact Or.inl rfl | exact Or.inr rfl | exact bi_01 | assumption) (by assumption) (by assumption) ?_
      exact hQ _ _ _
    · have hi1 : 6 * (j : Int) + 6 ≤ mi 0 111 0 := by omega
      have hi0 : 0 ≤ 6 * (j : Int) := by omega
      have hb : 0 ≤ bAnd (mi 0 110 (6 * (j : Int))) 31 ∧ bAnd (mi 0 110 (6 * (j : Int))) 31 ≤ 31 := bAnd_low _ (m := 31) (by decide)
      generalize bAnd (mi 0 110 (6 * (j : Int))) 31 = a at hb
      have ha : a = 0 ∨ a = 1 ∨ a = 2 ∨ a = 3 ∨ a = 4 ∨ a = 5 ∨ a = 6 ∨ a = 7 ∨ a = 8 ∨ a = 9 ∨ a = 10 ∨ a = 11 ∨ a = 12 ∨ a = 13 ∨ a = 14 ∨ a = 15 ∨ a = 16 ∨ a = 17 ∨ a = 18 ∨ a = 19 ∨ a = 20 ∨ a = 21 ∨ a = 22 ∨ a = 23 ∨ a = 24 ∨ a = 25 ∨ a = 26 ∨ a = 27 ∨ a = 28 ∨ a = 29 ∨ a = 30 ∨ a = 31 := by omega
      rcases ha with e | e | e | e | e | e | e | e | e | e | e | e | e | e | e | e | e | e | e | e | e | e | e | e | e | e | e | e | e | e | e | e
      · exact law_feed hS hM hi0 hi1 hL.2 hk3 hk4 hN e
      · exact law_end hS hM hi0 hi1 hL.2 hk3 hk4 hN e
      · exact law_laws hS hM hi0 hi1 hL.2 hk3 hk4 hN e
      · exact law_lines hS hM hi0 hi1 hL.2 hk3 hk4 hN e
      · exact law_fault hS hM hi0 hi1 hL.2 hk3 hk4 hN e
      · exact law_holds hS hM hi0 hi1 hL.2 hk3 hk4 hN e
      · exact law_bears hS hM hi0 hi1 hL.2 hk3 hk4 hN e
      · exact law_asked hS hM hi0 hi1 hL.2 hk3 hk4 hN e
      · exact law_cell hS hM hi0 hi1 hL.2 hk3 hk4 hN e
      · exact law_way hS hM hi0 hi1 hL.2 hk3 hk4 hN e
      · exact law_flip hS hM hi0 hi1 hL.2 hk3 hk4 hN e
      · exact law_row hS hM hi0 hi1 hL.2 hk3 hk4 hN e
      · exact law_lots hS hM hi0 hi1 hL.2 hk3 hk4 hN e
      · exact law_watch hS hM hi0 hi1 hL.2 hk3 hk4 hN e
      · exact law_routine hS hM hi0 hi1 hL.2 hk3 hk4 hN e
      · exact law_step hS hM hi0 hi1 hL.2 hk3 hk4 hN e
      · exact law_seen hS hM hi0 hi1 hL.2 hk3 hk4 hN e
      · exact law_all hS hM hi0 hi1 hL.2 hk3 hk4 hN e
      · exact law_out hS hM hi0 hi1 hL.2 hk3 hk4 hN e
      · exact law_price hS hM hi0 hi1 hL.2 hk3 hk4 hN e
      · exact law_copy hS hM hi0 hi1 hL.2 hk3 hk4 hN e
      · exact law_weighty hS hM hi0 hi1 hL.2 hk3 hk4 hN e
      · exact law_least hS hM hi0 hi1 hL.2 hk3 hk4 hN e
      · exact law_mends hS hM hi0 hi1 hL.2 hk3 hk4 hN e
      · exact law_mend hS hM hi0 hi1 hL.2 hk3 hk4 hN e
      · exact law_sure hS hM hi0 hi1 hL.2 hk3 hk4 hN e
      · exact law_spread hS hM hi0 hi1 hL.2 hk3 hk4 hN e
      · exact law_again hS hM hi0 hi1 hL.2 hk3 hk4 hN e
      · exact law_putIn hS hM hi0 hi1 hL.2 hk3 hk4 hN e
      · exact law_image hS hM hi0 hi1 hL.2 hk3 hk4 hN e
      · exact law_back hS hM hi0 hi1 hL.2 hk3 hk4 hN e
      · exact law_status hS hM hi0 hi1 hL.2 hk3 hk4 hN e
set_option maxRecDepth 16000 in
theorem law_run (hQ : ∀ mi n mr, Q (vI 1) mi n mr) {mi : MI} {mr : MR} (hz : Fz 0 mi mr) (hL : 0 ≤ mi 0 111 0 ∧ mi 0 111 0 ≤ 3072) : Run 21 mt_L_law Q (0, mr, 0, 0) mi 0 [vX 1, vX 0, vX 0, vX 0] [] := by
  refine s_new (j := 0) (dc kc_L_law_0 0 rfl) (by first | assumption | rfl) rfl (by decide) rfl (by first | decide | omega) ?_ kk_L_7 in_X11 it_X11 (Nat.le_of_ble_eq_true rfl) (Nat.le_of_ble_eq_true rfl) <| s_dup (dc kc_L_law_0 1 rfl) rfl <| c_i0 (dc kc_L_law_0 2 rfl) cl_L_9 (Nat.le_of_ble_eq_true rfl) (Nat.le_of_ble_eq_true rfl) (Nat.le_of_ble_eq_true rfl) ?_
  · exact hz.fr (by omega)
  refine i_mended (fun i a b k => hz i (by omega) b k) (fun m1 r1 z1 si f1 nk v1 t1 v60 v70 s110 s111 => ?_)
  refine t_r1 (dc kc_L_law_0 3 rfl) (Nat.le_of_ble_eq_true rfl) rfl <| s_new (j := 80) (dc kc_L_law_0 4 rfl) (by first | assumption | rfl) rfl (by decide) rfl (by first | decide | omega) ?_ kk_L_10 in_X12 it_X12 (Nat.le_of_ble_eq_true rfl) (Nat.le_of_ble_eq_true rfl) <| s_dup (dc kc_L_law_0 5 rfl) rfl <| c_i0 (dc kc_L_law_0 6 rfl) cl_L_12 (Nat.le_of_ble_eq_true rfl) (Nat.le_of_ble_eq_true rfl) (Nat.le_of_ble_eq_true rfl) ?_
  · exact z1.fr (by omega)
  refine i_model (fun i a b k => z1 i (by omega) b k) f1 (fun k => (z1.at (N := 0) (i := 108) (g := 0) (j := 80) rfl (by omega) (by omega) k).1) (fun m2 r2 l2 z2 k2 e2 e81 v2 t2 => ?_)
  have lo : ∀ a b, b < 80 → m2 a b = m1 a b := fun a b h => e2 a b (Or.inl h)
  have hS : LSt (64 * ((0 : Nat) : Int)) m2 130 r2 := by
    refine ⟨1, 0, none, none, none, iniR, m2 0 86, 0, -1, 0, none, none, ⟨⟨l2, ⟨?_, ?_, ?_, ?_, by decide, (fun _ h => by cases h), (fun _ h => by cases h), (fun _ h => by cases h), rfl⟩, rfl, z2⟩, ⟨(iniR_Rep si).far (fun a b u v => lo a b (by omega)), ?_, ?_⟩, ⟨?_, ?_, ?_, ?_⟩, ⟨rfl, rfl⟩, Or.inl ?_, Or.inl ?_, fun h => absurd ?_ h⟩, ⟨e81, rfl, ⟨v2.2.1, v2.2.2.1, v2.1⟩, ⟨(t2 0).1, (t2 1).1⟩, ?_, fun m a b c => ?_⟩, ⟨iniR_Inv, ⟨⟨by decide, by decide⟩, (fun i a b => by omega)⟩, (fun _ h => by cases h), (fun _ h => by cases h)⟩⟩
    · rw [k2 0 0 (by decide)]; exact nk.1
    · rw [k2 0 0 (by decide)]; exact nk.2.1
    · rw [k2 0 2 (by decide)]; exact nk.2.2 0
    · rw [k2 0 2 (by decide)]; exact nk.2.2 1
    · have q := si.2.2.1
      unfold TxS
      rw [lo 0 20 (by decide), lo 0 25 (by decide), q.1, q.2.1]
      exact ⟨⟨by decide, by decide⟩, fun l a b => by omega⟩
    · have q := si.2.2.1
      unfold TxS
      rw [lo _ 20 (by decide), lo _ 25 (by decide), q.2.2.1, q.2.2.2]
      exact ⟨⟨by decide, by decide⟩, fun l a b => by omega⟩
    · rw [lo 0 1 (by decide)]
      funext k
      rw [t1 k, (t2 k).2]
    · rw [lo 0 0 (by decide)]; exact v1.1
    · rw [lo 0 0 (by decide)]; exact v1.2.1
    · rw [lo 0 0 (by decide)]; exact v1.2.2
    · rw [lo 0 60 (by decide)]; exact v60
    · rw [lo 0 70 (by decide)]; exact v70
    · rw [lo 0 70 (by decide)]; exact v70
    · rw [v2.2.2.2.1]; exact ⟨by decide, by decide⟩
    · rw [v2.2.2.2.2] at c; omega
  refine t_r2 (dc kc_L_law_0 7 rfl) (Nat.le_of_ble_eq_true rfl) rfl <| k_i (dc kc_L_law_0 8 rfl) rfl <| t_i3 (dc kc_L_law_0 9 rfl) (Nat.le_of_ble_eq_true rfl) rfl <| ?_
  exact law_loop hQ 513 0 rfl m2 130 r2 _ _ hS (by rw [e2 0 111 (Or.inr (by decide)), s111]; exact hL) (Nat.le_of_ble_eq_true rfl) (Nat.le_of_ble_eq_true rfl)
end LOOP
