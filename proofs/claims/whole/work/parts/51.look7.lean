/-! the reference: least, mends, mend, walked -/
theorem Least.nn {ρ : Int → Int} {m P C : Int} (h : Least ρ m P C) : 0 ≤ C ∧ C ≤ P := by
  obtain ⟨⟨L, h1, h2, h3⟩, _⟩ := h
  have := prc_nn (ρ := ρ) (nodup_of_fst h1.2.1.1)
  omega
theorem Lst.ne {ρ : Int → Int} {m P C : Int} {Y : List (List PR)} (h : Least ρ m P C) (hY : Lst ρ P C Y) : Y ≠ [] := by
  obtain ⟨⟨L, h1, h2, h3⟩, _⟩ := h
  intro e
  have := (hY.2 L).mpr ⟨h1, h2, h3⟩
  rw [e] at this
  cases this
theorem Lst.M {ρ : Int → Int} {m : Int} {Y : List (List PR)} {mi : MI} (hm : m ≤ 3) (h : Least ρ m (mi 0 80 34) (mi 0 80 35)) (hY : Lst ρ (mi 0 80 34) (mi 0 80 35) Y) (hf : mi 0 80 36 = min (Y.length : Int) 501) (he : ∀ (i : Nat) L, i < 501 → Y[i]? = some L → mi 0 93 i = key3 L) : LsM mi Y := by
  refine ⟨hf, he, fun L hL => ?_, Lst.ne h hY⟩
  have := (hY.2 L).mp hL
  exact ⟨this.2.1, by have := h.2.1; omega, this.1.2.1.ok⟩
def pKK (j : Nat) (k : Int) : Bool := j == 81 || j == 85 || j == 92 || j == 93 || j == 94 || j == 95 || j == 96 || j == 97 || j == 98 || (j == 80 && (k == 0 || k == 1 || k == 7 || k == 8 || k == 9 || k == 30 || k == 33 || k == 34 || k == 35 || k == 36))
section LK7
variable {d n G : Nat} {mr : MR} {Q : V → MI → Nat → MR → Prop}
theorem t_least (hL : Lay G mr) {mi : MI} {m w : Int} (hI : Inv0 (mi 0 81)) (hp : ∀ i, 0 ≤ i → i < 5 → 1 ≤ mi 0 81 (102 + i) ∧ mi 0 81 (102 + i) ≤ 9) (hk : ∀ m, 1 ≤ m → m ≤ 3 → mi 0 80 33 = m → LkY (mi 0 81) m mi)
    (hQ1 : ¬ ((1 ≤ m ∧ m ≤ 3) ∧ (0 ≤ w ∧ w ≤ 2)) → ∀ mi', Ch p0 mi mi' → Q (vI (-1)) mi' n mr)
    (hQ2 : 1 ≤ m → m ≤ 3 → NoMend (mi 0 81) m → ∀ mi', Ch pKK mi mi' → mi' 0 81 = mi 0 81 → mi' 0 80 1 = mi 0 80 1 → mi' 0 80 33 = m → LkY (mi 0 81) m mi' → Q (vI (-1)) mi' n mr)
    (hQ3 : 1 ≤ m → m ≤ 3 → ∀ P C Y a, Least (mi 0 81) m P C → Lst (mi 0 81) P C Y → (w = 0 → a = P) → (w = 1 → a = min (Y.length : Int) 501) → (w = 2 → (a = 1 ∧ Dif (mi 0 81) (mi 0 81 15) Y) ∨ (a = 0 ∧ ¬ Dif (mi 0 81) (mi 0 81 15) Y)) → ∀ mi', Ch pKK mi mi' → mi' 0 81 = mi 0 81 → mi' 0 80 1 = mi 0 80 1 → mi' 0 80 33 = m → LkY (mi 0 81) m mi' → Q (vI a) mi' n mr) : Tx (d+10) mt_X12_least [vR (some (0, 80)), vI m, vI w] mi n mr Q := by
  refine tx_intro (ls := [vR (some (0, 80)), vI m, vI w]) om_X12_least rfl (Nat.le_of_ble_eq_true rfl) ?_
  have e81 : up mi 0 80 0 0 0 81 = mi 0 81 := up_j (by decide)
  have e33 : up mi 0 80 0 0 0 80 33 = mi 0 80 33 := up_k (by decide)
  refine r_aload_n (dc kc_X12_least_0 0 rfl) rfl <| k_i (dc kc_X12_least_0 1 rfl) rfl <| s_putI (dc kc_X12_least_0 2 rfl) fl_X12_86 <| s_iload_n (dc kc_X12_least_0 3 rfl) rfl <| s_i2l (dc kc_X12_least_0 4 rfl) <| s_lconst1 (dc kc_X12_least_0 5 rfl) <| k_j (dc kc_X12_least_0 6 rfl) kj_X12_402 rfl (a := 3) (by decide) <| c_s3r (dc kc_X12_least_0 7 rfl) cl_X12_92 rfl (Nat.le_of_ble_eq_true rfl) (Nat.zero_le _) (Nat.zero_le _) <| t_in <| s_if_eqb (tgt := 29) (dc kc_X12_least_0 8 rfl) rfl (fun c14 => (k_i (dc kc_X12_least_0 15 rfl) rfl <| s_ireturn (dc kc_X12_least_0 16 rfl) rfl (Nat.zero_le _) (Nat.zero_le _) ?_)) (fun c14 => (s_iload_n (dc kc_X12_least_0 9 rfl) rfl <| s_i2l (dc kc_X12_least_0 10 rfl) <| s_lconst0 (dc kc_X12_least_0 11 rfl) <| k_j (dc kc_X12_least_0 12 rfl) kj_X12_235 rfl (a := 2) (by decide) <| c_s3r (dc kc_X12_least_0 13 rfl) cl_X12_92 rfl (Nat.le_of_ble_eq_true rfl) (Nat.zero_le _) (Nat.zero_le _) <| t_in <| s_if_neb (tgt := 31) (dc kc_X12_least_0 14 rfl) rfl (fun c26 => (r_aload_n (dc kc_X12_least_0 17 rfl) rfl <| s_iload_n (dc kc_X12_least_0 18 rfl) rfl <| c_v1 (dc kc_X12_least_0 19 rfl) cl_X12_500 rfl (Nat.le_of_ble_eq_true rfl) (Nat.zero_le _) (Nat.zero_le _) ?_)) (fun c26 => (k_i (dc kc_X12_least_0 15 rfl) rfl <| s_ireturn (dc kc_X12_least_0 16 rfl) rfl (Nat.zero_le _) (Nat.zero_le _) ?_))))
  · exact hQ1 (fun z => c14 z.1) _ (Ch.rf.up rfl)
  · refine t_look hL (by rw [e81]; exact hI) (by rw [e81]; exact hp) c14 (fun h => ?_) (fun m1 g1 f81 f33 hY => ?_)
    · rw [e33] at h
      rw [e81]
      exact (hk m c14.1 c14.2 h).mv (up_k (by decide)) (up_k (by decide)) (up_k (by decide)) (up_j (by decide))
    · rw [e81] at f81 hY
      have gg : Ch pKK mi m1 := (Ch.rf.up rfl).tr (g1.mono (fun _ _ z => by simp [pK, pKK] at z ⊢; omega))
      have f1 : m1 0 80 1 = mi 0 80 1 := by rw [g1.at (by decide), up_k (by decide)]
      rcases id hY with ⟨h1, h2⟩ | ⟨h1, h2, Y, h3, h4, h5⟩
      · refine r_aload_n (dc kc_X12_least_0 20 rfl) rfl <| c_v0r (dc kc_X12_least_0 21 rfl) cl_X12_503 rfl (Nat.le_of_ble_eq_true rfl) (Nat.zero_le _) (Nat.zero_le _) <| t_canMend <| s_if_neb (tgt := 45) (dc kc_X12_least_0 22 rfl) rfl (fun c40 => (?_)) (fun c40 => (k_i (dc kc_X12_least_0 23 rfl) rfl <| s_ireturn (dc kc_X12_least_0 24 rfl) rfl (Nat.zero_le _) (Nat.zero_le _) ?_))
        · exfalso; exact c40 h1
        · exact hQ2 c14.1 c14.2 h2 m1 gg f81 f1 f33 hY
      · have hM := Lst.M c14.2 h2 h3 h4 h5
        refine r_aload_n (dc kc_X12_least_0 20 rfl) rfl <| c_v0r (dc kc_X12_least_0 21 rfl) cl_X12_503 rfl (Nat.le_of_ble_eq_true rfl) (Nat.zero_le _) (Nat.zero_le _) <| t_canMend <| s_if_neb (tgt := 45) (dc kc_X12_least_0 22 rfl) rfl (fun c40 => (s_iload_n (dc kc_X12_least_0 25 rfl) rfl <| s_if_ne (tgt := 56) (dc kc_X12_least_0 26 rfl) rfl (fun c46 => (s_iload_n (dc kc_X12_least_0 30 rfl) rfl <| k_i (dc kc_X12_least_0 31 rfl) rfl <| s_icmp_ne (tgt := 68) (dc kc_X12_least_0 32 rfl) rfl (fun c58 => (?_)) (fun c58 => (r_aload_n (dc kc_X12_least_0 33 rfl) rfl <| s_getI (dc kc_X12_least_0 34 rfl) fl_X12_455 <| s_goto (tgt := 80) (dc kc_X12_least_0 35 rfl) rfl <| ?_)))) (fun c46 => (r_aload_n (dc kc_X12_least_0 27 rfl) rfl <| s_getI (dc kc_X12_least_0 28 rfl) fl_X12_458 <| s_goto (tgt := 80) (dc kc_X12_least_0 29 rfl) rfl <| ?_)))) (fun c40 => (k_i (dc kc_X12_least_0 23 rfl) rfl <| s_ireturn (dc kc_X12_least_0 24 rfl) rfl (Nat.zero_le _) (Nat.zero_le _) ?_))
        · refine r_aload_n (dc kc_X12_least_0 36 rfl) rfl <| c_v0r (dc kc_X12_least_0 37 rfl) cl_X12_506 rfl (Nat.le_of_ble_eq_true rfl) (Nat.zero_le _) (Nat.zero_le _) ?_
          refine t_doDiffer hL hM (fun hd => ?_) (fun hd => ?_)
          · rw [f81] at hd
            refine s_if_eq (tgt := 79) (dc kc_X12_least_0 38 rfl) rfl (fun c72 => (k_i (dc kc_X12_least_1 1 rfl) rfl <| ?_)) (fun c72 => (k_i (dc kc_X12_least_0 39 rfl) rfl <| s_goto (tgt := 80) (dc kc_X12_least_1 0 rfl) rfl <| ?_))
            · exfalso; omega
            · refine s_ireturn (dc kc_X12_least_1 2 rfl) rfl (Nat.zero_le _) (Nat.zero_le _) ?_
              exact hQ3 c14.1 c14.2 _ _ Y _ h2 h3 (fun z => by omega) (fun z => by omega) (fun _ => Or.inl ⟨rfl, hd⟩) m1 gg f81 f1 f33 hY
          · rw [f81] at hd
            refine s_if_eq (tgt := 79) (dc kc_X12_least_0 38 rfl) rfl (fun c72 => (k_i (dc kc_X12_least_1 1 rfl) rfl <| ?_)) (fun c72 => (k_i (dc kc_X12_least_0 39 rfl) rfl <| s_goto (tgt := 80) (dc kc_X12_least_1 0 rfl) rfl <| ?_))
            · refine s_ireturn (dc kc_X12_least_1 2 rfl) rfl (Nat.zero_le _) (Nat.zero_le _) ?_
              exact hQ3 c14.1 c14.2 _ _ Y _ h2 h3 (fun z => by omega) (fun z => by omega) (fun _ => Or.inr ⟨rfl, hd⟩) m1 gg f81 f1 f33 hY
            · exfalso; omega
        · refine s_ireturn (dc kc_X12_least_1 2 rfl) rfl (Nat.zero_le _) (Nat.zero_le _) ?_
          exact hQ3 c14.1 c14.2 _ _ Y _ h2 h3 (fun z => by omega) (fun _ => h4) (fun z => by omega) m1 gg f81 f1 f33 hY
        · refine s_ireturn (dc kc_X12_least_1 2 rfl) rfl (Nat.zero_le _) (Nat.zero_le _) ?_
          exact hQ3 c14.1 c14.2 _ _ Y _ h2 h3 (fun _ => rfl) (fun z => by omega) (fun z => by omega) m1 gg f81 f1 f33 hY
        · exfalso; omega
  · exact hQ1 (fun z => c26 z.2) _ (Ch.rf.up rfl)
theorem t_mends (hL : Lay G mr) {mi : MI} {m i k w : Int} (hI : Inv0 (mi 0 81)) (hp : ∀ i, 0 ≤ i → i < 5 → 1 ≤ mi 0 81 (102 + i) ∧ mi 0 81 (102 + i) ≤ 9) (hk : ∀ m, 1 ≤ m → m ≤ 3 → mi 0 80 33 = m → LkY (mi 0 81) m mi)
    (hQ1 : ¬ ((1 ≤ m ∧ m ≤ 3) ∧ (0 ≤ w ∧ w ≤ 1)) → ∀ mi', Ch p0 mi mi' → Q (vI (-1000)) mi' n mr)
    (hQ2 : 1 ≤ m → m ≤ 3 → NoMend (mi 0 81) m → ∀ mi', Ch pKK mi mi' → mi' 0 81 = mi 0 81 → mi' 0 80 1 = mi 0 80 1 → mi' 0 80 33 = m → LkY (mi 0 81) m mi' → Q (vI (-1000)) mi' n mr)
    (hQ3 : 1 ≤ m → m ≤ 3 → (0 ≤ w ∧ w ≤ 1) → ∀ P C Y a, Least (mi 0 81) m P C → Lst (mi 0 81) P C Y → (¬ ((0 ≤ i ∧ i < min (Y.length : Int) 500) ∧ (0 ≤ k ∧ k < C)) → a = -1000) → ((0 ≤ i ∧ i < min (Y.length : Int) 500) → (0 ≤ k ∧ k < C) → ∃ L q, Y[i.toNat]? = some L ∧ L[k.toNat]? = some q ∧ a = if w = 0 then q.1 else q.2) → ∀ mi', Ch pKK mi mi' → mi' 0 81 = mi 0 81 → mi' 0 80 1 = mi 0 80 1 → mi' 0 80 33 = m → LkY (mi 0 81) m mi' → Q (vI a) mi' n mr) : Tx (d+10) mt_X12_mends [vR (some (0, 80)), vI m, vI i, vI k, vI w] mi n mr Q := by
  refine tx_intro (ls := [vR (some (0, 80)), vI m, vI i, vI k, vI w, vX 0]) om_X12_mends rfl (Nat.le_of_ble_eq_true rfl) ?_
  have e81 : up mi 0 80 0 0 0 81 = mi 0 81 := up_j (by decide)
  have e33 : up mi 0 80 0 0 0 80 33 = mi 0 80 33 := up_k (by decide)
  refine r_aload_n (dc kc_X12_mends_0 0 rfl) rfl <| k_i (dc kc_X12_mends_0 1 rfl) rfl <| s_putI (dc kc_X12_mends_0 2 rfl) fl_X12_86 <| s_iload_n (dc kc_X12_mends_0 3 rfl) rfl <| s_i2l (dc kc_X12_mends_0 4 rfl) <| s_lconst1 (dc kc_X12_mends_0 5 rfl) <| k_j (dc kc_X12_mends_0 6 rfl) kj_X12_402 rfl (a := 3) (by decide) <| c_s3r (dc kc_X12_mends_0 7 rfl) cl_X12_92 rfl (Nat.le_of_ble_eq_true rfl) (Nat.zero_le _) (Nat.zero_le _) <| t_in <| s_if_eqb (tgt := 28) (dc kc_X12_mends_0 8 rfl) rfl (fun c14 => (k_s (dc kc_X12_mends_0 15 rfl) rfl <| s_ireturn (dc kc_X12_mends_0 16 rfl) rfl (Nat.zero_le _) (Nat.zero_le _) ?_)) (fun c14 => (s_iload (dc kc_X12_mends_0 9 rfl) rfl <| s_i2l (dc kc_X12_mends_0 10 rfl) <| s_lconst0 (dc kc_X12_mends_0 11 rfl) <| s_lconst1 (dc kc_X12_mends_0 12 rfl) <| c_s3r (dc kc_X12_mends_0 13 rfl) cl_X12_92 rfl (Nat.le_of_ble_eq_true rfl) (Nat.zero_le _) (Nat.zero_le _) <| t_in <| s_if_neb (tgt := 32) (dc kc_X12_mends_0 14 rfl) rfl (fun c25 => (r_aload_n (dc kc_X12_mends_0 17 rfl) rfl <| s_iload_n (dc kc_X12_mends_0 18 rfl) rfl <| c_v1 (dc kc_X12_mends_0 19 rfl) cl_X12_500 rfl (Nat.le_of_ble_eq_true rfl) (Nat.zero_le _) (Nat.zero_le _) ?_)) (fun c25 => (k_s (dc kc_X12_mends_0 15 rfl) rfl <| s_ireturn (dc kc_X12_mends_0 16 rfl) rfl (Nat.zero_le _) (Nat.zero_le _) ?_))))
  · exact hQ1 (fun z => c14 z.1) _ (Ch.rf.up rfl)
  · refine t_look hL (by rw [e81]; exact hI) (by rw [e81]; exact hp) c14 (fun h => ?_) (fun m1 g1 f81 f33 hY => ?_)
    · rw [e33] at h
      rw [e81]
      exact (hk m c14.1 c14.2 h).mv (up_k (by decide)) (up_k (by decide)) (up_k (by decide)) (up_j (by decide))
    · rw [e81] at f81 hY
      have gg : Ch pKK mi m1 := (Ch.rf.up rfl).tr (g1.mono (fun _ _ z => by simp [pK, pKK] at z ⊢; omega))
      have f1 : m1 0 80 1 = mi 0 80 1 := by rw [g1.at (by decide), up_k (by decide)]
      rcases id hY with ⟨h1, h2⟩ | ⟨h1, h2, Y, h3, h4, h5⟩
      · refine r_aload_n (dc kc_X12_mends_0 20 rfl) rfl <| c_v0r (dc kc_X12_mends_0 21 rfl) cl_X12_503 rfl (Nat.le_of_ble_eq_true rfl) (Nat.zero_le _) (Nat.zero_le _) <| t_canMend <| s_if_eqb (tgt := 76) (dc kc_X12_mends_0 22 rfl) rfl (fun c41 => (k_s (dc kc_X12_mends_1 3 rfl) rfl <| s_ireturn (dc kc_X12_mends_1 4 rfl) rfl (Nat.zero_le _) (Nat.zero_le _) ?_)) (fun c41 => (?_))
        · exact hQ2 c14.1 c14.2 h2 m1 gg f81 f1 f33 hY
        · exfalso; exact c41 h1
      · have hM := Lst.M c14.2 h2 h3 h4 h5
        have hC := h2.nn
        have hC3 := h2.2.1
        have no : ¬ ((0 ≤ i ∧ i < min (Y.length : Int) 500) ∧ (0 ≤ k ∧ k < m1 0 80 35)) → Q (vI (-1000)) m1 n mr := fun hn => hQ3 c14.1 c14.2 c25 _ _ Y _ h2 h3 (fun _ => rfl) (fun z1 z2 => absurd ⟨z1, z2⟩ hn) m1 gg f81 f1 f33 hY
        refine r_aload_n (dc kc_X12_mends_0 20 rfl) rfl <| c_v0r (dc kc_X12_mends_0 21 rfl) cl_X12_503 rfl (Nat.le_of_ble_eq_true rfl) (Nat.zero_le _) (Nat.zero_le _) <| t_canMend <| s_if_eqb (tgt := 76) (dc kc_X12_mends_0 22 rfl) rfl (fun c41 => (k_s (dc kc_X12_mends_1 3 rfl) rfl <| s_ireturn (dc kc_X12_mends_1 4 rfl) rfl (Nat.zero_le _) (Nat.zero_le _) ?_)) (fun c41 => (s_iload_n (dc kc_X12_mends_0 23 rfl) rfl <| s_i2l (dc kc_X12_mends_0 24 rfl) <| s_lconst0 (dc kc_X12_mends_0 25 rfl) <| r_aload_n (dc kc_X12_mends_0 26 rfl) rfl <| c_v0r (dc kc_X12_mends_0 27 rfl) cl_X12_494 rfl (Nat.le_of_ble_eq_true rfl) (Nat.zero_le _) (Nat.zero_le _) <| t_many <| s_i2l (dc kc_X12_mends_0 28 rfl) <| s_lconst1 (dc kc_X12_mends_0 29 rfl) <| b_lsub (dc kc_X12_mends_0 30 rfl) (by first | omega | (simp [up] <;> omega)) (by first | omega | (simp [up] <;> omega)) <| c_s3r (dc kc_X12_mends_0 31 rfl) cl_X12_92 rfl (Nat.le_of_ble_eq_true rfl) (Nat.zero_le _) (Nat.zero_le _) <| t_in <| s_if_eqb (tgt := 76) (dc kc_X12_mends_0 32 rfl) rfl (fun c57 => (k_s (dc kc_X12_mends_1 3 rfl) rfl <| s_ireturn (dc kc_X12_mends_1 4 rfl) rfl (Nat.zero_le _) (Nat.zero_le _) ?_)) (fun c57 => (s_iload_n (dc kc_X12_mends_0 33 rfl) rfl <| s_i2l (dc kc_X12_mends_0 34 rfl) <| s_lconst0 (dc kc_X12_mends_0 35 rfl) <| r_aload_n (dc kc_X12_mends_0 36 rfl) rfl <| s_getI (dc kc_X12_mends_0 37 rfl) fl_X12_461 <| s_i2l (dc kc_X12_mends_0 38 rfl) <| s_lconst1 (dc kc_X12_mends_0 39 rfl) <| b_lsub (dc kc_X12_mends_1 0 rfl) (by first | omega | (simp [up] <;> omega)) (by first | omega | (simp [up] <;> omega)) <| c_s3r (dc kc_X12_mends_1 1 rfl) cl_X12_92 rfl (Nat.le_of_ble_eq_true rfl) (Nat.zero_le _) (Nat.zero_le _) <| t_in <| s_if_neb (tgt := 80) (dc kc_X12_mends_1 2 rfl) rfl (fun c73 => (?_)) (fun c73 => (k_s (dc kc_X12_mends_1 3 rfl) rfl <| s_ireturn (dc kc_X12_mends_1 4 rfl) rfl (Nat.zero_le _) (Nat.zero_le _) ?_))))))
        · exfalso; omega
        · exact no (fun z => by omega)
        · have hi : i.toNat < Y.length := by omega
          have hgi : Y[i.toNat]? = some Y[i.toNat] := List.getElem?_eq_getElem hi
          have hLq := hM.2.2.1 _ (List.getElem_mem hi)
          have e93 := h5 i.toNat _ (by omega) hgi
          rw [Int.toNat_of_nonneg (by omega)] at e93
          generalize Y[i.toNat] = L at *
          have hkl : k.toNat < L.length := by omega
          have hgk : L[k.toNat]? = some L[k.toNat] := List.getElem?_eq_getElem hkl
          have ho := hLq.2.2 _ (List.getElem_mem hkl)
          generalize L[k.toNat] = q at *
          have yes : ∀ a, a = (if w = 0 then q.1 else q.2) → Q (vI a) m1 n mr := fun a ea => hQ3 c14.1 c14.2 c25 _ _ Y a h2 h3 (fun z => absurd ⟨⟨by omega, by omega⟩, by omega, by omega⟩ z) (fun _ _ => ⟨L, q, hgi, hgk, ea⟩) m1 gg f81 f1 f33 hY
          unfold okP at ho
          refine r_aload_n (dc kc_X12_mends_1 5 rfl) rfl <| r_aload_n (dc kc_X12_mends_1 6 rfl) rfl <| s_getA (dc kc_X12_mends_1 7 rfl) fl_X12_51 (ly_80_37 hL) <| s_iload_n (dc kc_X12_mends_1 8 rfl) rfl <| s_laload (dc kc_X12_mends_1 9 rfl) rfl (by first | omega | (simp [up] <;> omega)) (by first | omega | (simp [up] <;> omega)) <| s_iload_n (dc kc_X12_mends_1 10 rfl) rfl <| c_v2r (dc kc_X12_mends_1 11 rfl) cl_X12_490 rfl (Nat.le_of_ble_eq_true rfl) (Nat.zero_le _) (Nat.zero_le _) ?_
          refine t_partOf (L := L) (q := q) hLq.1.symm hLq.2.1 hLq.2.2 e93 (by omega) hgk ?_
          refine k_i (dc kc_X12_mends_1 12 rfl) rfl <| b_isub (dc kc_X12_mends_1 13 rfl) (by first | omega | (simp [up] <;> omega)) (by first | omega | (simp [up] <;> omega)) <| t_i5 (dc kc_X12_mends_1 14 rfl) (Nat.le_of_ble_eq_true rfl) rfl <| s_iload (dc kc_X12_mends_1 15 rfl) rfl <| s_if_ne (tgt := 108) (dc kc_X12_mends_1 16 rfl) rfl (fun c97 => (s_iload (dc kc_X12_mends_1 21 rfl) rfl <| k_b (dc kc_X12_mends_1 22 rfl) rfl <| b_irem (dc kc_X12_mends_1 23 rfl) (by first | omega | (simp [up] <;> omega)) (by first | omega | (simp [up] <;> omega)) <| k_i (dc kc_X12_mends_1 24 rfl) rfl <| b_isub (dc kc_X12_mends_1 25 rfl) (by first | omega | (simp [up] <;> omega)) (by first | omega | (simp [up] <;> omega)) <| s_ireturn (dc kc_X12_mends_1 26 rfl) rfl (Nat.zero_le _) (Nat.zero_le _) ?_)) (fun c97 => (s_iload (dc kc_X12_mends_1 17 rfl) rfl <| k_b (dc kc_X12_mends_1 18 rfl) rfl <| b_idiv (dc kc_X12_mends_1 19 rfl) (by first | omega | (simp [up] <;> omega)) (by first | omega | (simp [up] <;> omega)) <| s_goto (tgt := 115) (dc kc_X12_mends_1 20 rfl) rfl <| s_ireturn (dc kc_X12_mends_1 26 rfl) rfl (Nat.zero_le _) (Nat.zero_le _) ?_))
          · exact yes _ (by rw [if_neg c97]; omega)
          · exact yes _ (by rw [if_pos c97]; omega)
        · exact no (fun z => by omega)
  · exact hQ1 (fun z => c25 z.2) _ (Ch.rf.up rfl)
theorem t_mend (hL : Lay G mr) {mi : MI} {m i : Int} (hI : Inv0 (mi 0 81)) (hp : ∀ i, 0 ≤ i → i < 5 → 1 ≤ mi 0 81 (102 + i) ∧ mi 0 81 (102 + i) ≤ 9) (hk : ∀ m, 1 ≤ m → m ≤ 3 → mi 0 80 33 = m → LkY (mi 0 81) m mi)
    (hQ1 : ¬ (1 ≤ m ∧ m ≤ 3) → ∀ mi', Ch pT mi mi' → mi' 0 80 1 = -1 → Q (vI (-1)) mi' n mr)
    (hQ2 : 1 ≤ m → m ≤ 3 → (NoMend (mi 0 81) m ∨ ∃ P C Y, Least (mi 0 81) m P C ∧ Lst (mi 0 81) P C Y ∧ (C = 0 ∨ (i ≠ -1 ∧ ¬ (0 ≤ i ∧ i < min (Y.length : Int) 500)) ∨ (i = -1 ∧ Dif (mi 0 81) (mi 0 81 15) Y))) → ∀ mi', Ch pKK mi mi' → mi' 0 81 = mi 0 81 → mi' 0 80 1 = -3 → mi' 0 80 33 = m → LkY (mi 0 81) m mi' → Q (vI (-3)) mi' n mr)
    (hQ3 : 1 ≤ m → m ≤ 3 → ∀ P C Y L, Least (mi 0 81) m P C → Lst (mi 0 81) P C Y → C ≠ 0 → (i ≠ -1 → 0 ≤ i ∧ i < min (Y.length : Int) 500) → (i = -1 → ¬ Dif (mi 0 81) (mi 0 81 15) Y) → Y[(if i = -1 then 0 else i).toNat]? = some L → ∀ mi', Ch pKK mi mi' → mi' 0 81 = mndR (mi 0 81) L → mi' 0 80 1 = 0 → mi' 0 80 33 = 0 → Q (vI P) mi' n mr) : Tx (d+10) mt_X12_mend [vR (some (0, 80)), vI m, vI i] mi n mr Q := by
  refine tx_intro (ls := [vR (some (0, 80)), vI m, vI i, vX 0, vX 0, vX 0, vX 0, vX 0]) om_X12_mend rfl (Nat.le_of_ble_eq_true rfl) ?_
  have e81 : up mi 0 80 0 0 0 81 = mi 0 81 := up_j (by decide)
  have e33 : up mi 0 80 0 0 0 80 33 = mi 0 80 33 := up_k (by decide)
  refine r_aload_n (dc kc_X12_mend_0 0 rfl) rfl <| k_i (dc kc_X12_mend_0 1 rfl) rfl <| s_putI (dc kc_X12_mend_0 2 rfl) fl_X12_86 <| s_iload_n (dc kc_X12_mend_0 3 rfl) rfl <| s_i2l (dc kc_X12_mend_0 4 rfl) <| s_lconst1 (dc kc_X12_mend_0 5 rfl) <| k_j (dc kc_X12_mend_0 6 rfl) kj_X12_402 rfl (a := 3) (by decide) <| c_s3r (dc kc_X12_mend_0 7 rfl) cl_X12_92 rfl (Nat.le_of_ble_eq_true rfl) (Nat.zero_le _) (Nat.zero_le _) <| t_in <| s_if_neb (tgt := 23) (dc kc_X12_mend_0 8 rfl) rfl (fun c14 => (r_aload_n (dc kc_X12_mend_0 13 rfl) rfl <| s_iload_n (dc kc_X12_mend_0 14 rfl) rfl <| c_v1 (dc kc_X12_mend_0 15 rfl) cl_X12_500 rfl (Nat.le_of_ble_eq_true rfl) (Nat.zero_le _) (Nat.zero_le _) ?_)) (fun c14 => (r_aload_n (dc kc_X12_mend_0 9 rfl) rfl <| k_i (dc kc_X12_mend_0 10 rfl) rfl <| c_v1r (dc kc_X12_mend_0 11 rfl) cl_X12_96 rfl (Nat.le_of_ble_eq_true rfl) (Nat.zero_le _) (Nat.zero_le _) <| t_tell <| s_ireturn (dc kc_X12_mend_0 12 rfl) rfl (Nat.zero_le _) (Nat.zero_le _) ?_))
  · refine t_look hL (by rw [e81]; exact hI) (by rw [e81]; exact hp) c14 (fun h => ?_) (fun m1 g1 f81 f33 hY => ?_)
    · rw [e33] at h
      rw [e81]
      exact (hk m c14.1 c14.2 h).mv (up_k (by decide)) (up_k (by decide)) (up_k (by decide)) (up_j (by decide))
    · rw [e81] at f81 hY
      have gg : Ch pKK mi m1 := (Ch.rf.up rfl).tr (g1.mono (fun _ _ z => by simp [pK, pKK] at z ⊢; omega))
      have no : (NoMend (mi 0 81) m ∨ ∃ P C Y, Least (mi 0 81) m P C ∧ Lst (mi 0 81) P C Y ∧ (C = 0 ∨ (i ≠ -1 ∧ ¬ (0 ≤ i ∧ i < min (Y.length : Int) 500)) ∨ (i = -1 ∧ Dif (mi 0 81) (mi 0 81 15) Y))) → ∀ x3 x4 x5 x6 x7 : V, Run (d+10) mt_X12_mend Q (n, mr, 0, 0) m1 75 [vR (some (0, 80)), vI m, vI i, x3, x4, x5, x6, x7] [] := by
        intro hn x3 x4 x5 x6 x7
        refine r_aload_n (dc kc_X12_mend_1 1 rfl) rfl <| k_b (dc kc_X12_mend_1 2 rfl) rfl <| c_v1r (dc kc_X12_mend_1 3 rfl) cl_X12_96 rfl (Nat.le_of_ble_eq_true rfl) (Nat.zero_le _) (Nat.zero_le _) <| t_tell <| s_ireturn (dc kc_X12_mend_1 4 rfl) rfl (Nat.zero_le _) (Nat.zero_le _) ?_
        exact hQ2 c14.1 c14.2 hn _ (gg.up rfl) (by rw [up_j (by decide), f81]) up_at (by rw [up_k (by decide), f33]) (hY.mv (up_k (by decide)) (up_k (by decide)) (up_k (by decide)) (up_j (by decide)))
      rcases id hY with ⟨h1, h2⟩ | ⟨h1, h2, Y, h3, h4, h5⟩
      · refine r_aload_n (dc kc_X12_mend_0 16 rfl) rfl <| c_v0r (dc kc_X12_mend_0 17 rfl) cl_X12_503 rfl (Nat.le_of_ble_eq_true rfl) (Nat.zero_le _) (Nat.zero_le _) <| t_canMend <| s_if_eqb (tgt := 75) (dc kc_X12_mend_0 18 rfl) rfl (fun c32 => (?_)) (fun c32 => (?_))
        · exact no (Or.inl h2) _ _ _ _ _
        · exfalso; exact c32 h1
      · have hM := Lst.M c14.2 h2 h3 h4 h5
        have hC := h2.nn
        have hC3 := h2.2.1
        have hY0 : 0 < Y.length := List.length_pos_iff.mpr hM.2.2.2
        have no' : (m1 0 80 35 = 0 ∨ (i ≠ -1 ∧ ¬ (0 ≤ i ∧ i < min (Y.length : Int) 500)) ∨ (i = -1 ∧ Dif (mi 0 81) (mi 0 81 15) Y)) → ∀ x3 x4 x5 x6 x7 : V, Run (d+10) mt_X12_mend Q (n, mr, 0, 0) m1 75 [vR (some (0, 80)), vI m, vI i, x3, x4, x5, x6, x7] [] := fun hz => no (Or.inr ⟨_, _, Y, h2, h3, hz⟩)
        have yes : m1 0 80 35 ≠ 0 → (i ≠ -1 → 0 ≤ i ∧ i < min (Y.length : Int) 500) → (i = -1 → ¬ Dif (mi 0 81) (mi 0 81 15) Y) → ∀ x3 x4 x5 x6 x7 : V, isL x6 = false → Run (d+10) mt_X12_mend Q (n, mr, 0, 0) m1 82 [vR (some (0, 80)), vI m, vI i, x3, x4, x5, x6, x7] [] := by
          intro y1 y2 y3 x3 x4 x5 x6 x7 hx6
          generalize hix : (if i = -1 then 0 else i) = ix
          have hix0 : 0 ≤ ix ∧ ix < min (Y.length : Int) 500 := by
            rw [← hix]
            split
            · omega
            · rename_i e; exact y2 e
          have hi : ix.toNat < Y.length := by omega
          have hgi : Y[ix.toNat]? = some Y[ix.toNat] := List.getElem?_eq_getElem hi
          have hLm := hM.2.2.1 _ (List.getElem_mem hi)
          have hLM := (h3.2 _).mp (List.getElem_mem hi)
          have e93 := h5 ix.toNat _ (by omega) hgi
          rw [Int.toNat_of_nonneg (by omega)] at e93
          have hq3 := hQ3 c14.1 c14.2 _ _ Y _ h2 h3 y1 y2 y3 (by rw [hix]; exact hgi)
          generalize Y[ix.toNat] = L at *
          have loop : ∀ k : Nat, k ≤ L.length → ∀ (m2 : MI) (x6 x7 : V), Ch pKK mi m2 → m2 0 80 35 = m1 0 80 35 → m2 0 80 34 = m1 0 80 34 → m2 0 81 = mndR (mi 0 81) (L.take k) → isL x6 = false → Run (d+10) mt_X12_mend Q (n, mr, 0, 0) m2 101 [vR (some (0, 80)), vI m, vI i, vL (key3 L), vX 0, vI (k : Int), x6, x7] [] := by
            refine nloop ?_
            intro k hk' ih m2 x6 x7 g2 k35 k34 k81 hx6
            by_cases he : k < L.length
            · have hg : L[k]? = some L[k] := List.getElem?_eq_getElem he
              have ho := hLm.2.2 _ (List.getElem_mem he)
              have h8 := mndR_8 (ρ := mi 0 81) (L := L.take k) hI.2.2.2.1.1 hI.2.2.2.1.2 (fun q hq => hLm.2.2 q (List.mem_of_mem_take hq))
              have ih := ih he
              have htk : mndR (mi 0 81) (L.take (k + 1)) = mnd1 (mndR (mi 0 81) (L.take k)) L[k] := by
                unfold mndR
                rw [List.take_add_one, hg]
                show List.foldl mnd1 (mi 0 81) (L.take k ++ [L[k]]) = _
                rw [List.foldl_append]
                rfl
              rw [htk] at ih
              have ho' := ho
              generalize L[k] = q at *
              unfold okP at ho
              refine s_iload (dc kc_X12_mend_1 17 rfl) rfl <| r_aload_n (dc kc_X12_mend_1 18 rfl) rfl <| s_getI (dc kc_X12_mend_1 19 rfl) fl_X12_461 <| s_icmp_ge (tgt := 194) (dc kc_X12_mend_1 20 rfl) rfl (fun c107 => (?_)) (fun c107 => (r_aload_n (dc kc_X12_mend_1 21 rfl) rfl <| s_lload_n (dc kc_X12_mend_1 22 rfl) rfl <| s_iload (dc kc_X12_mend_1 23 rfl) rfl <| c_v2r (dc kc_X12_mend_1 24 rfl) cl_X12_490 rfl (Nat.le_of_ble_eq_true rfl) (Nat.zero_le _) (Nat.zero_le _) ?_))
              · exfalso; omega
              · refine t_partOf (L := L) (q := q) (by rw [k35]; exact hLm.1.symm) hLm.2.1 hLm.2.2 rfl (by omega) (by rw [Int.toNat_natCast]; exact hg) ?_
                have d1 : (11 * q.1 + q.2 + 2 - 1) / 11 = q.1 := by omega
                have d2 : (11 * q.1 + q.2 + 2 - 1) % 11 - 1 = q.2 := by omega
                refine k_i (dc kc_X12_mend_1 25 rfl) rfl <| b_isub (dc kc_X12_mend_1 26 rfl) (by first | omega | (simp [up] <;> omega)) (by first | omega | (simp [up] <;> omega)) <| t_i6 (dc kc_X12_mend_1 27 rfl) (Nat.le_of_ble_eq_true rfl) rfl <| s_iload (dc kc_X12_mend_1 28 rfl) rfl <| k_b (dc kc_X12_mend_1 29 rfl) rfl <| b_idiv (dc kc_X12_mend_1 30 rfl) (by first | omega | (simp [up] <;> omega)) (by first | omega | (simp [up] <;> omega)) <| t_i7 (dc kc_X12_mend_1 31 rfl) (Nat.le_of_ble_eq_true rfl) rfl <| ?_
                rw [d1]
                refine r_aload_n (dc kc_X12_mend_1 32 rfl) rfl <| r_aload_n (dc kc_X12_mend_1 33 rfl) rfl <| s_getA (dc kc_X12_mend_1 34 rfl) fl_X12_7 (ly_80_2 hL) <| k_i (dc kc_X12_mend_1 35 rfl) rfl <| s_iaload (dc kc_X12_mend_1 36 rfl) rfl (by first | omega | (simp [up] <;> omega)) (by first | omega | (simp [up] <;> omega)) <| k_b (dc kc_X12_mend_1 37 rfl) rfl <| s_iload (dc kc_X12_mend_1 38 rfl) rfl <| s_iload (dc kc_X12_mend_1 39 rfl) rfl <| k_b (dc kc_X12_mend_2 0 rfl) rfl <| b_irem (dc kc_X12_mend_2 1 rfl) (by first | omega | (simp [up] <;> omega)) (by first | omega | (simp [up] <;> omega)) <| k_i (dc kc_X12_mend_2 2 rfl) rfl <| b_isub (dc kc_X12_mend_2 3 rfl) (by first | omega | (simp [up] <;> omega)) (by first | omega | (simp [up] <;> omega)) <| k_i (dc kc_X12_mend_2 4 rfl) rfl <| c_v5 (dc kc_X12_mend_2 5 rfl) cl_X12_390 rfl (Nat.le_of_ble_eq_true rfl) (Nat.zero_le _) (Nat.zero_le _) ?_
                rw [d2]
                refine t_keepWrite hL (by rw [k81]; exact h8.1) (by rw [k81]; exact h8.2) ho.1 ho.2.1 (fun m3 g3 e3 => ?_)
                rw [k81] at e3
                refine r_aload_n (dc kc_X12_mend_2 6 rfl) rfl <| s_getA (dc kc_X12_mend_2 7 rfl) fl_X12_7 (ly_80_2 hL) <| k_b (dc kc_X12_mend_2 8 rfl) rfl <| s_iload (dc kc_X12_mend_2 9 rfl) rfl <| b_iadd (dc kc_X12_mend_2 10 rfl) (by first | omega | (simp [up] <;> omega)) (by first | omega | (simp [up] <;> omega)) <| s_iload (dc kc_X12_mend_2 11 rfl) rfl <| k_b (dc kc_X12_mend_2 12 rfl) rfl <| b_irem (dc kc_X12_mend_2 13 rfl) (by first | omega | (simp [up] <;> omega)) (by first | omega | (simp [up] <;> omega)) <| k_i (dc kc_X12_mend_2 14 rfl) rfl <| b_isub (dc kc_X12_mend_2 15 rfl) (by first | omega | (simp [up] <;> omega)) (by first | omega | (simp [up] <;> omega)) <| s_iastore (dc kc_X12_mend_2 16 rfl) rfl (by first | omega | (simp [up] <;> omega)) (by first | omega | (simp [up] <;> omega)) <| r_aload_n (dc kc_X12_mend_2 17 rfl) rfl <| s_getA (dc kc_X12_mend_2 18 rfl) fl_X12_7 (ly_80_2 hL) <| k_b (dc kc_X12_mend_2 19 rfl) rfl <| s_iload (dc kc_X12_mend_2 20 rfl) rfl <| b_iadd (dc kc_X12_mend_2 21 rfl) (by first | omega | (simp [up] <;> omega)) (by first | omega | (simp [up] <;> omega)) <| s_dup2 (dc kc_X12_mend_2 22 rfl) rfl rfl <| s_iaload (dc kc_X12_mend_2 23 rfl) rfl (by first | omega | (simp [up] <;> omega)) (by first | omega | (simp [up] <;> omega)) <| k_i (dc kc_X12_mend_2 24 rfl) rfl <| s_iadd (dc kc_X12_mend_2 25 rfl) <| s_iastore (dc kc_X12_mend_2 26 rfl) rfl (by first | omega | (simp [up] <;> omega)) (by first | omega | (simp [up] <;> omega)) <| r_aload_n (dc kc_X12_mend_2 27 rfl) rfl <| s_iload (dc kc_X12_mend_2 28 rfl) rfl <| k_i (dc kc_X12_mend_2 29 rfl) rfl <| c_v2 (dc kc_X12_mend_2 30 rfl) cl_X12_410 rfl (Nat.le_of_ble_eq_true rfl) (Nat.zero_le _) (Nat.zero_le _) <| t_mark hL <| b_inc5 (dc kc_X12_mend_2 31 rfl) rfl (Nat.le_of_ble_eq_true rfl) rfl (by first | omega | (simp [up] <;> omega)) (by first | omega | (simp [up] <;> omega)) <| s_goto (tgt := 101) (dc kc_X12_mend_2 32 rfl) rfl <| ?_
                rw [d2]
                refine ih _ _ _ ((((g2.tr (g3.mono (fun _ _ z => by simp [p81, pKK] at z ⊢; omega))).up rfl).up rfl).up rfl) (by rw [up_j (by decide), up_j (by decide), up_j (by decide), g3.at (by decide), k35]) (by rw [up_j (by decide), up_j (by decide), up_j (by decide), g3.at (by decide), k34]) ?_ rfl
                rw [up_ud, up_ud, up_ud, e3]
                unfold mnd1 mkR inc
                rfl
            · refine s_iload (dc kc_X12_mend_1 17 rfl) rfl <| r_aload_n (dc kc_X12_mend_1 18 rfl) rfl <| s_getI (dc kc_X12_mend_1 19 rfl) fl_X12_461 <| s_icmp_ge (tgt := 194) (dc kc_X12_mend_1 20 rfl) rfl (fun c107 => (r_aload_n (dc kc_X12_mend_2 33 rfl) rfl <| k_i (dc kc_X12_mend_2 34 rfl) rfl <| s_putI (dc kc_X12_mend_2 35 rfl) fl_X12_100 <| r_aload_n (dc kc_X12_mend_2 36 rfl) rfl <| r_aload_n (dc kc_X12_mend_2 37 rfl) rfl <| s_getI (dc kc_X12_mend_2 38 rfl) fl_X12_458 <| c_v1r (dc kc_X12_mend_2 39 rfl) cl_X12_96 rfl (Nat.le_of_ble_eq_true rfl) (Nat.zero_le _) (Nat.zero_le _) <| t_tell <| s_ireturn (dc kc_X12_mend_3 0 rfl) rfl (Nat.zero_le _) (Nat.zero_le _) ?_)) (fun c107 => (?_))
              · have hk'' : k = L.length := by omega
                subst hk''
                rw [List.take_length] at k81
                have e34 : up m2 0 80 33 0 0 80 34 = m1 0 80 34 := by rw [up_k (by decide), k34]
                rw [e34]
                refine hq3 _ ((g2.up rfl).up rfl) (by rw [up_j (by decide), up_j (by decide), k81]) (by rw [up_at, if_neg (by omega)]) (by rw [up_k (by decide), up_at])
              · exfalso; omega
          have e1 : m1 0 81 = mndR (mi 0 81) (L.take 0) := f81
          refine r_aload_n (dc kc_X12_mend_1 5 rfl) rfl <| s_getA (dc kc_X12_mend_1 6 rfl) fl_X12_51 (ly_80_37 hL) <| s_iload_n (dc kc_X12_mend_1 7 rfl) rfl <| k_i (dc kc_X12_mend_1 8 rfl) rfl <| s_icmp_ne (tgt := 95) (dc kc_X12_mend_1 9 rfl) rfl (fun c88 => (s_iload_n (dc kc_X12_mend_1 12 rfl) rfl <| s_laload (dc kc_X12_mend_1 13 rfl) rfl (by first | omega | (simp [up] <;> omega)) (by first | omega | (simp [up] <;> omega)) <| t_l3 (dc kc_X12_mend_1 14 rfl) (Nat.le_of_ble_eq_true rfl) rfl <| k_i (dc kc_X12_mend_1 15 rfl) rfl <| t_i5 (dc kc_X12_mend_1 16 rfl) (Nat.le_of_ble_eq_true rfl) rfl <| ?_)) (fun c88 => (k_i (dc kc_X12_mend_1 10 rfl) rfl <| s_goto (tgt := 96) (dc kc_X12_mend_1 11 rfl) rfl <| s_laload (dc kc_X12_mend_1 13 rfl) rfl (by first | omega | (simp [up] <;> omega)) (by first | omega | (simp [up] <;> omega)) <| t_l3 (dc kc_X12_mend_1 14 rfl) (Nat.le_of_ble_eq_true rfl) rfl <| k_i (dc kc_X12_mend_1 15 rfl) rfl <| t_i5 (dc kc_X12_mend_1 16 rfl) (Nat.le_of_ble_eq_true rfl) rfl <| ?_))
          · rw [if_neg c88] at hix
            rw [hix, e93, ← hix]
            exact loop 0 (Nat.zero_le _) m1 _ _ gg rfl rfl e1 hx6
          · rw [if_pos c88] at hix
            have e93' : m1 0 93 0 = key3 L := by rw [hix]; exact e93
            rw [e93']
            exact loop 0 (Nat.zero_le _) m1 _ _ gg rfl rfl e1 hx6
        refine r_aload_n (dc kc_X12_mend_0 16 rfl) rfl <| c_v0r (dc kc_X12_mend_0 17 rfl) cl_X12_503 rfl (Nat.le_of_ble_eq_true rfl) (Nat.zero_le _) (Nat.zero_le _) <| t_canMend <| s_if_eqb (tgt := 75) (dc kc_X12_mend_0 18 rfl) rfl (fun c32 => (?_)) (fun c32 => (r_aload_n (dc kc_X12_mend_0 19 rfl) rfl <| s_getI (dc kc_X12_mend_0 20 rfl) fl_X12_461 <| s_if_eq (tgt := 75) (dc kc_X12_mend_0 21 rfl) rfl (fun c39 => (?_)) (fun c39 => (s_iload_n (dc kc_X12_mend_0 22 rfl) rfl <| k_i (dc kc_X12_mend_0 23 rfl) rfl <| s_icmp_eq (tgt := 63) (dc kc_X12_mend_0 24 rfl) rfl (fun c44 => (s_iload_n (dc kc_X12_mend_0 35 rfl) rfl <| k_i (dc kc_X12_mend_0 36 rfl) rfl <| s_icmp_ne (tgt := 82) (dc kc_X12_mend_0 37 rfl) rfl (fun c65 => (?_)) (fun c65 => (?_)))) (fun c44 => (s_iload_n (dc kc_X12_mend_0 25 rfl) rfl <| s_i2l (dc kc_X12_mend_0 26 rfl) <| s_lconst0 (dc kc_X12_mend_0 27 rfl) <| r_aload_n (dc kc_X12_mend_0 28 rfl) rfl <| c_v0r (dc kc_X12_mend_0 29 rfl) cl_X12_494 rfl (Nat.le_of_ble_eq_true rfl) (Nat.zero_le _) (Nat.zero_le _) <| t_many <| s_i2l (dc kc_X12_mend_0 30 rfl) <| s_lconst1 (dc kc_X12_mend_0 31 rfl) <| b_lsub (dc kc_X12_mend_0 32 rfl) (by first | omega | (simp [up] <;> omega)) (by first | omega | (simp [up] <;> omega)) <| c_s3r (dc kc_X12_mend_0 33 rfl) cl_X12_92 rfl (Nat.le_of_ble_eq_true rfl) (Nat.zero_le _) (Nat.zero_le _) <| t_in <| s_if_eqb (tgt := 75) (dc kc_X12_mend_0 34 rfl) rfl (fun c60 => (?_)) (fun c60 => (s_iload_n (dc kc_X12_mend_0 35 rfl) rfl <| k_i (dc kc_X12_mend_0 36 rfl) rfl <| s_icmp_ne (tgt := 82) (dc kc_X12_mend_0 37 rfl) rfl (fun c65 => (?_)) (fun c65 => (?_))))))))))
        · exfalso; omega
        · exact no' (Or.inl c39) _ _ _ _ _
        · exfalso; omega
        · refine r_aload_n (dc kc_X12_mend_0 38 rfl) rfl <| c_v0r (dc kc_X12_mend_0 39 rfl) cl_X12_506 rfl (Nat.le_of_ble_eq_true rfl) (Nat.zero_le _) (Nat.zero_le _) ?_
          refine t_doDiffer hL hM (fun hd => ?_) (fun hd => ?_)
          · rw [f81] at hd
            refine s_if_eq (tgt := 82) (dc kc_X12_mend_1 0 rfl) rfl (fun c72 => (?_)) (fun c72 => (?_))
            · exfalso; omega
            · exact no' (Or.inr (Or.inr ⟨c44, hd⟩)) _ _ _ _ _
          · rw [f81] at hd
            refine s_if_eq (tgt := 82) (dc kc_X12_mend_1 0 rfl) rfl (fun c72 => (?_)) (fun c72 => (?_))
            · exact yes c39 (fun z => absurd c44 z) (fun _ => hd) _ _ _ _ _ rfl
            · exfalso; omega
        · exact no' (Or.inr (Or.inl ⟨c44, fun z => c60 (by omega)⟩)) _ _ _ _ _
        · exact yes c39 (fun _ => by omega) (fun z => absurd z c44) _ _ _ _ _ rfl
        · exfalso; omega
  · exact hQ1 c14 _ ((Ch.rf.up rfl).up rfl) up_at
end LK7
