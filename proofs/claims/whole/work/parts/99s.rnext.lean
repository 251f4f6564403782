/-! the reference: tokens one by one -/
def pTk (j : Nat) (k : Int) : Bool := j == 80 && (k == 12 || k == 13 || k == 14 || k == 15)
/-- the token at f is in hand -/
def TkR (t : Int → Int) (N : Int) (m : MI) (f : Int) : Prop := m 0 80 12 = f ∧ m 0 80 13 = toF t N f ∧ m 0 80 14 = srF t N f ∧ m 0 80 15 = wtF t N f
/-- the tape, as the reference has it -/
def Tap (t : Int → Int) (N : Int) (m : MI) : Prop := m 0 86 = t ∧ m 0 80 11 = N
def Tpe (t : Int → Int) (N : Int) : Prop := (0 ≤ N ∧ N ≤ 400) ∧ ∀ i, 0 ≤ i → i < N → 0 ≤ t i ∧ t i ≤ 255
section RNX
variable {d n G : Nat} {mr : MR} {Q : V → MI → Nat → MR → Prop} {t : Int → Int} {N : Int}
theorem t_next (hL : Lay G mr) {mi : MI} {e : Int} (hP : Tpe t N) (hT : Tap t N mi) (he : mi 0 80 13 = e) (h0 : 0 ≤ e) (h1 : e ≤ N) (hQ : ∀ mi', Ch pTk mi mi' → TkR t N mi' (skp t N e) → Q (vX 0) mi' n mr) : Tx (d+2) mt_X12_next [vR (some (0, 80))] mi n mr Q := by
  obtain ⟨⟨hN0, hN⟩, hby⟩ := hP
  obtain ⟨hT1, hT2⟩ := hT
  have tp : ∀ m : MI, Ch pTk mi m → m 0 86 = t ∧ m 0 80 11 = N := fun m hm => ⟨by rw [hm.row (fun k => by simp [pTk])]; exact hT1, by rw [hm.at (by simp [pTk])]; exact hT2⟩
  -- words
  have wloop : ∀ (f : Int), 0 ≤ f → f < N → f = skp t N e → ltB (t f) = true → ∀ i : Nat, i ≤ (N - f).toNat → ∀ m : MI, Ch pTk mi m → m 0 80 12 = f → m 0 80 13 = f + i → m 0 80 14 = 1 → m 0 80 15 = wv (byt t i f) → (∀ j, f ≤ j → j < f + i → ltB (t j) = true) → Run (d+2) mt_X12_next Q (n, mr, 0, 0) m 149 [vR (some (0, 80))] [] := by
    intro f f0 fN fs hlt
    refine nloop ?_
    intro i hi ih m gm m12 m13 m14 m15 hall
    obtain ⟨e86, e11⟩ := tp m gm
    have hb : ∀ x ∈ byt t i f, 97 ≤ x ∧ x ≤ 122 := byt_all i f (fun j j0 j1 => ltB_t.mp (hall j j0 j1))
    have hl := byt_len (t := t) i f
    have fin : f + i = N ∨ (f + i < N ∧ ¬ ltB (t (f + i)) = true) → Run (d+2) mt_X12_next Q (n, mr, 0, 0) m 243 [vR (some (0, 80))] [] := fun hc => by
      have hnd : ndE t N f = f + i := by
        unfold ndE
        rw [if_pos hlt]
        exact rnE_is _ f (f + i) (by omega) (by omega) hall (fun z => by rcases hc with c | c; omega; exact c.2)
      refine r_aload_n (dc kc_X12_next_3 3 rfl) rfl <| s_getI (dc kc_X12_next_3 4 rfl) fl_X12_168 <| k_i (dc kc_X12_next_3 5 rfl) rfl <| s_icmp_ne (tgt := 335) (dc kc_X12_next_3 6 rfl) rfl (fun c248 => (s_return (dc kc_X12_next_4 9 rfl) rfl (Nat.zero_le _) (Nat.zero_le _) ?_)) (fun c248 => (?_))
      · refine hQ m gm ⟨by rw [m12, fs], ?_, ?_, ?_⟩
        · rw [m13, ← fs]; unfold toF; rw [if_neg (by omega), hnd]
        · rw [m14, ← fs]; unfold srF; rw [if_neg (by omega), if_pos hlt]
        · rw [m15, ← fs]; unfold wtF; rw [if_neg (by omega), if_pos hlt, hnd, show (f + (i : Int) - f).toNat = i by omega]
      · exfalso; omega
    by_cases hc : f + i < N
    · have ih := ih (by omega)
      by_cases hlt2 : ltB (t (f + i)) = true
      · have hz := ltB_t.mp hlt2
        have stp : ∀ (x : Int), x = wv (byt t (i + 1) f) → ∀ m' : MI, m' = up (up m 0 80 15 x) 0 80 13 (f + i + 1) → Run (d+2) mt_X12_next Q (n, mr, 0, 0) m' 149 [vR (some (0, 80))] [] := fun x hx m' hm' => by
          subst hm'
          refine ih _ ((gm.up (by simp [pTk])).up (by simp [pTk])) (by simp [up]; exact m12) (by simp [up]; omega) (by simp [up]; exact m14) (by simp [up]; exact hx) (fun j j0 j1 => ?_)
          by_cases ej : j = f + i
          · rw [ej]; exact hlt2
          · exact hall j j0 (by omega)
        have hsn := byt_snoc (t := t) i f
        by_cases h10 : i < 10
        · have hrg := hs_rg i (byt t i f) hl (by omega) hb
          have hw : wv (byt t i f) = hs (byt t i f) := if_pos (by omega)
          have hx : m 0 80 15 * 32 + t (f + i) - 96 = wv (byt t (i + 1) f) := by
            unfold wv
            rw [byt_len, if_pos (by omega), hsn, hs_snoc, m15, hw]
          refine r_aload_n (dc kc_X12_next_1 36 rfl) rfl <| s_getI (dc kc_X12_next_1 37 rfl) fl_X12_168 <| k_i (dc kc_X12_next_1 38 rfl) rfl <| s_icmp_ne (tgt := 243) (dc kc_X12_next_1 39 rfl) rfl (fun c154 => (?_)) (fun c154 => (r_aload_n (dc kc_X12_next_2 0 rfl) rfl <| s_getI (dc kc_X12_next_2 1 rfl) fl_X12_143 <| r_aload_n (dc kc_X12_next_2 2 rfl) rfl <| s_getI (dc kc_X12_next_2 3 rfl) fl_X12_137 <| s_icmp_ge (tgt := 243) (dc kc_X12_next_2 4 rfl) rfl (fun c165 => (?_)) (fun c165 => (r_aload_n (dc kc_X12_next_2 5 rfl) rfl <| s_getA (dc kc_X12_next_2 6 rfl) fl_X12_26 (ly_80_10 hL) <| r_aload_n (dc kc_X12_next_2 7 rfl) rfl <| s_getI (dc kc_X12_next_2 8 rfl) fl_X12_143 <| s_iaload (dc kc_X12_next_2 9 rfl) rfl (by first | omega | (simp [up] <;> omega)) (by first | omega | (simp [up] <;> omega)) <| c_s1r (dc kc_X12_next_2 10 rfl) cl_X12_162 rfl (Nat.le_of_ble_eq_true rfl) (Nat.zero_le _) (Nat.zero_le _) <| t_isSmall <| s_if_eqb (tgt := 243) (dc kc_X12_next_2 11 rfl) rfl (fun c180 => (?_)) (fun c180 => (r_aload_n (dc kc_X12_next_2 12 rfl) rfl <| r_aload_n (dc kc_X12_next_2 13 rfl) rfl <| s_getI (dc kc_X12_next_2 14 rfl) fl_X12_143 <| r_aload_n (dc kc_X12_next_2 15 rfl) rfl <| s_getI (dc kc_X12_next_2 16 rfl) fl_X12_155 <| b_isub (dc kc_X12_next_2 17 rfl) (by first | omega | (simp [up] <;> omega)) (by first | omega | (simp [up] <;> omega)) <| k_b (dc kc_X12_next_2 18 rfl) rfl <| s_icmp_ge (tgt := 224) (dc kc_X12_next_2 19 rfl) rfl (fun c195 => (k_j (dc kc_X12_next_2 34 rfl) kj_X12_105 rfl (a := (-1)) (by decide) <| ?_)) (fun c195 => (r_aload_n (dc kc_X12_next_2 20 rfl) rfl <| s_getJ (dc kc_X12_next_2 21 rfl) fl_X12_158 <| k_j (dc kc_X12_next_2 22 rfl) kj_X12_171 rfl (a := 32) (by decide) <| b_lmul (dc kc_X12_next_2 23 rfl) (by first | omega | (simp [up] <;> omega)) (by first | omega | (simp [up] <;> omega)) <| r_aload_n (dc kc_X12_next_2 24 rfl) rfl <| s_getA (dc kc_X12_next_2 25 rfl) fl_X12_26 (ly_80_10 hL) <| r_aload_n (dc kc_X12_next_2 26 rfl) rfl <| s_getI (dc kc_X12_next_2 27 rfl) fl_X12_143 <| s_iaload (dc kc_X12_next_2 28 rfl) rfl (by first | omega | (simp [up] <;> omega)) (by first | omega | (simp [up] <;> omega)) <| s_i2l (dc kc_X12_next_2 29 rfl) <| b_ladd (dc kc_X12_next_2 30 rfl) (by first | omega | (simp [up] <;> omega)) (by first | omega | (simp [up] <;> omega)) <| k_j (dc kc_X12_next_2 31 rfl) kj_X12_173 rfl (a := 96) (by decide) <| b_lsub (dc kc_X12_next_2 32 rfl) (by first | omega | (simp [up] <;> omega)) (by first | omega | (simp [up] <;> omega)) <| s_goto (tgt := 227) (dc kc_X12_next_2 33 rfl) rfl <| ?_))))))))
          · exfalso; omega
          · exfalso; omega
          · exfalso
            rw [e86, m13] at c180
            exact c180 hz
          · exfalso; omega
          · rw [e86, m13]
            refine s_putJ (dc kc_X12_next_2 35 rfl) fl_X12_158 <| r_aload_n (dc kc_X12_next_2 36 rfl) rfl <| s_dup (dc kc_X12_next_2 37 rfl) rfl <| s_getI (dc kc_X12_next_2 38 rfl) fl_X12_143 <| k_i (dc kc_X12_next_2 39 rfl) rfl <| b_iadd (dc kc_X12_next_3 0 rfl) (by first | omega | (simp [up] <;> omega)) (by first | omega | (simp [up] <;> omega)) <| s_putI (dc kc_X12_next_3 1 rfl) fl_X12_143 <| s_goto (tgt := 149) (dc kc_X12_next_3 2 rfl) rfl <| ?_
            exact stp _ hx _ (by rw [up_k (by decide), m13])
        · have hx : -1 = wv (byt t (i + 1) f) := by
            unfold wv
            rw [byt_len, if_neg (by omega)]
          refine r_aload_n (dc kc_X12_next_1 36 rfl) rfl <| s_getI (dc kc_X12_next_1 37 rfl) fl_X12_168 <| k_i (dc kc_X12_next_1 38 rfl) rfl <| s_icmp_ne (tgt := 243) (dc kc_X12_next_1 39 rfl) rfl (fun c154 => (?_)) (fun c154 => (r_aload_n (dc kc_X12_next_2 0 rfl) rfl <| s_getI (dc kc_X12_next_2 1 rfl) fl_X12_143 <| r_aload_n (dc kc_X12_next_2 2 rfl) rfl <| s_getI (dc kc_X12_next_2 3 rfl) fl_X12_137 <| s_icmp_ge (tgt := 243) (dc kc_X12_next_2 4 rfl) rfl (fun c165 => (?_)) (fun c165 => (r_aload_n (dc kc_X12_next_2 5 rfl) rfl <| s_getA (dc kc_X12_next_2 6 rfl) fl_X12_26 (ly_80_10 hL) <| r_aload_n (dc kc_X12_next_2 7 rfl) rfl <| s_getI (dc kc_X12_next_2 8 rfl) fl_X12_143 <| s_iaload (dc kc_X12_next_2 9 rfl) rfl (by first | omega | (simp [up] <;> omega)) (by first | omega | (simp [up] <;> omega)) <| c_s1r (dc kc_X12_next_2 10 rfl) cl_X12_162 rfl (Nat.le_of_ble_eq_true rfl) (Nat.zero_le _) (Nat.zero_le _) <| t_isSmall <| s_if_eqb (tgt := 243) (dc kc_X12_next_2 11 rfl) rfl (fun c180 => (?_)) (fun c180 => (r_aload_n (dc kc_X12_next_2 12 rfl) rfl <| r_aload_n (dc kc_X12_next_2 13 rfl) rfl <| s_getI (dc kc_X12_next_2 14 rfl) fl_X12_143 <| r_aload_n (dc kc_X12_next_2 15 rfl) rfl <| s_getI (dc kc_X12_next_2 16 rfl) fl_X12_155 <| b_isub (dc kc_X12_next_2 17 rfl) (by first | omega | (simp [up] <;> omega)) (by first | omega | (simp [up] <;> omega)) <| k_b (dc kc_X12_next_2 18 rfl) rfl <| s_icmp_ge (tgt := 224) (dc kc_X12_next_2 19 rfl) rfl (fun c195 => (k_j (dc kc_X12_next_2 34 rfl) kj_X12_105 rfl (a := (-1)) (by decide) <| ?_)) (fun c195 => (r_aload_n (dc kc_X12_next_2 20 rfl) rfl <| s_getJ (dc kc_X12_next_2 21 rfl) fl_X12_158 <| k_j (dc kc_X12_next_2 22 rfl) kj_X12_171 rfl (a := 32) (by decide) <| b_lmul (dc kc_X12_next_2 23 rfl) (by first | omega | (simp [up] <;> omega)) (by first | omega | (simp [up] <;> omega)) <| r_aload_n (dc kc_X12_next_2 24 rfl) rfl <| s_getA (dc kc_X12_next_2 25 rfl) fl_X12_26 (ly_80_10 hL) <| r_aload_n (dc kc_X12_next_2 26 rfl) rfl <| s_getI (dc kc_X12_next_2 27 rfl) fl_X12_143 <| s_iaload (dc kc_X12_next_2 28 rfl) rfl (by first | omega | (simp [up] <;> omega)) (by first | omega | (simp [up] <;> omega)) <| s_i2l (dc kc_X12_next_2 29 rfl) <| b_ladd (dc kc_X12_next_2 30 rfl) (by first | omega | (simp [up] <;> omega)) (by first | omega | (simp [up] <;> omega)) <| k_j (dc kc_X12_next_2 31 rfl) kj_X12_173 rfl (a := 96) (by decide) <| b_lsub (dc kc_X12_next_2 32 rfl) (by first | omega | (simp [up] <;> omega)) (by first | omega | (simp [up] <;> omega)) <| s_goto (tgt := 227) (dc kc_X12_next_2 33 rfl) rfl <| ?_))))))))
          · exfalso; omega
          · exfalso; omega
          · exfalso
            rw [e86, m13] at c180
            exact c180 hz
          · refine s_putJ (dc kc_X12_next_2 35 rfl) fl_X12_158 <| r_aload_n (dc kc_X12_next_2 36 rfl) rfl <| s_dup (dc kc_X12_next_2 37 rfl) rfl <| s_getI (dc kc_X12_next_2 38 rfl) fl_X12_143 <| k_i (dc kc_X12_next_2 39 rfl) rfl <| b_iadd (dc kc_X12_next_3 0 rfl) (by first | omega | (simp [up] <;> omega)) (by first | omega | (simp [up] <;> omega)) <| s_putI (dc kc_X12_next_3 1 rfl) fl_X12_143 <| s_goto (tgt := 149) (dc kc_X12_next_3 2 rfl) rfl <| ?_
            exact stp _ hx _ (by rw [up_k (by decide), m13])
          · exfalso; omega
      · refine r_aload_n (dc kc_X12_next_1 36 rfl) rfl <| s_getI (dc kc_X12_next_1 37 rfl) fl_X12_168 <| k_i (dc kc_X12_next_1 38 rfl) rfl <| s_icmp_ne (tgt := 243) (dc kc_X12_next_1 39 rfl) rfl (fun c154 => (?_)) (fun c154 => (r_aload_n (dc kc_X12_next_2 0 rfl) rfl <| s_getI (dc kc_X12_next_2 1 rfl) fl_X12_143 <| r_aload_n (dc kc_X12_next_2 2 rfl) rfl <| s_getI (dc kc_X12_next_2 3 rfl) fl_X12_137 <| s_icmp_ge (tgt := 243) (dc kc_X12_next_2 4 rfl) rfl (fun c165 => (?_)) (fun c165 => (r_aload_n (dc kc_X12_next_2 5 rfl) rfl <| s_getA (dc kc_X12_next_2 6 rfl) fl_X12_26 (ly_80_10 hL) <| r_aload_n (dc kc_X12_next_2 7 rfl) rfl <| s_getI (dc kc_X12_next_2 8 rfl) fl_X12_143 <| s_iaload (dc kc_X12_next_2 9 rfl) rfl (by first | omega | (simp [up] <;> omega)) (by first | omega | (simp [up] <;> omega)) <| c_s1r (dc kc_X12_next_2 10 rfl) cl_X12_162 rfl (Nat.le_of_ble_eq_true rfl) (Nat.zero_le _) (Nat.zero_le _) <| t_isSmall <| s_if_eqb (tgt := 243) (dc kc_X12_next_2 11 rfl) rfl (fun c180 => (?_)) (fun c180 => (?_))))))
        · exfalso; omega
        · exfalso; omega
        · exact fin (Or.inr ⟨hc, hlt2⟩)
        · exfalso
          rw [e86, m13] at c180
          exact hlt2 (ltB_t.mpr c180)
    · refine r_aload_n (dc kc_X12_next_1 36 rfl) rfl <| s_getI (dc kc_X12_next_1 37 rfl) fl_X12_168 <| k_i (dc kc_X12_next_1 38 rfl) rfl <| s_icmp_ne (tgt := 243) (dc kc_X12_next_1 39 rfl) rfl (fun c154 => (?_)) (fun c154 => (r_aload_n (dc kc_X12_next_2 0 rfl) rfl <| s_getI (dc kc_X12_next_2 1 rfl) fl_X12_143 <| r_aload_n (dc kc_X12_next_2 2 rfl) rfl <| s_getI (dc kc_X12_next_2 3 rfl) fl_X12_137 <| s_icmp_ge (tgt := 243) (dc kc_X12_next_2 4 rfl) rfl (fun c165 => (?_)) (fun c165 => (?_))))
      · exfalso; omega
      · exact fin (Or.inl (by omega))
      · exfalso; omega
  -- numbers
  have dloop : ∀ (f : Int), 0 ≤ f → f < N → f = skp t N e → dgB (t f) = true → ∀ i : Nat, i ≤ (N - f).toNat → ∀ m : MI, Ch pTk mi m → m 0 80 12 = f → m 0 80 13 = f + i → m 0 80 14 = 2 → m 0 80 15 = wd (byt t i f) → (∀ j, f ≤ j → j < f + i → dgB (t j) = true) → Run (d+2) mt_X12_next Q (n, mr, 0, 0) m 243 [vR (some (0, 80))] [] := by
    intro f f0 fN fs hdg
    have hlt : ¬ ltB (t f) = true := fun z => by have := ltB_t.mp z; have := dgB_t.mp hdg; omega
    refine nloop ?_
    intro i hi ih m gm m12 m13 m14 m15 hall
    obtain ⟨e86, e11⟩ := tp m gm
    have hb : ∀ x ∈ byt t i f, 48 ≤ x ∧ x ≤ 57 := byt_all i f (fun j j0 j1 => dgB_t.mp (hall j j0 j1))
    have hrg := (wd_nm _ (byt t i f) rfl hb).1
    have fin : f + i = N ∨ (f + i < N ∧ ¬ dgB (t (f + i)) = true) → Q (vX 0) m n mr := fun hc => by
      have hnd : ndE t N f = f + i := by
        unfold ndE
        rw [if_neg hlt, if_pos hdg]
        exact rnE_is _ f (f + i) (by omega) (by omega) hall (fun z => by rcases hc with c | c; omega; exact c.2)
      refine hQ m gm ⟨by rw [m12, fs], ?_, ?_, ?_⟩
      · rw [m13, ← fs]; unfold toF; rw [if_neg (by omega), hnd]
      · rw [m14, ← fs]; unfold srF; rw [if_neg (by omega), if_neg hlt, if_pos hdg]
      · rw [m15, ← fs]; unfold wtF; rw [if_neg (by omega), if_neg hlt, if_pos hdg, hnd, show (f + (i : Int) - f).toNat = i by omega]
    by_cases hc : f + i < N
    · have ih := ih (by omega)
      by_cases hlt2 : dgB (t (f + i)) = true
      · have hz := dgB_t.mp hlt2
        have stp : ∀ (x : Int), x = wd (byt t (i + 1) f) → ∀ m' : MI, m' = up (up m 0 80 15 x) 0 80 13 (f + i + 1) → Run (d+2) mt_X12_next Q (n, mr, 0, 0) m' 243 [vR (some (0, 80))] [] := fun x hx m' hm' => by
          subst hm'
          refine ih _ ((gm.up (by simp [pTk])).up (by simp [pTk])) (by simp [up]; exact m12) (by simp [up]; omega) (by simp [up]; exact m14) (by simp [up]; exact hx) (fun j j0 j1 => ?_)
          by_cases ej : j = f + i
          · rw [ej]; exact hlt2
          · exact hall j j0 (by omega)
        have hsn := byt_snoc (t := t) i f
        have hx := wd_snoc (l := byt t i f) (x := t (f + i))
        rw [← hsn, ← m15] at hx
        refine r_aload_n (dc kc_X12_next_3 3 rfl) rfl <| s_getI (dc kc_X12_next_3 4 rfl) fl_X12_168 <| k_i (dc kc_X12_next_3 5 rfl) rfl <| s_icmp_ne (tgt := 335) (dc kc_X12_next_3 6 rfl) rfl (fun c248 => (?_)) (fun c248 => (r_aload_n (dc kc_X12_next_3 7 rfl) rfl <| s_getI (dc kc_X12_next_3 8 rfl) fl_X12_143 <| r_aload_n (dc kc_X12_next_3 9 rfl) rfl <| s_getI (dc kc_X12_next_3 10 rfl) fl_X12_137 <| s_icmp_ge (tgt := 335) (dc kc_X12_next_3 11 rfl) rfl (fun c259 => (?_)) (fun c259 => (r_aload_n (dc kc_X12_next_3 12 rfl) rfl <| s_getA (dc kc_X12_next_3 13 rfl) fl_X12_26 (ly_80_10 hL) <| r_aload_n (dc kc_X12_next_3 14 rfl) rfl <| s_getI (dc kc_X12_next_3 15 rfl) fl_X12_143 <| s_iaload (dc kc_X12_next_3 16 rfl) rfl (by first | omega | (simp [up] <;> omega)) (by first | omega | (simp [up] <;> omega)) <| c_s1r (dc kc_X12_next_3 17 rfl) cl_X12_165 rfl (Nat.le_of_ble_eq_true rfl) (Nat.zero_le _) (Nat.zero_le _) <| t_isDigit <| s_if_eqb (tgt := 335) (dc kc_X12_next_3 18 rfl) rfl (fun c274 => (?_)) (fun c274 => (r_aload_n (dc kc_X12_next_3 19 rfl) rfl <| r_aload_n (dc kc_X12_next_3 20 rfl) rfl <| s_getJ (dc kc_X12_next_3 21 rfl) fl_X12_158 <| k_j (dc kc_X12_next_3 22 rfl) kj_X12_175 rfl (a := 1000) (by decide) <| s_lcmp (dc kc_X12_next_3 23 rfl) <| s_if_le (tgt := 296) (dc kc_X12_next_3 24 rfl) rfl (fun c286 => (r_aload_n (dc kc_X12_next_3 28 rfl) rfl <| s_getJ (dc kc_X12_next_3 29 rfl) fl_X12_158 <| k_j (dc kc_X12_next_3 30 rfl) kj_X12_177 rfl (a := 10) (by decide) <| b_lmul (dc kc_X12_next_3 31 rfl) (by first | omega | (simp [up] <;> omega)) (by first | omega | (simp [up] <;> omega)) <| r_aload_n (dc kc_X12_next_3 32 rfl) rfl <| s_getA (dc kc_X12_next_3 33 rfl) fl_X12_26 (ly_80_10 hL) <| r_aload_n (dc kc_X12_next_3 34 rfl) rfl <| s_getI (dc kc_X12_next_3 35 rfl) fl_X12_143 <| s_iaload (dc kc_X12_next_3 36 rfl) rfl (by first | omega | (simp [up] <;> omega)) (by first | omega | (simp [up] <;> omega)) <| s_i2l (dc kc_X12_next_3 37 rfl) <| b_ladd (dc kc_X12_next_3 38 rfl) (by first | omega | (simp [up] <;> omega)) (by first | omega | (simp [up] <;> omega)) <| k_j (dc kc_X12_next_3 39 rfl) kj_X12_179 rfl (a := 48) (by decide) <| b_lsub (dc kc_X12_next_4 0 rfl) (by first | omega | (simp [up] <;> omega)) (by first | omega | (simp [up] <;> omega)) <| ?_)) (fun c286 => (r_aload_n (dc kc_X12_next_3 25 rfl) rfl <| s_getJ (dc kc_X12_next_3 26 rfl) fl_X12_158 <| s_goto (tgt := 319) (dc kc_X12_next_3 27 rfl) rfl <| ?_))))))))
        · exfalso; omega
        · exfalso; omega
        · exfalso
          rw [e86, m13] at c274
          exact c274 hz
        · have c := lc_le.mp c286
          rw [if_neg (by omega)] at hx
          rw [e86, m13]
          refine s_putJ (dc kc_X12_next_4 1 rfl) fl_X12_158 <| r_aload_n (dc kc_X12_next_4 2 rfl) rfl <| s_dup (dc kc_X12_next_4 3 rfl) rfl <| s_getI (dc kc_X12_next_4 4 rfl) fl_X12_143 <| k_i (dc kc_X12_next_4 5 rfl) rfl <| b_iadd (dc kc_X12_next_4 6 rfl) (by first | omega | (simp [up] <;> omega)) (by first | omega | (simp [up] <;> omega)) <| s_putI (dc kc_X12_next_4 7 rfl) fl_X12_143 <| s_goto (tgt := 243) (dc kc_X12_next_4 8 rfl) rfl <| ?_
          exact stp _ hx.symm _ (by rw [up_k (by decide), m13])
        · have c := lc_gt.mp c286
          rw [if_pos (by omega)] at hx
          refine s_putJ (dc kc_X12_next_4 1 rfl) fl_X12_158 <| r_aload_n (dc kc_X12_next_4 2 rfl) rfl <| s_dup (dc kc_X12_next_4 3 rfl) rfl <| s_getI (dc kc_X12_next_4 4 rfl) fl_X12_143 <| k_i (dc kc_X12_next_4 5 rfl) rfl <| b_iadd (dc kc_X12_next_4 6 rfl) (by first | omega | (simp [up] <;> omega)) (by first | omega | (simp [up] <;> omega)) <| s_putI (dc kc_X12_next_4 7 rfl) fl_X12_143 <| s_goto (tgt := 243) (dc kc_X12_next_4 8 rfl) rfl <| ?_
          exact stp _ hx.symm _ (by rw [up_k (by decide), m13])
      · refine r_aload_n (dc kc_X12_next_3 3 rfl) rfl <| s_getI (dc kc_X12_next_3 4 rfl) fl_X12_168 <| k_i (dc kc_X12_next_3 5 rfl) rfl <| s_icmp_ne (tgt := 335) (dc kc_X12_next_3 6 rfl) rfl (fun c248 => (s_return (dc kc_X12_next_4 9 rfl) rfl (Nat.zero_le _) (Nat.zero_le _) ?_)) (fun c248 => (r_aload_n (dc kc_X12_next_3 7 rfl) rfl <| s_getI (dc kc_X12_next_3 8 rfl) fl_X12_143 <| r_aload_n (dc kc_X12_next_3 9 rfl) rfl <| s_getI (dc kc_X12_next_3 10 rfl) fl_X12_137 <| s_icmp_ge (tgt := 335) (dc kc_X12_next_3 11 rfl) rfl (fun c259 => (s_return (dc kc_X12_next_4 9 rfl) rfl (Nat.zero_le _) (Nat.zero_le _) ?_)) (fun c259 => (r_aload_n (dc kc_X12_next_3 12 rfl) rfl <| s_getA (dc kc_X12_next_3 13 rfl) fl_X12_26 (ly_80_10 hL) <| r_aload_n (dc kc_X12_next_3 14 rfl) rfl <| s_getI (dc kc_X12_next_3 15 rfl) fl_X12_143 <| s_iaload (dc kc_X12_next_3 16 rfl) rfl (by first | omega | (simp [up] <;> omega)) (by first | omega | (simp [up] <;> omega)) <| c_s1r (dc kc_X12_next_3 17 rfl) cl_X12_165 rfl (Nat.le_of_ble_eq_true rfl) (Nat.zero_le _) (Nat.zero_le _) <| t_isDigit <| s_if_eqb (tgt := 335) (dc kc_X12_next_3 18 rfl) rfl (fun c274 => (s_return (dc kc_X12_next_4 9 rfl) rfl (Nat.zero_le _) (Nat.zero_le _) ?_)) (fun c274 => (?_))))))
        · exfalso; omega
        · exfalso; omega
        · exact fin (Or.inr ⟨hc, hlt2⟩)
        · exfalso
          rw [e86, m13] at c274
          exact hlt2 (dgB_t.mpr c274)
    · refine r_aload_n (dc kc_X12_next_3 3 rfl) rfl <| s_getI (dc kc_X12_next_3 4 rfl) fl_X12_168 <| k_i (dc kc_X12_next_3 5 rfl) rfl <| s_icmp_ne (tgt := 335) (dc kc_X12_next_3 6 rfl) rfl (fun c248 => (s_return (dc kc_X12_next_4 9 rfl) rfl (Nat.zero_le _) (Nat.zero_le _) ?_)) (fun c248 => (r_aload_n (dc kc_X12_next_3 7 rfl) rfl <| s_getI (dc kc_X12_next_3 8 rfl) fl_X12_143 <| r_aload_n (dc kc_X12_next_3 9 rfl) rfl <| s_getI (dc kc_X12_next_3 10 rfl) fl_X12_137 <| s_icmp_ge (tgt := 335) (dc kc_X12_next_3 11 rfl) rfl (fun c259 => (s_return (dc kc_X12_next_4 9 rfl) rfl (Nat.zero_le _) (Nat.zero_le _) ?_)) (fun c259 => (?_))))
      · exfalso; omega
      · exact fin (Or.inl (by omega))
      · exfalso; omega
  -- behind the blanks
  have aft : ∀ (f : Int) (m : MI), Ch pTk mi m → m 0 80 12 = f → 0 ≤ f → f ≤ N → f = skp t N e → (f < N → t f ≠ 32) → Run (d+2) mt_X12_next Q (n, mr, 0, 0) m 46 [vR (some (0, 80))] [] := by
    intro f m gm m12 f0 fN fs h32
    obtain ⟨e86, e11⟩ := tp m gm
    have go : ∀ s : Int, s = srF t N f → Run (d+2) mt_X12_next Q (n, mr, 0, 0) (up (up m 0 80 13 f) 0 80 15 0) 114 [vR (some (0, 80))] [vI s, vR (some (0, 80))] := fun s hs => by
      refine s_putI (dc kc_X12_next_1 17 rfl) fl_X12_168 <| ?_
      generalize hm2 : up (up (up m 0 80 13 f) 0 80 15 0) 0 80 14 s = m2
      have g2 : Ch pTk mi m2 := by
        rw [← hm2]
        exact ((gm.up (by simp [pTk])).up (by simp [pTk])).up (by simp [pTk])
      have a12 : m2 0 80 12 = f := by rw [← hm2]; simp [up]; exact m12
      have a13 : m2 0 80 13 = f := by rw [← hm2]; simp [up]
      have a14 : m2 0 80 14 = s := by rw [← hm2]; simp [up]
      have a15 : m2 0 80 15 = 0 := by rw [← hm2]; simp [up]
      obtain ⟨b86, b11⟩ := tp m2 g2
      unfold srF at hs
      by_cases hNf : N ≤ f
      · rw [if_pos hNf] at hs
        refine r_aload_n (dc kc_X12_next_1 18 rfl) rfl <| s_getI (dc kc_X12_next_1 19 rfl) fl_X12_168 <| k_i (dc kc_X12_next_1 20 rfl) rfl <| s_icmp_ne (tgt := 149) (dc kc_X12_next_1 21 rfl) rfl (fun c122 => (r_aload_n (dc kc_X12_next_1 36 rfl) rfl <| s_getI (dc kc_X12_next_1 37 rfl) fl_X12_168 <| k_i (dc kc_X12_next_1 38 rfl) rfl <| s_icmp_ne (tgt := 243) (dc kc_X12_next_1 39 rfl) rfl (fun c154 => (r_aload_n (dc kc_X12_next_3 3 rfl) rfl <| s_getI (dc kc_X12_next_3 4 rfl) fl_X12_168 <| k_i (dc kc_X12_next_3 5 rfl) rfl <| s_icmp_ne (tgt := 335) (dc kc_X12_next_3 6 rfl) rfl (fun c248 => (s_return (dc kc_X12_next_4 9 rfl) rfl (Nat.zero_le _) (Nat.zero_le _) ?_)) (fun c248 => (?_)))) (fun c154 => (?_)))) (fun c122 => (?_))
        · refine hQ m2 g2 ⟨by rw [a12, fs], ?_, ?_, ?_⟩
          · rw [a13, ← fs]; unfold toF; rw [if_pos hNf]
          · rw [a14, ← fs, hs]; unfold srF; rw [if_pos hNf]
          · rw [a15, ← fs]; unfold wtF; rw [if_pos hNf]
        all_goals (exfalso; omega)
      · have hby := hby f f0 (by omega)
        rw [if_neg hNf] at hs
        by_cases hl : ltB (t f) = true
        · rw [if_pos hl] at hs
          refine r_aload_n (dc kc_X12_next_1 18 rfl) rfl <| s_getI (dc kc_X12_next_1 19 rfl) fl_X12_168 <| k_i (dc kc_X12_next_1 20 rfl) rfl <| s_icmp_ne (tgt := 149) (dc kc_X12_next_1 21 rfl) rfl (fun c122 => (?_)) (fun c122 => (?_))
          · exact wloop f f0 (by omega) fs hl 0 (Nat.zero_le _) m2 g2 a12 (by rw [a13]; simp) (by omega) (by rw [a15]; rfl) (fun j j0 j1 => by omega)
          · exfalso; omega
        · rw [if_neg hl] at hs
          by_cases hd : dgB (t f) = true
          · rw [if_pos hd] at hs
            refine r_aload_n (dc kc_X12_next_1 18 rfl) rfl <| s_getI (dc kc_X12_next_1 19 rfl) fl_X12_168 <| k_i (dc kc_X12_next_1 20 rfl) rfl <| s_icmp_ne (tgt := 149) (dc kc_X12_next_1 21 rfl) rfl (fun c122 => (r_aload_n (dc kc_X12_next_1 36 rfl) rfl <| s_getI (dc kc_X12_next_1 37 rfl) fl_X12_168 <| k_i (dc kc_X12_next_1 38 rfl) rfl <| s_icmp_ne (tgt := 243) (dc kc_X12_next_1 39 rfl) rfl (fun c154 => (?_)) (fun c154 => (?_)))) (fun c122 => (?_))
            · exact dloop f f0 (by omega) fs hd 0 (Nat.zero_le _) m2 g2 a12 (by rw [a13]; simp) (by omega) (by rw [a15]; rfl) (fun j j0 j1 => by omega)
            all_goals (exfalso; omega)
          · rw [if_neg hd] at hs
            refine r_aload_n (dc kc_X12_next_1 18 rfl) rfl <| s_getI (dc kc_X12_next_1 19 rfl) fl_X12_168 <| k_i (dc kc_X12_next_1 20 rfl) rfl <| s_icmp_ne (tgt := 149) (dc kc_X12_next_1 21 rfl) rfl (fun c122 => (?_)) (fun c122 => (r_aload_n (dc kc_X12_next_1 22 rfl) rfl <| r_aload_n (dc kc_X12_next_1 23 rfl) rfl <| s_getA (dc kc_X12_next_1 24 rfl) fl_X12_26 (ly_80_10 hL) <| r_aload_n (dc kc_X12_next_1 25 rfl) rfl <| s_getI (dc kc_X12_next_1 26 rfl) fl_X12_155 <| s_iaload (dc kc_X12_next_1 27 rfl) rfl (by first | omega | (simp [up] <;> omega)) (by first | omega | (simp [up] <;> omega)) <| s_i2l (dc kc_X12_next_1 28 rfl) <| s_putJ (dc kc_X12_next_1 29 rfl) fl_X12_158 <| r_aload_n (dc kc_X12_next_1 30 rfl) rfl <| s_dup (dc kc_X12_next_1 31 rfl) rfl <| s_getI (dc kc_X12_next_1 32 rfl) fl_X12_143 <| k_i (dc kc_X12_next_1 33 rfl) rfl <| b_iadd (dc kc_X12_next_1 34 rfl) (by first | omega | (simp [up] <;> omega)) (by first | omega | (simp [up] <;> omega)) <| s_putI (dc kc_X12_next_1 35 rfl) fl_X12_143 <| ?_))
            · exfalso; omega
            · rw [b86, a12]
              have u13 : up m2 0 80 15 (t f) 0 80 13 = f := by rw [up_k (by decide)]; exact a13
              rw [u13]
              generalize hm3 : up (up m2 0 80 15 (t f)) 0 80 13 (f + 1) = m3
              have g3 : Ch pTk mi m3 := by
                rw [← hm3]
                exact (g2.up (by simp [pTk])).up (by simp [pTk])
              have c14' : m3 0 80 14 = 3 := by rw [← hm3]; simp [up]; omega
              have c12' : m3 0 80 12 = f := by rw [← hm3]; simp [up]; exact a12
              have c13' : m3 0 80 13 = f + 1 := by rw [← hm3]; simp [up]
              have c15' : m3 0 80 15 = t f := by rw [← hm3]; simp [up]
              refine r_aload_n (dc kc_X12_next_1 36 rfl) rfl <| s_getI (dc kc_X12_next_1 37 rfl) fl_X12_168 <| k_i (dc kc_X12_next_1 38 rfl) rfl <| s_icmp_ne (tgt := 243) (dc kc_X12_next_1 39 rfl) rfl (fun c154 => (r_aload_n (dc kc_X12_next_3 3 rfl) rfl <| s_getI (dc kc_X12_next_3 4 rfl) fl_X12_168 <| k_i (dc kc_X12_next_3 5 rfl) rfl <| s_icmp_ne (tgt := 335) (dc kc_X12_next_3 6 rfl) rfl (fun c248 => (s_return (dc kc_X12_next_4 9 rfl) rfl (Nat.zero_le _) (Nat.zero_le _) ?_)) (fun c248 => (?_)))) (fun c154 => (?_))
              · refine hQ m3 g3 ⟨by rw [c12', fs], ?_, ?_, ?_⟩
                · rw [c13', ← fs]; unfold toF ndE; rw [if_neg hNf, if_neg hl, if_neg hd]
                · rw [c14', ← fs]; unfold srF; rw [if_neg hNf, if_neg hl, if_neg hd]
                · rw [c15', ← fs]; unfold wtF; rw [if_neg hNf, if_neg hl, if_neg hd]
              all_goals (exfalso; omega)
    have u12 : ∀ k v : Int, k ≠ 12 → up m 0 80 k v 0 80 12 = f := fun k v hk => by rw [up_k (Ne.symm hk)]; exact m12
    refine r_aload_n (dc kc_X12_next_0 23 rfl) rfl <| r_aload_n (dc kc_X12_next_0 24 rfl) rfl <| s_getI (dc kc_X12_next_0 25 rfl) fl_X12_155 <| s_putI (dc kc_X12_next_0 26 rfl) fl_X12_143 <| r_aload_n (dc kc_X12_next_0 27 rfl) rfl <| s_lconst0 (dc kc_X12_next_0 28 rfl) <| s_putJ (dc kc_X12_next_0 29 rfl) fl_X12_158 <| ?_
    rw [m12]
    have w12 : up (up m 0 80 13 f) 0 80 15 0 0 80 12 = f := by rw [up_k (by decide), up_k (by decide)]; exact m12
    have w11 : up (up m 0 80 13 f) 0 80 15 0 0 80 11 = N := by rw [up_k (by decide), up_k (by decide)]; exact e11
    have w86 : up (up m 0 80 13 f) 0 80 15 0 0 86 = t := by rw [up_j (by decide), up_j (by decide)]; exact e86
    generalize hm1 : up (up m 0 80 13 f) 0 80 15 0 = m1 at *
    unfold srF at go
    refine r_aload_n (dc kc_X12_next_0 30 rfl) rfl <| r_aload_n (dc kc_X12_next_0 31 rfl) rfl <| s_getI (dc kc_X12_next_0 32 rfl) fl_X12_155 <| r_aload_n (dc kc_X12_next_0 33 rfl) rfl <| s_getI (dc kc_X12_next_0 34 rfl) fl_X12_137 <| s_icmp_ne (tgt := 75) (dc kc_X12_next_0 35 rfl) rfl (fun c68 => (r_aload_n (dc kc_X12_next_0 38 rfl) rfl <| s_getA (dc kc_X12_next_0 39 rfl) fl_X12_26 (ly_80_10 hL) <| r_aload_n (dc kc_X12_next_1 0 rfl) rfl <| s_getI (dc kc_X12_next_1 1 rfl) fl_X12_155 <| s_iaload (dc kc_X12_next_1 2 rfl) rfl (by first | omega | (simp [up] <;> omega)) (by first | omega | (simp [up] <;> omega)) <| c_s1r (dc kc_X12_next_1 3 rfl) cl_X12_162 rfl (Nat.le_of_ble_eq_true rfl) (Nat.zero_le _) (Nat.zero_le _) <| t_isSmall <| s_if_eqb (tgt := 94) (dc kc_X12_next_1 4 rfl) rfl (fun c87 => (r_aload_n (dc kc_X12_next_1 7 rfl) rfl <| s_getA (dc kc_X12_next_1 8 rfl) fl_X12_26 (ly_80_10 hL) <| r_aload_n (dc kc_X12_next_1 9 rfl) rfl <| s_getI (dc kc_X12_next_1 10 rfl) fl_X12_155 <| s_iaload (dc kc_X12_next_1 11 rfl) rfl (by first | omega | (simp [up] <;> omega)) (by first | omega | (simp [up] <;> omega)) <| c_s1r (dc kc_X12_next_1 12 rfl) cl_X12_165 rfl (Nat.le_of_ble_eq_true rfl) (Nat.zero_le _) (Nat.zero_le _) <| t_isDigit <| s_if_eqb (tgt := 113) (dc kc_X12_next_1 13 rfl) rfl (fun c106 => (k_i (dc kc_X12_next_1 16 rfl) rfl <| ?_)) (fun c106 => (k_i (dc kc_X12_next_1 14 rfl) rfl <| s_goto (tgt := 114) (dc kc_X12_next_1 15 rfl) rfl <| ?_)))) (fun c87 => (k_i (dc kc_X12_next_1 5 rfl) rfl <| s_goto (tgt := 114) (dc kc_X12_next_1 6 rfl) rfl <| ?_)))) (fun c68 => (k_i (dc kc_X12_next_0 36 rfl) rfl <| s_goto (tgt := 114) (dc kc_X12_next_0 37 rfl) rfl <| ?_))
    · rw [w86, w12] at c87 c106
      exact go 3 (by rw [if_neg (by omega), if_neg (fun z => c87 (ltB_t.mp z)), if_neg (fun z => c106 (dgB_t.mp z))])
    · rw [w86, w12] at c87 c106
      exact go 2 (by rw [if_neg (by omega), if_neg (fun z => c87 (ltB_t.mp z)), if_pos (dgB_t.mpr c106)])
    · rw [w86, w12] at c87
      exact go 1 (by rw [if_neg (by omega), if_pos (ltB_t.mpr c87)])
    · exact go 0 (by rw [if_pos (by omega)])
  have loop : ∀ i : Nat, i ≤ (N - e).toNat → ∀ m : MI, Ch pTk mi m → m 0 80 12 = e + i → (∀ j, e ≤ j → j < e + i → t j = 32) → Run (d+2) mt_X12_next Q (n, mr, 0, 0) m 8 [vR (some (0, 80))] [] := by
    refine nloop ?_
    intro i hi ih m gm m12 hall
    obtain ⟨e86, e11⟩ := tp m gm
    have fin : (e + i < N → t (e + i) ≠ 32) → Run (d+2) mt_X12_next Q (n, mr, 0, 0) m 46 [vR (some (0, 80))] [] := fun hc => by
      refine aft (e + i) m gm m12 (by omega) (by omega) ?_ hc
      exact (rnE_is _ e (e + i) (by omega) (by omega) (fun j j0 j1 => spB_t.mpr (hall j j0 j1)) (fun z w => hc (by omega) (spB_t.mp w))).symm
    by_cases hc : e + i < N
    · by_cases h32 : t (e + i) = 32
      · refine r_aload_n (dc kc_X12_next_0 4 rfl) rfl <| s_getI (dc kc_X12_next_0 5 rfl) fl_X12_155 <| r_aload_n (dc kc_X12_next_0 6 rfl) rfl <| s_getI (dc kc_X12_next_0 7 rfl) fl_X12_137 <| s_icmp_ge (tgt := 46) (dc kc_X12_next_0 8 rfl) rfl (fun c16 => (?_)) (fun c16 => (r_aload_n (dc kc_X12_next_0 9 rfl) rfl <| s_getA (dc kc_X12_next_0 10 rfl) fl_X12_26 (ly_80_10 hL) <| r_aload_n (dc kc_X12_next_0 11 rfl) rfl <| s_getI (dc kc_X12_next_0 12 rfl) fl_X12_155 <| s_iaload (dc kc_X12_next_0 13 rfl) rfl (by first | omega | (simp [up] <;> omega)) (by first | omega | (simp [up] <;> omega)) <| k_b (dc kc_X12_next_0 14 rfl) rfl <| s_icmp_ne (tgt := 46) (dc kc_X12_next_0 15 rfl) rfl (fun c30 => (?_)) (fun c30 => (r_aload_n (dc kc_X12_next_0 16 rfl) rfl <| s_dup (dc kc_X12_next_0 17 rfl) rfl <| s_getI (dc kc_X12_next_0 18 rfl) fl_X12_155 <| k_i (dc kc_X12_next_0 19 rfl) rfl <| b_iadd (dc kc_X12_next_0 20 rfl) (by first | omega | (simp [up] <;> omega)) (by first | omega | (simp [up] <;> omega)) <| s_putI (dc kc_X12_next_0 21 rfl) fl_X12_155 <| s_goto (tgt := 8) (dc kc_X12_next_0 22 rfl) rfl <| ?_))))
        · exfalso; omega
        · exfalso
          rw [e86, m12] at c30
          exact c30 h32
        · refine ih (by omega) _ (gm.up (by simp [pTk])) (by rw [up_at]; omega) (fun j j0 j1 => ?_)
          by_cases ej : j = e + i
          · rw [ej]; exact h32
          · exact hall j j0 (by omega)
      · refine r_aload_n (dc kc_X12_next_0 4 rfl) rfl <| s_getI (dc kc_X12_next_0 5 rfl) fl_X12_155 <| r_aload_n (dc kc_X12_next_0 6 rfl) rfl <| s_getI (dc kc_X12_next_0 7 rfl) fl_X12_137 <| s_icmp_ge (tgt := 46) (dc kc_X12_next_0 8 rfl) rfl (fun c16 => (?_)) (fun c16 => (r_aload_n (dc kc_X12_next_0 9 rfl) rfl <| s_getA (dc kc_X12_next_0 10 rfl) fl_X12_26 (ly_80_10 hL) <| r_aload_n (dc kc_X12_next_0 11 rfl) rfl <| s_getI (dc kc_X12_next_0 12 rfl) fl_X12_155 <| s_iaload (dc kc_X12_next_0 13 rfl) rfl (by first | omega | (simp [up] <;> omega)) (by first | omega | (simp [up] <;> omega)) <| k_b (dc kc_X12_next_0 14 rfl) rfl <| s_icmp_ne (tgt := 46) (dc kc_X12_next_0 15 rfl) rfl (fun c30 => (?_)) (fun c30 => (?_))))
        · exfalso; omega
        · exact fin (fun _ => h32)
        · exfalso
          rw [e86, m12] at c30
          exact h32 c30
    · refine r_aload_n (dc kc_X12_next_0 4 rfl) rfl <| s_getI (dc kc_X12_next_0 5 rfl) fl_X12_155 <| r_aload_n (dc kc_X12_next_0 6 rfl) rfl <| s_getI (dc kc_X12_next_0 7 rfl) fl_X12_137 <| s_icmp_ge (tgt := 46) (dc kc_X12_next_0 8 rfl) rfl (fun c16 => (?_)) (fun c16 => (?_))
      · exact fin (fun z => by omega)
      · exfalso; omega
  refine tx_intro (ls := [vR (some (0, 80))]) om_X12_next rfl (Nat.le_of_ble_eq_true rfl) ?_
  refine r_aload_n (dc kc_X12_next_0 0 rfl) rfl <| r_aload_n (dc kc_X12_next_0 1 rfl) rfl <| s_getI (dc kc_X12_next_0 2 rfl) fl_X12_143 <| s_putI (dc kc_X12_next_0 3 rfl) fl_X12_155 <| ?_
  refine loop 0 (Nat.zero_le _) _ (Ch.rf.up (by simp [pTk])) (by rw [up_at, he]; simp) (fun j j0 j1 => by omega)
end RNX
