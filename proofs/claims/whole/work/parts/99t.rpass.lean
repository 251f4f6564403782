/-! the reference: tokens passed, faults -/
def pTq (j : Nat) (k : Int) : Bool := j == 80 && (k == 12 || k == 13 || k == 14 || k == 15 || k == 16 || k == 17 || k == 18)
def RA (t : Int → Int) (N : Int) (m : MI) (f u : Int) : Prop := Tap t N m ∧ TkR t N m f ∧ m 0 80 17 = 0 ∧ m 0 80 18 = u ∧ (0 ≤ f ∧ f ≤ N) ∧ (0 ≤ u ∧ u ≤ 60) ∧ (u = 60 → tkF t N f = 91 ∨ tkF t N f = 23) ∧ m 0 80 16 = -1
/-- the sixtieth token is passed, and the row goes on: it will fail at p -/
def RD (t : Int → Int) (N : Int) (m : MI) (p : Int) : Prop := Tap t N m ∧ TkR t N m p ∧ m 0 80 17 = 0 ∧ m 0 80 18 = 60 ∧ tkF t N p ≠ 91 ∧ tkF t N p ≠ 23 ∧ (0 ≤ p ∧ p < N)
def RB (m : MI) (p : Int) : Prop := m 0 80 17 = 1 ∧ m 0 80 16 = p
def Dd (t : Int → Int) (N : Int) (m : MI) (p : Int) : Prop := RD t N m p ∨ RB m p
def Tko (t : Int → Int) (N : Int) (m : MI) (f u : Int) : Prop := if 59 ≤ u ∧ tkF t N (nxF t N f) ≠ 91 ∧ tkF t N (nxF t N f) ≠ 23 then RD t N m (nxF t N f) else RA t N m (nxF t N f) (u + 1)
theorem TkR.word {t : Int → Int} {N f : Int} {m : MI} (h : TkR t N m f) (hP : Tpe t N) (hf : 0 ≤ f) (k : Nat) (hk : k < 21) {H : Int} (hH : hs (WL.getD k []) = H) : (m 0 80 14 = 1 ∧ m 0 80 15 = H) ↔ tkF t N f = k := by
  rw [h.2.2.1, h.2.2.2, ← hH]
  exact is_word (fun z => (hP.2 f hf z).1) k hk
theorem TkR.sign {t : Int → Int} {N f : Int} {m : MI} (h : TkR t N m f) (hP : Tpe t N) (hf : 0 ≤ f) {c : Int} (hc : 33 ≤ c) (hc1 : ¬ (97 ≤ c ∧ c ≤ 122)) (hc2 : ¬ (48 ≤ c ∧ c ≤ 57)) : (m 0 80 14 = 3 ∧ m 0 80 15 = c) ↔ tkF t N f = 32 + c := by
  rw [h.2.2.1, h.2.2.2]
  exact is_sign (fun z => (hP.2 f hf z).1) hc hc1 hc2
theorem RA.mv {t : Int → Int} {N f u : Int} {m m' : MI} {P : Nat → Int → Bool} (h : RA t N m f u) (hm : Ch P m m') (h86 : ∀ k, P 86 k = false) (h80 : ∀ k, 11 ≤ k → k ≤ 18 → True → P 80 k = false) : RA t N m' f u := by
  unfold RA Tap TkR at *
  rw [hm.row h86, hm.at (h80 11 (by decide) (by decide) trivial), hm.at (h80 12 (by decide) (by decide) trivial), hm.at (h80 13 (by decide) (by decide) trivial), hm.at (h80 14 (by decide) (by decide) trivial), hm.at (h80 15 (by decide) (by decide) trivial), hm.at (h80 16 (by decide) (by decide) trivial), hm.at (h80 17 (by decide) (by decide) trivial), hm.at (h80 18 (by decide) (by decide) trivial)]
  exact h
theorem RD.mv {t : Int → Int} {N p : Int} {m m' : MI} {P : Nat → Int → Bool} (h : RD t N m p) (hm : Ch P m m') (h86 : ∀ k, P 86 k = false) (h80 : ∀ k, 11 ≤ k → k ≤ 18 → P 80 k = false) : RD t N m' p := by
  unfold RD Tap TkR at *
  rw [hm.row h86, hm.at (h80 11 (by decide) (by decide)), hm.at (h80 12 (by decide) (by decide)), hm.at (h80 13 (by decide) (by decide)), hm.at (h80 14 (by decide) (by decide)), hm.at (h80 15 (by decide) (by decide)), hm.at (h80 17 (by decide) (by decide)), hm.at (h80 18 (by decide) (by decide))]
  exact h
theorem Dd.mv {t : Int → Int} {N p : Int} {m m' : MI} {P : Nat → Int → Bool} (h : Dd t N m p) (hm : Ch P m m') (h86 : ∀ k, P 86 k = false) (h80 : ∀ k, 11 ≤ k → k ≤ 18 → P 80 k = false) : Dd t N m' p := by
  rcases h with z | z
  · exact Or.inl (z.mv hm h86 h80)
  · right
    unfold RB at *
    rw [hm.at (h80 17 (by decide) (by decide)), hm.at (h80 16 (by decide) (by decide))]
    exact z
section RPS
variable {d n G : Nat} {mr : MR} {Q : V → MI → Nat → MR → Prop} {t : Int → Int} {N : Int}
theorem t_isWord {mi : MI} {w : Int} (hQ : Q (vI (bi (mi 0 80 14 = 1 ∧ mi 0 80 15 = w))) mi n mr) : Tx (d+1) mt_X12_isWord [vR (some (0, 80)), vL w] mi n mr Q := by
  refine tx_intro (ls := [vR (some (0, 80)), vL w, vX 0]) om_X12_isWord rfl (Nat.le_of_ble_eq_true rfl) ?_
  refine r_aload_n (dc kc_X12_isWord 0 rfl) rfl <| s_getI (dc kc_X12_isWord 1 rfl) fl_X12_168 <| k_i (dc kc_X12_isWord 2 rfl) rfl <| s_icmp_ne (tgt := 21) (dc kc_X12_isWord 3 rfl) rfl (fun c5 => (k_i (dc kc_X12_isWord 11 rfl) rfl <| s_zreturn (dc kc_X12_isWord 12 rfl) rfl (by first | exact Or.inl rfl | exact Or.inr rfl | exact bi_01 | assumption) (Nat.zero_le _) (Nat.zero_le _) ?_)) (fun c5 => (r_aload_n (dc kc_X12_isWord 4 rfl) rfl <| s_getJ (dc kc_X12_isWord 5 rfl) fl_X12_158 <| s_lload_n (dc kc_X12_isWord 6 rfl) rfl <| s_lcmp (dc kc_X12_isWord 7 rfl) <| s_if_ne (tgt := 21) (dc kc_X12_isWord 8 rfl) rfl (fun c14 => (k_i (dc kc_X12_isWord 11 rfl) rfl <| s_zreturn (dc kc_X12_isWord 12 rfl) rfl (by first | exact Or.inl rfl | exact Or.inr rfl | exact bi_01 | assumption) (Nat.zero_le _) (Nat.zero_le _) ?_)) (fun c14 => (k_i (dc kc_X12_isWord 9 rfl) rfl <| s_goto (tgt := 22) (dc kc_X12_isWord 10 rfl) rfl <| s_zreturn (dc kc_X12_isWord 12 rfl) rfl (by first | exact Or.inl rfl | exact Or.inr rfl | exact bi_01 | assumption) (Nat.zero_le _) (Nat.zero_le _) ?_))))
  · rw [bi_f (fun z => by omega)] at hQ; exact hQ
  · rw [bi_f (fun z => c14 (lc_eq.mpr z.2))] at hQ; exact hQ
  · have c14 : lc (mi 0 80 15) w = 0 := by omega
    rw [bi_t ⟨by omega, lc_eq.mp c14⟩] at hQ; exact hQ
theorem t_isSign {mi : MI} {w : Int} (hQ : Q (vI (bi (mi 0 80 14 = 3 ∧ mi 0 80 15 = w))) mi n mr) : Tx (d+1) mt_X12_isSign [vR (some (0, 80)), vI w] mi n mr Q := by
  refine tx_intro (ls := [vR (some (0, 80)), vI w]) om_X12_isSign rfl (Nat.le_of_ble_eq_true rfl) ?_
  refine r_aload_n (dc kc_X12_isSign 0 rfl) rfl <| s_getI (dc kc_X12_isSign 1 rfl) fl_X12_168 <| k_i (dc kc_X12_isSign 2 rfl) rfl <| s_icmp_ne (tgt := 22) (dc kc_X12_isSign 3 rfl) rfl (fun c5 => (k_i (dc kc_X12_isSign 12 rfl) rfl <| s_zreturn (dc kc_X12_isSign 13 rfl) rfl (by first | exact Or.inl rfl | exact Or.inr rfl | exact bi_01 | assumption) (Nat.zero_le _) (Nat.zero_le _) ?_)) (fun c5 => (r_aload_n (dc kc_X12_isSign 4 rfl) rfl <| s_getJ (dc kc_X12_isSign 5 rfl) fl_X12_158 <| s_iload_n (dc kc_X12_isSign 6 rfl) rfl <| s_i2l (dc kc_X12_isSign 7 rfl) <| s_lcmp (dc kc_X12_isSign 8 rfl) <| s_if_ne (tgt := 22) (dc kc_X12_isSign 9 rfl) rfl (fun c15 => (k_i (dc kc_X12_isSign 12 rfl) rfl <| s_zreturn (dc kc_X12_isSign 13 rfl) rfl (by first | exact Or.inl rfl | exact Or.inr rfl | exact bi_01 | assumption) (Nat.zero_le _) (Nat.zero_le _) ?_)) (fun c15 => (k_i (dc kc_X12_isSign 10 rfl) rfl <| s_goto (tgt := 23) (dc kc_X12_isSign 11 rfl) rfl <| s_zreturn (dc kc_X12_isSign 13 rfl) rfl (by first | exact Or.inl rfl | exact Or.inr rfl | exact bi_01 | assumption) (Nat.zero_le _) (Nat.zero_le _) ?_))))
  · rw [bi_f (fun z => by omega)] at hQ; exact hQ
  · rw [bi_f (fun z => c15 (lc_eq.mpr z.2))] at hQ; exact hQ
  · have c15 : lc (mi 0 80 15) w = 0 := by omega
    rw [bi_t ⟨by omega, lc_eq.mp c15⟩] at hQ; exact hQ
theorem t_wrong {mi : MI} (h : mi 0 80 17 = 0 ∨ mi 0 80 17 = 1) (hQ : ∀ mi', Ch pTq mi mi' → RB mi' (if mi 0 80 17 = 0 then mi 0 80 12 else mi 0 80 16) → Q (vX 0) mi' n mr) : Tx (d+1) mt_X12_wrong [vR (some (0, 80))] mi n mr Q := by
  refine tx_intro (ls := [vR (some (0, 80))]) om_X12_wrong rfl (Nat.le_of_ble_eq_true rfl) ?_
  refine r_aload_n (dc kc_X12_wrong 0 rfl) rfl <| s_getZ (dc kc_X12_wrong 1 rfl) fl_X12_146 <| s_if_ne (tgt := 20) (dc kc_X12_wrong 2 rfl) rfl (fun c4 => (s_return (dc kc_X12_wrong 10 rfl) rfl (Nat.zero_le _) (Nat.zero_le _) ?_)) (fun c4 => (r_aload_n (dc kc_X12_wrong 3 rfl) rfl <| k_i (dc kc_X12_wrong 4 rfl) rfl <| s_putZ (dc kc_X12_wrong 5 rfl) fl_X12_146 (by first | exact Or.inl rfl | exact Or.inr rfl | exact bi_01 | assumption) <| r_aload_n (dc kc_X12_wrong 6 rfl) rfl <| r_aload_n (dc kc_X12_wrong 7 rfl) rfl <| s_getI (dc kc_X12_wrong 8 rfl) fl_X12_155 <| s_putI (dc kc_X12_wrong 9 rfl) fl_X12_29 <| s_return (dc kc_X12_wrong 10 rfl) rfl (Nat.zero_le _) (Nat.zero_le _) ?_))
  · refine hQ mi Ch.rf ⟨by omega, ?_⟩
    rw [if_neg (by omega)]
  · refine hQ _ ((Ch.rf.up (by simp [pTq])).up (by simp [pTq])) ⟨by simp [up], ?_⟩
    rw [if_pos (by omega)]
    simp [up]
theorem RD.b {m : MI} {p : Int} (h : RD t N m p) : m 0 80 17 = 0 := h.2.2.1
theorem t_passA (hL : Lay G mr) {mi : MI} {f u : Int} (hP : Tpe t N) (hA : RA t N mi f u) (hx : tkF t N f ≠ 91) (hx2 : tkF t N f ≠ 23) (hQ : ∀ mi', Ch pTq mi mi' → Tko t N mi' f u → Q (vX 0) mi' n mr) : Tx (d+3) mt_X12_pass [vR (some (0, 80))] mi n mr Q := by
  obtain ⟨⟨a1, a2⟩, ⟨b1, b2, b3, b4⟩, a3, a4, ⟨a5, a6⟩, ⟨a7, a8⟩, a9, a10⟩ := id hA
  have hu : u ≠ 60 := fun z => by rcases a9 z with w | w; exact hx w; exact hx2 w
  have hfN : f < N := by
    by_cases z : N ≤ f
    · exact absurd (if_pos z) hx2
    · omega
  have hb := ndE_bd (t := t) hfN
  have hto : toF t N f = ndE t N f := if_neg (by omega)
  have hsk := skp_bd (t := t) hb.2
  refine tx_intro (ls := [vR (some (0, 80))]) om_X12_pass rfl (Nat.le_of_ble_eq_true rfl) ?_
  refine r_aload_n (dc kc_X12_pass 0 rfl) rfl <| s_getI (dc kc_X12_pass 1 rfl) fl_X12_149 <| k_b (dc kc_X12_pass 2 rfl) rfl <| s_icmp_ne (tgt := 13) (dc kc_X12_pass 3 rfl) rfl (fun c6 => (r_aload_n (dc kc_X12_pass 6 rfl) rfl <| s_getZ (dc kc_X12_pass 7 rfl) fl_X12_146 <| s_if_ne (tgt := 34) (dc kc_X12_pass 8 rfl) rfl (fun c17 => (s_return (dc kc_X12_pass 17 rfl) rfl (Nat.zero_le _) (Nat.zero_le _) ?_)) (fun c17 => (r_aload_n (dc kc_X12_pass 9 rfl) rfl <| s_dup (dc kc_X12_pass 10 rfl) rfl <| s_getI (dc kc_X12_pass 11 rfl) fl_X12_149 <| k_i (dc kc_X12_pass 12 rfl) rfl <| b_iadd (dc kc_X12_pass 13 rfl) (by first | omega | (simp [up] <;> omega)) (by first | omega | (simp [up] <;> omega)) <| s_putI (dc kc_X12_pass 14 rfl) fl_X12_149 <| r_aload_n (dc kc_X12_pass 15 rfl) rfl <| c_v0 (dc kc_X12_pass 16 rfl) cl_X12_152 rfl (Nat.le_of_ble_eq_true rfl) (Nat.zero_le _) (Nat.zero_le _) ?_)))) (fun c6 => (r_aload_n (dc kc_X12_pass 4 rfl) rfl <| c_v0 (dc kc_X12_pass 5 rfl) cl_X12_181 rfl (Nat.le_of_ble_eq_true rfl) (Nat.zero_le _) (Nat.zero_le _) ?_))
  · exfalso; omega
  · refine t_next hL hP (e := ndE t N f) ⟨by rw [up_j (by decide)]; exact a1, by rw [up_k (by decide)]; exact a2⟩ (by rw [up_k (by decide), b2, hto]) (by omega) hb.2 (fun m2 g2 h2 => ?_)
    refine s_return (dc kc_X12_pass 17 rfl) rfl (Nat.zero_le _) (Nat.zero_le _) ?_
    have g3 : Ch pTq mi m2 := (Ch.rf.up (by simp [pTq])).tr (g2.mono (fun j k z => by simp [pTk] at z; simp [pTq]; omega))
    refine hQ m2 g3 ?_
    have h2 : TkR t N m2 (nxF t N f) := h2
    have e17 : m2 0 80 17 = 0 := by rw [g2.at (by simp [pTk]), up_k (by decide)]; exact a3
    have e16 : m2 0 80 16 = -1 := by rw [g2.at (by simp [pTk]), up_k (by decide)]; exact a10
    have e18 : m2 0 80 18 = u + 1 := by rw [g2.at (by simp [pTk]), up_at, a4]
    have eT : Tap t N m2 := ⟨by rw [g3.row (fun k => by simp [pTq])]; exact a1, by rw [g3.at (by simp [pTq])]; exact a2⟩
    have en : 0 ≤ nxF t N f ∧ nxF t N f ≤ N := by unfold nxF; omega
    unfold Tko
    split
    · rename_i hc
      refine ⟨eT, h2, e17, by omega, hc.2.1, hc.2.2, en.1, ?_⟩
      by_cases z : N ≤ nxF t N f
      · exact absurd (if_pos z) hc.2.2
      · omega
    · rename_i hc
      refine ⟨eT, h2, e17, e18, en, ⟨by omega, by omega⟩, fun z => ?_, e16⟩
      by_cases q1 : tkF t N (nxF t N f) = 91
      · exact Or.inl q1
      · by_cases q2 : tkF t N (nxF t N f) = 23
        · exact Or.inr q2
        · exact absurd ⟨by omega, q1, q2⟩ hc
  · refine t_wrong (Or.inl a3) (fun m2 g2 h2 => ?_)
    exfalso; omega
theorem t_passD (hL : Lay G mr) {mi : MI} {p : Int} (hD : Dd t N mi p) (hQ : ∀ mi', Ch pTq mi mi' → RB mi' p → Q (vX 0) mi' n mr) : Tx (d+3) mt_X12_pass [vR (some (0, 80))] mi n mr Q := by
  have h01 : mi 0 80 17 = 0 ∨ mi 0 80 17 = 1 := by
    rcases hD with z | z
    · exact Or.inl z.b
    · exact Or.inr z.1
  have hpp : (if mi 0 80 17 = 0 then mi 0 80 12 else mi 0 80 16) = p := by
    rcases hD with z | z
    · rw [if_pos z.b]; exact z.2.1.1
    · rw [if_neg (by rw [z.1]; decide)]; exact z.2
  have fin : ∀ m : MI, Ch pTq mi m → RB m p → Run (d+3) mt_X12_pass Q (n, mr, 0, 0) m 13 [vR (some (0, 80))] [] := fun m gm hb => by
    have := hb.1
    refine r_aload_n (dc kc_X12_pass 6 rfl) rfl <| s_getZ (dc kc_X12_pass 7 rfl) fl_X12_146 <| s_if_ne (tgt := 34) (dc kc_X12_pass 8 rfl) rfl (fun c17 => (s_return (dc kc_X12_pass 17 rfl) rfl (Nat.zero_le _) (Nat.zero_le _) ?_)) (fun c17 => (r_aload_n (dc kc_X12_pass 9 rfl) rfl <| s_dup (dc kc_X12_pass 10 rfl) rfl <| s_getI (dc kc_X12_pass 11 rfl) fl_X12_149 <| k_i (dc kc_X12_pass 12 rfl) rfl <| b_iadd (dc kc_X12_pass 13 rfl) (by first | omega | (simp [up] <;> omega)) (by first | omega | (simp [up] <;> omega)) <| s_putI (dc kc_X12_pass 14 rfl) fl_X12_149 <| r_aload_n (dc kc_X12_pass 15 rfl) rfl <| c_v0 (dc kc_X12_pass 16 rfl) cl_X12_152 rfl (Nat.le_of_ble_eq_true rfl) (Nat.zero_le _) (Nat.zero_le _) ?_))
    · exact hQ m gm hb
    · exfalso; omega
  refine tx_intro (ls := [vR (some (0, 80))]) om_X12_pass rfl (Nat.le_of_ble_eq_true rfl) ?_
  refine r_aload_n (dc kc_X12_pass 0 rfl) rfl <| s_getI (dc kc_X12_pass 1 rfl) fl_X12_149 <| k_b (dc kc_X12_pass 2 rfl) rfl <| s_icmp_ne (tgt := 13) (dc kc_X12_pass 3 rfl) rfl (fun c6 => (?_)) (fun c6 => (r_aload_n (dc kc_X12_pass 4 rfl) rfl <| c_v0 (dc kc_X12_pass 5 rfl) cl_X12_181 rfl (Nat.le_of_ble_eq_true rfl) (Nat.zero_le _) (Nat.zero_le _) ?_))
  · rcases hD with z | z
    · exfalso
      have := z.2.2.2.1
      omega
    · exact fin mi Ch.rf z
  · refine t_wrong h01 (fun m2 g2 h2 => ?_)
    rw [hpp] at h2
    exact fin m2 g2 h2
theorem t_mustA (hL : Lay G mr) {mi : MI} {f u : Int} (hP : Tpe t N) (hA : RA t N mi f u) (hx : tkF t N f ≠ 91) (hx2 : tkF t N f ≠ 23) (hQ : ∀ mi', Ch pTq mi mi' → Tko t N mi' f u → Q (vX 0) mi' n mr) : Tx (d+4) mt_X12_must [vR (some (0, 80)), vI 1] mi n mr Q := by
  have h17 := hA.2.2.1
  refine tx_intro (ls := [vR (some (0, 80)), vI 1]) om_X12_must rfl (Nat.le_of_ble_eq_true rfl) ?_
  refine s_iload_n (dc kc_X12_must 0 rfl) rfl <| s_if_ne (tgt := 8) (dc kc_X12_must 1 rfl) rfl (fun c1 => (r_aload_n (dc kc_X12_must 4 rfl) rfl <| s_getZ (dc kc_X12_must 5 rfl) fl_X12_146 <| s_if_ne (tgt := 19) (dc kc_X12_must 6 rfl) rfl (fun c12 => (s_return (dc kc_X12_must 9 rfl) rfl (Nat.zero_le _) (Nat.zero_le _) ?_)) (fun c12 => (r_aload_n (dc kc_X12_must 7 rfl) rfl <| c_v0 (dc kc_X12_must 8 rfl) cl_X12_184 rfl (Nat.le_of_ble_eq_true rfl) (Nat.zero_le _) (Nat.zero_le _) ?_)))) (fun c1 => (r_aload_n (dc kc_X12_must 2 rfl) rfl <| c_v0 (dc kc_X12_must 3 rfl) cl_X12_181 rfl (Nat.le_of_ble_eq_true rfl) (Nat.zero_le _) (Nat.zero_le _) ?_))
  · exfalso; omega
  · refine t_passA hL hP hA hx hx2 (fun m2 g2 h2 => ?_)
    refine s_return (dc kc_X12_must 9 rfl) rfl (Nat.zero_le _) (Nat.zero_le _) ?_
    exact hQ m2 g2 h2
  · exfalso; omega
theorem t_mustF (hL : Lay G mr) {mi : MI} {f u : Int} (hA : RA t N mi f u) (hQ : ∀ mi', Ch pTq mi mi' → RB mi' f → Q (vX 0) mi' n mr) : Tx (d+4) mt_X12_must [vR (some (0, 80)), vI 0] mi n mr Q := by
  have h17 := hA.2.2.1
  refine tx_intro (ls := [vR (some (0, 80)), vI 0]) om_X12_must rfl (Nat.le_of_ble_eq_true rfl) ?_
  refine s_iload_n (dc kc_X12_must 0 rfl) rfl <| s_if_ne (tgt := 8) (dc kc_X12_must 1 rfl) rfl (fun c1 => (r_aload_n (dc kc_X12_must 4 rfl) rfl <| s_getZ (dc kc_X12_must 5 rfl) fl_X12_146 <| s_if_ne (tgt := 19) (dc kc_X12_must 6 rfl) rfl (fun c12 => (s_return (dc kc_X12_must 9 rfl) rfl (Nat.zero_le _) (Nat.zero_le _) ?_)) (fun c12 => (r_aload_n (dc kc_X12_must 7 rfl) rfl <| c_v0 (dc kc_X12_must 8 rfl) cl_X12_184 rfl (Nat.le_of_ble_eq_true rfl) (Nat.zero_le _) (Nat.zero_le _) ?_)))) (fun c1 => (r_aload_n (dc kc_X12_must 2 rfl) rfl <| c_v0 (dc kc_X12_must 3 rfl) cl_X12_181 rfl (Nat.le_of_ble_eq_true rfl) (Nat.zero_le _) (Nat.zero_le _) ?_))
  · exfalso; omega
  · exfalso; omega
  · refine t_wrong (Or.inl h17) (fun m2 g2 h2 => ?_)
    rw [if_pos h17, hA.2.1.1] at h2
    have := h2.1
    refine r_aload_n (dc kc_X12_must 4 rfl) rfl <| s_getZ (dc kc_X12_must 5 rfl) fl_X12_146 <| s_if_ne (tgt := 19) (dc kc_X12_must 6 rfl) rfl (fun c12 => (s_return (dc kc_X12_must 9 rfl) rfl (Nat.zero_le _) (Nat.zero_le _) ?_)) (fun c12 => (r_aload_n (dc kc_X12_must 7 rfl) rfl <| c_v0 (dc kc_X12_must 8 rfl) cl_X12_184 rfl (Nat.le_of_ble_eq_true rfl) (Nat.zero_le _) (Nat.zero_le _) ?_))
    · exact hQ m2 g2 h2
    · exfalso; omega
theorem t_mustD (hL : Lay G mr) {mi : MI} {p x : Int} (hx : x = 0 ∨ x = 1) (hD : Dd t N mi p) (hQ : ∀ mi', Ch pTq mi mi' → RB mi' p → Q (vX 0) mi' n mr) : Tx (d+4) mt_X12_must [vR (some (0, 80)), vI x] mi n mr Q := by
  have h01 : mi 0 80 17 = 0 ∨ mi 0 80 17 = 1 := by
    rcases hD with z | z
    · exact Or.inl z.b
    · exact Or.inr z.1
  have hpp : (if mi 0 80 17 = 0 then mi 0 80 12 else mi 0 80 16) = p := by
    rcases hD with z | z
    · rw [if_pos z.b]; exact z.2.1.1
    · rw [if_neg (by rw [z.1]; decide)]; exact z.2
  have fin : ∀ m : MI, Ch pTq mi m → Dd t N m p → Run (d+4) mt_X12_must Q (n, mr, 0, 0) m 8 [vR (some (0, 80)), vI x] [] := fun m gm hb => by
    refine r_aload_n (dc kc_X12_must 4 rfl) rfl <| s_getZ (dc kc_X12_must 5 rfl) fl_X12_146 <| s_if_ne (tgt := 19) (dc kc_X12_must 6 rfl) rfl (fun c12 => (s_return (dc kc_X12_must 9 rfl) rfl (Nat.zero_le _) (Nat.zero_le _) ?_)) (fun c12 => (r_aload_n (dc kc_X12_must 7 rfl) rfl <| c_v0 (dc kc_X12_must 8 rfl) cl_X12_184 rfl (Nat.le_of_ble_eq_true rfl) (Nat.zero_le _) (Nat.zero_le _) ?_))
    · rcases hb with z | z
      · exact absurd z.b (by omega)
      · exact hQ m gm z
    · refine t_passD hL hb (fun m2 g2 h2 => ?_)
      refine s_return (dc kc_X12_must 9 rfl) rfl (Nat.zero_le _) (Nat.zero_le _) ?_
      exact hQ m2 (gm.tr g2) h2
  refine tx_intro (ls := [vR (some (0, 80)), vI x]) om_X12_must rfl (Nat.le_of_ble_eq_true rfl) ?_
  refine s_iload_n (dc kc_X12_must 0 rfl) rfl <| s_if_ne (tgt := 8) (dc kc_X12_must 1 rfl) rfl (fun c1 => (?_)) (fun c1 => (r_aload_n (dc kc_X12_must 2 rfl) rfl <| c_v0 (dc kc_X12_must 3 rfl) cl_X12_181 rfl (Nat.le_of_ble_eq_true rfl) (Nat.zero_le _) (Nat.zero_le _) ?_))
  · exact fin mi Ch.rf hD
  · refine t_wrong h01 (fun m2 g2 h2 => ?_)
    rw [hpp] at h2
    exact fin m2 g2 (Or.inr h2)
/-- a number is taken, or fails -/
theorem t_numberA (hL : Lay G mr) {mi : MI} {f u q : Int} (hP : Tpe t N) (hA : RA t N mi f u) (hq : q ≤ 99) (hQ1 : tkF t N f = 22 → nuF t N f ≤ q → ∀ mi', Ch pTq mi mi' → Tko t N mi' f u → Q (vI (nuF t N f)) mi' n mr) (hQ2 : ¬ (tkF t N f = 22 ∧ nuF t N f ≤ q) → ∀ mi' v, Ch pTq mi mi' → RB mi' f → Q (vI v) mi' n mr) : Tx (d+5) mt_X12_number [vR (some (0, 80)), vL q] mi n mr Q := by
  have h14 := hA.2.1.2.2.1
  have h15 := hA.2.1.2.2.2
  have hf := hA.2.2.2.2.1
  have hin := is_num (t := t) (N := N) (f := f) (fun z => (hP.2 f hf.1 z).1)
  have hnw := num_wt (t := t) (N := N) (f := f)
  have no : ¬ (tkF t N f = 22 ∧ nuF t N f ≤ q) → Run (d+5) mt_X12_number Q (n, mr, 0, 0) mi 28 [vR (some (0, 80)), vL q, vX 0, vI (w32 (mi 0 80 15))] [vR (some (0, 80))] := fun z => by
    refine k_i (dc kc_X12_number 16 rfl) rfl <| c_v1 (dc kc_X12_number 17 rfl) cl_X12_187 rfl (Nat.le_of_ble_eq_true rfl) (Nat.zero_le _) (Nat.zero_le _) ?_
    refine t_mustF hL hA (fun m2 g2 h2 => ?_)
    refine s_iload_n (dc kc_X12_number 18 rfl) rfl <| s_ireturn (dc kc_X12_number 19 rfl) rfl (Nat.zero_le _) (Nat.zero_le _) ?_
    exact hQ2 z m2 _ g2 h2
  refine tx_intro (ls := [vR (some (0, 80)), vL q, vX 0, vX 0]) om_X12_number rfl (Nat.le_of_ble_eq_true rfl) ?_
  refine r_aload_n (dc kc_X12_number 0 rfl) rfl <| s_getJ (dc kc_X12_number 1 rfl) fl_X12_158 <| s_l2i (dc kc_X12_number 2 rfl) <| t_i3 (dc kc_X12_number 3 rfl) (Nat.le_of_ble_eq_true rfl) rfl <| r_aload_n (dc kc_X12_number 4 rfl) rfl <| r_aload_n (dc kc_X12_number 5 rfl) rfl <| s_getI (dc kc_X12_number 6 rfl) fl_X12_168 <| k_i (dc kc_X12_number 7 rfl) rfl <| s_icmp_ne (tgt := 28) (dc kc_X12_number 8 rfl) rfl (fun c12 => (?_)) (fun c12 => (r_aload_n (dc kc_X12_number 9 rfl) rfl <| s_getJ (dc kc_X12_number 10 rfl) fl_X12_158 <| s_lload_n (dc kc_X12_number 11 rfl) rfl <| s_lcmp (dc kc_X12_number 12 rfl) <| s_if_gt (tgt := 28) (dc kc_X12_number 13 rfl) rfl (fun c21 => (?_)) (fun c21 => (k_i (dc kc_X12_number 14 rfl) rfl <| s_goto (tgt := 29) (dc kc_X12_number 15 rfl) rfl <| c_v1 (dc kc_X12_number 17 rfl) cl_X12_187 rfl (Nat.le_of_ble_eq_true rfl) (Nat.zero_le _) (Nat.zero_le _) ?_))))
  · exact no (fun z => by have := hin.mpr z.1; omega)
  · have c := lc_gt.mp c21
    refine no (fun z => ?_)
    have := hnw (hin.mpr z.1)
    omega
  · have c : ¬ 0 < lc (mi 0 80 15) q := by omega
    have c : ¬ q < mi 0 80 15 := fun z => c (lc_gt.mpr z)
    have hs : srF t N f = 2 := by omega
    have h22 := hin.mp hs
    have := hnw hs
    refine t_mustA hL hP hA (by omega) (by omega) (fun m2 g2 h2 => ?_)
    refine s_iload_n (dc kc_X12_number 18 rfl) rfl <| s_ireturn (dc kc_X12_number 19 rfl) rfl (Nat.zero_le _) (Nat.zero_le _) ?_
    rw [show w32 (mi 0 80 15) = nuF t N f by rw [w32_id (by omega) (by omega)]; omega]
    exact hQ1 h22 (by omega) m2 g2 h2
theorem t_numberD (hL : Lay G mr) {mi : MI} {p q : Int} (hD : Dd t N mi p) (hQ : ∀ mi' v, Ch pTq mi mi' → RB mi' p → Q (vI v) mi' n mr) : Tx (d+5) mt_X12_number [vR (some (0, 80)), vL q] mi n mr Q := by
  refine tx_intro (ls := [vR (some (0, 80)), vL q, vX 0, vX 0]) om_X12_number rfl (Nat.le_of_ble_eq_true rfl) ?_
  refine r_aload_n (dc kc_X12_number 0 rfl) rfl <| s_getJ (dc kc_X12_number 1 rfl) fl_X12_158 <| s_l2i (dc kc_X12_number 2 rfl) <| t_i3 (dc kc_X12_number 3 rfl) (Nat.le_of_ble_eq_true rfl) rfl <| r_aload_n (dc kc_X12_number 4 rfl) rfl <| r_aload_n (dc kc_X12_number 5 rfl) rfl <| s_getI (dc kc_X12_number 6 rfl) fl_X12_168 <| k_i (dc kc_X12_number 7 rfl) rfl <| s_icmp_ne (tgt := 28) (dc kc_X12_number 8 rfl) rfl (fun c12 => (k_i (dc kc_X12_number 16 rfl) rfl <| c_v1 (dc kc_X12_number 17 rfl) cl_X12_187 rfl (Nat.le_of_ble_eq_true rfl) (Nat.zero_le _) (Nat.zero_le _) ?_)) (fun c12 => (r_aload_n (dc kc_X12_number 9 rfl) rfl <| s_getJ (dc kc_X12_number 10 rfl) fl_X12_158 <| s_lload_n (dc kc_X12_number 11 rfl) rfl <| s_lcmp (dc kc_X12_number 12 rfl) <| s_if_gt (tgt := 28) (dc kc_X12_number 13 rfl) rfl (fun c21 => (k_i (dc kc_X12_number 16 rfl) rfl <| c_v1 (dc kc_X12_number 17 rfl) cl_X12_187 rfl (Nat.le_of_ble_eq_true rfl) (Nat.zero_le _) (Nat.zero_le _) ?_)) (fun c21 => (k_i (dc kc_X12_number 14 rfl) rfl <| s_goto (tgt := 29) (dc kc_X12_number 15 rfl) rfl <| c_v1 (dc kc_X12_number 17 rfl) cl_X12_187 rfl (Nat.le_of_ble_eq_true rfl) (Nat.zero_le _) (Nat.zero_le _) ?_))))
  · refine t_mustD hL (Or.inl rfl) hD (fun m2 g2 h2 => ?_)
    refine s_iload_n (dc kc_X12_number 18 rfl) rfl <| s_ireturn (dc kc_X12_number 19 rfl) rfl (Nat.zero_le _) (Nat.zero_le _) ?_
    exact hQ m2 _ g2 h2
  · refine t_mustD hL (Or.inl rfl) hD (fun m2 g2 h2 => ?_)
    refine s_iload_n (dc kc_X12_number 18 rfl) rfl <| s_ireturn (dc kc_X12_number 19 rfl) rfl (Nat.zero_le _) (Nat.zero_le _) ?_
    exact hQ m2 _ g2 h2
  · refine t_mustD hL (Or.inr rfl) hD (fun m2 g2 h2 => ?_)
    refine s_iload_n (dc kc_X12_number 18 rfl) rfl <| s_ireturn (dc kc_X12_number 19 rfl) rfl (Nat.zero_le _) (Nat.zero_le _) ?_
    exact hQ m2 _ g2 h2
theorem t_begin (hL : Lay G mr) {mi : MI} (hP : Tpe t N) (hT : Tap t N mi) (hQ : ∀ mi', Ch pTq mi mi' → RA t N mi' (skp t N 0) 0 → mi' 0 80 16 = -1 → Q (vX 0) mi' n mr) : Tx (d+3) mt_X12_begin [vR (some (0, 80))] mi n mr Q := by
  refine tx_intro (ls := [vR (some (0, 80))]) om_X12_begin rfl (Nat.le_of_ble_eq_true rfl) ?_
  refine r_aload_n (dc kc_X12_begin 0 rfl) rfl <| k_i (dc kc_X12_begin 1 rfl) rfl <| s_putI (dc kc_X12_begin 2 rfl) fl_X12_143 <| r_aload_n (dc kc_X12_begin 3 rfl) rfl <| k_i (dc kc_X12_begin 4 rfl) rfl <| s_putZ (dc kc_X12_begin 5 rfl) fl_X12_146 (by first | exact Or.inl rfl | exact Or.inr rfl | exact bi_01 | assumption) <| r_aload_n (dc kc_X12_begin 6 rfl) rfl <| k_i (dc kc_X12_begin 7 rfl) rfl <| s_putI (dc kc_X12_begin 8 rfl) fl_X12_29 <| r_aload_n (dc kc_X12_begin 9 rfl) rfl <| k_i (dc kc_X12_begin 10 rfl) rfl <| s_putI (dc kc_X12_begin 11 rfl) fl_X12_149 <| r_aload_n (dc kc_X12_begin 12 rfl) rfl <| c_v0 (dc kc_X12_begin 13 rfl) cl_X12_152 rfl (Nat.le_of_ble_eq_true rfl) (Nat.zero_le _) (Nat.zero_le _) ?_
  refine t_next hL hP (e := 0) ⟨by rw [up_j (by decide), up_j (by decide), up_j (by decide), up_j (by decide)]; exact hT.1, by simp [up]; exact hT.2⟩ (by simp [up]) (by omega) hP.1.1 (fun m2 g2 h2 => ?_)
  refine s_return (dc kc_X12_begin 14 rfl) rfl (Nat.zero_le _) (Nat.zero_le _) ?_
  have hsk := skp_bd (t := t) hP.1.1
  have g3 : Ch pTq mi m2 := ((((Ch.rf.up (by simp [pTq])).up (by simp [pTq])).up (by simp [pTq])).up (by simp [pTq])).tr (g2.mono (fun j k z => by simp [pTk] at z; simp [pTq]; omega))
  refine hQ m2 g3 ⟨⟨by rw [g3.row (fun k => by simp [pTq])]; exact hT.1, by rw [g3.at (by simp [pTq])]; exact hT.2⟩, h2, ?_, ?_, hsk, ⟨by omega, by omega⟩, fun z => by omega, ?_⟩ ?_
  · rw [g2.at (by simp [pTk])]; simp [up]
  · rw [g2.at (by simp [pTk])]; simp [up]
  · rw [g2.at (by simp [pTk])]; simp [up]
  · rw [g2.at (by simp [pTk])]; simp [up]
end RPS
