/-! the reader over the mender's cells (made by gen/mkreadm.py out of 61 to 64) -/
abbrev clM (mi : MI) (g : Nat) : Int → Int := fun i => mi g 63 i
section RM61
variable {d n G : Nat} {mr : MR} {Q : V → MI → Nat → MR → Prop}
theorem mu_look (hL : Lay G mr) {mi : MI} {r g : Nat} {c : Int} (hcel : mr r 50 0 = some (g, 63)) (h0 : 0 ≤ c) (h1 : c < 24) (hQ : Q (vI (mi g 63 c)) (up mi r 50 3 (bOr (mi r 50 3) (bShl 1 c))) n mr) : Tx (d+1) mt_X6_look [vR (some (r, 50)), vI c] mi n mr Q := by
  refine tx_intro (ls := [vR (some (r, 50)), vI c]) om_X6_look rfl (Nat.le_of_ble_eq_true rfl) ?_
  refine s_iload_n (dc kc_X6_look 0 rfl) rfl <| s_if_lt (tgt := 10) (dc kc_X6_look 1 rfl) rfl (fun c1 => (k_i (dc kc_X6_look 5 rfl) rfl <| s_ireturn (dc kc_X6_look 6 rfl) rfl (Nat.zero_le _) (Nat.zero_le _) ?_)) (fun c1 => (s_iload_n (dc kc_X6_look 2 rfl) rfl <| k_b (dc kc_X6_look 3 rfl) rfl <| s_icmp_lt (tgt := 12) (dc kc_X6_look 4 rfl) rfl (fun c7 => (r_aload_n (dc kc_X6_look 7 rfl) rfl <| s_dup (dc kc_X6_look 8 rfl) rfl <| s_getI (dc kc_X6_look 9 rfl) fl_X6_22 <| k_i (dc kc_X6_look 10 rfl) rfl <| s_iload_n (dc kc_X6_look 11 rfl) rfl <| s_ishl (dc kc_X6_look 12 rfl) <| s_ior (dc kc_X6_look 13 rfl) <| s_putI (dc kc_X6_look 14 rfl) fl_X6_22 <| r_aload_n (dc kc_X6_look 15 rfl) rfl <| s_getA (dc kc_X6_look 16 rfl) fl_X6_9 hcel <| s_iload_n (dc kc_X6_look 17 rfl) rfl <| s_iaload (dc kc_X6_look 18 rfl) rfl (by first | omega | (simp [up] <;> omega)) (by first | omega | (simp [up] <;> omega)) <| s_ireturn (dc kc_X6_look 19 rfl) rfl (Nat.zero_le _) (Nat.zero_le _) ?_)) (fun c7 => (k_i (dc kc_X6_look 5 rfl) rfl <| s_ireturn (dc kc_X6_look 6 rfl) rfl (Nat.zero_le _) (Nat.zero_le _) ?_))))
  · exfalso; omega
  · rw [up_j (by decide)]; exact hQ
  · exfalso; omega
theorem mu_lookAt (hL : Lay G mr) {mi : MI} {r g : Nat} {x o : Int} (hcel : mr r 50 0 = some (g, 63)) (ho : 6 ≤ o ∧ o ≤ 8) (hQ1 : ¬ (0 ≤ x ∧ x < 6) → Q (vI (-1)) (up mi r 50 4 1) n mr) (hQ2 : 0 ≤ x → x < 6 → Q (vI (mi g 63 (o + 3 * x))) (up mi r 50 3 (bOr (mi r 50 3) (bShl 1 (o + 3 * x)))) n mr) : Tx (d+1) mt_X6_lookAt [vR (some (r, 50)), vI x, vI o] mi n mr Q := by
  refine tx_intro (ls := [vR (some (r, 50)), vI x, vI o, vX 0]) om_X6_lookAt rfl (Nat.le_of_ble_eq_true rfl) ?_
  refine s_iload_n (dc kc_X6_lookAt 0 rfl) rfl <| s_if_lt (tgt := 10) (dc kc_X6_lookAt 1 rfl) rfl (fun c1 => (r_aload_n (dc kc_X6_lookAt 5 rfl) rfl <| k_i (dc kc_X6_lookAt 6 rfl) rfl <| s_putZ (dc kc_X6_lookAt 7 rfl) fl_X6_25 (by first | exact Or.inl rfl | exact Or.inr rfl | exact bi_01 | assumption) <| k_i (dc kc_X6_lookAt 8 rfl) rfl <| s_ireturn (dc kc_X6_lookAt 9 rfl) rfl (Nat.zero_le _) (Nat.zero_le _) ?_)) (fun c1 => (s_iload_n (dc kc_X6_lookAt 2 rfl) rfl <| k_b (dc kc_X6_lookAt 3 rfl) rfl <| s_icmp_lt (tgt := 17) (dc kc_X6_lookAt 4 rfl) rfl (fun c7 => (s_iload_n (dc kc_X6_lookAt 10 rfl) rfl <| k_i (dc kc_X6_lookAt 11 rfl) rfl <| s_iload_n (dc kc_X6_lookAt 12 rfl) rfl <| b_imul (dc kc_X6_lookAt 13 rfl) (by first | omega | (simp [up] <;> omega)) (by first | omega | (simp [up] <;> omega)) <| b_iadd (dc kc_X6_lookAt 14 rfl) (by first | omega | (simp [up] <;> omega)) (by first | omega | (simp [up] <;> omega)) <| t_i3 (dc kc_X6_lookAt 15 rfl) (Nat.le_of_ble_eq_true rfl) rfl <| r_aload_n (dc kc_X6_lookAt 16 rfl) rfl <| s_dup (dc kc_X6_lookAt 17 rfl) rfl <| s_getI (dc kc_X6_lookAt 18 rfl) fl_X6_22 <| k_i (dc kc_X6_lookAt 19 rfl) rfl <| s_iload_n (dc kc_X6_lookAt 20 rfl) rfl <| s_ishl (dc kc_X6_lookAt 21 rfl) <| s_ior (dc kc_X6_lookAt 22 rfl) <| s_putI (dc kc_X6_lookAt 23 rfl) fl_X6_22 <| r_aload_n (dc kc_X6_lookAt 24 rfl) rfl <| s_getA (dc kc_X6_lookAt 25 rfl) fl_X6_9 hcel <| s_iload_n (dc kc_X6_lookAt 26 rfl) rfl <| s_iaload (dc kc_X6_lookAt 27 rfl) rfl (by first | omega | (simp [up] <;> omega)) (by first | omega | (simp [up] <;> omega)) <| s_ireturn (dc kc_X6_lookAt 28 rfl) rfl (Nat.zero_le _) (Nat.zero_le _) ?_)) (fun c7 => (r_aload_n (dc kc_X6_lookAt 5 rfl) rfl <| k_i (dc kc_X6_lookAt 6 rfl) rfl <| s_putZ (dc kc_X6_lookAt 7 rfl) fl_X6_25 (by first | exact Or.inl rfl | exact Or.inr rfl | exact bi_01 | assumption) <| k_i (dc kc_X6_lookAt 8 rfl) rfl <| s_ireturn (dc kc_X6_lookAt 9 rfl) rfl (Nat.zero_le _) (Nat.zero_le _) ?_))))
  · exact hQ1 (by omega)
  · rw [up_j (by decide)]; exact hQ2 (by omega) (by omega)
  · exact hQ1 (by omega)
theorem mfollow_loop (hL : Lay G mr) {c : Int → Int} (hc : VC c) {mi0 : MI} {r g : Nat} (hr : r < 5) (hcel : mr r 50 0 = some (g, 63)) {hd : Int} (h0 : 0 ≤ hd) (h3 : hd < 3) {rd : List Int} (hB : Bm (mi0 r 50 3) rd) (hQ : ∀ mi', Cg (pV r) mi0 mi' → mi' r 50 6 = (way c hd).length → mi' r 50 7 = msk (way c hd) → mi' r 50 8 = bi (wend c hd = -1) → Arr (mi' r 53) (way c hd) → Bm (mi' r 50 3) (askW c hd 0 0 ++ rd) → Q (vX 0) mi' n mr) : ∀ (k : Nat) (W0 : List Int) (at_ : Int) (mi : MI) (x4 : V), W0.length + k = 6 → Cg (pV r) mi0 mi → mi r 50 3 = mi0 r 50 3 → (∀ i, mi g 63 i = c i) → mi r 50 6 = W0.length → mi r 50 7 = msk W0 → Arr (mi r 53) W0 → (∀ x ∈ W0, 0 ≤ x ∧ x < 6) → -1 ≤ at_ → at_ ≤ 5 → W0 ++ wayL c k W0.reverse at_ = way c hd → wayE c k W0.reverse at_ = wend c hd → Run (d+1) mt_X6_follow Q (n, mr, 0, 0) mi 32 [vR (some (r, 50)), vI hd, vI at_, vI (W0.length : Int), x4] [] := by
  have hok : okI G 50 r := hr
  have hwr := way_rg hc h0 h3
  -- the end
  have fin : ∀ (mi : MI) (at_ : Int) (x3 x4 : V), Cg (pV r) mi0 mi → mi r 50 3 = mi0 r 50 3 → mi r 50 6 = (way c hd).length → mi r 50 7 = msk (way c hd) → Arr (mi r 53) (way c hd) → at_ = wend c hd → -1 ≤ at_ → Run (d+1) mt_X6_follow Q (n, mr, 0, 0) mi 112 [vR (some (r, 50)), vI hd, vI at_, x3, x4] [] := by
    intro mi at_ x3 x4 hC e3 e6 e7 hA ea hat
    have hbm : Bm (bOr (mi r 50 3) (bOr (bShl 1 hd) (mi r 50 7))) (askW c hd 0 0 ++ rd) := by
      rw [e3, e7]
      refine (hB.or ((Bm.one h0 (by omega)).or (msk_Bm (fun x hx => by have := hwr x hx; omega)))).mem (fun a a0 a1 => ?_)
      unfold askW askN
      simp
      constructor
      · rintro (h | h | ⟨x, h1, h2⟩)
        · exact Or.inr (Or.inr h)
        · exact Or.inl h
        · exact Or.inr (Or.inl ⟨x, h1, h2.symm⟩)
      · rintro (h | ⟨x, h1, h2⟩ | h)
        · exact Or.inr (Or.inl h)
        · exact Or.inr (Or.inr ⟨x, h1, h2.symm⟩)
        · exact Or.inl h
    have q3 : ∀ v, up mi r 50 8 v r 50 3 = mi r 50 3 := fun v => up_k (by decide)
    have q7 : ∀ v, up mi r 50 8 v r 50 7 = mi r 50 7 := fun v => up_k (by decide)
    refine r_aload_n (dc kc_X6_follow_1 26 rfl) rfl <| s_iload_n (dc kc_X6_follow_1 27 rfl) rfl <| s_if_ge (tgt := 121) (dc kc_X6_follow_1 28 rfl) rfl (fun c114 => (k_i (dc kc_X6_follow_1 31 rfl) rfl <| s_putZ (dc kc_X6_follow_1 32 rfl) fl_X6_38 (by first | exact Or.inl rfl | exact Or.inr rfl | exact bi_01 | assumption) <| r_aload_n (dc kc_X6_follow_1 33 rfl) rfl <| s_dup (dc kc_X6_follow_1 34 rfl) rfl <| s_getI (dc kc_X6_follow_1 35 rfl) fl_X6_22 <| k_i (dc kc_X6_follow_1 36 rfl) rfl <| s_iload_n (dc kc_X6_follow_1 37 rfl) rfl <| s_ishl (dc kc_X6_follow_1 38 rfl) <| r_aload_n (dc kc_X6_follow_1 39 rfl) rfl <| s_getI (dc kc_X6_follow_2 0 rfl) fl_X6_35 <| s_ior (dc kc_X6_follow_2 1 rfl) <| s_ior (dc kc_X6_follow_2 2 rfl) <| s_putI (dc kc_X6_follow_2 3 rfl) fl_X6_22 <| s_return (dc kc_X6_follow_2 4 rfl) rfl (Nat.zero_le _) (Nat.zero_le _) ?_)) (fun c114 => (k_i (dc kc_X6_follow_1 29 rfl) rfl <| s_goto (tgt := 122) (dc kc_X6_follow_1 30 rfl) rfl <| s_putZ (dc kc_X6_follow_1 32 rfl) fl_X6_38 (by first | exact Or.inl rfl | exact Or.inr rfl | exact bi_01 | assumption) <| r_aload_n (dc kc_X6_follow_1 33 rfl) rfl <| s_dup (dc kc_X6_follow_1 34 rfl) rfl <| s_getI (dc kc_X6_follow_1 35 rfl) fl_X6_22 <| k_i (dc kc_X6_follow_1 36 rfl) rfl <| s_iload_n (dc kc_X6_follow_1 37 rfl) rfl <| s_ishl (dc kc_X6_follow_1 38 rfl) <| r_aload_n (dc kc_X6_follow_1 39 rfl) rfl <| s_getI (dc kc_X6_follow_2 0 rfl) fl_X6_35 <| s_ior (dc kc_X6_follow_2 1 rfl) <| s_ior (dc kc_X6_follow_2 2 rfl) <| s_putI (dc kc_X6_follow_2 3 rfl) fl_X6_22 <| s_return (dc kc_X6_follow_2 4 rfl) rfl (Nat.zero_le _) (Nat.zero_le _) ?_))
    · rw [q3, q7]
      exact hQ _ ((hC.up (by simp [pV])).up (by simp [pV])) (by rw [up_k (by decide), up_k (by decide), e6]) (by rw [up_k (by decide), up_k (by decide), e7]) (by rw [up_k (by decide), up_at, bi_f (by omega)]) (by rw [up_j (by decide), up_j (by decide)]; exact hA) (by rw [up_at]; exact hbm)
    · rw [q3, q7]
      exact hQ _ ((hC.up (by simp [pV])).up (by simp [pV])) (by rw [up_k (by decide), up_k (by decide), e6]) (by rw [up_k (by decide), up_k (by decide), e7]) (by rw [up_k (by decide), up_at, bi_t (by omega)]) (by rw [up_j (by decide), up_j (by decide)]; exact hA) (by rw [up_at]; exact hbm)
  intro k
  induction k with
  | zero =>
    intro W0 at_ mi x4 hlen hC e3 hcl e6 e7 hA hrg h0' h1' hw he
    rw [wayL, List.append_nil] at hw
    rw [wayE] at he
    refine s_iload_n (dc kc_X6_follow_0 20 rfl) rfl <| k_b (dc kc_X6_follow_0 21 rfl) rfl <| s_icmp_ge (tgt := 112) (dc kc_X6_follow_0 22 rfl) rfl (fun c35 => (?_)) (fun c35 => (?_))
    · exact fin mi at_ _ _ hC e3 (by rw [e6, hw]) (by rw [e7, hw]) (by rw [← hw]; exact hA) he h0'
    · exfalso; omega
  | succ k ih =>
    intro W0 at_ mi x4 hlen hC e3 hcl e6 e7 hA hrg h0' h1' hw he
    have hbit : 0 ≤ at_ → (bAnd (bShr (mi r 50 7) (6 + 3 * at_)) 1 = 0 ↔ at_ ∉ W0.reverse) := by
      intro ha
      rw [e7, (msk_Bm hrg).bit (by omega) (by omega), List.mem_reverse]
      have : 6 + 3 * at_ ∈ W0.map (fun x => 6 + 3 * x) ↔ at_ ∈ W0 := by
        rw [List.mem_map]
        constructor
        · rintro ⟨x, h1, h2⟩
          rw [show at_ = x by omega]; exact h1
        · intro h
          exact ⟨at_, h, rfl⟩
      rw [this]
    have stopf : (at_ = -1 ∨ at_ ∈ W0.reverse) → ∀ x3 x4, Run (d+1) mt_X6_follow Q (n, mr, 0, 0) mi 112 [vR (some (r, 50)), vI hd, vI at_, x3, x4] [] := by
      intro hs x3 x4
      rw [wayL_stop hs, List.append_nil] at hw
      rw [wayE_stop hs] at he
      exact fin mi at_ _ _ hC e3 (by rw [e6, hw]) (by rw [e7, hw]) (by rw [← hw]; exact hA) he h0'
    refine s_iload_n (dc kc_X6_follow_0 20 rfl) rfl <| k_b (dc kc_X6_follow_0 21 rfl) rfl <| s_icmp_ge (tgt := 112) (dc kc_X6_follow_0 22 rfl) rfl (fun c35 => (?_)) (fun c35 => (s_iload_n (dc kc_X6_follow_0 23 rfl) rfl <| s_if_lt (tgt := 112) (dc kc_X6_follow_0 24 rfl) rfl (fun c39 => (?_)) (fun c39 => (k_b (dc kc_X6_follow_0 25 rfl) rfl <| k_i (dc kc_X6_follow_0 26 rfl) rfl <| s_iload_n (dc kc_X6_follow_0 27 rfl) rfl <| b_imul (dc kc_X6_follow_0 28 rfl) (by first | omega | (simp [up] <;> omega)) (by first | omega | (simp [up] <;> omega)) <| b_iadd (dc kc_X6_follow_0 29 rfl) (by first | omega | (simp [up] <;> omega)) (by first | omega | (simp [up] <;> omega)) <| t_i4 (dc kc_X6_follow_0 30 rfl) (Nat.le_of_ble_eq_true rfl) rfl <| r_aload_n (dc kc_X6_follow_0 31 rfl) rfl <| s_getI (dc kc_X6_follow_0 32 rfl) fl_X6_35 <| s_iload (dc kc_X6_follow_0 33 rfl) rfl <| s_ishr (dc kc_X6_follow_0 34 rfl) <| k_i (dc kc_X6_follow_0 35 rfl) rfl <| s_iand (dc kc_X6_follow_0 36 rfl) <| s_if_eq (tgt := 65) (dc kc_X6_follow_0 37 rfl) rfl (fun c59 => (?_)) (fun c59 => (s_goto (tgt := 112) (dc kc_X6_follow_0 38 rfl) rfl <| ?_))))))
    · exfalso; omega
    · exact stopf (Or.inl (by omega)) _ _
    · have hni := (hbit (by omega)).mp c59
      have hst : ¬ (at_ = -1 ∨ at_ ∈ W0.reverse) := fun z => z.elim (by omega) hni
      have hnx := hc.2.2 at_ (by omega) (by omega)
      rw [wayL, if_neg hst] at hw
      rw [wayE, if_neg hst] at he
      have e1 : (W0 ++ [at_]).reverse = at_ :: W0.reverse := by simp
      have q6 : ∀ v, up mi r 50 7 v r 50 6 = mi r 50 6 := fun v => up_k (by decide)
      have q6' : ∀ v w, up (up mi r 50 7 v) r 53 (mi r 50 6) w r 50 6 = mi r 50 6 := fun v w => by rw [up_j (by decide), q6]
      have qc : ∀ v w x i, up (up (up mi r 50 7 v) r 53 (mi r 50 6) w) r 50 6 x g 63 i = c i := fun v w x i => by rw [up_j (by decide), up_j (by decide), up_j (by decide)]; exact hcl i
      refine r_aload_n (dc kc_X6_follow_0 39 rfl) rfl <| s_dup (dc kc_X6_follow_1 0 rfl) rfl <| s_getI (dc kc_X6_follow_1 1 rfl) fl_X6_35 <| k_i (dc kc_X6_follow_1 2 rfl) rfl <| s_iload (dc kc_X6_follow_1 3 rfl) rfl <| s_ishl (dc kc_X6_follow_1 4 rfl) <| s_ior (dc kc_X6_follow_1 5 rfl) <| s_putI (dc kc_X6_follow_1 6 rfl) fl_X6_35 <| r_aload_n (dc kc_X6_follow_1 7 rfl) rfl <| s_getA (dc kc_X6_follow_1 8 rfl) fl_X6_29 (ly_50_5 hL (by assumption)) <| r_aload_n (dc kc_X6_follow_1 9 rfl) rfl <| s_getI (dc kc_X6_follow_1 10 rfl) fl_X6_32 <| s_iload_n (dc kc_X6_follow_1 11 rfl) rfl <| s_iastore (dc kc_X6_follow_1 12 rfl) rfl (by first | omega | (simp [up] <;> omega)) (by first | omega | (simp [up] <;> omega)) <| r_aload_n (dc kc_X6_follow_1 13 rfl) rfl <| s_dup (dc kc_X6_follow_1 14 rfl) rfl <| s_getI (dc kc_X6_follow_1 15 rfl) fl_X6_32 <| k_i (dc kc_X6_follow_1 16 rfl) rfl <| b_iadd (dc kc_X6_follow_1 17 rfl) (by first | omega | (simp [up] <;> omega)) (by first | omega | (simp [up] <;> omega)) <| s_putI (dc kc_X6_follow_1 18 rfl) fl_X6_32 <| r_aload_n (dc kc_X6_follow_1 19 rfl) rfl <| s_getA (dc kc_X6_follow_1 20 rfl) fl_X6_9 hcel <| s_iload (dc kc_X6_follow_1 21 rfl) rfl <| s_iaload (dc kc_X6_follow_1 22 rfl) rfl (by first | omega | (simp [up] <;> omega)) (by first | omega | (simp [up] <;> omega)) <| t_i2 (dc kc_X6_follow_1 23 rfl) (Nat.le_of_ble_eq_true rfl) rfl <| b_inc3 (dc kc_X6_follow_1 24 rfl) rfl (Nat.le_of_ble_eq_true rfl) rfl (by first | omega | (simp [up] <;> omega)) (by first | omega | (simp [up] <;> omega)) <| s_goto (tgt := 32) (dc kc_X6_follow_1 25 rfl) rfl <| ?_
      rw [q6, q6', qc]
      have := ih (W0 ++ [at_]) (c (6 + 3 * at_)) (up (up (up mi r 50 7 (bOr (mi r 50 7) (bShl 1 (6 + 3 * at_)))) r 53 (mi r 50 6) at_) r 50 6 (mi r 50 6 + 1)) (vI (6 + 3 * at_)) (by simp; omega) (((hC.up (by simp [pV])).up (by simp [pV])).up (by simp [pV])) (by rw [up_k (by decide), up_j (by decide), up_k (by decide), e3]) (qc _ _ _) (by rw [up_at, e6]; simp) (by rw [up_k (by decide), up_j (by decide), up_at, e7, msk_snoc]) (by rw [up_j (by decide), up_ud, up_j (by decide), e6]; exact hA.snoc) (fun x hx => ?_) hnx.1 hnx.2.1 (by rw [e1, List.append_assoc]; exact hw) (by rw [e1]; exact he)
      · rw [show (((W0 ++ [at_]).length : Nat) : Int) = (W0.length : Int) + 1 by simp] at this
        exact this
      · rcases List.mem_append.mp hx with z | z
        · exact hrg x z
        · rw [List.mem_singleton] at z; omega
    · refine stopf (Or.inr (Classical.byContradiction fun z => c59 ((hbit (by omega)).mpr z))) _ _
theorem mu_follow (hL : Lay G mr) {mi : MI} {r g : Nat} (hr : r < 5) (hcel : mr r 50 0 = some (g, 63)) (hc : VC (clM mi g)) {hd : Int} (h0 : 0 ≤ hd) (h3 : hd < 3) {rd : List Int} (hB : Bm (mi r 50 3) rd) (hQ : ∀ mi', Cg (pV r) mi mi' → mi' r 50 6 = (way (clM mi g) hd).length → mi' r 50 7 = msk (way (clM mi g) hd) → mi' r 50 8 = bi (wend (clM mi g) hd = -1) → Arr (mi' r 53) (way (clM mi g) hd) → Bm (mi' r 50 3) (askW (clM mi g) hd 0 0 ++ rd) → Q (vX 0) mi' n mr) : Tx (d+1) mt_X6_follow [vR (some (r, 50)), vI hd] mi n mr Q := by
  have hok : okI G 50 r := hr
  refine tx_intro (ls := [vR (some (r, 50)), vI hd, vX 0, vX 0, vX 0]) om_X6_follow rfl (Nat.le_of_ble_eq_true rfl) ?_
  have hh := hc.1 hd h0 h3
  have ec : ∀ i, up (up mi r 50 6 0) r 50 7 0 g 63 i = clM mi g i := fun i => by rw [up_j (by decide), up_j (by decide)]
  refine r_aload_n (dc kc_X6_follow_0 0 rfl) rfl <| k_i (dc kc_X6_follow_0 1 rfl) rfl <| s_putI (dc kc_X6_follow_0 2 rfl) fl_X6_32 <| r_aload_n (dc kc_X6_follow_0 3 rfl) rfl <| k_i (dc kc_X6_follow_0 4 rfl) rfl <| s_putI (dc kc_X6_follow_0 5 rfl) fl_X6_35 <| s_iload_n (dc kc_X6_follow_0 6 rfl) rfl <| s_if_lt (tgt := 28) (dc kc_X6_follow_0 7 rfl) rfl (fun c11 => (k_i (dc kc_X6_follow_0 16 rfl) rfl <| t_i2 (dc kc_X6_follow_0 17 rfl) (Nat.le_of_ble_eq_true rfl) rfl <| k_i (dc kc_X6_follow_0 18 rfl) rfl <| t_i3 (dc kc_X6_follow_0 19 rfl) (Nat.le_of_ble_eq_true rfl) rfl <| ?_)) (fun c11 => (s_iload_n (dc kc_X6_follow_0 8 rfl) rfl <| k_i (dc kc_X6_follow_0 9 rfl) rfl <| s_icmp_ge (tgt := 28) (dc kc_X6_follow_0 10 rfl) rfl (fun c16 => (k_i (dc kc_X6_follow_0 16 rfl) rfl <| t_i2 (dc kc_X6_follow_0 17 rfl) (Nat.le_of_ble_eq_true rfl) rfl <| k_i (dc kc_X6_follow_0 18 rfl) rfl <| t_i3 (dc kc_X6_follow_0 19 rfl) (Nat.le_of_ble_eq_true rfl) rfl <| ?_)) (fun c16 => (r_aload_n (dc kc_X6_follow_0 11 rfl) rfl <| s_getA (dc kc_X6_follow_0 12 rfl) fl_X6_9 hcel <| s_iload_n (dc kc_X6_follow_0 13 rfl) rfl <| s_iaload (dc kc_X6_follow_0 14 rfl) rfl (by first | omega | (simp [up] <;> omega)) (by first | omega | (simp [up] <;> omega)) <| s_goto (tgt := 29) (dc kc_X6_follow_0 15 rfl) rfl <| t_i2 (dc kc_X6_follow_0 17 rfl) (Nat.le_of_ble_eq_true rfl) rfl <| k_i (dc kc_X6_follow_0 18 rfl) rfl <| t_i3 (dc kc_X6_follow_0 19 rfl) (Nat.le_of_ble_eq_true rfl) rfl <| ?_))))
  · exfalso; omega
  · exfalso; omega
  · rw [ec]
    exact mfollow_loop hL hc hr hcel h0 h3 hB hQ 6 [] _ _ _ rfl ((Cg.rf.up (by simp [pV])).up (by simp [pV])) (by rw [up_k (by decide), up_k (by decide)]) ec (by rw [up_k (by decide), up_at]; rfl) (by rw [up_at]; rfl) Arr.nil (fun x hx => by cases hx) hh.1 hh.2 rfl rfl
end RM61
section RM62
variable {d n G : Nat} {mr : MR} {Q : V → MI → Nat → MR → Prop}
theorem mu_totalOfWay (hL : Lay G mr) {mi : MI} {r g : Nat} (hr : r < 5) (hcel : mr r 50 0 = some (g, 63)) (hc : VC (clM mi g)) {W rd : List Int} (hW : ∀ x ∈ W, 0 ≤ x ∧ x ≤ 5) (hl : W.length ≤ 6) (e6 : mi r 50 6 = W.length) (e7 : mi r 50 7 = msk W) (hA : Arr (mi r 53) W) (hB : Bm (mi r 50 3) rd) (hQ : ∀ mi', Cg (pRd r) mi mi' → Bm (mi' r 50 3) (W.map (fun x => 8 + 3 * x) ++ rd) → Q (vI (sumL (W.map fun x => clM mi g (8 + 3 * x)))) mi' n mr) : Tx (d+1) mt_X6_totalOfWay [vR (some (r, 50))] mi n mr Q := by
  have hok : okI G 50 r := hr
  refine tx_intro (ls := [vR (some (r, 50)), vX 0, vX 0]) om_X6_totalOfWay rfl (Nat.le_of_ble_eq_true rfl) ?_
  have hbm : Bm (bOr (mi r 50 3) (bShl (mi r 50 7) 2)) (W.map (fun x => 8 + 3 * x) ++ rd) := by
    rw [e7]
    refine (hB.or ((msk_Bm (fun x hx => by have := hW x hx; omega)).shl (k := 2) (by decide) (by decide) (fun a ha => by obtain ⟨x, hx, rfl⟩ := List.mem_map.mp ha; have := hW x hx; omega))).mem (fun a a0 a1 => ?_)
    simp
    constructor
    · rintro (h | ⟨x, h1, h2⟩)
      · exact Or.inr h
      · exact Or.inl ⟨x, h1, by omega⟩
    · rintro (⟨x, h1, h2⟩ | h)
      · exact Or.inr ⟨x, h1, by omega⟩
      · exact Or.inl h
  have loop : ∀ i : Nat, i ≤ W.length → ∀ m : MI, Cg (pRd r) mi m → m r 50 3 = bOr (mi r 50 3) (bShl (mi r 50 7) 2) → Run (d+1) mt_X6_totalOfWay Q (n, mr, 0, 0) m 19 [vR (some (r, 50)), vI (sumL ((W.take i).map fun x => clM mi g (8 + 3 * x))), vI (i : Int)] [] := by
    refine nloop ?_
    intro i hi ih m hC e3
    have k6 : m r 50 6 = W.length := by rw [hC.at (by simp [pRd]), e6]
    have k53 : m r 53 = mi r 53 := hC.row (fun k => by simp [pRd])
    have k16 : ∀ x, m g 63 x = mi g 63 x := fun x => by rw [hC.at (by simp [pRd])]
    have hsb := sumL_bd (m := 9) (by decide) ((W.take i).map fun x => clM mi g (8 + 3 * x)) (fun y hy => by
      obtain ⟨x, hx, rfl⟩ := List.mem_map.mp hy
      have := hW x (List.mem_of_mem_take hx)
      have := hc.2.2 x (by omega) (by omega)
      exact ⟨this.2.2.2.2.1, this.2.2.2.2.2⟩)
    rw [List.length_map, List.length_take] at hsb
    by_cases he : i < W.length
    · have hg : W[i]? = some W[i] := List.getElem?_eq_getElem he
      have hx := hW _ (List.getElem_mem he)
      have ex : m r 53 i = W[i] := by rw [k53]; exact hA.at hg
      have hcx := hc.2.2 W[i] (by omega) (by omega)
      have ih := ih he m hC e3
      rw [List.take_add_one, hg] at ih
      have e1 : sumL (List.map (fun x => clM mi g (8 + 3 * x)) (W.take i ++ (some W[i]).toList)) = sumL (List.map (fun x => clM mi g (8 + 3 * x)) (W.take i)) + clM mi g (8 + 3 * W[i]) := by
        show sumL (List.map (fun x => clM mi g (8 + 3 * x)) (W.take i ++ [W[i]])) = _
        rw [List.map_append, List.map_singleton, sumL_snoc]
      rw [e1] at ih
      generalize W[i] = x at *
      have hcx' : 0 ≤ m g 63 (8 + 3 * x) ∧ m g 63 (8 + 3 * x) ≤ 9 := by rw [k16]; exact ⟨hcx.2.2.2.2.1, hcx.2.2.2.2.2⟩
      rw [← ex] at hcx'
      refine s_iload_n (dc kc_X6_totalOfWay 13 rfl) rfl <| r_aload_n (dc kc_X6_totalOfWay 14 rfl) rfl <| s_getI (dc kc_X6_totalOfWay 15 rfl) fl_X6_32 <| s_icmp_ge (tgt := 52) (dc kc_X6_totalOfWay 16 rfl) rfl (fun c24 => (?_)) (fun c24 => (s_iload_n (dc kc_X6_totalOfWay 17 rfl) rfl <| r_aload_n (dc kc_X6_totalOfWay 18 rfl) rfl <| s_getA (dc kc_X6_totalOfWay 19 rfl) fl_X6_9 hcel <| k_b (dc kc_X6_totalOfWay 20 rfl) rfl <| k_i (dc kc_X6_totalOfWay 21 rfl) rfl <| r_aload_n (dc kc_X6_totalOfWay 22 rfl) rfl <| s_getA (dc kc_X6_totalOfWay 23 rfl) fl_X6_29 (ly_50_5 hL (by assumption)) <| s_iload_n (dc kc_X6_totalOfWay 24 rfl) rfl <| s_iaload (dc kc_X6_totalOfWay 25 rfl) rfl (by first | omega | (simp [up] <;> omega)) (by first | omega | (simp [up] <;> omega)) <| b_imul (dc kc_X6_totalOfWay 26 rfl) (by first | omega | (simp [up] <;> omega)) (by first | omega | (simp [up] <;> omega)) <| b_iadd (dc kc_X6_totalOfWay 27 rfl) (by first | omega | (simp [up] <;> omega)) (by first | omega | (simp [up] <;> omega)) <| s_iaload (dc kc_X6_totalOfWay 28 rfl) rfl (by first | omega | (simp [up] <;> omega)) (by first | omega | (simp [up] <;> omega)) <| b_iadd (dc kc_X6_totalOfWay 29 rfl) (by first | omega | (simp [up] <;> omega)) (by first | omega | (simp [up] <;> omega)) <| t_i1 (dc kc_X6_totalOfWay 30 rfl) (Nat.le_of_ble_eq_true rfl) rfl <| b_inc2 (dc kc_X6_totalOfWay 31 rfl) rfl (Nat.le_of_ble_eq_true rfl) rfl (by first | omega | (simp [up] <;> omega)) (by first | omega | (simp [up] <;> omega)) <| s_goto (tgt := 19) (dc kc_X6_totalOfWay 32 rfl) rfl <| ?_))
      · exfalso; omega
      · rw [ex, k16]; exact ih
    · refine s_iload_n (dc kc_X6_totalOfWay 13 rfl) rfl <| r_aload_n (dc kc_X6_totalOfWay 14 rfl) rfl <| s_getI (dc kc_X6_totalOfWay 15 rfl) fl_X6_32 <| s_icmp_ge (tgt := 52) (dc kc_X6_totalOfWay 16 rfl) rfl (fun c24 => (s_iload_n (dc kc_X6_totalOfWay 33 rfl) rfl <| s_ireturn (dc kc_X6_totalOfWay 34 rfl) rfl (Nat.zero_le _) (Nat.zero_le _) ?_)) (fun c24 => (?_))
      · have := hQ m hC (by rw [e3]; exact hbm)
        rw [show i = W.length by omega, List.take_length]
        exact this
      · exfalso; omega
  refine r_aload_n (dc kc_X6_totalOfWay 0 rfl) rfl <| s_dup (dc kc_X6_totalOfWay 1 rfl) rfl <| s_getI (dc kc_X6_totalOfWay 2 rfl) fl_X6_22 <| r_aload_n (dc kc_X6_totalOfWay 3 rfl) rfl <| s_getI (dc kc_X6_totalOfWay 4 rfl) fl_X6_35 <| k_i (dc kc_X6_totalOfWay 5 rfl) rfl <| s_ishl (dc kc_X6_totalOfWay 6 rfl) <| s_ior (dc kc_X6_totalOfWay 7 rfl) <| s_putI (dc kc_X6_totalOfWay 8 rfl) fl_X6_22 <| k_i (dc kc_X6_totalOfWay 9 rfl) rfl <| t_i1 (dc kc_X6_totalOfWay 10 rfl) (Nat.le_of_ble_eq_true rfl) rfl <| k_i (dc kc_X6_totalOfWay 11 rfl) rfl <| t_i2 (dc kc_X6_totalOfWay 12 rfl) (Nat.le_of_ble_eq_true rfl) rfl <| ?_
  exact loop 0 (Nat.zero_le _) _ (Cg.rf.up (by simp [pRd])) up_at
theorem mu_isWayTwin (hL : Lay G mr) {mi : MI} {r g : Nat} (hr : r < 5) (hcel : mr r 50 0 = some (g, 63)) (hc : VC (clM mi g)) {W rd : List Int} (hW : ∀ x ∈ W, 0 ≤ x ∧ x ≤ 5) (hl : W.length ≤ 6) (e6 : mi r 50 6 = W.length) (e7 : mi r 50 7 = msk W) (hA : Arr (mi r 53) W) (hB : Bm (mi r 50 3) rd) (hQ : ∀ mi', Cg (pRd r) mi mi' → Bm (mi' r 50 3) (W.map (fun x => 7 + 3 * x) ++ rd) → Q (vI (bi (twin (clM mi g) (-1) W = true))) mi' n mr) : Tx (d+1) mt_X6_isWayTwin [vR (some (r, 50))] mi n mr Q := by
  have hok : okI G 50 r := hr
  refine tx_intro (ls := [vR (some (r, 50)), vX 0, vX 0]) om_X6_isWayTwin rfl (Nat.le_of_ble_eq_true rfl) ?_
  have hbm : Bm (bOr (mi r 50 3) (bShl (mi r 50 7) 1)) (W.map (fun x => 7 + 3 * x) ++ rd) := by
    rw [e7]
    refine (hB.or ((msk_Bm (fun x hx => by have := hW x hx; omega)).shl (k := 1) (by decide) (by decide) (fun a ha => by obtain ⟨x, hx, rfl⟩ := List.mem_map.mp ha; have := hW x hx; omega))).mem (fun a a0 a1 => ?_)
    simp
    constructor
    · rintro (h | ⟨x, h1, h2⟩)
      · exact Or.inr h
      · exact Or.inl ⟨x, h1, by omega⟩
    · rintro (⟨x, h1, h2⟩ | h)
      · exact Or.inr ⟨x, h1, by omega⟩
      · exact Or.inl h
  have loop : ∀ i : Nat, i ≤ W.length → ∀ (m : MI) (p : Int), Cg (pRd r) mi m → m r 50 3 = bOr (mi r 50 3) (bShl (mi r 50 7) 1) → twin (clM mi g) p (W.drop i) = twin (clM mi g) (-1) W → Run (d+1) mt_X6_isWayTwin Q (n, mr, 0, 0) m 19 [vR (some (r, 50)), vI p, vI (i : Int)] [] := by
    refine nloop ?_
    intro i hi ih m p hC e3 hp
    have k6 : m r 50 6 = W.length := by rw [hC.at (by simp [pRd]), e6]
    have k53 : m r 53 = mi r 53 := hC.row (fun k => by simp [pRd])
    have k16 : ∀ x, m g 63 x = mi g 63 x := fun x => by rw [hC.at (by simp [pRd])]
    have hq := hQ m hC (by rw [e3]; exact hbm)
    by_cases he : i < W.length
    · have hg : W[i]? = some W[i] := List.getElem?_eq_getElem he
      have hx := hW _ (List.getElem_mem he)
      have ex : m r 53 i = W[i] := by rw [k53]; exact hA.at hg
      have ih := ih he m W[i] hC e3
      rw [List.drop_eq_getElem_cons he, twin] at hp
      generalize W[i] = x at *
      refine s_iload_n (dc kc_X6_isWayTwin_0 13 rfl) rfl <| r_aload_n (dc kc_X6_isWayTwin_0 14 rfl) rfl <| s_getI (dc kc_X6_isWayTwin_0 15 rfl) fl_X6_32 <| s_icmp_ge (tgt := 62) (dc kc_X6_isWayTwin_0 16 rfl) rfl (fun c24 => (?_)) (fun c24 => (r_aload_n (dc kc_X6_isWayTwin_0 17 rfl) rfl <| s_getA (dc kc_X6_isWayTwin_0 18 rfl) fl_X6_9 hcel <| k_b (dc kc_X6_isWayTwin_0 19 rfl) rfl <| k_i (dc kc_X6_isWayTwin_0 20 rfl) rfl <| r_aload_n (dc kc_X6_isWayTwin_0 21 rfl) rfl <| s_getA (dc kc_X6_isWayTwin_0 22 rfl) fl_X6_29 (ly_50_5 hL (by assumption)) <| s_iload_n (dc kc_X6_isWayTwin_0 23 rfl) rfl <| s_iaload (dc kc_X6_isWayTwin_0 24 rfl) rfl (by first | omega | (simp [up] <;> omega)) (by first | omega | (simp [up] <;> omega)) <| b_imul (dc kc_X6_isWayTwin_0 25 rfl) (by first | omega | (simp [up] <;> omega)) (by first | omega | (simp [up] <;> omega)) <| b_iadd (dc kc_X6_isWayTwin_0 26 rfl) (by first | omega | (simp [up] <;> omega)) (by first | omega | (simp [up] <;> omega)) <| s_iaload (dc kc_X6_isWayTwin_0 27 rfl) rfl (by first | omega | (simp [up] <;> omega)) (by first | omega | (simp [up] <;> omega)) <| s_iload_n (dc kc_X6_isWayTwin_0 28 rfl) rfl <| s_icmp_eq (tgt := 49) (dc kc_X6_isWayTwin_0 29 rfl) rfl (fun c44 => (r_aload_n (dc kc_X6_isWayTwin_0 32 rfl) rfl <| s_getA (dc kc_X6_isWayTwin_0 33 rfl) fl_X6_29 (ly_50_5 hL (by assumption)) <| s_iload_n (dc kc_X6_isWayTwin_0 34 rfl) rfl <| s_iaload (dc kc_X6_isWayTwin_0 35 rfl) rfl (by first | omega | (simp [up] <;> omega)) (by first | omega | (simp [up] <;> omega)) <| t_i1 (dc kc_X6_isWayTwin_0 36 rfl) (Nat.le_of_ble_eq_true rfl) rfl <| b_inc2 (dc kc_X6_isWayTwin_0 37 rfl) rfl (Nat.le_of_ble_eq_true rfl) rfl (by first | omega | (simp [up] <;> omega)) (by first | omega | (simp [up] <;> omega)) <| s_goto (tgt := 19) (dc kc_X6_isWayTwin_0 38 rfl) rfl <| ?_)) (fun c44 => (k_i (dc kc_X6_isWayTwin_0 30 rfl) rfl <| s_zreturn (dc kc_X6_isWayTwin_0 31 rfl) rfl (by first | exact Or.inl rfl | exact Or.inr rfl | exact bi_01 | assumption) (Nat.zero_le _) (Nat.zero_le _) ?_))))
      · exfalso; omega
      · rw [ex, k16] at c44
        rw [ex]
        refine ih ?_
        rw [← hp]
        have : decide (clM mi g (7 + 3 * x) = p) = true := by simp; exact c44
        rw [this, Bool.true_and]
      · rw [ex, k16] at c44
        have : decide (clM mi g (7 + 3 * x) = p) = false := by simp; exact c44
        rw [this, Bool.false_and] at hp
        rw [← hp] at hq
        rw [bi_f (by decide)] at hq
        exact hq
    · refine s_iload_n (dc kc_X6_isWayTwin_0 13 rfl) rfl <| r_aload_n (dc kc_X6_isWayTwin_0 14 rfl) rfl <| s_getI (dc kc_X6_isWayTwin_0 15 rfl) fl_X6_32 <| s_icmp_ge (tgt := 62) (dc kc_X6_isWayTwin_0 16 rfl) rfl (fun c24 => (k_i (dc kc_X6_isWayTwin_0 39 rfl) rfl <| s_zreturn (dc kc_X6_isWayTwin_1 0 rfl) rfl (by first | exact Or.inl rfl | exact Or.inr rfl | exact bi_01 | assumption) (Nat.zero_le _) (Nat.zero_le _) ?_)) (fun c24 => (?_))
      · rw [List.drop_of_length_le (by omega), twin] at hp
        rw [← hp, bi_t rfl] at hq
        exact hq
      · exfalso; omega
  refine r_aload_n (dc kc_X6_isWayTwin_0 0 rfl) rfl <| s_dup (dc kc_X6_isWayTwin_0 1 rfl) rfl <| s_getI (dc kc_X6_isWayTwin_0 2 rfl) fl_X6_22 <| r_aload_n (dc kc_X6_isWayTwin_0 3 rfl) rfl <| s_getI (dc kc_X6_isWayTwin_0 4 rfl) fl_X6_35 <| k_i (dc kc_X6_isWayTwin_0 5 rfl) rfl <| s_ishl (dc kc_X6_isWayTwin_0 6 rfl) <| s_ior (dc kc_X6_isWayTwin_0 7 rfl) <| s_putI (dc kc_X6_isWayTwin_0 8 rfl) fl_X6_22 <| k_i (dc kc_X6_isWayTwin_0 9 rfl) rfl <| t_i1 (dc kc_X6_isWayTwin_0 10 rfl) (Nat.le_of_ble_eq_true rfl) rfl <| k_i (dc kc_X6_isWayTwin_0 11 rfl) rfl <| t_i2 (dc kc_X6_isWayTwin_0 12 rfl) (Nat.le_of_ble_eq_true rfl) rfl <| ?_
  exact loop 0 (Nat.zero_le _) _ (-1) (Cg.rf.up (by simp [pRd])) up_at rfl
theorem mu_isWayRising (hL : Lay G mr) {mi : MI} {r g : Nat} (hr : r < 5) (hcel : mr r 50 0 = some (g, 63)) (hc : VC (clM mi g)) {W rd : List Int} (hW : ∀ x ∈ W, 0 ≤ x ∧ x ≤ 5) (hl : W.length ≤ 6) (e6 : mi r 50 6 = W.length) (e7 : mi r 50 7 = msk W) (hA : Arr (mi r 53) W) (hB : Bm (mi r 50 3) rd) (hQ : ∀ mi', Cg (pRd r) mi mi' → Bm (mi' r 50 3) (W.map (fun x => 8 + 3 * x) ++ rd) → Q (vI (bi (rise (clM mi g) 0 W = true))) mi' n mr) : Tx (d+1) mt_X6_isWayRising [vR (some (r, 50))] mi n mr Q := by
  have hok : okI G 50 r := hr
  refine tx_intro (ls := [vR (some (r, 50)), vX 0, vX 0, vX 0]) om_X6_isWayRising rfl (Nat.le_of_ble_eq_true rfl) ?_
  have hbm : Bm (bOr (mi r 50 3) (bShl (mi r 50 7) 2)) (W.map (fun x => 8 + 3 * x) ++ rd) := by
    rw [e7]
    refine (hB.or ((msk_Bm (fun x hx => by have := hW x hx; omega)).shl (k := 2) (by decide) (by decide) (fun a ha => by obtain ⟨x, hx, rfl⟩ := List.mem_map.mp ha; have := hW x hx; omega))).mem (fun a a0 a1 => ?_)
    simp
    constructor
    · rintro (h | ⟨x, h1, h2⟩)
      · exact Or.inr h
      · exact Or.inl ⟨x, h1, by omega⟩
    · rintro (⟨x, h1, h2⟩ | h)
      · exact Or.inr ⟨x, h1, by omega⟩
      · exact Or.inl h
  have loop : ∀ i : Nat, i ≤ W.length → ∀ (m : MI) (p : Int) (x3 : V), Cg (pRd r) mi m → m r 50 3 = bOr (mi r 50 3) (bShl (mi r 50 7) 2) → rise (clM mi g) p (W.drop i) = rise (clM mi g) 0 W → Run (d+1) mt_X6_isWayRising Q (n, mr, 0, 0) m 19 [vR (some (r, 50)), vI p, vI (i : Int), x3] [] := by
    refine nloop ?_
    intro i hi ih m p x3 hC e3 hp
    have k6 : m r 50 6 = W.length := by rw [hC.at (by simp [pRd]), e6]
    have k53 : m r 53 = mi r 53 := hC.row (fun k => by simp [pRd])
    have k16 : ∀ x, m g 63 x = mi g 63 x := fun x => by rw [hC.at (by simp [pRd])]
    have hq := hQ m hC (by rw [e3]; exact hbm)
    by_cases he : i < W.length
    · have hg : W[i]? = some W[i] := List.getElem?_eq_getElem he
      have hx := hW _ (List.getElem_mem he)
      have ex : m r 53 i = W[i] := by rw [k53]; exact hA.at hg
      rw [List.drop_eq_getElem_cons he, rise] at hp
      have ih := ih he m (clM mi g (8 + 3 * W[i]))
      generalize W[i] = x at *
      refine s_iload_n (dc kc_X6_isWayRising 13 rfl) rfl <| r_aload_n (dc kc_X6_isWayRising 14 rfl) rfl <| s_getI (dc kc_X6_isWayRising 15 rfl) fl_X6_32 <| s_icmp_ge (tgt := 59) (dc kc_X6_isWayRising 16 rfl) rfl (fun c24 => (?_)) (fun c24 => (r_aload_n (dc kc_X6_isWayRising 17 rfl) rfl <| s_getA (dc kc_X6_isWayRising 18 rfl) fl_X6_9 hcel <| k_b (dc kc_X6_isWayRising 19 rfl) rfl <| k_i (dc kc_X6_isWayRising 20 rfl) rfl <| r_aload_n (dc kc_X6_isWayRising 21 rfl) rfl <| s_getA (dc kc_X6_isWayRising 22 rfl) fl_X6_29 (ly_50_5 hL (by assumption)) <| s_iload_n (dc kc_X6_isWayRising 23 rfl) rfl <| s_iaload (dc kc_X6_isWayRising 24 rfl) rfl (by first | omega | (simp [up] <;> omega)) (by first | omega | (simp [up] <;> omega)) <| b_imul (dc kc_X6_isWayRising 25 rfl) (by first | omega | (simp [up] <;> omega)) (by first | omega | (simp [up] <;> omega)) <| b_iadd (dc kc_X6_isWayRising 26 rfl) (by first | omega | (simp [up] <;> omega)) (by first | omega | (simp [up] <;> omega)) <| s_iaload (dc kc_X6_isWayRising 27 rfl) rfl (by first | omega | (simp [up] <;> omega)) (by first | omega | (simp [up] <;> omega)) <| t_i3 (dc kc_X6_isWayRising 28 rfl) (Nat.le_of_ble_eq_true rfl) rfl <| s_iload_n (dc kc_X6_isWayRising 29 rfl) rfl <| s_iload_n (dc kc_X6_isWayRising 30 rfl) rfl <| s_icmp_ge (tgt := 51) (dc kc_X6_isWayRising 31 rfl) rfl (fun c46 => (s_iload_n (dc kc_X6_isWayRising 34 rfl) rfl <| t_i1 (dc kc_X6_isWayRising 35 rfl) (Nat.le_of_ble_eq_true rfl) rfl <| b_inc2 (dc kc_X6_isWayRising 36 rfl) rfl (Nat.le_of_ble_eq_true rfl) rfl (by first | omega | (simp [up] <;> omega)) (by first | omega | (simp [up] <;> omega)) <| s_goto (tgt := 19) (dc kc_X6_isWayRising 37 rfl) rfl <| ?_)) (fun c46 => (k_i (dc kc_X6_isWayRising 32 rfl) rfl <| s_zreturn (dc kc_X6_isWayRising 33 rfl) rfl (by first | exact Or.inl rfl | exact Or.inr rfl | exact bi_01 | assumption) (Nat.zero_le _) (Nat.zero_le _) ?_))))
      · exfalso; omega
      · rw [ex, k16] at c46
        rw [ex, k16]
        refine ih _ hC e3 ?_
        rw [← hp]
        have : decide (p ≤ clM mi g (8 + 3 * x)) = true := by simp; exact c46
        rw [this, Bool.true_and]
      · rw [ex, k16] at c46
        have : decide (p ≤ clM mi g (8 + 3 * x)) = false := by
          simp
          show mi g 63 (8 + 3 * x) < p
          omega
        rw [this, Bool.false_and] at hp
        rw [← hp] at hq
        rw [bi_f (by decide)] at hq
        exact hq
    · refine s_iload_n (dc kc_X6_isWayRising 13 rfl) rfl <| r_aload_n (dc kc_X6_isWayRising 14 rfl) rfl <| s_getI (dc kc_X6_isWayRising 15 rfl) fl_X6_32 <| s_icmp_ge (tgt := 59) (dc kc_X6_isWayRising 16 rfl) rfl (fun c24 => (k_i (dc kc_X6_isWayRising 38 rfl) rfl <| s_zreturn (dc kc_X6_isWayRising 39 rfl) rfl (by first | exact Or.inl rfl | exact Or.inr rfl | exact bi_01 | assumption) (Nat.zero_le _) (Nat.zero_le _) ?_)) (fun c24 => (?_))
      · rw [List.drop_of_length_le (by omega), rise] at hp
        rw [← hp, bi_t rfl] at hq
        exact hq
      · exfalso; omega
  refine r_aload_n (dc kc_X6_isWayRising 0 rfl) rfl <| s_dup (dc kc_X6_isWayRising 1 rfl) rfl <| s_getI (dc kc_X6_isWayRising 2 rfl) fl_X6_22 <| r_aload_n (dc kc_X6_isWayRising 3 rfl) rfl <| s_getI (dc kc_X6_isWayRising 4 rfl) fl_X6_35 <| k_i (dc kc_X6_isWayRising 5 rfl) rfl <| s_ishl (dc kc_X6_isWayRising 6 rfl) <| s_ior (dc kc_X6_isWayRising 7 rfl) <| s_putI (dc kc_X6_isWayRising 8 rfl) fl_X6_22 <| k_i (dc kc_X6_isWayRising 9 rfl) rfl <| t_i1 (dc kc_X6_isWayRising 10 rfl) (Nat.le_of_ble_eq_true rfl) rfl <| k_i (dc kc_X6_isWayRising 11 rfl) rfl <| t_i2 (dc kc_X6_isWayRising 12 rfl) (Nat.le_of_ble_eq_true rfl) rfl <| ?_
  exact loop 0 (Nat.zero_le _) _ 0 _ (Cg.rf.up (by simp [pRd])) up_at rfl
end RM62
section RM63
variable {d n G : Nat} {mr : MR} {Q : V → MI → Nat → MR → Prop}
theorem mu_apply (hL : Lay G mr) {mi : MI} {r g : Nat} (hr : r < 5) (hcel : mr r 50 0 = some (g, 63)) (hc : VC (clM mi g)) {t a f l k : Int} {x : Nat} {ts ts' : List Nat} {st rd : List Int} (hty : ty1 t a ts = some ts') (hT : Tys ts st) (ht : mi r 50 2 = st.length) (h59 : st.length < 60) (hA : Arr (mi r 52) st.reverse) (hB : Bm (mi r 50 3) rd) (hsab : sab ts st ≤ 1000000) (hQ : ∀ mi' st' rd', Cg (pQ r) mi mi' → mi' r 50 2 = (st'.length : Int) → Arr (mi' r 52) st'.reverse → Bm (mi' r 50 3) rd' → Tys ts' st' → sab ts' st' ≤ sab ts st + 99 → st'.length ≤ st.length + 1 → ((ev1 (clM mi g) t a st rd = some (st', rd') ∧ mi' r 50 4 = mi r 50 4) ∨ (ev1 (clM mi g) t a st rd = none ∧ mi' r 50 4 = 1)) → Run (d+3) mt_X6_run Q (n, mr, 0, 0) mi' 845 [vR (some (r, 50)), vR (some (x, 20)), vI f, vI l, vR (some (x, 21)), vI k, vI a] []) : Run (d+3) mt_X6_run Q (n, mr, 0, 0) mi 46 [vR (some (r, 50)), vR (some (x, 20)), vI f, vI l, vR (some (x, 21)), vI k, vI a] [vI t] := by
  have hok : okI G 50 r := hr
  -- a value is pushed
  have fin : ∀ (m m1 : MI) (v : Int) (st0 rd' : List Int), Cg (pQ r) mi m → Bm (m r 50 3) rd' → m r 50 4 = mi r 50 4 → st0.length ≤ st.length → ev1 (clM mi g) t a st rd = some (v :: st0, rd') → Cg (fun g j k => g == r && (j == 52 || (j == 50 && k == 2))) m m1 → m1 r 50 2 = ((v :: st0).length : Int) → Arr (m1 r 52) (v :: st0).reverse → Run (d+3) mt_X6_run Q (n, mr, 0, 0) m1 845 [vR (some (r, 50)), vR (some (x, 20)), vI f, vI l, vR (some (x, 21)), vI k, vI a] [] := by
    intro m m1 v st0 rd' hC hB' h4 hl he g1 e1 a1
    have hfit := ev1_ty' hc hty hT he
    refine hQ m1 (v :: st0) rd' (hC.tr (g1.mono (fun _ _ _ z => by simp [pQ, pV, pRd] at z ⊢; omega))) e1 a1 (by rw [g1.at (by simp)]; exact hB') hfit.1 hfit.2 (by rw [List.length_cons]; omega) (Or.inl ⟨he, by rw [g1.at (by simp), h4]⟩)
  rcases ty1_cs hty with rfl | rfl | rfl | rfl | rfl | rfl | rfl | rfl | rfl | rfl | rfl | rfl | rfl | rfl | rfl | rfl | rfl | rfl | rfl | rfl | rfl | rfl | rfl
  · refine s_tabC (k0 := 22) (tgt := 440) (dc kc_X6_run_0 26 rfl) ?_ rfl rfl rfl <| r_aload_n (dc kc_X6_run_0 27 rfl) rfl <| s_iload (dc kc_X6_run_0 28 rfl) rfl <| c_v1 (dc kc_X6_run_0 29 rfl) cl_X6_63 rfl (Nat.le_of_ble_eq_true rfl) (Nat.zero_le _) (Nat.zero_le _) ?_
    · rfl
    · refine u_push hL hr ht h59 hA (fun m1 g1 e1 a1 => ?_)
      refine s_goto (tgt := 845) (dc kc_X6_run_0 30 rfl) rfl <| ?_
      exact fin mi m1 _ st rd Cg.rf hB rfl (Nat.le_refl _) ev1_22 g1 e1 a1
  · refine s_tabC (k0 := 13) (tgt := 449) (dc kc_X6_run_0 26 rfl) ?_ rfl rfl rfl <| r_aload_n (dc kc_X6_run_0 31 rfl) rfl <| s_iload (dc kc_X6_run_0 32 rfl) rfl <| c_v1 (dc kc_X6_run_0 33 rfl) cl_X6_63 rfl (Nat.le_of_ble_eq_true rfl) (Nat.zero_le _) (Nat.zero_le _) ?_
    · rfl
    · refine u_push hL hr ht h59 hA (fun m1 g1 e1 a1 => ?_)
      refine s_goto (tgt := 845) (dc kc_X6_run_0 34 rfl) rfl <| ?_
      exact fin mi m1 _ st rd Cg.rf hB rfl (Nat.le_refl _) ev1_13 g1 e1 a1
  · refine s_tabC (k0 := 14) (tgt := 458) (dc kc_X6_run_0 26 rfl) ?_ rfl rfl rfl <| r_aload_n (dc kc_X6_run_0 35 rfl) rfl <| k_i (dc kc_X6_run_0 36 rfl) rfl <| c_v1 (dc kc_X6_run_0 37 rfl) cl_X6_63 rfl (Nat.le_of_ble_eq_true rfl) (Nat.zero_le _) (Nat.zero_le _) ?_
    · rfl
    · refine u_push hL hr ht h59 hA (fun m1 g1 e1 a1 => ?_)
      refine s_goto (tgt := 845) (dc kc_X6_run_0 38 rfl) rfl <| ?_
      exact fin mi m1 _ st rd Cg.rf hB rfl (Nat.le_refl _) ev1_14 g1 e1 a1
  · obtain ⟨h1, -⟩ := tyL_of hty
    refine s_tabC (k0 := 8) (tgt := 466) (dc kc_X6_run_0 26 rfl) ?_ rfl rfl rfl <| r_aload_n (dc kc_X6_run_0 39 rfl) rfl <| r_aload_n (dc kc_X6_run_1 0 rfl) rfl <| s_iload (dc kc_X6_run_1 1 rfl) rfl <| c_v1r (dc kc_X6_run_1 2 rfl) cl_X6_66 rfl (Nat.le_of_ble_eq_true rfl) (Nat.zero_le _) (Nat.zero_le _) ?_
    · rfl
    · refine mu_look hL hcel (by omega) (by omega) ?_
      refine c_v1 (dc kc_X6_run_1 3 rfl) cl_X6_63 rfl (Nat.le_of_ble_eq_true rfl) (Nat.zero_le _) (Nat.zero_le _) ?_
      refine u_push hL hr (st := st) (by rw [up_k (by decide), ht]) h59 (by rw [up_j (by decide)]; exact hA) (fun m1 g1 e1 a1 => ?_)
      refine s_goto (tgt := 845) (dc kc_X6_run_1 4 rfl) rfl <| ?_
      exact fin _ m1 _ st _ (Cg.rf.up (by simp [pQ])) (by rw [up_at]; exact hB.set (by omega) (by omega)) (by rw [up_k (by decide)]) (Nat.le_refl _) ev1_8 g1 e1 a1
  · obtain ⟨h1, -⟩ := tyL_of hty
    refine s_tabC (k0 := 9) (tgt := 479) (dc kc_X6_run_0 26 rfl) ?_ rfl rfl rfl <| r_aload_n (dc kc_X6_run_1 5 rfl) rfl <| r_aload_n (dc kc_X6_run_1 6 rfl) rfl <| k_i (dc kc_X6_run_1 7 rfl) rfl <| s_iload (dc kc_X6_run_1 8 rfl) rfl <| b_iadd (dc kc_X6_run_1 9 rfl) (by first | omega | (simp [up] <;> omega)) (by first | omega | (simp [up] <;> omega)) <| c_v1r (dc kc_X6_run_1 10 rfl) cl_X6_66 rfl (Nat.le_of_ble_eq_true rfl) (Nat.zero_le _) (Nat.zero_le _) ?_
    · rfl
    · refine mu_look hL hcel (by omega) (by omega) ?_
      refine c_v1 (dc kc_X6_run_1 11 rfl) cl_X6_63 rfl (Nat.le_of_ble_eq_true rfl) (Nat.zero_le _) (Nat.zero_le _) ?_
      refine u_push hL hr (st := st) (by rw [up_k (by decide), ht]) h59 (by rw [up_j (by decide)]; exact hA) (fun m1 g1 e1 a1 => ?_)
      refine s_goto (tgt := 845) (dc kc_X6_run_1 12 rfl) rfl <| ?_
      exact fin _ m1 _ st _ (Cg.rf.up (by simp [pQ])) (by rw [up_at]; exact hB.set (by omega) (by omega)) (by rw [up_k (by decide)]) (Nat.le_refl _) ev1_9 g1 e1 a1
  · obtain ⟨r2, e2, e3⟩ := tyU_of (x := 0) (y := 0) hty
    subst e2
    subst e3
    obtain ⟨v, vs, e4, hv, hvs⟩ := hT.cons
    subst e4
    have hv := hv.1 rfl
    rw [List.length_cons] at h59
    refine s_tabC (k0 := 10) (tgt := 494) (dc kc_X6_run_0 26 rfl) ?_ rfl rfl rfl <| r_aload_n (dc kc_X6_run_1 13 rfl) rfl <| r_aload_n (dc kc_X6_run_1 14 rfl) rfl <| r_aload_n (dc kc_X6_run_1 15 rfl) rfl <| c_v0r (dc kc_X6_run_1 16 rfl) cl_X6_70 rfl (Nat.le_of_ble_eq_true rfl) (Nat.zero_le _) (Nat.zero_le _) ?_
    · rfl
    · refine u_pop hL hr ht (by omega) hA (fun m1 g1 e1 a1 => ?_)
      have k3 : m1 r 50 3 = mi r 50 3 := g1.at (by simp)
      have k4 : m1 r 50 4 = mi r 50 4 := g1.at (by simp)
      have k16 : ∀ x, m1 g 63 x = mi g 63 x := fun x => g1.at (by simp)
      refine k_b (dc kc_X6_run_1 17 rfl) rfl <| c_v2r (dc kc_X6_run_1 18 rfl) cl_X6_74 rfl (Nat.le_of_ble_eq_true rfl) (Nat.zero_le _) (Nat.zero_le _) ?_
      refine mu_lookAt hL hcel (by decide) (fun hn => ?_) (fun h0 h6 => ?_)
      · refine c_v1 (dc kc_X6_run_1 19 rfl) cl_X6_63 rfl (Nat.le_of_ble_eq_true rfl) (Nat.zero_le _) (Nat.zero_le _) ?_
        refine u_push hL hr (st := vs) (by rw [up_k (by decide), e1]) (by omega) (by rw [up_j (by decide)]; exact a1) (fun m2 g2 e2 a2 => ?_)
        refine s_goto (tgt := 845) (dc kc_X6_run_1 20 rfl) rfl <| ?_
        refine hQ m2 (-1 :: vs) rd (((g1.mono (fun _ _ _ z => by simp [pQ, pV, pRd] at z ⊢; omega)).up (by simp [pQ])).tr (g2.mono (fun _ _ _ z => by simp [pQ, pV, pRd] at z ⊢; omega))) e2 a2 (by rw [g2.at (by simp), up_k (by decide), k3]; exact hB) ⟨tyV0 (by decide), hvs⟩ ?_ (by simp only [List.length_cons]; omega) (Or.inr ⟨?_, by rw [g2.at (by simp), up_at]⟩)
        · rw [sab, sab, if_neg (by decide), if_neg (by decide)]; omega
        · rw [show v = -1 by omega]; rfl
      · rw [k16]
        refine c_v1 (dc kc_X6_run_1 19 rfl) cl_X6_63 rfl (Nat.le_of_ble_eq_true rfl) (Nat.zero_le _) (Nat.zero_le _) ?_
        refine u_push hL hr (st := vs) (by rw [up_k (by decide), e1]) (by omega) (by rw [up_j (by decide)]; exact a1) (fun m2 g2 e2 a2 => ?_)
        refine s_goto (tgt := 845) (dc kc_X6_run_1 20 rfl) rfl <| ?_
        exact fin _ m2 _ vs _ ((g1.mono (fun _ _ _ z => by simp [pQ, pV, pRd] at z ⊢; omega)).up (by simp [pQ])) (by rw [up_at, k3]; exact hB.set (by omega) (by omega)) (by rw [up_k (by decide), k4]) (by rw [List.length_cons]; omega) (cel1_c (by omega)) g2 e2 a2
  · obtain ⟨r2, e2, e3⟩ := tyU_of (x := 0) (y := 0) hty
    subst e2
    subst e3
    obtain ⟨v, vs, e4, hv, hvs⟩ := hT.cons
    subst e4
    have hv := hv.1 rfl
    rw [List.length_cons] at h59
    refine s_tabC (k0 := 11) (tgt := 511) (dc kc_X6_run_0 26 rfl) ?_ rfl rfl rfl <| r_aload_n (dc kc_X6_run_1 21 rfl) rfl <| r_aload_n (dc kc_X6_run_1 22 rfl) rfl <| r_aload_n (dc kc_X6_run_1 23 rfl) rfl <| c_v0r (dc kc_X6_run_1 24 rfl) cl_X6_70 rfl (Nat.le_of_ble_eq_true rfl) (Nat.zero_le _) (Nat.zero_le _) ?_
    · rfl
    · refine u_pop hL hr ht (by omega) hA (fun m1 g1 e1 a1 => ?_)
      have k3 : m1 r 50 3 = mi r 50 3 := g1.at (by simp)
      have k4 : m1 r 50 4 = mi r 50 4 := g1.at (by simp)
      have k16 : ∀ x, m1 g 63 x = mi g 63 x := fun x => g1.at (by simp)
      refine k_b (dc kc_X6_run_1 25 rfl) rfl <| c_v2r (dc kc_X6_run_1 26 rfl) cl_X6_74 rfl (Nat.le_of_ble_eq_true rfl) (Nat.zero_le _) (Nat.zero_le _) ?_
      refine mu_lookAt hL hcel (by decide) (fun hn => ?_) (fun h0 h6 => ?_)
      · refine c_v1 (dc kc_X6_run_1 27 rfl) cl_X6_63 rfl (Nat.le_of_ble_eq_true rfl) (Nat.zero_le _) (Nat.zero_le _) ?_
        refine u_push hL hr (st := vs) (by rw [up_k (by decide), e1]) (by omega) (by rw [up_j (by decide)]; exact a1) (fun m2 g2 e2 a2 => ?_)
        refine s_goto (tgt := 845) (dc kc_X6_run_1 28 rfl) rfl <| ?_
        refine hQ m2 (-1 :: vs) rd (((g1.mono (fun _ _ _ z => by simp [pQ, pV, pRd] at z ⊢; omega)).up (by simp [pQ])).tr (g2.mono (fun _ _ _ z => by simp [pQ, pV, pRd] at z ⊢; omega))) e2 a2 (by rw [g2.at (by simp), up_k (by decide), k3]; exact hB) ⟨tyV0 (by decide), hvs⟩ ?_ (by simp only [List.length_cons]; omega) (Or.inr ⟨?_, by rw [g2.at (by simp), up_at]⟩)
        · rw [sab, sab, if_neg (by decide), if_neg (by decide)]; omega
        · rw [show v = -1 by omega]; rfl
      · rw [k16]
        refine c_v1 (dc kc_X6_run_1 27 rfl) cl_X6_63 rfl (Nat.le_of_ble_eq_true rfl) (Nat.zero_le _) (Nat.zero_le _) ?_
        refine u_push hL hr (st := vs) (by rw [up_k (by decide), e1]) (by omega) (by rw [up_j (by decide)]; exact a1) (fun m2 g2 e2 a2 => ?_)
        refine s_goto (tgt := 845) (dc kc_X6_run_1 28 rfl) rfl <| ?_
        exact fin _ m2 _ vs _ ((g1.mono (fun _ _ _ z => by simp [pQ, pV, pRd] at z ⊢; omega)).up (by simp [pQ])) (by rw [up_at, k3]; exact hB.set (by omega) (by omega)) (by rw [up_k (by decide), k4]) (by rw [List.length_cons]; omega) (cel1_c (by omega)) g2 e2 a2
  · obtain ⟨r2, e2, e3⟩ := tyU_of (x := 0) (y := 1) hty
    subst e2
    subst e3
    obtain ⟨v, vs, e4, hv, hvs⟩ := hT.cons
    subst e4
    have hv := hv.1 rfl
    rw [List.length_cons] at h59
    refine s_tabC (k0 := 12) (tgt := 528) (dc kc_X6_run_0 26 rfl) ?_ rfl rfl rfl <| r_aload_n (dc kc_X6_run_1 29 rfl) rfl <| r_aload_n (dc kc_X6_run_1 30 rfl) rfl <| r_aload_n (dc kc_X6_run_1 31 rfl) rfl <| c_v0r (dc kc_X6_run_1 32 rfl) cl_X6_70 rfl (Nat.le_of_ble_eq_true rfl) (Nat.zero_le _) (Nat.zero_le _) ?_
    · rfl
    · refine u_pop hL hr ht (by omega) hA (fun m1 g1 e1 a1 => ?_)
      have k3 : m1 r 50 3 = mi r 50 3 := g1.at (by simp)
      have k4 : m1 r 50 4 = mi r 50 4 := g1.at (by simp)
      have k16 : ∀ x, m1 g 63 x = mi g 63 x := fun x => g1.at (by simp)
      refine k_b (dc kc_X6_run_1 33 rfl) rfl <| c_v2r (dc kc_X6_run_1 34 rfl) cl_X6_74 rfl (Nat.le_of_ble_eq_true rfl) (Nat.zero_le _) (Nat.zero_le _) ?_
      refine mu_lookAt hL hcel (by decide) (fun hn => ?_) (fun h0 h6 => ?_)
      · refine c_v1 (dc kc_X6_run_1 35 rfl) cl_X6_63 rfl (Nat.le_of_ble_eq_true rfl) (Nat.zero_le _) (Nat.zero_le _) ?_
        refine u_push hL hr (st := vs) (by rw [up_k (by decide), e1]) (by omega) (by rw [up_j (by decide)]; exact a1) (fun m2 g2 e2 a2 => ?_)
        refine s_goto (tgt := 845) (dc kc_X6_run_1 36 rfl) rfl <| ?_
        refine hQ m2 (-1 :: vs) rd (((g1.mono (fun _ _ _ z => by simp [pQ, pV, pRd] at z ⊢; omega)).up (by simp [pQ])).tr (g2.mono (fun _ _ _ z => by simp [pQ, pV, pRd] at z ⊢; omega))) e2 a2 (by rw [g2.at (by simp), up_k (by decide), k3]; exact hB) ⟨tyV1, hvs⟩ ?_ (by simp only [List.length_cons]; omega) (Or.inr ⟨?_, by rw [g2.at (by simp), up_at]⟩)
        · rw [sab, sab, if_pos rfl, if_neg (by decide)]; omega
        · rw [show v = -1 by omega]; rfl
      · rw [k16]
        refine c_v1 (dc kc_X6_run_1 35 rfl) cl_X6_63 rfl (Nat.le_of_ble_eq_true rfl) (Nat.zero_le _) (Nat.zero_le _) ?_
        refine u_push hL hr (st := vs) (by rw [up_k (by decide), e1]) (by omega) (by rw [up_j (by decide)]; exact a1) (fun m2 g2 e2 a2 => ?_)
        refine s_goto (tgt := 845) (dc kc_X6_run_1 36 rfl) rfl <| ?_
        exact fin _ m2 _ vs _ ((g1.mono (fun _ _ _ z => by simp [pQ, pV, pRd] at z ⊢; omega)).up (by simp [pQ])) (by rw [up_at, k3]; exact hB.set (by omega) (by omega)) (by rw [up_k (by decide), k4]) (by rw [List.length_cons]; omega) (cel1_c (by omega)) g2 e2 a2
  · obtain ⟨h1, -⟩ := tyL_of hty
    refine s_tabC (k0 := 19) (tgt := 545) (dc kc_X6_run_0 26 rfl) ?_ rfl rfl rfl <| r_aload_n (dc kc_X6_run_1 37 rfl) rfl <| s_iload (dc kc_X6_run_1 38 rfl) rfl <| c_v1 (dc kc_X6_run_1 39 rfl) cl_X6_56 rfl (Nat.le_of_ble_eq_true rfl) (Nat.zero_le _) (Nat.zero_le _) ?_
    · rfl
    · refine mu_follow hL hr hcel hc h1.1 (by omega) hB (fun m1 g1 e6 e7 e8 hAw hBw => ?_)
      have k2 : m1 r 50 2 = st.length := by rw [g1.at (by simp [pV]), ht]
      have k4 : m1 r 50 4 = mi r 50 4 := g1.at (by simp [pV])
      have k52 : m1 r 52 = mi r 52 := g1.row (fun k => by simp [pV])
      have gc : Cg (pQ r) mi m1 := g1.mono (fun _ _ _ z => by simp [pQ, pV, pRd] at z ⊢; omega)
      have ecl : clM m1 g = clM mi g := by unfold clM; rw [g1.row (fun k => by simp [pV])]
      have hwr := way_rg hc h1.1 (by omega : a < 3)
      have hwl := way_len (clM mi g) a
      refine r_aload_n (dc kc_X6_run_2 0 rfl) rfl <| r_aload_n (dc kc_X6_run_2 1 rfl) rfl <| s_getI (dc kc_X6_run_2 2 rfl) fl_X6_32 <| c_v1 (dc kc_X6_run_2 3 rfl) cl_X6_63 rfl (Nat.le_of_ble_eq_true rfl) (Nat.zero_le _) (Nat.zero_le _) ?_
      refine u_push hL hr (st := st) k2 h59 (by rw [k52]; exact hA) (fun m2 g2 e2 a2 => ?_)
      rw [e6] at e2 a2
      refine s_goto (tgt := 845) (dc kc_X6_run_2 4 rfl) rfl <| ?_
      exact fin m1 m2 _ st _ gc hBw k4 (Nat.le_refl _) ev1_19 g2 e2 a2
  · obtain ⟨h1, -⟩ := tyL_of hty
    refine s_tabC (k0 := 20) (tgt := 562) (dc kc_X6_run_0 26 rfl) ?_ rfl rfl rfl <| r_aload_n (dc kc_X6_run_2 5 rfl) rfl <| s_iload (dc kc_X6_run_2 6 rfl) rfl <| c_v1 (dc kc_X6_run_2 7 rfl) cl_X6_56 rfl (Nat.le_of_ble_eq_true rfl) (Nat.zero_le _) (Nat.zero_le _) ?_
    · rfl
    · refine mu_follow hL hr hcel hc h1.1 (by omega) hB (fun m1 g1 e6 e7 e8 hAw hBw => ?_)
      have k2 : m1 r 50 2 = st.length := by rw [g1.at (by simp [pV]), ht]
      have k4 : m1 r 50 4 = mi r 50 4 := g1.at (by simp [pV])
      have k52 : m1 r 52 = mi r 52 := g1.row (fun k => by simp [pV])
      have gc : Cg (pQ r) mi m1 := g1.mono (fun _ _ _ z => by simp [pQ, pV, pRd] at z ⊢; omega)
      have ecl : clM m1 g = clM mi g := by unfold clM; rw [g1.row (fun k => by simp [pV])]
      have hwr := way_rg hc h1.1 (by omega : a < 3)
      have hwl := way_len (clM mi g) a
      refine r_aload_n (dc kc_X6_run_2 8 rfl) rfl <| r_aload_n (dc kc_X6_run_2 9 rfl) rfl <| c_v0r (dc kc_X6_run_2 10 rfl) cl_X6_78 rfl (Nat.le_of_ble_eq_true rfl) (Nat.zero_le _) (Nat.zero_le _) ?_
      refine mu_totalOfWay hL hr hcel (by rw [ecl]; exact hc) hwr hwl e6 e7 hAw hBw (fun m2 g2 hB2 => ?_)
      rw [ecl]
      refine c_v1 (dc kc_X6_run_2 11 rfl) cl_X6_63 rfl (Nat.le_of_ble_eq_true rfl) (Nat.zero_le _) (Nat.zero_le _) ?_
      refine u_push hL hr (st := st) (by rw [g2.at (by simp [pRd]), k2]) h59 (by rw [g2.row (fun k => by simp [pRd]), k52]; exact hA) (fun m3 g3 e3 a3 => ?_)
      refine s_goto (tgt := 845) (dc kc_X6_run_2 12 rfl) rfl <| ?_
      refine fin m2 m3 _ st _ (gc.tr (g2.mono (fun _ _ _ z => by simp [pQ, pV, pRd] at z ⊢; omega))) (hB2.mem (fun x x0 x1 => ?_)) (by rw [g2.at (by simp [pRd]), k4]) (Nat.le_refl _) ev1_20 g3 e3 a3
      unfold askW askN
      simp
      constructor
      · rintro (⟨y, p, q⟩ | h | ⟨y, p, q⟩ | h)
        · exact Or.inr (Or.inl ⟨y, p, Or.inr q.symm⟩)
        · exact Or.inl h
        · exact Or.inr (Or.inl ⟨y, p, Or.inl q⟩)
        · exact Or.inr (Or.inr h)
      · rintro (h | ⟨y, p, q | q⟩ | h)
        · exact Or.inr (Or.inl h)
        · exact Or.inr (Or.inr (Or.inl ⟨y, p, q⟩))
        · exact Or.inl ⟨y, p, q.symm⟩
        · exact Or.inr (Or.inr (Or.inr h))
  · obtain ⟨h1, -⟩ := tyL_of hty
    refine s_tabC (k0 := 0) (tgt := 579) (dc kc_X6_run_0 26 rfl) ?_ rfl rfl rfl <| r_aload_n (dc kc_X6_run_2 13 rfl) rfl <| s_iload (dc kc_X6_run_2 14 rfl) rfl <| c_v1 (dc kc_X6_run_2 15 rfl) cl_X6_56 rfl (Nat.le_of_ble_eq_true rfl) (Nat.zero_le _) (Nat.zero_le _) ?_
    · rfl
    · refine mu_follow hL hr hcel hc h1.1 (by omega) hB (fun m1 g1 e6 e7 e8 hAw hBw => ?_)
      have k2 : m1 r 50 2 = st.length := by rw [g1.at (by simp [pV]), ht]
      have k4 : m1 r 50 4 = mi r 50 4 := g1.at (by simp [pV])
      have k52 : m1 r 52 = mi r 52 := g1.row (fun k => by simp [pV])
      have gc : Cg (pQ r) mi m1 := g1.mono (fun _ _ _ z => by simp [pQ, pV, pRd] at z ⊢; omega)
      have ecl : clM m1 g = clM mi g := by unfold clM; rw [g1.row (fun k => by simp [pV])]
      have hwr := way_rg hc h1.1 (by omega : a < 3)
      have hwl := way_len (clM mi g) a
      refine r_aload_n (dc kc_X6_run_2 16 rfl) rfl <| r_aload_n (dc kc_X6_run_2 17 rfl) rfl <| s_getZ (dc kc_X6_run_2 18 rfl) fl_X6_38 <| s_if_eq (tgt := 597) (dc kc_X6_run_2 19 rfl) rfl (fun c590 => (k_i (dc kc_X6_run_2 22 rfl) rfl <| ?_)) (fun c590 => (k_i (dc kc_X6_run_2 20 rfl) rfl <| s_goto (tgt := 598) (dc kc_X6_run_2 21 rfl) rfl <| ?_))
      · refine c_v1 (dc kc_X6_run_2 23 rfl) cl_X6_63 rfl (Nat.le_of_ble_eq_true rfl) (Nat.zero_le _) (Nat.zero_le _) ?_
        refine u_push hL hr (st := st) k2 h59 (by rw [k52]; exact hA) (fun m2 g2 e2 a2 => ?_)
        refine s_goto (tgt := 845) (dc kc_X6_run_2 24 rfl) rfl <| ?_
        rw [e8] at c590
        exact fin m1 m2 _ st _ gc hBw k4 (Nat.le_refl _) (by rw [ev1_0, bi_f (bi_eq0.mp c590)]) g2 e2 a2
      · refine c_v1 (dc kc_X6_run_2 23 rfl) cl_X6_63 rfl (Nat.le_of_ble_eq_true rfl) (Nat.zero_le _) (Nat.zero_le _) ?_
        refine u_push hL hr (st := st) k2 h59 (by rw [k52]; exact hA) (fun m2 g2 e2 a2 => ?_)
        refine s_goto (tgt := 845) (dc kc_X6_run_2 24 rfl) rfl <| ?_
        rw [e8] at c590
        exact fin m1 m2 _ st _ gc hBw k4 (Nat.le_refl _) (by rw [ev1_0, bi_t (bi_ne0.mp c590)]) g2 e2 a2
  · obtain ⟨h1, -⟩ := tyL_of hty
    refine s_tabC (k0 := 1) (tgt := 604) (dc kc_X6_run_0 26 rfl) ?_ rfl rfl rfl <| r_aload_n (dc kc_X6_run_2 25 rfl) rfl <| s_iload (dc kc_X6_run_2 26 rfl) rfl <| c_v1 (dc kc_X6_run_2 27 rfl) cl_X6_56 rfl (Nat.le_of_ble_eq_true rfl) (Nat.zero_le _) (Nat.zero_le _) ?_
    · rfl
    · refine mu_follow hL hr hcel hc h1.1 (by omega) hB (fun m1 g1 e6 e7 e8 hAw hBw => ?_)
      have k2 : m1 r 50 2 = st.length := by rw [g1.at (by simp [pV]), ht]
      have k4 : m1 r 50 4 = mi r 50 4 := g1.at (by simp [pV])
      have k52 : m1 r 52 = mi r 52 := g1.row (fun k => by simp [pV])
      have gc : Cg (pQ r) mi m1 := g1.mono (fun _ _ _ z => by simp [pQ, pV, pRd] at z ⊢; omega)
      have ecl : clM m1 g = clM mi g := by unfold clM; rw [g1.row (fun k => by simp [pV])]
      have hwr := way_rg hc h1.1 (by omega : a < 3)
      have hwl := way_len (clM mi g) a
      refine r_aload_n (dc kc_X6_run_2 28 rfl) rfl <| r_aload_n (dc kc_X6_run_2 29 rfl) rfl <| c_v0r (dc kc_X6_run_2 30 rfl) cl_X6_81 rfl (Nat.le_of_ble_eq_true rfl) (Nat.zero_le _) (Nat.zero_le _) ?_
      refine mu_isWayTwin hL hr hcel (by rw [ecl]; exact hc) hwr hwl e6 e7 hAw hBw (fun m2 g2 hB2 => ?_)
      rw [ecl]
      have hB3 : Bm (m2 r 50 3) (askW (clM mi g) a 1 0 ++ rd) := (hB2.mem (fun x x0 x1 => by
          unfold askW askN
          simp
          constructor
          · rintro (⟨y, p, q⟩ | h | ⟨y, p, q⟩ | h)
            · exact Or.inr (Or.inl ⟨y, p, Or.inr q.symm⟩)
            · exact Or.inl h
            · exact Or.inr (Or.inl ⟨y, p, Or.inl q⟩)
            · exact Or.inr (Or.inr h)
          · rintro (h | ⟨y, p, q | q⟩ | h)
            · exact Or.inr (Or.inl h)
            · exact Or.inr (Or.inr (Or.inl ⟨y, p, q⟩))
            · exact Or.inl ⟨y, p, q.symm⟩
            · exact Or.inr (Or.inr (Or.inr h))))
      refine s_if_eq (tgt := 622) (dc kc_X6_run_2 31 rfl) rfl (fun c615 => (k_i (dc kc_X6_run_2 34 rfl) rfl <| ?_)) (fun c615 => (k_i (dc kc_X6_run_2 32 rfl) rfl <| s_goto (tgt := 623) (dc kc_X6_run_2 33 rfl) rfl <| ?_))
      · refine c_v1 (dc kc_X6_run_2 35 rfl) cl_X6_63 rfl (Nat.le_of_ble_eq_true rfl) (Nat.zero_le _) (Nat.zero_le _) ?_
        refine u_push hL hr (st := st) (by rw [g2.at (by simp [pRd]), k2]) h59 (by rw [g2.row (fun k => by simp [pRd]), k52]; exact hA) (fun m3 g3 e3 a3 => ?_)
        refine s_goto (tgt := 845) (dc kc_X6_run_2 36 rfl) rfl <| ?_
        exact fin m2 m3 _ st _ (gc.tr (g2.mono (fun _ _ _ z => by simp [pQ, pV, pRd] at z ⊢; omega))) hB3 (by rw [g2.at (by simp [pRd]), k4]) (Nat.le_refl _) (by rw [ev1_1, bi_f (bi_eq0.mp c615)]) g3 e3 a3
      · refine c_v1 (dc kc_X6_run_2 35 rfl) cl_X6_63 rfl (Nat.le_of_ble_eq_true rfl) (Nat.zero_le _) (Nat.zero_le _) ?_
        refine u_push hL hr (st := st) (by rw [g2.at (by simp [pRd]), k2]) h59 (by rw [g2.row (fun k => by simp [pRd]), k52]; exact hA) (fun m3 g3 e3 a3 => ?_)
        refine s_goto (tgt := 845) (dc kc_X6_run_2 36 rfl) rfl <| ?_
        exact fin m2 m3 _ st _ (gc.tr (g2.mono (fun _ _ _ z => by simp [pQ, pV, pRd] at z ⊢; omega))) hB3 (by rw [g2.at (by simp [pRd]), k4]) (Nat.le_refl _) (by rw [ev1_1, bi_t (bi_ne0.mp c615)]) g3 e3 a3
  · obtain ⟨h1, -⟩ := tyL_of hty
    refine s_tabC (k0 := 2) (tgt := 629) (dc kc_X6_run_0 26 rfl) ?_ rfl rfl rfl <| r_aload_n (dc kc_X6_run_2 37 rfl) rfl <| s_iload (dc kc_X6_run_2 38 rfl) rfl <| c_v1 (dc kc_X6_run_2 39 rfl) cl_X6_56 rfl (Nat.le_of_ble_eq_true rfl) (Nat.zero_le _) (Nat.zero_le _) ?_
    · rfl
    · refine mu_follow hL hr hcel hc h1.1 (by omega) hB (fun m1 g1 e6 e7 e8 hAw hBw => ?_)
      have k2 : m1 r 50 2 = st.length := by rw [g1.at (by simp [pV]), ht]
      have k4 : m1 r 50 4 = mi r 50 4 := g1.at (by simp [pV])
      have k52 : m1 r 52 = mi r 52 := g1.row (fun k => by simp [pV])
      have gc : Cg (pQ r) mi m1 := g1.mono (fun _ _ _ z => by simp [pQ, pV, pRd] at z ⊢; omega)
      have ecl : clM m1 g = clM mi g := by unfold clM; rw [g1.row (fun k => by simp [pV])]
      have hwr := way_rg hc h1.1 (by omega : a < 3)
      have hwl := way_len (clM mi g) a
      refine r_aload_n (dc kc_X6_run_3 0 rfl) rfl <| r_aload_n (dc kc_X6_run_3 1 rfl) rfl <| c_v0r (dc kc_X6_run_3 2 rfl) cl_X6_85 rfl (Nat.le_of_ble_eq_true rfl) (Nat.zero_le _) (Nat.zero_le _) ?_
      refine mu_isWayRising hL hr hcel (by rw [ecl]; exact hc) hwr hwl e6 e7 hAw hBw (fun m2 g2 hB2 => ?_)
      rw [ecl]
      have hB3 : Bm (m2 r 50 3) (askW (clM mi g) a 0 1 ++ rd) := (hB2.mem (fun x x0 x1 => by
          unfold askW askN
          simp
          constructor
          · rintro (⟨y, p, q⟩ | h | ⟨y, p, q⟩ | h)
            · exact Or.inr (Or.inl ⟨y, p, Or.inr q.symm⟩)
            · exact Or.inl h
            · exact Or.inr (Or.inl ⟨y, p, Or.inl q⟩)
            · exact Or.inr (Or.inr h)
          · rintro (h | ⟨y, p, q | q⟩ | h)
            · exact Or.inr (Or.inl h)
            · exact Or.inr (Or.inr (Or.inl ⟨y, p, q⟩))
            · exact Or.inl ⟨y, p, q.symm⟩
            · exact Or.inr (Or.inr (Or.inr h))))
      refine s_if_eq (tgt := 647) (dc kc_X6_run_3 3 rfl) rfl (fun c640 => (k_i (dc kc_X6_run_3 6 rfl) rfl <| ?_)) (fun c640 => (k_i (dc kc_X6_run_3 4 rfl) rfl <| s_goto (tgt := 648) (dc kc_X6_run_3 5 rfl) rfl <| ?_))
      · refine c_v1 (dc kc_X6_run_3 7 rfl) cl_X6_63 rfl (Nat.le_of_ble_eq_true rfl) (Nat.zero_le _) (Nat.zero_le _) ?_
        refine u_push hL hr (st := st) (by rw [g2.at (by simp [pRd]), k2]) h59 (by rw [g2.row (fun k => by simp [pRd]), k52]; exact hA) (fun m3 g3 e3 a3 => ?_)
        refine s_goto (tgt := 845) (dc kc_X6_run_3 8 rfl) rfl <| ?_
        exact fin m2 m3 _ st _ (gc.tr (g2.mono (fun _ _ _ z => by simp [pQ, pV, pRd] at z ⊢; omega))) hB3 (by rw [g2.at (by simp [pRd]), k4]) (Nat.le_refl _) (by rw [ev1_2, bi_f (bi_eq0.mp c640)]) g3 e3 a3
      · refine c_v1 (dc kc_X6_run_3 7 rfl) cl_X6_63 rfl (Nat.le_of_ble_eq_true rfl) (Nat.zero_le _) (Nat.zero_le _) ?_
        refine u_push hL hr (st := st) (by rw [g2.at (by simp [pRd]), k2]) h59 (by rw [g2.row (fun k => by simp [pRd]), k52]; exact hA) (fun m3 g3 e3 a3 => ?_)
        refine s_goto (tgt := 845) (dc kc_X6_run_3 8 rfl) rfl <| ?_
        exact fin m2 m3 _ st _ (gc.tr (g2.mono (fun _ _ _ z => by simp [pQ, pV, pRd] at z ⊢; omega))) hB3 (by rw [g2.at (by simp [pRd]), k4]) (Nat.le_refl _) (by rw [ev1_2, bi_t (bi_ne0.mp c640)]) g3 e3 a3
  · obtain ⟨h1, -⟩ := tyL_of hty
    refine s_tabC (k0 := 25) (tgt := 654) (dc kc_X6_run_0 26 rfl) ?_ rfl rfl rfl <| r_aload_n (dc kc_X6_run_3 9 rfl) rfl <| s_iload (dc kc_X6_run_3 10 rfl) rfl <| c_v1 (dc kc_X6_run_3 11 rfl) cl_X6_56 rfl (Nat.le_of_ble_eq_true rfl) (Nat.zero_le _) (Nat.zero_le _) ?_
    · rfl
    · refine mu_follow hL hr hcel hc h1.1 (by omega) hB (fun m1 g1 e6 e7 e8 hAw hBw => ?_)
      have k2 : m1 r 50 2 = st.length := by rw [g1.at (by simp [pV]), ht]
      have k4 : m1 r 50 4 = mi r 50 4 := g1.at (by simp [pV])
      have k52 : m1 r 52 = mi r 52 := g1.row (fun k => by simp [pV])
      have gc : Cg (pQ r) mi m1 := g1.mono (fun _ _ _ z => by simp [pQ, pV, pRd] at z ⊢; omega)
      have ecl : clM m1 g = clM mi g := by unfold clM; rw [g1.row (fun k => by simp [pV])]
      have hwr := way_rg hc h1.1 (by omega : a < 3)
      have hwl := way_len (clM mi g) a
      refine r_aload_n (dc kc_X6_run_3 12 rfl) rfl <| r_aload_n (dc kc_X6_run_3 13 rfl) rfl <| s_getI (dc kc_X6_run_3 14 rfl) fl_X6_35 <| c_v1 (dc kc_X6_run_3 15 rfl) cl_X6_63 rfl (Nat.le_of_ble_eq_true rfl) (Nat.zero_le _) (Nat.zero_le _) ?_
      refine u_push hL hr (st := st) k2 h59 (by rw [k52]; exact hA) (fun m2 g2 e2 a2 => ?_)
      rw [e7] at e2 a2
      refine s_goto (tgt := 845) (dc kc_X6_run_3 16 rfl) rfl <| ?_
      exact fin m1 m2 _ st _ gc hBw k4 (Nat.le_refl _) ev1_25 g2 e2 a2
  · obtain ⟨h1, r2, e2, e3⟩ : (0 ≤ a ∧ a ≤ 2) ∧ ∃ r2, ts = 3 :: r2 ∧ ts' = 2 :: r2 := by
      cases h2 : tyL 2 a 2 ts with
      | none => rw [show ty1 3 a ts = (tyL 2 a 2 ts).bind fun _ => tyU 3 2 ts from rfl, h2] at hty; cases hty
      | some z =>
        rw [show ty1 3 a ts = (tyL 2 a 2 ts).bind fun _ => tyU 3 2 ts from rfl, h2] at hty
        exact ⟨(tyL_of h2).1, tyU_of (show tyU 3 2 ts = some ts' from hty)⟩
    subst e2
    subst e3
    obtain ⟨v, vs, e4, hv, hvs⟩ := hT.cons
    subst e4
    rw [List.length_cons] at h59
    refine s_tabC (k0 := 3) (tgt := 671) (dc kc_X6_run_0 26 rfl) ?_ rfl rfl rfl <| r_aload_n (dc kc_X6_run_3 17 rfl) rfl <| s_iload (dc kc_X6_run_3 18 rfl) rfl <| c_v1 (dc kc_X6_run_3 19 rfl) cl_X6_56 rfl (Nat.le_of_ble_eq_true rfl) (Nat.zero_le _) (Nat.zero_le _) ?_
    · rfl
    · refine mu_follow hL hr hcel hc h1.1 (by omega) hB (fun m1 g1 e6 e7 e8 hAw hBw => ?_)
      have k2 : m1 r 50 2 = ((v :: vs).length : Int) := by rw [g1.at (by simp [pV]), ht]
      have k4 : m1 r 50 4 = mi r 50 4 := g1.at (by simp [pV])
      have k52 : m1 r 52 = mi r 52 := g1.row (fun k => by simp [pV])
      have gc : Cg (pQ r) mi m1 := g1.mono (fun _ _ _ z => by simp [pQ, pV, pRd] at z ⊢; omega)
      refine r_aload_n (dc kc_X6_run_3 20 rfl) rfl <| r_aload_n (dc kc_X6_run_3 21 rfl) rfl <| c_v0r (dc kc_X6_run_3 22 rfl) cl_X6_70 rfl (Nat.le_of_ble_eq_true rfl) (Nat.zero_le _) (Nat.zero_le _) ?_
      refine u_pop hL hr k2 (by omega) (by rw [k52]; exact hA) (fun m2 g2 e2 a2 => ?_)
      have e72 : m2 r 50 7 = msk (way (clM mi g) a) := by rw [g2.at (by simp), e7]
      refine r_aload_n (dc kc_X6_run_3 23 rfl) rfl <| s_getI (dc kc_X6_run_3 24 rfl) fl_X6_35 <| s_iand (dc kc_X6_run_3 25 rfl) <| s_if_ne (tgt := 694) (dc kc_X6_run_3 26 rfl) rfl (fun c687 => (k_i (dc kc_X6_run_3 29 rfl) rfl <| ?_)) (fun c687 => (k_i (dc kc_X6_run_3 27 rfl) rfl <| s_goto (tgt := 695) (dc kc_X6_run_3 28 rfl) rfl <| ?_))
      · rw [e72] at c687
        refine c_v1 (dc kc_X6_run_3 30 rfl) cl_X6_63 rfl (Nat.le_of_ble_eq_true rfl) (Nat.zero_le _) (Nat.zero_le _) ?_
        refine u_push hL hr (st := vs) e2 (by omega) a2 (fun m3 g3 e3 a3 => ?_)
        refine s_goto (tgt := 845) (dc kc_X6_run_3 31 rfl) rfl <| ?_
        exact fin m2 m3 _ vs _ (gc.tr (g2.mono (fun _ _ _ z => by simp [pQ, pV, pRd] at z ⊢; omega))) (by rw [g2.at (by simp)]; exact hBw) (by rw [g2.at (by simp), k4]) (by rw [List.length_cons]; omega) (by rw [ev1_3, bi_f c687]) g3 e3 a3
      · rw [e72] at c687
        refine c_v1 (dc kc_X6_run_3 30 rfl) cl_X6_63 rfl (Nat.le_of_ble_eq_true rfl) (Nat.zero_le _) (Nat.zero_le _) ?_
        refine u_push hL hr (st := vs) e2 (by omega) a2 (fun m3 g3 e3 a3 => ?_)
        refine s_goto (tgt := 845) (dc kc_X6_run_3 31 rfl) rfl <| ?_
        exact fin m2 m3 _ vs _ (gc.tr (g2.mono (fun _ _ _ z => by simp [pQ, pV, pRd] at z ⊢; omega))) (by rw [g2.at (by simp)]; exact hBw) (by rw [g2.at (by simp), k4]) (by rw [List.length_cons]; omega) (by rw [ev1_3, bi_t c687]) g3 e3 a3
  · obtain ⟨r2, e2, e3⟩ := tyU_of (x := 2) (y := 2) hty
    subst e2
    subst e3
    obtain ⟨v, vs, e4, hv, hvs⟩ := hT.cons
    subst e4
    have hv := hv.2 rfl
    rw [List.length_cons] at h59
    refine s_tabC (k0 := 18) (tgt := 701) (dc kc_X6_run_0 26 rfl) ?_ rfl rfl rfl <| r_aload_n (dc kc_X6_run_3 32 rfl) rfl <| k_i (dc kc_X6_run_3 33 rfl) rfl <| r_aload_n (dc kc_X6_run_3 34 rfl) rfl <| c_v0r (dc kc_X6_run_3 35 rfl) cl_X6_70 rfl (Nat.le_of_ble_eq_true rfl) (Nat.zero_le _) (Nat.zero_le _) ?_
    · rfl
    · refine u_pop hL hr ht (by omega) hA (fun m1 g1 e1 a1 => ?_)
      refine b_isub (dc kc_X6_run_3 36 rfl) (by first | omega | (simp [up] <;> omega)) (by first | omega | (simp [up] <;> omega)) <| c_v1 (dc kc_X6_run_3 37 rfl) cl_X6_63 rfl (Nat.le_of_ble_eq_true rfl) (Nat.zero_le _) (Nat.zero_le _) ?_
      refine u_push hL hr (st := vs) e1 (by omega) a1 (fun m2 g2 e2 a2 => ?_)
      refine s_goto (tgt := 845) (dc kc_X6_run_3 38 rfl) rfl <| ?_
      exact fin m1 m2 _ vs _ (g1.mono (fun _ _ _ z => by simp [pQ, pV, pRd] at z ⊢; omega)) (by rw [g1.at (by simp)]; exact hB) (g1.at (by simp)) (by rw [List.length_cons]; omega) ev1_18 g2 e2 a2
  · obtain ⟨r2, e2, e3⟩ := tyD_of (x := 1) (y := 1) hty
    subst e2
    subst e3
    obtain ⟨v, vs, e4, hv, hvs⟩ := hT.cons
    subst e4
    obtain ⟨u, us, e5, hu, hus⟩ := hvs.cons
    subst e5
    have hnn := sab_nn r2 us
    have hsb := hsab
    rw [sab, sab] at hsb
    try simp only [if_true, ↓reduceIte] at hsb
    have bu : -2000000 ≤ u ∧ u ≤ 2000000 := by first | (have := hu.2 rfl; omega) | omega
    have bv : -2000000 ≤ v ∧ v ≤ 2000000 := by first | (have := hv.2 rfl; omega) | omega
    rw [List.length_cons, List.length_cons] at h59
    refine s_tabC (k0 := 75) (tgt := 714) (dc kc_X6_run_0 26 rfl) ?_ rfl rfl rfl <| r_aload_n (dc kc_X6_run_3 39 rfl) rfl <| r_aload_n (dc kc_X6_run_4 0 rfl) rfl <| c_v0r (dc kc_X6_run_4 1 rfl) cl_X6_70 rfl (Nat.le_of_ble_eq_true rfl) (Nat.zero_le _) (Nat.zero_le _) ?_
    · rfl
    · refine u_pop hL hr ht (by rw [List.length_cons]; omega) hA (fun m1 g1 e1 a1 => ?_)
      refine r_aload_n (dc kc_X6_run_4 2 rfl) rfl <| c_v0r (dc kc_X6_run_4 3 rfl) cl_X6_70 rfl (Nat.le_of_ble_eq_true rfl) (Nat.zero_le _) (Nat.zero_le _) ?_
      refine u_pop hL hr e1 (by omega) a1 (fun m2 g2 e2 a2 => ?_)
      refine b_iadd (dc kc_X6_run_4 4 rfl) (by first | omega | (simp [up] <;> omega)) (by first | omega | (simp [up] <;> omega)) <| c_v1 (dc kc_X6_run_4 5 rfl) cl_X6_63 rfl (Nat.le_of_ble_eq_true rfl) (Nat.zero_le _) (Nat.zero_le _) ?_
      refine u_push hL hr (st := us) e2 (by omega) a2 (fun m3 g3 e3 a3 => ?_)
      refine s_goto (tgt := 845) (dc kc_X6_run_4 6 rfl) rfl <| ?_
      exact fin m2 m3 _ us _ ((g1.mono (fun _ _ _ z => by simp [pQ, pV, pRd] at z ⊢; omega)).tr (g2.mono (fun _ _ _ z => by simp [pQ, pV, pRd] at z ⊢; omega))) (by rw [g2.at (by simp), g1.at (by simp)]; exact hB) (by rw [g2.at (by simp), g1.at (by simp)]) (by rw [List.length_cons, List.length_cons]; omega) (by rw [ev1_75, Int.add_comm]; rfl) g3 e3 a3
  · obtain ⟨r2, e2, e3⟩ := tyD_of (x := 1) (y := 1) hty
    subst e2
    subst e3
    obtain ⟨v, vs, e4, hv, hvs⟩ := hT.cons
    subst e4
    obtain ⟨u, us, e5, hu, hus⟩ := hvs.cons
    subst e5
    have hnn := sab_nn r2 us
    have hsb := hsab
    rw [sab, sab] at hsb
    try simp only [if_true, ↓reduceIte] at hsb
    have bu : -2000000 ≤ u ∧ u ≤ 2000000 := by first | (have := hu.2 rfl; omega) | omega
    have bv : -2000000 ≤ v ∧ v ≤ 2000000 := by first | (have := hv.2 rfl; omega) | omega
    rw [List.length_cons, List.length_cons] at h59
    refine s_tabC (k0 := 77) (tgt := 730) (dc kc_X6_run_0 26 rfl) ?_ rfl rfl rfl <| r_aload_n (dc kc_X6_run_4 7 rfl) rfl <| r_aload_n (dc kc_X6_run_4 8 rfl) rfl <| c_v0r (dc kc_X6_run_4 9 rfl) cl_X6_70 rfl (Nat.le_of_ble_eq_true rfl) (Nat.zero_le _) (Nat.zero_le _) ?_
    · rfl
    · refine u_pop hL hr ht (by rw [List.length_cons]; omega) hA (fun m1 g1 e1 a1 => ?_)
      refine b_ineg (dc kc_X6_run_4 10 rfl) (by first | omega | (simp [up] <;> omega)) (by first | omega | (simp [up] <;> omega)) <| r_aload_n (dc kc_X6_run_4 11 rfl) rfl <| c_v0r (dc kc_X6_run_4 12 rfl) cl_X6_70 rfl (Nat.le_of_ble_eq_true rfl) (Nat.zero_le _) (Nat.zero_le _) ?_
      refine u_pop hL hr e1 (by omega) a1 (fun m2 g2 e2 a2 => ?_)
      refine b_iadd (dc kc_X6_run_4 13 rfl) (by first | omega | (simp [up] <;> omega)) (by first | omega | (simp [up] <;> omega)) <| c_v1 (dc kc_X6_run_4 14 rfl) cl_X6_63 rfl (Nat.le_of_ble_eq_true rfl) (Nat.zero_le _) (Nat.zero_le _) ?_
      refine u_push hL hr (st := us) e2 (by omega) a2 (fun m3 g3 e3 a3 => ?_)
      refine s_goto (tgt := 845) (dc kc_X6_run_4 15 rfl) rfl <| ?_
      exact fin m2 m3 _ us _ ((g1.mono (fun _ _ _ z => by simp [pQ, pV, pRd] at z ⊢; omega)).tr (g2.mono (fun _ _ _ z => by simp [pQ, pV, pRd] at z ⊢; omega))) (by rw [g2.at (by simp), g1.at (by simp)]; exact hB) (by rw [g2.at (by simp), g1.at (by simp)]) (by rw [List.length_cons, List.length_cons]; omega) (by rw [ev1_77]; congr 3; omega) g3 e3 a3
  · obtain ⟨r2, e2, e3⟩ := tyD_of (x := 1) (y := 2) hty
    subst e2
    subst e3
    obtain ⟨v, vs, e4, hv, hvs⟩ := hT.cons
    subst e4
    obtain ⟨u, us, e5, hu, hus⟩ := hvs.cons
    subst e5
    have hnn := sab_nn r2 us
    have hsb := hsab
    rw [sab, sab] at hsb
    try simp only [if_true, ↓reduceIte] at hsb
    have bu : -2000000 ≤ u ∧ u ≤ 2000000 := by first | (have := hu.2 rfl; omega) | omega
    have bv : -2000000 ≤ v ∧ v ≤ 2000000 := by first | (have := hv.2 rfl; omega) | omega
    rw [List.length_cons, List.length_cons] at h59
    refine s_tabC (k0 := 92) (tgt := 747) (dc kc_X6_run_0 26 rfl) ?_ rfl rfl rfl <| r_aload_n (dc kc_X6_run_4 16 rfl) rfl <| r_aload_n (dc kc_X6_run_4 17 rfl) rfl <| c_v0r (dc kc_X6_run_4 18 rfl) cl_X6_70 rfl (Nat.le_of_ble_eq_true rfl) (Nat.zero_le _) (Nat.zero_le _) ?_
    · rfl
    · refine u_pop hL hr ht (by rw [List.length_cons]; omega) hA (fun m1 g1 e1 a1 => ?_)
      refine r_aload_n (dc kc_X6_run_4 19 rfl) rfl <| c_v0r (dc kc_X6_run_4 20 rfl) cl_X6_70 rfl (Nat.le_of_ble_eq_true rfl) (Nat.zero_le _) (Nat.zero_le _) ?_
      refine u_pop hL hr e1 (by omega) a1 (fun m2 g2 e2 a2 => ?_)
      refine s_icmp_le (tgt := 763) (dc kc_X6_run_4 21 rfl) rfl (fun c756 => (k_i (dc kc_X6_run_4 24 rfl) rfl <| ?_)) (fun c756 => (k_i (dc kc_X6_run_4 22 rfl) rfl <| s_goto (tgt := 764) (dc kc_X6_run_4 23 rfl) rfl <| ?_))
      · refine c_v1 (dc kc_X6_run_4 25 rfl) cl_X6_63 rfl (Nat.le_of_ble_eq_true rfl) (Nat.zero_le _) (Nat.zero_le _) ?_
        refine u_push hL hr (st := us) e2 (by omega) a2 (fun m3 g3 e3 a3 => ?_)
        refine s_goto (tgt := 845) (dc kc_X6_run_4 26 rfl) rfl <| ?_
        exact fin m2 m3 _ us _ ((g1.mono (fun _ _ _ z => by simp [pQ, pV, pRd] at z ⊢; omega)).tr (g2.mono (fun _ _ _ z => by simp [pQ, pV, pRd] at z ⊢; omega))) (by rw [g2.at (by simp), g1.at (by simp)]; exact hB) (by rw [g2.at (by simp), g1.at (by simp)]) (by rw [List.length_cons, List.length_cons]; omega) (by rw [ev1_92, bi_f (by omega)]; rfl) g3 e3 a3
      · refine c_v1 (dc kc_X6_run_4 25 rfl) cl_X6_63 rfl (Nat.le_of_ble_eq_true rfl) (Nat.zero_le _) (Nat.zero_le _) ?_
        refine u_push hL hr (st := us) e2 (by omega) a2 (fun m3 g3 e3 a3 => ?_)
        refine s_goto (tgt := 845) (dc kc_X6_run_4 26 rfl) rfl <| ?_
        exact fin m2 m3 _ us _ ((g1.mono (fun _ _ _ z => by simp [pQ, pV, pRd] at z ⊢; omega)).tr (g2.mono (fun _ _ _ z => by simp [pQ, pV, pRd] at z ⊢; omega))) (by rw [g2.at (by simp), g1.at (by simp)]; exact hB) (by rw [g2.at (by simp), g1.at (by simp)]) (by rw [List.length_cons, List.length_cons]; omega) (by rw [ev1_92, bi_t (by omega)]; rfl) g3 e3 a3
  · obtain ⟨r2, e2, e3⟩ := tyD_of (x := 1) (y := 2) hty
    subst e2
    subst e3
    obtain ⟨v, vs, e4, hv, hvs⟩ := hT.cons
    subst e4
    obtain ⟨u, us, e5, hu, hus⟩ := hvs.cons
    subst e5
    have hnn := sab_nn r2 us
    have hsb := hsab
    rw [sab, sab] at hsb
    try simp only [if_true, ↓reduceIte] at hsb
    have bu : -2000000 ≤ u ∧ u ≤ 2000000 := by first | (have := hu.2 rfl; omega) | omega
    have bv : -2000000 ≤ v ∧ v ≤ 2000000 := by first | (have := hv.2 rfl; omega) | omega
    rw [List.length_cons, List.length_cons] at h59
    refine s_tabC (k0 := 94) (tgt := 770) (dc kc_X6_run_0 26 rfl) ?_ rfl rfl rfl <| r_aload_n (dc kc_X6_run_4 27 rfl) rfl <| r_aload_n (dc kc_X6_run_4 28 rfl) rfl <| c_v0r (dc kc_X6_run_4 29 rfl) cl_X6_70 rfl (Nat.le_of_ble_eq_true rfl) (Nat.zero_le _) (Nat.zero_le _) ?_
    · rfl
    · refine u_pop hL hr ht (by rw [List.length_cons]; omega) hA (fun m1 g1 e1 a1 => ?_)
      refine r_aload_n (dc kc_X6_run_4 30 rfl) rfl <| c_v0r (dc kc_X6_run_4 31 rfl) cl_X6_70 rfl (Nat.le_of_ble_eq_true rfl) (Nat.zero_le _) (Nat.zero_le _) ?_
      refine u_pop hL hr e1 (by omega) a1 (fun m2 g2 e2 a2 => ?_)
      refine s_icmp_ge (tgt := 786) (dc kc_X6_run_4 32 rfl) rfl (fun c779 => (k_i (dc kc_X6_run_4 35 rfl) rfl <| ?_)) (fun c779 => (k_i (dc kc_X6_run_4 33 rfl) rfl <| s_goto (tgt := 787) (dc kc_X6_run_4 34 rfl) rfl <| ?_))
      · refine c_v1 (dc kc_X6_run_4 36 rfl) cl_X6_63 rfl (Nat.le_of_ble_eq_true rfl) (Nat.zero_le _) (Nat.zero_le _) ?_
        refine u_push hL hr (st := us) e2 (by omega) a2 (fun m3 g3 e3 a3 => ?_)
        refine s_goto (tgt := 845) (dc kc_X6_run_4 37 rfl) rfl <| ?_
        exact fin m2 m3 _ us _ ((g1.mono (fun _ _ _ z => by simp [pQ, pV, pRd] at z ⊢; omega)).tr (g2.mono (fun _ _ _ z => by simp [pQ, pV, pRd] at z ⊢; omega))) (by rw [g2.at (by simp), g1.at (by simp)]; exact hB) (by rw [g2.at (by simp), g1.at (by simp)]) (by rw [List.length_cons, List.length_cons]; omega) (by rw [ev1_94, bi_f (by omega)]; rfl) g3 e3 a3
      · refine c_v1 (dc kc_X6_run_4 36 rfl) cl_X6_63 rfl (Nat.le_of_ble_eq_true rfl) (Nat.zero_le _) (Nat.zero_le _) ?_
        refine u_push hL hr (st := us) e2 (by omega) a2 (fun m3 g3 e3 a3 => ?_)
        refine s_goto (tgt := 845) (dc kc_X6_run_4 37 rfl) rfl <| ?_
        exact fin m2 m3 _ us _ ((g1.mono (fun _ _ _ z => by simp [pQ, pV, pRd] at z ⊢; omega)).tr (g2.mono (fun _ _ _ z => by simp [pQ, pV, pRd] at z ⊢; omega))) (by rw [g2.at (by simp), g1.at (by simp)]; exact hB) (by rw [g2.at (by simp), g1.at (by simp)]) (by rw [List.length_cons, List.length_cons]; omega) (by rw [ev1_94, bi_t (by omega)]; rfl) g3 e3 a3
  · obtain ⟨r2, e2, e3⟩ := tyD_of (x := 1) (y := 2) hty
    subst e2
    subst e3
    obtain ⟨v, vs, e4, hv, hvs⟩ := hT.cons
    subst e4
    obtain ⟨u, us, e5, hu, hus⟩ := hvs.cons
    subst e5
    have hnn := sab_nn r2 us
    have hsb := hsab
    rw [sab, sab] at hsb
    try simp only [if_true, ↓reduceIte] at hsb
    have bu : -2000000 ≤ u ∧ u ≤ 2000000 := by first | (have := hu.2 rfl; omega) | omega
    have bv : -2000000 ≤ v ∧ v ≤ 2000000 := by first | (have := hv.2 rfl; omega) | omega
    rw [List.length_cons, List.length_cons] at h59
    refine s_tabC (k0 := 93) (tgt := 793) (dc kc_X6_run_0 26 rfl) ?_ rfl rfl rfl <| r_aload_n (dc kc_X6_run_4 38 rfl) rfl <| r_aload_n (dc kc_X6_run_4 39 rfl) rfl <| c_v0r (dc kc_X6_run_5 0 rfl) cl_X6_70 rfl (Nat.le_of_ble_eq_true rfl) (Nat.zero_le _) (Nat.zero_le _) ?_
    · rfl
    · refine u_pop hL hr ht (by rw [List.length_cons]; omega) hA (fun m1 g1 e1 a1 => ?_)
      refine r_aload_n (dc kc_X6_run_5 1 rfl) rfl <| c_v0r (dc kc_X6_run_5 2 rfl) cl_X6_70 rfl (Nat.le_of_ble_eq_true rfl) (Nat.zero_le _) (Nat.zero_le _) ?_
      refine u_pop hL hr e1 (by omega) a1 (fun m2 g2 e2 a2 => ?_)
      refine s_icmp_ne (tgt := 809) (dc kc_X6_run_5 3 rfl) rfl (fun c802 => (k_i (dc kc_X6_run_5 6 rfl) rfl <| ?_)) (fun c802 => (k_i (dc kc_X6_run_5 4 rfl) rfl <| s_goto (tgt := 810) (dc kc_X6_run_5 5 rfl) rfl <| ?_))
      · refine c_v1 (dc kc_X6_run_5 7 rfl) cl_X6_63 rfl (Nat.le_of_ble_eq_true rfl) (Nat.zero_le _) (Nat.zero_le _) ?_
        refine u_push hL hr (st := us) e2 (by omega) a2 (fun m3 g3 e3 a3 => ?_)
        refine s_goto (tgt := 845) (dc kc_X6_run_5 8 rfl) rfl <| ?_
        exact fin m2 m3 _ us _ ((g1.mono (fun _ _ _ z => by simp [pQ, pV, pRd] at z ⊢; omega)).tr (g2.mono (fun _ _ _ z => by simp [pQ, pV, pRd] at z ⊢; omega))) (by rw [g2.at (by simp), g1.at (by simp)]; exact hB) (by rw [g2.at (by simp), g1.at (by simp)]) (by rw [List.length_cons, List.length_cons]; omega) (by rw [ev1_93, bi_f (by omega)]; rfl) g3 e3 a3
      · refine c_v1 (dc kc_X6_run_5 7 rfl) cl_X6_63 rfl (Nat.le_of_ble_eq_true rfl) (Nat.zero_le _) (Nat.zero_le _) ?_
        refine u_push hL hr (st := us) e2 (by omega) a2 (fun m3 g3 e3 a3 => ?_)
        refine s_goto (tgt := 845) (dc kc_X6_run_5 8 rfl) rfl <| ?_
        exact fin m2 m3 _ us _ ((g1.mono (fun _ _ _ z => by simp [pQ, pV, pRd] at z ⊢; omega)).tr (g2.mono (fun _ _ _ z => by simp [pQ, pV, pRd] at z ⊢; omega))) (by rw [g2.at (by simp), g1.at (by simp)]; exact hB) (by rw [g2.at (by simp), g1.at (by simp)]) (by rw [List.length_cons, List.length_cons]; omega) (by rw [ev1_93, bi_t (by omega)]; rfl) g3 e3 a3
  · obtain ⟨r2, e2, e3⟩ := tyD_of (x := 2) (y := 2) hty
    subst e2
    subst e3
    obtain ⟨v, vs, e4, hv, hvs⟩ := hT.cons
    subst e4
    obtain ⟨u, us, e5, hu, hus⟩ := hvs.cons
    subst e5
    have hnn := sab_nn r2 us
    have hsb := hsab
    rw [sab, sab] at hsb
    try simp only [if_true, ↓reduceIte] at hsb
    have bu : -2000000 ≤ u ∧ u ≤ 2000000 := by first | (have := hu.2 rfl; omega) | omega
    have bv : -2000000 ≤ v ∧ v ≤ 2000000 := by first | (have := hv.2 rfl; omega) | omega
    rw [List.length_cons, List.length_cons] at h59
    refine s_tabC (k0 := 17) (tgt := 816) (dc kc_X6_run_0 26 rfl) ?_ rfl rfl rfl <| r_aload_n (dc kc_X6_run_5 9 rfl) rfl <| r_aload_n (dc kc_X6_run_5 10 rfl) rfl <| c_v0r (dc kc_X6_run_5 11 rfl) cl_X6_70 rfl (Nat.le_of_ble_eq_true rfl) (Nat.zero_le _) (Nat.zero_le _) ?_
    · rfl
    · refine u_pop hL hr ht (by rw [List.length_cons]; omega) hA (fun m1 g1 e1 a1 => ?_)
      refine r_aload_n (dc kc_X6_run_5 12 rfl) rfl <| c_v0r (dc kc_X6_run_5 13 rfl) cl_X6_70 rfl (Nat.le_of_ble_eq_true rfl) (Nat.zero_le _) (Nat.zero_le _) ?_
      refine u_pop hL hr e1 (by omega) a1 (fun m2 g2 e2 a2 => ?_)
      refine s_iand (dc kc_X6_run_5 14 rfl) <| c_v1 (dc kc_X6_run_5 15 rfl) cl_X6_63 rfl (Nat.le_of_ble_eq_true rfl) (Nat.zero_le _) (Nat.zero_le _) ?_
      refine u_push hL hr (st := us) e2 (by omega) a2 (fun m3 g3 e3 a3 => ?_)
      refine s_goto (tgt := 845) (dc kc_X6_run_5 16 rfl) rfl <| ?_
      exact fin m2 m3 _ us _ ((g1.mono (fun _ _ _ z => by simp [pQ, pV, pRd] at z ⊢; omega)).tr (g2.mono (fun _ _ _ z => by simp [pQ, pV, pRd] at z ⊢; omega))) (by rw [g2.at (by simp), g1.at (by simp)]; exact hB) (by rw [g2.at (by simp), g1.at (by simp)]) (by rw [List.length_cons, List.length_cons]; omega) (by rw [ev1_17, bAnd_comm]; rfl) g3 e3 a3
  · obtain ⟨r2, e2, e3⟩ := tyD_of (x := 2) (y := 2) hty
    subst e2
    subst e3
    obtain ⟨v, vs, e4, hv, hvs⟩ := hT.cons
    subst e4
    obtain ⟨u, us, e5, hu, hus⟩ := hvs.cons
    subst e5
    have hnn := sab_nn r2 us
    have hsb := hsab
    rw [sab, sab] at hsb
    try simp only [if_true, ↓reduceIte] at hsb
    have bu : -2000000 ≤ u ∧ u ≤ 2000000 := by first | (have := hu.2 rfl; omega) | omega
    have bv : -2000000 ≤ v ∧ v ≤ 2000000 := by first | (have := hv.2 rfl; omega) | omega
    rw [List.length_cons, List.length_cons] at h59
    refine s_tabC (k0 := 16) (tgt := 832) (dc kc_X6_run_0 26 rfl) ?_ rfl rfl rfl <| r_aload_n (dc kc_X6_run_5 17 rfl) rfl <| r_aload_n (dc kc_X6_run_5 18 rfl) rfl <| c_v0r (dc kc_X6_run_5 19 rfl) cl_X6_70 rfl (Nat.le_of_ble_eq_true rfl) (Nat.zero_le _) (Nat.zero_le _) ?_
    · rfl
    · refine u_pop hL hr ht (by rw [List.length_cons]; omega) hA (fun m1 g1 e1 a1 => ?_)
      refine r_aload_n (dc kc_X6_run_5 20 rfl) rfl <| c_v0r (dc kc_X6_run_5 21 rfl) cl_X6_70 rfl (Nat.le_of_ble_eq_true rfl) (Nat.zero_le _) (Nat.zero_le _) ?_
      refine u_pop hL hr e1 (by omega) a1 (fun m2 g2 e2 a2 => ?_)
      refine s_ior (dc kc_X6_run_5 22 rfl) <| c_v1 (dc kc_X6_run_5 23 rfl) cl_X6_63 rfl (Nat.le_of_ble_eq_true rfl) (Nat.zero_le _) (Nat.zero_le _) ?_
      refine u_push hL hr (st := us) e2 (by omega) a2 (fun m3 g3 e3 a3 => ?_)
-- at the end
      exact fin m2 m3 _ us _ ((g1.mono (fun _ _ _ z => by simp [pQ, pV, pRd] at z ⊢; omega)).tr (g2.mono (fun _ _ _ z => by simp [pQ, pV, pRd] at z ⊢; omega))) (by rw [g2.at (by simp), g1.at (by simp)]; exact hB) (by rw [g2.at (by simp), g1.at (by simp)]) (by rw [List.length_cons, List.length_cons]; omega) (by rw [ev1_16, bOr_comm]; rfl) g3 e3 a3
end RM63
section RM64
variable {d n G : Nat} {mr : MR} {Q : V → MI → Nat → MR → Prop}
theorem mu_run (hL : Lay G mr) {mi : MI} {r g x : Nat} (hr : r < 5) (hx : okI G 20 x) (hcel : mr r 50 0 = some (g, 63)) (hc : VC (clM mi g)) {f l : Int} {t : Nat} {L0 : List Int} (h0 : 0 ≤ f) (hf : f ≤ l) (hl : l ≤ 400) (h60 : l - f ≤ 60) (hty : tyc (slcC (mi x 21) (l - f).toNat f) [] = some [t]) (hB : Bm (mi r 50 3) L0) (hQ : ∀ mi' v, Cg (pQ r) mi mi' → tyV t v → ((evs (clM mi g) (slcC (mi x 21) (l - f).toNat f) [] L0 = none ∧ mi' r 50 4 = 1) ∨ ∃ rd, evs (clM mi g) (slcC (mi x 21) (l - f).toNat f) [] L0 = some ([v], rd) ∧ Bm (mi' r 50 3) rd ∧ mi' r 50 4 = mi r 50 4) → Q (vI v) mi' n mr) : Tx (d+3) mt_X6_run [vR (some (r, 50)), vR (some (x, 20)), vI f, vI l] mi n mr Q := by
  have hok : okI G 50 r := hr
  refine tx_intro (ls := [vR (some (r, 50)), vR (some (x, 20)), vI f, vI l, vX 0, vX 0, vX 0]) om_X6_run rfl (Nat.le_of_ble_eq_true rfl) ?_
  generalize hTT : evs (clM mi g) (slcC (mi x 21) (l - f).toNat f) [] L0 = T at *
  have loop : ∀ (m : Nat) (k : Int) (w : V) (ts : List Nat) (st rd : List Int) (m1 : MI), k + m = l → f ≤ k → tyc (slcC (mi x 21) m k) ts = some [t] → Tys ts st → sab ts st ≤ 99 * (k - f) → (st.length : Int) ≤ k - f → m1 r 50 2 = st.length → Arr (m1 r 52) st.reverse → Cg (pQ r) mi m1 → Bm (m1 r 50 3) rd → ((evs (clM mi g) (slcC (mi x 21) m k) st rd = T ∧ m1 r 50 4 = mi r 50 4) ∨ (T = none ∧ m1 r 50 4 = 1)) → Run (d+3) mt_X6_run Q (n, mr, 0, 0) m1 14 [vR (some (r, 50)), vR (some (x, 20)), vI f, vI l, vR (some (x, 21)), vI k, w] [] := by
    intro m
    induction m with
    | zero =>
      intro k w ts st rd m1 hk hk0 hty hT hsab hlen ht hA hC hB hmode
      cases hty
      obtain ⟨v, vs, e1, hv, hvs⟩ := hT.cons
      subst e1
      cases vs with
      | cons _ _ => cases hvs
      | nil =>
        have fin : Run (d+3) mt_X6_run Q (n, mr, 0, 0) m1 851 [vR (some (r, 50)), vR (some (x, 20)), vI f, vI l, vR (some (x, 21)), vI k, w] [] := by
          refine r_aload_n (dc kc_X6_run_5 26 rfl) rfl <| c_v0r (dc kc_X6_run_5 27 rfl) cl_X6_70 rfl (Nat.le_of_ble_eq_true rfl) (Nat.zero_le _) (Nat.zero_le _) ?_
          refine u_pop hL hr ht (by simp) hA (fun m2 g2 e2 a2 => ?_)
          refine s_ireturn (dc kc_X6_run_5 28 rfl) rfl (Nat.zero_le _) (Nat.zero_le _) ?_
          refine hQ m2 v (hC.tr (g2.mono (fun _ _ _ z => by simp [pQ, pV, pRd] at z ⊢; omega))) hv ?_
          rcases hmode with ⟨h1, h2⟩ | ⟨h1, h2⟩
          · exact Or.inr ⟨rd, h1.symm, by rw [g2.at (by simp)]; exact hB, by rw [g2.at (by simp), h2]⟩
          · exact Or.inl ⟨h1, by rw [g2.at (by simp), h2]⟩
        refine s_iload (dc kc_X6_run_0 8 rfl) rfl <| s_iload_n (dc kc_X6_run_0 9 rfl) rfl <| s_icmp_ge (tgt := 851) (dc kc_X6_run_0 10 rfl) rfl (fun c17 => (?_)) (fun c17 => (s_iload (dc kc_X6_run_0 11 rfl) rfl <| r_aload (dc kc_X6_run_0 12 rfl) rfl <| s_alen (dc kc_X6_run_0 13 rfl) rfl (by decide) <| s_icmp_ge (tgt := 851) (dc kc_X6_run_0 14 rfl) rfl (fun c25 => (?_)) (fun c25 => (?_))))
        · exact fin
        · exact fin
        · exfalso; omega
    | succ m ih =>
      intro k w ts st rd m1 hk hk0 hty hT hsab hlen ht hA hC hB hmode
      have e21 : m1 x 21 = mi x 21 := hC.row (fun k => by simp [pQ])
      have ecl : clM m1 g = clM mi g := by unfold clM; rw [hC.row (fun k => by simp [pQ])]
      rw [slcC] at hty hmode
      obtain ⟨t1, hty1, hty2⟩ := tyc_c hty
      refine s_iload (dc kc_X6_run_0 8 rfl) rfl <| s_iload_n (dc kc_X6_run_0 9 rfl) rfl <| s_icmp_ge (tgt := 851) (dc kc_X6_run_0 10 rfl) rfl (fun c17 => (?_)) (fun c17 => (s_iload (dc kc_X6_run_0 11 rfl) rfl <| r_aload (dc kc_X6_run_0 12 rfl) rfl <| s_alen (dc kc_X6_run_0 13 rfl) rfl (by decide) <| s_icmp_ge (tgt := 851) (dc kc_X6_run_0 14 rfl) rfl (fun c25 => (?_)) (fun c25 => (r_aload (dc kc_X6_run_0 15 rfl) rfl <| s_iload (dc kc_X6_run_0 16 rfl) rfl <| s_iaload (dc kc_X6_run_0 17 rfl) rfl (by first | omega | (simp [up] <;> omega)) (by first | omega | (simp [up] <;> omega)) <| k_b (dc kc_X6_run_0 18 rfl) rfl <| s_iand (dc kc_X6_run_0 19 rfl) <| t_i6 (dc kc_X6_run_0 20 rfl) (Nat.le_of_ble_eq_true rfl) rfl <| r_aload (dc kc_X6_run_0 21 rfl) rfl <| s_iload (dc kc_X6_run_0 22 rfl) rfl <| s_iaload (dc kc_X6_run_0 23 rfl) rfl (by first | omega | (simp [up] <;> omega)) (by first | omega | (simp [up] <;> omega)) <| k_b (dc kc_X6_run_0 24 rfl) rfl <| s_ishr (dc kc_X6_run_0 25 rfl) <| ?_))))
      · exfalso; omega
      · exfalso; omega
      · rw [e21]
        refine mu_apply hL hr hcel (by rw [ecl]; exact hc) hty1 hT ht (by omega) hA hB (by omega) (fun m2 st' rd' g2 e2 a2 b2 t2 s2 l2 hm => ?_)
        rw [ecl] at hm
        refine b_inc5 (dc kc_X6_run_5 24 rfl) rfl (Nat.le_of_ble_eq_true rfl) rfl (by first | omega | (simp [up] <;> omega)) (by first | omega | (simp [up] <;> omega)) <| s_goto (tgt := 14) (dc kc_X6_run_5 25 rfl) rfl <| ?_
        refine ih (k + 1) _ t1 st' rd' m2 (by omega) (by omega) hty2 t2 (by omega) (by omega) e2 a2 (hC.tr g2) b2 ?_
        rcases hmode with ⟨h1, h2⟩ | ⟨h1, h2⟩
        · rcases hm with ⟨z1, z2⟩ | ⟨z1, z2⟩
          · exact Or.inl ⟨by rw [← h1, evs_c z1], by rw [z2, h2]⟩
          · exact Or.inr ⟨by rw [← h1, evs_n z1], z2⟩
        · rcases hm with ⟨z1, z2⟩ | ⟨z1, z2⟩
          · exact Or.inr ⟨h1, by rw [z2, h2]⟩
          · exact Or.inr ⟨h1, z2⟩
  refine r_aload_n (dc kc_X6_run_0 0 rfl) rfl <| k_i (dc kc_X6_run_0 1 rfl) rfl <| s_putI (dc kc_X6_run_0 2 rfl) fl_X6_18 <| r_aload_n (dc kc_X6_run_0 3 rfl) rfl <| s_getA (dc kc_X6_run_0 4 rfl) fl_X6_60 (ly_20_2 hL (by assumption)) <| t_r4 (dc kc_X6_run_0 5 rfl) (Nat.le_of_ble_eq_true rfl) rfl <| s_iload_n (dc kc_X6_run_0 6 rfl) rfl <| t_i5 (dc kc_X6_run_0 7 rfl) (Nat.le_of_ble_eq_true rfl) rfl <| ?_
  refine loop (l - f).toNat f _ [] [] L0 _ (by omega) (by omega) hty trivial (by show (0 : Int) ≤ _; omega) (by simp) (by rw [up_at]; rfl) Arr.nil (Cg.rf.up (by simp [pQ])) (by rw [up_k (by decide)]; exact hB) (Or.inl ⟨hTT, by rw [up_k (by decide)]⟩)
theorem mu_runL (hL : Lay G mr) {mi : MI} {r g x : Nat} (hr : r < 5) (hx : okI G 20 x) (hcel : mr r 50 0 = some (g, 63)) (hc : VC (clM mi g)) {l : Int} {k : List CT} {L0 : List Int} (hk : LwT mi x l k) (hB : Bm (mi r 50 3) L0) (hQ : ∀ mi', Cg (pQ r) mi mi' → Bm (mi' r 50 3) (askA (clM mi g) k ++ L0) → mi' r 50 4 = mi r 50 4 → Q (vI (valA (clM mi g) k)) mi' n mr) : Tx (d+3) mt_X6_run [vR (some (r, 50)), vR (some (x, 20)), vI (mi x 22 l), vI (mi x 25 l)] mi n mr Q := by
  obtain ⟨h0, h1, h2, h3, h4⟩ := hk
  have hlen := slcC_len (f := mi x 21) (mi x 25 l - mi x 22 l).toNat (mi x 22 l)
  rw [h3] at hlen
  have h60 := h4.2.1
  refine mu_run (t := 2) hL hr hx hcel hc h0 h1 h2 (by omega) (by rw [h3]; exact h4.1) hB (fun m1 v g1 _ hm => ?_)
  rw [h3, (law_ev hc h4).1 L0] at hm
  rcases hm with ⟨z, _⟩ | ⟨rd, z1, z2, z3⟩
  · cases z
  · injection z1 with z1
    injection z1 with z1 z4
    injection z1 with z1
    rw [← z1]
    exact hQ m1 g1 (by rw [z4]; exact z2) z3
theorem mu_allHold (hL : Lay G mr) {mi : MI} {r g x : Nat} (hr : r < 5) (hx : okI G 20 x) (hcel : mr r 50 0 = some (g, 63)) (hc : VC (clM mi g)) {K : Int → List CT} (h12 : mi x 20 0 ≤ 12) (hK : ∀ l, 0 ≤ l → l < mi x 20 0 → LwT mi x l (K l)) {L0 : List Int} (hB : Bm (mi r 50 3) L0) (hQ1 : (∀ l, 0 ≤ l → l < mi x 20 0 → valA (clM mi g) (K l) = 1) → ∀ mi', Cg (pQ r) mi mi' → Q (vI 1) mi' n mr) (hQ0 : (∃ l, 0 ≤ l ∧ l < mi x 20 0 ∧ valA (clM mi g) (K l) = 0) → ∀ mi', Cg (pQ r) mi mi' → Q (vI 0) mi' n mr) : Tx (d+4) mt_X6_allHold [vR (some (r, 50)), vR (some (x, 20))] mi n mr Q := by
  refine tx_intro (ls := [vR (some (r, 50)), vR (some (x, 20)), vX 0]) om_X6_allHold rfl (Nat.le_of_ble_eq_true rfl) ?_
  have loop : ∀ i : Nat, i ≤ (mi x 20 0).toNat → ∀ (m : MI) (L : List Int), Cg (pQ r) mi m → Bm (m r 50 3) L → (∀ l, 0 ≤ l → l < (i : Int) → valA (clM mi g) (K l) = 1) → Run (d+4) mt_X6_allHold Q (n, mr, 0, 0) m 2 [vR (some (r, 50)), vR (some (x, 20)), vI (i : Int)] [] := by
    refine nloop ?_
    intro i hi ih m L hC hB hh
    have e20 : m x 20 = mi x 20 := hC.row (fun k => by simp [pQ])
    have e21 : m x 21 = mi x 21 := hC.row (fun k => by simp [pQ])
    have e22 : m x 22 = mi x 22 := hC.row (fun k => by simp [pQ])
    have e25 : m x 25 = mi x 25 := hC.row (fun k => by simp [pQ])
    have e0 : m x 20 0 = mi x 20 0 := by rw [e20]
    have ecl : clM m g = clM mi g := by unfold clM; rw [hC.row (fun k => by simp [pQ])]
    by_cases he : (i : Int) < mi x 20 0
    · have hk := hK i (by omega) he
      have h01 := (law_ev hc hk.2.2.2.2).2.1
      refine s_iload_n (dc kc_X6_allHold 2 rfl) rfl <| r_aload_n (dc kc_X6_allHold 3 rfl) rfl <| s_getI (dc kc_X6_allHold 4 rfl) fl_X6_41 <| s_icmp_ge (tgt := 38) (dc kc_X6_allHold 5 rfl) rfl (fun c7 => (?_)) (fun c7 => (r_aload_n (dc kc_X6_allHold 6 rfl) rfl <| r_aload_n (dc kc_X6_allHold 7 rfl) rfl <| r_aload_n (dc kc_X6_allHold 8 rfl) rfl <| s_getA (dc kc_X6_allHold 9 rfl) fl_X6_46 (ly_20_3 hL (by assumption)) <| s_iload_n (dc kc_X6_allHold 10 rfl) rfl <| s_iaload (dc kc_X6_allHold 11 rfl) rfl (by first | omega | (simp [up] <;> omega)) (by first | omega | (simp [up] <;> omega)) <| r_aload_n (dc kc_X6_allHold 12 rfl) rfl <| s_getA (dc kc_X6_allHold 13 rfl) fl_X6_49 (ly_20_6 hL (by assumption)) <| s_iload_n (dc kc_X6_allHold 14 rfl) rfl <| s_iaload (dc kc_X6_allHold 15 rfl) rfl (by first | omega | (simp [up] <;> omega)) (by first | omega | (simp [up] <;> omega)) <| c_v3r (dc kc_X6_allHold 16 rfl) cl_X6_52 rfl (Nat.le_of_ble_eq_true rfl) (Nat.zero_le _) (Nat.zero_le _) ?_))
      · exfalso; omega
      · refine mu_runL hL hr hx hcel (by rw [ecl]; exact hc) (k := K i) (by unfold LwT; rw [e21, e22, e25]; exact hk) hB (fun m1 g1 b1 _ => ?_)
        rw [ecl] at b1 ⊢
        refine s_if_ne (tgt := 32) (dc kc_X6_allHold 17 rfl) rfl (fun c27 => (b_inc2 (dc kc_X6_allHold 20 rfl) rfl (Nat.le_of_ble_eq_true rfl) rfl (by first | omega | (simp [up] <;> omega)) (by first | omega | (simp [up] <;> omega)) <| s_goto (tgt := 2) (dc kc_X6_allHold 21 rfl) rfl <| ?_)) (fun c27 => (k_i (dc kc_X6_allHold 18 rfl) rfl <| s_zreturn (dc kc_X6_allHold 19 rfl) rfl (by first | exact Or.inl rfl | exact Or.inr rfl | exact bi_01 | assumption) (Nat.zero_le _) (Nat.zero_le _) ?_))
        · refine ih (by omega) m1 _ (hC.tr g1) b1 (fun l a b => ?_)
          by_cases e : l = i
          · rw [e]; omega
          · exact hh l a (by omega)
        · exact hQ0 ⟨i, by omega, he, c27⟩ m1 (hC.tr g1)
    · refine s_iload_n (dc kc_X6_allHold 2 rfl) rfl <| r_aload_n (dc kc_X6_allHold 3 rfl) rfl <| s_getI (dc kc_X6_allHold 4 rfl) fl_X6_41 <| s_icmp_ge (tgt := 38) (dc kc_X6_allHold 5 rfl) rfl (fun c7 => (k_i (dc kc_X6_allHold 22 rfl) rfl <| s_zreturn (dc kc_X6_allHold 23 rfl) rfl (by first | exact Or.inl rfl | exact Or.inr rfl | exact bi_01 | assumption) (Nat.zero_le _) (Nat.zero_le _) ?_)) (fun c7 => (?_))
      · exact hQ1 (fun l a b => hh l a (by omega)) m hC
      · exfalso; omega
  refine k_i (dc kc_X6_allHold 0 rfl) rfl <| t_i2 (dc kc_X6_allHold 1 rfl) (Nat.le_of_ble_eq_true rfl) rfl <| ?_
  exact loop 0 (Nat.zero_le _) mi L0 Cg.rf hB (fun l a b => by omega)
end RM64
