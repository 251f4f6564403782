/-! the class: the mender tries values, grows a mend -/
def pGr (k a b : Nat) (i : Int) : Bool := pQ 2 a b i || pML k a b i || (a == 0 && (b == 63 || b == 66 || (b == 60 && i == 10))) || b == 68
def Mc (mi : MI) (ρ : Int → Int) (k x : Nat) : Prop := mi 0 60 9 = (k : Int) ∧ MB mi ρ ∧ MLw mi x ρ
theorem MB.mv {mi mi' : MI} {ρ : Int → Int} (h : MB mi ρ) (e64 : mi' 0 64 = mi 0 64) (e65 : mi' 0 65 = mi 0 65) (e8 : mi' 0 60 8 = mi 0 60 8) : MB mi' ρ := by
  unfold MB at *
  rw [e64, e65, e8]; exact h
theorem Mc.mv {mi mi' : MI} {ρ : Int → Int} {k x : Nat} (h : Mc mi ρ k x) (hC : Cg (pGr k) mi mi') : Mc mi' ρ k x :=
  ⟨by rw [hC.at (by simp [pGr, pQ, pML])]; exact h.1, h.2.1.mv (hC.row (fun i => by simp [pGr, pQ, pML])) (hC.row (fun i => by simp [pGr, pQ, pML])) (hC.at (by simp [pGr, pQ, pML])), h.2.2.mv (hC.at (by simp [pGr, pQ, pML])) (hC.row (fun i => by simp [pGr, pQ, pML])) (hC.row (fun i => by simp [pGr, pQ, pML])) (hC.row (fun i => by simp [pGr, pQ, pML]))⟩
/-- what a deeper change leaves -/
def Kp (D : Nat) (mi mi' : MI) : Prop := (∀ i : Int, 0 ≤ i → i < D → mi' 0 66 i = mi 0 66 i) ∧ ∀ e, e < D → mi' e 68 = mi e 68
theorem Kp.rf {D : Nat} {mi : MI} : Kp D mi mi := ⟨fun _ _ _ => rfl, fun _ _ => rfl⟩
theorem Kp.tr {D : Nat} {mi mi' m2 : MI} (h : Kp D mi mi') (h2 : Kp D mi' m2) : Kp D mi m2 := ⟨fun i a b => by rw [h2.1 i a b, h.1 i a b], fun e a => by rw [h2.2 e a, h.2 e a]⟩
theorem Kp.le {D E : Nat} {mi mi' : MI} (h : Kp D mi mi') (he : E ≤ D) : Kp E mi mi' := ⟨fun i a b => h.1 i a (by omega), fun e a => h.2 e (by omega)⟩
theorem Cho.kp {D : Nat} {mi mi' : MI} {A : List PR} (h : Cho mi A) (hk : Kp D mi mi') (hD : A.length ≤ D) : Cho mi' A := fun i q z => by
  have := (List.getElem?_eq_some_iff.mp z).1
  rw [hk.1 i (by omega) (by omega)]; exact h i q z
theorem prR_mb {mi : MI} {ρ : Int → Int} (h : MB mi ρ) {c v : Int} (h0 : 0 ≤ c) (h1 : c < 24) (hv : -1 ≤ v) : prR ρ c v ≤ 9 := by
  obtain ⟨hb, hp⟩ := h.1 c h0 h1
  have := (hp v hv).1
  split at this <;> omega
theorem prc_mb {mi : MI} {ρ : Int → Int} (h : MB mi ρ) : ∀ {A : List PR}, (∀ q ∈ A, okP q) → 0 ≤ prc ρ A ∧ prc ρ A ≤ 9 * (A.length : Int)
  | [], _ => ⟨Int.le_refl _, Int.le_refl _⟩
  | q :: A, hq => by
    have ho := hq q List.mem_cons_self
    unfold okP at ho
    have h1 := prR_mb h (c := q.1) (v := q.2) (by omega) (by omega) (by omega)
    have h1' := prR_1 (ρ := ρ) (c := q.1) (v := q.2)
    have h2 := prc_mb h (A := A) (fun r hr => hq r (List.mem_cons_of_mem _ hr))
    show 0 ≤ prR ρ q.1 q.2 + prc ρ A ∧ prR ρ q.1 q.2 + prc ρ A ≤ 9 * ((A.length + 1 : Nat) : Int)
    omega
section MD3
variable {d n G : Nat} {mr : MR} {Q : V → MI → Nat → MR → Prop}
def Grw (d n : Nat) (mr : MR) (ρ : Int → Int) (k x : Nat) (lim0 : Int) (A : List PR) : Prop := ∀ (F : Int) (mi : MI) (X : List PR → Prop) (Q : V → MI → Nat → MR → Prop), Mc mi ρ k x → ag (clR (rowA ρ A)) (clM mi 0) → Cho mi A → (∀ q ∈ A, tB F q.1.toNat = true) → Tm ρ k lim0 X mi → (∀ L, Ts ρ k A F L → ¬ X L) → (∀ mi', Cg (pGr k) mi mi' → Kp A.length mi mi' → ag (clR (rowA ρ A)) (clM mi' 0) → Tm ρ k lim0 (fun L => X L ∨ Ts ρ k A F L) mi' → Q (vX 0) mi' n mr) → Tx d mt_X4_grow [vR (some (0, 60)), vI (A.length : Int), vI F, vI (prc ρ A)] mi n mr Q
theorem u_tryValues (hL : Lay G mr) {mi : MI} {x k : Nat} {ρ : Int → Int} {A : List PR} {F c lim0 : Int} {X : List PR → Prop} (hcel : mr 2 50 0 = some (0, 63)) (hmlw : mr 0 60 4 = some (x, 20)) (hx : okI G 20 x) (hk : k ≤ 3) (hV : VC (clR ρ)) (hP : Pth ρ A) (hl : A.length < k) (hc0 : 0 ≤ c) (hc1 : c < 24) (hcA : ∀ q ∈ A, q.1 ≠ c) (hF : tB F c.toNat = true) (hFA : ∀ q ∈ A, tB F q.1.toNat = true) (down : ∀ v, A.length + 1 < k → Pth ρ (A ++ [(c, v)]) → Grw (d+4) n mr ρ k x lim0 (A ++ [(c, v)])) (hM : Mc mi ρ k x) (hA : ag (clR (rowA ρ A)) (clM mi 0)) (hC : Cho mi A) (hAs : AskB mi A.length ρ A (ρ 16)) (hBr : A.length + 1 = k → ∀ l, Brk ρ A l → c ∈ askA (clR (rowA ρ A)) (lawC ρ l)) (hT : Tm ρ k lim0 X mi) (hD : ∀ L, Tc ρ k A F c L → ¬ X L) (hQ : ∀ mi', Cg (pGr k) mi mi' → Kp A.length mi mi' → mi' A.length 68 = mi A.length 68 → ag (clR (rowA ρ A)) (clM mi' 0) → Tm ρ k lim0 (fun L => X L ∨ Tc ρ k A F c L) mi' → Q (vX 0) mi' n mr) : Tx (d+5) mt_X4_tryValues [vR (some (0, 60)), vI (A.length : Int), vI c, vI F, vI (prc ρ A)] mi n mr Q := by
  have hlo := loC_rg c
  have hhi := hiC_rg c
  have hMB := hM.2.1
  have hpa := prc_mb hMB hP.ok
  have h9 := hM.1
  have hlaw : ∀ l, 0 ≤ l → l < ρ 16 → Law (lawC ρ l) := fun l a b => (hM.2.2.2.2 l a b).2.2.2.2
  have hwas : mi 0 63 c = ρ (30 + c) := by
    have := hA c hc0 hc1
    rw [show mi 0 63 c = clM mi 0 c from rfl, this]
    exact rowA_not (fun q hq z => hcA q hq (by omega))
  have hlat : 0 ≤ mi 0 60 8 * (mi 0 60 9 - (A.length : Int) - 1) ∧ mi 0 60 8 * (mi 0 60 9 - (A.length : Int) - 1) ≤ 27 := by
    have h8 := hMB.2
    have : mi 0 60 9 - (A.length : Int) - 1 = 0 ∨ mi 0 60 9 - (A.length : Int) - 1 = 1 ∨ mi 0 60 9 - (A.length : Int) - 1 = 2 := by omega
    rcases this with e | e | e <;> rw [e] <;> omega
  refine tx_intro (ls := [vR (some (0, 60)), vI (A.length : Int), vI c, vI F, vI (prc ρ A), vX 0, vX 0, vX 0, vX 0, vX 0]) om_X4_tryValues rfl (Nat.le_of_ble_eq_true rfl) ?_
  generalize hla : mi 0 60 8 * (mi 0 60 9 - (A.length : Int) - 1) = lat at *
  have loop : ∀ (r : Nat) (v : Int) (m : MI) (x9 : V), v + r = hiC c + 1 → loC c ≤ v → Cg (pGr k) mi m → Kp A.length mi m → m A.length 68 = mi A.length 68 → (∀ e, 0 ≤ e → e < 24 → e ≠ c → m 0 63 e = rowA ρ A (30 + e)) → Tm ρ k lim0 (fun L => X L ∨ (Tc ρ k A F c L ∧ ∃ u, (c, u) ∈ L ∧ u < v)) m → Run (d+5) mt_X4_tryValues Q (n, mr, 0, 0) m 35 [vR (some (0, 60)), vI (A.length : Int), vI c, vI F, vI (prc ρ A), vI (ρ (30 + c)), vI lat, vI (hiC c), vI v, x9] [] := by
    intro r
    induction r with
    | zero =>
      intro v m x9 hv hlv gC gK g68 gc gT
      refine s_iload (dc kc_X4_tryValues_0 21 rfl) rfl <| s_iload (dc kc_X4_tryValues_0 22 rfl) rfl <| s_icmp_gt (tgt := 160) (dc kc_X4_tryValues_0 23 rfl) rfl (fun c39 => (r_aload_n (dc kc_X4_tryValues_2 10 rfl) rfl <| s_getA (dc kc_X4_tryValues_2 11 rfl) fl_X4_39 (ly_60_5 hL) <| s_iload_n (dc kc_X4_tryValues_2 12 rfl) rfl <| s_iload (dc kc_X4_tryValues_2 13 rfl) rfl <| s_iastore (dc kc_X4_tryValues_2 14 rfl) rfl (by first | omega | (simp [up] <;> omega)) (by first | omega | (simp [up] <;> omega)) <| s_return (dc kc_X4_tryValues_2 15 rfl) rfl (Nat.zero_le _) (Nat.zero_le _) ?_)) (fun c39 => (?_))
      · refine hQ _ (gC.up (by simp [pGr])) ⟨fun i a b => by rw [up_j (by decide)]; exact gK.1 i a b, fun e a => by rw [up_j (by decide)]; exact gK.2 e a⟩ (by rw [up_j (by decide)]; exact g68) (fun e a b => ?_) ((gT.mv (by rw [up_j (by decide)]) (by rw [up_j (by decide)]) (by rw [up_j (by decide)])).iff (fun L => ?_))
        · show up m 0 63 c (ρ (30 + c)) 0 63 e = rowA ρ A (30 + e)
          by_cases z : e = c
          · rw [z, up_at, rowA_not (fun q hq w => hcA q hq (by omega))]
          · rw [up_k z]; exact gc e a b z
        · constructor
          · rintro (z | z)
            · exact Or.inl z
            · obtain ⟨w, hw⟩ := z.2.2.2.1
              have := biC_lh.mp (z.1.2.1.2 _ hw).2.2.1
              exact Or.inr ⟨z, w, hw, by simp at this; omega⟩
          · rintro (z | z)
            · exact Or.inl z
            · exact Or.inr z.1
      · exfalso; omega
    | succ r ih =>
      intro v m x9 hv hlv gC gK g68 gc gT
      have hM' := hM.mv gC
      have hpr := prR_mb hM'.2.1 (c := c) (v := v) hc0 hc1 (by omega)
      have hpr1 := prR_1 (ρ := ρ) (c := c) (v := v)
      have nxt : ∀ (m' : MI) (x9 : V), Cg (pGr k) mi m' → Kp A.length mi m' → m' A.length 68 = mi A.length 68 → (∀ e, 0 ≤ e → e < 24 → e ≠ c → m' 0 63 e = rowA ρ A (30 + e)) → Tm ρ k lim0 (fun L => X L ∨ (Tc ρ k A F c L ∧ ∃ u, (c, u) ∈ L ∧ u < v + 1)) m' → Run (d+5) mt_X4_tryValues Q (n, mr, 0, 0) m' 154 [vR (some (0, 60)), vI (A.length : Int), vI c, vI F, vI (prc ρ A), vI (ρ (30 + c)), vI lat, vI (hiC c), vI v, x9] [] := by
        intro m' x9 q1 q2 q3 q4 q5
        refine b_inc8 (dc kc_X4_tryValues_2 8 rfl) rfl (Nat.le_of_ble_eq_true rfl) rfl (by first | omega | (simp [up] <;> omega)) (by first | omega | (simp [up] <;> omega)) <| s_goto (tgt := 35) (dc kc_X4_tryValues_2 9 rfl) rfl <| ?_
        exact ih (v + 1) m' x9 (by omega) (by omega) q1 q2 q3 q4 q5
      refine s_iload (dc kc_X4_tryValues_0 21 rfl) rfl <| s_iload (dc kc_X4_tryValues_0 22 rfl) rfl <| s_icmp_gt (tgt := 160) (dc kc_X4_tryValues_0 23 rfl) rfl (fun c39 => (?_)) (fun c39 => (s_iload (dc kc_X4_tryValues_0 24 rfl) rfl <| r_aload_n (dc kc_X4_tryValues_0 25 rfl) rfl <| s_iload_n (dc kc_X4_tryValues_0 26 rfl) rfl <| s_iload (dc kc_X4_tryValues_0 27 rfl) rfl <| c_v2r (dc kc_X4_tryValues_0 28 rfl) cl_X4_168 rfl (Nat.le_of_ble_eq_true rfl) (Nat.zero_le _) (Nat.zero_le _) ?_))
      · exfalso; omega
      · refine u_mpriceOf hL hM'.2.1 hc0 hc1 (by omega) ?_
        -- none with another value of this cell
        have uniq : ∀ {L : List PR} {u w : Int}, Tc ρ k A F c L → (c, u) ∈ L → (c, w) ∈ L → u = w := fun {L u w} z h1 h2 => by
          have a := rowA_mem (ρ := ρ) z.1.2.1.1 h1
          have b := rowA_mem (ρ := ρ) z.1.2.1.1 h2
          rw [← a, ← b]
        -- what is told once this value is done
        have told : ∀ (m' : MI) (Y : List PR → Prop), Tm ρ k lim0 Y m' → (∀ L, Y L ↔ (X L ∨ (Tc ρ k A F c L ∧ ∃ u, (c, u) ∈ L ∧ u < v)) ∨ (Tc ρ k A F c L ∧ (c, v) ∈ L)) → Tm ρ k lim0 (fun L => X L ∨ (Tc ρ k A F c L ∧ ∃ u, (c, u) ∈ L ∧ u < v + 1)) m' := fun m' Y h hY => h.iff (fun L => by
          rw [hY L]
          constructor
          · rintro (z | ⟨z, u, h1, h2⟩)
            · exact Or.inl (Or.inl z)
            · by_cases e : u = v
              · subst e; exact Or.inr ⟨z, h1⟩
              · exact Or.inl (Or.inr ⟨z, u, h1, by omega⟩)
          · rintro ((z | ⟨z, u, h1, h2⟩) | ⟨z, h1⟩)
            · exact Or.inl z
            · exact Or.inr ⟨z, u, h1, by omega⟩
            · exact Or.inr ⟨z, v, h1, by omega⟩)
        refine b_iadd (dc kc_X4_tryValues_0 29 rfl) (by first | omega | (simp [up] <;> omega)) (by first | omega | (simp [up] <;> omega)) <| t_i9 (dc kc_X4_tryValues_0 30 rfl) (Nat.le_of_ble_eq_true rfl) rfl <| s_iload (dc kc_X4_tryValues_0 31 rfl) rfl <| s_iload (dc kc_X4_tryValues_0 32 rfl) rfl <| s_icmp_eq (tgt := 154) (dc kc_X4_tryValues_0 33 rfl) rfl (fun c58 => (?_)) (fun c58 => (s_iload (dc kc_X4_tryValues_0 34 rfl) rfl <| s_iload (dc kc_X4_tryValues_0 35 rfl) rfl <| b_iadd (dc kc_X4_tryValues_0 36 rfl) (by first | omega | (simp [up] <;> omega)) (by first | omega | (simp [up] <;> omega)) <| r_aload_n (dc kc_X4_tryValues_0 37 rfl) rfl <| s_getI (dc kc_X4_tryValues_0 38 rfl) fl_X4_54 <| s_icmp_le (tgt := 76) (dc kc_X4_tryValues_0 39 rfl) rfl (fun c70 => (?_)) (fun c70 => (s_goto (tgt := 154) (dc kc_X4_tryValues_1 0 rfl) rfl <| ?_))))
        · refine nxt m _ gC gK g68 gc (told m _ gT (fun L => ⟨Or.inl, ?_⟩))
          rintro (z | ⟨z, h1⟩)
          · exact z
          · exact absurd c58 (z.1.2.1.2 _ h1).2.2.2
        · have hb : biC c v = 1 := biC_lh.mpr ⟨hlv, by omega⟩
          have hP' := hP.snoc hcA hc0 hc1 hb c58
          have ecd : bOr (bShl c 4) (v + 1) = cod (c, v) := by rw [or4 hc0 (by omega) (by omega) (by omega)]; unfold cod; simp; omega
          refine r_aload_n (dc kc_X4_tryValues_1 1 rfl) rfl <| s_getA (dc kc_X4_tryValues_1 2 rfl) fl_X4_39 (ly_60_5 hL) <| s_iload_n (dc kc_X4_tryValues_1 3 rfl) rfl <| s_iload (dc kc_X4_tryValues_1 4 rfl) rfl <| s_iastore (dc kc_X4_tryValues_1 5 rfl) rfl (by first | omega | (simp [up] <;> omega)) (by first | omega | (simp [up] <;> omega)) <| r_aload_n (dc kc_X4_tryValues_1 6 rfl) rfl <| s_getA (dc kc_X4_tryValues_1 7 rfl) fl_X4_57 (ly_60_11 hL) <| s_iload_n (dc kc_X4_tryValues_1 8 rfl) rfl <| s_iload_n (dc kc_X4_tryValues_1 9 rfl) rfl <| k_i (dc kc_X4_tryValues_1 10 rfl) rfl <| s_ishl (dc kc_X4_tryValues_1 11 rfl) <| s_iload (dc kc_X4_tryValues_1 12 rfl) rfl <| k_i (dc kc_X4_tryValues_1 13 rfl) rfl <| b_iadd (dc kc_X4_tryValues_1 14 rfl) (by first | omega | (simp [up] <;> omega)) (by first | omega | (simp [up] <;> omega)) <| s_ior (dc kc_X4_tryValues_1 15 rfl) <| s_iastore (dc kc_X4_tryValues_1 16 rfl) rfl (by first | omega | (simp [up] <;> omega)) (by first | omega | (simp [up] <;> omega)) <| ?_
          rw [ecd]
          have gC2 : Cg (pGr k) mi (up (up m 0 63 c v) 0 66 A.length (cod (c, v))) := (gC.up (by simp [pGr])).up (by simp [pGr])
          have e63 : ∀ e, 0 ≤ e → e < 24 → e ≠ c → up (up m 0 63 c v) 0 66 A.length (cod (c, v)) 0 63 e = rowA ρ A (30 + e) := fun e a b z => by rw [up_j (by decide), up_k z]; exact gc e a b z
          have e63c : up (up m 0 63 c v) 0 66 A.length (cod (c, v)) 0 63 c = v := by rw [up_j (by decide), up_at]
          have ge : ag (clR (rowA ρ (A ++ [(c, v)]))) (clM (up (up m 0 63 c v) 0 66 A.length (cod (c, v))) 0) := fun e a b => by
            show _ = rowA ρ (A ++ [(c, v)]) (30 + e)
            rw [rowA_snoc]
            by_cases z : e = c
            · subst z; rw [ud_at]; exact e63c
            · rw [ud_ne (by simp; omega)]; exact e63 e a b z
          have gK2 : Kp A.length mi (up (up m 0 63 c v) 0 66 A.length (cod (c, v))) := ⟨fun i a b => by rw [up_k (by omega), up_j (by decide)]; exact gK.1 i a b, fun e a => by rw [up_j (by decide), up_j (by decide)]; exact gK.2 e a⟩
          have gCh : Cho (up (up m 0 63 c v) 0 66 A.length (cod (c, v))) (A ++ [(c, v)]) := fun i q z => by
            have hi := (List.getElem?_eq_some_iff.mp z).1
            rw [List.length_append] at hi
            simp at hi
            by_cases e : i < A.length
            · rw [List.getElem?_append_left e] at z
              exact (hC.kp gK2 (Nat.le_refl _)) i q z
            · have : i = A.length := by omega
              subst this
              rw [List.getElem?_append_right (Nat.le_refl _), Nat.sub_self] at z
              cases z
              rw [up_at]
          have g682 : up (up m 0 63 c v) 0 66 A.length (cod (c, v)) A.length 68 = mi A.length 68 := by rw [up_j (by decide), up_j (by decide)]; exact g68
          have gT2 := gT.mv (mi' := up (up m 0 63 c v) 0 66 A.length (cod (c, v))) (by rw [up_j (by decide), up_j (by decide)]) (by rw [up_j (by decide), up_j (by decide)]) (by rw [up_j (by decide), up_j (by decide)])
          have e10 : up (up m 0 63 c v) 0 66 A.length (cod (c, v)) 0 60 10 = m 0 60 10 := by rw [up_j (by decide), up_j (by decide)]
          generalize up (up m 0 63 c v) 0 66 A.length (cod (c, v)) = m2 at *
          have hM2 := hM.mv gC2
          have h92 := hM2.1
          have dis : ∀ L, Ts ρ k (A ++ [(c, v)]) F L → ¬ (X L ∨ (Tc ρ k A F c L ∧ ∃ u, (c, u) ∈ L ∧ u < v)) := fun L hL' z => by
            obtain ⟨z1, z2⟩ := (Ts_snoc hF).mp hL'
            rcases z with z | ⟨_, u, h1, h2⟩
            · exact hD L z1 z
            · have := uniq z1 h1 z2; omega
          have hFA2 : ∀ q ∈ A ++ [(c, v)], tB F q.1.toNat = true := fun q hq => by
            rcases List.mem_append.mp hq with z | z
            · exact hFA q z
            · rw [List.mem_singleton] at z; rw [z]; exact hF
          have hl1 : (((A ++ [(c, v)]).length : Nat) : Int) = (A.length : Int) + 1 := by rw [List.length_append]; rfl
          have hpc := prc_snoc (ρ := ρ) (A := A) (c := c) (v := v)
          refine s_iload_n (dc kc_X4_tryValues_1 17 rfl) rfl <| k_i (dc kc_X4_tryValues_1 18 rfl) rfl <| b_iadd (dc kc_X4_tryValues_1 19 rfl) (by first | omega | (simp [up] <;> omega)) (by first | omega | (simp [up] <;> omega)) <| r_aload_n (dc kc_X4_tryValues_1 20 rfl) rfl <| s_getI (dc kc_X4_tryValues_1 21 rfl) fl_X4_51 <| s_icmp_ge (tgt := 121) (dc kc_X4_tryValues_1 22 rfl) rfl (fun c105 => (r_aload_n (dc kc_X4_tryValues_1 31 rfl) rfl <| s_iload_n (dc kc_X4_tryValues_1 32 rfl) rfl <| s_iload_n (dc kc_X4_tryValues_1 33 rfl) rfl <| c_v2r (dc kc_X4_tryValues_1 34 rfl) cl_X4_171 rfl (Nat.le_of_ble_eq_true rfl) (Nat.zero_le _) (Nat.zero_le _) ?_)) (fun c105 => (r_aload_n (dc kc_X4_tryValues_1 23 rfl) rfl <| s_iload_n (dc kc_X4_tryValues_1 24 rfl) rfl <| k_i (dc kc_X4_tryValues_1 25 rfl) rfl <| b_iadd (dc kc_X4_tryValues_1 26 rfl) (by first | omega | (simp [up] <;> omega)) (by first | omega | (simp [up] <;> omega)) <| s_iload_n (dc kc_X4_tryValues_1 27 rfl) rfl <| s_iload (dc kc_X4_tryValues_1 28 rfl) rfl <| c_v3 (dc kc_X4_tryValues_1 29 rfl) cl_X4_126 rfl (Nat.le_of_ble_eq_true rfl) (Nat.zero_le _) (Nat.zero_le _) ?_))
          · -- the last change
            have hlast : A.length + 1 = k := by omega
            have hVA := VC_rowA hV hP
            have hAs2 : AskB m2 A.length ρ A (ρ 16) := fun l a b => by rw [g682]; exact hAs l a b
            have hlen' : (A ++ [(c, v)]).length = k := by rw [List.length_append]; exact hlast
            refine u_holdsWith (A := A) hL hcel hmlw hx (by omega) hc0 hc1 (VC_rowA hV hP') hM2.2.2 ge hAs2 (fun hall m3 g3 => ?_) (fun hbr m3 g3 => ?_)
            · have hold : Hold ρ (A ++ [(c, v)]) := fun l a b => by
                by_cases e : c ∈ askA (clR (rowA ρ A)) (lawC ρ l)
                · exact hall l a b e
                · have hlw := hlaw l a b
                  have hle := law_ev hVA hlw
                  have hloc := law_loc (c' := clR (rowA ρ (A ++ [(c, v)]))) hVA hlw (fun y hy => by
                    show rowA ρ (A ++ [(c, v)]) (30 + y) = rowA ρ A (30 + y)
                    rw [rowA_snoc, ud_ne (fun w => e (by have : y = c := by simp at w; omega
                                                         rw [← this]; exact hy))])
                  rw [hloc.1]
                  rcases hle.2.1 with w | w
                  · exact absurd (hBr hlast l ⟨a, b, w⟩) e
                  · exact w
              obtain ⟨P, K, hML, hTol⟩ := gT2
              have r7 : m3 k 57 = m2 k 57 := g3.row (fun i => by simp [pQ])
              have r8 : m3 k 58 = m2 k 58 := g3.row (fun i => by simp [pQ])
              have r10 : m3 0 60 10 = m 0 60 10 := by rw [g3.at (by simp [pQ]), e10]
              have r9 : m3 0 60 9 = (k : Int) := by rw [g3.at (by simp [pQ])]; exact h92
              refine s_if_eq (tgt := 154) (dc kc_X4_tryValues_1 35 rfl) rfl (fun c127 => (?_)) (fun c127 => (r_aload_n (dc kc_X4_tryValues_1 36 rfl) rfl <| s_iload (dc kc_X4_tryValues_1 37 rfl) rfl <| s_putI (dc kc_X4_tryValues_1 38 rfl) fl_X4_54 <| ?_))
              · exfalso; omega
              rw [← hpc]
              have u9 : up m3 0 60 10 (prc ρ (A ++ [(c, v)])) 0 60 9 = (k : Int) := by rw [up_k (by decide)]; exact r9
              have uML : ML (up m3 0 60 10 (prc ρ (A ++ [(c, v)]))) k k P K := (hML.mv r7 r8).mv (by rw [up_j (by decide)]) (by rw [up_j (by decide)])
              have uCh : Cho (up m3 0 60 10 (prc ρ (A ++ [(c, v)]))) (A ++ [(c, v)]) := fun i q z => by rw [up_j (by decide), g3.at (by simp [pQ])]; exact gCh i q z
              have u10 : up m3 0 60 10 (prc ρ (A ++ [(c, v)])) 0 60 10 = prc ρ (A ++ [(c, v)]) := up_at
              have gC4 : Cg (pGr k) mi (up m3 0 60 10 (prc ρ (A ++ [(c, v)]))) := (gC2.tr (g3.mono (fun a b i z => by simp [pGr, z]))).up (by simp [pGr])
              have gK4 : Kp A.length mi (up m3 0 60 10 (prc ρ (A ++ [(c, v)]))) := ⟨fun i a b => by rw [up_j (by decide), g3.at (by simp [pQ])]; exact gK2.1 i a b, fun e a => by rw [up_j (by decide), g3.row (fun i => by simp [pQ])]; exact gK2.2 e a⟩
              have g684 : up m3 0 60 10 (prc ρ (A ++ [(c, v)])) A.length 68 = mi A.length 68 := by rw [up_j (by decide), g3.row (fun i => by simp [pQ])]; exact g682
              have e634 : ∀ e, 0 ≤ e → e < 24 → e ≠ c → up m3 0 60 10 (prc ρ (A ++ [(c, v)])) 0 63 e = rowA ρ A (30 + e) := fun e a b z => by rw [up_j (by decide), g3.at (by simp [pQ])]; exact e63 e a b z
              generalize up m3 0 60 10 (prc ρ (A ++ [(c, v)])) = m4 at *
              have haa : mr 0 61 (m4 0 60 9) = some (k, 57) := by
                rw [u9]
                have : k = 1 ∨ k = 2 ∨ k = 3 := by omega
                rcases this with rfl | rfl | rfl
                · exact ly_61_1 hL
                · exact ly_61_2 hL
                · exact ly_61_3 hL
              refine r_aload_n (dc kc_X4_tryValues_1 39 rfl) rfl <| s_getA (dc kc_X4_tryValues_2 0 rfl) fl_X4_20 (ly_60_1 hL) <| r_aload_n (dc kc_X4_tryValues_2 1 rfl) rfl <| s_getI (dc kc_X4_tryValues_2 2 rfl) fl_X4_51 <| s_aaload (dc kc_X4_tryValues_2 3 rfl) rfl (by decide) (by first | omega | (simp [up] <;> omega)) (by first | omega | (simp [up] <;> omega)) haa <| r_aload_n (dc kc_X4_tryValues_2 4 rfl) rfl <| c_v0r (dc kc_X4_tryValues_2 5 rfl) cl_X4_175 rfl (Nat.le_of_ble_eq_true rfl) (Nat.zero_le _) (Nat.zero_le _) ?_
              refine u_rowOfChosen hL (by rw [u9, hlen']) (by omega) (by omega) uCh hP'.1 hP'.ok ?_
              refine s_iload (dc kc_X4_tryValues_2 6 rfl) rfl <| c_v2 (dc kc_X4_tryValues_2 7 rfl) cl_X4_119 rfl (Nat.le_of_ble_eq_true rfl) (Nat.zero_le _) (Nat.zero_le _) ?_
              have hmn := Mnd_srt hP' hold
              have hsl : (srt (A ++ [(c, v)])).length = k := by rw [(srt_perm _).length_eq]; exact hlen'
              have hsp : prc ρ (srt (A ++ [(c, v)])) = prc ρ (A ++ [(c, v)]) := prc_perm (srt_perm _)
              have hts : Ts ρ k (A ++ [(c, v)]) F (srt (A ++ [(c, v)])) := (Ts_last hP' hlen').mpr ⟨hold, rfl⟩
              have hlen := hTol.len hk hML.2.2.2.1
              have hple : prc ρ (A ++ [(c, v)]) ≤ m2 0 60 10 := by rw [e10, hpc]; omega
              refine u_madd hL (by omega) uML (by omega) (fun hne => by have := hTol.2.2.2.1 hne; omega) (fun hne ep hin => ?_) (fun m5 K' g5 ML5 mem5 _ => ?_)
              · obtain ⟨L, w1, w2, w3⟩ := (hTol.2.2.2.2 _).mp hin
                have w4 := hTol.2.1 L w1
                have : L = srt (A ++ [(c, v)]) := key5_inj w4.2.1 hsl w4.1.ok hmn.ok w3
                subst this
                exact dis _ hts w1
              · refine b_inc8 (dc kc_X4_tryValues_2 8 rfl) rfl (Nat.le_of_ble_eq_true rfl) rfl (by first | omega | (simp [up] <;> omega)) (by first | omega | (simp [up] <;> omega)) <| s_goto (tgt := 35) (dc kc_X4_tryValues_2 9 rfl) rfl <| ?_
                have T5 := hTol.add hmn hsl hsp hple mem5
                have m510 : m5 0 60 10 = prc ρ (A ++ [(c, v)]) := by rw [g5.at (by simp [pML])]; exact u10
                have tm5 : Tm ρ k lim0 (fun L' => (X L' ∨ (Tc ρ k A F c L' ∧ ∃ u, (c, u) ∈ L' ∧ u < v)) ∨ L' = srt (A ++ [(c, v)])) m5 := ⟨_, K', ML5, by rw [m510]; exact T5⟩
                refine ih (v + 1) m5 _ (by omega) (by omega) (gC4.tr (g5.mono (fun a b i z => by simp [pGr, z]))) (gK4.tr ⟨fun i a b => g5.at (by simp [pML]), fun e a => g5.row (fun i => by simp [pML])⟩) (by rw [g5.row (fun i => by simp [pML])]; exact g684) (fun e a b z => by rw [g5.at (by simp [pML])]; exact e634 e a b z) (told m5 _ tm5 (fun L => ?_))
                rw [← Ts_snoc hF, Ts_last hP' hlen']
                exact ⟨fun z => z.imp_right (fun w => ⟨hold, w⟩), fun z => z.imp_right (fun w => w.2)⟩
            · refine s_if_eq (tgt := 154) (dc kc_X4_tryValues_1 35 rfl) rfl (fun c127 => (?_)) (fun c127 => (?_))
              · have gT3 := gT2.mv (mi' := m3) (g3.row (fun i => by simp [pQ])) (g3.row (fun i => by simp [pQ])) (g3.at (by simp [pQ]))
                refine nxt m3 _ (gC2.tr (g3.mono (fun a b i z => by simp [pGr, z]))) (gK2.tr ⟨fun i a b => g3.at (by simp [pQ]), fun e a => g3.row (fun i => by simp [pQ])⟩) (by rw [g3.row (fun i => by simp [pQ])]; exact g682) (fun e a b z => by rw [g3.at (by simp [pQ])]; exact e63 e a b z) (told m3 _ gT3 (fun L => ⟨Or.inl, ?_⟩))
                rw [← Ts_snoc hF, Ts_last hP' hlen']
                rintro (z | z)
                · exact z
                · obtain ⟨l, w⟩ := hbr
                  exact absurd w ((Hold_brk (VC_rowA hV hP') hlaw).mp z.1 l)
              · exfalso; omega
          · rw [← hl1, ← hpc]
            refine down v (by omega) hP' F m2 _ _ hM2 ge gCh hFA2 gT2 dis (fun m3 g3 k3 a3 t3 => ?_)
            refine s_goto (tgt := 154) (dc kc_X4_tryValues_1 30 rfl) rfl <| ?_
            refine nxt m3 _ (gC2.tr g3) (gK2.tr (k3.le (by simp))) (by rw [k3.2 A.length (by simp)]; exact g682) (fun e a b z => ?_) (told m3 _ t3 (fun L => by rw [Ts_snoc hF]))
            have := a3 e a b
            rw [show m3 0 63 e = clM m3 0 e from rfl, this]
            show rowA ρ (A ++ [(c, v)]) (30 + e) = _
            rw [rowA_snoc, ud_ne (by simp; omega)]
        · refine nxt m _ gC gK g68 gc (told m _ (gT.more (X' := fun L => (X L ∨ (Tc ρ k A F c L ∧ ∃ u, (c, u) ∈ L ∧ u < v)) ∨ (Tc ρ k A F c L ∧ (c, v) ∈ L)) (fun L z => Or.inl z) (fun L z => ?_)) (fun L => Iff.rfl))
          rcases z with z | ⟨z, h1⟩
          · exact Or.inl z
          · right
            refine ⟨z.1, z.2.1, ?_⟩
            have hb := (z.1.2.1.2 _ h1).2.2
            have hP' := hP.snoc hcA hc0 hc1 hb.1 hb.2
            have := prc_subC (ρ := ρ) (ch := mi 0 60 8) (A := A ++ [(c, v)]) (L := L) (fun c v a b e => ((hMB.1 c a b).2 v e).2) (nodup_of_fst hP'.1) (nodup_of_fst z.1.2.1.1) z.1.ok (fun q hq => by
              rcases List.mem_append.mp hq with w | w
              · exact z.2.2.1 q w
              · rw [List.mem_singleton] at w; rw [w]; exact h1)
            rw [prc_snoc, List.length_append, z.2.1, show ((k : Int) - ((A.length + [(c, v)].length : Nat) : Int)) = mi 0 60 9 - (A.length : Int) - 1 by rw [h9]; simp; omega, hla] at this
            omega
  refine r_aload_n (dc kc_X4_tryValues_0 0 rfl) rfl <| s_getA (dc kc_X4_tryValues_0 1 rfl) fl_X4_39 (ly_60_5 hL) <| s_iload_n (dc kc_X4_tryValues_0 2 rfl) rfl <| s_iaload (dc kc_X4_tryValues_0 3 rfl) rfl (by first | omega | (simp [up] <;> omega)) (by first | omega | (simp [up] <;> omega)) <| t_i5 (dc kc_X4_tryValues_0 4 rfl) (Nat.le_of_ble_eq_true rfl) rfl <| r_aload_n (dc kc_X4_tryValues_0 5 rfl) rfl <| s_getI (dc kc_X4_tryValues_0 6 rfl) fl_X4_48 <| r_aload_n (dc kc_X4_tryValues_0 7 rfl) rfl <| s_getI (dc kc_X4_tryValues_0 8 rfl) fl_X4_51 <| s_iload_n (dc kc_X4_tryValues_0 9 rfl) rfl <| b_isub (dc kc_X4_tryValues_0 10 rfl) (by first | omega | (simp [up] <;> omega)) (by first | omega | (simp [up] <;> omega)) <| k_i (dc kc_X4_tryValues_0 11 rfl) rfl <| b_isub (dc kc_X4_tryValues_0 12 rfl) (by first | omega | (simp [up] <;> omega)) (by first | omega | (simp [up] <;> omega)) <| b_imul (dc kc_X4_tryValues_0 13 rfl) (by first | omega | (simp [up] <;> omega)) (by first | omega | (simp [up] <;> omega)) <| t_i6 (dc kc_X4_tryValues_0 14 rfl) (Nat.le_of_ble_eq_true rfl) rfl <| s_iload_n (dc kc_X4_tryValues_0 15 rfl) rfl <| c_s1r (dc kc_X4_tryValues_0 16 rfl) cl_X4_162 rfl (Nat.le_of_ble_eq_true rfl) (Nat.zero_le _) (Nat.zero_le _) <| u_highestOf (by first | omega | (simp [up] <;> omega)) <| t_i7 (dc kc_X4_tryValues_0 17 rfl) (Nat.le_of_ble_eq_true rfl) rfl <| s_iload_n (dc kc_X4_tryValues_0 18 rfl) rfl <| c_s1r (dc kc_X4_tryValues_0 19 rfl) cl_X4_165 rfl (Nat.le_of_ble_eq_true rfl) (Nat.zero_le _) (Nat.zero_le _) <| u_lowestOf (by first | omega | (simp [up] <;> omega)) <| t_i8 (dc kc_X4_tryValues_0 20 rfl) (Nat.le_of_ble_eq_true rfl) rfl <| ?_
  rw [hla, hwas]
  have hlh : loC c ≤ hiC c := by omega
  refine loop (hiC c + 1 - loC c).toNat (loC c) mi _ (by omega) (Int.le_refl _) Cg.rf Kp.rf rfl (fun e a b z => hA e a b) (hT.iff (fun L => ⟨?_, Or.inl⟩))
  rintro (z | ⟨z, u, h1, h2⟩)
  · exact z
  · have := biC_lh.mp (z.1.2.1.2 _ h1).2.2.1
    simp at this
    omega
theorem u_grow1 (hL : Lay G mr) {x k : Nat} {ρ : Int → Int} {A : List PR} {lim0 : Int} (hcel : mr 2 50 0 = some (0, 63)) (hmlw : mr 0 60 4 = some (x, 20)) (hx : okI G 20 x) (hk : k ≤ 3) (hV : VC (clR ρ)) (hns : ∀ L, Mnd ρ L → L.length < k → lim0 < prc ρ L) (hP : Pth ρ A) (hl : A.length < k) (down : ∀ c v, A.length + 1 < k → Pth ρ (A ++ [(c, v)]) → Grw (d+4) n mr ρ k x lim0 (A ++ [(c, v)])) : Grw (d+6) n mr ρ k x lim0 A := by
  intro F mi X Q hM hA hC hFA hT hD hQ
  have h9 := hM.1
  have hlaw : ∀ l, 0 ≤ l → l < ρ 16 → Law (lawC ρ l) := fun l a b => (hM.2.2.2.2 l a b).2.2.2.2
  have hVA := VC_rowA hV hP
  have hpa := prc_mb hM.2.1 hP.ok
  refine tx_intro (ls := [vR (some (0, 60)), vI (A.length : Int), vI F, vI (prc ρ A), vX 0, vX 0, vX 0]) om_X4_grow rfl (Nat.le_of_ble_eq_true rfl) ?_
  refine s_iload_n (dc kc_X4_grow_0 0 rfl) rfl <| r_aload_n (dc kc_X4_grow_0 1 rfl) rfl <| s_getI (dc kc_X4_grow_0 2 rfl) fl_X4_51 <| s_icmp_ge (tgt := 13) (dc kc_X4_grow_0 3 rfl) rfl (fun c5 => (s_return (dc kc_X4_grow_0 7 rfl) rfl (Nat.zero_le _) (Nat.zero_le _) ?_)) (fun c5 => (s_iload_n (dc kc_X4_grow_0 4 rfl) rfl <| k_i (dc kc_X4_grow_0 5 rfl) rfl <| s_icmp_lt (tgt := 14) (dc kc_X4_grow_0 6 rfl) rfl (fun c10 => (r_aload_n (dc kc_X4_grow_0 8 rfl) rfl <| s_iload_n (dc kc_X4_grow_0 9 rfl) rfl <| s_iload_n (dc kc_X4_grow_0 10 rfl) rfl <| c_v2r (dc kc_X4_grow_0 11 rfl) cl_X4_133 rfl (Nat.le_of_ble_eq_true rfl) (Nat.zero_le _) (Nat.zero_le _) ?_)) (fun c10 => (s_return (dc kc_X4_grow_0 7 rfl) rfl (Nat.zero_le _) (Nat.zero_le _) ?_))))
  · exfalso; omega
  · refine u_cellsToTry hL hcel hmlw hx (by omega) h9 (by omega) hVA hM.2.2 hA (fun m1 fr g1 as1 hTry hbz => ?_)
    have g1' : Cg (pGr k) mi m1 := g1.mono (fun a b i z => by simp [pTr] at z; simp [pGr]; rcases z with z | z <;> simp [z])
    have k1 : Kp A.length mi m1 := ⟨fun i a b => g1.at (by simp [pTr, pQ]), fun e a => g1.row (fun i => by simp [pTr, pQ]; omega)⟩
    have a1 : ag (clR (rowA ρ A)) (clM m1 0) := fun e a b => by
      show m1 0 63 e = _
      rw [g1.at (by simp [pTr, pQ])]; exact hA e a b
    have t1 := hT.mv (mi' := m1) (g1.row (fun i => by simp [pTr, pQ])) (g1.row (fun i => by simp [pTr, pQ])) (g1.at (by simp [pTr, pQ]))
    have hfree : ∀ j : Nat, j < 32 → tB fr j = true → tB F j = false := fun j hj hb => by
      rcases hTry with ⟨z, _⟩ | ⟨_, z⟩ | ⟨_, l, _, z⟩
      · rw [z, tB_0] at hb; cases hb
      · rcases hbz with ⟨l, w⟩ | w
        · exact ((z j hj).mp hb l w).2
        · rw [w, tB_0] at hb; cases hb
      · exact ((z j hj).mp hb).2
    have hcom : A.length + 1 = k → ∀ j : Nat, j < 32 → tB fr j = true → ∀ l, Brk ρ A l → (j : Int) ∈ askA (clR (rowA ρ A)) (lawC ρ l) := fun e j hj hb l hB => by
      rcases hTry with ⟨z, _⟩ | ⟨_, z⟩ | ⟨z, _⟩
      · rw [z, tB_0] at hb; cases hb
      · exact ((z j hj).mp hb l hB).1
      · exact absurd (by omega) z
    have loop : ∀ i : Nat, i ≤ 24 → ∀ (m : MI) (Cl : Int), (∀ j : Nat, j < 32 → (tB Cl j = true ↔ tB F j = true ∨ (j < i ∧ tB fr j = true))) → Cg (pGr k) mi m → Kp A.length mi m → AskB m A.length ρ A (ρ 16) → ag (clR (rowA ρ A)) (clM m 0) → Tm ρ k lim0 (fun L => X L ∨ (Ts ρ k A F L ∧ ∃ q ∈ L, q ∉ A ∧ q.1 < (i : Int) ∧ tB fr q.1.toNat = true)) m → Run (d+6) mt_X4_grow Q (n, mr, 0, 0) m 28 [vR (some (0, 60)), vI (A.length : Int), vI F, vI (prc ρ A), vI fr, vI Cl, vI (i : Int)] [] := by
      refine nloop ?_
      intro i hi ih m Cl hCl gC gK gA ga gT
      by_cases he : i < 24
      · have ih := ih he
        have hM' := hM.mv gC
        refine s_iload (dc kc_X4_grow_0 17 rfl) rfl <| k_b (dc kc_X4_grow_0 18 rfl) rfl <| s_icmp_ge (tgt := 71) (dc kc_X4_grow_0 19 rfl) rfl (fun c32 => (?_)) (fun c32 => (s_iload (dc kc_X4_grow_0 20 rfl) rfl <| s_iload (dc kc_X4_grow_0 21 rfl) rfl <| s_ishr (dc kc_X4_grow_0 22 rfl) <| k_i (dc kc_X4_grow_0 23 rfl) rfl <| s_iand (dc kc_X4_grow_0 24 rfl) <| k_i (dc kc_X4_grow_0 25 rfl) rfl <| s_icmp_ne (tgt := 65) (dc kc_X4_grow_0 26 rfl) rfl (fun c43 => (?_)) (fun c43 => (?_))))
        · exfalso; omega
        · have c43 : ¬ tB fr i = true := fun z => c43 ((bit1 (by omega) (by omega)).mpr (by rw [Int.toNat_natCast]; exact z))
          refine b_inc6 (dc kc_X4_grow_0 39 rfl) rfl (Nat.le_of_ble_eq_true rfl) rfl (by first | omega | (simp [up] <;> omega)) (by first | omega | (simp [up] <;> omega)) <| s_goto (tgt := 28) (dc kc_X4_grow_1 0 rfl) rfl <| ?_
          refine ih m Cl (fun j hj => ?_) gC gK gA ga (gT.iff (fun L => ?_))
          · rw [hCl j hj]
            constructor
            · rintro (z | ⟨z1, z2⟩)
              · exact Or.inl z
              · exact Or.inr ⟨by omega, z2⟩
            · rintro (z | ⟨z1, z2⟩)
              · exact Or.inl z
              · by_cases e : j = i
                · subst e; exact absurd z2 c43
                · exact Or.inr ⟨by omega, z2⟩
          · constructor
            · rintro (z | ⟨z, q, h1, h2, h3, h4⟩)
              · exact Or.inl z
              · by_cases e : q.1 = i
                · rw [e, Int.toNat_natCast] at h4; exact absurd h4 c43
                · exact Or.inr ⟨z, q, h1, h2, by omega, h4⟩
            · rintro (z | ⟨z, q, h1, h2, h3, h4⟩)
              · exact Or.inl z
              · exact Or.inr ⟨z, q, h1, h2, by omega, h4⟩
        · rw [bit1 (by omega) (by omega), Int.toNat_natCast] at c43
          have hFi := hfree i (by omega) c43
          have hCl2 : ∀ j : Nat, j < 32 → (tB (bOr Cl (bShl 1 i)) j = true ↔ tB F j = true ∨ (j < i + 1 ∧ tB fr j = true)) := fun j hj => by
            rw [tB_or, tB_bit (by omega) (by omega) hj, Bool.or_eq_true, hCl j hj, decide_eq_true_eq, Int.toNat_natCast]
            constructor
            · rintro ((z | ⟨z1, z2⟩) | z)
              · exact Or.inl z
              · exact Or.inr ⟨by omega, z2⟩
              · rw [z]; exact Or.inr ⟨by omega, c43⟩
            · rintro (z | ⟨z1, z2⟩)
              · exact Or.inl (Or.inl z)
              · by_cases e : j = i
                · exact Or.inr e
                · exact Or.inl (Or.inr ⟨by omega, z2⟩)
          have hnA : ∀ q ∈ A, q.1 ≠ (i : Int) := fun q hq e => by
            have := hFA q hq
            rw [e, Int.toNat_natCast, hFi] at this; cases this
          have cell : ∀ {L : List PR}, Mnd ρ L → ∀ q ∈ L, 0 ≤ q.1 ∧ q.1 < 24 := fun h q hq => ⟨(h.2.1.2 q hq).1, (h.2.1.2 q hq).2.1⟩
          refine s_iload (dc kc_X4_grow_0 27 rfl) rfl <| k_i (dc kc_X4_grow_0 28 rfl) rfl <| s_iload (dc kc_X4_grow_0 29 rfl) rfl <| s_ishl (dc kc_X4_grow_0 30 rfl) <| s_ior (dc kc_X4_grow_0 31 rfl) <| t_i5 (dc kc_X4_grow_0 32 rfl) (Nat.le_of_ble_eq_true rfl) rfl <| r_aload_n (dc kc_X4_grow_0 33 rfl) rfl <| s_iload_n (dc kc_X4_grow_0 34 rfl) rfl <| s_iload (dc kc_X4_grow_0 35 rfl) rfl <| s_iload (dc kc_X4_grow_0 36 rfl) rfl <| s_iload_n (dc kc_X4_grow_0 37 rfl) rfl <| c_v4 (dc kc_X4_grow_0 38 rfl) cl_X4_136 rfl (Nat.le_of_ble_eq_true rfl) (Nat.zero_le _) (Nat.zero_le _) ?_
          generalize bOr Cl (bShl 1 i) = Cl2 at *
          have hbf : ∀ {y : Nat}, tB Cl2 y = false → y < 32 → tB F y = false := fun {y} h hy => by
            cases e : tB F y with
            | false => rfl
            | true => rw [(hCl2 y hy).mpr (Or.inl e)] at h; cases h
          have tc_ts : ∀ L, Tc ρ k A Cl2 i L → Ts ρ k A F L := fun L z => ⟨z.1, z.2.1, z.2.2.1, fun q hq hn => by
            have hr := cell z.1 q hq
            by_cases e : q.1 = i
            · rw [e, Int.toNat_natCast]; exact hFi
            · exact hbf (z.2.2.2.2 q hq hn e) (by omega)⟩
          refine u_tryValues hL hcel hmlw hx hk hV hP hl (by omega) (by omega) hnA (by rw [Int.toNat_natCast]; exact (hCl2 i (by omega)).mpr (Or.inr ⟨by omega, c43⟩)) (fun q hq => (hCl2 _ (by have := hP.2 q hq; omega)).mpr (Or.inl (hFA q hq))) (fun v => down i v) hM' ga (hC.kp gK (Nat.le_refl _)) gA (fun e => hcom e i (by omega) c43) gT (fun L z => ?_) (fun m2 q1 q2 q3 q4 q5 => ?_)
          · rintro (w | ⟨_, q, h1, h2, h3, h4⟩)
            · exact hD L (tc_ts L z) w
            · have hr := cell z.1 q h1
              have := z.2.2.2.2 q h1 h2 (by omega)
              rw [(hCl2 q.1.toNat (by omega)).mpr (Or.inr ⟨by omega, h4⟩)] at this
              cases this
          · refine b_inc6 (dc kc_X4_grow_0 39 rfl) rfl (Nat.le_of_ble_eq_true rfl) rfl (by first | omega | (simp [up] <;> omega)) (by first | omega | (simp [up] <;> omega)) <| s_goto (tgt := 28) (dc kc_X4_grow_1 0 rfl) rfl <| ?_
            refine ih m2 Cl2 hCl2 (gC.tr q1) (gK.tr q2) (fun l a b => by rw [q3]; exact gA l a b) q4 (q5.iff (fun L => ?_))
            constructor
            · rintro (z | ⟨z, q, h1, h2, h3, h4⟩)
              · exact Or.inl (Or.inl z)
              · by_cases hE : ∃ q ∈ L, q ∉ A ∧ q.1 < (i : Int) ∧ tB fr q.1.toNat = true
                · exact Or.inl (Or.inr ⟨z, hE⟩)
                · right
                  have e : q.1 = i := Classical.byContradiction fun w => hE ⟨q, h1, h2, by omega, h4⟩
                  refine ⟨z.1, z.2.1, z.2.2.1, ⟨q.2, by rw [← e]; exact h1⟩, fun q' hq' hn' hne => ?_⟩
                  have hr := cell z.1 q' hq'
                  cases eb : tB Cl2 q'.1.toNat with
                  | false => rfl
                  | true =>
                    rcases (hCl2 q'.1.toNat (by omega)).mp eb with w | ⟨w1, w2⟩
                    · rw [z.2.2.2 q' hq' hn'] at w; cases w
                    · exact absurd ⟨q', hq', hn', by omega, w2⟩ hE
            · rintro ((z | ⟨z, q, h1, h2, h3, h4⟩) | z)
              · exact Or.inl z
              · exact Or.inr ⟨z, q, h1, h2, by omega, h4⟩
              · obtain ⟨v, hv⟩ := z.2.2.2.1
                refine Or.inr ⟨tc_ts L z, (i, v), hv, fun w => hnA _ w rfl, by simp; omega, ?_⟩
                show tB fr (i : Int).toNat = true
                rw [Int.toNat_natCast]; exact c43
      · have e24 : i = 24 := by omega
        subst e24
        refine s_iload (dc kc_X4_grow_0 17 rfl) rfl <| k_b (dc kc_X4_grow_0 18 rfl) rfl <| s_icmp_ge (tgt := 71) (dc kc_X4_grow_0 19 rfl) rfl (fun c32 => (s_return (dc kc_X4_grow_1 1 rfl) rfl (Nat.zero_le _) (Nat.zero_le _) ?_)) (fun c32 => (?_))
        · refine hQ m gC gK ga (gT.more (fun L z => ?_) (fun L z => ?_))
          · rcases z with z | z
            · exact Or.inl z
            · exact Or.inr z.1
          · rcases z with z | z
            · exact Or.inl (Or.inl z)
            · by_cases hB : ∃ l, Brk ρ A l
              · obtain ⟨q, h1, h2, h3⟩ := Try_all hV hP hlaw hl hTry hB z
                exact Or.inl (Or.inr ⟨z, q, h1, h2, (z.1.2.1.2 q h1).2.1, h3⟩)
              · right
                have hold := (Hold_brk hVA hlaw).mpr (fun l w => hB ⟨l, w⟩)
                have hm := hns _ (Mnd_srt hP hold) (by rw [(srt_perm A).length_eq]; exact hl)
                rw [prc_perm (srt_perm A)] at hm
                have hs := prc_sub (ρ := ρ) (nodup_of_fst hP.1) (nodup_of_fst z.1.2.1.1) z.2.2.1
                obtain ⟨P, K, _, hTol⟩ := gT
                have := hTol.1
                exact ⟨z.1, z.2.1, by omega⟩
        · exfalso; omega
    refine t_i4 (dc kc_X4_grow_0 12 rfl) (Nat.le_of_ble_eq_true rfl) rfl <| s_iload_n (dc kc_X4_grow_0 13 rfl) rfl <| t_i5 (dc kc_X4_grow_0 14 rfl) (Nat.le_of_ble_eq_true rfl) rfl <| k_i (dc kc_X4_grow_0 15 rfl) rfl <| t_i6 (dc kc_X4_grow_0 16 rfl) (Nat.le_of_ble_eq_true rfl) rfl <| ?_
    refine loop 0 (by omega) m1 F (fun j hj => ⟨Or.inl, fun z => z.elim id (fun w => absurd w.1 (by omega))⟩) g1' k1 as1 a1 (t1.iff (fun L => ⟨?_, Or.inl⟩))
    rintro (z | ⟨z, q, h1, h2, h3, h4⟩)
    · exact z
    · have := (z.1.2.1.2 q h1).1; omega
  · exfalso; omega
/-- however deep -/
theorem u_grow (hL : Lay G mr) {x k : Nat} {ρ : Int → Int} {lim0 : Int} (hcel : mr 2 50 0 = some (0, 63)) (hmlw : mr 0 60 4 = some (x, 20)) (hx : okI G 20 x) (hk : k ≤ 3) (hV : VC (clR ρ)) (hns : ∀ L, Mnd ρ L → L.length < k → lim0 < prc ρ L) : ∀ (r : Nat) (A : List PR), A.length + r + 1 = k → Pth ρ A → Grw (d + 6 + 2 * r) n mr ρ k x lim0 A := by
  intro r
  induction r with
  | zero =>
    intro A hA hP
    exact u_grow1 hL hcel hmlw hx hk hV hns hP (by omega) (fun c v h => absurd h (by omega))
  | succ r ih =>
    intro A hA hP
    have := u_grow1 (d := d + 2 + 2 * r) hL hcel hmlw hx hk hV hns hP (by omega) (fun c v _ hP' => by
      have := ih (A ++ [(c, v)]) (by rw [List.length_append]; simp; omega) hP'
      rw [show d + 2 + 2 * r + 4 = d + 6 + 2 * r by omega]
      exact this)
    rw [show d + 2 + 2 * r + 6 = d + 6 + 2 * (r + 1) by omega] at this
    exact this
end MD3
