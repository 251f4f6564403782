/-! the reference: all least mends are found -/
def Cov (ρ : Int → Int) (X : List (List PR)) (L : List PR) : Prop := ∃ L' ∈ X, prc ρ L' < prc ρ L ∨ (prc ρ L' = prc ρ L ∧ (L'.length < L.length ∨ L' = L))
theorem Cov.mono {ρ : Int → Int} {X X' : List (List PR)} {L : List PR} (h : Cov ρ X L) (hs : ∀ L ∈ X, L ∈ X') : Cov ρ X' L := by
  obtain ⟨L', h1, h2⟩ := h
  exact ⟨L', hs L' h1, h2⟩
/-- what is known behind a look -/
def LookOK (ρ : Int → Int) (m : Int) (mi : MI) : Prop := (mi 0 80 34 = -1 ∧ NoMend ρ m) ∨ (0 ≤ mi 0 80 34 ∧ Least ρ m (mi 0 80 34) (mi 0 80 35) ∧ ∃ K : List Int, Keys key3 ρ (mi 0 80 34) (mi 0 80 35) K ∧ mi 0 80 36 = min (K.length : Int) 501 ∧ ∀ i : Nat, i < K.length → i < 501 → K[i]? = some (mi 0 93 i))
def pK (j : Nat) (k : Int) : Bool := j == 81 || j == 85 || j == 92 || j == 93 || j == 94 || j == 95 || j == 96 || j == 97 || j == 98 || (j == 80 && (k == 7 || k == 8 || k == 9 || k == 30 || k == 33 || k == 34 || k == 35 || k == 36))
def Same (D : Int) (m m' : MI) : Prop := (∀ i, 0 ≤ i → i < D → m' 0 94 i = m 0 94 i ∧ m' 0 95 i = m 0 95 i ∧ m' 0 96 i = m 0 96 i ∧ m' 0 97 i = m 0 97 i) ∧ ∀ i, 0 ≤ i → i ≤ D → m' 0 98 i = m 0 98 i
theorem Same.rf {D : Int} {m : MI} : Same D m m := ⟨fun _ _ _ => ⟨rfl, rfl, rfl, rfl⟩, fun _ _ _ => rfl⟩
theorem Same.tr {D : Int} {m m' m2 : MI} (h : Same D m m') (h2 : Same D m' m2) : Same D m m2 := ⟨fun i a b => by
  have x := h.1 i a b
  have y := h2.1 i a b
  exact ⟨y.1.trans x.1, y.2.1.trans x.2.1, y.2.2.1.trans x.2.2.1, y.2.2.2.trans x.2.2.2⟩, fun i a b => (h2.2 i a b).trans (h.2 i a b)⟩
theorem Same.le {D E : Int} {m m' : MI} (h : Same D m m') (he : E ≤ D) : Same E m m' := ⟨fun i a b => h.1 i a (by omega), fun i a b => h.2 i a (by omega)⟩
def St (ρ : Int → Int) (m : MI) (A : List PR) (c0 v0 : Int) : Prop := Sav m A ∧ m 0 94 A.length = c0 ∧ m 0 95 A.length = v0 ∧ m 0 98 A.length = prc ρ A ∧ ((c0 = -1 ∧ m 0 81 = rowA ρ A ∧ v0 = 0) ∨ (Vp ρ A (m 0 97 A.length) c0 v0 ∧ m 0 96 A.length = ρ (30 + c0) ∧ m 0 81 = rowA ρ (A ++ [(c0, v0)])))
theorem prc_snoc {ρ : Int → Int} {A : List PR} {c v : Int} : prc ρ (A ++ [(c, v)]) = prc ρ A + prR ρ c v := by
  unfold prc
  rw [List.map_append, List.map_singleton, sumL_snoc]
theorem prc_nn {ρ : Int → Int} {A : List PR} (hn : A.Nodup) : (A.length : Int) ≤ prc ρ A := by
  have := prc_sub (ρ := ρ) (A := []) (L := A) (by simp) hn (fun q hq => by cases hq)
  have e0 : prc ρ [] = 0 := rfl
  rw [e0] at this
  simp only [List.length_nil] at this
  omega
theorem prc_9 {ρ : Int → Int} (hp : ∀ i, 0 ≤ i → i < 5 → 1 ≤ ρ (102 + i) ∧ ρ (102 + i) ≤ 9) : ∀ {A : List PR}, (∀ q ∈ A, 0 ≤ q.1 ∧ q.1 < 24) → prc ρ A ≤ 9 * A.length
  | [], _ => Int.le_refl _
  | q :: A, h => by
    have h1 := h q List.mem_cons_self
    have h2 := prR_9 (v := q.2) h1.1 h1.2 hp
    have h3 := prc_9 hp (A := A) (fun r hr => h r (List.mem_cons_of_mem _ hr))
    show prR ρ q.1 q.2 + prc ρ A ≤ 9 * ((A.length + 1 : Nat) : Int)
    omega
/-- a mend that holds a path whose laws are broken has more cells -/
theorem mend_more {ρ : Int → Int} {A L : List PR} {l : Int} (hA : Pth ρ A) (hL : Mnd ρ L) (hs : ∀ q ∈ A, q ∈ L) (h0 : 0 ≤ l) (h1 : l < ρ 16) (hb : valA (clR (rowA ρ A)) (lawC ρ l) = 0) : A.length < L.length := by
  have h := prc_sub (ρ := ρ) (nodup_of_fst hA.1) (nodup_of_fst hL.2.1.1) hs
  refine Classical.byContradiction fun hn => ?_
  have hm := h.2.2 (by omega)
  have e := rowA_same (ρ := ρ) hA.1 hL.2.1.1 (fun q => ⟨hs q, hm q⟩)
  have := hL.2.2 l h0 h1
  rw [← e, hb] at this
  omega
section LK4
variable {d n G : Nat} {mr : MR} {Q : V → MI → Nat → MR → Prop}
/-- all changes behind a path are tried, then it goes on one path higher -/
def Lvl (d n : Nat) (mr : MR) (Q : V → MI → Nat → MR → Prop) (ρ : Int → Int) (mi0 : MI) (mm : Int) (A : List PR) : Prop := ∀ (c0 v0 : Int) (m : MI) (X : List (List PR)) (x2 : Int), Ch pK mi0 m → m 0 80 33 = mm → St ρ m A c0 v0 → Sm ρ m X → (∀ L ∈ X, Mnd ρ L ∧ (L.length : Int) ≤ mm) →
    (∀ (m' : MI) (X' : List (List PR)) (x2 : Int), Ch pK mi0 m' → m' 0 80 33 = mm → m' 0 81 = rowA ρ A → Same A.length m m' → Sm ρ m' X' → (∀ L ∈ X', Mnd ρ L ∧ (L.length : Int) ≤ mm) → (∀ L ∈ X, L ∈ X') → (∀ L, Mnd ρ L → (L.length : Int) ≤ mm → (∀ q ∈ A, q ∈ L) → (∃ q ∈ L, Vp ρ A (m 0 97 A.length) q.1 q.2 ∧ aft q.1 q.2 c0 v0) → Cov ρ X' L) → Run (d+9) mt_X12_look Q (n, mr, 0, 0) m' 72 [vR (some (0, 80)), vI mm, vI x2, vI ((A.length : Int) - 1)] []) →
    Run (d+9) mt_X12_look Q (n, mr, 0, 0) m 72 [vR (some (0, 80)), vI mm, vI x2, vI (A.length : Int)] []
theorem Sm.mv {ρ : Int → Int} {m m' : MI} {X : List (List PR)} (h : Sm ρ m X) (e93 : m' 0 93 = m 0 93) (e34 : m' 0 80 34 = m 0 80 34) (e35 : m' 0 80 35 = m 0 80 35) (e36 : m' 0 80 36 = m 0 80 36) : Sm ρ m' X := by
  unfold Sm at *
  rw [e93, e34, e35, e36]
  exact h
theorem lvl_core (hL : Lay G mr) {ρ : Int → Int} {mi0 : MI} {mm : Int} (hI : Inv0 ρ) (hp : ∀ i, 0 ≤ i → i < 5 → 1 ≤ ρ (102 + i) ∧ ρ (102 + i) ≤ 9) (hm : 1 ≤ mm ∧ mm ≤ 3) {A : List PR} (hlen : (A.length : Int) + 1 ≤ mm) (hP : Pth ρ A) (down : ∀ c v, (A.length : Int) + 2 ≤ mm → Pth ρ (A ++ [(c, v)]) → Lvl d n mr Q ρ mi0 mm (A ++ [(c, v)])) : Lvl d n mr Q ρ mi0 mm A := by
  obtain ⟨hV, h0, h7, h8, h10, h16, h17, h18, hlw, hln⟩ := hI
  have key : ∀ (N : Nat) (c0 v0 : Int) (m : MI) (X : List (List PR)) (x2 : Int), (24 - c0) * 20 + 12 - v0 ≤ N → Ch pK mi0 m → m 0 80 33 = mm → St ρ m A c0 v0 → Sm ρ m X → (∀ L ∈ X, Mnd ρ L ∧ (L.length : Int) ≤ mm) →
    (∀ (m' : MI) (X' : List (List PR)) (x2 : Int), Ch pK mi0 m' → m' 0 80 33 = mm → m' 0 81 = rowA ρ A → Same A.length m m' → Sm ρ m' X' → (∀ L ∈ X', Mnd ρ L ∧ (L.length : Int) ≤ mm) → (∀ L ∈ X, L ∈ X') → (∀ L, Mnd ρ L → (L.length : Int) ≤ mm → (∀ q ∈ A, q ∈ L) → (∃ q ∈ L, Vp ρ A (m 0 97 A.length) q.1 q.2 ∧ aft q.1 q.2 c0 v0) → Cov ρ X' L) → Run (d+9) mt_X12_look Q (n, mr, 0, 0) m' 72 [vR (some (0, 80)), vI mm, vI x2, vI ((A.length : Int) - 1)] []) →
    Run (d+9) mt_X12_look Q (n, mr, 0, 0) m 72 [vR (some (0, 80)), vI mm, vI x2, vI (A.length : Int)] [] := by
    intro N
    induction N with
    | zero =>
      intro c0 v0 m X x2 hN g e33 hSt hX hSd hk
      exfalso
      rcases hSt.2.2.2.2 with ⟨a, _, b⟩ | ⟨hv, _⟩
      · omega
      · have h1 := hv.2.2.1
        have h2 := hv.2.2.2.1
        unfold biC at h2; rw [bi_eq1] at h2; omega
    | succ N ih =>
      intro c0 v0 m X x2 hN g e33 hSt hX hSd hk
      obtain ⟨hS, e94, e95, e98, hst⟩ := id hSt
      have hnd := nodup_of_fst hP.1
      have hp9 := prc_9 hp (A := A) (fun q hq => ⟨(hP.2 q hq).1, (hP.2 q hq).2.1⟩)
      have hp0 := prc_nn (ρ := ρ) hnd
      refine s_iload_n (dc kc_X12_look_1 6 rfl) rfl <| s_if_lt (tgt := 175) (dc kc_X12_look_1 7 rfl) rfl (fun c73 => (?_)) (fun c73 => (r_aload_n (dc kc_X12_look_1 8 rfl) rfl <| s_iload_n (dc kc_X12_look_1 9 rfl) rfl <| c_v1r (dc kc_X12_look_1 10 rfl) cl_X12_484 rfl (Nat.le_of_ble_eq_true rfl) (Nat.zero_le _) (Nat.zero_le _) ?_))
      · exfalso; omega
      · refine t_change hL rfl (by omega) hS hP hV h8 h0 hp (by omega) e94 e95 hst ?_ ?_
        · -- no more changes
          intro hno m1 g1 e1 f98 fs
          refine s_if_ne (tgt := 90) (dc kc_X12_look_1 11 rfl) rfl (fun c81 => (?_)) (fun c81 => (b_inc3 (dc kc_X12_look_1 12 rfl) rfl (Nat.le_of_ble_eq_true rfl) rfl (by first | omega | (simp [up] <;> omega)) (by first | omega | (simp [up] <;> omega)) <| s_goto (tgt := 72) (dc kc_X12_look_1 13 rfl) rfl <| ?_))
          · exfalso; omega
          · refine hk m1 X x2 (g.tr (g1.mono (fun _ _ z => by simp [pC, pK] at z ⊢; omega))) (by rw [g1.at (by decide), e33]) e1 ⟨fun i a b => ?_, fun i a b => by rw [f98]⟩ (hX.mv (g1.row (fun _ => rfl)) (g1.at (by decide)) (g1.at (by decide)) (g1.at (by decide))) hSd (fun L h => h) (fun L hL1 hL2 hL3 hL4 => ?_)
            · have := fs i (by omega)
              exact ⟨this.1, this.2.1, this.2.2, by rw [g1.row (fun _ => rfl)]⟩
            · obtain ⟨q, hq, hv, ha⟩ := hL4
              exact absurd ha (fun z => hno q.1 q.2 hv z)
        · -- a change is made
          intro c v hv ha hmin m1 g1 e1 f94 f95 f96 f98
          have hc := hv.2.2.1
          have hP' : Pth ρ (A ++ [(c, v)]) := hP.snoc hv.2.1 hc.1 hc.2 hv.2.2.2.1 hv.2.2.2.2
          have hnd' := nodup_of_fst hP'.1
          have hlen' : (A ++ [(c, v)]).length = A.length + 1 := by simp
          have hpr := prc_snoc (ρ := ρ) (A := A) (c := c) (v := v)
          have f97 : m1 0 97 = m 0 97 := g1.row (fun _ => rfl)
          have sub : ∀ L : List PR, (∀ q ∈ A ++ [(c, v)], q ∈ L) ↔ (∀ q ∈ A, q ∈ L) ∧ (c, v) ∈ L := fun L => ⟨fun h => ⟨fun q hq => h q (List.mem_append_left _ hq), h _ (List.mem_append_right _ List.mem_cons_self)⟩, fun h q hq => by
            rcases List.mem_append.mp hq with z | z
            · exact h.1 q z
            · rw [List.mem_singleton] at z; rw [z]; exact h.2⟩
          have g1' : Ch pK mi0 m1 := g.tr (g1.mono (fun _ _ z => by simp [pC, pK] at z ⊢; omega))
          have hX1 : Sm ρ m1 X := hX.mv (g1.row (fun _ => rfl)) (g1.at (by decide)) (g1.at (by decide)) (g1.at (by decide))
          have e33' : m1 0 80 33 = mm := by rw [g1.at (by decide), e33]
          have s98 : m1 0 98 ((A.length : Int) + 1) = prc ρ (A ++ [(c, v)]) := by rw [f98, ud_at, e98, hpr]
          have sm1 : Same A.length m m1 := ⟨fun i a b => by rw [f94, f95, f96, f97, ud_ne (by omega), ud_ne (by omega), ud_ne (by omega)]; exact ⟨rfl, rfl, rfl, rfl⟩, fun i a b => by rw [f98, ud_ne (by omega)]⟩
          have hS' : Sav m1 (A ++ [(c, v)]) := fun i q h => by
            by_cases e : i = A.length
            · subst e
              rw [List.getElem?_append_right (Nat.le_refl _), Nat.sub_self] at h
              cases h
              rw [f94, f95, ud_at, ud_at]; exact ⟨rfl, rfl⟩
            · have hi : i < (A ++ [(c, v)]).length := (List.getElem?_eq_some_iff.mp h).1
              rw [hlen'] at hi
              rw [List.getElem?_append_left (by omega)] at h
              rw [f94, f95, ud_ne (by omega), ud_ne (by omega)]
              exact hS i q h
          -- on with the next change, when all mends with this one are covered
          have rest : ∀ (m2 : MI) (X2 : List (List PR)) (x2 : Int), Ch pK mi0 m2 → m2 0 80 33 = mm → m2 0 81 = rowA ρ (A ++ [(c, v)]) → Same ((A.length : Int) + 1) m1 m2 → Sm ρ m2 X2 → (∀ L ∈ X2, Mnd ρ L ∧ (L.length : Int) ≤ mm) → (∀ L ∈ X, L ∈ X2) → (∀ L, Mnd ρ L → (L.length : Int) ≤ mm → (∀ q ∈ A ++ [(c, v)], q ∈ L) → Cov ρ X2 L) → Run (d+9) mt_X12_look Q (n, mr, 0, 0) m2 72 [vR (some (0, 80)), vI mm, vI x2, vI (A.length : Int)] [] := by
            intro m2 X2 x2 g2 e33 e2 sm hX2 hSd2 hXX hcov
            have sD := sm.1 A.length (by omega) (by omega)
            have hv2 := biC_01 (c := c) (v := v)
            have hvr : -1 ≤ v ∧ v ≤ 9 := by have := hv.2.2.2.1; unfold biC at this; rw [bi_eq1] at this; omega
            have hmeas : (24 - c) * 20 + 12 - v ≤ N := by
              have hc0 : c0 = -1 ∧ v0 = 0 ∨ (0 ≤ c0 ∧ c0 < 24 ∧ -1 ≤ v0 ∧ v0 ≤ 9) := by
                rcases hst with ⟨a, _, b⟩ | ⟨w, _⟩
                · exact Or.inl ⟨a, b⟩
                · have h1 := w.2.2.1
                  have h2 := w.2.2.2.1
                  unfold biC at h2; rw [bi_eq1] at h2
                  exact Or.inr (by omega)
              unfold aft at ha
              omega
            refine ih c v m2 X2 x2 hmeas g2 e33 ⟨fun i q h => ?_, by rw [sD.1, f94, ud_at], by rw [sD.2.1, f95, ud_at], ?_, Or.inr ⟨by rw [sD.2.2.2, f97]; exact hv, by rw [sD.2.2.1, f96, ud_at], e2⟩⟩ hX2 hSd2 (fun m' X' x2' g' e33' e' s' hX' hSd' hXX' hcov' => hk m' X' x2' g' e33' e' (sm1.tr ((sm.le (by omega)).tr s')) hX' hSd' (fun L h => hXX' L (hXX L h)) (fun L hL1 hL2 hL3 hL4 => ?_))
            · have hi : i < A.length := (List.getElem?_eq_some_iff.mp h).1
              have si := sm.1 i (by omega) (by omega)
              rw [si.1, si.2.1, f94, f95, ud_ne (by omega), ud_ne (by omega)]
              exact hS i q h
            · rw [sm.2 A.length (by omega) (by omega), f98, ud_ne (by omega), e98]
            · obtain ⟨q, hq, hqv, hqa⟩ := hL4
              rcases hmin q.1 q.2 hqv hqa with ⟨z1, z2⟩ | z
              · refine (hcov L hL1 hL2 ((sub L).mpr ⟨hL3, ?_⟩)).mono hXX'
                rw [← z1, ← z2]; exact hq
              · refine hcov' L hL1 hL2 hL3 ⟨q, hq, ?_, z⟩
                rw [sD.2.2.2, f97]; exact hqv
          have subm : ∀ L, Mnd ρ L → (∀ q ∈ A ++ [(c, v)], q ∈ L) → (A ++ [(c, v)]).length ≤ L.length ∧ prc ρ (A ++ [(c, v)]) + (L.length - (A ++ [(c, v)]).length) ≤ prc ρ L ∧ ((A ++ [(c, v)]).length = L.length → ∀ q ∈ L, q ∈ A ++ [(c, v)]) := fun L hL1 hs => prc_sub hnd' (nodup_of_fst hL1.2.1.1) hs
          -- too dear
          have dear : ∀ b : Int, m1 0 80 34 ≠ -1 → m1 0 80 34 < prc ρ (A ++ [(c, v)]) + b → (∀ L, Mnd ρ L → (L.length : Int) ≤ mm → (∀ q ∈ A ++ [(c, v)], q ∈ L) → prc ρ (A ++ [(c, v)]) + b ≤ prc ρ L) → ∀ L, Mnd ρ L → (L.length : Int) ≤ mm → (∀ q ∈ A ++ [(c, v)], q ∈ L) → Cov ρ X L := by
            intro b h1 h2 h3 L hL1 hL2 hL3
            rcases hX1 with ⟨_, z⟩ | ⟨_, ⟨L0, hL0, e3, _⟩, _⟩
            · exact absurd z h1
            · have := h3 L hL1 hL2 hL3
              exact ⟨L0, hL0, Or.inl (by omega)⟩
          -- the laws
          have at113 : ∀ x2 : Int, (m1 0 80 34 = -1 ∨ prc ρ (A ++ [(c, v)]) ≤ m1 0 80 34) → Run (d+9) mt_X12_look Q (n, mr, 0, 0) m1 113 [vR (some (0, 80)), vI mm, vI x2, vI (A.length : Int)] [] := by
            intro x2 hle
            have hoff : ∀ k, k < 30 ∨ 54 ≤ k → m1 0 81 k = ρ k := fun k hk => by rw [e1]; exact rowA_off hP' hk
            have e16 := hoff 16 (by omega)
            have hhi : hiEq ρ (m1 0 81) := fun k hk => hoff k (by omega)
            have ecl : cel m1 = clR (rowA ρ (A ++ [(c, v)])) := by unfold cel; rw [e1]
            have hVA := VC_rowA hV hP'
            have hlc : ∀ l, 0 ≤ l → l < ρ 16 → lawC (m1 0 81) l = lawC ρ l := fun l a b => lawC_hi hhi a (fun z => ((hlw l a b).2.2.1 z).1)
            refine r_aload_n (dc kc_X12_look_1 27 rfl) rfl <| c_v0r (dc kc_X12_look_1 28 rfl) cl_X12_478 rfl (Nat.le_of_ble_eq_true rfl) (Nat.zero_le _) (Nat.zero_le _) ?_
            refine t_firstBroken hL (by rw [ecl]; exact hVA) (by rw [e16]; exact h16) (by rw [e16]; exact fun l a b => (hlw l a b).hi hhi a) ?_ ?_
            · rw [ecl, e16]
              intro hall m2 g2
              have hh : Hold ρ (A ++ [(c, v)]) := fun l a b => by rw [← hlc l a b]; exact hall l a b
              have s2 : ∀ j, j ≠ 80 → j ≠ 85 → j ≠ 92 → m2 0 j = m1 0 j := fun j a b c => g2.row (fun k => by simp [pE, a, b, c])
              refine t_i2 (dc kc_X12_look_1 29 rfl) (Nat.le_of_ble_eq_true rfl) rfl <| s_iload_n (dc kc_X12_look_1 30 rfl) rfl <| k_i (dc kc_X12_look_1 31 rfl) rfl <| s_icmp_ne (tgt := 133) (dc kc_X12_look_1 32 rfl) rfl (fun c120 => (?_)) (fun c120 => (r_aload_n (dc kc_X12_look_1 33 rfl) rfl <| s_iload_n (dc kc_X12_look_1 34 rfl) rfl <| k_i (dc kc_X12_look_1 35 rfl) rfl <| b_iadd (dc kc_X12_look_1 36 rfl) (by first | omega | (simp [up] <;> omega)) (by first | omega | (simp [up] <;> omega)) <| c_v1 (dc kc_X12_look_1 37 rfl) cl_X12_487 rfl (Nat.le_of_ble_eq_true rfl) (Nat.zero_le _) (Nat.zero_le _) ?_))
              · exfalso; omega
              · refine t_tellMend hL (ρ := ρ) (A := A ++ [(c, v)]) (X := X) (by rw [hlen']; omega) (by omega) (by omega) (fun i q h => by rw [s2 94 (by decide) (by decide) (by decide), s2 95 (by decide) (by decide) (by decide)]; exact hS' i q h) hP' (by rw [s2 98 (by decide) (by decide) (by decide)]; exact s98) (hX1.mv (s2 93 (by decide) (by decide) (by decide)) (g2.at (by decide)) (g2.at (by decide)) (g2.at (by decide))) (fun m3 g3 hX3 => ?_)
                have s3 : ∀ j, j ≠ 80 → j ≠ 93 → m3 0 j = m2 0 j := fun j a b => g3.row (fun k => by simp [pM, a, b])
                refine s_goto (tgt := 72) (dc kc_X12_look_1 38 rfl) rfl <| ?_
                refine rest m3 _ _ ((g1'.tr (g2.mono (fun _ _ z => by simp [pE, pK] at z ⊢; omega))).tr (g3.mono (fun _ _ z => by simp [pM, pK] at z ⊢; omega))) (by rw [g3.at (by decide), g2.at (by decide), e33']) (by rw [s3 81 (by decide) (by decide), s2 81 (by decide) (by decide) (by decide), e1]) ⟨fun i a b => ?_, fun i a b => ?_⟩ hX3 (fun L hL => ?_) (fun L hL => List.mem_cons_of_mem _ hL) (fun L hL1 hL2 hL3 => ?_)
                · rw [s3 94 (by decide) (by decide), s2 94 (by decide) (by decide) (by decide), s3 95 (by decide) (by decide), s2 95 (by decide) (by decide) (by decide), s3 96 (by decide) (by decide), s2 96 (by decide) (by decide) (by decide), s3 97 (by decide) (by decide), s2 97 (by decide) (by decide) (by decide)]
                  exact ⟨rfl, rfl, rfl, rfl⟩
                · rw [s3 98 (by decide) (by decide), s2 98 (by decide) (by decide) (by decide)]
                · rcases List.mem_cons.mp hL with z | z
                  · rw [z, (srt_perm _).length_eq, hlen']
                    exact ⟨Mnd_srt hP' hh, by omega⟩
                  · exact hSd L z
                · have hsb := subm L hL1 hL3
                  have hpm := srt_perm (A ++ [(c, v)])
                  refine ⟨srt (A ++ [(c, v)]), List.mem_cons_self, ?_⟩
                  rw [prc_perm hpm, hpm.length_eq]
                  by_cases e : (A ++ [(c, v)]).length = L.length
                  · have heq : srt (A ++ [(c, v)]) = L := srt_eq Prod.fst (srt_srt _ hP'.1) hL1.1 (fun q => ⟨fun h => hL3 q (hpm.mem_iff.mp h), fun h => hpm.mem_iff.mpr (hsb.2.2 e q h)⟩)
                    right
                    exact ⟨by rw [← heq, prc_perm hpm], Or.inr heq⟩
                  · left; omega
            · rw [ecl, e16]
              intro l l0 l1 hbr m2 g2
              rw [hlc l l0 l1] at hbr
              have s2 : ∀ j, j ≠ 80 → j ≠ 85 → j ≠ 92 → m2 0 j = m1 0 j := fun j a b c => g2.row (fun k => by simp [pE, a, b, c])
              have g2' : Ch pK mi0 m2 := g1'.tr (g2.mono (fun _ _ z => by simp [pE, pK] at z ⊢; omega))
              have sm2 : Same ((A.length : Int) + 1) m1 m2 := ⟨fun i a b => by
                rw [s2 94 (by decide) (by decide) (by decide), s2 95 (by decide) (by decide) (by decide), s2 96 (by decide) (by decide) (by decide), s2 97 (by decide) (by decide) (by decide)]
                exact ⟨rfl, rfl, rfl, rfl⟩, fun i a b => by rw [s2 98 (by decide) (by decide) (by decide)]⟩
              have hX2 : Sm ρ m2 X := hX1.mv (s2 93 (by decide) (by decide) (by decide)) (g2.at (by decide)) (g2.at (by decide)) (g2.at (by decide))
              have e2 : m2 0 81 = rowA ρ (A ++ [(c, v)]) := by rw [s2 81 (by decide) (by decide) (by decide), e1]
              have e332 : m2 0 80 33 = mm := by rw [g2.at (by decide), e33']
              have e34 : m2 0 80 34 = m1 0 80 34 := g2.at (by decide)
              have e98' : m2 0 98 ((A.length : Int) + 1) = prc ρ (A ++ [(c, v)]) := by rw [s2 98 (by decide) (by decide) (by decide), s98]
              have more : ∀ L, Mnd ρ L → (∀ q ∈ A ++ [(c, v)], q ∈ L) → (A ++ [(c, v)]).length < L.length := fun L hL1 hL3 => mend_more hP' hL1 hL3 l0 l1 hbr
              have go : (A.length : Int) + 2 ≤ mm → Run (d+9) mt_X12_look Q (n, mr, 0, 0) m2 163 [vR (some (0, 80)), vI mm, vI l, vI (A.length : Int)] [] := by
                intro hdeep
                have ecl2 : cel m2 = clR (rowA ρ (A ++ [(c, v)])) := by unfold cel; rw [e2]
                have hhi2 : hiEq ρ (m2 0 81) := fun k hk => by rw [e2]; exact rowA_off hP' (by omega)
                refine b_inc3 (dc kc_X12_look_2 17 rfl) rfl (Nat.le_of_ble_eq_true rfl) rfl (by first | omega | (simp [up] <;> omega)) (by first | omega | (simp [up] <;> omega)) <| r_aload_n (dc kc_X12_look_2 18 rfl) rfl <| s_iload_n (dc kc_X12_look_2 19 rfl) rfl <| s_iload_n (dc kc_X12_look_2 20 rfl) rfl <| c_v2 (dc kc_X12_look_2 21 rfl) cl_X12_481 rfl (Nat.le_of_ble_eq_true rfl) (Nat.zero_le _) (Nat.zero_le _) ?_
                refine t_beginAt hL (by omega) (by rw [ecl2]; exact hVA) l0 (by omega) ((hlw l l0 l1).hi hhi2 l0) (fun m3 M g3 hM f97' f94' f95' => ?_)
                rw [ecl2, lawC_hi hhi2 l0 (fun z => ((hlw l l0 l1).2.2.1 z).1)] at hM
                have s3 : ∀ j, j ≠ 80 → j ≠ 85 → j ≠ 92 → j ≠ 94 → j ≠ 95 → j ≠ 97 → m3 0 j = m2 0 j := fun j a b c d e f => g3.row (fun k => by simp [pE, a, b, c, d, e, f])
                have hd := down c v hdeep hP'
                have hlc' : ((A ++ [(c, v)]).length : Int) = (A.length : Int) + 1 := by rw [hlen']; omega
                have hd := hd (-1) 0 m3 X l (g2'.tr (g3.mono (fun _ _ z => by simp [pE, pK] at z ⊢; omega))) (by rw [g3.at (by decide), e332]) ⟨fun i q h => ?_, by rw [hlc', f94', ud_at], by rw [hlc', f95', ud_at], by rw [hlc', s3 98 (by decide) (by decide) (by decide) (by decide) (by decide) (by decide), e98'], Or.inl ⟨rfl, by rw [s3 81 (by decide) (by decide) (by decide) (by decide) (by decide) (by decide), e2], rfl⟩⟩ (hX2.mv (s3 93 (by decide) (by decide) (by decide) (by decide) (by decide) (by decide)) (g3.at (by decide)) (g3.at (by decide)) (g3.at (by decide))) hSd (fun m4 X4 x2' g4 e334 e4 s4 hX4 hSd4 hXX4 hcov4 => ?_)
                · rw [hlc'] at hd
                  refine s_goto (tgt := 72) (dc kc_X12_look_2 22 rfl) rfl <| ?_
                  exact hd
                · have hi : i < (A ++ [(c, v)]).length := (List.getElem?_eq_some_iff.mp h).1
                  rw [f94', f95', ud_ne (by omega), ud_ne (by omega), s2 94 (by decide) (by decide) (by decide), s2 95 (by decide) (by decide) (by decide)]
                  exact hS' i q h
                · rw [hlc'] at s4 hcov4 ⊢
                  rw [show (A.length : Int) + 1 - 1 = A.length by omega]
                  refine rest m4 X4 x2' g4 e334 e4 (sm2.tr (Same.tr ⟨fun i a b => ?_, fun i a b => ?_⟩ s4)) hX4 hSd4 hXX4 (fun L hL1 hL2 hL3 => ?_)
                  · rw [f94', f95', f97', ud_ne (by omega), ud_ne (by omega), ud_ne (by omega), s3 96 (by decide) (by decide) (by decide) (by decide) (by decide) (by decide)]
                    exact ⟨rfl, rfl, rfl, rfl⟩
                  · rw [s3 98 (by decide) (by decide) (by decide) (by decide) (by decide) (by decide)]
                  · obtain ⟨q, hq, hqa, hqn⟩ := broken_asks hV hP' hL1 hL3 l0 l1 (hlw l l0 l1).2.2.2 hbr
                    have hqr := hL1.2.1.2 q hq
                    refine hcov4 L hL1 hL2 hL3 ⟨q, hq, ⟨?_, hqn, ⟨hqr.1, hqr.2.1⟩, hqr.2.2.1, hqr.2.2.2⟩, Or.inl (by omega)⟩
                    rw [f97', ud_at]
                    have hb := hM.bit hqr.1 (by omega : q.1 < 32)
                    have h01 : bAnd (bShr M q.1) 1 = 0 ∨ bAnd (bShr M q.1) 1 = 1 := by rw [bit_is hqr.1 (by omega)]; split <;> simp
                    rcases h01 with z | z
                    · exact absurd hqa (hb.mp z)
                    · exact z
              refine t_i2 (dc kc_X12_look_1 29 rfl) (Nat.le_of_ble_eq_true rfl) rfl <| s_iload_n (dc kc_X12_look_1 30 rfl) rfl <| k_i (dc kc_X12_look_1 31 rfl) rfl <| s_icmp_ne (tgt := 133) (dc kc_X12_look_1 32 rfl) rfl (fun c120 => (s_iload_n (dc kc_X12_look_1 39 rfl) rfl <| k_i (dc kc_X12_look_2 0 rfl) rfl <| b_iadd (dc kc_X12_look_2 1 rfl) (by first | omega | (simp [up] <;> omega)) (by first | omega | (simp [up] <;> omega)) <| s_iload_n (dc kc_X12_look_2 2 rfl) rfl <| s_icmp_ge (tgt := 72) (dc kc_X12_look_2 3 rfl) rfl (fun c137 => (?_)) (fun c137 => (r_aload_n (dc kc_X12_look_2 4 rfl) rfl <| s_getI (dc kc_X12_look_2 5 rfl) fl_X12_458 <| k_i (dc kc_X12_look_2 6 rfl) rfl <| s_icmp_eq (tgt := 163) (dc kc_X12_look_2 7 rfl) rfl (fun c145 => (?_)) (fun c145 => (r_aload_n (dc kc_X12_look_2 8 rfl) rfl <| s_getA (dc kc_X12_look_2 9 rfl) fl_X12_67 (ly_80_42 hL) <| s_iload_n (dc kc_X12_look_2 10 rfl) rfl <| k_i (dc kc_X12_look_2 11 rfl) rfl <| b_iadd (dc kc_X12_look_2 12 rfl) (by first | omega | (simp [up] <;> omega)) (by first | omega | (simp [up] <;> omega)) <| s_iaload (dc kc_X12_look_2 13 rfl) rfl (by first | omega | (simp [up] <;> omega)) (by first | omega | (simp [up] <;> omega)) <| r_aload_n (dc kc_X12_look_2 14 rfl) rfl <| s_getI (dc kc_X12_look_2 15 rfl) fl_X12_458 <| s_icmp_ge (tgt := 72) (dc kc_X12_look_2 16 rfl) rfl (fun c160 => (?_)) (fun c160 => (?_)))))))) (fun c120 => (?_))
              · -- no cell is left
                refine rest m2 X _ g2' e332 e2 sm2 hX2 hSd (fun L h => h) (fun L hL1 hL2 hL3 => ?_)
                have := more L hL1 hL3
                omega
              · exact go (by omega)
              · rw [e98', e34] at c160
                refine rest m2 X _ g2' e332 e2 sm2 hX2 hSd (fun L h => h) ?_
                refine dear 1 (by omega) (by omega) (fun L hL1 hL2 hL3 => ?_)
                have := more L hL1 hL3
                have := subm L hL1 hL3
                omega
              · exact go (by omega)
              · exfalso; omega
          refine s_if_ne (tgt := 90) (dc kc_X12_look_1 11 rfl) rfl (fun c81 => (r_aload_n (dc kc_X12_look_1 14 rfl) rfl <| s_getI (dc kc_X12_look_1 15 rfl) fl_X12_458 <| k_i (dc kc_X12_look_1 16 rfl) rfl <| s_icmp_eq (tgt := 113) (dc kc_X12_look_1 17 rfl) rfl (fun c95 => (?_)) (fun c95 => (r_aload_n (dc kc_X12_look_1 18 rfl) rfl <| s_getA (dc kc_X12_look_1 19 rfl) fl_X12_67 (ly_80_42 hL) <| s_iload_n (dc kc_X12_look_1 20 rfl) rfl <| k_i (dc kc_X12_look_1 21 rfl) rfl <| b_iadd (dc kc_X12_look_1 22 rfl) (by first | omega | (simp [up] <;> omega)) (by first | omega | (simp [up] <;> omega)) <| s_iaload (dc kc_X12_look_1 23 rfl) rfl (by first | omega | (simp [up] <;> omega)) (by first | omega | (simp [up] <;> omega)) <| r_aload_n (dc kc_X12_look_1 24 rfl) rfl <| s_getI (dc kc_X12_look_1 25 rfl) fl_X12_458 <| s_icmp_gt (tgt := 72) (dc kc_X12_look_1 26 rfl) rfl (fun c110 => (?_)) (fun c110 => (?_)))))) (fun c81 => (b_inc3 (dc kc_X12_look_1 12 rfl) rfl (Nat.le_of_ble_eq_true rfl) rfl (by first | omega | (simp [up] <;> omega)) (by first | omega | (simp [up] <;> omega)) <| s_goto (tgt := 72) (dc kc_X12_look_1 13 rfl) rfl <| ?_))
          · exact at113 _ (Or.inl c95)
          · rw [s98] at c110
            refine rest m1 X _ g1' e33' e1 Same.rf hX1 hSd (fun L h => h) ?_
            refine dear 0 c95 (by omega) (fun L hL1 hL2 hL3 => ?_)
            have := subm L hL1 hL3
            omega
          · rw [s98] at c110
            exact at113 _ (Or.inr (by omega))
          · exfalso; omega
  exact fun c0 v0 m X x2 => key _ c0 v0 m X x2 (Int.self_le_toNat _)
end LK4
