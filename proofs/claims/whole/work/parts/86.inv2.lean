/-! what is true of the row behind a flip, a mend -/
/-- the row but for cells, marks, writes, mended counts -/
theorem Inv.cong {B : Int} {ρ ρ' : Int → Int} (h : Inv B ρ) (hV : VC (clR ρ')) (hW : InvW ρ') (h8 : 0 ≤ ρ' 8 ∧ ρ' 8 ≤ 200) (h19 : rg (ρ' 19)) (e : ∀ k, k ≠ 8 → k ≠ 19 → k ≠ 20 → (0 ≤ k ∧ k < 30 ∨ 78 ≤ k ∧ k < 246 ∨ 2046 ≤ k) → ρ' k = ρ k) : Inv B ρ' := by
  obtain ⟨⟨_, b0, b7, _, b10, b16, b17, b18, bl, bn⟩, _, ⟨c1, c2, c3, c4, c5, c6, c7, c8, c9, _⟩, bB⟩ := h
  have e0 := e 0 (by decide) (by decide) (by decide) (by decide)
  have e3 := e 3 (by decide) (by decide) (by decide) (by decide)
  have e7 := e 7 (by decide) (by decide) (by decide) (by decide)
  have e9 := e 9 (by decide) (by decide) (by decide) (by decide)
  have e10 := e 10 (by decide) (by decide) (by decide) (by decide)
  have e11 := e 11 (by decide) (by decide) (by decide) (by decide)
  have e12 := e 12 (by decide) (by decide) (by decide) (by decide)
  have e13 := e 13 (by decide) (by decide) (by decide) (by decide)
  have e14 := e 14 (by decide) (by decide) (by decide) (by decide)
  have e15 := e 15 (by decide) (by decide) (by decide) (by decide)
  have e16 := e 16 (by decide) (by decide) (by decide) (by decide)
  have e17 := e 17 (by decide) (by decide) (by decide) (by decide)
  have e18 := e 18 (by decide) (by decide) (by decide) (by decide)
  have hh : hiEq ρ ρ' := fun k hk => e k (by omega) (by omega) (by omega) (by omega)
  refine ⟨⟨hV, by rw [e0]; exact b0, by rw [e7, e17]; exact b7, h8, by rw [e10]; exact b10, by rw [e16]; exact b16, by rw [e17]; exact b17, by rw [e18, e13]; exact b18, fun l a b => (bl l a (by rw [← e16]; exact b)).hi hh a, fun j a b => (bn j a (by rw [← e17]; exact b)).hi hh a⟩, hW, ⟨fun k a b => by rw [e k (by omega) (by omega) (by omega) (by omega)]; exact c1 k a b, fun i a b => by rw [e (102 + i) (by omega) (by omega) (by omega) (by omega)]; exact c2 i a b, by rw [e11]; exact c3, by rw [e15]; exact c4, by rw [e14]; exact c5, by rw [e9]; exact c6, by rw [e12]; exact c7, by rw [e3, e0]; exact c8, by rw [e18, e3]; exact c9, h19⟩, by rw [e0]; exact bB⟩
theorem Inv_flipR {B : Int} {ρ : Int → Int} {c v : Int} (h : Inv B ρ) (hc0 : 0 ≤ c) (hc1 : c < 24) (hb : biC c v = 1) : Inv B (flipR ρ c v) := by
  have h8 := h.1.2.2.2.1
  have hV := h.1.1
  have k8 := kw_8 (s := ρ 0) (l := -1) (c := c) (v := v) (r := 0) h8.1 h8.2
  refine h.cong ?_ (InvW_flipR h.1.2.1.1 h8.1 h8.2 h.2.1 hV hc0 hc1) ?_ ?_ (fun k a b e z => ?_)
  · refine hV.wr (fun i a b => ?_)
    show flipR ρ c v (30 + i) = ρ (30 + i) ∨ biC i (flipR ρ c v (30 + i)) = 1
    unfold flipR
    by_cases e : i = c
    · subst e; right; rw [ud_at]; exact hb
    · left; rw [ud_ne (by omega), kw_off h8.1 h8.2 (by omega)]
  · unfold flipR; rw [ud_ne (by omega)]; exact k8
  · unfold flipR; rw [ud_ne (by omega), kw_19 h8.1 h8.2]; exact h.2.2.1.2.2.2.2.2.2.2.2.2
  · unfold flipR; rw [ud_ne (by omega), kw_off h8.1 h8.2 (by omega)]
theorem Inv_mnd1 {B : Int} {ρ : Int → Int} {q : PR} (h : Inv B ρ) (hc0 : 0 ≤ q.1) (hc1 : q.1 < 24) (hb : biC q.1 q.2 = 1) : Inv B (mnd1 ρ q) := by
  have h8 := h.1.2.2.2.1
  have hV := h.1.1
  have k8 := kw_8 (s := ρ 0) (l := -2) (c := q.1) (v := q.2) (r := 0) h8.1 h8.2
  have hk := InvW_kw (s := ρ 0) (l := -2) (c := q.1) (v := q.2) (r := 0) h8.1 h8.2 h.2.1 hV hc0 hc1 h.1.2.1.1 (Int.le_refl _) (fun w g0 g1 => (h.2.1.1 w g0 g1).2.2.2.1.2) h.2.1.2.2.2.2.2
  have off : ∀ k, k ≠ 19 → (k < 30 ∨ 78 ≤ k) → mnd1 ρ q k = kw ρ (ρ 0) (-2) q.1 q.2 0 k := fun k a b => by
    unfold mnd1
    rw [mkR_off a]
    unfold inc
    rw [ud_ne (by omega), ud_ne (by omega)]
  refine h.cong ?_ (hk.cong k8.2 (fun k z => by unfold rlW at z; exact off k (by omega) (by omega))) ?_ mkR_rg (fun k a b e z => ?_)
  · refine hV.wr (fun i a b => ?_)
    show mnd1 ρ q (30 + i) = ρ (30 + i) ∨ biC i (mnd1 ρ q (30 + i)) = 1
    unfold mnd1
    rw [mkR_off (by omega)]
    unfold inc
    rw [ud_ne (by omega)]
    by_cases e : i = q.1
    · subst e; right; rw [ud_at]; exact hb
    · left; rw [ud_ne (by omega), kw_off h8.1 h8.2 (by omega)]
  · rw [off 8 (by decide) (by decide)]; exact k8
  · rw [off k b (by omega), kw_off h8.1 h8.2 (by omega)]
theorem Inv_mndR {B : Int} : ∀ {L : List PR} {ρ : Int → Int}, Inv B ρ → (∀ q ∈ L, 0 ≤ q.1 ∧ q.1 < 24 ∧ biC q.1 q.2 = 1) → Inv B (mndR ρ L)
  | [], _, h, _ => h
  | q :: L, ρ, h, hq => by
    have a := hq q List.mem_cons_self
    exact Inv_mndR (L := L) (Inv_mnd1 h a.1 a.2.1 a.2.2) (fun r hr => hq r (List.mem_cons_of_mem _ hr))
theorem mndR_snoc {ρ : Int → Int} {L : List PR} {q : PR} : mndR ρ (L ++ [q]) = mnd1 (mndR ρ L) q := by
  unfold mndR
  rw [List.foldl_append]
  rfl
theorem Inv.wf {B : Int} {ρ : Int → Int} (h : Inv B ρ) : WfR ρ := ⟨h.1.2.2.2.2.2.2.2.2.1, h.1.2.2.2.2.2.2.2.2.2⟩
