/-! the constructors: an array of arrays; references as a list -/
theorem Rc.mono {n n' : Nat} {ρ ρ' : Ad → Nat} {sx : Nat → Nat} {ca : Nat → ClassId} {mi : MI} {mr mr' : MR} {a : Ad} {e : va_E} (h : Rc n ρ sx ca mi mr a e) (hn : n ≤ n') (he : ∀ i, i < n → ρ' (nm i) = ρ (nm i)) (hr : ∀ k, mr' a.1 a.2 k = mr a.1 a.2 k) : Rc n' ρ' sx ca mi mr' a e := by
  unfold Rc at *
  rcases h with ⟨h1, fs, h2, h3, h4⟩ | h | h | h | ⟨h1, h2, f, h3, h4⟩
  · refine Or.inl ⟨h1, fs, h2, h3, fun k hk => ?_⟩
    obtain ⟨v, hv1, hv2⟩ := h4 k hk
    rw [hr]
    exact ⟨v, hv1, hv2.mono hn he⟩
  · exact Or.inr (Or.inl h)
  · exact Or.inr (Or.inr (Or.inl h))
  · exact Or.inr (Or.inr (Or.inr (Or.inl h)))
  · refine Or.inr (Or.inr (Or.inr (Or.inr ⟨h1, h2, f, h3, fun k hk => ?_⟩)))
    rw [hr]
    exact (h4 k hk).mono hn he
section MNA
variable {d : Nat} {M : MT} {Q : V → MI → Nat → MR → Prop} {n : Nat} {mr : MR} {kc ks : Nat} {mi : MI} {pc pc' : Nat} {ls st : List V}
theorem s_mna {g idx : Nat} (hd : Dc M pc (.multianewarray idx 2) 4 pc') (hm0 : nm n = (g, 67)) (hm1 : nm (n + 1) = (0, 68)) (hm2 : nm (n + 2) = (1, 68)) (hm3 : nm (n + 3) = (2, 68)) (hn : n + 4 ≤ 241) (hz : ∀ i, i < 4 → Fr0 (n + i) mi mr) (h1 : Cond.classLink (mY M).cls idx "[[I" ∈ T0) (hac : Cond.arrayClass .int ∈ T0) (hK : kc + 4 ≤ mK M) (hS2 : ks + 39 ≤ mS M)
    (kk : Run d M Q (n + 4, upR (upR (upR mr g 67 0 (some (0, 68))) g 67 1 (some (1, 68))) g 67 2 (some (2, 68)), kc + 4, ks + 39) mi pc' ls (vR (some (g, 67)) :: st)) : Run d M Q (n, mr, kc, ks) mi pc ls (vI 12 :: vI 3 :: st) := by
  intro p l e R s m args below meth c D ca sx A n0 ρ0 Qm C0 Re ρ H locs mls mst hW hS hE hnn hl hs
  obtain ⟨_, w1, rfl, ⟨y1, rfl, ey1⟩, _, w2, rfl, ⟨y2, rfl, ey2⟩, hs⟩ := hs
  obtain ⟨hx0, hb, hmx, hown, hts, hret, hlk, hnme, ⟨hR1, hR2, hR3, hR4⟩, hSw, hA⟩ := id C0
  obtain ⟨hSc, h241, ws, hlen, hP, hD, hc⟩ := id hW
  have hi1 := i32_nat (y := y1) (x := 12) ey1 (by omega)
  have hi2 := i32_nat (y := y2) (x := 3) ey2 (by omega)
  have hcl := hts _ h1
  have hstr : "[[I" = "[" ++ (FieldType.array .int).toString := by decide
  rw [hstr] at hcl
  refine va_mna (X := ws) (L := []) (f := fun _ => .inl (ca 0, 12, .inl (fun _ => 0))) (ty := .int) (cy := ca 0) (N' := 3) (K' := 12) (z := (12, .inl (fun _ => 0))) hx0 hb hown hcl hSw.2.2.1.2.2 (hts _ hac) (hSw.1.2 0 _ rfl).2 hSw.1 (by show va_P D vwCl (ws ++ []) H; rw [List.append_nil]; exact hP) (by show va_D A (ws ++ []); rw [List.append_nil]; exact hD) hS hA hi2.1 hi1.1 (by omega) (by omega) (by omega) (by show 12 * 4 ≤ _; omega) (by omega) rfl rfl (by show kc + (1 + 3) ≤ R.cells; omega) (by show ks + (3 + 3 * 12) ≤ R.slots; omega) (fun c => by rw [vp_cell_i]; rfl) hd.1 (fun q r cA H1 hinj hnl hK1 hP1 hD1 hS1 => ?_)
  have hcA : cA = ca 5 := ca_eq (ty := .array .int) (fun _ z => by cases z) (hK1.2 6 (cA, .array .int) rfl).2 (hSw.1.2 5 _ rfl).2
  subst hcA
  have nd : ∀ i j, i < 241 → j < 241 → i ≠ j → nm i ≠ nm j := fun i j hi hj h z => h (nm_inj hi hj z)
  obtain ⟨ρ', ro, rn, r1, r2, r3⟩ : ∃ ρ' : Ad → Nat, (∀ i, i < n → ρ' (nm i) = ρ (nm i)) ∧ ρ' (nm n) = q ∧ ρ' (nm (n + 1)) = r 0 ∧ ρ' (nm (n + 2)) = r 1 ∧ ρ' (nm (n + 3)) = r 2 := by
    refine ⟨fun a => if a = nm n then q else if a = nm (n + 1) then r 0 else if a = nm (n + 2) then r 1 else if a = nm (n + 3) then r 2 else ρ a, fun i hi => ?_, if_pos rfl, ?_, ?_, ?_⟩
    · dsimp only
      rw [if_neg (nd i n (by omega) (by omega) (by omega)), if_neg (nd i (n + 1) (by omega) (by omega) (by omega)), if_neg (nd i (n + 2) (by omega) (by omega) (by omega)), if_neg (nd i (n + 3) (by omega) (by omega) (by omega))]
    · dsimp only
      rw [if_neg (nd (n + 1) n (by omega) (by omega) (by omega)), if_pos rfl]
    · dsimp only
      rw [if_neg (nd (n + 2) n (by omega) (by omega) (by omega)), if_neg (nd (n + 2) (n + 1) (by omega) (by omega) (by omega)), if_pos rfl]
    · dsimp only
      rw [if_neg (nd (n + 3) n (by omega) (by omega) (by omega)), if_neg (nd (n + 3) (n + 1) (by omega) (by omega) (by omega)), if_neg (nd (n + 3) (n + 2) (by omega) (by omega) (by omega)), if_pos rfl]
  generalize hE67 : (.inl (ca 5, 3, .inr (.inr (.inr (.inr (fun i => if i < 3 then some (r i) else none))))) : va_E) = E67 at hP1 hD1
  generalize hE68 : (.inl (ca 0, 12, .inl (fun _ => 0)) : va_E) = E68 at hP1 hD1
  have hws : (ws ++ [(q, E67)]) ++ va_pl ([] ++ (List.range 3).map r) (vr_up (fun _ => E68) ((List.range 3).map r) E68) = ws ++ [(q, E67), (r 0, E68), (r 1, E68), (r 2, E68)] := by
    rw [List.append_assoc]
    refine congrArg (ws ++ ·) ?_
    have : vr_up (fun _ => E68) ((List.range 3).map r) E68 = fun _ => E68 := funext fun a => by unfold vr_up; split <;> rfl
    rw [this]
    rfl
  rw [hws] at hP1 hD1
  have h68 : ∀ x : Nat, (∀ k : Int, mi x 68 k = 0) → Rc (n + 4) ρ' sx ca mi (upR (upR (upR mr g 67 0 (some (0, 68))) g 67 1 (some (1, 68))) g 67 2 (some (2, 68))) (x, 68) E68 := fun x hx => by
    unfold Rc
    refine Or.inr (Or.inl ⟨rfl, fun _ => 0, hE68.symm, fun k hk => ?_⟩)
    show (0 : Int32).toInt = mi x 68 k
    rw [hx]
    rfl
  have z68 : ∀ i x, i < 4 → nm (n + i) = (x, 68) → ∀ k : Int, mi x 68 k = 0 := fun i x hi e k => by
    have := (hz i hi k).1
    rw [e] at this
    exact this
  have hW' : Wd D ca sx A s (n + 4) mi (upR (upR (upR mr g 67 0 (some (0, 68))) g 67 1 (some (1, 68))) g 67 2 (some (2, 68))) ρ' H1 := by
    refine ⟨hSc, by omega, ws ++ [(q, E67), (r 0, E68), (r 1, E68), (r 2, E68)], by simp [hlen], hP1, hD1, fun i hi => ?_⟩
    by_cases hin : i < n
    · obtain ⟨e0, he1, he2⟩ := hc i hin
      have hne : ((nm i).1, (nm i).2) ≠ (g, 67) := by rw [← hm0]; exact nd i n (by omega) (by omega) (by omega)
      exact ⟨e0, by rw [List.getElem?_append_left (by omega), he1, ro i hin], he2.mono (by omega) ro (fun k => by rw [upR_a hne, upR_a hne, upR_a hne])⟩
    · have : i = n ∨ i = n + 1 ∨ i = n + 2 ∨ i = n + 3 := by omega
      rcases this with z | z | z | z
      · subst z
        refine ⟨E67, by rw [List.getElem?_append_right (by omega), hlen, Nat.sub_self, rn]; rfl, ?_⟩
        rw [hm0]
        unfold Rc
        refine Or.inr (Or.inr (Or.inr (Or.inr ⟨Nat.le_of_ble_eq_true rfl, Nat.le_of_ble_eq_true rfl, _, hE67.symm, fun k hk => ?_⟩)))
        have hk : k < 3 := hk
        have : k = 0 ∨ k = 1 ∨ k = 2 := by omega
        rcases this with w | w | w
        · subst w
          have : upR (upR (upR mr g 67 0 (some (0, 68))) g 67 1 (some (1, 68))) g 67 2 (some (2, 68)) g 67 ((0 : Nat) : Int) = some (0, 68) := by simp [upR]
          show Rv _ _ _ (vR (upR (upR (upR mr g 67 0 (some (0, 68))) g 67 1 (some (1, 68))) g 67 2 (some (2, 68)) g 67 ((0 : Nat) : Int))) _
          rw [this]
          exact ⟨by rw [← hm1, r1]; rfl, i + 1, by omega, hm1⟩
        · subst w
          have : upR (upR (upR mr g 67 0 (some (0, 68))) g 67 1 (some (1, 68))) g 67 2 (some (2, 68)) g 67 ((1 : Nat) : Int) = some (1, 68) := by simp [upR]
          show Rv _ _ _ (vR (upR (upR (upR mr g 67 0 (some (0, 68))) g 67 1 (some (1, 68))) g 67 2 (some (2, 68)) g 67 ((1 : Nat) : Int))) _
          rw [this]
          exact ⟨by rw [← hm2, r2]; rfl, i + 2, by omega, hm2⟩
        · subst w
          have : upR (upR (upR mr g 67 0 (some (0, 68))) g 67 1 (some (1, 68))) g 67 2 (some (2, 68)) g 67 ((2 : Nat) : Int) = some (2, 68) := by simp [upR]
          show Rv _ _ _ (vR (upR (upR (upR mr g 67 0 (some (0, 68))) g 67 1 (some (1, 68))) g 67 2 (some (2, 68)) g 67 ((2 : Nat) : Int))) _
          rw [this]
          exact ⟨by rw [← hm3, r3]; rfl, i + 3, by omega, hm3⟩
      · subst z
        refine ⟨E68, by rw [List.getElem?_append_right (by omega), hlen, r1, show n + 1 - n = 1 by omega]; rfl, ?_⟩
        rw [hm1]
        exact h68 0 (z68 1 0 (by omega) hm1)
      · subst z
        refine ⟨E68, by rw [List.getElem?_append_right (by omega), hlen, r2, show n + 2 - n = 2 by omega]; rfl, ?_⟩
        rw [hm2]
        exact h68 1 (z68 2 1 (by omega) hm2)
      · subst z
        refine ⟨E68, by rw [List.getElem?_append_right (by omega), hlen, r3, show n + 3 - n = 3 by omega]; rfl, ?_⟩
        rw [hm3]
        exact h68 2 (z68 3 2 (by omega) hm3)
  have hn4 : n ≤ n + 4 := Nat.le_add_right n 4
  have k2 := kk p l e R s m args below meth c D ca sx A n0 ρ0 Qm C0 Re ρ' H1 locs mls (.ref q :: w2) hW' hS1 (fun i hi => by rw [ro i (by show i < n; simp only at hnn; omega)]; exact hE i hi) (Nat.le_trans hnn hn4) (hl.mono hn4 ro) ⟨_, _, rfl, ⟨by rw [← hm0, rn], n, by omega, hm0⟩, hs.mono hn4 ro⟩
  rw [hd.2] at k2
  exact k2
end MNA
/-- references that are known -/
def LF (F : List (Nat × Nat × Int × Ad)) (mr : MR) : Prop := ∀ q ∈ F, mr q.1 q.2.1 q.2.2.1 = some q.2.2.2
theorem LF.mv {F : List (Nat × Nat × Int × Ad)} {mr mr' : MR} (A : List Ad) (h : LF F mr) (hc : ∀ g j k, (g, j) ∉ A → mr' g j k = mr g j k) (hA : F.all (fun q => !(A.contains (q.1, q.2.1))) = true) : LF F mr' := fun q hq => by
  have := List.all_eq_true.mp hA q hq
  rw [hc _ _ _ (fun z => by simp [z] at this)]
  exact h q hq
theorem LF.nil {mr : MR} : LF [] mr := fun _ h => by cases h
theorem LF.cons {F : List (Nat × Nat × Int × Ad)} {mr : MR} {g j : Nat} {k : Int} {a : Ad} (h : mr g j k = some a) (h2 : LF F mr) : LF ((g, j, k, a) :: F) mr := fun q hq => by
  rcases List.mem_cons.mp hq with e | e
  · rw [e]; exact h
  · exact h2 q e
theorem LF.app {F F2 : List (Nat × Nat × Int × Ad)} {mr : MR} (h : LF F mr) (h2 : LF F2 mr) : LF (F ++ F2) mr := fun q hq => (List.mem_append.mp hq).elim (h q) (h2 q)
theorem LF.up {F : List (Nat × Nat × Int × Ad)} {mr : MR} {g j : Nat} {k : Int} {v : Option Ad} (h : LF F mr) (hA : F.all (fun q => !((q.1, q.2.1, q.2.2.1) == (g, j, k))) = true) : LF F (upR mr g j k v) := fun q hq => by
  have := List.all_eq_true.mp hA q hq
  rw [upR_off _ _ _ (fun z => by simp at z; simp [z] at this)]
  exact h q hq
