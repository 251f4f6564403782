/-! making arrays; the script; the text; copies -/
section NEWA
variable {d : Nat} {M : MT} {Q : V → MI → Nat → MR → Prop} {n : Nat} {mr : MR} {kc ks : Nat} {mi : MI} {pc pc' : Nat} {ls st : List V}
theorem ca_eq {s : State} {c1 c2 : ClassId} {ty : FieldType} (hp : ∀ C, ty ≠ .object C) (h1 : va_RA s c1 ty) (h2 : va_RA s c2 ty) : c1 = c2 := by
  cases ty with
  | object C => exact absurd rfl (hp C)
  | _ => exact Option.some.inj ((show s.vm.findClass _ = some c1 from h1).symm.trans (show s.vm.findClass _ = some c2 from h2))
theorem ca_eqO {s : State} {c1 c2 : ClassId} {C : String} (h1 : va_RA s c1 (.object C)) (h2 : va_RA s c2 (.object C)) : c1 = c2 := by
  obtain ⟨_, _, -, -, -, e1⟩ := h1
  obtain ⟨_, _, -, -, -, e2⟩ := h2
  exact Option.some.inj (e1.symm.trans e2)
theorem s_newa {g j N : Nat} {x : Int} (hd : Dc M pc (.newarray .int) 2 pc') (hnm : nm n = (g, j)) (hkd : kd j = (20, N)) (hx : x = N) (hn : n < 241) (hN : N ≤ 100000) (hf : Fr0 n mi mr) (h1 : Cond.arrayClass .int ∈ T0) (hK : kc + 1 ≤ mK M) (hS2 : ks + N ≤ mS M)
    (kk : Run d M Q (n + 1, mr, kc + 1, ks + N) mi pc' ls (vR (some (g, j)) :: st)) : Run d M Q (n, mr, kc, ks) mi pc ls (vI x :: st) := by
  intro p l e R s m args below meth c D ca sx A n0 ρ0 Qm C0 Re ρ H locs mls mst hW hS hE hnn hl hs
  obtain ⟨_, w2, rfl, ⟨y, rfl, ey⟩, hs⟩ := hs
  obtain ⟨hx0, hb, hmx, hown, hts, hret, hlk, hnme, ⟨hR1, hR2, hR3, hR4⟩, hSw, hA⟩ := id C0
  obtain ⟨hSc, h241, ws, hlen, hP, hD, hc⟩ := id hW
  have hin := i32_nat (y := y) (x := x) ey (by omega)
  refine va_newa (atype := .int) (ty := .int) (N' := N) (a0 := (N, .inl (fun _ => 0))) hx0 hb (hts _ h1) rfl hSw.1 hP hD hS hA (fun cA => by rw [vp_cell_i]; rfl) hin.1 (by omega) (by show N * 4 ≤ _; omega) (by show kc + 1 ≤ R.cells; omega) (by show ks + N ≤ R.slots; omega) hd.1 (fun a cA H1 hK1 hP1 hD1 hS1 => ?_)
  have hcA : cA = ca 0 := ca_eq (fun _ z => by cases z) (hK1.2 6 (cA, .int) rfl).2 (hSw.1.2 0 _ rfl).2
  subst hcA
  obtain ⟨ρ', e1, e2, hW'⟩ := wd_new hSc hn hlen hc hP1 hD1 (fun ρ' => by
    rw [hnm]
    unfold Rc
    simp only [hkd]
    refine Or.inr (Or.inl ⟨trivial, _, rfl, fun k hk => ?_⟩)
    have f1 := (hf k).1
    rw [hnm] at f1
    simp only at f1
    rw [f1]
    rfl)
  have k2 := kk p l e R s m args below meth c D ca sx A n0 ρ0 Qm C0 Re ρ' H1 locs mls (.ref a :: w2) hW' hS1 (fun i hi => by rw [e1 i (by show i < n; simp only at hnn; omega)]; exact hE i hi) (Nat.le_succ_of_le hnn) (hl.mono (Nat.le_succ n) e1) ⟨_, _, rfl, ⟨by rw [← hnm, e2], n, Nat.lt_succ_self n, hnm⟩, hs.mono (Nat.le_succ n) e1⟩
  rw [hd.2] at k2
  exact k2
theorem s_newaJ {g j N : Nat} {x : Int} (hd : Dc M pc (.newarray .long) 2 pc') (hnm : nm n = (g, j)) (hkd : kd j = (21, N)) (hx : x = N) (hn : n < 241) (hN : N ≤ 100000) (hf : Fr0 n mi mr) (h1 : Cond.arrayClass .long ∈ T0) (hK : kc + 1 ≤ mK M) (hS2 : ks + N ≤ mS M)
    (kk : Run d M Q (n + 1, mr, kc + 1, ks + N) mi pc' ls (vR (some (g, j)) :: st)) : Run d M Q (n, mr, kc, ks) mi pc ls (vI x :: st) := by
  intro p l e R s m args below meth c D ca sx A n0 ρ0 Qm C0 Re ρ H locs mls mst hW hS hE hnn hl hs
  obtain ⟨_, w2, rfl, ⟨y, rfl, ey⟩, hs⟩ := hs
  obtain ⟨hx0, hb, hmx, hown, hts, hret, hlk, hnme, ⟨hR1, hR2, hR3, hR4⟩, hSw, hA⟩ := id C0
  obtain ⟨hSc, h241, ws, hlen, hP, hD, hc⟩ := id hW
  have hin := i32_nat (y := y) (x := x) ey (by omega)
  refine va_newa (atype := .long) (ty := .long) (N' := N) (a0 := (N, .inr (.inl (fun _ => 0)))) hx0 hb (hts _ h1) rfl hSw.1 hP hD hS hA (fun cA => by rfl) hin.1 (by omega) (by show N * 8 ≤ _; omega) (by show kc + 1 ≤ R.cells; omega) (by show ks + N ≤ R.slots; omega) hd.1 (fun a cA H1 hK1 hP1 hD1 hS1 => ?_)
  have hcA : cA = ca 1 := ca_eq (fun _ z => by cases z) (hK1.2 6 (cA, .long) rfl).2 (hSw.1.2 1 _ rfl).2
  subst hcA
  obtain ⟨ρ', e1, e2, hW'⟩ := wd_new hSc hn hlen hc hP1 hD1 (fun ρ' => by
    rw [hnm]
    unfold Rc
    simp only [hkd]
    refine Or.inr (Or.inr (Or.inl ⟨trivial, _, rfl, fun k hk => ?_⟩))
    have f1 := (hf k).1
    rw [hnm] at f1
    simp only at f1
    rw [f1]
    rfl)
  have k2 := kk p l e R s m args below meth c D ca sx A n0 ρ0 Qm C0 Re ρ' H1 locs mls (.ref a :: w2) hW' hS1 (fun i hi => by rw [e1 i (by show i < n; simp only at hnn; omega)]; exact hE i hi) (Nat.le_succ_of_le hnn) (hl.mono (Nat.le_succ n) e1) ⟨_, _, rfl, ⟨by rw [← hnm, e2], n, Nat.lt_succ_self n, hnm⟩, hs.mono (Nat.le_succ n) e1⟩
  rw [hd.2] at k2
  exact k2
theorem s_newaZ {g j N : Nat} {x : Int} (hd : Dc M pc (.newarray .boolean) 2 pc') (hnm : nm n = (g, j)) (hkd : kd j = (22, N)) (hx : x = N) (hn : n < 241) (hN : N ≤ 100000) (hf : Fr0 n mi mr) (h1 : Cond.arrayClass .boolean ∈ T0) (hK : kc + 1 ≤ mK M) (hS2 : ks + N ≤ mS M)
    (kk : Run d M Q (n + 1, mr, kc + 1, ks + N) mi pc' ls (vR (some (g, j)) :: st)) : Run d M Q (n, mr, kc, ks) mi pc ls (vI x :: st) := by
  intro p l e R s m args below meth c D ca sx A n0 ρ0 Qm C0 Re ρ H locs mls mst hW hS hE hnn hl hs
  obtain ⟨_, w2, rfl, ⟨y, rfl, ey⟩, hs⟩ := hs
  obtain ⟨hx0, hb, hmx, hown, hts, hret, hlk, hnme, ⟨hR1, hR2, hR3, hR4⟩, hSw, hA⟩ := id C0
  obtain ⟨hSc, h241, ws, hlen, hP, hD, hc⟩ := id hW
  have hin := i32_nat (y := y) (x := x) ey (by omega)
  refine va_newa (atype := .boolean) (ty := .boolean) (N' := N) (a0 := (N, .inl (fun _ => 0))) hx0 hb (hts _ h1) rfl hSw.1 hP hD hS hA (fun cA => by rw [vp_cell_i]; rfl) hin.1 (by omega) (by show N * 1 ≤ _; omega) (by show kc + 1 ≤ R.cells; omega) (by show ks + N ≤ R.slots; omega) hd.1 (fun a cA H1 hK1 hP1 hD1 hS1 => ?_)
  have hcA : cA = ca 2 := ca_eq (fun _ z => by cases z) (hK1.2 6 (cA, .boolean) rfl).2 (hSw.1.2 2 _ rfl).2
  subst hcA
  obtain ⟨ρ', e1, e2, hW'⟩ := wd_new hSc hn hlen hc hP1 hD1 (fun ρ' => by
    rw [hnm]
    unfold Rc
    simp only [hkd]
    refine Or.inr (Or.inr (Or.inr (Or.inl ⟨trivial, _, rfl, fun k hk => ?_⟩)))
    have f1 := (hf k).1
    rw [hnm] at f1
    simp only at f1
    rw [f1]
    rfl)
  have k2 := kk p l e R s m args below meth c D ca sx A n0 ρ0 Qm C0 Re ρ' H1 locs mls (.ref a :: w2) hW' hS1 (fun i hi => by rw [e1 i (by show i < n; simp only at hnn; omega)]; exact hE i hi) (Nat.le_succ_of_le hnn) (hl.mono (Nat.le_succ n) e1) ⟨_, _, rfl, ⟨by rw [← hnm, e2], n, Nat.lt_succ_self n, hnm⟩, hs.mono (Nat.le_succ n) e1⟩
  rw [hd.2] at k2
  exact k2
theorem s_anewa {g j kk0 N idx : Nat} {x : Int} {C : String} (hd : Dc M pc (.anewarray idx) 3 pc') (hnm : nm n = (g, j)) (hkd : kd j = (kk0, N)) (hk3 : (kk0 = 23 ∧ C = RX3) ∨ (kk0 = 24 ∧ C = RX7)) (hx : x = N) (hn : n < 241) (hN : N ≤ 100000) (hf : Fr0 n mi mr) (h1 : Cond.classLink (mY M).cls idx C ∈ T0) (hK : kc + 1 ≤ mK M) (hS2 : ks + N ≤ mS M)
    (kk : Run d M Q (n + 1, mr, kc + 1, ks + N) mi pc' ls (vR (some (g, j)) :: st)) : Run d M Q (n, mr, kc, ks) mi pc ls (vI x :: st) := by
  intro p l e R s m args below meth c D ca sx A n0 ρ0 Qm C0 Re ρ H locs mls mst hW hS hE hnn hl hs
  obtain ⟨_, w2, rfl, ⟨y, rfl, ey⟩, hs⟩ := hs
  obtain ⟨hx0, hb, hmx, hown, hts, hret, hlk, hnme, ⟨hR1, hR2, hR3, hR4⟩, hSw, hA⟩ := id C0
  obtain ⟨hSc, h241, ws, hlen, hP, hD, hc⟩ := id hW
  have hin := i32_nat (y := y) (x := x) ey (by omega)
  have hover : va_AO C s := by
    rcases hk3 with ⟨-, rfl⟩ | ⟨-, rfl⟩
    · exact hSw.2.2.1.1
    · exact hSw.2.2.1.2.1
  refine va_newq (C := C) (N' := N) hx0 hb hown (hts _ h1) hover hSw.1 hP hD hS hA hin.1 (by omega) (by omega) (by show kc + 1 ≤ R.cells; omega) (by show ks + N ≤ R.slots; omega) hd.1 (fun a cA H1 hK1 hP1 hD1 hS1 => ?_)
  have hcA : cA = ca (kk0 - 20) := by
    rcases hk3 with ⟨rfl, rfl⟩ | ⟨rfl, rfl⟩
    · exact ca_eqO (hK1.2 6 (cA, .object RX3) rfl).2 (hSw.1.2 3 _ rfl).2
    · exact ca_eqO (hK1.2 6 (cA, .object RX7) rfl).2 (hSw.1.2 4 _ rfl).2
  subst hcA
  obtain ⟨ρ', e1, e2, hW'⟩ := wd_new hSc hn hlen hc hP1 hD1 (fun ρ' => by
    rw [hnm]
    unfold Rc
    simp only [hkd]
    refine Or.inr (Or.inr (Or.inr (Or.inr ⟨by omega, by omega, _, rfl, fun k hk => ?_⟩)))
    have f1 := (hf k).2
    rw [hnm] at f1
    simp only at f1
    rw [f1]
    rfl)
  have k2 := kk p l e R s m args below meth c D ca sx A n0 ρ0 Qm C0 Re ρ' H1 locs mls (.ref a :: w2) hW' hS1 (fun i hi => by rw [e1 i (by show i < n; simp only at hnn; omega)]; exact hE i hi) (Nat.le_succ_of_le hnn) (hl.mono (Nat.le_succ n) e1) ⟨_, _, rfl, ⟨by rw [← hnm, e2], n, Nat.lt_succ_self n, hnm⟩, hs.mono (Nat.le_succ n) e1⟩
  rw [hd.2] at k2
  exact k2
end NEWA
section SPEC
variable {d : Nat} {M : MT} {Q : V → MI → Nat → MR → Prop} {S : Nat × MR × Nat × Nat} {mi : MI} {pc pc' : Nat} {ls st : List V}
theorem s_sld {x : Int} (hd : Dc M pc .iaload 1 pc') (h0 : 0 ≤ x) (h1 : x < mi 0 111 0) (kk : Run d M Q S mi pc' ls (vI (mi 0 110 x) :: st)) : Run d M Q S mi pc ls (vI x :: vX 1 :: st) := by
  intro p l e R s m args below meth c D ca sx A n0 ρ0 Qm C0 Re ρ H locs mls mst hW hS hE hn hl hs
  obtain ⟨_, _, rfl, ⟨y, rfl, ey⟩, _, w2, rfl, ⟨-, rfl⟩, hs⟩ := hs
  obtain ⟨⟨L, xs, q1, q2, q3, q4, q5, q6⟩, -⟩ := id hW
  have hin := i32_nat ey h0
  have k2 := kk p l e R s m args below meth c D ca sx A n0 ρ0 Qm C0 Re ρ H locs mls (.int (xs y.toNatClampNeg) :: w2) hW hS hE hn hl ⟨_, _, rfl, ⟨_, rfl, by rw [← q6 _ (by omega), hin.2]⟩, hs⟩
  rw [hd.2] at k2
  exact va_sld C0.1 C0.2.1 q1 q2 q3 hS (i32_in ey h0 (by omega)) hd.1 k2
theorem s_slen (hd : Dc M pc .arraylength 1 pc') (kk : Run d M Q S mi pc' ls (vI (mi 0 111 0) :: st)) : Run d M Q S mi pc ls (vX 1 :: st) := by
  intro p l e R s m args below meth c D ca sx A n0 ρ0 Qm C0 Re ρ H locs mls mst hW hS hE hn hl hs
  obtain ⟨_, w2, rfl, ⟨-, rfl⟩, hs⟩ := hs
  obtain ⟨⟨L, xs, q1, q2, q3, q4, q5, q6⟩, -⟩ := id hW
  have k2 := kk p l e R s m args below meth c D ca sx A n0 ρ0 Qm C0 Re ρ H locs mls (.int (Int32.ofNat L) :: w2) hW hS hE hn hl ⟨_, _, rfl, ⟨_, rfl, by rw [q5]; exact nI_toInt (by omega)⟩, hs⟩
  rw [hd.2] at k2
  exact va_slen C0.1 C0.2.1 q1 q2 q3 hS hd.1 k2
theorem s_txval {idx : Nat} (hd : Dc M pc (.getfield idx) 3 pc') (h1 : Cond.fieldLink (mY M).cls idx "java/lang/String" "value" "[B" ∈ T0) (kk : Run d M Q S mi pc' ls (vX 3 :: st)) : Run d M Q S mi pc ls (vX 2 :: st) := by
  intro p l e R s m args below meth c D ca sx A n0 ρ0 Qm C0 Re ρ H locs mls mst hW hS hE hn hl hs
  obtain ⟨_, w2, rfl, ⟨-, rfl⟩, hs⟩ := hs
  have hSw := C0.2.2.2.2.2.2.2.2.2.1
  have k2 := kk p l e R s m args below meth c D ca sx A n0 ρ0 Qm C0 Re ρ H locs mls (.ref (sx 3) :: w2) hW hS hE hn hl ⟨_, _, rfl, ⟨by decide, rfl⟩, hs⟩
  rw [hd.2] at k2
  exact vk_getf C0.1 C0.2.1 (hSw.2.2.2.2.1.1 0 (by decide)).2.2.1 hS C0.2.2.2.1 (C0.2.2.2.2.1 _ h1) (fun _ h => h) hd.1 k2
theorem s_txcod {idx : Nat} (hd : Dc M pc (.getfield idx) 3 pc') (h1 : Cond.fieldLink (mY M).cls idx "java/lang/String" "coder" "B" ∈ T0) (kk : Run d M Q S mi pc' ls (vI 0 :: st)) : Run d M Q S mi pc ls (vX 2 :: st) := by
  intro p l e R s m args below meth c D ca sx A n0 ρ0 Qm C0 Re ρ H locs mls mst hW hS hE hn hl hs
  obtain ⟨_, w2, rfl, ⟨-, rfl⟩, hs⟩ := hs
  have hSw := C0.2.2.2.2.2.2.2.2.2.1
  have k2 := kk p l e R s m args below meth c D ca sx A n0 ρ0 Qm C0 Re ρ H locs mls (.int 0 :: w2) hW hS hE hn hl ⟨_, _, rfl, ⟨_, rfl, rfl⟩, hs⟩
  rw [hd.2] at k2
  exact vk_getf C0.1 C0.2.1 (hSw.2.2.2.2.1.1 0 (by decide)).2.1 hS C0.2.2.2.1 (C0.2.2.2.2.1 _ h1) (fun _ h => h) hd.1 k2
theorem s_txcomp {idx : Nat} (hd : Dc M pc (.getstatic idx) 3 pc') (h1 : Cond.fieldLink (mY M).cls idx "java/lang/String" "COMPACT_STRINGS" "Z" ∈ T0) (kk : Run d M Q S mi pc' ls (vI 1 :: st)) : Run d M Q S mi pc ls st := by
  intro p l e R s m args below meth c D ca sx A n0 ρ0 Qm C0 Re ρ H locs mls mst hW hS hE hn hl hs
  have hSw := C0.2.2.2.2.2.2.2.2.2.1
  have k2 := kk p l e R s m args below meth c D ca sx A n0 ρ0 Qm C0 Re ρ H locs mls (.int 1 :: mst) hW hS hE hn hl ⟨_, _, rfl, ⟨_, rfl, rfl⟩, hs⟩
  rw [hd.2] at k2
  exact va_gets C0.1 C0.2.1 hSw.2.2.2.2.2.1 hS C0.2.2.2.1 (C0.2.2.2.2.1 _ h1) (fun _ h => h) hd.1 k2
theorem s_txfmt {idx : Nat} (hd : Dc M pc (.getstatic idx) 3 pc') (h1 : Cond.fieldLink (mY M).cls idx fmC "SIOOBE_FORMATTER" "Ljava/util/function/BiFunction;" ∈ T0) (k1 : Run d M Q S mi pc' ls (vR none :: st)) (k2 : Run d M Q S mi pc' ls (vX 4 :: st)) : Run d M Q S mi pc ls st := by
  intro p l e R s m args below meth c D ca sx A n0 ρ0 Qm C0 Re ρ H locs mls mst hW hS hE hn hl hs
  have hSw := C0.2.2.2.2.2.2.2.2.2.1
  rcases hSw.2.2.2.2.2.2 with z | z
  · have k3 := k1 p l e R s m args below meth c D ca sx A n0 ρ0 Qm C0 Re ρ H locs mls (.null :: mst) hW hS hE hn hl ⟨_, _, rfl, rfl, hs⟩
    rw [hd.2] at k3
    exact va_gets C0.1 C0.2.1 z hS C0.2.2.2.1 (C0.2.2.2.2.1 _ h1) (fun _ h => h) hd.1 k3
  · have k3 := k2 p l e R s m args below meth c D ca sx A n0 ρ0 Qm C0 Re ρ H locs mls (.ref (sx 4) :: mst) hW hS hE hn hl ⟨_, _, rfl, ⟨by decide, rfl⟩, hs⟩
    rw [hd.2] at k3
    exact va_gets C0.1 C0.2.1 z hS C0.2.2.2.1 (C0.2.2.2.2.1 _ h1) (fun _ h => h) hd.1 k3
theorem s_txlen (hd : Dc M pc .arraylength 1 pc') (kk : Run d M Q S mi pc' ls (vI 101 :: st)) : Run d M Q S mi pc ls (vX 3 :: st) := by
  intro p l e R s m args below meth c D ca sx A n0 ρ0 Qm C0 Re ρ H locs mls mst hW hS hE hn hl hs
  obtain ⟨_, w2, rfl, ⟨-, rfl⟩, hs⟩ := hs
  have hSw := C0.2.2.2.2.2.2.2.2.2.1
  have k2 := kk p l e R s m args below meth c D ca sx A n0 ρ0 Qm C0 Re ρ H locs mls (.int 101 :: w2) hW hS hE hn hl ⟨_, _, rfl, ⟨_, rfl, rfl⟩, hs⟩
  rw [hd.2] at k2
  exact va_tlen C0.1 C0.2.1 (hSw.2.2.2.2.1.1 0 (by decide)).2.2.2 hS rfl hd.1 k2
/-- the text's bytes -/
def txB (x : Int) : Int := ((bytW.getD 0 []).getD x.toNat 0).toInt
theorem s_txald {x : Int} (hd : Dc M pc .baload 1 pc') (h0 : 0 ≤ x) (h1 : x < 101) (kk : Run d M Q S mi pc' ls (vI (txB x) :: st)) : Run d M Q S mi pc ls (vI x :: vX 3 :: st) := by
  intro p l e R s m args below meth c D ca sx A n0 ρ0 Qm C0 Re ρ H locs mls mst hW hS hE hn hl hs
  obtain ⟨_, _, rfl, ⟨y, rfl, ey⟩, _, w2, rfl, ⟨-, rfl⟩, hs⟩ := hs
  have hSw := C0.2.2.2.2.2.2.2.2.2.1
  have hin := i32_nat ey h0
  have k2 := kk p l e R s m args below meth c D ca sx A n0 ρ0 Qm C0 Re ρ H locs mls (.int ((bytW.getD 0 []).getD y.toNatClampNeg 0) :: w2) hW hS hE hn hl ⟨_, _, rfl, ⟨_, rfl, by rw [txB, show y.toNatClampNeg = x.toNat by omega]⟩, hs⟩
  rw [hd.2] at k2
  exact va_tb C0.1 C0.2.1 (hSw.2.2.2.2.1.1 0 (by decide)).2.2.2 hS (i32_in ey h0 (N := lenW.getD 0 0) h1) rfl hd.1 k2
/-- a row's copy into another (or into itself) -/
def cpy (f h : Int → Int) (sp dp n : Int) : Int → Int := fun k => if dp ≤ k ∧ k < dp + n then f (sp + (k - dp)) else h k
def upA (mi : MI) (g j : Nat) (f : Int → Int) : MI := fun g' j' k' => if g' = g ∧ j' = j then f k' else mi g' j' k'
theorem upA_at {g j : Nat} {f : Int → Int} : upA mi g j f g j = f := by funext k; simp [upA]
theorem upA_a {g j g' j' : Nat} {f : Int → Int} (h : (g', j') ≠ (g, j)) : upA mi g j f g' j' = mi g' j' := by
  funext k
  unfold upA
  rw [if_neg]
  rintro ⟨h1, h2⟩
  exact h (by rw [h1, h2])
theorem s_copy {g j g2 j2 N N2 idx : Nat} {sp dp x : Int} (hd : Dc M pc (.invokestatic idx) 3 pc') (hk : kd j = (20, N)) (hk2 : kd j2 = (20, N2)) (h1 : Cond.methodLink (mY M).cls idx arraycopyName ∈ T0) (h2 : Cond.native arraycopyName ∈ T0) (h3 : Cond.static arraycopyName ∈ T0) (h4 : Cond.initialized "java/lang/System" ∈ T0)
    (hsp : 0 ≤ sp) (hdp : 0 ≤ dp) (hx : 0 ≤ x) (h5 : sp + x ≤ N) (h6 : dp + x ≤ N2) (kk : Run (d + 1) M Q S (upA mi g2 j2 (cpy (mi g j) (mi g2 j2) sp dp x)) pc' ls []) : Run (d + 1) M Q S mi pc ls [vI x, vI dp, vR (some (g2, j2)), vI sp, vR (some (g, j))] := by
  intro p l e R s m args below meth c D ca sx A n0 ρ0 Qm C0 Re ρ H locs mls mst hW hS hE hn hl hs
  obtain ⟨_, _, rfl, ⟨y1, rfl, e1⟩, _, _, rfl, ⟨y2, rfl, e2⟩, _, _, rfl, ⟨rfl, i2, hi2, ha2⟩, _, _, rfl, ⟨y3, rfl, e3⟩, _, w2, rfl, ⟨rfl, i, hi, ha⟩, hs⟩ := hs
  cases (show w2 = [] from hs)
  obtain ⟨hx0, hb, hmx, hown, hts, hret, hlk, hnme, ⟨hR1, hR2, hR3, hR4⟩, hSw, hA⟩ := id C0
  obtain ⟨hSc, h241, ws, hlen, hP, hD, hc⟩ := id hW
  obtain ⟨e0, he1, he2⟩ := hc i hi
  rw [ha] at he1 he2
  obtain ⟨f, rfl, hf⟩ : ∃ f : Nat → Int32, e0 = .inl (ca 0, N, .inl f) ∧ ∀ k : Nat, k < N → (f k).toInt = mi g j k := by
    unfold Rc at he2; simp only [hk] at he2
    rcases he2 with ⟨h, -⟩ | ⟨-, h⟩ | ⟨h, -⟩ | ⟨h, -⟩ | ⟨h, -⟩
    · omega
    · exact h
    all_goals omega
  obtain ⟨e02, hf1, hf2⟩ := hc i2 hi2
  rw [ha2] at hf1 hf2
  obtain ⟨f2, rfl, hff⟩ : ∃ f : Nat → Int32, e02 = .inl (ca 0, N2, .inl f) ∧ ∀ k : Nat, k < N2 → (f k).toInt = mi g2 j2 k := by
    unfold Rc at hf2; simp only [hk2] at hf2
    rcases hf2 with ⟨h, -⟩ | ⟨-, h⟩ | ⟨h, -⟩ | ⟨h, -⟩ | ⟨h, -⟩
    · omega
    · exact h
    all_goals omega
  have n1 := i32_nat e1 hx
  have n2 := i32_nat e2 hdp
  have n3 := i32_nat e3 hsp
  refine va_copyi (ty := .int) hx0 hb (by rw [hmx]; exact hl.1.symm) hown (hts _ h1) (hts _ h2) (hts _ h3) (hts _ h4) hSw.1 hP hD hS i i2 0 0 he1 hf1 rfl rfl rfl n3.1 n2.1 n1.1 (by omega) (by omega) (fun _ _ => rfl) (by omega) (by show 0 + (7 + 11) ≤ R.locals; omega) hd.1 (fun H1 locs1 hP1 hD1 hS1 => ?_)
  have k2 := kk p l e R s m args below meth c D ca sx A n0 ρ0 Qm C0 Re ρ H1 locs1 mls [] ?_ hS1 hE hn hl rfl
  · rw [hd.2] at k2
    exact k2
  refine wd_put hSc h241 hlen hc hi2 (by rw [ha2]; exact hP1) (by rw [ha2]; exact hD1) (fun g' j' k' h => by rw [ha2] at h; rw [upA_a h]) (fun _ _ _ _ => rfl) ?_
  rw [ha2]
  unfold Rc
  simp only [hk2]
  refine Or.inr (Or.inl ⟨trivial, _, rfl, fun k hk3 => ?_⟩)
  rw [upA_at]
  unfold va_cpy cpy
  by_cases hin : dp ≤ (k : Int) ∧ (k : Int) < dp + x
  · rw [if_pos (by omega), if_pos hin, hf _ (by omega)]
    congr 1
    omega
  · rw [if_neg (by omega), if_neg hin, hff _ hk3]
end SPEC
