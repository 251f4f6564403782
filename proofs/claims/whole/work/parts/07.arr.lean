/-! rules of arrays, of the script, of the text constant -/
section ARR
variable {d : Nat} {M : MT} {Q : V → MI → Nat → MR → Prop} {S : Nat × MR × Nat × Nat} {mi : MI} {pc pc' : Nat} {ls st : List V}
theorem s_iaload {g j N : Nat} {x : Int} (hd : Dc M pc .iaload 1 pc') (hk : kd j = (20, N)) (h0 : 0 ≤ x) (h1 : x < N) (kk : Run d M Q S mi pc' ls (vI (mi g j x) :: st)) : Run d M Q S mi pc ls (vI x :: vR (some (g, j)) :: st) := by
  intro p l e R s m args below meth c D ca sx A n0 ρ0 Qm C0 Re ρ H locs mls mst hW hS hE hn hl hs
  obtain ⟨_, _, rfl, ⟨y, rfl, ey⟩, _, w2, rfl, ⟨rfl, i, hi, ha⟩, hs⟩ := hs
  obtain ⟨hSc, h241, ws, hlen, hP, hD, hc⟩ := id hW
  obtain ⟨e0, he1, he2⟩ := hc i hi
  rw [ha] at he1 he2
  obtain ⟨f, rfl, hf⟩ : ∃ f : Nat → Int32, e0 = .inl (ca 0, N, .inl f) ∧ ∀ k : Nat, k < N → (f k).toInt = mi g j k := by
    unfold Rc at he2; simp only [hk] at he2
    rcases he2 with ⟨h, -⟩ | ⟨-, h⟩ | ⟨h, -⟩ | ⟨h, -⟩ | ⟨h, -⟩
    · omega
    · exact h
    all_goals omega
  have hin := i32_nat ey h0
  have k2 := kk p l e R s m args below meth c D ca sx A n0 ρ0 Qm C0 Re ρ H locs mls (.int (f y.toNatClampNeg) :: w2) hW hS hE hn hl ⟨_, _, rfl, ⟨_, rfl, by rw [hf _ (by omega), hin.2]⟩, hs⟩
  rw [hd.2] at k2
  exact va_iald C0.1 C0.2.1 C0.2.2.2.2.2.2.2.2.2.1.1 hP i 0 he1 rfl (i32_in ey h0 h1) hd.1 k2
theorem s_laload {g j N : Nat} {x : Int} (hd : Dc M pc .laload 1 pc') (hk : kd j = (21, N)) (h0 : 0 ≤ x) (h1 : x < N) (kk : Run d M Q S mi pc' ls (vL (mi g j x) :: st)) : Run d M Q S mi pc ls (vI x :: vR (some (g, j)) :: st) := by
  intro p l e R s m args below meth c D ca sx A n0 ρ0 Qm C0 Re ρ H locs mls mst hW hS hE hn hl hs
  obtain ⟨_, _, rfl, ⟨y, rfl, ey⟩, _, w2, rfl, ⟨rfl, i, hi, ha⟩, hs⟩ := hs
  obtain ⟨hSc, h241, ws, hlen, hP, hD, hc⟩ := id hW
  obtain ⟨e0, he1, he2⟩ := hc i hi
  rw [ha] at he1 he2
  obtain ⟨f, rfl, hf⟩ : ∃ f : Nat → Int64, e0 = .inl (ca 1, N, .inr (.inl f)) ∧ ∀ k : Nat, k < N → (f k).toInt = mi g j k := by
    unfold Rc at he2; simp only [hk] at he2
    rcases he2 with ⟨h, -⟩ | ⟨h, -⟩ | ⟨-, h⟩ | ⟨h, -⟩ | ⟨h, -⟩
    · omega
    · omega
    · exact h
    all_goals omega
  have hin := i32_nat ey h0
  have k2 := kk p l e R s m args below meth c D ca sx A n0 ρ0 Qm C0 Re ρ H locs mls (.long (f y.toNatClampNeg) :: w2) hW hS hE hn hl ⟨_, _, rfl, ⟨_, rfl, by rw [hf _ (by omega), hin.2]⟩, hs⟩
  rw [hd.2] at k2
  exact va_lald C0.1 C0.2.1 C0.2.2.2.2.2.2.2.2.2.1.1 hP i 1 he1 rfl (i32_in ey h0 h1) hd.1 k2
theorem s_baload {g j N : Nat} {x : Int} (hd : Dc M pc .baload 1 pc') (hk : kd j = (22, N)) (h0 : 0 ≤ x) (h1 : x < N) (kk : Run d M Q S mi pc' ls (vI (mi g j x) :: st)) : Run d M Q S mi pc ls (vI x :: vR (some (g, j)) :: st) := by
  intro p l e R s m args below meth c D ca sx A n0 ρ0 Qm C0 Re ρ H locs mls mst hW hS hE hn hl hs
  obtain ⟨_, _, rfl, ⟨y, rfl, ey⟩, _, w2, rfl, ⟨rfl, i, hi, ha⟩, hs⟩ := hs
  obtain ⟨hSc, h241, ws, hlen, hP, hD, hc⟩ := id hW
  obtain ⟨e0, he1, he2⟩ := hc i hi
  rw [ha] at he1 he2
  obtain ⟨f, rfl, hf⟩ : ∃ f : Nat → Int32, e0 = .inl (ca 2, N, .inl f) ∧ ∀ k : Nat, k < N → (f k).toInt = mi g j k := by
    unfold Rc at he2; simp only [hk] at he2
    rcases he2 with ⟨h, -⟩ | ⟨h, -⟩ | ⟨h, -⟩ | ⟨-, h⟩ | ⟨h, -⟩
    · omega
    · omega
    · omega
    · exact h
    all_goals omega
  have hin := i32_nat ey h0
  have k2 := kk p l e R s m args below meth c D ca sx A n0 ρ0 Qm C0 Re ρ H locs mls (.int (f y.toNatClampNeg) :: w2) hW hS hE hn hl ⟨_, _, rfl, ⟨_, rfl, by rw [hf _ (by omega), hin.2]⟩, hs⟩
  rw [hd.2] at k2
  exact va_zald C0.1 C0.2.1 C0.2.2.2.2.2.2.2.2.2.1.1 hP i 2 he1 rfl (i32_in ey h0 h1) hd.1 k2
theorem s_aaload {g j kk0 N : Nat} {x : Int} (hd : Dc M pc .aaload 1 pc') (hk : kd j = (kk0, N)) (hk3 : 23 ≤ kk0 ∧ kk0 ≤ 25) (h0 : 0 ≤ x) (h1 : x < N) {r : Option Ad} (hr : S.2.1 g j x = r) (kk : Run d M Q S mi pc' ls (vR r :: st)) : Run d M Q S mi pc ls (vI x :: vR (some (g, j)) :: st) := by
  intro p l e R s m args below meth c D ca sx A n0 ρ0 Qm C0 Re ρ H locs mls mst hW hS hE hn hl hs
  obtain ⟨_, _, rfl, ⟨y, rfl, ey⟩, _, w2, rfl, ⟨rfl, i, hi, ha⟩, hs⟩ := hs
  obtain ⟨hSc, h241, ws, hlen, hP, hD, hc⟩ := id hW
  obtain ⟨e0, he1, he2⟩ := hc i hi
  rw [ha] at he1 he2
  obtain ⟨f, rfl, hf⟩ : ∃ f : Nat → Option Nat, e0 = .inl (ca (kk0 - 20), N, .inr (.inr (.inr (.inr f)))) ∧ ∀ k : Nat, k < N → Rv S.1 ρ sx (vR (S.2.1 g j k)) (va_rf (f k)) := by
    unfold Rc at he2; simp only [hk] at he2
    rcases he2 with ⟨h, -⟩ | ⟨h, -⟩ | ⟨h, -⟩ | ⟨h, -⟩ | ⟨-, -, h⟩
    · omega
    · omega
    · omega
    · omega
    · exact h
  have hin := i32_nat ey h0
  have k2 := kk p l e R s m args below meth c D ca sx A n0 ρ0 Qm C0 Re ρ H locs mls (va_rf (f y.toNatClampNeg) :: w2) hW hS hE hn hl ⟨_, _, rfl, by have := hf y.toNatClampNeg (by omega); rw [hin.2, hr] at this; exact this, hs⟩
  rw [hd.2] at k2
  have hK := C0.2.2.2.2.2.2.2.2.2.1.1
  have hin2 := i32_in ey h0 h1
  have hlt : y.toNatClampNeg < N := by omega
  rcases (show kk0 = 23 ∨ kk0 = 24 ∨ kk0 = 25 by omega) with rfl | rfl | rfl
  · exact va_aldq C0.1 C0.2.1 hK hP i 3 he1 rfl hin2 hd.1 k2
  · exact va_aldq C0.1 C0.2.1 hK hP i 4 he1 rfl hin2 hd.1 k2
  · exact W.aald (v := va_rf (f y.toNatClampNeg)) (ty := .array .int) C0.1 C0.2.1 (hP i _ he1) ((hK.2 5 _ rfl).1 N (fun j => va_rf (f j))) rfl (fun q => by cases q) (by show ¬ (y < 0 ∨ (arrV _ _ _).slots.size ≤ _); rw [arrV_size]; exact hin2) (by show (arrV _ _ _).slots[_]? = _; rw [arrV_read _ _ hlt]) rfl rfl hd.1 k2
theorem s_alen {g j N : Nat} (hd : Dc M pc .arraylength 1 pc') (hk : kd j = (20, N)) (hN : N < 100000) (kk : Run d M Q S mi pc' ls (vI (N : Int) :: st)) : Run d M Q S mi pc ls (vR (some (g, j)) :: st) := by
  intro p l e R s m args below meth c D ca sx A n0 ρ0 Qm C0 Re ρ H locs mls mst hW hS hE hn hl hs
  obtain ⟨_, w2, rfl, ⟨rfl, i, hi, ha⟩, hs⟩ := hs
  obtain ⟨hSc, h241, ws, hlen, hP, hD, hc⟩ := id hW
  obtain ⟨e0, he1, he2⟩ := hc i hi
  rw [ha] at he1 he2
  obtain ⟨f, rfl, hf⟩ : ∃ f : Nat → Int32, e0 = .inl (ca 0, N, .inl f) ∧ ∀ k : Nat, k < N → (f k).toInt = mi g j k := by
    unfold Rc at he2; simp only [hk] at he2
    rcases he2 with ⟨h, -⟩ | ⟨-, h⟩ | ⟨h, -⟩ | ⟨h, -⟩ | ⟨h, -⟩
    · omega
    · exact h
    all_goals omega
  have k2 := kk p l e R s m args below meth c D ca sx A n0 ρ0 Qm C0 Re ρ H locs mls (.int (Int32.ofNat N) :: w2) hW hS hE hn hl ⟨_, _, rfl, ⟨_, rfl, nI_toInt (by omega)⟩, hs⟩
  rw [hd.2] at k2
  exact va_alen C0.1 C0.2.1 C0.2.2.2.2.2.2.2.2.2.1.1 hP i 0 he1 rfl rfl hd.1 k2
theorem up_nm {g j : Nat} {k v : Int} {a : Ad} (ha : a = (g, j)) : ∀ g' j' k', (g', j') ≠ a → up mi g j k v g' j' k' = mi g' j' k' := fun g' j' k' h => up_a (by rw [ha] at h; exact h)
theorem upR_nm {mr : MR} {g j : Nat} {k : Int} {v : Option Ad} {a : Ad} (ha : a = (g, j)) : ∀ g' j' k', (g', j') ≠ a → upR mr g j k v g' j' k' = mr g' j' k' := fun g' j' k' h => upR_a (by rw [ha] at h; exact h)
theorem s_iastore {g j N : Nat} {x v : Int} (hd : Dc M pc .iastore 1 pc') (hk : kd j = (20, N)) (h0 : 0 ≤ x) (h1 : x < N) (kk : Run d M Q S (up mi g j x v) pc' ls st) : Run d M Q S mi pc ls (vI v :: vI x :: vR (some (g, j)) :: st) := by
  intro p l e R s m args below meth c D ca sx A n0 ρ0 Qm C0 Re ρ H locs mls mst hW hS hE hn hl hs
  obtain ⟨_, _, rfl, ⟨z, rfl, ez⟩, _, _, rfl, ⟨y, rfl, ey⟩, _, w2, rfl, ⟨rfl, i, hi, ha⟩, hs⟩ := hs
  obtain ⟨hSc, h241, ws, hlen, hP, hD, hc⟩ := id hW
  obtain ⟨e0, he1, he2⟩ := hc i hi
  rw [ha] at he1 he2
  obtain ⟨f, rfl, hf⟩ : ∃ f : Nat → Int32, e0 = .inl (ca 0, N, .inl f) ∧ ∀ k : Nat, k < N → (f k).toInt = mi g j k := by
    unfold Rc at he2; simp only [hk] at he2
    rcases he2 with ⟨h, -⟩ | ⟨-, h⟩ | ⟨h, -⟩ | ⟨h, -⟩ | ⟨h, -⟩
    · omega
    · exact h
    all_goals omega
  have hin := i32_nat ey h0
  refine va_iast C0.1 C0.2.1 C0.2.2.2.2.2.2.2.2.2.1.1 hP hD hS i 0 he1 rfl (i32_in ey h0 h1) hd.1 (fun H1 locs1 hP1 hD1 hS1 => ?_)
  have k2 := kk p l e R s m args below meth c D ca sx A n0 ρ0 Qm C0 Re ρ H1 locs1 mls w2 ?_ hS1 hE hn hl hs
  · rw [hd.2] at k2
    exact k2
  refine wd_put hSc h241 hlen hc hi (by rw [ha]; exact hP1) (by rw [ha]; exact hD1) (up_nm ha) (fun _ _ _ _ => rfl) ?_
  rw [ha]
  unfold Rc
  simp only [hk]
  refine Or.inr (Or.inl ⟨trivial, _, rfl, fun k hk2 => ?_⟩)
  by_cases hkx : k = y.toNatClampNeg
  · subst hkx
    rw [hin.2, up_at]
    simp [upd, ez]
  · rw [up_k (by omega)]
    simp [upd, hkx]
    exact hf k hk2
theorem s_lastore {g j N : Nat} {x v : Int} (hd : Dc M pc .lastore 1 pc') (hk : kd j = (21, N)) (h0 : 0 ≤ x) (h1 : x < N) (kk : Run d M Q S (up mi g j x v) pc' ls st) : Run d M Q S mi pc ls (vL v :: vI x :: vR (some (g, j)) :: st) := by
  intro p l e R s m args below meth c D ca sx A n0 ρ0 Qm C0 Re ρ H locs mls mst hW hS hE hn hl hs
  obtain ⟨_, _, rfl, ⟨z, rfl, ez⟩, _, _, rfl, ⟨y, rfl, ey⟩, _, w2, rfl, ⟨rfl, i, hi, ha⟩, hs⟩ := hs
  obtain ⟨hSc, h241, ws, hlen, hP, hD, hc⟩ := id hW
  obtain ⟨e0, he1, he2⟩ := hc i hi
  rw [ha] at he1 he2
  obtain ⟨f, rfl, hf⟩ : ∃ f : Nat → Int64, e0 = .inl (ca 1, N, .inr (.inl f)) ∧ ∀ k : Nat, k < N → (f k).toInt = mi g j k := by
    unfold Rc at he2; simp only [hk] at he2
    rcases he2 with ⟨h, -⟩ | ⟨h, -⟩ | ⟨-, h⟩ | ⟨h, -⟩ | ⟨h, -⟩
    · omega
    · omega
    · exact h
    all_goals omega
  have hin := i32_nat ey h0
  refine va_last C0.1 C0.2.1 C0.2.2.2.2.2.2.2.2.2.1.1 hP hD hS i 1 he1 rfl (i32_in ey h0 h1) hd.1 (fun H1 locs1 hP1 hD1 hS1 => ?_)
  have k2 := kk p l e R s m args below meth c D ca sx A n0 ρ0 Qm C0 Re ρ H1 locs1 mls w2 ?_ hS1 hE hn hl hs
  · rw [hd.2] at k2
    exact k2
  refine wd_put hSc h241 hlen hc hi (by rw [ha]; exact hP1) (by rw [ha]; exact hD1) (up_nm ha) (fun _ _ _ _ => rfl) ?_
  rw [ha]
  unfold Rc
  simp only [hk]
  refine Or.inr (Or.inr (Or.inl ⟨trivial, _, rfl, fun k hk2 => ?_⟩))
  by_cases hkx : k = y.toNatClampNeg
  · subst hkx
    rw [hin.2, up_at]
    simp [vp_updL, ez]
  · rw [up_k (by omega)]
    simp [vp_updL, hkx]
    exact hf k hk2
theorem s_bastore {g j N : Nat} {x v : Int} (hd : Dc M pc .bastore 1 pc') (hk : kd j = (22, N)) (h0 : 0 ≤ x) (h1 : x < N) (hv : v = 0 ∨ v = 1) (kk : Run d M Q S (up mi g j x v) pc' ls st) : Run d M Q S mi pc ls (vI v :: vI x :: vR (some (g, j)) :: st) := by
  intro p l e R s m args below meth c D ca sx A n0 ρ0 Qm C0 Re ρ H locs mls mst hW hS hE hn hl hs
  obtain ⟨_, _, rfl, ⟨z, rfl, ez⟩, _, _, rfl, ⟨y, rfl, ey⟩, _, w2, rfl, ⟨rfl, i, hi, ha⟩, hs⟩ := hs
  obtain ⟨hSc, h241, ws, hlen, hP, hD, hc⟩ := id hW
  obtain ⟨e0, he1, he2⟩ := hc i hi
  rw [ha] at he1 he2
  obtain ⟨f, rfl, hf⟩ : ∃ f : Nat → Int32, e0 = .inl (ca 2, N, .inl f) ∧ ∀ k : Nat, k < N → (f k).toInt = mi g j k := by
    unfold Rc at he2; simp only [hk] at he2
    rcases he2 with ⟨h, -⟩ | ⟨h, -⟩ | ⟨h, -⟩ | ⟨-, h⟩ | ⟨h, -⟩
    · omega
    · omega
    · omega
    · exact h
    all_goals omega
  have hin := i32_nat ey h0
  have hz : vp_nar .boolean z = z := by
    rcases hv with hv | hv
    · have : z = 0 := Int32.toInt_inj.mp (by rw [ez, hv]; rfl)
      subst this; rfl
    · have : z = 1 := Int32.toInt_inj.mp (by rw [ez, hv]; rfl)
      subst this; rfl
  refine va_zast C0.1 C0.2.1 C0.2.2.2.2.2.2.2.2.2.1.1 hP hD hS i 2 he1 rfl (i32_in ey h0 h1) hd.1 (fun H1 locs1 hP1 hD1 hS1 => ?_)
  rw [hz] at hP1 hD1
  have k2 := kk p l e R s m args below meth c D ca sx A n0 ρ0 Qm C0 Re ρ H1 locs1 mls w2 ?_ hS1 hE hn hl hs
  · rw [hd.2] at k2
    exact k2
  refine wd_put hSc h241 hlen hc hi (by rw [ha]; exact hP1) (by rw [ha]; exact hD1) (up_nm ha) (fun _ _ _ _ => rfl) ?_
  rw [ha]
  unfold Rc
  simp only [hk]
  refine Or.inr (Or.inr (Or.inr (Or.inl ⟨trivial, _, rfl, fun k hk2 => ?_⟩)))
  by_cases hkx : k = y.toNatClampNeg
  · subst hkx
    rw [hin.2, up_at]
    simp [upd, ez]
  · rw [up_k (by omega)]
    simp [upd, hkx]
    exact hf k hk2
theorem s_aastore {g j g2 j2 kk0 N : Nat} {x : Int} (hd : Dc M pc .aastore 1 pc') (hk : kd j = (kk0, N)) (hk3 : (kk0 = 23 ∧ (kd j2).1 = 3) ∨ (kk0 = 24 ∧ (kd j2).1 = 7)) (h0 : 0 ≤ x) (h1 : x < N) (kk : Run d M Q (S.1, upR S.2.1 g j x (some (g2, j2)), S.2.2) mi pc' ls st) : Run d M Q S mi pc ls (vR (some (g2, j2)) :: vI x :: vR (some (g, j)) :: st) := by
  intro p l e R s m args below meth c D ca sx A n0 ρ0 Qm C0 Re ρ H locs mls mst hW hS hE hn hl hs
  obtain ⟨_, _, rfl, ⟨rfl, i2, hi2, ha2⟩, _, _, rfl, ⟨y, rfl, ey⟩, _, w2, rfl, ⟨rfl, i, hi, ha⟩, hs⟩ := hs
  obtain ⟨hSc, h241, ws, hlen, hP, hD, hc⟩ := id hW
  obtain ⟨e0, he1, he2⟩ := hc i hi
  rw [ha] at he1 he2
  obtain ⟨f, rfl, hf⟩ : ∃ f : Nat → Option Nat, e0 = .inl (ca (kk0 - 20), N, .inr (.inr (.inr (.inr f)))) ∧ ∀ k : Nat, k < N → Rv S.1 ρ sx (vR (S.2.1 g j k)) (va_rf (f k)) := by
    unfold Rc at he2; simp only [hk] at he2
    rcases he2 with ⟨h, -⟩ | ⟨h, -⟩ | ⟨h, -⟩ | ⟨h, -⟩ | ⟨-, -, h⟩
    · omega
    · omega
    · omega
    · omega
    · exact h
  obtain ⟨e2, hf1, hf2⟩ := hc i2 hi2
  rw [ha2] at hf1 hf2
  obtain ⟨fs, rfl⟩ : ∃ fs : List Value, e2 = .inr ((kd j2).1, fs) := by
    unfold Rc at hf2; simp only at hf2
    rcases hf2 with ⟨-, fs, h, -⟩ | ⟨h, -⟩ | ⟨h, -⟩ | ⟨h, -⟩ | ⟨h, -⟩
    · exact ⟨fs, h⟩
    all_goals omega
  have hin := i32_nat ey h0
  have hin2 := i32_in ey h0 h1
  have key : ∀ (H1 : Heap) (locs1 : List Loc), va_P D vwCl (ws.set i (ρ (g, j), .inl (ca (kk0 - 20), N, .inr (.inr (.inr (.inr (va_up f y.toNatClampNeg (some (ρ (g2, j2)))))))))) H1 → va_D A (ws.set i (ρ (g, j), .inl (ca (kk0 - 20), N, .inr (.inr (.inr (.inr (va_up f y.toNatClampNeg (some (ρ (g2, j2)))))))))) → va_S A s.heap H1 locs1 → W p l e R s m args below meth c H1 locs1 S.2.2.1 S.2.2.2 Qm (F0 m (pc + 1) mls w2) := by
    intro H1 locs1 hP1 hD1 hS1
    have k2 := kk p l e R s m args below meth c D ca sx A n0 ρ0 Qm C0 Re ρ H1 locs1 mls w2 ?_ hS1 hE hn hl hs
    · rw [hd.2] at k2
      exact k2
    refine wd_put hSc h241 hlen hc hi (by rw [ha]; exact hP1) (by rw [ha]; exact hD1) (fun _ _ _ _ => rfl) (upR_nm ha) ?_
    rw [ha]
    unfold Rc
    simp only [hk]
    refine Or.inr (Or.inr (Or.inr (Or.inr ⟨by omega, by omega, _, rfl, fun k hk2 => ?_⟩)))
    by_cases hkx : k = y.toNatClampNeg
    · subst hkx
      rw [hin.2, upR_at]
      have : va_up f y.toNatClampNeg (some (ρ (g2, j2))) y.toNatClampNeg = some (ρ (g2, j2)) := if_pos rfl
      rw [this]
      exact ⟨rfl, i2, hi2, ha2⟩
    · rw [upR_k (by omega)]
      have : va_up f y.toNatClampNeg (some (ρ (g2, j2))) k = f k := if_neg hkx
      rw [this]
      exact hf k hk2
  have hK := C0.2.2.2.2.2.2.2.2.2.1.1
  rcases hk3 with ⟨rfl, z⟩ | ⟨rfl, z⟩
  · rw [z] at hf1
    exact va_astq (r := (RX3, TX3, 5)) C0.1 C0.2.1 hK hP hD hS i 3 i2 3 he1 rfl hf1 rfl hin2 hd.1 key
  · rw [z] at hf1
    exact va_astq (r := (RX7, TX7, 14)) C0.1 C0.2.1 hK hP hD hS i 4 i2 7 he1 rfl hf1 rfl hin2 hd.1 key
end ARR
