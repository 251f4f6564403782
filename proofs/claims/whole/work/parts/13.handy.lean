/-! handier rules: arithmetic within bounds, truth values, what final fields hold -/
def bi (p : Prop) [Decidable p] : Int := if p then 1 else 0
theorem bi_t {p : Prop} [Decidable p] (h : p) : bi p = 1 := if_pos h
theorem bi_f {p : Prop} [Decidable p] (h : ¬ p) : bi p = 0 := if_neg h
theorem bi_01 {p : Prop} [Decidable p] : bi p = 0 ∨ bi p = 1 := by
  by_cases h : p
  · exact Or.inr (bi_t h)
  · exact Or.inl (bi_f h)
theorem bi_eq0 {p : Prop} [Decidable p] : bi p = 0 ↔ ¬ p := by
  by_cases h : p
  · rw [bi_t h]; simp [h]
  · rw [bi_f h]; simp [h]
theorem bi_ne0 {p : Prop} [Decidable p] : bi p ≠ 0 ↔ p := by
  by_cases h : p
  · rw [bi_t h]; simp [h]
  · rw [bi_f h]; simp [h]
theorem bi_eq1 {p : Prop} [Decidable p] : bi p = 1 ↔ p := by
  by_cases h : p
  · rw [bi_t h]; simp [h]
  · rw [bi_f h]; simp [h]
theorem bi_congr {p q : Prop} [Decidable p] [Decidable q] (h : p ↔ q) : bi p = bi q := by
  by_cases hp : p
  · rw [bi_t hp, bi_t (h.mp hp)]
  · rw [bi_f hp, bi_f (fun z => hp (h.mpr z))]
theorem lc_lt {x y : Int} : lc x y < 0 ↔ x < y := by unfold lc; split <;> (try split) <;> omega
theorem lc_le {x y : Int} : lc x y ≤ 0 ↔ x ≤ y := by unfold lc; split <;> (try split) <;> omega
theorem lc_gt {x y : Int} : 0 < lc x y ↔ y < x := by unfold lc; split <;> (try split) <;> omega
theorem lc_ge {x y : Int} : 0 ≤ lc x y ↔ y ≤ x := by unfold lc; split <;> (try split) <;> omega
theorem lc_eq {x y : Int} : lc x y = 0 ↔ x = y := by unfold lc; split <;> (try split) <;> omega
theorem Rs.al {n : Nat} {ρ : Ad → Nat} {sx : Nat → Nat} {a : Ad} : ∀ {xs : List V} {vs : List Value}, Rs n ρ sx xs vs → vR (some a) ∈ xs → ∃ i, i < n ∧ nm i = a
  | [], _, _, h => by cases h
  | y :: ys, _, ⟨v, w, _, h1, h2⟩, h => by
    rcases List.mem_cons.mp h with rfl | h
    · exact h1.2
    · exact Rs.al h2 h
section HANDY
variable {d : Nat} {M M' : MT} {Q : V → MI → Nat → MR → Prop} {S : Nat × MR × Nat × Nat} {mi : MI} {pc pc' : Nat} {ls st : List V}
theorem k_i {a : Int} (hd : Dc M pc (.iconst a) 1 pc') (ha : decide (-32768 ≤ a ∧ a < 32768) = true) (k : Run d M Q S mi pc' ls (vI a :: st)) : Run d M Q S mi pc ls st := by
  have h := of_decide_eq_true ha
  exact s_iconst hd (Int32.toInt_ofInt_of_le (by omega) (by omega)) k
theorem k_b {a : Int} (hd : Dc M pc (.bipush a) 2 pc') (ha : decide (-128 ≤ a ∧ a < 128) = true) (k : Run d M Q S mi pc' ls (vI a :: st)) : Run d M Q S mi pc ls st := by
  have h := of_decide_eq_true ha
  exact s_bipush hd (by rw [Int8.toInt_toInt32]; exact Int8.toInt_ofInt_of_le (by omega) (by omega)) k
theorem k_s {a : Int} (hd : Dc M pc (.sipush a) 3 pc') (ha : decide (-32768 ≤ a ∧ a < 32768) = true) (k : Run d M Q S mi pc' ls (vI a :: st)) : Run d M Q S mi pc ls st := by
  have h := of_decide_eq_true ha
  exact s_sipush hd (by rw [Int16.toInt_toInt32]; exact Int16.toInt_ofInt_of_le (by omega) (by omega)) k
theorem k_j {own : String} {i : Nat} {v : Int64} {a : Int} (hd : Dc M pc (.ldc2_w i) 3 pc') (hc : Cond.constantLong own i v ∈ T0) (ho : own = (mY M).cls) (ha : v.toInt = a) (k : Run d M Q S mi pc' ls (vL a :: st)) : Run d M Q S mi pc ls st := s_ldc2 hd ho hc ha k
theorem k_c {own : String} {i : Nat} {v : Int32} {a : Int} (hd : Dc M pc (.ldc i) 2 pc') (hc : Cond.constant own i v ∈ T0) (ho : own = (mY M).cls) (ha : v.toInt = a) (k : Run d M Q S mi pc' ls (vI a :: st)) : Run d M Q S mi pc ls st := s_ldc hd ho hc ha k
/-- an int on the stack is one of 32 bits -/
theorem s_rng {a : Int} (k : -2147483648 ≤ a → a < 2147483648 → Run d M Q S mi pc ls (vI a :: st)) : Run d M Q S mi pc ls (vI a :: st) := by
  intro p l e R s m args below meth c D ca sx A n0 ρ0 Qm C0 Re ρ H locs mls mst hW hS hE hn hl hs
  obtain ⟨_, w2, rfl, ⟨y, rfl, ey⟩, hs⟩ := hs
  exact k (by rw [← ey]; exact i32_lo y) (by rw [← ey]; exact i32_hi y) p l e R s m args below meth c D ca sx A n0 ρ0 Qm C0 Re ρ H locs mls _ hW hS hE hn hl ⟨_, _, rfl, ⟨y, rfl, ey⟩, hs⟩
theorem s_rng2 {a b : Int} (k : -2147483648 ≤ a → a < 2147483648 → -2147483648 ≤ b → b < 2147483648 → Run d M Q S mi pc ls (vI b :: vI a :: st)) : Run d M Q S mi pc ls (vI b :: vI a :: st) := by
  intro p l e R s m args below meth c D ca sx A n0 ρ0 Qm C0 Re ρ H locs mls mst hW hS hE hn hl hs
  obtain ⟨_, _, rfl, ⟨y, rfl, ey⟩, _, w2, rfl, ⟨z, rfl, ez⟩, hs⟩ := hs
  exact k (by rw [← ez]; exact i32_lo z) (by rw [← ez]; exact i32_hi z) (by rw [← ey]; exact i32_lo y) (by rw [← ey]; exact i32_hi y) p l e R s m args below meth c D ca sx A n0 ρ0 Qm C0 Re ρ H locs mls _ hW hS hE hn hl ⟨_, _, rfl, ⟨y, rfl, ey⟩, _, _, rfl, ⟨z, rfl, ez⟩, hs⟩
theorem s_rngL2 {a b : Int} (k : -9223372036854775808 ≤ a → a < 9223372036854775808 → -9223372036854775808 ≤ b → b < 9223372036854775808 → Run d M Q S mi pc ls (vL b :: vL a :: st)) : Run d M Q S mi pc ls (vL b :: vL a :: st) := by
  intro p l e R s m args below meth c D ca sx A n0 ρ0 Qm C0 Re ρ H locs mls mst hW hS hE hn hl hs
  obtain ⟨_, _, rfl, ⟨y, rfl, ey⟩, _, w2, rfl, ⟨z, rfl, ez⟩, hs⟩ := hs
  exact k (by rw [← ez]; exact i64_lo z) (by rw [← ez]; exact i64_hi z) (by rw [← ey]; exact i64_lo y) (by rw [← ey]; exact i64_hi y) p l e R s m args below meth c D ca sx A n0 ρ0 Qm C0 Re ρ H locs mls _ hW hS hE hn hl ⟨_, _, rfl, ⟨y, rfl, ey⟩, _, _, rfl, ⟨z, rfl, ez⟩, hs⟩
/-- a local int is one of 32 bits -/
theorem s_rngl {i : Nat} {a : Int} (hi : ls[i]? = some (vI a)) (k : -2147483648 ≤ a → a < 2147483648 → Run d M Q S mi pc ls st) : Run d M Q S mi pc ls st := by
  intro p l e R s m args below meth c D ca sx A n0 ρ0 Qm C0 Re ρ H locs mls mst hW hS hE hn hl hs
  obtain ⟨v, hv, hr⟩ := hl.get hi (fun q => by cases q)
  obtain ⟨y, rfl, ey⟩ := hr
  exact k (by rw [← ey]; exact i32_lo y) (by rw [← ey]; exact i32_hi y) p l e R s m args below meth c D ca sx A n0 ρ0 Qm C0 Re ρ H locs mls mst hW hS hE hn hl hs
/-- an int of memory is one of 32 bits -/
theorem s_rngm {g j N : Nat} {x : Int} (hk : kd j = (20, N)) (ha : vR (some (g, j)) ∈ ls ++ st) (h0 : 0 ≤ x) (h1 : x < N) (k : -2147483648 ≤ mi g j x → mi g j x < 2147483648 → Run d M Q S mi pc ls st) : Run d M Q S mi pc ls st := by
  intro p l e R s m args below meth c D ca sx A n0 ρ0 Qm C0 Re ρ H locs mls mst hW hS hE hn hl hs
  have hal : ∃ i, i < S.1 ∧ nm i = (g, j) := by
    rcases List.mem_append.mp ha with h | h
    · obtain ⟨i, hi⟩ := List.getElem?_of_mem h
      obtain ⟨v, -, hr⟩ := hl.get hi (fun q => by cases q)
      exact hr.2
    · exact Rs.al hs h
  obtain ⟨i, hi, ha⟩ := hal
  obtain ⟨hSc, h241, ws, hlen, hP, hD, hc⟩ := id hW
  obtain ⟨e0, he1, he2⟩ := hc i hi
  rw [ha] at he1 he2
  obtain ⟨f, rfl, hf⟩ : ∃ f : Nat → Int32, e0 = .inl (ca 0, N, .inl f) ∧ ∀ k : Nat, k < N → (f k).toInt = mi g j k := by
    unfold Rc at he2; simp only [hk] at he2
    rcases he2 with ⟨h, -⟩ | ⟨-, h⟩ | ⟨h, -⟩ | ⟨h, -⟩ | ⟨h, -⟩
    · omega
    · exact h
    all_goals omega
  have e2 := hf x.toNat (by omega)
  rw [Int.toNat_of_nonneg h0] at e2
  exact k (by rw [← e2]; exact i32_lo _) (by rw [← e2]; exact i32_hi _) p l e R s m args below meth c D ca sx A n0 ρ0 Qm C0 Re ρ H locs mls mst hW hS hE hn hl hs
theorem b_iadd {a b : Int} (hd : Dc M pc .iadd 1 pc') (h1 : -2147483648 ≤ a + b) (h2 : a + b < 2147483648) (k : Run d M Q S mi pc' ls (vI (a + b) :: st)) : Run d M Q S mi pc ls (vI b :: vI a :: st) := s_iadd hd (by rw [w32_id h1 h2]; exact k)
theorem b_ladd {a b : Int} (hd : Dc M pc .ladd 1 pc') (h1 : -9223372036854775808 ≤ a + b) (h2 : a + b < 9223372036854775808) (k : Run d M Q S mi pc' ls (vL (a + b) :: st)) : Run d M Q S mi pc ls (vL b :: vL a :: st) := s_ladd hd (by rw [w64_id h1 h2]; exact k)
theorem b_isub {a b : Int} (hd : Dc M pc .isub 1 pc') (h1 : -2147483648 ≤ a - b) (h2 : a - b < 2147483648) (k : Run d M Q S mi pc' ls (vI (a - b) :: st)) : Run d M Q S mi pc ls (vI b :: vI a :: st) := s_isub hd (by rw [w32_id h1 h2]; exact k)
theorem b_lsub {a b : Int} (hd : Dc M pc .lsub 1 pc') (h1 : -9223372036854775808 ≤ a - b) (h2 : a - b < 9223372036854775808) (k : Run d M Q S mi pc' ls (vL (a - b) :: st)) : Run d M Q S mi pc ls (vL b :: vL a :: st) := s_lsub hd (by rw [w64_id h1 h2]; exact k)
theorem b_imul {a b : Int} (hd : Dc M pc .imul 1 pc') (h1 : -2147483648 ≤ a * b) (h2 : a * b < 2147483648) (k : Run d M Q S mi pc' ls (vI (a * b) :: st)) : Run d M Q S mi pc ls (vI b :: vI a :: st) := s_imul hd (by rw [w32_id h1 h2]; exact k)
theorem b_lmul {a b : Int} (hd : Dc M pc .lmul 1 pc') (h1 : -9223372036854775808 ≤ a * b) (h2 : a * b < 9223372036854775808) (k : Run d M Q S mi pc' ls (vL (a * b) :: st)) : Run d M Q S mi pc ls (vL b :: vL a :: st) := s_lmul hd (by rw [w64_id h1 h2]; exact k)
theorem b_ineg {a : Int} (hd : Dc M pc .ineg 1 pc') (h1 : -2147483648 ≤ -a) (h2 : -a < 2147483648) (k : Run d M Q S mi pc' ls (vI (-a) :: st)) : Run d M Q S mi pc ls (vI a :: st) := s_ineg hd (by rw [w32_id h1 h2]; exact k)
theorem b_l2i {a : Int} (hd : Dc M pc .l2i 1 pc') (h1 : -2147483648 ≤ a) (h2 : a < 2147483648) (k : Run d M Q S mi pc' ls (vI a :: st)) : Run d M Q S mi pc ls (vL a :: st) := s_l2i hd (by rw [w32_id h1 h2]; exact k)
theorem tdiv_pos {a b : Int} (ha : 0 ≤ a) (hb : 0 < b) : a.tdiv b = a / b := Int.tdiv_eq_ediv_of_nonneg ha
theorem tmod_pos {a b : Int} (ha : 0 ≤ a) : a.tmod b = a % b := Int.tmod_eq_emod_of_nonneg ha
theorem b_idiv {a b : Int} (hd : Dc M pc .idiv 1 pc') (ha : 0 ≤ a) (hb : 0 < b) (k : Run d M Q S mi pc' ls (vI (a / b) :: st)) : Run d M Q S mi pc ls (vI b :: vI a :: st) := s_rng2 (fun h1 h2 h3 h4 => s_idiv hd (by omega) (by
  have hle : a / b ≤ a := Int.ediv_le_self b ha
  have hge : 0 ≤ a / b := Int.ediv_nonneg ha (by omega)
  rw [tdiv_pos ha hb, w32_id (by omega) (by omega)]; exact k))
theorem b_irem {a b : Int} (hd : Dc M pc .irem 1 pc') (ha : 0 ≤ a) (hb : 0 < b) (k : Run d M Q S mi pc' ls (vI (a % b) :: st)) : Run d M Q S mi pc ls (vI b :: vI a :: st) := s_irem hd (by omega) (by rw [tmod_pos ha]; exact k)
theorem b_ldiv {a b : Int} (hd : Dc M pc .ldiv 1 pc') (ha : 0 ≤ a) (hb : 0 < b) (k : Run d M Q S mi pc' ls (vL (a / b) :: st)) : Run d M Q S mi pc ls (vL b :: vL a :: st) := s_rngL2 (fun h1 h2 h3 h4 => s_ldiv hd (by omega) (by
  have hle : a / b ≤ a := Int.ediv_le_self b ha
  have hge : 0 ≤ a / b := Int.ediv_nonneg ha (by omega)
  rw [tdiv_pos ha hb, w64_id (by omega) (by omega)]; exact k))
theorem b_lrem {a b : Int} (hd : Dc M pc .lrem 1 pc') (ha : 0 ≤ a) (hb : 0 < b) (k : Run d M Q S mi pc' ls (vL (a % b) :: st)) : Run d M Q S mi pc ls (vL b :: vL a :: st) := s_lrem hd (by omega) (by rw [tmod_pos ha]; exact k)
/-- branches on a truth value -/
theorem s_if_eqb {p : Prop} {_ : Decidable p} {off : Int} {tgt : Nat} (hd : Dc M pc (.ifCond .eq off) 3 pc') (ht : (pc : Int) + off = (tgt : Int)) (k1 : ¬ p → Run d M Q S mi tgt ls st) (k2 : p → Run d M Q S mi pc' ls st) : Run d M Q S mi pc ls (vI (bi p) :: st) := s_if_eq hd ht (fun h => k1 (bi_eq0.mp h)) (fun h => k2 (bi_ne0.mp h))
theorem s_if_neb {p : Prop} {_ : Decidable p} {off : Int} {tgt : Nat} (hd : Dc M pc (.ifCond .ne off) 3 pc') (ht : (pc : Int) + off = (tgt : Int)) (k1 : p → Run d M Q S mi tgt ls st) (k2 : ¬ p → Run d M Q S mi pc' ls st) : Run d M Q S mi pc ls (vI (bi p) :: st) := s_if_ne hd ht (fun h => k1 (bi_ne0.mp h)) (fun h => k2 (bi_eq0.mp h))
/-- any reference, also none -/
theorem r_aload_n {i : Fin 4} {r : Option Ad} (hd : Dc M pc (.aload_n i) 1 pc') (hi : ls[(i : Nat)]? = some (vR r)) (k : Run d M Q S mi pc' ls (vR r :: st)) : Run d M Q S mi pc ls st := by
  cases r with
  | none => exact s_aload_nN hd hi k
  | some a => exact s_aload_n hd hi k
theorem r_aload {i : Nat} {r : Option Ad} (hd : Dc M pc (.aload i) 2 pc') (hi : ls[i]? = some (vR r)) (k : Run d M Q S mi pc' ls (vR r :: st)) : Run d M Q S mi pc ls st := by
  cases r with
  | none => exact s_aloadN hd hi k
  | some a => exact s_aload hd hi k
theorem s_tabC {a k0 dflt lo hi off : Int} {offs : Array Int} {len tgt : Nat} (hd : Dc M pc (.tableswitch dflt lo hi offs) len pc') (ha : a = k0) (hlo : decide (lo ≤ k0 ∧ k0 ≤ hi) = true) (ho : offs[(k0 - lo).toNat]? = some off) (ht : (pc : Int) + off = (tgt : Int)) (k : Run d M Q S mi tgt ls st) : Run d M Q S mi pc ls (vI a :: st) := by
  have hb := of_decide_eq_true hlo
  subst ha
  intro p l e R s m args below meth c D ca sx A n0 ρ0 Qm C0 Re ρ H locs mls mst hW hS hE hn hl hs
  obtain ⟨_, w2, rfl, ⟨y, rfl, e1⟩, hs⟩ := hs
  exact lv_tableIn C0.1 C0.2.1 hd.1 (by rw [e1]; exact Int.not_lt.mpr hb.1) (by rw [e1]; exact Int.not_lt.mpr hb.2) (by rw [e1]; exact ho) ht (k p l e R s m args below meth c D ca sx A n0 ρ0 Qm C0 Re ρ H locs mls w2 hW hS hE hn hl hs)
theorem s_tabD {a dflt lo hi : Int} {offs : Array Int} {len tgt : Nat} (hd : Dc M pc (.tableswitch dflt lo hi offs) len pc') (ha : a < lo ∨ hi < a) (ht : (pc : Int) + dflt = (tgt : Int)) (k : Run d M Q S mi tgt ls st) : Run d M Q S mi pc ls (vI a :: st) := by
  intro p l e R s m args below meth c D ca sx A n0 ρ0 Qm C0 Re ρ H locs mls mst hW hS hE hn hl hs
  obtain ⟨_, w2, rfl, ⟨y, rfl, e1⟩, hs⟩ := hs
  exact lv_tableOut C0.1 C0.2.1 hd.1 (by rw [e1]; exact ha) ht (k p l e R s m args below meth c D ca sx A n0 ρ0 Qm C0 Re ρ H locs mls w2 hW hS hE hn hl hs)
theorem t_r0 {x0 : V} {r : Option Ad} {l : List V} (hd : Dc M pc (.astore_n 0) 1 pc') (hi : 0 < mL M) (k : Run d M Q S mi pc' (vR r :: l) st) : Run d M Q S mi pc (x0 :: l) (vR r :: st) := by
  cases r with
  | none => exact t_n0 hd hi k
  | some a => exact t_a0 hd hi k
theorem b_inc0 {a b : Int} {l : List V} (hd : Dc M pc (.iinc 0 b) 3 pc') (hb : decide (-32768 ≤ b ∧ b < 32768) = true) (hi : 0 < mL M) (h1 : -2147483648 ≤ a + b) (h2 : a + b < 2147483648) (k : Run d M Q S mi pc' (vI (a + b) :: l) st) : Run d M Q S mi pc (vI a :: l) st := by
  have h := of_decide_eq_true hb
  exact t_inc0 hd (Int32.toInt_ofInt_of_le (by omega) (by omega)) hi (by rw [w32_id h1 h2]; exact k)
theorem t_r1 {x0 x1 : V} {r : Option Ad} {l : List V} (hd : Dc M pc (.astore_n 1) 1 pc') (hi : 1 < mL M) (hL : isL x0 = false) (k : Run d M Q S mi pc' (x0 :: vR r :: l) st) : Run d M Q S mi pc (x0 :: x1 :: l) (vR r :: st) := by
  cases r with
  | none => exact t_n1 hd hi hL k
  | some a => exact t_a1 hd hi hL k
theorem b_inc1 {x0 : V} {a b : Int} {l : List V} (hd : Dc M pc (.iinc 1 b) 3 pc') (hb : decide (-32768 ≤ b ∧ b < 32768) = true) (hi : 1 < mL M) (hL : isL x0 = false) (h1 : -2147483648 ≤ a + b) (h2 : a + b < 2147483648) (k : Run d M Q S mi pc' (x0 :: vI (a + b) :: l) st) : Run d M Q S mi pc (x0 :: vI a :: l) st := by
  have h := of_decide_eq_true hb
  exact t_inc1 hd (Int32.toInt_ofInt_of_le (by omega) (by omega)) hi hL (by rw [w32_id h1 h2]; exact k)
theorem t_r2 {x0 x1 x2 : V} {r : Option Ad} {l : List V} (hd : Dc M pc (.astore_n 2) 1 pc') (hi : 2 < mL M) (hL : isL x1 = false) (k : Run d M Q S mi pc' (x0 :: x1 :: vR r :: l) st) : Run d M Q S mi pc (x0 :: x1 :: x2 :: l) (vR r :: st) := by
  cases r with
  | none => exact t_n2 hd hi hL k
  | some a => exact t_a2 hd hi hL k
theorem b_inc2 {x0 x1 : V} {a b : Int} {l : List V} (hd : Dc M pc (.iinc 2 b) 3 pc') (hb : decide (-32768 ≤ b ∧ b < 32768) = true) (hi : 2 < mL M) (hL : isL x1 = false) (h1 : -2147483648 ≤ a + b) (h2 : a + b < 2147483648) (k : Run d M Q S mi pc' (x0 :: x1 :: vI (a + b) :: l) st) : Run d M Q S mi pc (x0 :: x1 :: vI a :: l) st := by
  have h := of_decide_eq_true hb
  exact t_inc2 hd (Int32.toInt_ofInt_of_le (by omega) (by omega)) hi hL (by rw [w32_id h1 h2]; exact k)
theorem t_r3 {x0 x1 x2 x3 : V} {r : Option Ad} {l : List V} (hd : Dc M pc (.astore_n 3) 1 pc') (hi : 3 < mL M) (hL : isL x2 = false) (k : Run d M Q S mi pc' (x0 :: x1 :: x2 :: vR r :: l) st) : Run d M Q S mi pc (x0 :: x1 :: x2 :: x3 :: l) (vR r :: st) := by
  cases r with
  | none => exact t_n3 hd hi hL k
  | some a => exact t_a3 hd hi hL k
theorem b_inc3 {x0 x1 x2 : V} {a b : Int} {l : List V} (hd : Dc M pc (.iinc 3 b) 3 pc') (hb : decide (-32768 ≤ b ∧ b < 32768) = true) (hi : 3 < mL M) (hL : isL x2 = false) (h1 : -2147483648 ≤ a + b) (h2 : a + b < 2147483648) (k : Run d M Q S mi pc' (x0 :: x1 :: x2 :: vI (a + b) :: l) st) : Run d M Q S mi pc (x0 :: x1 :: x2 :: vI a :: l) st := by
  have h := of_decide_eq_true hb
  exact t_inc3 hd (Int32.toInt_ofInt_of_le (by omega) (by omega)) hi hL (by rw [w32_id h1 h2]; exact k)
theorem t_r4 {x0 x1 x2 x3 x4 : V} {r : Option Ad} {l : List V} (hd : Dc M pc (.astore 4) 2 pc') (hi : 4 < mL M) (hL : isL x3 = false) (k : Run d M Q S mi pc' (x0 :: x1 :: x2 :: x3 :: vR r :: l) st) : Run d M Q S mi pc (x0 :: x1 :: x2 :: x3 :: x4 :: l) (vR r :: st) := by
  cases r with
  | none => exact t_n4 hd hi hL k
  | some a => exact t_a4 hd hi hL k
theorem b_inc4 {x0 x1 x2 x3 : V} {a b : Int} {l : List V} (hd : Dc M pc (.iinc 4 b) 3 pc') (hb : decide (-32768 ≤ b ∧ b < 32768) = true) (hi : 4 < mL M) (hL : isL x3 = false) (h1 : -2147483648 ≤ a + b) (h2 : a + b < 2147483648) (k : Run d M Q S mi pc' (x0 :: x1 :: x2 :: x3 :: vI (a + b) :: l) st) : Run d M Q S mi pc (x0 :: x1 :: x2 :: x3 :: vI a :: l) st := by
  have h := of_decide_eq_true hb
  exact t_inc4 hd (Int32.toInt_ofInt_of_le (by omega) (by omega)) hi hL (by rw [w32_id h1 h2]; exact k)
theorem t_r5 {x0 x1 x2 x3 x4 x5 : V} {r : Option Ad} {l : List V} (hd : Dc M pc (.astore 5) 2 pc') (hi : 5 < mL M) (hL : isL x4 = false) (k : Run d M Q S mi pc' (x0 :: x1 :: x2 :: x3 :: x4 :: vR r :: l) st) : Run d M Q S mi pc (x0 :: x1 :: x2 :: x3 :: x4 :: x5 :: l) (vR r :: st) := by
  cases r with
  | none => exact t_n5 hd hi hL k
  | some a => exact t_a5 hd hi hL k
theorem b_inc5 {x0 x1 x2 x3 x4 : V} {a b : Int} {l : List V} (hd : Dc M pc (.iinc 5 b) 3 pc') (hb : decide (-32768 ≤ b ∧ b < 32768) = true) (hi : 5 < mL M) (hL : isL x4 = false) (h1 : -2147483648 ≤ a + b) (h2 : a + b < 2147483648) (k : Run d M Q S mi pc' (x0 :: x1 :: x2 :: x3 :: x4 :: vI (a + b) :: l) st) : Run d M Q S mi pc (x0 :: x1 :: x2 :: x3 :: x4 :: vI a :: l) st := by
  have h := of_decide_eq_true hb
  exact t_inc5 hd (Int32.toInt_ofInt_of_le (by omega) (by omega)) hi hL (by rw [w32_id h1 h2]; exact k)
theorem t_r6 {x0 x1 x2 x3 x4 x5 x6 : V} {r : Option Ad} {l : List V} (hd : Dc M pc (.astore 6) 2 pc') (hi : 6 < mL M) (hL : isL x5 = false) (k : Run d M Q S mi pc' (x0 :: x1 :: x2 :: x3 :: x4 :: x5 :: vR r :: l) st) : Run d M Q S mi pc (x0 :: x1 :: x2 :: x3 :: x4 :: x5 :: x6 :: l) (vR r :: st) := by
  cases r with
  | none => exact t_n6 hd hi hL k
  | some a => exact t_a6 hd hi hL k
theorem b_inc6 {x0 x1 x2 x3 x4 x5 : V} {a b : Int} {l : List V} (hd : Dc M pc (.iinc 6 b) 3 pc') (hb : decide (-32768 ≤ b ∧ b < 32768) = true) (hi : 6 < mL M) (hL : isL x5 = false) (h1 : -2147483648 ≤ a + b) (h2 : a + b < 2147483648) (k : Run d M Q S mi pc' (x0 :: x1 :: x2 :: x3 :: x4 :: x5 :: vI (a + b) :: l) st) : Run d M Q S mi pc (x0 :: x1 :: x2 :: x3 :: x4 :: x5 :: vI a :: l) st := by
  have h := of_decide_eq_true hb
  exact t_inc6 hd (Int32.toInt_ofInt_of_le (by omega) (by omega)) hi hL (by rw [w32_id h1 h2]; exact k)
theorem t_r7 {x0 x1 x2 x3 x4 x5 x6 x7 : V} {r : Option Ad} {l : List V} (hd : Dc M pc (.astore 7) 2 pc') (hi : 7 < mL M) (hL : isL x6 = false) (k : Run d M Q S mi pc' (x0 :: x1 :: x2 :: x3 :: x4 :: x5 :: x6 :: vR r :: l) st) : Run d M Q S mi pc (x0 :: x1 :: x2 :: x3 :: x4 :: x5 :: x6 :: x7 :: l) (vR r :: st) := by
  cases r with
  | none => exact t_n7 hd hi hL k
  | some a => exact t_a7 hd hi hL k
theorem b_inc7 {x0 x1 x2 x3 x4 x5 x6 : V} {a b : Int} {l : List V} (hd : Dc M pc (.iinc 7 b) 3 pc') (hb : decide (-32768 ≤ b ∧ b < 32768) = true) (hi : 7 < mL M) (hL : isL x6 = false) (h1 : -2147483648 ≤ a + b) (h2 : a + b < 2147483648) (k : Run d M Q S mi pc' (x0 :: x1 :: x2 :: x3 :: x4 :: x5 :: x6 :: vI (a + b) :: l) st) : Run d M Q S mi pc (x0 :: x1 :: x2 :: x3 :: x4 :: x5 :: x6 :: vI a :: l) st := by
  have h := of_decide_eq_true hb
  exact t_inc7 hd (Int32.toInt_ofInt_of_le (by omega) (by omega)) hi hL (by rw [w32_id h1 h2]; exact k)
theorem t_r8 {x0 x1 x2 x3 x4 x5 x6 x7 x8 : V} {r : Option Ad} {l : List V} (hd : Dc M pc (.astore 8) 2 pc') (hi : 8 < mL M) (hL : isL x7 = false) (k : Run d M Q S mi pc' (x0 :: x1 :: x2 :: x3 :: x4 :: x5 :: x6 :: x7 :: vR r :: l) st) : Run d M Q S mi pc (x0 :: x1 :: x2 :: x3 :: x4 :: x5 :: x6 :: x7 :: x8 :: l) (vR r :: st) := by
  cases r with
  | none => exact t_n8 hd hi hL k
  | some a => exact t_a8 hd hi hL k
theorem b_inc8 {x0 x1 x2 x3 x4 x5 x6 x7 : V} {a b : Int} {l : List V} (hd : Dc M pc (.iinc 8 b) 3 pc') (hb : decide (-32768 ≤ b ∧ b < 32768) = true) (hi : 8 < mL M) (hL : isL x7 = false) (h1 : -2147483648 ≤ a + b) (h2 : a + b < 2147483648) (k : Run d M Q S mi pc' (x0 :: x1 :: x2 :: x3 :: x4 :: x5 :: x6 :: x7 :: vI (a + b) :: l) st) : Run d M Q S mi pc (x0 :: x1 :: x2 :: x3 :: x4 :: x5 :: x6 :: x7 :: vI a :: l) st := by
  have h := of_decide_eq_true hb
  exact t_inc8 hd (Int32.toInt_ofInt_of_le (by omega) (by omega)) hi hL (by rw [w32_id h1 h2]; exact k)
theorem t_r9 {x0 x1 x2 x3 x4 x5 x6 x7 x8 x9 : V} {r : Option Ad} {l : List V} (hd : Dc M pc (.astore 9) 2 pc') (hi : 9 < mL M) (hL : isL x8 = false) (k : Run d M Q S mi pc' (x0 :: x1 :: x2 :: x3 :: x4 :: x5 :: x6 :: x7 :: x8 :: vR r :: l) st) : Run d M Q S mi pc (x0 :: x1 :: x2 :: x3 :: x4 :: x5 :: x6 :: x7 :: x8 :: x9 :: l) (vR r :: st) := by
  cases r with
  | none => exact t_n9 hd hi hL k
  | some a => exact t_a9 hd hi hL k
theorem b_inc9 {x0 x1 x2 x3 x4 x5 x6 x7 x8 : V} {a b : Int} {l : List V} (hd : Dc M pc (.iinc 9 b) 3 pc') (hb : decide (-32768 ≤ b ∧ b < 32768) = true) (hi : 9 < mL M) (hL : isL x8 = false) (h1 : -2147483648 ≤ a + b) (h2 : a + b < 2147483648) (k : Run d M Q S mi pc' (x0 :: x1 :: x2 :: x3 :: x4 :: x5 :: x6 :: x7 :: x8 :: vI (a + b) :: l) st) : Run d M Q S mi pc (x0 :: x1 :: x2 :: x3 :: x4 :: x5 :: x6 :: x7 :: x8 :: vI a :: l) st := by
  have h := of_decide_eq_true hb
  exact t_inc9 hd (Int32.toInt_ofInt_of_le (by omega) (by omega)) hi hL (by rw [w32_id h1 h2]; exact k)
theorem t_r10 {x0 x1 x2 x3 x4 x5 x6 x7 x8 x9 x10 : V} {r : Option Ad} {l : List V} (hd : Dc M pc (.astore 10) 2 pc') (hi : 10 < mL M) (hL : isL x9 = false) (k : Run d M Q S mi pc' (x0 :: x1 :: x2 :: x3 :: x4 :: x5 :: x6 :: x7 :: x8 :: x9 :: vR r :: l) st) : Run d M Q S mi pc (x0 :: x1 :: x2 :: x3 :: x4 :: x5 :: x6 :: x7 :: x8 :: x9 :: x10 :: l) (vR r :: st) := by
  cases r with
  | none => exact t_n10 hd hi hL k
  | some a => exact t_a10 hd hi hL k
theorem b_inc10 {x0 x1 x2 x3 x4 x5 x6 x7 x8 x9 : V} {a b : Int} {l : List V} (hd : Dc M pc (.iinc 10 b) 3 pc') (hb : decide (-32768 ≤ b ∧ b < 32768) = true) (hi : 10 < mL M) (hL : isL x9 = false) (h1 : -2147483648 ≤ a + b) (h2 : a + b < 2147483648) (k : Run d M Q S mi pc' (x0 :: x1 :: x2 :: x3 :: x4 :: x5 :: x6 :: x7 :: x8 :: x9 :: vI (a + b) :: l) st) : Run d M Q S mi pc (x0 :: x1 :: x2 :: x3 :: x4 :: x5 :: x6 :: x7 :: x8 :: x9 :: vI a :: l) st := by
  have h := of_decide_eq_true hb
  exact t_inc10 hd (Int32.toInt_ofInt_of_le (by omega) (by omega)) hi hL (by rw [w32_id h1 h2]; exact k)
theorem t_r11 {x0 x1 x2 x3 x4 x5 x6 x7 x8 x9 x10 x11 : V} {r : Option Ad} {l : List V} (hd : Dc M pc (.astore 11) 2 pc') (hi : 11 < mL M) (hL : isL x10 = false) (k : Run d M Q S mi pc' (x0 :: x1 :: x2 :: x3 :: x4 :: x5 :: x6 :: x7 :: x8 :: x9 :: x10 :: vR r :: l) st) : Run d M Q S mi pc (x0 :: x1 :: x2 :: x3 :: x4 :: x5 :: x6 :: x7 :: x8 :: x9 :: x10 :: x11 :: l) (vR r :: st) := by
  cases r with
  | none => exact t_n11 hd hi hL k
  | some a => exact t_a11 hd hi hL k
theorem b_inc11 {x0 x1 x2 x3 x4 x5 x6 x7 x8 x9 x10 : V} {a b : Int} {l : List V} (hd : Dc M pc (.iinc 11 b) 3 pc') (hb : decide (-32768 ≤ b ∧ b < 32768) = true) (hi : 11 < mL M) (hL : isL x10 = false) (h1 : -2147483648 ≤ a + b) (h2 : a + b < 2147483648) (k : Run d M Q S mi pc' (x0 :: x1 :: x2 :: x3 :: x4 :: x5 :: x6 :: x7 :: x8 :: x9 :: x10 :: vI (a + b) :: l) st) : Run d M Q S mi pc (x0 :: x1 :: x2 :: x3 :: x4 :: x5 :: x6 :: x7 :: x8 :: x9 :: x10 :: vI a :: l) st := by
  have h := of_decide_eq_true hb
  exact t_inc11 hd (Int32.toInt_ofInt_of_le (by omega) (by omega)) hi hL (by rw [w32_id h1 h2]; exact k)
theorem t_r12 {x0 x1 x2 x3 x4 x5 x6 x7 x8 x9 x10 x11 x12 : V} {r : Option Ad} {l : List V} (hd : Dc M pc (.astore 12) 2 pc') (hi : 12 < mL M) (hL : isL x11 = false) (k : Run d M Q S mi pc' (x0 :: x1 :: x2 :: x3 :: x4 :: x5 :: x6 :: x7 :: x8 :: x9 :: x10 :: x11 :: vR r :: l) st) : Run d M Q S mi pc (x0 :: x1 :: x2 :: x3 :: x4 :: x5 :: x6 :: x7 :: x8 :: x9 :: x10 :: x11 :: x12 :: l) (vR r :: st) := by
  cases r with
  | none => exact t_n12 hd hi hL k
  | some a => exact t_a12 hd hi hL k
theorem b_inc12 {x0 x1 x2 x3 x4 x5 x6 x7 x8 x9 x10 x11 : V} {a b : Int} {l : List V} (hd : Dc M pc (.iinc 12 b) 3 pc') (hb : decide (-32768 ≤ b ∧ b < 32768) = true) (hi : 12 < mL M) (hL : isL x11 = false) (h1 : -2147483648 ≤ a + b) (h2 : a + b < 2147483648) (k : Run d M Q S mi pc' (x0 :: x1 :: x2 :: x3 :: x4 :: x5 :: x6 :: x7 :: x8 :: x9 :: x10 :: x11 :: vI (a + b) :: l) st) : Run d M Q S mi pc (x0 :: x1 :: x2 :: x3 :: x4 :: x5 :: x6 :: x7 :: x8 :: x9 :: x10 :: x11 :: vI a :: l) st := by
  have h := of_decide_eq_true hb
  exact t_inc12 hd (Int32.toInt_ofInt_of_le (by omega) (by omega)) hi hL (by rw [w32_id h1 h2]; exact k)
theorem t_r13 {x0 x1 x2 x3 x4 x5 x6 x7 x8 x9 x10 x11 x12 x13 : V} {r : Option Ad} {l : List V} (hd : Dc M pc (.astore 13) 2 pc') (hi : 13 < mL M) (hL : isL x12 = false) (k : Run d M Q S mi pc' (x0 :: x1 :: x2 :: x3 :: x4 :: x5 :: x6 :: x7 :: x8 :: x9 :: x10 :: x11 :: x12 :: vR r :: l) st) : Run d M Q S mi pc (x0 :: x1 :: x2 :: x3 :: x4 :: x5 :: x6 :: x7 :: x8 :: x9 :: x10 :: x11 :: x12 :: x13 :: l) (vR r :: st) := by
  cases r with
  | none => exact t_n13 hd hi hL k
  | some a => exact t_a13 hd hi hL k
theorem b_inc13 {x0 x1 x2 x3 x4 x5 x6 x7 x8 x9 x10 x11 x12 : V} {a b : Int} {l : List V} (hd : Dc M pc (.iinc 13 b) 3 pc') (hb : decide (-32768 ≤ b ∧ b < 32768) = true) (hi : 13 < mL M) (hL : isL x12 = false) (h1 : -2147483648 ≤ a + b) (h2 : a + b < 2147483648) (k : Run d M Q S mi pc' (x0 :: x1 :: x2 :: x3 :: x4 :: x5 :: x6 :: x7 :: x8 :: x9 :: x10 :: x11 :: x12 :: vI (a + b) :: l) st) : Run d M Q S mi pc (x0 :: x1 :: x2 :: x3 :: x4 :: x5 :: x6 :: x7 :: x8 :: x9 :: x10 :: x11 :: x12 :: vI a :: l) st := by
  have h := of_decide_eq_true hb
  exact t_inc13 hd (Int32.toInt_ofInt_of_le (by omega) (by omega)) hi hL (by rw [w32_id h1 h2]; exact k)
theorem t_r14 {x0 x1 x2 x3 x4 x5 x6 x7 x8 x9 x10 x11 x12 x13 x14 : V} {r : Option Ad} {l : List V} (hd : Dc M pc (.astore 14) 2 pc') (hi : 14 < mL M) (hL : isL x13 = false) (k : Run d M Q S mi pc' (x0 :: x1 :: x2 :: x3 :: x4 :: x5 :: x6 :: x7 :: x8 :: x9 :: x10 :: x11 :: x12 :: x13 :: vR r :: l) st) : Run d M Q S mi pc (x0 :: x1 :: x2 :: x3 :: x4 :: x5 :: x6 :: x7 :: x8 :: x9 :: x10 :: x11 :: x12 :: x13 :: x14 :: l) (vR r :: st) := by
  cases r with
  | none => exact t_n14 hd hi hL k
  | some a => exact t_a14 hd hi hL k
theorem b_inc14 {x0 x1 x2 x3 x4 x5 x6 x7 x8 x9 x10 x11 x12 x13 : V} {a b : Int} {l : List V} (hd : Dc M pc (.iinc 14 b) 3 pc') (hb : decide (-32768 ≤ b ∧ b < 32768) = true) (hi : 14 < mL M) (hL : isL x13 = false) (h1 : -2147483648 ≤ a + b) (h2 : a + b < 2147483648) (k : Run d M Q S mi pc' (x0 :: x1 :: x2 :: x3 :: x4 :: x5 :: x6 :: x7 :: x8 :: x9 :: x10 :: x11 :: x12 :: x13 :: vI (a + b) :: l) st) : Run d M Q S mi pc (x0 :: x1 :: x2 :: x3 :: x4 :: x5 :: x6 :: x7 :: x8 :: x9 :: x10 :: x11 :: x12 :: x13 :: vI a :: l) st := by
  have h := of_decide_eq_true hb
  exact t_inc14 hd (Int32.toInt_ofInt_of_le (by omega) (by omega)) hi hL (by rw [w32_id h1 h2]; exact k)
theorem t_r15 {x0 x1 x2 x3 x4 x5 x6 x7 x8 x9 x10 x11 x12 x13 x14 x15 : V} {r : Option Ad} {l : List V} (hd : Dc M pc (.astore 15) 2 pc') (hi : 15 < mL M) (hL : isL x14 = false) (k : Run d M Q S mi pc' (x0 :: x1 :: x2 :: x3 :: x4 :: x5 :: x6 :: x7 :: x8 :: x9 :: x10 :: x11 :: x12 :: x13 :: x14 :: vR r :: l) st) : Run d M Q S mi pc (x0 :: x1 :: x2 :: x3 :: x4 :: x5 :: x6 :: x7 :: x8 :: x9 :: x10 :: x11 :: x12 :: x13 :: x14 :: x15 :: l) (vR r :: st) := by
  cases r with
  | none => exact t_n15 hd hi hL k
  | some a => exact t_a15 hd hi hL k
theorem b_inc15 {x0 x1 x2 x3 x4 x5 x6 x7 x8 x9 x10 x11 x12 x13 x14 : V} {a b : Int} {l : List V} (hd : Dc M pc (.iinc 15 b) 3 pc') (hb : decide (-32768 ≤ b ∧ b < 32768) = true) (hi : 15 < mL M) (hL : isL x14 = false) (h1 : -2147483648 ≤ a + b) (h2 : a + b < 2147483648) (k : Run d M Q S mi pc' (x0 :: x1 :: x2 :: x3 :: x4 :: x5 :: x6 :: x7 :: x8 :: x9 :: x10 :: x11 :: x12 :: x13 :: x14 :: vI (a + b) :: l) st) : Run d M Q S mi pc (x0 :: x1 :: x2 :: x3 :: x4 :: x5 :: x6 :: x7 :: x8 :: x9 :: x10 :: x11 :: x12 :: x13 :: x14 :: vI a :: l) st := by
  have h := of_decide_eq_true hb
  exact t_inc15 hd (Int32.toInt_ofInt_of_le (by omega) (by omega)) hi hL (by rw [w32_id h1 h2]; exact k)
end HANDY
/-- the instances of a role that are there once G states are -/
def okI (G j g : Nat) : Prop := match j with
  | 5 => g < G
  | 15 => g < G ∨ g = 9
  | 20 => g < G ∨ (10 ≤ g ∧ g < 10 + G) ∨ g = 20 ∨ g = 21
  | 30 => g < G
  | 40 => g < G
  | 50 => g < 5
  | 55 => g < 2
  | 57 => g < 4
  | _ => g = 0
def frL : List (Nat × Int × (Nat → Ad)) := [(0, 0, fun g => (g, 1)), (0, 6, fun g => (g, 2)), (0, 7, fun g => (g, 45)), (0, 8, fun g => (g, 50)), (0, 9, fun g => (g, 55)), (0, 10, fun g => (g, 60)), (0, 11, fun g => (g, 70)), (5, 0, fun g => (g, 15)), (5, 1, fun g => (g, 20)), (5, 2, fun g => (g + 10, 20)), (5, 3, fun g => (g, 30)), (5, 4, fun g => (g, 40)), (5, 5, fun g => (g, 6)), (5, 6, fun g => (g, 7)), (5, 7, fun g => (g, 8)), (5, 8, fun g => (g, 9)), (5, 9, fun g => (g, 10)), (15, 0, fun g => (g, 16)), (20, 2, fun g => (g, 21)), (20, 3, fun g => (g, 22)), (20, 4, fun g => (g, 23)), (20, 5, fun g => (g, 24)), (20, 6, fun g => (g, 25)), (20, 7, fun g => (g, 26)), (20, 8, fun g => (g, 27)), (30, 3, fun g => (g, 31)), (30, 4, fun g => (g, 32)), (30, 5, fun g => (g, 33)), (30, 6, fun g => (g, 34)), (30, 7, fun g => (g, 35)), (30, 8, fun g => (g, 36)), (30, 9, fun g => (g, 37)), (30, 10, fun g => (g, 38)), (40, 3, fun g => (g, 41)), (40, 4, fun g => (g, 42)), (40, 5, fun g => (g, 43)), (45, 0, fun g => (20, 20)), (45, 2, fun g => (g, 46)), (45, 3, fun g => (g, 47)), (45, 4, fun g => (g, 48)), (45, 8, fun g => (g, 49)), (50, 1, fun g => (g, 52)), (50, 5, fun g => (g, 53)), (55, 0, fun g => (1 + 3 * g, 50)), (57, 4, fun g => (g, 58)), (60, 0, fun g => (2, 50)), (60, 1, fun g => (g, 61)), (60, 2, fun g => (g, 62)), (60, 5, fun g => (g, 63)), (60, 6, fun g => (g, 64)), (60, 7, fun g => (g, 65)), (60, 11, fun g => (g, 66)), (60, 12, fun g => (g, 67)), (70, 0, fun g => (3, 50)), (70, 1, fun g => (1, 55)), (70, 2, fun g => (9, 15)), (70, 3, fun g => (g, 71)), (70, 6, fun g => (g, 72)), (70, 9, fun g => (g, 73)), (80, 2, fun g => (g, 81)), (80, 3, fun g => (g, 82)), (80, 4, fun g => (g, 83)), (80, 5, fun g => (g, 84)), (80, 6, fun g => (g, 85)), (80, 10, fun g => (g, 86)), (80, 21, fun g => (g, 87)), (80, 22, fun g => (g, 88)), (80, 23, fun g => (g, 89)), (80, 26, fun g => (g, 90)), (80, 27, fun g => (g, 91)), (80, 29, fun g => (g, 92)), (80, 37, fun g => (g, 93)), (80, 38, fun g => (g, 94)), (80, 39, fun g => (g, 95)), (80, 40, fun g => (g, 96)), (80, 41, fun g => (g, 97)), (80, 42, fun g => (g, 98)), (80, 43, fun g => (g, 99)), (80, 44, fun g => (g, 100)), (80, 47, fun g => (g, 101)), (61, 0, fun g => (0, 57)), (61, 1, fun g => (1, 57)), (61, 2, fun g => (2, 57)), (61, 3, fun g => (3, 57)), (67, 0, fun g => (0, 68)), (67, 1, fun g => (1, 68)), (67, 2, fun g => (2, 68))]
def Lay (G : Nat) (mr : MR) : Prop := ∀ q ∈ frL, ∀ g, okI G q.1 g → mr g q.1 q.2.1 = some (q.2.2 g)
theorem ly_0_0 {G : Nat} {mr : MR} (h : Lay G mr) : mr 0 0 0 = some (0, 1) := h (0, 0, fun g => (g, 1)) (List.mem_of_getElem? (i := 0) rfl) 0 rfl
theorem ly_0_6 {G : Nat} {mr : MR} (h : Lay G mr) : mr 0 0 6 = some (0, 2) := h (0, 6, fun g => (g, 2)) (List.mem_of_getElem? (i := 1) rfl) 0 rfl
theorem ly_0_7 {G : Nat} {mr : MR} (h : Lay G mr) : mr 0 0 7 = some (0, 45) := h (0, 7, fun g => (g, 45)) (List.mem_of_getElem? (i := 2) rfl) 0 rfl
theorem ly_0_8 {G : Nat} {mr : MR} (h : Lay G mr) : mr 0 0 8 = some (0, 50) := h (0, 8, fun g => (g, 50)) (List.mem_of_getElem? (i := 3) rfl) 0 rfl
theorem ly_0_9 {G : Nat} {mr : MR} (h : Lay G mr) : mr 0 0 9 = some (0, 55) := h (0, 9, fun g => (g, 55)) (List.mem_of_getElem? (i := 4) rfl) 0 rfl
theorem ly_0_10 {G : Nat} {mr : MR} (h : Lay G mr) : mr 0 0 10 = some (0, 60) := h (0, 10, fun g => (g, 60)) (List.mem_of_getElem? (i := 5) rfl) 0 rfl
theorem ly_0_11 {G : Nat} {mr : MR} (h : Lay G mr) : mr 0 0 11 = some (0, 70) := h (0, 11, fun g => (g, 70)) (List.mem_of_getElem? (i := 6) rfl) 0 rfl
theorem ly_5_0 {G g : Nat} {mr : MR} (h : Lay G mr) (hg : okI G 5 g) : mr g 5 0 = some (g, 15) := h (5, 0, fun g => (g, 15)) (List.mem_of_getElem? (i := 7) rfl) g hg
theorem ly_5_1 {G g : Nat} {mr : MR} (h : Lay G mr) (hg : okI G 5 g) : mr g 5 1 = some (g, 20) := h (5, 1, fun g => (g, 20)) (List.mem_of_getElem? (i := 8) rfl) g hg
theorem ly_5_2 {G g : Nat} {mr : MR} (h : Lay G mr) (hg : okI G 5 g) : mr g 5 2 = some (g + 10, 20) := h (5, 2, fun g => (g + 10, 20)) (List.mem_of_getElem? (i := 9) rfl) g hg
theorem ly_5_3 {G g : Nat} {mr : MR} (h : Lay G mr) (hg : okI G 5 g) : mr g 5 3 = some (g, 30) := h (5, 3, fun g => (g, 30)) (List.mem_of_getElem? (i := 10) rfl) g hg
theorem ly_5_4 {G g : Nat} {mr : MR} (h : Lay G mr) (hg : okI G 5 g) : mr g 5 4 = some (g, 40) := h (5, 4, fun g => (g, 40)) (List.mem_of_getElem? (i := 11) rfl) g hg
theorem ly_5_5 {G g : Nat} {mr : MR} (h : Lay G mr) (hg : okI G 5 g) : mr g 5 5 = some (g, 6) := h (5, 5, fun g => (g, 6)) (List.mem_of_getElem? (i := 12) rfl) g hg
theorem ly_5_6 {G g : Nat} {mr : MR} (h : Lay G mr) (hg : okI G 5 g) : mr g 5 6 = some (g, 7) := h (5, 6, fun g => (g, 7)) (List.mem_of_getElem? (i := 13) rfl) g hg
theorem ly_5_7 {G g : Nat} {mr : MR} (h : Lay G mr) (hg : okI G 5 g) : mr g 5 7 = some (g, 8) := h (5, 7, fun g => (g, 8)) (List.mem_of_getElem? (i := 14) rfl) g hg
theorem ly_5_8 {G g : Nat} {mr : MR} (h : Lay G mr) (hg : okI G 5 g) : mr g 5 8 = some (g, 9) := h (5, 8, fun g => (g, 9)) (List.mem_of_getElem? (i := 15) rfl) g hg
theorem ly_5_9 {G g : Nat} {mr : MR} (h : Lay G mr) (hg : okI G 5 g) : mr g 5 9 = some (g, 10) := h (5, 9, fun g => (g, 10)) (List.mem_of_getElem? (i := 16) rfl) g hg
theorem ly_15_0 {G g : Nat} {mr : MR} (h : Lay G mr) (hg : okI G 15 g) : mr g 15 0 = some (g, 16) := h (15, 0, fun g => (g, 16)) (List.mem_of_getElem? (i := 17) rfl) g hg
theorem ly_20_2 {G g : Nat} {mr : MR} (h : Lay G mr) (hg : okI G 20 g) : mr g 20 2 = some (g, 21) := h (20, 2, fun g => (g, 21)) (List.mem_of_getElem? (i := 18) rfl) g hg
theorem ly_20_3 {G g : Nat} {mr : MR} (h : Lay G mr) (hg : okI G 20 g) : mr g 20 3 = some (g, 22) := h (20, 3, fun g => (g, 22)) (List.mem_of_getElem? (i := 19) rfl) g hg
theorem ly_20_4 {G g : Nat} {mr : MR} (h : Lay G mr) (hg : okI G 20 g) : mr g 20 4 = some (g, 23) := h (20, 4, fun g => (g, 23)) (List.mem_of_getElem? (i := 20) rfl) g hg
theorem ly_20_5 {G g : Nat} {mr : MR} (h : Lay G mr) (hg : okI G 20 g) : mr g 20 5 = some (g, 24) := h (20, 5, fun g => (g, 24)) (List.mem_of_getElem? (i := 21) rfl) g hg
theorem ly_20_6 {G g : Nat} {mr : MR} (h : Lay G mr) (hg : okI G 20 g) : mr g 20 6 = some (g, 25) := h (20, 6, fun g => (g, 25)) (List.mem_of_getElem? (i := 22) rfl) g hg
theorem ly_20_7 {G g : Nat} {mr : MR} (h : Lay G mr) (hg : okI G 20 g) : mr g 20 7 = some (g, 26) := h (20, 7, fun g => (g, 26)) (List.mem_of_getElem? (i := 23) rfl) g hg
theorem ly_20_8 {G g : Nat} {mr : MR} (h : Lay G mr) (hg : okI G 20 g) : mr g 20 8 = some (g, 27) := h (20, 8, fun g => (g, 27)) (List.mem_of_getElem? (i := 24) rfl) g hg
theorem ly_30_3 {G g : Nat} {mr : MR} (h : Lay G mr) (hg : okI G 30 g) : mr g 30 3 = some (g, 31) := h (30, 3, fun g => (g, 31)) (List.mem_of_getElem? (i := 25) rfl) g hg
theorem ly_30_4 {G g : Nat} {mr : MR} (h : Lay G mr) (hg : okI G 30 g) : mr g 30 4 = some (g, 32) := h (30, 4, fun g => (g, 32)) (List.mem_of_getElem? (i := 26) rfl) g hg
theorem ly_30_5 {G g : Nat} {mr : MR} (h : Lay G mr) (hg : okI G 30 g) : mr g 30 5 = some (g, 33) := h (30, 5, fun g => (g, 33)) (List.mem_of_getElem? (i := 27) rfl) g hg
theorem ly_30_6 {G g : Nat} {mr : MR} (h : Lay G mr) (hg : okI G 30 g) : mr g 30 6 = some (g, 34) := h (30, 6, fun g => (g, 34)) (List.mem_of_getElem? (i := 28) rfl) g hg
theorem ly_30_7 {G g : Nat} {mr : MR} (h : Lay G mr) (hg : okI G 30 g) : mr g 30 7 = some (g, 35) := h (30, 7, fun g => (g, 35)) (List.mem_of_getElem? (i := 29) rfl) g hg
theorem ly_30_8 {G g : Nat} {mr : MR} (h : Lay G mr) (hg : okI G 30 g) : mr g 30 8 = some (g, 36) := h (30, 8, fun g => (g, 36)) (List.mem_of_getElem? (i := 30) rfl) g hg
theorem ly_30_9 {G g : Nat} {mr : MR} (h : Lay G mr) (hg : okI G 30 g) : mr g 30 9 = some (g, 37) := h (30, 9, fun g => (g, 37)) (List.mem_of_getElem? (i := 31) rfl) g hg
theorem ly_30_10 {G g : Nat} {mr : MR} (h : Lay G mr) (hg : okI G 30 g) : mr g 30 10 = some (g, 38) := h (30, 10, fun g => (g, 38)) (List.mem_of_getElem? (i := 32) rfl) g hg
theorem ly_40_3 {G g : Nat} {mr : MR} (h : Lay G mr) (hg : okI G 40 g) : mr g 40 3 = some (g, 41) := h (40, 3, fun g => (g, 41)) (List.mem_of_getElem? (i := 33) rfl) g hg
theorem ly_40_4 {G g : Nat} {mr : MR} (h : Lay G mr) (hg : okI G 40 g) : mr g 40 4 = some (g, 42) := h (40, 4, fun g => (g, 42)) (List.mem_of_getElem? (i := 34) rfl) g hg
theorem ly_40_5 {G g : Nat} {mr : MR} (h : Lay G mr) (hg : okI G 40 g) : mr g 40 5 = some (g, 43) := h (40, 5, fun g => (g, 43)) (List.mem_of_getElem? (i := 35) rfl) g hg
theorem ly_45_0 {G : Nat} {mr : MR} (h : Lay G mr) : mr 0 45 0 = some (20, 20) := h (45, 0, fun g => (20, 20)) (List.mem_of_getElem? (i := 36) rfl) 0 rfl
theorem ly_45_2 {G : Nat} {mr : MR} (h : Lay G mr) : mr 0 45 2 = some (0, 46) := h (45, 2, fun g => (g, 46)) (List.mem_of_getElem? (i := 37) rfl) 0 rfl
theorem ly_45_3 {G : Nat} {mr : MR} (h : Lay G mr) : mr 0 45 3 = some (0, 47) := h (45, 3, fun g => (g, 47)) (List.mem_of_getElem? (i := 38) rfl) 0 rfl
theorem ly_45_4 {G : Nat} {mr : MR} (h : Lay G mr) : mr 0 45 4 = some (0, 48) := h (45, 4, fun g => (g, 48)) (List.mem_of_getElem? (i := 39) rfl) 0 rfl
theorem ly_45_8 {G : Nat} {mr : MR} (h : Lay G mr) : mr 0 45 8 = some (0, 49) := h (45, 8, fun g => (g, 49)) (List.mem_of_getElem? (i := 40) rfl) 0 rfl
theorem ly_50_1 {G g : Nat} {mr : MR} (h : Lay G mr) (hg : okI G 50 g) : mr g 50 1 = some (g, 52) := h (50, 1, fun g => (g, 52)) (List.mem_of_getElem? (i := 41) rfl) g hg
theorem ly_50_5 {G g : Nat} {mr : MR} (h : Lay G mr) (hg : okI G 50 g) : mr g 50 5 = some (g, 53) := h (50, 5, fun g => (g, 53)) (List.mem_of_getElem? (i := 42) rfl) g hg
theorem ly_55_0 {G g : Nat} {mr : MR} (h : Lay G mr) (hg : okI G 55 g) : mr g 55 0 = some (1 + 3 * g, 50) := h (55, 0, fun g => (1 + 3 * g, 50)) (List.mem_of_getElem? (i := 43) rfl) g hg
theorem ly_57_4 {G g : Nat} {mr : MR} (h : Lay G mr) (hg : okI G 57 g) : mr g 57 4 = some (g, 58) := h (57, 4, fun g => (g, 58)) (List.mem_of_getElem? (i := 44) rfl) g hg
theorem ly_60_0 {G : Nat} {mr : MR} (h : Lay G mr) : mr 0 60 0 = some (2, 50) := h (60, 0, fun g => (2, 50)) (List.mem_of_getElem? (i := 45) rfl) 0 rfl
theorem ly_60_1 {G : Nat} {mr : MR} (h : Lay G mr) : mr 0 60 1 = some (0, 61) := h (60, 1, fun g => (g, 61)) (List.mem_of_getElem? (i := 46) rfl) 0 rfl
theorem ly_60_2 {G : Nat} {mr : MR} (h : Lay G mr) : mr 0 60 2 = some (0, 62) := h (60, 2, fun g => (g, 62)) (List.mem_of_getElem? (i := 47) rfl) 0 rfl
theorem ly_60_5 {G : Nat} {mr : MR} (h : Lay G mr) : mr 0 60 5 = some (0, 63) := h (60, 5, fun g => (g, 63)) (List.mem_of_getElem? (i := 48) rfl) 0 rfl
theorem ly_60_6 {G : Nat} {mr : MR} (h : Lay G mr) : mr 0 60 6 = some (0, 64) := h (60, 6, fun g => (g, 64)) (List.mem_of_getElem? (i := 49) rfl) 0 rfl
theorem ly_60_7 {G : Nat} {mr : MR} (h : Lay G mr) : mr 0 60 7 = some (0, 65) := h (60, 7, fun g => (g, 65)) (List.mem_of_getElem? (i := 50) rfl) 0 rfl
theorem ly_60_11 {G : Nat} {mr : MR} (h : Lay G mr) : mr 0 60 11 = some (0, 66) := h (60, 11, fun g => (g, 66)) (List.mem_of_getElem? (i := 51) rfl) 0 rfl
theorem ly_60_12 {G : Nat} {mr : MR} (h : Lay G mr) : mr 0 60 12 = some (0, 67) := h (60, 12, fun g => (g, 67)) (List.mem_of_getElem? (i := 52) rfl) 0 rfl
theorem ly_70_0 {G : Nat} {mr : MR} (h : Lay G mr) : mr 0 70 0 = some (3, 50) := h (70, 0, fun g => (3, 50)) (List.mem_of_getElem? (i := 53) rfl) 0 rfl
theorem ly_70_1 {G : Nat} {mr : MR} (h : Lay G mr) : mr 0 70 1 = some (1, 55) := h (70, 1, fun g => (1, 55)) (List.mem_of_getElem? (i := 54) rfl) 0 rfl
theorem ly_70_2 {G : Nat} {mr : MR} (h : Lay G mr) : mr 0 70 2 = some (9, 15) := h (70, 2, fun g => (9, 15)) (List.mem_of_getElem? (i := 55) rfl) 0 rfl
theorem ly_70_3 {G : Nat} {mr : MR} (h : Lay G mr) : mr 0 70 3 = some (0, 71) := h (70, 3, fun g => (g, 71)) (List.mem_of_getElem? (i := 56) rfl) 0 rfl
theorem ly_70_6 {G : Nat} {mr : MR} (h : Lay G mr) : mr 0 70 6 = some (0, 72) := h (70, 6, fun g => (g, 72)) (List.mem_of_getElem? (i := 57) rfl) 0 rfl
theorem ly_70_9 {G : Nat} {mr : MR} (h : Lay G mr) : mr 0 70 9 = some (0, 73) := h (70, 9, fun g => (g, 73)) (List.mem_of_getElem? (i := 58) rfl) 0 rfl
theorem ly_80_2 {G : Nat} {mr : MR} (h : Lay G mr) : mr 0 80 2 = some (0, 81) := h (80, 2, fun g => (g, 81)) (List.mem_of_getElem? (i := 59) rfl) 0 rfl
theorem ly_80_3 {G : Nat} {mr : MR} (h : Lay G mr) : mr 0 80 3 = some (0, 82) := h (80, 3, fun g => (g, 82)) (List.mem_of_getElem? (i := 60) rfl) 0 rfl
theorem ly_80_4 {G : Nat} {mr : MR} (h : Lay G mr) : mr 0 80 4 = some (0, 83) := h (80, 4, fun g => (g, 83)) (List.mem_of_getElem? (i := 61) rfl) 0 rfl
theorem ly_80_5 {G : Nat} {mr : MR} (h : Lay G mr) : mr 0 80 5 = some (0, 84) := h (80, 5, fun g => (g, 84)) (List.mem_of_getElem? (i := 62) rfl) 0 rfl
theorem ly_80_6 {G : Nat} {mr : MR} (h : Lay G mr) : mr 0 80 6 = some (0, 85) := h (80, 6, fun g => (g, 85)) (List.mem_of_getElem? (i := 63) rfl) 0 rfl
theorem ly_80_10 {G : Nat} {mr : MR} (h : Lay G mr) : mr 0 80 10 = some (0, 86) := h (80, 10, fun g => (g, 86)) (List.mem_of_getElem? (i := 64) rfl) 0 rfl
theorem ly_80_21 {G : Nat} {mr : MR} (h : Lay G mr) : mr 0 80 21 = some (0, 87) := h (80, 21, fun g => (g, 87)) (List.mem_of_getElem? (i := 65) rfl) 0 rfl
theorem ly_80_22 {G : Nat} {mr : MR} (h : Lay G mr) : mr 0 80 22 = some (0, 88) := h (80, 22, fun g => (g, 88)) (List.mem_of_getElem? (i := 66) rfl) 0 rfl
theorem ly_80_23 {G : Nat} {mr : MR} (h : Lay G mr) : mr 0 80 23 = some (0, 89) := h (80, 23, fun g => (g, 89)) (List.mem_of_getElem? (i := 67) rfl) 0 rfl
theorem ly_80_26 {G : Nat} {mr : MR} (h : Lay G mr) : mr 0 80 26 = some (0, 90) := h (80, 26, fun g => (g, 90)) (List.mem_of_getElem? (i := 68) rfl) 0 rfl
theorem ly_80_27 {G : Nat} {mr : MR} (h : Lay G mr) : mr 0 80 27 = some (0, 91) := h (80, 27, fun g => (g, 91)) (List.mem_of_getElem? (i := 69) rfl) 0 rfl
theorem ly_80_29 {G : Nat} {mr : MR} (h : Lay G mr) : mr 0 80 29 = some (0, 92) := h (80, 29, fun g => (g, 92)) (List.mem_of_getElem? (i := 70) rfl) 0 rfl
theorem ly_80_37 {G : Nat} {mr : MR} (h : Lay G mr) : mr 0 80 37 = some (0, 93) := h (80, 37, fun g => (g, 93)) (List.mem_of_getElem? (i := 71) rfl) 0 rfl
theorem ly_80_38 {G : Nat} {mr : MR} (h : Lay G mr) : mr 0 80 38 = some (0, 94) := h (80, 38, fun g => (g, 94)) (List.mem_of_getElem? (i := 72) rfl) 0 rfl
theorem ly_80_39 {G : Nat} {mr : MR} (h : Lay G mr) : mr 0 80 39 = some (0, 95) := h (80, 39, fun g => (g, 95)) (List.mem_of_getElem? (i := 73) rfl) 0 rfl
theorem ly_80_40 {G : Nat} {mr : MR} (h : Lay G mr) : mr 0 80 40 = some (0, 96) := h (80, 40, fun g => (g, 96)) (List.mem_of_getElem? (i := 74) rfl) 0 rfl
theorem ly_80_41 {G : Nat} {mr : MR} (h : Lay G mr) : mr 0 80 41 = some (0, 97) := h (80, 41, fun g => (g, 97)) (List.mem_of_getElem? (i := 75) rfl) 0 rfl
theorem ly_80_42 {G : Nat} {mr : MR} (h : Lay G mr) : mr 0 80 42 = some (0, 98) := h (80, 42, fun g => (g, 98)) (List.mem_of_getElem? (i := 76) rfl) 0 rfl
theorem ly_80_43 {G : Nat} {mr : MR} (h : Lay G mr) : mr 0 80 43 = some (0, 99) := h (80, 43, fun g => (g, 99)) (List.mem_of_getElem? (i := 77) rfl) 0 rfl
theorem ly_80_44 {G : Nat} {mr : MR} (h : Lay G mr) : mr 0 80 44 = some (0, 100) := h (80, 44, fun g => (g, 100)) (List.mem_of_getElem? (i := 78) rfl) 0 rfl
theorem ly_80_47 {G : Nat} {mr : MR} (h : Lay G mr) : mr 0 80 47 = some (0, 101) := h (80, 47, fun g => (g, 101)) (List.mem_of_getElem? (i := 79) rfl) 0 rfl
theorem ly_61_0 {G : Nat} {mr : MR} (h : Lay G mr) : mr 0 61 0 = some (0, 57) := h (61, 0, fun g => (0, 57)) (List.mem_of_getElem? (i := 80) rfl) 0 rfl
theorem ly_61_1 {G : Nat} {mr : MR} (h : Lay G mr) : mr 0 61 1 = some (1, 57) := h (61, 1, fun g => (1, 57)) (List.mem_of_getElem? (i := 81) rfl) 0 rfl
theorem ly_61_2 {G : Nat} {mr : MR} (h : Lay G mr) : mr 0 61 2 = some (2, 57) := h (61, 2, fun g => (2, 57)) (List.mem_of_getElem? (i := 82) rfl) 0 rfl
theorem ly_61_3 {G : Nat} {mr : MR} (h : Lay G mr) : mr 0 61 3 = some (3, 57) := h (61, 3, fun g => (3, 57)) (List.mem_of_getElem? (i := 83) rfl) 0 rfl
theorem ly_67_0 {G : Nat} {mr : MR} (h : Lay G mr) : mr 0 67 0 = some (0, 68) := h (67, 0, fun g => (0, 68)) (List.mem_of_getElem? (i := 84) rfl) 0 rfl
theorem ly_67_1 {G : Nat} {mr : MR} (h : Lay G mr) : mr 0 67 1 = some (1, 68) := h (67, 1, fun g => (1, 68)) (List.mem_of_getElem? (i := 85) rfl) 0 rfl
theorem ly_67_2 {G : Nat} {mr : MR} (h : Lay G mr) : mr 0 67 2 = some (2, 68) := h (67, 2, fun g => (2, 68)) (List.mem_of_getElem? (i := 86) rfl) 0 rfl
theorem Lay.upR {G : Nat} {mr : MR} {g j : Nat} {k : Int} {v : Option Ad} (h : Lay G mr) (hf : frL.all (fun q => !(q.1 == j && q.2.1 == k)) = true) : Lay G (upR mr g j k v) := by
  intro q hq g' hg
  have h1 := List.all_eq_true.mp hf q hq
  rw [upR_off]
  · exact h q hq g' hg
  · intro z
    injection z with z1 z2
    injection z2 with z2 z3
    rw [z2, z3] at h1
    simp at h1
