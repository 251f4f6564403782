section RULES
variable {d : Nat} {M : MT} {Q : V → MI → Nat → MR → Prop} {S : Nat × MR × Nat × Nat} {mi : MI} {pc pc' : Nat} {ls st : List V}
theorem s_iadd {a b : Int} (hd : Dc M pc .iadd 1 pc') (k : Run d M Q S mi pc' ls (vI (w32 (a + b)) :: st)) : Run d M Q S mi pc ls (vI b :: vI a :: st) := by
  intro p l e R s m args below meth c D ca sx A n0 ρ0 Qm C0 Re ρ H locs mls mst hW hS hE hn hl hs
  obtain ⟨_, _, rfl, ⟨y1, rfl, e1⟩, _, w2, rfl, ⟨y2, rfl, e2⟩, hs⟩ := hs
  have kk := k p l e R s m args below meth c D ca sx A n0 ρ0 Qm C0 Re ρ H locs mls (.int (y2 + y1) :: w2) hW hS hE hn hl ⟨_, _, rfl, ⟨_, rfl, by rw [Int32.toInt_add, e1, e2]; rfl⟩, hs⟩
  rw [hd.2] at kk
  exact lv_iadd C0.1 C0.2.1 hd.1 kk
theorem s_isub {a b : Int} (hd : Dc M pc .isub 1 pc') (k : Run d M Q S mi pc' ls (vI (w32 (a - b)) :: st)) : Run d M Q S mi pc ls (vI b :: vI a :: st) := by
  intro p l e R s m args below meth c D ca sx A n0 ρ0 Qm C0 Re ρ H locs mls mst hW hS hE hn hl hs
  obtain ⟨_, _, rfl, ⟨y1, rfl, e1⟩, _, w2, rfl, ⟨y2, rfl, e2⟩, hs⟩ := hs
  have kk := k p l e R s m args below meth c D ca sx A n0 ρ0 Qm C0 Re ρ H locs mls (.int (y2 - y1) :: w2) hW hS hE hn hl ⟨_, _, rfl, ⟨_, rfl, by rw [Int32.toInt_sub, e1, e2]; rfl⟩, hs⟩
  rw [hd.2] at kk
  exact lv_isub C0.1 C0.2.1 hd.1 kk
theorem s_imul {a b : Int} (hd : Dc M pc .imul 1 pc') (k : Run d M Q S mi pc' ls (vI (w32 (a * b)) :: st)) : Run d M Q S mi pc ls (vI b :: vI a :: st) := by
  intro p l e R s m args below meth c D ca sx A n0 ρ0 Qm C0 Re ρ H locs mls mst hW hS hE hn hl hs
  obtain ⟨_, _, rfl, ⟨y1, rfl, e1⟩, _, w2, rfl, ⟨y2, rfl, e2⟩, hs⟩ := hs
  have kk := k p l e R s m args below meth c D ca sx A n0 ρ0 Qm C0 Re ρ H locs mls (.int (y2 * y1) :: w2) hW hS hE hn hl ⟨_, _, rfl, ⟨_, rfl, by rw [Int32.toInt_mul, e1, e2]; rfl⟩, hs⟩
  rw [hd.2] at kk
  exact lv_imul C0.1 C0.2.1 hd.1 kk
theorem s_iand {a b : Int} (hd : Dc M pc .iand 1 pc') (k : Run d M Q S mi pc' ls (vI (bAnd a b) :: st)) : Run d M Q S mi pc ls (vI b :: vI a :: st) := by
  intro p l e R s m args below meth c D ca sx A n0 ρ0 Qm C0 Re ρ H locs mls mst hW hS hE hn hl hs
  obtain ⟨_, _, rfl, ⟨y1, rfl, e1⟩, _, w2, rfl, ⟨y2, rfl, e2⟩, hs⟩ := hs
  have kk := k p l e R s m args below meth c D ca sx A n0 ρ0 Qm C0 Re ρ H locs mls (.int (y2 &&& y1) :: w2) hW hS hE hn hl ⟨_, _, rfl, ⟨_, rfl, by rw [bAnd, ← e1, ← e2, Int32.ofInt_toInt, Int32.ofInt_toInt]⟩, hs⟩
  rw [hd.2] at kk
  exact lv_iand C0.1 C0.2.1 hd.1 kk
theorem s_ior {a b : Int} (hd : Dc M pc .ior 1 pc') (k : Run d M Q S mi pc' ls (vI (bOr a b) :: st)) : Run d M Q S mi pc ls (vI b :: vI a :: st) := by
  intro p l e R s m args below meth c D ca sx A n0 ρ0 Qm C0 Re ρ H locs mls mst hW hS hE hn hl hs
  obtain ⟨_, _, rfl, ⟨y1, rfl, e1⟩, _, w2, rfl, ⟨y2, rfl, e2⟩, hs⟩ := hs
  have kk := k p l e R s m args below meth c D ca sx A n0 ρ0 Qm C0 Re ρ H locs mls (.int (y2 ||| y1) :: w2) hW hS hE hn hl ⟨_, _, rfl, ⟨_, rfl, by rw [bOr, ← e1, ← e2, Int32.ofInt_toInt, Int32.ofInt_toInt]⟩, hs⟩
  rw [hd.2] at kk
  exact lv_ior C0.1 C0.2.1 hd.1 kk
theorem s_ixor {a b : Int} (hd : Dc M pc .ixor 1 pc') (k : Run d M Q S mi pc' ls (vI (bXor a b) :: st)) : Run d M Q S mi pc ls (vI b :: vI a :: st) := by
  intro p l e R s m args below meth c D ca sx A n0 ρ0 Qm C0 Re ρ H locs mls mst hW hS hE hn hl hs
  obtain ⟨_, _, rfl, ⟨y1, rfl, e1⟩, _, w2, rfl, ⟨y2, rfl, e2⟩, hs⟩ := hs
  have kk := k p l e R s m args below meth c D ca sx A n0 ρ0 Qm C0 Re ρ H locs mls (.int (y2 ^^^ y1) :: w2) hW hS hE hn hl ⟨_, _, rfl, ⟨_, rfl, by rw [bXor, ← e1, ← e2, Int32.ofInt_toInt, Int32.ofInt_toInt]⟩, hs⟩
  rw [hd.2] at kk
  exact lv_ixor C0.1 C0.2.1 hd.1 kk
theorem s_ishl {a b : Int} (hd : Dc M pc .ishl 1 pc') (k : Run d M Q S mi pc' ls (vI (bShl a b) :: st)) : Run d M Q S mi pc ls (vI b :: vI a :: st) := by
  intro p l e R s m args below meth c D ca sx A n0 ρ0 Qm C0 Re ρ H locs mls mst hW hS hE hn hl hs
  obtain ⟨_, _, rfl, ⟨y1, rfl, e1⟩, _, w2, rfl, ⟨y2, rfl, e2⟩, hs⟩ := hs
  have kk := k p l e R s m args below meth c D ca sx A n0 ρ0 Qm C0 Re ρ H locs mls (.int (y2 <<< (y1 &&& 31)) :: w2) hW hS hE hn hl ⟨_, _, rfl, ⟨_, rfl, by rw [bShl, ← e1, ← e2, Int32.ofInt_toInt, Int32.ofInt_toInt]⟩, hs⟩
  rw [hd.2] at kk
  exact lv_ishl C0.1 C0.2.1 hd.1 kk
theorem s_ishr {a b : Int} (hd : Dc M pc .ishr 1 pc') (k : Run d M Q S mi pc' ls (vI (bShr a b) :: st)) : Run d M Q S mi pc ls (vI b :: vI a :: st) := by
  intro p l e R s m args below meth c D ca sx A n0 ρ0 Qm C0 Re ρ H locs mls mst hW hS hE hn hl hs
  obtain ⟨_, _, rfl, ⟨y1, rfl, e1⟩, _, w2, rfl, ⟨y2, rfl, e2⟩, hs⟩ := hs
  have kk := k p l e R s m args below meth c D ca sx A n0 ρ0 Qm C0 Re ρ H locs mls (.int (y2 >>> (y1 &&& 31)) :: w2) hW hS hE hn hl ⟨_, _, rfl, ⟨_, rfl, by rw [bShr, ← e1, ← e2, Int32.ofInt_toInt, Int32.ofInt_toInt]⟩, hs⟩
  rw [hd.2] at kk
  exact lv_ishr C0.1 C0.2.1 hd.1 kk
theorem s_iushr {a b : Int} (hd : Dc M pc .iushr 1 pc') (k : Run d M Q S mi pc' ls (vI (bUshr a b) :: st)) : Run d M Q S mi pc ls (vI b :: vI a :: st) := by
  intro p l e R s m args below meth c D ca sx A n0 ρ0 Qm C0 Re ρ H locs mls mst hW hS hE hn hl hs
  obtain ⟨_, _, rfl, ⟨y1, rfl, e1⟩, _, w2, rfl, ⟨y2, rfl, e2⟩, hs⟩ := hs
  have kk := k p l e R s m args below meth c D ca sx A n0 ρ0 Qm C0 Re ρ H locs mls (.int ((y2.toUInt32 >>> (y1.toUInt32 &&& Int32.toUInt32 31)).toInt32) :: w2) hW hS hE hn hl ⟨_, _, rfl, ⟨_, rfl, by rw [bUshr, ← e1, ← e2, Int32.ofInt_toInt, Int32.ofInt_toInt]⟩, hs⟩
  rw [hd.2] at kk
  exact lv_iushr C0.1 C0.2.1 hd.1 rfl kk
theorem s_idiv {a b : Int} (hd : Dc M pc .idiv 1 pc') (hb0 : b ≠ 0) (k : Run d M Q S mi pc' ls (vI (w32 (a.tdiv b)) :: st)) : Run d M Q S mi pc ls (vI b :: vI a :: st) := by
  intro p l e R s m args below meth c D ca sx A n0 ρ0 Qm C0 Re ρ H locs mls mst hW hS hE hn hl hs
  obtain ⟨_, _, rfl, ⟨y1, rfl, e1⟩, _, w2, rfl, ⟨y2, rfl, e2⟩, hs⟩ := hs
  have kk := k p l e R s m args below meth c D ca sx A n0 ρ0 Qm C0 Re ρ H locs mls (.int (y2 / y1) :: w2) hW hS hE hn hl ⟨_, _, rfl, ⟨_, rfl, by rw [Int32.toInt_div, e1, e2]; rfl⟩, hs⟩
  rw [hd.2] at kk
  exact lv_idiv C0.1 C0.2.1 hd.1 (i32_ne0 e1 hb0) kk
theorem s_irem {a b : Int} (hd : Dc M pc .irem 1 pc') (hb0 : b ≠ 0) (k : Run d M Q S mi pc' ls (vI (a.tmod b) :: st)) : Run d M Q S mi pc ls (vI b :: vI a :: st) := by
  intro p l e R s m args below meth c D ca sx A n0 ρ0 Qm C0 Re ρ H locs mls mst hW hS hE hn hl hs
  obtain ⟨_, _, rfl, ⟨y1, rfl, e1⟩, _, w2, rfl, ⟨y2, rfl, e2⟩, hs⟩ := hs
  have kk := k p l e R s m args below meth c D ca sx A n0 ρ0 Qm C0 Re ρ H locs mls (.int (y2 - y2 / y1 * y1) :: w2) hW hS hE hn hl ⟨_, _, rfl, ⟨_, rfl, by rw [i32_rem, e1, e2]⟩, hs⟩
  rw [hd.2] at kk
  exact lv_irem C0.1 C0.2.1 hd.1 (i32_ne0 e1 hb0) kk
theorem s_ladd {a b : Int} (hd : Dc M pc .ladd 1 pc') (k : Run d M Q S mi pc' ls (vL (w64 (a + b)) :: st)) : Run d M Q S mi pc ls (vL b :: vL a :: st) := by
  intro p l e R s m args below meth c D ca sx A n0 ρ0 Qm C0 Re ρ H locs mls mst hW hS hE hn hl hs
  obtain ⟨_, _, rfl, ⟨y1, rfl, e1⟩, _, w2, rfl, ⟨y2, rfl, e2⟩, hs⟩ := hs
  have kk := k p l e R s m args below meth c D ca sx A n0 ρ0 Qm C0 Re ρ H locs mls (.long (y2 + y1) :: w2) hW hS hE hn hl ⟨_, _, rfl, ⟨_, rfl, by rw [Int64.toInt_add, e1, e2]; rfl⟩, hs⟩
  rw [hd.2] at kk
  exact lv_ladd C0.1 C0.2.1 hd.1 kk
theorem s_lsub {a b : Int} (hd : Dc M pc .lsub 1 pc') (k : Run d M Q S mi pc' ls (vL (w64 (a - b)) :: st)) : Run d M Q S mi pc ls (vL b :: vL a :: st) := by
  intro p l e R s m args below meth c D ca sx A n0 ρ0 Qm C0 Re ρ H locs mls mst hW hS hE hn hl hs
  obtain ⟨_, _, rfl, ⟨y1, rfl, e1⟩, _, w2, rfl, ⟨y2, rfl, e2⟩, hs⟩ := hs
  have kk := k p l e R s m args below meth c D ca sx A n0 ρ0 Qm C0 Re ρ H locs mls (.long (y2 - y1) :: w2) hW hS hE hn hl ⟨_, _, rfl, ⟨_, rfl, by rw [Int64.toInt_sub, e1, e2]; rfl⟩, hs⟩
  rw [hd.2] at kk
  exact lv_lsub C0.1 C0.2.1 hd.1 kk
theorem s_lmul {a b : Int} (hd : Dc M pc .lmul 1 pc') (k : Run d M Q S mi pc' ls (vL (w64 (a * b)) :: st)) : Run d M Q S mi pc ls (vL b :: vL a :: st) := by
  intro p l e R s m args below meth c D ca sx A n0 ρ0 Qm C0 Re ρ H locs mls mst hW hS hE hn hl hs
  obtain ⟨_, _, rfl, ⟨y1, rfl, e1⟩, _, w2, rfl, ⟨y2, rfl, e2⟩, hs⟩ := hs
  have kk := k p l e R s m args below meth c D ca sx A n0 ρ0 Qm C0 Re ρ H locs mls (.long (y2 * y1) :: w2) hW hS hE hn hl ⟨_, _, rfl, ⟨_, rfl, by rw [Int64.toInt_mul, e1, e2]; rfl⟩, hs⟩
  rw [hd.2] at kk
  exact lv_lmul C0.1 C0.2.1 hd.1 kk
theorem s_ldiv {a b : Int} (hd : Dc M pc .ldiv 1 pc') (hb0 : b ≠ 0) (k : Run d M Q S mi pc' ls (vL (w64 (a.tdiv b)) :: st)) : Run d M Q S mi pc ls (vL b :: vL a :: st) := by
  intro p l e R s m args below meth c D ca sx A n0 ρ0 Qm C0 Re ρ H locs mls mst hW hS hE hn hl hs
  obtain ⟨_, _, rfl, ⟨y1, rfl, e1⟩, _, w2, rfl, ⟨y2, rfl, e2⟩, hs⟩ := hs
  have kk := k p l e R s m args below meth c D ca sx A n0 ρ0 Qm C0 Re ρ H locs mls (.long (y2 / y1) :: w2) hW hS hE hn hl ⟨_, _, rfl, ⟨_, rfl, by rw [Int64.toInt_div, e1, e2]; rfl⟩, hs⟩
  rw [hd.2] at kk
  exact lv_ldiv C0.1 C0.2.1 hd.1 (i64_ne0 e1 hb0) kk
theorem s_lrem {a b : Int} (hd : Dc M pc .lrem 1 pc') (hb0 : b ≠ 0) (k : Run d M Q S mi pc' ls (vL (a.tmod b) :: st)) : Run d M Q S mi pc ls (vL b :: vL a :: st) := by
  intro p l e R s m args below meth c D ca sx A n0 ρ0 Qm C0 Re ρ H locs mls mst hW hS hE hn hl hs
  obtain ⟨_, _, rfl, ⟨y1, rfl, e1⟩, _, w2, rfl, ⟨y2, rfl, e2⟩, hs⟩ := hs
  have kk := k p l e R s m args below meth c D ca sx A n0 ρ0 Qm C0 Re ρ H locs mls (.long (y2 - y2 / y1 * y1) :: w2) hW hS hE hn hl ⟨_, _, rfl, ⟨_, rfl, by rw [i64_rem, e1, e2]⟩, hs⟩
  rw [hd.2] at kk
  exact lv_lrem C0.1 C0.2.1 hd.1 (i64_ne0 e1 hb0) kk
theorem s_lcmp {a b : Int} (hd : Dc M pc .lcmp 1 pc') (k : Run d M Q S mi pc' ls (vI (lc a b) :: st)) : Run d M Q S mi pc ls (vL b :: vL a :: st) := by
  intro p l e R s m args below meth c D ca sx A n0 ρ0 Qm C0 Re ρ H locs mls mst hW hS hE hn hl hs
  obtain ⟨_, _, rfl, ⟨y1, rfl, e1⟩, _, w2, rfl, ⟨y2, rfl, e2⟩, hs⟩ := hs
  have kk := k p l e R s m args below meth c D ca sx A n0 ρ0 Qm C0 Re ρ H locs mls (.int (lg_cmp y2 y1) :: w2) hW hS hE hn hl ⟨_, _, rfl, ⟨_, rfl, by rw [lg_cmp_int, e1, e2]⟩, hs⟩
  rw [hd.2] at kk
  exact W.lcmp C0.1 C0.2.1 hd.1 kk
theorem s_ineg {a : Int} (hd : Dc M pc .ineg 1 pc') (k : Run d M Q S mi pc' ls (vI (w32 (-a)) :: st)) : Run d M Q S mi pc ls (vI a :: st) := by
  intro p l e R s m args below meth c D ca sx A n0 ρ0 Qm C0 Re ρ H locs mls mst hW hS hE hn hl hs
  obtain ⟨_, w2, rfl, ⟨y1, rfl, e1⟩, hs⟩ := hs
  have kk := k p l e R s m args below meth c D ca sx A n0 ρ0 Qm C0 Re ρ H locs mls (.int (-y1) :: w2) hW hS hE hn hl ⟨_, _, rfl, ⟨_, rfl, by rw [Int32.toInt_neg, e1]; rfl⟩, hs⟩
  rw [hd.2] at kk
  exact lv_ineg C0.1 C0.2.1 hd.1 kk
theorem s_i2l {a : Int} (hd : Dc M pc .i2l 1 pc') (k : Run d M Q S mi pc' ls (vL a :: st)) : Run d M Q S mi pc ls (vI a :: st) := by
  intro p l e R s m args below meth c D ca sx A n0 ρ0 Qm C0 Re ρ H locs mls mst hW hS hE hn hl hs
  obtain ⟨_, w2, rfl, ⟨y1, rfl, e1⟩, hs⟩ := hs
  have kk := k p l e R s m args below meth c D ca sx A n0 ρ0 Qm C0 Re ρ H locs mls (.long y1.toInt64 :: w2) hW hS hE hn hl ⟨_, _, rfl, ⟨_, rfl, by rw [Int32.toInt_toInt64, e1]⟩, hs⟩
  rw [hd.2] at kk
  exact lv_i2l C0.1 C0.2.1 hd.1 rfl kk
theorem s_l2i {a : Int} (hd : Dc M pc .l2i 1 pc') (k : Run d M Q S mi pc' ls (vI (w32 a) :: st)) : Run d M Q S mi pc ls (vL a :: st) := by
  intro p l e R s m args below meth c D ca sx A n0 ρ0 Qm C0 Re ρ H locs mls mst hW hS hE hn hl hs
  obtain ⟨_, w2, rfl, ⟨y1, rfl, e1⟩, hs⟩ := hs
  have kk := k p l e R s m args below meth c D ca sx A n0 ρ0 Qm C0 Re ρ H locs mls (.int y1.toInt32 :: w2) hW hS hE hn hl ⟨_, _, rfl, ⟨_, rfl, by rw [Int64.toInt_toInt32, e1]; rfl⟩, hs⟩
  rw [hd.2] at kk
  exact lv_l2i C0.1 C0.2.1 hd.1 rfl kk
theorem s_i2c {a : Int} (hd : Dc M pc .i2c 1 pc') (k : Run d M Q S mi pc' ls (vI (((Int32.ofInt a).toUInt32 % 65536).toInt32.toInt) :: st)) : Run d M Q S mi pc ls (vI a :: st) := by
  intro p l e R s m args below meth c D ca sx A n0 ρ0 Qm C0 Re ρ H locs mls mst hW hS hE hn hl hs
  obtain ⟨_, w2, rfl, ⟨y1, rfl, e1⟩, hs⟩ := hs
  have kk := k p l e R s m args below meth c D ca sx A n0 ρ0 Qm C0 Re ρ H locs mls (.int (y1.toUInt32 % 65536).toInt32 :: w2) hW hS hE hn hl ⟨_, _, rfl, ⟨_, rfl, by rw [← e1, Int32.ofInt_toInt]⟩, hs⟩
  rw [hd.2] at kk
  exact lv_i2c C0.1 C0.2.1 hd.1 rfl kk
theorem s_iconst {a : Int} (hd : Dc M pc (.iconst a) 1 pc') (ha : (Int32.ofInt a).toInt = a) (k : Run d M Q S mi pc' ls (vI a :: st)) : Run d M Q S mi pc ls (st) := by
  intro p l e R s m args below meth c D ca sx A n0 ρ0 Qm C0 Re ρ H locs mls mst hW hS hE hn hl hs
  have kk := k p l e R s m args below meth c D ca sx A n0 ρ0 Qm C0 Re ρ H locs mls (.int (Int32.ofInt a) :: mst) hW hS hE hn hl ⟨_, _, rfl, ⟨_, rfl, ha⟩, hs⟩
  rw [hd.2] at kk
  exact lv_iconst C0.1 C0.2.1 hd.1 rfl kk
theorem s_bipush {a : Int} (hd : Dc M pc (.bipush a) 2 pc') (ha : (Int8.ofInt a).toInt32.toInt = a) (k : Run d M Q S mi pc' ls (vI a :: st)) : Run d M Q S mi pc ls (st) := by
  intro p l e R s m args below meth c D ca sx A n0 ρ0 Qm C0 Re ρ H locs mls mst hW hS hE hn hl hs
  have kk := k p l e R s m args below meth c D ca sx A n0 ρ0 Qm C0 Re ρ H locs mls (.int (Int8.ofInt a).toInt32 :: mst) hW hS hE hn hl ⟨_, _, rfl, ⟨_, rfl, ha⟩, hs⟩
  rw [hd.2] at kk
  exact lv_bipush C0.1 C0.2.1 hd.1 rfl kk
theorem s_sipush {a : Int} (hd : Dc M pc (.sipush a) 3 pc') (ha : (Int16.ofInt a).toInt32.toInt = a) (k : Run d M Q S mi pc' ls (vI a :: st)) : Run d M Q S mi pc ls (st) := by
  intro p l e R s m args below meth c D ca sx A n0 ρ0 Qm C0 Re ρ H locs mls mst hW hS hE hn hl hs
  have kk := k p l e R s m args below meth c D ca sx A n0 ρ0 Qm C0 Re ρ H locs mls (.int (Int16.ofInt a).toInt32 :: mst) hW hS hE hn hl ⟨_, _, rfl, ⟨_, rfl, ha⟩, hs⟩
  rw [hd.2] at kk
  exact lv_sipush C0.1 C0.2.1 hd.1 rfl kk
theorem s_lconst0  (hd : Dc M pc (.lconst 0) 1 pc') (k : Run d M Q S mi pc' ls (vL 0 :: st)) : Run d M Q S mi pc ls (st) := by
  intro p l e R s m args below meth c D ca sx A n0 ρ0 Qm C0 Re ρ H locs mls mst hW hS hE hn hl hs
  have kk := k p l e R s m args below meth c D ca sx A n0 ρ0 Qm C0 Re ρ H locs mls (.long 0 :: mst) hW hS hE hn hl ⟨_, _, rfl, ⟨_, rfl, rfl⟩, hs⟩
  rw [hd.2] at kk
  exact lv_lconst C0.1 C0.2.1 hd.1 rfl kk
theorem s_lconst1  (hd : Dc M pc (.lconst 1) 1 pc') (k : Run d M Q S mi pc' ls (vL 1 :: st)) : Run d M Q S mi pc ls (st) := by
  intro p l e R s m args below meth c D ca sx A n0 ρ0 Qm C0 Re ρ H locs mls mst hW hS hE hn hl hs
  have kk := k p l e R s m args below meth c D ca sx A n0 ρ0 Qm C0 Re ρ H locs mls (.long 1 :: mst) hW hS hE hn hl ⟨_, _, rfl, ⟨_, rfl, rfl⟩, hs⟩
  rw [hd.2] at kk
  exact lv_lconst C0.1 C0.2.1 hd.1 rfl kk
theorem s_null  (hd : Dc M pc .aconst_null 1 pc') (k : Run d M Q S mi pc' ls (vR none :: st)) : Run d M Q S mi pc ls (st) := by
  intro p l e R s m args below meth c D ca sx A n0 ρ0 Qm C0 Re ρ H locs mls mst hW hS hE hn hl hs
  have kk := k p l e R s m args below meth c D ca sx A n0 ρ0 Qm C0 Re ρ H locs mls (.null :: mst) hW hS hE hn hl ⟨_, _, rfl, rfl, hs⟩
  rw [hd.2] at kk
  exact lv_null C0.1 C0.2.1 hd.1 kk
theorem s_ldc {own : String} {i : Nat} {v : Int32} {a : Int} (hd : Dc M pc (.ldc i) 2 pc') (ho : own = (mY M).cls) (hc : Cond.constant own i v ∈ T0) (ha : v.toInt = a) (k : Run d M Q S mi pc' ls (vI a :: st)) : Run d M Q S mi pc ls (st) := by
  intro p l e R s m args below meth c D ca sx A n0 ρ0 Qm C0 Re ρ H locs mls mst hW hS hE hn hl hs
  have kk := k p l e R s m args below meth c D ca sx A n0 ρ0 Qm C0 Re ρ H locs mls (.int v :: mst) hW hS hE hn hl ⟨_, _, rfl, ⟨_, rfl, ha⟩, hs⟩
  rw [hd.2] at kk
  exact lv_ldc (own := own) C0.1 C0.2.1 (by rw [ho]; exact C0.2.2.2.1) (C0.2.2.2.2.1 _ hc) hd.1 kk
theorem s_ldc2 {own : String} {i : Nat} {v : Int64} {a : Int} (hd : Dc M pc (.ldc2_w i) 3 pc') (ho : own = (mY M).cls) (hc : Cond.constantLong own i v ∈ T0) (ha : v.toInt = a) (k : Run d M Q S mi pc' ls (vL a :: st)) : Run d M Q S mi pc ls (st) := by
  intro p l e R s m args below meth c D ca sx A n0 ρ0 Qm C0 Re ρ H locs mls mst hW hS hE hn hl hs
  have kk := k p l e R s m args below meth c D ca sx A n0 ρ0 Qm C0 Re ρ H locs mls (.long v :: mst) hW hS hE hn hl ⟨_, _, rfl, ⟨_, rfl, ha⟩, hs⟩
  rw [hd.2] at kk
  exact lv_ldc2 (own := own) C0.1 C0.2.1 (by rw [ho]; exact C0.2.2.2.1) (C0.2.2.2.2.1 _ hc) hd.1 kk
theorem s_ldcT {i : Nat} (hd : Dc M pc (.ldc 190) 2 pc') (ho : RX0 = (mY M).cls) (k : Run d M Q S mi pc' ls (vX 2 :: st)) : Run d M Q S mi pc ls (st) := by
  intro p l e R s m args below meth c D ca sx A n0 ρ0 Qm C0 Re ρ H locs mls mst hW hS hE hn hl hs
  have kk := k p l e R s m args below meth c D ca sx A n0 ρ0 Qm C0 Re ρ H locs mls (.ref (sx 2) :: mst) hW hS hE hn hl ⟨_, _, rfl, ⟨by decide, rfl⟩, hs⟩
  rw [hd.2] at kk
  exact va_ldcS (own := RX0) (tx := txW) C0.1 C0.2.1 (by rw [ho]; exact C0.2.2.2.1) C0.2.2.2.2.2.2.2.2.2.1.2.2.2.1 hd.1 kk
theorem s_dup {x : V} (hd : Dc M pc .dup 1 pc') (hx : isL x = false) (k : Run d M Q S mi pc' ls (x :: x :: st)) : Run d M Q S mi pc ls (x :: st) := by
  intro p l e R s m args below meth c D ca sx A n0 ρ0 Qm C0 Re ρ H locs mls mst hW hS hE hn hl hs
  obtain ⟨v, w2, rfl, hv, hs⟩ := hs
  have kk := k p l e R s m args below meth c D ca sx A n0 ρ0 Qm C0 Re ρ H locs mls (v :: v :: w2) hW hS hE hn hl ⟨_, _, rfl, hv, _, _, rfl, hv, hs⟩
  rw [hd.2] at kk
  exact lv_dup C0.1 C0.2.1 hd.1 (by have := hv.cat; rw [hx] at this; exact this) kk
theorem s_pop {x : V} (hd : Dc M pc .pop 1 pc') (hx : isL x = false) (k : Run d M Q S mi pc' ls (st)) : Run d M Q S mi pc ls (x :: st) := by
  intro p l e R s m args below meth c D ca sx A n0 ρ0 Qm C0 Re ρ H locs mls mst hW hS hE hn hl hs
  obtain ⟨v, w2, rfl, hv, hs⟩ := hs
  have kk := k p l e R s m args below meth c D ca sx A n0 ρ0 Qm C0 Re ρ H locs mls (w2) hW hS hE hn hl hs
  rw [hd.2] at kk
  exact lv_pop C0.1 C0.2.1 hd.1 (by have := hv.cat; rw [hx] at this; exact this) kk
theorem s_dup2 {x z : V} (hd : Dc M pc .dup2 1 pc') (hx : isL x = false) (hz : isL z = false) (k : Run d M Q S mi pc' ls (x :: z :: x :: z :: st)) : Run d M Q S mi pc ls (x :: z :: st) := by
  intro p l e R s m args below meth c D ca sx A n0 ρ0 Qm C0 Re ρ H locs mls mst hW hS hE hn hl hs
  obtain ⟨v, _, rfl, hv, u, w2, rfl, hu, hs⟩ := hs
  have kk := k p l e R s m args below meth c D ca sx A n0 ρ0 Qm C0 Re ρ H locs mls (v :: u :: v :: u :: w2) hW hS hE hn hl ⟨_, _, rfl, hv, _, _, rfl, hu, _, _, rfl, hv, _, _, rfl, hu, hs⟩
  rw [hd.2] at kk
  exact lv_dup2_11 C0.1 C0.2.1 hd.1 (by have := hv.cat; rw [hx] at this; exact this) (by have := hu.cat; rw [hz] at this; exact this) kk
theorem s_iload_n {i : Fin 4} {a : Int} (hd : Dc M pc (.iload_n i) 1 pc') (hi : ls[(i : Nat)]? = some (vI a)) (k : Run d M Q S mi pc' ls (vI a :: st)) : Run d M Q S mi pc ls (st) := by
  intro p l e R s m args below meth c D ca sx A n0 ρ0 Qm C0 Re ρ H locs mls mst hW hS hE hn hl hs
  obtain ⟨v, hv, hr⟩ := hl.get hi (by exact fun q => by cases q)
  obtain ⟨y, rfl, e9⟩ := hr
  have kk := k p l e R s m args below meth c D ca sx A n0 ρ0 Qm C0 Re ρ H locs mls (.int y :: mst) hW hS hE hn hl ⟨_, _, rfl, ⟨_, rfl, e9⟩, hs⟩
  rw [hd.2] at kk
  exact lv_iload_n C0.1 C0.2.1 hd.1 rfl hv kk
theorem s_lload_n {i : Fin 4} {a : Int} (hd : Dc M pc (.lload_n i) 1 pc') (hi : ls[(i : Nat)]? = some (vL a)) (k : Run d M Q S mi pc' ls (vL a :: st)) : Run d M Q S mi pc ls (st) := by
  intro p l e R s m args below meth c D ca sx A n0 ρ0 Qm C0 Re ρ H locs mls mst hW hS hE hn hl hs
  obtain ⟨v, hv, hr⟩ := hl.get hi (by exact fun q => by cases q)
  obtain ⟨y, rfl, e9⟩ := hr
  have kk := k p l e R s m args below meth c D ca sx A n0 ρ0 Qm C0 Re ρ H locs mls (.long y :: mst) hW hS hE hn hl ⟨_, _, rfl, ⟨_, rfl, e9⟩, hs⟩
  rw [hd.2] at kk
  exact lv_lload_n C0.1 C0.2.1 hd.1 rfl hv kk
theorem s_aload_n {i : Fin 4} {a : Ad} (hd : Dc M pc (.aload_n i) 1 pc') (hi : ls[(i : Nat)]? = some (vR (some a))) (k : Run d M Q S mi pc' ls (vR (some a) :: st)) : Run d M Q S mi pc ls (st) := by
  intro p l e R s m args below meth c D ca sx A n0 ρ0 Qm C0 Re ρ H locs mls mst hW hS hE hn hl hs
  obtain ⟨v, hv, hr⟩ := hl.get hi (by exact fun q => by cases q)
  obtain ⟨rfl, e9⟩ := hr
  have kk := k p l e R s m args below meth c D ca sx A n0 ρ0 Qm C0 Re ρ H locs mls (.ref (ρ a) :: mst) hW hS hE hn hl ⟨_, _, rfl, ⟨rfl, e9⟩, hs⟩
  rw [hd.2] at kk
  exact lv_aload_n C0.1 C0.2.1 hd.1 rfl hv kk
theorem s_aload_nX {i : Fin 4} {q : Nat} (hd : Dc M pc (.aload_n i) 1 pc') (hi : ls[(i : Nat)]? = some (vX (q + 1))) (k : Run d M Q S mi pc' ls (vX (q + 1) :: st)) : Run d M Q S mi pc ls (st) := by
  intro p l e R s m args below meth c D ca sx A n0 ρ0 Qm C0 Re ρ H locs mls mst hW hS hE hn hl hs
  obtain ⟨v, hv, hr⟩ := hl.get hi (by exact fun z => by cases z)
  obtain ⟨h0, rfl⟩ := hr
  have kk := k p l e R s m args below meth c D ca sx A n0 ρ0 Qm C0 Re ρ H locs mls (.ref (sx (q + 1)) :: mst) hW hS hE hn hl ⟨_, _, rfl, ⟨h0, rfl⟩, hs⟩
  rw [hd.2] at kk
  exact lv_aload_n C0.1 C0.2.1 hd.1 rfl hv kk
theorem s_aload_nN {i : Fin 4}  (hd : Dc M pc (.aload_n i) 1 pc') (hi : ls[(i : Nat)]? = some (vR none)) (k : Run d M Q S mi pc' ls (vR none :: st)) : Run d M Q S mi pc ls (st) := by
  intro p l e R s m args below meth c D ca sx A n0 ρ0 Qm C0 Re ρ H locs mls mst hW hS hE hn hl hs
  obtain ⟨v, hv, hr⟩ := hl.get hi (by exact fun q => by cases q)
  cases (show v = .null from hr)
  have kk := k p l e R s m args below meth c D ca sx A n0 ρ0 Qm C0 Re ρ H locs mls (.null :: mst) hW hS hE hn hl ⟨_, _, rfl, rfl, hs⟩
  rw [hd.2] at kk
  exact lv_aload_nN C0.1 C0.2.1 hd.1 rfl hv kk
theorem s_iload {i : Nat} {a : Int} (hd : Dc M pc (.iload i) 2 pc') (hi : ls[i]? = some (vI a)) (k : Run d M Q S mi pc' ls (vI a :: st)) : Run d M Q S mi pc ls (st) := by
  intro p l e R s m args below meth c D ca sx A n0 ρ0 Qm C0 Re ρ H locs mls mst hW hS hE hn hl hs
  obtain ⟨v, hv, hr⟩ := hl.get hi (by exact fun q => by cases q)
  obtain ⟨y, rfl, e9⟩ := hr
  have kk := k p l e R s m args below meth c D ca sx A n0 ρ0 Qm C0 Re ρ H locs mls (.int y :: mst) hW hS hE hn hl ⟨_, _, rfl, ⟨_, rfl, e9⟩, hs⟩
  rw [hd.2] at kk
  exact lv_iload C0.1 C0.2.1 hd.1 hv kk
theorem s_lload {i : Nat} {a : Int} (hd : Dc M pc (.lload i) 2 pc') (hi : ls[i]? = some (vL a)) (k : Run d M Q S mi pc' ls (vL a :: st)) : Run d M Q S mi pc ls (st) := by
  intro p l e R s m args below meth c D ca sx A n0 ρ0 Qm C0 Re ρ H locs mls mst hW hS hE hn hl hs
  obtain ⟨v, hv, hr⟩ := hl.get hi (by exact fun q => by cases q)
  obtain ⟨y, rfl, e9⟩ := hr
  have kk := k p l e R s m args below meth c D ca sx A n0 ρ0 Qm C0 Re ρ H locs mls (.long y :: mst) hW hS hE hn hl ⟨_, _, rfl, ⟨_, rfl, e9⟩, hs⟩
  rw [hd.2] at kk
  exact lv_lload C0.1 C0.2.1 hd.1 hv kk
theorem s_aload {i : Nat} {a : Ad} (hd : Dc M pc (.aload i) 2 pc') (hi : ls[i]? = some (vR (some a))) (k : Run d M Q S mi pc' ls (vR (some a) :: st)) : Run d M Q S mi pc ls (st) := by
  intro p l e R s m args below meth c D ca sx A n0 ρ0 Qm C0 Re ρ H locs mls mst hW hS hE hn hl hs
  obtain ⟨v, hv, hr⟩ := hl.get hi (by exact fun q => by cases q)
  obtain ⟨rfl, e9⟩ := hr
  have kk := k p l e R s m args below meth c D ca sx A n0 ρ0 Qm C0 Re ρ H locs mls (.ref (ρ a) :: mst) hW hS hE hn hl ⟨_, _, rfl, ⟨rfl, e9⟩, hs⟩
  rw [hd.2] at kk
  exact lv_aload C0.1 C0.2.1 hd.1 hv kk
theorem s_aloadX {i : Nat} {q : Nat} (hd : Dc M pc (.aload i) 2 pc') (hi : ls[i]? = some (vX (q + 1))) (k : Run d M Q S mi pc' ls (vX (q + 1) :: st)) : Run d M Q S mi pc ls (st) := by
  intro p l e R s m args below meth c D ca sx A n0 ρ0 Qm C0 Re ρ H locs mls mst hW hS hE hn hl hs
  obtain ⟨v, hv, hr⟩ := hl.get hi (by exact fun z => by cases z)
  obtain ⟨h0, rfl⟩ := hr
  have kk := k p l e R s m args below meth c D ca sx A n0 ρ0 Qm C0 Re ρ H locs mls (.ref (sx (q + 1)) :: mst) hW hS hE hn hl ⟨_, _, rfl, ⟨h0, rfl⟩, hs⟩
  rw [hd.2] at kk
  exact lv_aload C0.1 C0.2.1 hd.1 hv kk
theorem s_aloadN {i : Nat}  (hd : Dc M pc (.aload i) 2 pc') (hi : ls[i]? = some (vR none)) (k : Run d M Q S mi pc' ls (vR none :: st)) : Run d M Q S mi pc ls (st) := by
  intro p l e R s m args below meth c D ca sx A n0 ρ0 Qm C0 Re ρ H locs mls mst hW hS hE hn hl hs
  obtain ⟨v, hv, hr⟩ := hl.get hi (by exact fun q => by cases q)
  cases (show v = .null from hr)
  have kk := k p l e R s m args below meth c D ca sx A n0 ρ0 Qm C0 Re ρ H locs mls (.null :: mst) hW hS hE hn hl ⟨_, _, rfl, rfl, hs⟩
  rw [hd.2] at kk
  exact lv_aloadN C0.1 C0.2.1 hd.1 hv kk
theorem s_istore_n {i : Fin 4} {a : Int} (hd : Dc M pc (.istore_n i) 1 pc') (hi : (i : Nat) < mL M) (hL : ∀ j y, j + 1 = (i : Nat) → ls[j]? = some y → isL y = false) (k : Run d M Q S mi pc' (ls.set (i : Nat) (vI a)) (st)) : Run d M Q S mi pc ls (vI a :: st) := by
  intro p l e R s m args below meth c D ca sx A n0 ρ0 Qm C0 Re ρ H locs mls mst hW hS hE hn hl hs
  obtain ⟨v, w2, rfl, hv, hs⟩ := hs
  have hv0 := hv
  obtain ⟨y, rfl, e9⟩ := hv
  refine lv_istore_n C0.1 C0.2.1 hd.1 rfl hl.has hi rfl (fun ls2 h2 => ?_)
  have kk := k p l e R s m args below meth c D ca sx A n0 ρ0 Qm C0 Re ρ H locs ls2 w2 hW hS hE hn (Rl.store hl hv0 hL h2) hs
  rw [hd.2] at kk
  exact kk
theorem s_lstore_n {i : Fin 4} {a : Int} (hd : Dc M pc (.lstore_n i) 1 pc') (hi : (i : Nat) + 1 < mL M) (hL : ∀ j y, j + 1 = (i : Nat) → ls[j]? = some y → isL y = false) (k : Run d M Q S mi pc' ((ls.set (i : Nat) (vL a)).set ((i : Nat) + 1) (vX 0)) (st)) : Run d M Q S mi pc ls (vL a :: st) := by
  intro p l e R s m args below meth c D ca sx A n0 ρ0 Qm C0 Re ρ H locs mls mst hW hS hE hn hl hs
  obtain ⟨v, w2, rfl, hv, hs⟩ := hs
  have hv0 := hv
  obtain ⟨y, rfl, e9⟩ := hv
  refine lv_lstore_n C0.1 C0.2.1 hd.1 rfl hl.has hi rfl (fun ls2 h2 => ?_)
  have kk := k p l e R s m args below meth c D ca sx A n0 ρ0 Qm C0 Re ρ H locs ls2 w2 hW hS hE hn (Rl.store2 hl hv0 hL h2) hs
  rw [hd.2] at kk
  exact kk
theorem s_astore_n {i : Fin 4} {a : Ad} (hd : Dc M pc (.astore_n i) 1 pc') (hi : (i : Nat) < mL M) (hL : ∀ j y, j + 1 = (i : Nat) → ls[j]? = some y → isL y = false) (k : Run d M Q S mi pc' (ls.set (i : Nat) (vR (some a))) (st)) : Run d M Q S mi pc ls (vR (some a) :: st) := by
  intro p l e R s m args below meth c D ca sx A n0 ρ0 Qm C0 Re ρ H locs mls mst hW hS hE hn hl hs
  obtain ⟨v, w2, rfl, hv, hs⟩ := hs
  have hv0 := hv
  obtain ⟨rfl, e9⟩ := hv
  refine lv_astore_n C0.1 C0.2.1 hd.1 rfl hl.has hi rfl (fun ls2 h2 => ?_)
  have kk := k p l e R s m args below meth c D ca sx A n0 ρ0 Qm C0 Re ρ H locs ls2 w2 hW hS hE hn (Rl.store hl hv0 hL h2) hs
  rw [hd.2] at kk
  exact kk
theorem s_astore_nN {i : Fin 4}  (hd : Dc M pc (.astore_n i) 1 pc') (hi : (i : Nat) < mL M) (hL : ∀ j y, j + 1 = (i : Nat) → ls[j]? = some y → isL y = false) (k : Run d M Q S mi pc' (ls.set (i : Nat) (vR none)) (st)) : Run d M Q S mi pc ls (vR none :: st) := by
  intro p l e R s m args below meth c D ca sx A n0 ρ0 Qm C0 Re ρ H locs mls mst hW hS hE hn hl hs
  obtain ⟨v, w2, rfl, hv, hs⟩ := hs
  have hv0 := hv
  cases (show v = .null from hv)
  refine lv_astore_nN C0.1 C0.2.1 hd.1 rfl hl.has hi rfl (fun ls2 h2 => ?_)
  have kk := k p l e R s m args below meth c D ca sx A n0 ρ0 Qm C0 Re ρ H locs ls2 w2 hW hS hE hn (Rl.store hl hv0 hL h2) hs
  rw [hd.2] at kk
  exact kk
theorem s_istore {i : Nat} {a : Int} (hd : Dc M pc (.istore i) 2 pc') (hi : i < mL M) (hL : ∀ j y, j + 1 = i → ls[j]? = some y → isL y = false) (k : Run d M Q S mi pc' (ls.set i (vI a)) (st)) : Run d M Q S mi pc ls (vI a :: st) := by
  intro p l e R s m args below meth c D ca sx A n0 ρ0 Qm C0 Re ρ H locs mls mst hW hS hE hn hl hs
  obtain ⟨v, w2, rfl, hv, hs⟩ := hs
  have hv0 := hv
  obtain ⟨y, rfl, e9⟩ := hv
  refine lv_istore C0.1 C0.2.1 hd.1 hl.has hi rfl (fun ls2 h2 => ?_)
  have kk := k p l e R s m args below meth c D ca sx A n0 ρ0 Qm C0 Re ρ H locs ls2 w2 hW hS hE hn (Rl.store hl hv0 hL h2) hs
  rw [hd.2] at kk
  exact kk
theorem s_lstore {i : Nat} {a : Int} (hd : Dc M pc (.lstore i) 2 pc') (hi : i + 1 < mL M) (hL : ∀ j y, j + 1 = i → ls[j]? = some y → isL y = false) (k : Run d M Q S mi pc' ((ls.set i (vL a)).set (i + 1) (vX 0)) (st)) : Run d M Q S mi pc ls (vL a :: st) := by
  intro p l e R s m args below meth c D ca sx A n0 ρ0 Qm C0 Re ρ H locs mls mst hW hS hE hn hl hs
  obtain ⟨v, w2, rfl, hv, hs⟩ := hs
  have hv0 := hv
  obtain ⟨y, rfl, e9⟩ := hv
  refine lv_lstore C0.1 C0.2.1 hd.1 hl.has hi rfl (fun ls2 h2 => ?_)
  have kk := k p l e R s m args below meth c D ca sx A n0 ρ0 Qm C0 Re ρ H locs ls2 w2 hW hS hE hn (Rl.store2 hl hv0 hL h2) hs
  rw [hd.2] at kk
  exact kk
theorem s_astore {i : Nat} {a : Ad} (hd : Dc M pc (.astore i) 2 pc') (hi : i < mL M) (hL : ∀ j y, j + 1 = i → ls[j]? = some y → isL y = false) (k : Run d M Q S mi pc' (ls.set i (vR (some a))) (st)) : Run d M Q S mi pc ls (vR (some a) :: st) := by
  intro p l e R s m args below meth c D ca sx A n0 ρ0 Qm C0 Re ρ H locs mls mst hW hS hE hn hl hs
  obtain ⟨v, w2, rfl, hv, hs⟩ := hs
  have hv0 := hv
  obtain ⟨rfl, e9⟩ := hv
  refine lv_astore C0.1 C0.2.1 hd.1 hl.has hi rfl (fun ls2 h2 => ?_)
  have kk := k p l e R s m args below meth c D ca sx A n0 ρ0 Qm C0 Re ρ H locs ls2 w2 hW hS hE hn (Rl.store hl hv0 hL h2) hs
  rw [hd.2] at kk
  exact kk
theorem s_astoreN {i : Nat}  (hd : Dc M pc (.astore i) 2 pc') (hi : i < mL M) (hL : ∀ j y, j + 1 = i → ls[j]? = some y → isL y = false) (k : Run d M Q S mi pc' (ls.set i (vR none)) (st)) : Run d M Q S mi pc ls (vR none :: st) := by
  intro p l e R s m args below meth c D ca sx A n0 ρ0 Qm C0 Re ρ H locs mls mst hW hS hE hn hl hs
  obtain ⟨v, w2, rfl, hv, hs⟩ := hs
  have hv0 := hv
  cases (show v = .null from hv)
  refine lv_astoreN C0.1 C0.2.1 hd.1 hl.has hi rfl (fun ls2 h2 => ?_)
  have kk := k p l e R s m args below meth c D ca sx A n0 ρ0 Qm C0 Re ρ H locs ls2 w2 hW hS hE hn (Rl.store hl hv0 hL h2) hs
  rw [hd.2] at kk
  exact kk
theorem s_iinc {i : Nat} {a b : Int} (hd : Dc M pc (.iinc i b) 3 pc') (hi : ls[i]? = some (vI a)) (hb : (Int32.ofInt b).toInt = b) (hlt : i < mL M) (hL : ∀ j y, j + 1 = i → ls[j]? = some y → isL y = false) (k : Run d M Q S mi pc' (ls.set i (vI (w32 (a + b)))) (st)) : Run d M Q S mi pc ls (st) := by
  intro p l e R s m args below meth c D ca sx A n0 ρ0 Qm C0 Re ρ H locs mls mst hW hS hE hn hl hs
  obtain ⟨v, hv, hr⟩ := hl.get hi (fun q => by cases q)
  obtain ⟨y, rfl, e9⟩ := hr
  obtain ⟨kx, hkx⟩ := List.getElem?_of_mem (lvAll_mem hv)
  have hr2 : Rv S.1 ρ sx (vI (w32 (a + b))) (.int (y + Int32.ofInt b)) := ⟨_, rfl, by rw [Int32.toInt_add, hb, e9]; rfl⟩
  refine lv_iinc (k := kx) C0.1 C0.2.1 hd.1 hl.has hkx rfl hlt rfl (fun ls2 h2 => ?_)
  have kk := k p l e R s m args below meth c D ca sx A n0 ρ0 Qm C0 Re ρ H locs ls2 mst hW hS hE hn (Rl.store hl hr2 hL h2) hs
  rw [hd.2] at kk
  exact kk
theorem s_icmp_eq {a b : Int} {off : Int} {tgt : Nat} (hd : Dc M pc (.if_icmp .eq off) 3 pc') (ht : (pc : Int) + off = (tgt : Int)) (k1 : a = b → Run d M Q S mi tgt ls st) (k2 : a ≠ b → Run d M Q S mi pc' ls st) : Run d M Q S mi pc ls (vI b :: vI a :: st) := by
  intro p l e R s m args below meth c D ca sx A n0 ρ0 Qm C0 Re ρ H locs mls mst hW hS hE hn hl hs
  obtain ⟨_, _, rfl, ⟨y1, rfl, e1⟩, _, w2, rfl, ⟨y2, rfl, e2⟩, hs⟩ := hs
  refine lv_icmp_eq C0.1 C0.2.1 hd.1 ht (fun q => ?_) (fun q => ?_)
  · exact k1 (by rw [← e1, ← e2, q]) p l e R s m args below meth c D ca sx A n0 ρ0 Qm C0 Re ρ H locs mls w2 hW hS hE hn hl hs
  · have kk := k2 (fun z => q (Int32.toInt_inj.mp (by rw [e1, e2, z]))) p l e R s m args below meth c D ca sx A n0 ρ0 Qm C0 Re ρ H locs mls w2 hW hS hE hn hl hs
    rw [hd.2] at kk
    exact kk
theorem s_if_eq {a : Int} {off : Int} {tgt : Nat} (hd : Dc M pc (.ifCond .eq off) 3 pc') (ht : (pc : Int) + off = (tgt : Int)) (k1 : a = 0 → Run d M Q S mi tgt ls st) (k2 : a ≠ 0 → Run d M Q S mi pc' ls st) : Run d M Q S mi pc ls (vI a :: st) := by
  intro p l e R s m args below meth c D ca sx A n0 ρ0 Qm C0 Re ρ H locs mls mst hW hS hE hn hl hs
  obtain ⟨_, w2, rfl, ⟨y2, rfl, e2⟩, hs⟩ := hs
  have e1 : (0 : Int32).toInt = 0 := rfl
  refine lv_if_eq C0.1 C0.2.1 hd.1 ht (fun q => ?_) (fun q => ?_)
  · exact k1 (by rw [← e1, ← e2, q]) p l e R s m args below meth c D ca sx A n0 ρ0 Qm C0 Re ρ H locs mls w2 hW hS hE hn hl hs
  · have kk := k2 (fun z => q (Int32.toInt_inj.mp (by rw [e1, e2, z]))) p l e R s m args below meth c D ca sx A n0 ρ0 Qm C0 Re ρ H locs mls w2 hW hS hE hn hl hs
    rw [hd.2] at kk
    exact kk
theorem s_icmp_ne {a b : Int} {off : Int} {tgt : Nat} (hd : Dc M pc (.if_icmp .ne off) 3 pc') (ht : (pc : Int) + off = (tgt : Int)) (k1 : a ≠ b → Run d M Q S mi tgt ls st) (k2 : a = b → Run d M Q S mi pc' ls st) : Run d M Q S mi pc ls (vI b :: vI a :: st) := by
  intro p l e R s m args below meth c D ca sx A n0 ρ0 Qm C0 Re ρ H locs mls mst hW hS hE hn hl hs
  obtain ⟨_, _, rfl, ⟨y1, rfl, e1⟩, _, w2, rfl, ⟨y2, rfl, e2⟩, hs⟩ := hs
  refine lv_icmp_ne C0.1 C0.2.1 hd.1 ht (fun q => ?_) (fun q => ?_)
  · exact k1 (fun z => q (Int32.toInt_inj.mp (by rw [e1, e2, z]))) p l e R s m args below meth c D ca sx A n0 ρ0 Qm C0 Re ρ H locs mls w2 hW hS hE hn hl hs
  · have kk := k2 (by rw [← e1, ← e2]; exact congrArg Int32.toInt q) p l e R s m args below meth c D ca sx A n0 ρ0 Qm C0 Re ρ H locs mls w2 hW hS hE hn hl hs
    rw [hd.2] at kk
    exact kk
theorem s_if_ne {a : Int} {off : Int} {tgt : Nat} (hd : Dc M pc (.ifCond .ne off) 3 pc') (ht : (pc : Int) + off = (tgt : Int)) (k1 : a ≠ 0 → Run d M Q S mi tgt ls st) (k2 : a = 0 → Run d M Q S mi pc' ls st) : Run d M Q S mi pc ls (vI a :: st) := by
  intro p l e R s m args below meth c D ca sx A n0 ρ0 Qm C0 Re ρ H locs mls mst hW hS hE hn hl hs
  obtain ⟨_, w2, rfl, ⟨y2, rfl, e2⟩, hs⟩ := hs
  have e1 : (0 : Int32).toInt = 0 := rfl
  refine lv_if_ne C0.1 C0.2.1 hd.1 ht (fun q => ?_) (fun q => ?_)
  · exact k1 (fun z => q (Int32.toInt_inj.mp (by rw [e1, e2, z]))) p l e R s m args below meth c D ca sx A n0 ρ0 Qm C0 Re ρ H locs mls w2 hW hS hE hn hl hs
  · have kk := k2 (by rw [← e1, ← e2]; exact congrArg Int32.toInt q) p l e R s m args below meth c D ca sx A n0 ρ0 Qm C0 Re ρ H locs mls w2 hW hS hE hn hl hs
    rw [hd.2] at kk
    exact kk
theorem s_icmp_lt {a b : Int} {off : Int} {tgt : Nat} (hd : Dc M pc (.if_icmp .lt off) 3 pc') (ht : (pc : Int) + off = (tgt : Int)) (k1 : a < b → Run d M Q S mi tgt ls st) (k2 : b ≤ a → Run d M Q S mi pc' ls st) : Run d M Q S mi pc ls (vI b :: vI a :: st) := by
  intro p l e R s m args below meth c D ca sx A n0 ρ0 Qm C0 Re ρ H locs mls mst hW hS hE hn hl hs
  obtain ⟨_, _, rfl, ⟨y1, rfl, e1⟩, _, w2, rfl, ⟨y2, rfl, e2⟩, hs⟩ := hs
  refine lv_icmp_lt C0.1 C0.2.1 hd.1 ht (fun q => ?_) (fun q => ?_)
  · exact k1 (by rw [← e1, ← e2]; exact Int32.lt_iff_toInt_lt.mp q) p l e R s m args below meth c D ca sx A n0 ρ0 Qm C0 Re ρ H locs mls w2 hW hS hE hn hl hs
  · have kk := k2 (by rw [← e1, ← e2]; exact Int.not_lt.mp (fun z => q (Int32.lt_iff_toInt_lt.mpr z))) p l e R s m args below meth c D ca sx A n0 ρ0 Qm C0 Re ρ H locs mls w2 hW hS hE hn hl hs
    rw [hd.2] at kk
    exact kk
theorem s_if_lt {a : Int} {off : Int} {tgt : Nat} (hd : Dc M pc (.ifCond .lt off) 3 pc') (ht : (pc : Int) + off = (tgt : Int)) (k1 : a < 0 → Run d M Q S mi tgt ls st) (k2 : 0 ≤ a → Run d M Q S mi pc' ls st) : Run d M Q S mi pc ls (vI a :: st) := by
  intro p l e R s m args below meth c D ca sx A n0 ρ0 Qm C0 Re ρ H locs mls mst hW hS hE hn hl hs
  obtain ⟨_, w2, rfl, ⟨y2, rfl, e2⟩, hs⟩ := hs
  have e1 : (0 : Int32).toInt = 0 := rfl
  refine lv_if_lt C0.1 C0.2.1 hd.1 ht (fun q => ?_) (fun q => ?_)
  · exact k1 (by rw [← e1, ← e2]; exact Int32.lt_iff_toInt_lt.mp q) p l e R s m args below meth c D ca sx A n0 ρ0 Qm C0 Re ρ H locs mls w2 hW hS hE hn hl hs
  · have kk := k2 (by rw [← e1, ← e2]; exact Int.not_lt.mp (fun z => q (Int32.lt_iff_toInt_lt.mpr z))) p l e R s m args below meth c D ca sx A n0 ρ0 Qm C0 Re ρ H locs mls w2 hW hS hE hn hl hs
    rw [hd.2] at kk
    exact kk
theorem s_icmp_ge {a b : Int} {off : Int} {tgt : Nat} (hd : Dc M pc (.if_icmp .ge off) 3 pc') (ht : (pc : Int) + off = (tgt : Int)) (k1 : b ≤ a → Run d M Q S mi tgt ls st) (k2 : a < b → Run d M Q S mi pc' ls st) : Run d M Q S mi pc ls (vI b :: vI a :: st) := by
  intro p l e R s m args below meth c D ca sx A n0 ρ0 Qm C0 Re ρ H locs mls mst hW hS hE hn hl hs
  obtain ⟨_, _, rfl, ⟨y1, rfl, e1⟩, _, w2, rfl, ⟨y2, rfl, e2⟩, hs⟩ := hs
  refine lv_icmp_ge C0.1 C0.2.1 hd.1 ht (fun q => ?_) (fun q => ?_)
  · exact k1 (by rw [← e1, ← e2]; exact Int32.le_iff_toInt_le.mp q) p l e R s m args below meth c D ca sx A n0 ρ0 Qm C0 Re ρ H locs mls w2 hW hS hE hn hl hs
  · have kk := k2 (by rw [← e1, ← e2]; exact Int.not_le.mp (fun z => q (Int32.le_iff_toInt_le.mpr z))) p l e R s m args below meth c D ca sx A n0 ρ0 Qm C0 Re ρ H locs mls w2 hW hS hE hn hl hs
    rw [hd.2] at kk
    exact kk
theorem s_if_ge {a : Int} {off : Int} {tgt : Nat} (hd : Dc M pc (.ifCond .ge off) 3 pc') (ht : (pc : Int) + off = (tgt : Int)) (k1 : 0 ≤ a → Run d M Q S mi tgt ls st) (k2 : a < 0 → Run d M Q S mi pc' ls st) : Run d M Q S mi pc ls (vI a :: st) := by
  intro p l e R s m args below meth c D ca sx A n0 ρ0 Qm C0 Re ρ H locs mls mst hW hS hE hn hl hs
  obtain ⟨_, w2, rfl, ⟨y2, rfl, e2⟩, hs⟩ := hs
  have e1 : (0 : Int32).toInt = 0 := rfl
  refine lv_if_ge C0.1 C0.2.1 hd.1 ht (fun q => ?_) (fun q => ?_)
  · exact k1 (by rw [← e1, ← e2]; exact Int32.le_iff_toInt_le.mp q) p l e R s m args below meth c D ca sx A n0 ρ0 Qm C0 Re ρ H locs mls w2 hW hS hE hn hl hs
  · have kk := k2 (by rw [← e1, ← e2]; exact Int.not_le.mp (fun z => q (Int32.le_iff_toInt_le.mpr z))) p l e R s m args below meth c D ca sx A n0 ρ0 Qm C0 Re ρ H locs mls w2 hW hS hE hn hl hs
    rw [hd.2] at kk
    exact kk
theorem s_icmp_gt {a b : Int} {off : Int} {tgt : Nat} (hd : Dc M pc (.if_icmp .gt off) 3 pc') (ht : (pc : Int) + off = (tgt : Int)) (k1 : b < a → Run d M Q S mi tgt ls st) (k2 : a ≤ b → Run d M Q S mi pc' ls st) : Run d M Q S mi pc ls (vI b :: vI a :: st) := by
  intro p l e R s m args below meth c D ca sx A n0 ρ0 Qm C0 Re ρ H locs mls mst hW hS hE hn hl hs
  obtain ⟨_, _, rfl, ⟨y1, rfl, e1⟩, _, w2, rfl, ⟨y2, rfl, e2⟩, hs⟩ := hs
  refine lv_icmp_gt C0.1 C0.2.1 hd.1 ht (fun q => ?_) (fun q => ?_)
  · exact k1 (by rw [← e1, ← e2]; exact Int32.lt_iff_toInt_lt.mp q) p l e R s m args below meth c D ca sx A n0 ρ0 Qm C0 Re ρ H locs mls w2 hW hS hE hn hl hs
  · have kk := k2 (by rw [← e1, ← e2]; exact Int.not_lt.mp (fun z => q (Int32.lt_iff_toInt_lt.mpr z))) p l e R s m args below meth c D ca sx A n0 ρ0 Qm C0 Re ρ H locs mls w2 hW hS hE hn hl hs
    rw [hd.2] at kk
    exact kk
theorem s_if_gt {a : Int} {off : Int} {tgt : Nat} (hd : Dc M pc (.ifCond .gt off) 3 pc') (ht : (pc : Int) + off = (tgt : Int)) (k1 : 0 < a → Run d M Q S mi tgt ls st) (k2 : a ≤ 0 → Run d M Q S mi pc' ls st) : Run d M Q S mi pc ls (vI a :: st) := by
  intro p l e R s m args below meth c D ca sx A n0 ρ0 Qm C0 Re ρ H locs mls mst hW hS hE hn hl hs
  obtain ⟨_, w2, rfl, ⟨y2, rfl, e2⟩, hs⟩ := hs
  have e1 : (0 : Int32).toInt = 0 := rfl
  refine lv_if_gt C0.1 C0.2.1 hd.1 ht (fun q => ?_) (fun q => ?_)
  · exact k1 (by rw [← e1, ← e2]; exact Int32.lt_iff_toInt_lt.mp q) p l e R s m args below meth c D ca sx A n0 ρ0 Qm C0 Re ρ H locs mls w2 hW hS hE hn hl hs
  · have kk := k2 (by rw [← e1, ← e2]; exact Int.not_lt.mp (fun z => q (Int32.lt_iff_toInt_lt.mpr z))) p l e R s m args below meth c D ca sx A n0 ρ0 Qm C0 Re ρ H locs mls w2 hW hS hE hn hl hs
    rw [hd.2] at kk
    exact kk
theorem s_icmp_le {a b : Int} {off : Int} {tgt : Nat} (hd : Dc M pc (.if_icmp .le off) 3 pc') (ht : (pc : Int) + off = (tgt : Int)) (k1 : a ≤ b → Run d M Q S mi tgt ls st) (k2 : b < a → Run d M Q S mi pc' ls st) : Run d M Q S mi pc ls (vI b :: vI a :: st) := by
  intro p l e R s m args below meth c D ca sx A n0 ρ0 Qm C0 Re ρ H locs mls mst hW hS hE hn hl hs
  obtain ⟨_, _, rfl, ⟨y1, rfl, e1⟩, _, w2, rfl, ⟨y2, rfl, e2⟩, hs⟩ := hs
  refine lv_icmp_le C0.1 C0.2.1 hd.1 ht (fun q => ?_) (fun q => ?_)
  · exact k1 (by rw [← e1, ← e2]; exact Int32.le_iff_toInt_le.mp q) p l e R s m args below meth c D ca sx A n0 ρ0 Qm C0 Re ρ H locs mls w2 hW hS hE hn hl hs
  · have kk := k2 (by rw [← e1, ← e2]; exact Int.not_le.mp (fun z => q (Int32.le_iff_toInt_le.mpr z))) p l e R s m args below meth c D ca sx A n0 ρ0 Qm C0 Re ρ H locs mls w2 hW hS hE hn hl hs
    rw [hd.2] at kk
    exact kk
theorem s_if_le {a : Int} {off : Int} {tgt : Nat} (hd : Dc M pc (.ifCond .le off) 3 pc') (ht : (pc : Int) + off = (tgt : Int)) (k1 : a ≤ 0 → Run d M Q S mi tgt ls st) (k2 : 0 < a → Run d M Q S mi pc' ls st) : Run d M Q S mi pc ls (vI a :: st) := by
  intro p l e R s m args below meth c D ca sx A n0 ρ0 Qm C0 Re ρ H locs mls mst hW hS hE hn hl hs
  obtain ⟨_, w2, rfl, ⟨y2, rfl, e2⟩, hs⟩ := hs
  have e1 : (0 : Int32).toInt = 0 := rfl
  refine lv_if_le C0.1 C0.2.1 hd.1 ht (fun q => ?_) (fun q => ?_)
  · exact k1 (by rw [← e1, ← e2]; exact Int32.le_iff_toInt_le.mp q) p l e R s m args below meth c D ca sx A n0 ρ0 Qm C0 Re ρ H locs mls w2 hW hS hE hn hl hs
  · have kk := k2 (by rw [← e1, ← e2]; exact Int.not_le.mp (fun z => q (Int32.le_iff_toInt_le.mpr z))) p l e R s m args below meth c D ca sx A n0 ρ0 Qm C0 Re ρ H locs mls w2 hW hS hE hn hl hs
    rw [hd.2] at kk
    exact kk
theorem s_goto {off : Int} {tgt : Nat} (hd : Dc M pc (.goto off) 3 pc') (ht : (pc : Int) + off = (tgt : Int)) (k : Run d M Q S mi tgt ls st) : Run d M Q S mi pc ls st := by
  intro p l e R s m args below meth c D ca sx A n0 ρ0 Qm C0 Re ρ H locs mls mst hW hS hE hn hl hs
  exact lv_goto C0.1 C0.2.1 hd.1 ht (k p l e R s m args below meth c D ca sx A n0 ρ0 Qm C0 Re ρ H locs mls mst hW hS hE hn hl hs)
theorem s_ifnull {r : Option Ad} {off : Int} {tgt : Nat} (hd : Dc M pc (.ifnull off) 3 pc') (ht : (pc : Int) + off = (tgt : Int)) (k1 : r = none → Run d M Q S mi tgt ls st) (k2 : ∀ a, r = some a → Run d M Q S mi pc' ls st) : Run d M Q S mi pc ls (vR r :: st) := by
  intro p l e R s m args below meth c D ca sx A n0 ρ0 Qm C0 Re ρ H locs mls mst hW hS hE hn hl hs
  obtain ⟨v, w2, rfl, hv, hs⟩ := hs
  cases r with
  | none =>
    cases (show v = .null from hv)
    have kk := k1 rfl p l e R s m args below meth c D ca sx A n0 ρ0 Qm C0 Re ρ H locs mls w2 hW hS hE hn hl hs
    exact lv_ifnullN C0.1 C0.2.1 hd.1 ht kk
  | some a =>
    obtain ⟨rfl, ha⟩ := hv
    have kk := k2 a rfl p l e R s m args below meth c D ca sx A n0 ρ0 Qm C0 Re ρ H locs mls w2 hW hS hE hn hl hs
    rw [hd.2] at kk; exact lv_ifnull C0.1 C0.2.1 hd.1 kk
theorem s_ifnonnull {r : Option Ad} {off : Int} {tgt : Nat} (hd : Dc M pc (.ifnonnull off) 3 pc') (ht : (pc : Int) + off = (tgt : Int)) (k1 : r = none → Run d M Q S mi pc' ls st) (k2 : ∀ a, r = some a → Run d M Q S mi tgt ls st) : Run d M Q S mi pc ls (vR r :: st) := by
  intro p l e R s m args below meth c D ca sx A n0 ρ0 Qm C0 Re ρ H locs mls mst hW hS hE hn hl hs
  obtain ⟨v, w2, rfl, hv, hs⟩ := hs
  cases r with
  | none =>
    cases (show v = .null from hv)
    have kk := k1 rfl p l e R s m args below meth c D ca sx A n0 ρ0 Qm C0 Re ρ H locs mls w2 hW hS hE hn hl hs
    rw [hd.2] at kk; exact lv_ifnonnullN C0.1 C0.2.1 hd.1 kk
  | some a =>
    obtain ⟨rfl, ha⟩ := hv
    have kk := k2 a rfl p l e R s m args below meth c D ca sx A n0 ρ0 Qm C0 Re ρ H locs mls w2 hW hS hE hn hl hs
    exact lv_ifnonnull C0.1 C0.2.1 hd.1 ht kk
theorem s_table {a dflt lo hi : Int} {offs : Array Int} {len : Nat} (hd : Dc M pc (.tableswitch dflt lo hi offs) len pc') (T : Int → Nat) (dt : Nat) (hdt : (pc : Int) + dflt = (dt : Int)) (hT : ∀ x, lo ≤ x → x ≤ hi → ∃ off, offs[(x - lo).toNat]? = some off ∧ (pc : Int) + off = (T x : Int))
    (k1 : lo ≤ a → a ≤ hi → Run d M Q S mi (T a) ls st) (k2 : a < lo ∨ hi < a → Run d M Q S mi dt ls st) : Run d M Q S mi pc ls (vI a :: st) := by
  intro p l e R s m args below meth c D ca sx A n0 ρ0 Qm C0 Re ρ H locs mls mst hW hS hE hn hl hs
  obtain ⟨_, w2, rfl, ⟨y, rfl, e1⟩, hs⟩ := hs
  by_cases hin : lo ≤ a ∧ a ≤ hi
  · obtain ⟨off, ho, ht⟩ := hT a hin.1 hin.2
    exact lv_tableIn C0.1 C0.2.1 hd.1 (by rw [e1]; exact Int.not_lt.mpr hin.1) (by rw [e1]; exact Int.not_lt.mpr hin.2) (by rw [e1]; exact ho) ht (k1 hin.1 hin.2 p l e R s m args below meth c D ca sx A n0 ρ0 Qm C0 Re ρ H locs mls w2 hW hS hE hn hl hs)
  · have ho : a < lo ∨ hi < a := by omega
    exact lv_tableOut C0.1 C0.2.1 hd.1 (by rw [e1]; exact ho) hdt (k2 ho p l e R s m args below meth c D ca sx A n0 ρ0 Qm C0 Re ρ H locs mls w2 hW hS hE hn hl hs)
theorem s_lookup {a dflt : Int} {ps : Array (Int × Int)} {len tgt : Nat} (hd : Dc M pc (.lookupswitch dflt ps) len pc') (hp : (ps.toList.zip (ps.toList.drop 1)).all (fun (a, next) => a.1 < next.1) = true) (ht : (pc : Int) + Op.lookupswitch.offset ps.toList dflt a = (tgt : Int)) (k : Run d M Q S mi tgt ls st) : Run d M Q S mi pc ls (vI a :: st) := by
  intro p l e R s m args below meth c D ca sx A n0 ρ0 Qm C0 Re ρ H locs mls mst hW hS hE hn hl hs
  obtain ⟨_, w2, rfl, ⟨y, rfl, e1⟩, hs⟩ := hs
  exact lv_lookup C0.1 C0.2.1 hd.1 hp rfl (by rw [e1]; exact ht) (k p l e R s m args below meth c D ca sx A n0 ρ0 Qm C0 Re ρ H locs mls w2 hW hS hE hn hl hs)
theorem s_ireturn {a : Int} (hd : Dc M pc .ireturn 1 pc') (hr : mT M = some .int) (hK : S.2.2.1 ≤ mK M) (hS2 : S.2.2.2 ≤ mS M) (k : Q (vI a) mi S.1 S.2.1) : Run d M Q S mi pc ls (vI a :: []) := by
  intro p l e R s m args below meth c D ca sx A n0 ρ0 Qm C0 Re ρ H locs mls mst hW hS hE hn hl hs
  obtain ⟨_, w2, rfl, ⟨y, rfl, e1⟩, hs⟩ := hs
  cases (show w2 = [] from hs)
  exact Re (vI a) mi S.1 S.2.1 _ _ ρ H locs pc mls _ k hK hS2 hW hS hE hn (Or.inl ⟨hd.1, _, y, hr, rfl, rfl, by rw [e1]⟩)
theorem s_zreturn {a : Int} (hd : Dc M pc .ireturn 1 pc') (hr : mT M = some .boolean) (ha : a = 0 ∨ a = 1) (hK : S.2.2.1 ≤ mK M) (hS2 : S.2.2.2 ≤ mS M) (k : Q (vI a) mi S.1 S.2.1) : Run d M Q S mi pc ls (vI a :: []) := by
  intro p l e R s m args below meth c D ca sx A n0 ρ0 Qm C0 Re ρ H locs mls mst hW hS hE hn hl hs
  obtain ⟨_, w2, rfl, ⟨y, rfl, e1⟩, hs⟩ := hs
  cases (show w2 = [] from hs)
  refine Re (vI a) mi S.1 S.2.1 _ _ ρ H locs pc mls _ k hK hS2 hW hS hE hn (Or.inl ⟨hd.1, _, y, hr, ?_, rfl, by rw [e1]⟩)
  rcases ha with ha | ha
  · have : y = 0 := Int32.toInt_inj.mp (by rw [e1, ha]; rfl)
    subst this; rfl
  · have : y = 1 := Int32.toInt_inj.mp (by rw [e1, ha]; rfl)
    subst this; rfl
theorem s_nreturn {a : Int} {ty : FieldType} (hd : Dc M pc .ireturn 1 pc') (hr : mT M = some ty) (ha : narrow ty (.int (Int32.ofInt a)) = .int (Int32.ofInt a)) (hK : S.2.2.1 ≤ mK M) (hS2 : S.2.2.2 ≤ mS M) (k : Q (vI a) mi S.1 S.2.1) : Run d M Q S mi pc ls (vI a :: []) := by
  intro p l e R s m args below meth c D ca sx A n0 ρ0 Qm C0 Re ρ H locs mls mst hW hS hE hn hl hs
  obtain ⟨_, w2, rfl, ⟨y, rfl, e1⟩, hs⟩ := hs
  cases (show w2 = [] from hs)
  refine Re (vI a) mi S.1 S.2.1 _ _ ρ H locs pc mls _ k hK hS2 hW hS hE hn (Or.inl ⟨hd.1, _, y, hr, ?_, rfl, by rw [e1]⟩)
  rw [← e1, Int32.ofInt_toInt] at ha
  exact ha
theorem s_lreturn {a : Int} (hd : Dc M pc .lreturn 1 pc') (hr : mT M = some .long) (hK : S.2.2.1 ≤ mK M) (hS2 : S.2.2.2 ≤ mS M) (k : Q (vL a) mi S.1 S.2.1) : Run d M Q S mi pc ls (vL a :: []) := by
  intro p l e R s m args below meth c D ca sx A n0 ρ0 Qm C0 Re ρ H locs mls mst hW hS hE hn hl hs
  obtain ⟨_, w2, rfl, ⟨y, rfl, e1⟩, hs⟩ := hs
  cases (show w2 = [] from hs)
  exact Re (vL a) mi S.1 S.2.1 _ _ ρ H locs pc mls _ k hK hS2 hW hS hE hn (Or.inr (Or.inl ⟨hd.1, hr, y, rfl, by rw [e1]⟩))
theorem s_areturn {r : Option Ad} {C : String} (hd : Dc M pc .areturn 1 pc') (hr : mT M = some (.object C)) (hK : S.2.2.1 ≤ mK M) (hS2 : S.2.2.2 ≤ mS M) (k : Q (vR r) mi S.1 S.2.1) : Run d M Q S mi pc ls (vR r :: []) := by
  intro p l e R s m args below meth c D ca sx A n0 ρ0 Qm C0 Re ρ H locs mls mst hW hS hE hn hl hs
  obtain ⟨v, w2, rfl, hv, hs⟩ := hs
  cases (show w2 = [] from hs)
  exact Re (vR r) mi S.1 S.2.1 _ _ ρ H locs pc mls _ k hK hS2 hW hS hE hn (Or.inr (Or.inr (Or.inl ⟨hd.1, C, r, v, hr, rfl, rfl, hv⟩)))
theorem s_return (hd : Dc M pc .return_ 1 pc') (hr : mT M = none) (hK : S.2.2.1 ≤ mK M) (hS2 : S.2.2.2 ≤ mS M) (k : Q (vX 0) mi S.1 S.2.1) : Run d M Q S mi pc ls [] := by
  intro p l e R s m args below meth c D ca sx A n0 ρ0 Qm C0 Re ρ H locs mls mst hW hS hE hn hl hs
  cases (show mst = [] from hs)
  exact Re (vX 0) mi S.1 S.2.1 _ _ ρ H locs pc mls _ k hK hS2 hW hS hE hn (Or.inr (Or.inr (Or.inr ⟨hd.1, hr, rfl, rfl⟩)))
end RULES
