/-! roles: what each cell is (its kind and length, by its role), in which order they are made -/
def kdL : List (Nat × Nat) := [(11, 12), (20, 400), (24, 2), (99, 0), (99, 0), (7, 14), (20, 8), (20, 100), (20, 24), (20, 5), (20, 24), (99, 0), (99, 0), (99, 0), (99, 0), (10, 2), (20, 24), (99, 0), (99, 0), (99, 0), (8, 9), (20, 400), (20, 12), (20, 12), (20, 12), (20, 12), (20, 12), (20, 12), (99, 0), (99, 0), (1, 11), (20, 200), (20, 200), (20, 200), (20, 200), (20, 200), (20, 200), (20, 200), (20, 200), (99, 0), (9, 6), (20, 12), (20, 12), (20, 12), (99, 0), (0, 13), (20, 401), (20, 401), (20, 401), (20, 256), (6, 9), (20, 24), (20, 60), (20, 6), (99, 0), (2, 6), (99, 0), (3, 5), (20, 500), (99, 0), (4, 13), (23, 4), (20, 4), (20, 24), (20, 24), (20, 24), (20, 3), (25, 3), (20, 12), (99, 0), (5, 11), (20, 24), (20, 24), (20, 4), (99, 0), (99, 0), (99, 0), (99, 0), (99, 0), (99, 0), (12, 48), (20, 3886), (20, 3886), (20, 7772), (22, 2), (20, 6), (20, 400), (20, 400), (20, 400), (20, 400), (20, 8), (20, 120), (20, 400), (21, 501), (20, 3), (20, 3), (20, 3), (20, 4), (20, 4), (20, 24), (20, 24), (20, 24)]
def kd (j : Nat) : Nat × Nat := kdL.getD j (99, 0)
def nmL : List (Nat × Nat) := [(0, 0), (0, 1), (0, 5), (0, 15), (0, 16), (0, 20), (0, 21), (0, 22), (0, 23), (0, 24), (0, 25), (0, 26), (0, 27), (10, 20), (10, 21), (10, 22), (10, 23), (10, 24), (10, 25), (10, 26), (10, 27), (0, 30), (0, 31), (0, 32), (0, 33), (0, 34), (0, 35), (0, 36), (0, 37), (0, 38), (0, 40), (0, 41), (0, 42), (0, 43), (0, 6), (0, 7), (0, 8), (0, 9), (0, 10), (0, 2), (0, 45), (20, 20), (20, 21), (20, 22), (20, 23), (20, 24), (20, 25), (20, 26), (20, 27), (0, 46), (0, 47), (0, 48), (0, 49), (0, 50), (0, 51), (0, 52), (0, 53), (0, 55), (1, 50), (1, 51), (1, 52), (1, 53), (0, 60), (2, 50), (2, 51), (2, 52), (2, 53), (0, 61), (0, 62), (21, 20), (21, 21), (21, 22), (21, 23), (21, 24), (21, 25), (21, 26), (21, 27), (0, 63), (0, 64), (0, 65), (0, 66), (0, 67), (0, 68), (1, 68), (2, 68), (0, 57), (0, 58), (1, 57), (1, 58), (2, 57), (2, 58), (3, 57), (3, 58), (0, 70), (3, 50), (3, 51), (3, 52), (3, 53), (1, 55), (4, 50), (4, 51), (4, 52), (4, 53), (9, 15), (9, 16), (0, 71), (0, 72), (0, 73), (0, 80), (0, 81), (0, 82), (0, 83), (0, 84), (0, 85), (0, 86), (0, 87), (0, 88), (0, 89), (0, 90), (0, 91), (0, 92), (0, 93), (0, 94), (0, 95), (0, 96), (0, 97), (0, 98), (0, 99), (0, 100), (0, 101), (1, 5), (1, 15), (1, 16), (1, 20), (1, 21), (1, 22), (1, 23), (1, 24), (1, 25), (1, 26), (1, 27), (11, 20), (11, 21), (11, 22), (11, 23), (11, 24), (11, 25), (11, 26), (11, 27), (1, 30), (1, 31), (1, 32), (1, 33), (1, 34), (1, 35), (1, 36), (1, 37), (1, 38), (1, 40), (1, 41), (1, 42), (1, 43), (1, 6), (1, 7), (1, 8), (1, 9), (1, 10), (2, 5), (2, 15), (2, 16), (2, 20), (2, 21), (2, 22), (2, 23), (2, 24), (2, 25), (2, 26), (2, 27), (12, 20), (12, 21), (12, 22), (12, 23), (12, 24), (12, 25), (12, 26), (12, 27), (2, 30), (2, 31), (2, 32), (2, 33), (2, 34), (2, 35), (2, 36), (2, 37), (2, 38), (2, 40), (2, 41), (2, 42), (2, 43), (2, 6), (2, 7), (2, 8), (2, 9), (2, 10), (3, 5), (3, 15), (3, 16), (3, 20), (3, 21), (3, 22), (3, 23), (3, 24), (3, 25), (3, 26), (3, 27), (13, 20), (13, 21), (13, 22), (13, 23), (13, 24), (13, 25), (13, 26), (13, 27), (3, 30), (3, 31), (3, 32), (3, 33), (3, 34), (3, 35), (3, 36), (3, 37), (3, 38), (3, 40), (3, 41), (3, 42), (3, 43), (3, 6), (3, 7), (3, 8), (3, 9), (3, 10)]
def nm (i : Nat) : Nat × Nat := nmL.getD i (0, 999)
theorem nm_nd : va_nd (nmL.map (fun q => q.1 * 1000 + q.2)) = true := by decide +kernel
theorem nmL_len : nmL.length = 241 := by decide +kernel
theorem nm_inj {i j : Nat} (hi : i < 241) (hj : j < 241) (h : nm i = nm j) : i = j := by
  have hl := nmL_len
  have e : ∀ k, k < 241 → nmL[k]? = some (nm k) := fun k hk => by
    have : k < nmL.length := by omega
    simp [nm, List.getD, this]
  refine va_nd_inj _ nm_nd i j ((nm i).1 * 1000 + (nm i).2) ?_ ?_
  · rw [List.getElem?_map, e i hi]; rfl
  · rw [List.getElem?_map, e j hj, h]; rfl
def ft (ci k : Nat) : FieldType := match ci with
  | 0 => tyX0 k
  | 1 => tyX1 k
  | 2 => tyX2 k
  | 3 => tyX3 k
  | 4 => tyX4 k
  | 5 => tyX5 k
  | 6 => tyX6 k
  | 7 => tyX7 k
  | 8 => tyX8 k
  | 9 => tyX9 k
  | 10 => tyX10 k
  | 11 => tyX11 k
  | _ => tyX12 k
/-- the tables' words that a call hands on -/
def T0 : List Cond := lw_tbl.filter goodWord
theorem T0_of {w : Cond} (h : w ∈ lw_tbl) (g : goodWord w = true) : w ∈ T0 := List.mem_filter.mpr ⟨h, g⟩
theorem tb_in {w : Cond} (i : Nat) (h : tables_1[i]? = some w) (g : goodWord w = true) : w ∈ T0 := T0_of (List.mem_append_right _ (List.mem_of_getElem? h)) g
theorem tb_sel {w : Cond} (i : Nat) (h : (k2_sels lw_privs)[i]? = some w) (g : goodWord w = true) : w ∈ T0 := T0_of (List.mem_append_left _ (List.mem_of_getElem? h)) g
theorem T0_good (big : List Cond) (hb : ∀ w ∈ T0, w ∈ big) : GoodIn big T0 := fun w h => ⟨hb w h, good_of_word (List.mem_filter.mp h).2⟩
theorem inT0 : ∀ w ∈ u_ws RX0 TX0 13, w ∈ T0 := fun w h => T0_of ((by decide +kernel : ∀ w ∈ u_ws RX0 TX0 13, w ∈ lw_tbl) w h) ((by decide +kernel : ∀ w ∈ u_ws RX0 TX0 13, goodWord w = true) w h)
theorem deT0 : ∀ k, k < 13 → (TX0 k).1 = RX0 := by decide +kernel
theorem inT1 : ∀ w ∈ u_ws RX1 TX1 11, w ∈ T0 := fun w h => T0_of ((by decide +kernel : ∀ w ∈ u_ws RX1 TX1 11, w ∈ lw_tbl) w h) ((by decide +kernel : ∀ w ∈ u_ws RX1 TX1 11, goodWord w = true) w h)
theorem deT1 : ∀ k, k < 11 → (TX1 k).1 = RX1 := by decide +kernel
theorem inT2 : ∀ w ∈ u_ws RX2 TX2 6, w ∈ T0 := fun w h => T0_of ((by decide +kernel : ∀ w ∈ u_ws RX2 TX2 6, w ∈ lw_tbl) w h) ((by decide +kernel : ∀ w ∈ u_ws RX2 TX2 6, goodWord w = true) w h)
theorem deT2 : ∀ k, k < 6 → (TX2 k).1 = RX2 := by decide +kernel
theorem inT3 : ∀ w ∈ u_ws RX3 TX3 5, w ∈ T0 := fun w h => T0_of ((by decide +kernel : ∀ w ∈ u_ws RX3 TX3 5, w ∈ lw_tbl) w h) ((by decide +kernel : ∀ w ∈ u_ws RX3 TX3 5, goodWord w = true) w h)
theorem deT3 : ∀ k, k < 5 → (TX3 k).1 = RX3 := by decide +kernel
theorem inT4 : ∀ w ∈ u_ws RX4 TX4 13, w ∈ T0 := fun w h => T0_of ((by decide +kernel : ∀ w ∈ u_ws RX4 TX4 13, w ∈ lw_tbl) w h) ((by decide +kernel : ∀ w ∈ u_ws RX4 TX4 13, goodWord w = true) w h)
theorem deT4 : ∀ k, k < 13 → (TX4 k).1 = RX4 := by decide +kernel
theorem inT5 : ∀ w ∈ u_ws RX5 TX5 11, w ∈ T0 := fun w h => T0_of ((by decide +kernel : ∀ w ∈ u_ws RX5 TX5 11, w ∈ lw_tbl) w h) ((by decide +kernel : ∀ w ∈ u_ws RX5 TX5 11, goodWord w = true) w h)
theorem deT5 : ∀ k, k < 11 → (TX5 k).1 = RX5 := by decide +kernel
theorem inT6 : ∀ w ∈ u_ws RX6 TX6 9, w ∈ T0 := fun w h => T0_of ((by decide +kernel : ∀ w ∈ u_ws RX6 TX6 9, w ∈ lw_tbl) w h) ((by decide +kernel : ∀ w ∈ u_ws RX6 TX6 9, goodWord w = true) w h)
theorem deT6 : ∀ k, k < 9 → (TX6 k).1 = RX6 := by decide +kernel
theorem inT7 : ∀ w ∈ u_ws RX7 TX7 14, w ∈ T0 := fun w h => T0_of ((by decide +kernel : ∀ w ∈ u_ws RX7 TX7 14, w ∈ lw_tbl) w h) ((by decide +kernel : ∀ w ∈ u_ws RX7 TX7 14, goodWord w = true) w h)
theorem deT7 : ∀ k, k < 14 → (TX7 k).1 = RX7 := by decide +kernel
theorem inT8 : ∀ w ∈ u_ws RX8 TX8 9, w ∈ T0 := fun w h => T0_of ((by decide +kernel : ∀ w ∈ u_ws RX8 TX8 9, w ∈ lw_tbl) w h) ((by decide +kernel : ∀ w ∈ u_ws RX8 TX8 9, goodWord w = true) w h)
theorem deT8 : ∀ k, k < 9 → (TX8 k).1 = RX8 := by decide +kernel
theorem inT9 : ∀ w ∈ u_ws RX9 TX9 6, w ∈ T0 := fun w h => T0_of ((by decide +kernel : ∀ w ∈ u_ws RX9 TX9 6, w ∈ lw_tbl) w h) ((by decide +kernel : ∀ w ∈ u_ws RX9 TX9 6, goodWord w = true) w h)
theorem deT9 : ∀ k, k < 6 → (TX9 k).1 = RX9 := by decide +kernel
theorem inT10 : ∀ w ∈ u_ws RX10 TX10 2, w ∈ T0 := fun w h => T0_of ((by decide +kernel : ∀ w ∈ u_ws RX10 TX10 2, w ∈ lw_tbl) w h) ((by decide +kernel : ∀ w ∈ u_ws RX10 TX10 2, goodWord w = true) w h)
theorem deT10 : ∀ k, k < 2 → (TX10 k).1 = RX10 := by decide +kernel
theorem inT11 : ∀ w ∈ u_ws RX11 TX11 12, w ∈ T0 := fun w h => T0_of ((by decide +kernel : ∀ w ∈ u_ws RX11 TX11 12, w ∈ lw_tbl) w h) ((by decide +kernel : ∀ w ∈ u_ws RX11 TX11 12, goodWord w = true) w h)
theorem deT11 : ∀ k, k < 12 → (TX11 k).1 = RX11 := by decide +kernel
theorem inT12 : ∀ w ∈ u_ws RX12 TX12 48, w ∈ T0 := fun w h => T0_of ((by decide +kernel : ∀ w ∈ u_ws RX12 TX12 48, w ∈ lw_tbl) w h) ((by decide +kernel : ∀ w ∈ u_ws RX12 TX12 48, goodWord w = true) w h)
theorem deT12 : ∀ k, k < 48 → (TX12 k).1 = RX12 := by decide +kernel
/-- a kind of object: its words, the types of its fields, their names apart -/
def ClOk (ci : Nat) (q : vw_C) : Prop := (∀ w ∈ u_ws q.1 q.2.1 q.2.2, w ∈ T0) ∧ (∀ k, k < q.2.2 → parseFieldDescriptor (q.2.1 k).2.2.1 = some (ft ci k)) ∧ (∀ a, a < q.2.2 → ∀ b, b < q.2.2 → a ≠ b → (q.2.1 a).2.1 ≠ (q.2.1 b).2.1) ∧ ∀ k, k < q.2.2 → (q.2.1 k).1 = q.1
theorem cl_ok : ∀ (ci : Nat) (q : vw_C), vwCl[ci]? = some q → ClOk ci q
  | 0, _, rfl => ⟨inT0, tyX0_ok, nmX0, deT0⟩
  | 1, _, rfl => ⟨inT1, tyX1_ok, nmX1, deT1⟩
  | 2, _, rfl => ⟨inT2, tyX2_ok, nmX2, deT2⟩
  | 3, _, rfl => ⟨inT3, tyX3_ok, nmX3, deT3⟩
  | 4, _, rfl => ⟨inT4, tyX4_ok, nmX4, deT4⟩
  | 5, _, rfl => ⟨inT5, tyX5_ok, nmX5, deT5⟩
  | 6, _, rfl => ⟨inT6, tyX6_ok, nmX6, deT6⟩
  | 7, _, rfl => ⟨inT7, tyX7_ok, nmX7, deT7⟩
  | 8, _, rfl => ⟨inT8, tyX8_ok, nmX8, deT8⟩
  | 9, _, rfl => ⟨inT9, tyX9_ok, nmX9, deT9⟩
  | 10, _, rfl => ⟨inT10, tyX10_ok, nmX10, deT10⟩
  | 11, _, rfl => ⟨inT11, tyX11_ok, nmX11, deT11⟩
  | 12, _, rfl => ⟨inT12, tyX12_ok, nmX12, deT12⟩
  | _ + 13, _, h => by simp [vwCl] at h
