/-! more of bits: as numbers; how many -/
section LDW
variable {d : Nat} {M : MT} {Q : V → MI → Nat → MR → Prop} {S : Nat × MR × Nat × Nat} {mi : MI} {pc pc' : Nat} {ls st : List V}
theorem k_cw {own : String} {i : Nat} {v : Int32} {a : Int} (hd : Dc M pc (.ldc_w i) 3 pc') (hc : Cond.constant own i v ∈ T0) (ho : own = (mY M).cls) (ha : v.toInt = a) (k : Run d M Q S mi pc' ls (vI a :: st)) : Run d M Q S mi pc ls st := by
  intro p l e R s m args below meth c D ca sx A n0 ρ0 Qm C0 Re ρ H locs mls mst hW hS hE hn hl hs
  have kk := k p l e R s m args below meth c D ca sx A n0 ρ0 Qm C0 Re ρ H locs mls (.int v :: mst) hW hS hE hn hl ⟨_, _, rfl, ⟨_, rfl, ha⟩, hs⟩
  rw [hd.2] at kk
  exact lv_ldcw (own := own) C0.1 C0.2.1 (by rw [ho]; exact C0.2.2.2.1) (C0.2.2.2.2.1 _ hc) hd.1 kk
end LDW
theorem tB_nat {x : Int} (h0 : 0 ≤ x) (h1 : x < 2147483648) (i : Nat) : tB x i = x.toNat.testBit i := by
  unfold tB
  have e : BitVec.ofInt 32 x = BitVec.ofNat 32 x.toNat := by
    have : x = ((x.toNat : Nat) : Int) := (Int.toNat_of_nonneg h0).symm
    rw [this, BitVec.ofInt_natCast, Int.toNat_natCast]
  rw [e, BitVec.getLsbD_ofNat]
  by_cases hi : i < 32
  · simp [hi]
  · simp [hi]
    rw [Nat.testBit_lt_two_pow]
    have : (2 : Nat) ^ 31 ≤ 2 ^ i := Nat.pow_le_pow_right (by decide) (by omega)
    have e31 : (2 : Nat) ^ 31 = 2147483648 := by decide
    omega
/-- a number whose bits are all low -/
theorem low_bits {x : Int} (hx : rg x) {N : Nat} (hN : N ≤ 31) (h : ∀ i : Nat, N ≤ i → i < 32 → tB x i = false) : 0 ≤ x ∧ x < (2 ^ N : Nat) := by
  have h31 := h 31 hN (by decide)
  rw [tB_neg hx] at h31
  have h0 : 0 ≤ x := by simp at h31; exact h31
  refine ⟨h0, ?_⟩
  have : x.toNat < 2 ^ N := Nat.lt_pow_two_of_testBit _ (fun i hi => by
    by_cases e : i < 32
    · rw [← tB_nat h0 hx.2]; exact h i hi e
    · rw [Nat.testBit_lt_two_pow]
      have : (2 : Nat) ^ 31 ≤ 2 ^ i := Nat.pow_le_pow_right (by decide) (by omega)
      have e31 : (2 : Nat) ^ 31 = 2147483648 := by decide
      have := hx.2
      omega)
  omega
/-- how many bits, as the machine counts them -/
def bc1 (x : Int) : Int := w32 (x - bAnd (bUshr x 1) 1431655765)
def bc2 (x : Int) : Int := w32 (bAnd x 858993459 + bAnd (bUshr x 2) 858993459)
def bc3 (x : Int) : Int := bAnd (w32 (x + bUshr x 4)) 252645135
def bc4 (x : Int) : Int := w32 (x + bUshr x 8)
def bc5 (x : Int) : Int := w32 (x + bUshr x 16)
def bcF (x : Int) : Int := bAnd (bc5 (bc4 (bc3 (bc2 (bc1 x))))) 63
def popN (x : Nat) : Nat → Nat
  | 0 => 0
  | i + 1 => popN x i + x / 2 ^ i % 2
theorem bcF_12' : ∀ a : Nat, a < 64 → ∀ b : Nat, b < 64 → bcF ((64 * a + b : Nat) : Int) = (popN (64 * a + b) 12 : Int) := by decide +kernel
theorem bcF_12 (m : Nat) (h : m < 4096) : bcF (m : Int) = (popN m 12 : Int) := by
  have := bcF_12' (m / 64) (by omega) (m % 64) (by omega)
  rw [show 64 * (m / 64) + m % 64 = m by omega] at this
  exact this
section BC
variable {d n G : Nat} {mi : MI} {mr : MR} {Q : V → MI → Nat → MR → Prop}
theorem u_bitCount {x : Int} (hQ : Q (vI (bcF x)) mi n mr) : Tx (d+1) mt_J6_bitCount_0f7a4 [vI x] mi n mr Q := by
  refine tx_intro (ls := [vI x]) om_J6_bitCount_0f7a4 rfl (Nat.le_of_ble_eq_true rfl) ?_
  refine s_iload_n (dc kc_J6_bitCount_0f7a4_0 0 rfl) rfl <| s_iload_n (dc kc_J6_bitCount_0f7a4_0 1 rfl) rfl <| k_i (dc kc_J6_bitCount_0f7a4_0 2 rfl) rfl <| s_iushr (dc kc_J6_bitCount_0f7a4_0 3 rfl) <| k_cw (dc kc_J6_bitCount_0f7a4_0 4 rfl) ki_J6_265 rfl (a := 1431655765) (by decide) <| s_iand (dc kc_J6_bitCount_0f7a4_0 5 rfl) <| s_isub (dc kc_J6_bitCount_0f7a4_0 6 rfl) <| t_i0 (dc kc_J6_bitCount_0f7a4_0 7 rfl) (Nat.le_of_ble_eq_true rfl) <| s_iload_n (dc kc_J6_bitCount_0f7a4_0 8 rfl) rfl <| k_cw (dc kc_J6_bitCount_0f7a4_0 9 rfl) ki_J6_266 rfl (a := 858993459) (by decide) <| s_iand (dc kc_J6_bitCount_0f7a4_0 10 rfl) <| s_iload_n (dc kc_J6_bitCount_0f7a4_0 11 rfl) rfl <| k_i (dc kc_J6_bitCount_0f7a4_0 12 rfl) rfl <| s_iushr (dc kc_J6_bitCount_0f7a4_0 13 rfl) <| k_cw (dc kc_J6_bitCount_0f7a4_0 14 rfl) ki_J6_266 rfl (a := 858993459) (by decide) <| s_iand (dc kc_J6_bitCount_0f7a4_0 15 rfl) <| s_iadd (dc kc_J6_bitCount_0f7a4_0 16 rfl) <| t_i0 (dc kc_J6_bitCount_0f7a4_0 17 rfl) (Nat.le_of_ble_eq_true rfl) <| s_iload_n (dc kc_J6_bitCount_0f7a4_0 18 rfl) rfl <| s_iload_n (dc kc_J6_bitCount_0f7a4_0 19 rfl) rfl <| k_i (dc kc_J6_bitCount_0f7a4_0 20 rfl) rfl <| s_iushr (dc kc_J6_bitCount_0f7a4_0 21 rfl) <| s_iadd (dc kc_J6_bitCount_0f7a4_0 22 rfl) <| k_cw (dc kc_J6_bitCount_0f7a4_0 23 rfl) ki_J6_267 rfl (a := 252645135) (by decide) <| s_iand (dc kc_J6_bitCount_0f7a4_0 24 rfl) <| t_i0 (dc kc_J6_bitCount_0f7a4_0 25 rfl) (Nat.le_of_ble_eq_true rfl) <| s_iload_n (dc kc_J6_bitCount_0f7a4_0 26 rfl) rfl <| s_iload_n (dc kc_J6_bitCount_0f7a4_0 27 rfl) rfl <| k_b (dc kc_J6_bitCount_0f7a4_0 28 rfl) rfl <| s_iushr (dc kc_J6_bitCount_0f7a4_0 29 rfl) <| s_iadd (dc kc_J6_bitCount_0f7a4_0 30 rfl) <| t_i0 (dc kc_J6_bitCount_0f7a4_0 31 rfl) (Nat.le_of_ble_eq_true rfl) <| s_iload_n (dc kc_J6_bitCount_0f7a4_0 32 rfl) rfl <| s_iload_n (dc kc_J6_bitCount_0f7a4_0 33 rfl) rfl <| k_b (dc kc_J6_bitCount_0f7a4_0 34 rfl) rfl <| s_iushr (dc kc_J6_bitCount_0f7a4_0 35 rfl) <| s_iadd (dc kc_J6_bitCount_0f7a4_0 36 rfl) <| t_i0 (dc kc_J6_bitCount_0f7a4_0 37 rfl) (Nat.le_of_ble_eq_true rfl) <| s_iload_n (dc kc_J6_bitCount_0f7a4_0 38 rfl) rfl <| k_b (dc kc_J6_bitCount_0f7a4_0 39 rfl) rfl <| s_iand (dc kc_J6_bitCount_0f7a4_1 0 rfl) <| s_ireturn (dc kc_J6_bitCount_0f7a4_1 1 rfl) rfl (Nat.zero_le _) (Nat.zero_le _) ?_
  exact hQ
end BC
/-- the count of a mask by its bits -/
theorem bc_cnt {x : Int} {A : Int → Int} {N : Nat} (hx : rg x) (hN : N ≤ 12) (h : ∀ l : Int, 0 ≤ l → l < 32 → (bAnd (bShr x l) 1 = 1 ↔ l < N ∧ A l = 1)) (hA : ∀ l, A l = 0 ∨ A l = 1) : bcF x = cnt A N := by
  have htb : ∀ i : Nat, i < 32 → (tB x i = true ↔ i < N ∧ A i = 1) := fun i hi => by
    have := h i (by omega) (by omega)
    rw [bit1 (by omega) (by omega), Int.toNat_natCast] at this
    rw [this]
    constructor
    · rintro ⟨a, b⟩; exact ⟨by omega, b⟩
    · rintro ⟨a, b⟩; exact ⟨by omega, b⟩
  have hl := low_bits hx (N := 12) (by decide) (fun i h1 h2 => by
    cases e : tB x i with
    | false => rfl
    | true => have := (htb i h2).mp e; omega)
  have h4096 : ((2 ^ 12 : Nat) : Int) = 4096 := by decide
  rw [h4096] at hl
  have hb := bcF_12 x.toNat (by omega)
  rw [Int.toNat_of_nonneg hl.1] at hb
  rw [hb]
  have bitv : ∀ i : Nat, i < 32 → (x.toNat / 2 ^ i % 2 : Nat) = if (i < N ∧ A i = 1) then 1 else 0 := fun i hi => by
    have e1 := htb i hi
    rw [tB_nat hl.1 (by omega), Nat.testBit_eq_decide_div_mod_eq, decide_eq_true_eq] at e1
    split
    · rename_i z; exact e1.mpr z
    · rename_i z
      have : ¬ (x.toNat / 2 ^ i % 2 = 1) := fun w => z (e1.mp w)
      omega
  have p1 : ∀ k : Nat, k ≤ N → (popN x.toNat k : Int) = cnt A k := by
    intro k
    induction k with
    | zero => intro _; rfl
    | succ k ih =>
      intro hk
      rw [popN, cnt, bitv k (by omega)]
      have := ih (by omega)
      have hk2 := hA k
      split
      · rename_i z; omega
      · rename_i z
        have : A k = 0 := by
          rcases hk2 with w | w
          · exact w
          · exact absurd ⟨by omega, w⟩ z
        omega
  have p2 : ∀ r : Nat, N + r ≤ 12 → popN x.toNat (N + r) = popN x.toNat N := by
    intro r
    induction r with
    | zero => intro _; rfl
    | succ r ih =>
      intro hr
      rw [← Nat.add_assoc, popN, bitv (N + r) (by omega), if_neg (by omega), ih (by omega)]
      omega
  have := p2 (12 - N) (by omega)
  rw [show N + (12 - N) = 12 by omega] at this
  rw [this]
  exact p1 N (Nat.le_refl _)
