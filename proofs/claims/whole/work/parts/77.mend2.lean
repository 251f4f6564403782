/-! the class: pairs in a number -/
theorem bOr_nat {a b : Nat} (ha : a < 2147483648) (hb : b < 2147483648) : bOr (a : Int) (b : Int) = ((a ||| b : Nat) : Int) := by
  have hab : a ||| b < 2 ^ 31 := Nat.or_lt_two_pow (by omega) (by omega)
  rw [show (2 : Nat) ^ 31 = 2147483648 by decide] at hab
  refine tB_ext (bOr_rg _ _) ⟨by omega, by omega⟩ (fun i hi => ?_)
  rw [tB_or, tB_nat (by omega) (by omega), tB_nat (by omega) (by omega), tB_nat (by omega) (by omega), Int.toNat_natCast, Int.toNat_natCast, Int.toNat_natCast, Nat.testBit_or]
theorem sh_bv {a : Nat} (ha : a < 2147483648) (k : Nat) : ((BitVec.ofInt 32 (a : Int)).sshiftRight k).toInt = ((a / 2 ^ k : Nat) : Int) := by
  rw [BitVec.toInt_sshiftRight, BitVec.ofInt_natCast, BitVec.toInt_eq_toNat_of_lt, BitVec.toNat_ofNat, Nat.mod_eq_of_lt (by omega), Int.shiftRight_eq_div_pow]
  · simp
  · rw [BitVec.toNat_ofNat, Nat.mod_eq_of_lt (by omega)]; omega
theorem shl_bv {a : Nat} (k : Nat) (ha : a * 2 ^ k < 2147483648) : ((BitVec.ofInt 32 (a : Int)) <<< k).toInt = ((a * 2 ^ k : Nat) : Int) := by
  rw [BitVec.ofInt_natCast, BitVec.toInt_eq_toNat_of_lt]
  · rw [BitVec.toNat_shiftLeft, BitVec.toNat_ofNat, Nat.shiftLeft_eq, Nat.mod_mul_mod, Nat.mod_eq_of_lt (by omega)]
  · rw [BitVec.toNat_shiftLeft, BitVec.toNat_ofNat, Nat.shiftLeft_eq, Nat.mod_mul_mod, Nat.mod_eq_of_lt (by omega)]; omega
theorem sr0 {a : Nat} (ha : a < 2147483648) : bShr (a : Int) 0 = (a : Int) := by
  have := sh_bv ha 0
  rw [Nat.pow_zero, Nat.div_one] at this
  exact this
theorem sr4 {a : Nat} (ha : a < 2147483648) : bShr (a : Int) 4 = ((a / 16 : Nat) : Int) := sh_bv ha 4
theorem sr9 {a : Nat} (ha : a < 2147483648) : bShr (a : Int) 9 = ((a / 512 : Nat) : Int) := sh_bv ha 9
theorem sr18 {a : Nat} (ha : a < 2147483648) : bShr (a : Int) 18 = ((a / 262144 : Nat) : Int) := sh_bv ha 18
theorem sl9 {a : Nat} (ha : a < 4194304) : bShl (a : Int) 9 = ((a * 512 : Nat) : Int) := shl_bv 9 (by omega)
theorem sl4 {a : Nat} (ha : a < 134217728) : bShl (a : Int) 4 = ((a * 16 : Nat) : Int) := shl_bv 4 (by omega)
theorem or9 {a b : Int} (h0 : 0 ≤ a) (ha : a < 4194304) (hb : 0 ≤ b) (hb1 : b < 512) : bOr (bShl a 9) b = a * 512 + b := by
  obtain ⟨a, rfl⟩ := Int.eq_ofNat_of_zero_le h0
  obtain ⟨b, rfl⟩ := Int.eq_ofNat_of_zero_le hb
  rw [sl9 (by omega), bOr_nat (by omega) (by omega)]
  have := Nat.shiftLeft_add_eq_or_of_lt (a := a) (i := 9) (b := b) (by omega)
  rw [Nat.shiftLeft_eq, show (2 : Nat) ^ 9 = 512 by decide] at this
  rw [← this]
  omega
theorem or4 {a b : Int} (h0 : 0 ≤ a) (ha : a < 134217728) (hb : 0 ≤ b) (hb1 : b < 16) : bOr (bShl a 4) b = 16 * a + b := by
  obtain ⟨a, rfl⟩ := Int.eq_ofNat_of_zero_le h0
  obtain ⟨b, rfl⟩ := Int.eq_ofNat_of_zero_le hb
  rw [sl4 (by omega), bOr_nat (by omega) (by omega)]
  have := Nat.shiftLeft_add_eq_or_of_lt (a := a) (i := 4) (b := b) (by omega)
  rw [Nat.shiftLeft_eq, show (2 : Nat) ^ 4 = 16 by decide] at this
  rw [← this]
  omega
theorem and511 {a : Int} (h0 : 0 ≤ a) (ha : a < 2147483648) : bAnd a 511 = a % 512 := by
  obtain ⟨a, rfl⟩ := Int.eq_ofNat_of_zero_le h0
  rw [show (511 : Int) = ((511 : Nat) : Int) from rfl, bAnd_nat (by omega) (by decide)]
  have := Nat.and_two_pow_sub_one_eq_mod a 9
  rw [show (2 : Nat) ^ 9 - 1 = 511 by decide, show (2 : Nat) ^ 9 = 512 by decide] at this
  rw [this]
  omega
theorem iand15 {a : Int} (h0 : 0 ≤ a) (ha : a < 2147483648) : bAnd a 15 = a % 16 := by
  obtain ⟨a, rfl⟩ := Int.eq_ofNat_of_zero_le h0
  rw [show (15 : Int) = ((15 : Nat) : Int) from rfl, bAnd_nat (by omega) (by decide), and15]
  omega
