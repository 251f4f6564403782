/-! the class: how many bits at most -/
theorem bAnd_nat {a b : Nat} (ha : a < 2147483648) (hb : b < 2147483648) : bAnd (a : Int) (b : Int) = ((a &&& b : Nat) : Int) := by
  have hab : a &&& b ≤ a := Nat.and_le_left
  refine tB_ext (bAnd_rg _ _) ⟨by omega, by omega⟩ (fun i hi => ?_)
  rw [tB_and, tB_nat (by omega) (by omega), tB_nat (by omega) (by omega), tB_nat (by omega) (by omega), Int.toNat_natCast, Int.toNat_natCast, Int.toNat_natCast, Nat.testBit_and]
theorem ush_bv {a : Nat} (ha : a < 2147483648) (k : Nat) : ((BitVec.ofInt 32 (a : Int)) >>> k).toInt = ((a / 2 ^ k : Nat) : Int) := by
  have hd : a / 2 ^ k ≤ a := Nat.div_le_self _ _
  rw [BitVec.ofInt_natCast, BitVec.toInt_eq_toNat_of_lt]
  · rw [BitVec.toNat_ushiftRight, BitVec.toNat_ofNat, Nat.shiftRight_eq_div_pow, Nat.mod_eq_of_lt (by omega)]
  · rw [BitVec.toNat_ushiftRight, BitVec.toNat_ofNat, Nat.shiftRight_eq_div_pow, Nat.mod_eq_of_lt (by omega)]
    omega
theorem us1 {a : Nat} (ha : a < 2147483648) : bUshr (a : Int) 1 = ((a / 2 : Nat) : Int) := ush_bv ha 1
theorem us2 {a : Nat} (ha : a < 2147483648) : bUshr (a : Int) 2 = ((a / 4 : Nat) : Int) := ush_bv ha 2
theorem us4 {a : Nat} (ha : a < 2147483648) : bUshr (a : Int) 4 = ((a / 16 : Nat) : Int) := ush_bv ha 4
theorem us8 {a : Nat} (ha : a < 2147483648) : bUshr (a : Int) 8 = ((a / 256 : Nat) : Int) := ush_bv ha 8
theorem us16 {a : Nat} (ha : a < 2147483648) : bUshr (a : Int) 16 = ((a / 65536 : Nat) : Int) := ush_bv ha 16
def n1 (x M : Nat) : Nat := x - (x / 2 &&& M)
def n2 (x M : Nat) : Nat := (x &&& M) + (x / 4 &&& M)
def n3 (x M : Nat) : Nat := (x + x / 16) &&& M
theorem and_split (x m : Nat) : x &&& m = 256 * (x / 256 &&& m / 256) + (x % 256 &&& m % 256) := by
  have h1 := Nat.and_div_two_pow (a := x) (b := m) (n := 8)
  have h2 := Nat.and_mod_two_pow (a := x) (b := m) (n := 8)
  rw [show (2 : Nat) ^ 8 = 256 by decide] at h1 h2
  rw [← h1, ← h2]
  omega
theorem d1 : ∀ t : Nat, t < 2 → ∀ b : Nat, b < 256 → (128 * t + b / 2) &&& 85 = (b / 2) &&& 85 := by decide +kernel
theorem d1' : ∀ b : Nat, b < 256 → (b / 2) &&& 85 ≤ b ∧ n1 b 85 < 256 := by decide +kernel
theorem d2 : ∀ t : Nat, t < 4 → ∀ b : Nat, b < 256 → (64 * t + b / 4) &&& 51 = (b / 4) &&& 51 := by decide +kernel
theorem d2' : ∀ b : Nat, b < 256 → n2 (n1 b 85) 51 < 256 ∧ n3 (n2 (n1 b 85) 51) 15 ≤ 8 ∧ n2 (n1 b 85) 51 % 16 + n2 (n1 b 85) 51 / 16 ≤ 8 ∧ n2 (n1 b 85) 51 / 16 ≤ 4 := by decide +kernel
theorem and_le (x m : Nat) : x &&& m ≤ x := Nat.and_le_left
theorem n1_split {a b M : Nat} (hb : b < 256) (hM : M % 256 = 85) : n1 (256 * a + b) M = 256 * n1 a (M / 256) + n1 b 85 := by
  unfold n1
  rw [and_split, hM, show (256 * a + b) / 2 / 256 = a / 2 by omega, show (256 * a + b) / 2 % 256 = 128 * (a % 2) + b / 2 by omega, d1 (a % 2) (by omega) b hb]
  have h1 := (d1' b hb).1
  have h2 := and_le (a / 2) (M / 256)
  omega
theorem n2_split {a b M : Nat} (hb : b < 256) (hM : M % 256 = 51) : n2 (256 * a + b) M = 256 * n2 a (M / 256) + n2 b 51 := by
  unfold n2
  rw [and_split (256 * a + b), and_split ((256 * a + b) / 4), hM, show (256 * a + b) / 4 / 256 = a / 4 by omega, show (256 * a + b) / 4 % 256 = 64 * (a % 4) + b / 4 by omega, d2 (a % 4) (by omega) b hb, show (256 * a + b) / 256 = a by omega, show (256 * a + b) % 256 = b by omega]
  omega
def yB (b : Nat) : Nat := n2 (n1 b 85) 51
theorem yB_d : ∀ b : Nat, b < 256 → yB b % 16 ≤ 4 ∧ yB b / 16 ≤ 4 := by decide +kernel
theorem n12_24 {a b c : Nat} (ha : a < 256) (hb : b < 256) (hc : c < 256) : n2 (n1 (65536 * a + 256 * b + c) 1431655765) 858993459 = 65536 * yB a + 256 * yB b + yB c := by
  have e1 : n1 (65536 * a + 256 * b + c) 1431655765 = 65536 * n1 a 85 + 256 * n1 b 85 + n1 c 85 := by
    rw [show 65536 * a + 256 * b + c = 256 * (256 * a + b) + c by omega, n1_split hc (by decide), n1_split (M := 1431655765 / 256) hb (by decide)]
    have := n1_split (a := 0) (b := a) (M := 1431655765 / 256 / 256) ha (by decide)
    rw [Nat.mul_zero, Nat.zero_add] at this
    rw [this, show n1 0 (1431655765 / 256 / 256 / 256) = 0 by decide]
    omega
  have l := fun b hb => (d1' b hb).2
  rw [e1, show 65536 * n1 a 85 + 256 * n1 b 85 + n1 c 85 = 256 * (256 * n1 a 85 + n1 b 85) + n1 c 85 by omega, n2_split (l c hc) (by decide), n2_split (M := 858993459 / 256) (l b hb) (by decide)]
  have := n2_split (a := 0) (b := n1 a 85) (M := 858993459 / 256 / 256) (l a ha) (by decide)
  rw [Nat.mul_zero, Nat.zero_add] at this
  rw [this, show n2 0 (858993459 / 256 / 256 / 256) = 0 by decide]
  unfold yB
  omega
theorem and15 (x : Nat) : x &&& 15 = x % 16 := Nat.and_two_pow_sub_one_eq_mod x 4
theorem and63 (x : Nat) : x &&& 63 = x % 64 := Nat.and_two_pow_sub_one_eq_mod x 6
theorem n3_24 {p q r : Nat} (hp : p % 16 ≤ 4 ∧ p / 16 ≤ 4) (hq : q % 16 ≤ 4 ∧ q / 16 ≤ 4) (hr : r % 16 ≤ 4 ∧ r / 16 ≤ 4) : n3 (65536 * p + 256 * q + r) 252645135 = 65536 * (p % 16 + p / 16) + 256 * (q % 16 + q / 16) + (r % 16 + r / 16) := by
  unfold n3
  have e : 65536 * p + 256 * q + r + (65536 * p + 256 * q + r) / 16 = 65536 * (p + p / 16) + 256 * (q + q / 16 + 16 * (p % 16)) + (r + r / 16 + 16 * (q % 16)) := by omega
  rw [e]
  generalize hx : r + r / 16 + 16 * (q % 16) = x
  generalize hy : q + q / 16 + 16 * (p % 16) = y
  generalize hz : p + p / 16 = z
  have bx : x < 256 := by omega
  have by' : y < 256 := by omega
  have bz : z < 256 := by omega
  rw [and_split, show (252645135 : Nat) % 256 = 15 by decide, and15, show (65536 * z + 256 * y + x) / 256 = 256 * z + y by omega, show (65536 * z + 256 * y + x) % 256 = x by omega, and_split (256 * z + y), show (252645135 : Nat) / 256 % 256 = 15 by decide, and15, show (256 * z + y) / 256 = z by omega, show (256 * z + y) % 256 = y by omega, and_split z, show (252645135 : Nat) / 256 / 256 % 256 = 15 by decide, show z / 256 = 0 by omega, show z % 256 = z by omega, show 0 &&& (252645135 : Nat) / 256 / 256 / 256 = 0 by decide, and15]
  have gx : x % 16 = r % 16 + r / 16 := by clear e hy hz bx by' bz; omega
  have gy : y % 16 = q % 16 + q / 16 := by clear e hx hz bx by' bz; omega
  have gz : z % 16 = p % 16 + p / 16 := by clear e hx hy bx by' bz; omega
  rw [gx, gy, gz]
  clear e hx hy hz gx gy gz bx by' bz
  omega
theorem w32_nat {x : Nat} (h : x < 2147483648) : w32 (x : Int) = x := by
  unfold w32
  rw [Int.bmod_def]
  omega
theorem bc1_nat {x : Nat} (hx : x < 2147483648) : bc1 (x : Int) = ((n1 x 1431655765 : Nat) : Int) := by
  unfold bc1 n1
  rw [us1 hx, show (1431655765 : Int) = ((1431655765 : Nat) : Int) from rfl, bAnd_nat (by omega) (by decide)]
  have := and_le (x / 2) 1431655765
  generalize (x / 2 &&& 1431655765) = y at *
  rw [show ((x : Nat) : Int) - (y : Int) = ((x - y : Nat) : Int) by omega, w32_nat (by omega)]
theorem bc2_nat {x : Nat} (hx : x < 1073741824) : bc2 (x : Int) = ((n2 x 858993459 : Nat) : Int) := by
  unfold bc2 n2
  rw [us2 (by omega), show (858993459 : Int) = ((858993459 : Nat) : Int) from rfl, bAnd_nat (by omega) (by decide), bAnd_nat (by omega) (by decide)]
  have := and_le (x / 4) 858993459
  have := and_le x 858993459
  generalize (x / 4 &&& 858993459) = y at *
  generalize (x &&& 858993459) = z at *
  rw [show ((z : Nat) : Int) + (y : Int) = ((z + y : Nat) : Int) by omega, w32_nat (by omega)]
theorem bc3_nat {x : Nat} (hx : x < 1073741824) : bc3 (x : Int) = ((n3 x 252645135 : Nat) : Int) := by
  unfold bc3 n3
  rw [us4 (by omega), show ((x : Nat) : Int) + ((x / 16 : Nat) : Int) = ((x + x / 16 : Nat) : Int) by omega, w32_nat (by omega), show (252645135 : Int) = ((252645135 : Nat) : Int) from rfl, bAnd_nat (by omega) (by decide)]
theorem bc4_nat {x : Nat} (hx : x < 1073741824) : bc4 (x : Int) = ((x + x / 256 : Nat) : Int) := by
  unfold bc4
  rw [us8 (by omega), show ((x : Nat) : Int) + ((x / 256 : Nat) : Int) = ((x + x / 256 : Nat) : Int) by omega, w32_nat (by omega)]
theorem bc5_nat {x : Nat} (hx : x < 1073741824) : bc5 (x : Int) = ((x + x / 65536 : Nat) : Int) := by
  unfold bc5
  rw [us16 (by omega), show ((x : Nat) : Int) + ((x / 65536 : Nat) : Int) = ((x + x / 65536 : Nat) : Int) by omega, w32_nat (by omega)]
theorem last_24 {p q r : Nat} (hp : p ≤ 8) (hq : q ≤ 8) (hr : r ≤ 8) : bAnd (bc5 (bc4 ((65536 * p + 256 * q + r : Nat) : Int))) 63 = ((p + q + r : Nat) : Int) := by
  have e1 : 65536 * p + 256 * q + r + (65536 * p + 256 * q + r) / 256 = 65536 * p + 256 * (q + p) + (r + q) := by omega
  have e2 : (65536 * p + 256 * (q + p) + (r + q)) / 65536 = p := by omega
  rw [bc4_nat (by omega), e1, bc5_nat (by omega), e2, show (63 : Int) = ((63 : Nat) : Int) from rfl, bAnd_nat (by omega) (by decide), and63]
  have e3 : (65536 * p + 256 * (q + p) + (r + q) + p) % 64 = p + q + r := by clear e1 e2; omega
  rw [e3]
theorem bcF_24 {x : Nat} (hx : x < 16777216) : 0 ≤ bcF (x : Int) ∧ bcF (x : Int) ≤ 24 := by
  have ex : x = 65536 * (x / 65536) + 256 * (x / 256 % 256) + x % 256 := by omega
  have la : x / 65536 < 256 := by omega
  have lb : x / 256 % 256 < 256 := by omega
  have lc : x % 256 < 256 := by omega
  generalize x / 65536 = a at *
  generalize x / 256 % 256 = b at *
  generalize x % 256 = c at *
  have ya := yB_d a la
  have yb := yB_d b lb
  have yc := yB_d c lc
  have l1 : n1 x 1431655765 ≤ x := Nat.sub_le _ _
  have e2 : n2 (n1 x 1431655765) 858993459 = 65536 * yB a + 256 * yB b + yB c := by rw [ex]; exact n12_24 la lb lc
  have s2 : bc2 (bc1 (x : Int)) = ((65536 * yB a + 256 * yB b + yB c : Nat) : Int) := by
    rw [bc1_nat (Nat.lt_of_lt_of_le hx (by decide)), bc2_nat (Nat.lt_of_le_of_lt l1 (Nat.lt_of_lt_of_le hx (by decide))), e2]
  clear e2 l1 ex
  generalize yB a = p at *
  generalize yB b = q at *
  generalize yB c = r at *
  have s3 : bcF (x : Int) = ((p % 16 + p / 16 + (q % 16 + q / 16) + (r % 16 + r / 16) : Nat) : Int) := by
    unfold bcF
    rw [s2, bc3_nat (by omega), n3_24 ya yb yc]
    exact last_24 (by omega) (by omega) (by omega)
  rw [s3]
  omega
theorem bcF_24' {x : Int} (hx : rg x) (h : ∀ i : Nat, 24 ≤ i → i < 32 → tB x i = false) : 0 ≤ bcF x ∧ bcF x ≤ 24 := by
  have hl := low_bits hx (N := 24) (by decide) h
  have e : ((2 ^ 24 : Nat) : Int) = 16777216 := by decide
  rw [e] at hl
  have := bcF_24 (x := x.toNat) (by omega)
  rw [Int.toNat_of_nonneg hl.1] at this
  exact this
