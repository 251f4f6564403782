/-! what a call may change of memory; bits -/
/-- memory is the same but where P allows (of instance 0) -/
def Ch (P : Nat → Int → Bool) (mi mi' : MI) : Prop := ∀ g j k, (g = 0 ∧ P j k = true) ∨ mi' g j k = mi g j k
section CHG
variable {P P' : Nat → Int → Bool} {mi mi' mi2 : MI}
theorem Ch.rf : Ch P mi mi := fun _ _ _ => Or.inr rfl
theorem Ch.tr (h : Ch P mi mi') (h2 : Ch P mi' mi2) : Ch P mi mi2 := fun g j k => by
  rcases h2 g j k with q | q
  · exact Or.inl q
  · rcases h g j k with z | z
    · exact Or.inl z
    · exact Or.inr (q.trans z)
theorem Ch.mono (h : Ch P mi mi') (hp : ∀ j k, P j k = true → P' j k = true) : Ch P' mi mi' := fun g j k => (h g j k).elim (fun z => Or.inl ⟨z.1, hp j k z.2⟩) Or.inr
theorem Ch.up {j : Nat} {k v : Int} (h : Ch P mi mi') (hp : P j k = true) : Ch P mi (up mi' 0 j k v) := fun g j' k' => by
  by_cases e : (g, j', k') = ((0, j, k) : Nat × Nat × Int)
  · injection e with e1 e2
    injection e2 with e2 e3
    subst e1; subst e2; subst e3
    exact Or.inl ⟨rfl, hp⟩
  · rcases h g j' k' with z | z
    · exact Or.inl z
    · exact Or.inr ((up_off g j' k' e).trans z)
theorem Ch.upA {j : Nat} {f : Int → Int} (h : Ch P mi mi') (hp : ∀ k, P j k = true) : Ch P mi (upA mi' 0 j f) := fun g j' k' => by
  by_cases e : (g, j') = ((0, j) : Nat × Nat)
  · injection e with e1 e2
    subst e1; subst e2
    exact Or.inl ⟨rfl, hp k'⟩
  · rcases h g j' k' with z | z
    · exact Or.inl z
    · exact Or.inr ((congrFun (upA_a e) k').trans z)
theorem Ch.at (h : Ch P mi mi') {j : Nat} {k : Int} (hp : P j k = false) : mi' 0 j k = mi 0 j k := (h 0 j k).elim (fun z => by rw [hp] at z; exact absurd z.2 (by decide)) id
theorem Ch.row (h : Ch P mi mi') {j : Nat} (hp : ∀ k, P j k = false) : mi' 0 j = mi 0 j := funext fun k => h.at (hp k)
theorem Ch.inst (h : Ch P mi mi') {g j : Nat} (hg : g ≠ 0) : mi' g j = mi g j := funext fun k => (h g j k).elim (fun z => absurd z.1 hg) id
end CHG
/-- a row with one place changed -/
def ud (f : Int → Int) (k v : Int) : Int → Int := fun i => if i = k then v else f i
theorem ud_at {f : Int → Int} {k v : Int} : ud f k v k = v := if_pos rfl
theorem ud_ne {f : Int → Int} {k v i : Int} (h : i ≠ k) : ud f k v i = f i := if_neg h
theorem up_ud {mi : MI} {g j : Nat} {k v : Int} : up mi g j k v g j = ud (mi g j) k v := by
  funext i
  unfold up ud
  by_cases h : i = k
  · rw [if_pos ⟨rfl, rfl, h⟩, if_pos h]
  · rw [if_neg (fun z => h z.2.2), if_neg h]
theorem up_row {mi : MI} {g j g' j' : Nat} {k v : Int} (h : (g', j') ≠ (g, j)) : up mi g j k v g' j' = mi g' j' := funext fun _ => up_a h
theorem up_j {mi : MI} {g j g' j' : Nat} {k v : Int} (h : j' ≠ j) : up mi g j k v g' j' = mi g' j' := up_row (fun z => h (by injection z))
/-! bits -/
def rg (x : Int) : Prop := -2147483648 ≤ x ∧ x < 2147483648
def tB (x : Int) (i : Nat) : Bool := (BitVec.ofInt 32 x).getLsbD i
theorem bv_of (x : Int) : (Int32.ofInt x).toBitVec = BitVec.ofInt 32 x := rfl
theorem bv_back (x : Int32) : BitVec.ofInt 32 x.toInt = x.toBitVec := by
  show BitVec.ofInt 32 x.toBitVec.toInt = _
  exact BitVec.ofInt_toInt
theorem bAnd_rg (a b : Int) : rg (bAnd a b) := ⟨i32_lo _, i32_hi _⟩
theorem bOr_rg (a b : Int) : rg (bOr a b) := ⟨i32_lo _, i32_hi _⟩
theorem bXor_rg (a b : Int) : rg (bXor a b) := ⟨i32_lo _, i32_hi _⟩
theorem bShl_rg (a b : Int) : rg (bShl a b) := ⟨i32_lo _, i32_hi _⟩
theorem bShr_rg (a b : Int) : rg (bShr a b) := ⟨i32_lo _, i32_hi _⟩
theorem tB_and (a b : Int) (i : Nat) : tB (bAnd a b) i = (tB a i && tB b i) := by
  unfold tB bAnd
  rw [bv_back]
  show ((Int32.ofInt a).toBitVec &&& (Int32.ofInt b).toBitVec).getLsbD i = _
  rw [BitVec.getLsbD_and]
  rfl
theorem tB_or (a b : Int) (i : Nat) : tB (bOr a b) i = (tB a i || tB b i) := by
  unfold tB bOr
  rw [bv_back]
  show ((Int32.ofInt a).toBitVec ||| (Int32.ofInt b).toBitVec).getLsbD i = _
  rw [BitVec.getLsbD_or]
  rfl
theorem tB_xor (a b : Int) (i : Nat) : tB (bXor a b) i = (tB a i ^^ tB b i) := by
  unfold tB bXor
  rw [bv_back]
  show ((Int32.ofInt a).toBitVec ^^^ (Int32.ofInt b).toBitVec).getLsbD i = _
  rw [BitVec.getLsbD_xor]
  rfl
theorem tB_m1 {i : Nat} (h : i < 32) : tB (-1) i = true := by
  unfold tB
  rw [show BitVec.ofInt 32 (-1) = BitVec.allOnes 32 from rfl, BitVec.getLsbD_allOnes]
  simpa using h
theorem tB_0 (i : Nat) : tB 0 i = false := by
  unfold tB
  rw [show BitVec.ofInt 32 0 = 0#32 from rfl]
  simp
theorem tB_ext {x y : Int} (hx : rg x) (hy : rg y) (h : ∀ i, i < 32 → tB x i = tB y i) : x = y := by
  have e : BitVec.ofInt 32 x = BitVec.ofInt 32 y := BitVec.eq_of_getLsbD_eq fun i hi => h i hi
  have e2 := congrArg BitVec.toInt e
  rw [BitVec.toInt_ofInt, BitVec.toInt_ofInt] at e2
  have hx1 : x.bmod (2 ^ 32) = x := w32_id hx.1 hx.2
  have hy1 : y.bmod (2 ^ 32) = y := w32_id hy.1 hy.2
  rw [hx1, hy1] at e2
  exact e2
/-- the amount of a shift -/
theorem sh_amt {k : Int} (h0 : 0 ≤ k) (h1 : k < 32) : ((Int32.ofInt k &&& 31).toBitVec.smod 32).toNat = k.toNat := by
  have key : ∀ m : Nat, m < 32 → ((Int32.ofInt (m : Int) &&& 31).toBitVec.smod 32).toNat = m := by decide +kernel
  have := key k.toNat (by omega)
  rw [Int.toNat_of_nonneg h0] at this
  exact this
theorem tB_shl {a k : Int} (h0 : 0 ≤ k) (h1 : k < 32) (i : Nat) : tB (bShl a k) i = (decide (i < 32) && (!decide (i < k.toNat) && tB a (i - k.toNat))) := by
  unfold tB bShl
  rw [bv_back, Int32.toBitVec_shiftLeft, BitVec.shiftLeft_eq', sh_amt h0 h1, BitVec.getLsbD_shiftLeft]
  cases decide (i < 32) <;> cases decide (i < k.toNat) <;> simp [bv_of]
theorem tB_1 (i : Nat) : tB 1 i = decide (i = 0) := by
  unfold tB
  rw [show BitVec.ofInt 32 1 = 1#32 from rfl, BitVec.getLsbD_one]
  simp
theorem tB_bit {k : Int} (h0 : 0 ≤ k) (h1 : k < 32) {i : Nat} (hi : i < 32) : tB (bShl 1 k) i = decide (i = k.toNat) := by
  rw [tB_shl h0 h1, tB_1]
  by_cases e : i = k.toNat
  · subst e; simp; omega
  · by_cases e2 : i < k.toNat
    · simp [e2, e]
    · simp [e2, e, hi]; omega
theorem tB_shr {a k : Int} (h0 : 0 ≤ k) (h1 : k < 32) {i : Nat} (hi : i + k.toNat < 32) : tB (bShr a k) i = tB a (i + k.toNat) := by
  unfold tB bShr
  rw [bv_back, Int32.toBitVec_shiftRight, BitVec.sshiftRight_eq', sh_amt h0 h1, BitVec.getLsbD_sshiftRight]
  have h32 : ¬ (32 ≤ i) := by omega
  have h33 : k.toNat + i < 32 := by omega
  simp [h32, h33, bv_of, Nat.add_comm]
  intro z
  omega
/-- a bit as 1 or 0 -/
theorem bit_is {x k : Int} (h0 : 0 ≤ k) (h1 : k < 32) : bAnd (bShr x k) 1 = if tB x k.toNat then 1 else 0 := by
  refine tB_ext (bAnd_rg _ _) (by split <;> exact ⟨by omega, by omega⟩) (fun i hi => ?_)
  rw [tB_and, tB_1]
  by_cases e : i = 0
  · subst e
    rw [tB_shr h0 h1 (by omega), Nat.zero_add]
    cases tB x k.toNat <;> simp [tB_0, tB_1]
  · simp only [e, decide_false, Bool.and_false]
    split
    · rw [tB_1]; simp [e]
    · rw [tB_0]
theorem bit0 {x k : Int} (h0 : 0 ≤ k) (h1 : k < 32) : bAnd (bShr x k) 1 = 0 ↔ tB x k.toNat = false := by
  rw [bit_is h0 h1]
  cases tB x k.toNat <;> simp
theorem bit1 {x k : Int} (h0 : 0 ≤ k) (h1 : k < 32) : bAnd (bShr x k) 1 = 1 ↔ tB x k.toNat = true := by
  rw [bit_is h0 h1]
  cases tB x k.toNat <;> simp
/-- set a bit, clear a bit -/
def bSet (x k : Int) : Int := bOr x (bShl 1 k)
def bClr (x k : Int) : Int := bAnd x (bXor (bShl 1 k) (-1))
theorem tB_set {x k : Int} (h0 : 0 ≤ k) (h1 : k < 32) {i : Nat} (hi : i < 32) : tB (bSet x k) i = (tB x i || decide (i = k.toNat)) := by rw [bSet, tB_or, tB_bit h0 h1 hi]
theorem tB_clr {x k : Int} (h0 : 0 ≤ k) (h1 : k < 32) {i : Nat} (hi : i < 32) : tB (bClr x k) i = (tB x i && !decide (i = k.toNat)) := by
  rw [bClr, tB_and, tB_xor, tB_bit h0 h1 hi, tB_m1 hi]
  cases tB x i <;> cases decide (i = k.toNat) <;> rfl
theorem bSet_rg (x k : Int) : rg (bSet x k) := bOr_rg _ _
theorem bClr_rg (x k : Int) : rg (bClr x k) := bAnd_rg _ _
/-- a mask of non-negative bits -/
theorem tB_neg {x : Int} (hx : rg x) : tB x 31 = decide (x < 0) := by
  unfold tB
  have e : (BitVec.ofInt 32 x).toInt = x := by rw [BitVec.toInt_ofInt]; exact w32_id hx.1 hx.2
  rw [show (BitVec.ofInt 32 x).getLsbD 31 = (BitVec.ofInt 32 x).msb from (BitVec.msb_eq_getLsbD_last _).symm, BitVec.msb_eq_toInt, e]
