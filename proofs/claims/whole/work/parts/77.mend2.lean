/-! the class: pairs in a number -/
theorem bOr_nat {a b : Nat} (ha : a < 2147483648) (hb : b < 2147483648) : bOr (a : Int) (b : Int) = ((a ||| b : Nat) : Int) := by
  have hab : a ||| b < 2 ^ 31 := Nat.or_lt_two_pow (by omega) (by omega)
  rw [show (2 : Nat) ^ 31 = 2147483648 by decide] at hab
  refine tB_ext (bOr_rg _ _) ⟨by omega, by omega⟩ (fun i hi => ?_)
  rw [tB_or, tB_nat (by omega) (by omega), tB_nat (by omega) (by omega), tB_nat (by omega) (by omega), Int.toNat_natCast, Int.toNat_natCast, Int.toNat_natCast, Nat.testBit_or]
theorem sh_bv {a : Nat} (ha : a < 2147483648) (k : Nat) : ((BitVec.ofInt 32 (a : Int)).sshiftRight k).toInt = ((a / 2 ^ k : Nat) : Int) := by
  rw [BitVec.toInt_sshiftRight, BitVec.ofInt_natCast, BitVec.toInt_eq_toNat_of_lt, BitVec.toNat_ofNat, Nat.mod_eq_of_lt (by omega), Int.shiftRight_eq_div_pow]
  · simp
  · rw [BitVec.toNat_ofNat, Nat.mod_eq_of_lt (by omega)]; omega
theorem shl_bv {a : Nat} (k : Nat) (ha : a * 2 ^ k < 2147483648) : ((BitVec.ofInt 32 (a : Int)) <<< k).toInt = ((a * 2 ^ k : Nat) : Int) := by
  rw [BitVec.ofInt_natCast, BitVec.toInt_eq_toNat_of_lt]
  · rw [BitVec.toNat_shiftLeft, BitVec.toNat_ofNat, Nat.shiftLeft_eq, Nat.mod_mul_mod, Nat.mod_eq_of_lt (by omega)]
  · rw [BitVec.toNat_shiftLeft, BitVec.toNat_ofNat, Nat.shiftLeft_eq, Nat.mod_mul_mod, Nat.mod_eq_of_lt (by omega)]; omega
theorem sr0 {a : Nat} (ha : a < 2147483648) : bShr (a : Int) 0 = (a : Int) := by
  have := sh_bv ha 0
  rw [Nat.pow_zero, Nat.div_one] at this
  exact this
theorem sr4 {a : Nat} (ha : a < 2147483648) : bShr (a : Int) 4 = ((a / 16 : Nat) : Int) := sh_bv ha 4
theorem sr9 {a : Nat} (ha : a < 2147483648) : bShr (a : Int) 9 = ((a / 512 : Nat) : Int) := sh_bv ha 9
theorem sr18 {a : Nat} (ha : a < 2147483648) : bShr (a : Int) 18 = ((a / 262144 : Nat) : Int) := sh_bv ha 18
theorem sl9 {a : Nat} (ha : a < 4194304) : bShl (a : Int) 9 = ((a * 512 : Nat) : Int) := shl_bv 9 (by omega)
theorem sl4 {a : Nat} (ha : a < 134217728) : bShl (a : Int) 4 = ((a * 16 : Nat) : Int) := shl_bv 4 (by omega)
theorem or9 {a b : Int} (h0 : 0 ≤ a) (ha : a < 4194304) (hb : 0 ≤ b) (hb1 : b < 512) : bOr (bShl a 9) b = a * 512 + b := by
  obtain ⟨a, rfl⟩ := Int.eq_ofNat_of_zero_le h0
  obtain ⟨b, rfl⟩ := Int.eq_ofNat_of_zero_le hb
  rw [sl9 (by omega), bOr_nat (by omega) (by omega)]
  have := Nat.shiftLeft_add_eq_or_of_lt (a := a) (i := 9) (b := b) (by omega)
  rw [Nat.shiftLeft_eq, show (2 : Nat) ^ 9 = 512 by decide] at this
  rw [← this]
  omega
theorem or4 {a b : Int} (h0 : 0 ≤ a) (ha : a < 134217728) (hb : 0 ≤ b) (hb1 : b < 16) : bOr (bShl a 4) b = 16 * a + b := by
  obtain ⟨a, rfl⟩ := Int.eq_ofNat_of_zero_le h0
  obtain ⟨b, rfl⟩ := Int.eq_ofNat_of_zero_le hb
  rw [sl4 (by omega), bOr_nat (by omega) (by omega)]
  have := Nat.shiftLeft_add_eq_or_of_lt (a := a) (i := 4) (b := b) (by omega)
  rw [Nat.shiftLeft_eq, show (2 : Nat) ^ 4 = 16 by decide] at this
  rw [← this]
  omega
theorem and511 {a : Int} (h0 : 0 ≤ a) (ha : a < 2147483648) : bAnd a 511 = a % 512 := by
  obtain ⟨a, rfl⟩ := Int.eq_ofNat_of_zero_le h0
  rw [show (511 : Int) = ((511 : Nat) : Int) from rfl, bAnd_nat (by omega) (by decide)]
  have := Nat.and_two_pow_sub_one_eq_mod a 9
  rw [show (2 : Nat) ^ 9 - 1 = 511 by decide, show (2 : Nat) ^ 9 = 512 by decide] at this
  rw [this]
  omega
theorem iand15 {a : Int} (h0 : 0 ≤ a) (ha : a < 2147483648) : bAnd a 15 = a % 16 := by
  obtain ⟨a, rfl⟩ := Int.eq_ofNat_of_zero_le h0
  rw [show (15 : Int) = ((15 : Nat) : Int) from rfl, bAnd_nat (by omega) (by decide), and15]
  omega
/-- the mender's prices -/
def MB (mi : MI) (ρ : Int → Int) : Prop := (∀ c, 0 ≤ c → c < 24 → (0 ≤ mi 0 64 c ∧ mi 0 64 c ≤ 9) ∧ ∀ v, -1 ≤ v → max 1 (mi 0 64 c - (if v = mi 0 65 c then 1 else 0)) = prR ρ c v ∧ mi 0 60 8 ≤ prR ρ c v) ∧ 1 ≤ mi 0 60 8 ∧ mi 0 60 8 ≤ 9
def cod (q : PR) : Int := 16 * q.1 + q.2 + 1
def Cho (mi : MI) (A : List PR) : Prop := ∀ (i : Nat) (q : PR), A[i]? = some q → mi 0 66 i = cod q
theorem cod_ok {q : PR} (h : okP q) : 0 ≤ cod q ∧ cod q < 512 := by unfold okP at h; unfold cod; omega
theorem key5_1 {a : PR} : key5 [a] = cod a := by simp [key5, cod]
theorem key5_2 {a b : PR} : key5 [a, b] = cod a * 512 + cod b := by simp [key5, cod]
theorem key5_3 {a b c : PR} : key5 [a, b, c] = (cod a * 512 + cod b) * 512 + cod c := by simp [key5, cod]
section MD1
variable {d n G : Nat} {mr : MR} {Q : V → MI → Nat → MR → Prop}
theorem u_mpriceOf (hL : Lay G mr) {mi : MI} {ρ : Int → Int} {c v : Int} (hB : MB mi ρ) (h0 : 0 ≤ c) (h1 : c < 24) (hv : -1 ≤ v) (hQ : Q (vI (prR ρ c v)) mi n mr) : Tx (d+2) mt_X4_priceOf [vR (some (0, 60)), vI c, vI v] mi n mr Q := by
  obtain ⟨hb, hp⟩ := hB.1 c h0 h1
  have := (hp v hv).1
  refine tx_intro (ls := [vR (some (0, 60)), vI c, vI v]) om_X4_priceOf rfl (Nat.le_of_ble_eq_true rfl) ?_
  refine k_i (dc kc_X4_priceOf 0 rfl) rfl <| r_aload_n (dc kc_X4_priceOf 1 rfl) rfl <| s_getA (dc kc_X4_priceOf 2 rfl) fl_X4_42 (ly_60_6 hL) <| s_iload_n (dc kc_X4_priceOf 3 rfl) rfl <| s_iaload (dc kc_X4_priceOf 4 rfl) rfl (by first | omega | (simp [up] <;> omega)) (by first | omega | (simp [up] <;> omega)) <| s_iload_n (dc kc_X4_priceOf 5 rfl) rfl <| r_aload_n (dc kc_X4_priceOf 6 rfl) rfl <| s_getA (dc kc_X4_priceOf 7 rfl) fl_X4_45 (ly_60_7 hL) <| s_iload_n (dc kc_X4_priceOf 8 rfl) rfl <| s_iaload (dc kc_X4_priceOf 9 rfl) rfl (by first | omega | (simp [up] <;> omega)) (by first | omega | (simp [up] <;> omega)) <| s_icmp_ne (tgt := 21) (dc kc_X4_priceOf 10 rfl) rfl (fun c14 => (k_i (dc kc_X4_priceOf 13 rfl) rfl <| b_isub (dc kc_X4_priceOf 14 rfl) (by first | omega | (simp [up] <;> omega)) (by first | omega | (simp [up] <;> omega)) <| c_s2r (dc kc_X4_priceOf 15 rfl) cl_X4_106 rfl (Nat.le_of_ble_eq_true rfl) (Nat.zero_le _) (Nat.zero_le _) <| u_max <| s_ireturn (dc kc_X4_priceOf 16 rfl) rfl (Nat.zero_le _) (Nat.zero_le _) ?_)) (fun c14 => (k_i (dc kc_X4_priceOf 11 rfl) rfl <| s_goto (tgt := 22) (dc kc_X4_priceOf 12 rfl) rfl <| b_isub (dc kc_X4_priceOf 14 rfl) (by first | omega | (simp [up] <;> omega)) (by first | omega | (simp [up] <;> omega)) <| c_s2r (dc kc_X4_priceOf 15 rfl) cl_X4_106 rfl (Nat.le_of_ble_eq_true rfl) (Nat.zero_le _) (Nat.zero_le _) <| u_max <| s_ireturn (dc kc_X4_priceOf 16 rfl) rfl (Nat.zero_le _) (Nat.zero_le _) ?_))
  · rw [if_neg (by assumption)] at this
    rw [this]; exact hQ
  · rw [if_pos (by assumption)] at this
    rw [this]; exact hQ
theorem u_rowOfChosen (hL : Lay G mr) {mi : MI} {A : List PR} (hs : mi 0 60 9 = A.length) (h1 : 1 ≤ A.length) (h3 : A.length ≤ 3) (hC : Cho mi A) (hn : (A.map Prod.fst).Nodup) (hq : ∀ q ∈ A, okP q) (hQ : Q (vI (key5 (srt A))) mi n mr) : Tx (d+2) mt_X4_rowOfChosen [vR (some (0, 60))] mi n mr Q := by
  refine tx_intro (ls := [vR (some (0, 60)), vX 0, vX 0, vX 0, vX 0, vX 0, vX 0]) om_X4_rowOfChosen rfl (Nat.le_of_ble_eq_true rfl) ?_
  match A, h1, h3 with
  | [a], _, _ =>
    have ca := hC 0 a rfl
    simp at hs
    refine r_aload_n (dc kc_X4_rowOfChosen_0 0 rfl) rfl <| s_getI (dc kc_X4_rowOfChosen_0 1 rfl) fl_X4_51 <| k_i (dc kc_X4_rowOfChosen_0 2 rfl) rfl <| s_icmp_ne (tgt := 15) (dc kc_X4_rowOfChosen_0 3 rfl) rfl (fun c5 => (?_)) (fun c5 => (r_aload_n (dc kc_X4_rowOfChosen_0 4 rfl) rfl <| s_getA (dc kc_X4_rowOfChosen_0 5 rfl) fl_X4_57 (ly_60_11 hL) <| k_i (dc kc_X4_rowOfChosen_0 6 rfl) rfl <| s_iaload (dc kc_X4_rowOfChosen_0 7 rfl) rfl (by first | omega | (simp [up] <;> omega)) (by first | omega | (simp [up] <;> omega)) <| s_ireturn (dc kc_X4_rowOfChosen_0 8 rfl) rfl (Nat.zero_le _) (Nat.zero_le _) ?_))
    · exfalso; omega
    · rw [show mi 0 66 0 = cod a from ca]
      rw [show srt [a] = [a] from rfl, key5_1] at hQ
      exact hQ
  | [a, b], _, _ =>
    have ca := hC 0 a rfl
    have cb := hC 1 b rfl
    have oa := cod_ok (hq a (by simp))
    have ob := cod_ok (hq b (by simp))
    have pa := hq a (by simp)
    have pb := hq b (by simp)
    have ne : a.1 ≠ b.1 := by simp at hn; exact hn
    simp at hs ca cb
    have e : bOr (bShl (min (cod a) (cod b)) 9) (max (cod a) (cod b)) = key5 (srt [a, b]) := by
      rw [or9 (by omega) (by omega) (by omega) (by omega)]
      show _ = key5 (if a.1 < b.1 then [a, b] else [b, a])
      unfold okP at pa pb
      unfold cod at *
      split
      · rw [key5_2]; unfold cod; omega
      · rw [key5_2]; unfold cod; omega
    refine r_aload_n (dc kc_X4_rowOfChosen_0 0 rfl) rfl <| s_getI (dc kc_X4_rowOfChosen_0 1 rfl) fl_X4_51 <| k_i (dc kc_X4_rowOfChosen_0 2 rfl) rfl <| s_icmp_ne (tgt := 15) (dc kc_X4_rowOfChosen_0 3 rfl) rfl (fun c5 => (r_aload_n (dc kc_X4_rowOfChosen_0 9 rfl) rfl <| s_getA (dc kc_X4_rowOfChosen_0 10 rfl) fl_X4_57 (ly_60_11 hL) <| k_i (dc kc_X4_rowOfChosen_0 11 rfl) rfl <| s_iaload (dc kc_X4_rowOfChosen_0 12 rfl) rfl (by first | omega | (simp [up] <;> omega)) (by first | omega | (simp [up] <;> omega)) <| r_aload_n (dc kc_X4_rowOfChosen_0 13 rfl) rfl <| s_getA (dc kc_X4_rowOfChosen_0 14 rfl) fl_X4_57 (ly_60_11 hL) <| k_i (dc kc_X4_rowOfChosen_0 15 rfl) rfl <| s_iaload (dc kc_X4_rowOfChosen_0 16 rfl) rfl (by first | omega | (simp [up] <;> omega)) (by first | omega | (simp [up] <;> omega)) <| c_s2r (dc kc_X4_rowOfChosen_0 17 rfl) cl_X4_100 rfl (Nat.le_of_ble_eq_true rfl) (Nat.zero_le _) (Nat.zero_le _) <| u_min <| t_i1 (dc kc_X4_rowOfChosen_0 18 rfl) (Nat.le_of_ble_eq_true rfl) rfl <| r_aload_n (dc kc_X4_rowOfChosen_0 19 rfl) rfl <| s_getA (dc kc_X4_rowOfChosen_0 20 rfl) fl_X4_57 (ly_60_11 hL) <| k_i (dc kc_X4_rowOfChosen_0 21 rfl) rfl <| s_iaload (dc kc_X4_rowOfChosen_0 22 rfl) rfl (by first | omega | (simp [up] <;> omega)) (by first | omega | (simp [up] <;> omega)) <| r_aload_n (dc kc_X4_rowOfChosen_0 23 rfl) rfl <| s_getA (dc kc_X4_rowOfChosen_0 24 rfl) fl_X4_57 (ly_60_11 hL) <| k_i (dc kc_X4_rowOfChosen_0 25 rfl) rfl <| s_iaload (dc kc_X4_rowOfChosen_0 26 rfl) rfl (by first | omega | (simp [up] <;> omega)) (by first | omega | (simp [up] <;> omega)) <| c_s2r (dc kc_X4_rowOfChosen_0 27 rfl) cl_X4_106 rfl (Nat.le_of_ble_eq_true rfl) (Nat.zero_le _) (Nat.zero_le _) <| u_max <| t_i2 (dc kc_X4_rowOfChosen_0 28 rfl) (Nat.le_of_ble_eq_true rfl) rfl <| r_aload_n (dc kc_X4_rowOfChosen_0 29 rfl) rfl <| s_getI (dc kc_X4_rowOfChosen_0 30 rfl) fl_X4_51 <| k_i (dc kc_X4_rowOfChosen_0 31 rfl) rfl <| s_icmp_ne (tgt := 62) (dc kc_X4_rowOfChosen_0 32 rfl) rfl (fun c52 => (?_)) (fun c52 => (s_iload_n (dc kc_X4_rowOfChosen_0 33 rfl) rfl <| k_b (dc kc_X4_rowOfChosen_0 34 rfl) rfl <| s_ishl (dc kc_X4_rowOfChosen_0 35 rfl) <| s_iload_n (dc kc_X4_rowOfChosen_0 36 rfl) rfl <| s_ior (dc kc_X4_rowOfChosen_0 37 rfl) <| s_ireturn (dc kc_X4_rowOfChosen_0 38 rfl) rfl (Nat.zero_le _) (Nat.zero_le _) ?_)))) (fun c5 => (r_aload_n (dc kc_X4_rowOfChosen_0 4 rfl) rfl <| s_getA (dc kc_X4_rowOfChosen_0 5 rfl) fl_X4_57 (ly_60_11 hL) <| k_i (dc kc_X4_rowOfChosen_0 6 rfl) rfl <| s_iaload (dc kc_X4_rowOfChosen_0 7 rfl) rfl (by first | omega | (simp [up] <;> omega)) (by first | omega | (simp [up] <;> omega)) <| s_ireturn (dc kc_X4_rowOfChosen_0 8 rfl) rfl (Nat.zero_le _) (Nat.zero_le _) ?_))
    · exfalso; omega
    · rw [ca, cb, e]; exact hQ
    · exfalso; omega
  | [a, b, c], _, _ =>
    have ca := hC 0 a rfl
    have cb := hC 1 b rfl
    have cc := hC 2 c rfl
    have oa := cod_ok (hq a (by simp))
    have ob := cod_ok (hq b (by simp))
    have oc := cod_ok (hq c (by simp))
    have pa := hq a (by simp)
    have pb := hq b (by simp)
    have pc := hq c (by simp)
    have ne : (a.1 ≠ b.1 ∧ a.1 ≠ c.1) ∧ b.1 ≠ c.1 := by simp at hn; exact hn
    simp at hs ca cb cc
    have lt : ∀ p q : PR, okP p → okP q → p.1 < q.1 → cod p < cod q := fun p q hp hq h => by unfold okP at hp hq; unfold cod; omega
    have fin : ∀ f m l : Int, 0 ≤ f → f < 512 → 0 ≤ m → m < 512 → 0 ≤ l → l < 512 → bOr (bShl (bOr (bShl f 9) m) 9) l = (f * 512 + m) * 512 + l := fun f m l a1 a2 a3 a4 a5 a6 => by
      rw [or9 a1 (by omega) a3 a4, or9 (by omega) (by omega) a5 a6]
    have e : ∀ f m l : Int, f = min (min (cod a) (cod b)) (cod c) → l = max (max (cod a) (cod b)) (cod c) → m = min (cod a) (cod b) + max (cod a) (cod b) + cod c - f - l → bOr (bShl (bOr (bShl f 9) m) 9) l = key5 (srt [a, b, c]) := by
      intro f m l hf hl hm
      rw [fin f m l (by omega) (by omega) (by omega) (by omega) (by omega) (by omega)]
      show _ = key5 (ins1 a (if b.1 < c.1 then [b, c] else [c, b]))
      by_cases h1 : a.1 < b.1
      · have l1 := lt a b pa pb h1
        by_cases h2 : b.1 < c.1
        · have l2 := lt b c pb pc h2
          rw [if_pos h2, ins1, if_pos h1, key5_3]; omega
        · have l2 := lt c b pc pb (by omega)
          rw [if_neg h2, ins1]
          by_cases h3 : a.1 < c.1
          · have l3 := lt a c pa pc h3
            rw [if_pos h3, key5_3]; omega
          · have l3 := lt c a pc pa (by omega)
            rw [if_neg h3, ins1, if_pos h1, key5_3]; omega
      · have l1 := lt b a pb pa (by omega)
        by_cases h2 : b.1 < c.1
        · have l2 := lt b c pb pc h2
          rw [if_pos h2, ins1, if_neg h1, ins1]
          by_cases h3 : a.1 < c.1
          · have l3 := lt a c pa pc h3
            rw [if_pos h3, key5_3]; omega
          · have l3 := lt c a pc pa (by omega)
            rw [if_neg h3, ins1, key5_3]; omega
        · have l2 := lt c b pc pb (by omega)
          have l3 := lt c a pc pa (by omega)
          rw [if_neg h2, ins1, if_neg (by omega), ins1, if_neg h1, ins1, key5_3]; omega
    refine r_aload_n (dc kc_X4_rowOfChosen_0 0 rfl) rfl <| s_getI (dc kc_X4_rowOfChosen_0 1 rfl) fl_X4_51 <| k_i (dc kc_X4_rowOfChosen_0 2 rfl) rfl <| s_icmp_ne (tgt := 15) (dc kc_X4_rowOfChosen_0 3 rfl) rfl (fun c5 => (r_aload_n (dc kc_X4_rowOfChosen_0 9 rfl) rfl <| s_getA (dc kc_X4_rowOfChosen_0 10 rfl) fl_X4_57 (ly_60_11 hL) <| k_i (dc kc_X4_rowOfChosen_0 11 rfl) rfl <| s_iaload (dc kc_X4_rowOfChosen_0 12 rfl) rfl (by first | omega | (simp [up] <;> omega)) (by first | omega | (simp [up] <;> omega)) <| r_aload_n (dc kc_X4_rowOfChosen_0 13 rfl) rfl <| s_getA (dc kc_X4_rowOfChosen_0 14 rfl) fl_X4_57 (ly_60_11 hL) <| k_i (dc kc_X4_rowOfChosen_0 15 rfl) rfl <| s_iaload (dc kc_X4_rowOfChosen_0 16 rfl) rfl (by first | omega | (simp [up] <;> omega)) (by first | omega | (simp [up] <;> omega)) <| c_s2r (dc kc_X4_rowOfChosen_0 17 rfl) cl_X4_100 rfl (Nat.le_of_ble_eq_true rfl) (Nat.zero_le _) (Nat.zero_le _) <| u_min <| t_i1 (dc kc_X4_rowOfChosen_0 18 rfl) (Nat.le_of_ble_eq_true rfl) rfl <| r_aload_n (dc kc_X4_rowOfChosen_0 19 rfl) rfl <| s_getA (dc kc_X4_rowOfChosen_0 20 rfl) fl_X4_57 (ly_60_11 hL) <| k_i (dc kc_X4_rowOfChosen_0 21 rfl) rfl <| s_iaload (dc kc_X4_rowOfChosen_0 22 rfl) rfl (by first | omega | (simp [up] <;> omega)) (by first | omega | (simp [up] <;> omega)) <| r_aload_n (dc kc_X4_rowOfChosen_0 23 rfl) rfl <| s_getA (dc kc_X4_rowOfChosen_0 24 rfl) fl_X4_57 (ly_60_11 hL) <| k_i (dc kc_X4_rowOfChosen_0 25 rfl) rfl <| s_iaload (dc kc_X4_rowOfChosen_0 26 rfl) rfl (by first | omega | (simp [up] <;> omega)) (by first | omega | (simp [up] <;> omega)) <| c_s2r (dc kc_X4_rowOfChosen_0 27 rfl) cl_X4_106 rfl (Nat.le_of_ble_eq_true rfl) (Nat.zero_le _) (Nat.zero_le _) <| u_max <| t_i2 (dc kc_X4_rowOfChosen_0 28 rfl) (Nat.le_of_ble_eq_true rfl) rfl <| r_aload_n (dc kc_X4_rowOfChosen_0 29 rfl) rfl <| s_getI (dc kc_X4_rowOfChosen_0 30 rfl) fl_X4_51 <| k_i (dc kc_X4_rowOfChosen_0 31 rfl) rfl <| s_icmp_ne (tgt := 62) (dc kc_X4_rowOfChosen_0 32 rfl) rfl (fun c52 => (r_aload_n (dc kc_X4_rowOfChosen_0 39 rfl) rfl <| s_getA (dc kc_X4_rowOfChosen_1 0 rfl) fl_X4_57 (ly_60_11 hL) <| k_i (dc kc_X4_rowOfChosen_1 1 rfl) rfl <| s_iaload (dc kc_X4_rowOfChosen_1 2 rfl) rfl (by first | omega | (simp [up] <;> omega)) (by first | omega | (simp [up] <;> omega)) <| t_i3 (dc kc_X4_rowOfChosen_1 3 rfl) (Nat.le_of_ble_eq_true rfl) rfl <| s_iload_n (dc kc_X4_rowOfChosen_1 4 rfl) rfl <| s_iload_n (dc kc_X4_rowOfChosen_1 5 rfl) rfl <| c_s2r (dc kc_X4_rowOfChosen_1 6 rfl) cl_X4_100 rfl (Nat.le_of_ble_eq_true rfl) (Nat.zero_le _) (Nat.zero_le _) <| u_min <| t_i4 (dc kc_X4_rowOfChosen_1 7 rfl) (Nat.le_of_ble_eq_true rfl) rfl <| s_iload_n (dc kc_X4_rowOfChosen_1 8 rfl) rfl <| s_iload_n (dc kc_X4_rowOfChosen_1 9 rfl) rfl <| c_s2r (dc kc_X4_rowOfChosen_1 10 rfl) cl_X4_106 rfl (Nat.le_of_ble_eq_true rfl) (Nat.zero_le _) (Nat.zero_le _) <| u_max <| t_i5 (dc kc_X4_rowOfChosen_1 11 rfl) (Nat.le_of_ble_eq_true rfl) rfl <| s_iload_n (dc kc_X4_rowOfChosen_1 12 rfl) rfl <| s_iload_n (dc kc_X4_rowOfChosen_1 13 rfl) rfl <| b_iadd (dc kc_X4_rowOfChosen_1 14 rfl) (by first | omega | (simp [up] <;> omega)) (by first | omega | (simp [up] <;> omega)) <| s_iload_n (dc kc_X4_rowOfChosen_1 15 rfl) rfl <| b_iadd (dc kc_X4_rowOfChosen_1 16 rfl) (by first | omega | (simp [up] <;> omega)) (by first | omega | (simp [up] <;> omega)) <| s_iload (dc kc_X4_rowOfChosen_1 17 rfl) rfl <| b_isub (dc kc_X4_rowOfChosen_1 18 rfl) (by first | omega | (simp [up] <;> omega)) (by first | omega | (simp [up] <;> omega)) <| s_iload (dc kc_X4_rowOfChosen_1 19 rfl) rfl <| b_isub (dc kc_X4_rowOfChosen_1 20 rfl) (by first | omega | (simp [up] <;> omega)) (by first | omega | (simp [up] <;> omega)) <| t_i6 (dc kc_X4_rowOfChosen_1 21 rfl) (Nat.le_of_ble_eq_true rfl) rfl <| s_iload (dc kc_X4_rowOfChosen_1 22 rfl) rfl <| k_b (dc kc_X4_rowOfChosen_1 23 rfl) rfl <| s_ishl (dc kc_X4_rowOfChosen_1 24 rfl) <| s_iload (dc kc_X4_rowOfChosen_1 25 rfl) rfl <| s_ior (dc kc_X4_rowOfChosen_1 26 rfl) <| k_b (dc kc_X4_rowOfChosen_1 27 rfl) rfl <| s_ishl (dc kc_X4_rowOfChosen_1 28 rfl) <| s_iload (dc kc_X4_rowOfChosen_1 29 rfl) rfl <| s_ior (dc kc_X4_rowOfChosen_1 30 rfl) <| s_ireturn (dc kc_X4_rowOfChosen_1 31 rfl) rfl (Nat.zero_le _) (Nat.zero_le _) ?_)) (fun c52 => (s_iload_n (dc kc_X4_rowOfChosen_0 33 rfl) rfl <| k_b (dc kc_X4_rowOfChosen_0 34 rfl) rfl <| s_ishl (dc kc_X4_rowOfChosen_0 35 rfl) <| s_iload_n (dc kc_X4_rowOfChosen_0 36 rfl) rfl <| s_ior (dc kc_X4_rowOfChosen_0 37 rfl) <| s_ireturn (dc kc_X4_rowOfChosen_0 38 rfl) rfl (Nat.zero_le _) (Nat.zero_le _) ?_)))) (fun c5 => (r_aload_n (dc kc_X4_rowOfChosen_0 4 rfl) rfl <| s_getA (dc kc_X4_rowOfChosen_0 5 rfl) fl_X4_57 (ly_60_11 hL) <| k_i (dc kc_X4_rowOfChosen_0 6 rfl) rfl <| s_iaload (dc kc_X4_rowOfChosen_0 7 rfl) rfl (by first | omega | (simp [up] <;> omega)) (by first | omega | (simp [up] <;> omega)) <| s_ireturn (dc kc_X4_rowOfChosen_0 8 rfl) rfl (Nat.zero_le _) (Nat.zero_le _) ?_))
    · rw [ca, cb, cc]
      rw [← e _ _ _ rfl rfl rfl] at hQ
      exact hQ
    · exfalso; omega
    · exfalso; omega
end MD1
