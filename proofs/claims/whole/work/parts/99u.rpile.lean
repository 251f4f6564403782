/-! the reference: code, pile, brackets -/
def slcR (m : MI) : Nat → Int → List CT
  | 0, _ => []
  | n + 1, k => tokOf (m 0 87 k) (m 0 88 k) :: slcR m n (k + 1)
theorem slcR_snoc {m : MI} : ∀ (n : Nat) (k : Int), slcR m (n + 1) k = slcR m n k ++ [tokOf (m 0 87 (k + n)) (m 0 88 (k + n))]
  | 0, k => by
    rw [slcR, slcR, slcR]
    simp
  | n + 1, k => by
    rw [slcR, slcR_snoc n (k + 1), slcR, List.cons_append, show k + 1 + (n : Int) = k + ((n + 1 : Nat) : Int) by omega]
theorem slcR_ext {m m' : MI} : ∀ (n : Nat) (k : Int), (∀ j, k ≤ j → j < k + n → m' 0 87 j = m 0 87 j ∧ m' 0 88 j = m 0 88 j) → slcR m' n k = slcR m n k
  | 0, _, _ => rfl
  | n + 1, k, h => by
    rw [slcR, slcR, (h k (Int.le_refl _) (by omega)).1, (h k (Int.le_refl _) (by omega)).2, slcR_ext n (k + 1) (fun j j0 j1 => h j (by omega) (by omega))]
theorem slcR_len {m : MI} : ∀ (n : Nat) (k : Int), (slcR m n k).length = n
  | 0, _ => rfl
  | n + 1, k => by rw [slcR, List.length_cons, slcR_len n]
def CdR (m : MI) (C0 : Int) (K : List CT) : Prop := m 0 80 20 = C0 + K.length ∧ slcR m K.length C0 = K
def Pil (m : MI) (P : List Int) : Prop := m 0 80 24 = P.length ∧ Arr (m 0 89) P.reverse
def pEmt (j : Nat) (k : Int) : Bool := j == 87 || j == 88 || (j == 80 && k == 20)
def pPsh (j : Nat) (k : Int) : Bool := j == 89 || (j == 80 && k == 24)
def pStl (j : Nat) (k : Int) : Bool := j == 87 || j == 88 || (j == 80 && (k == 20 || k == 24))
theorem CdR.mv {m m' : MI} {C0 : Int} {K : List CT} (h : CdR m C0 K) (h1 : m' 0 80 20 = m 0 80 20) (h2 : m' 0 87 = m 0 87) (h3 : m' 0 88 = m 0 88) : CdR m' C0 K := by
  refine ⟨by rw [h1]; exact h.1, ?_⟩
  rw [slcR_ext (m := m) _ _ (fun j _ _ => by rw [h2, h3]; exact ⟨rfl, rfl⟩)]
  exact h.2
theorem Pil.mv {m m' : MI} {P : List Int} (h : Pil m P) (h1 : m' 0 80 24 = m 0 80 24) (h2 : m' 0 89 = m 0 89) : Pil m' P := by
  unfold Pil at *
  rw [h1, h2]; exact h
theorem CdR.emit {m : MI} {C0 op a z : Int} {K : List CT} (h : CdR m C0 K) (hz : z = m 0 80 20) : CdR (up (up (up m 0 87 z op) 0 88 z a) 0 80 20 (z + 1)) C0 (K ++ [tokOf op a]) := by
  have e1 : m 0 80 20 = C0 + K.length := h.1
  refine ⟨by rw [up_at, List.length_append, List.length_singleton]; omega, ?_⟩
  have e87 : up (up (up m 0 87 z op) 0 88 z a) 0 80 20 (z + 1) 0 87 = ud (m 0 87) z op := by rw [up_j (by decide), up_j (by decide), up_ud]
  have e88 : up (up (up m 0 87 z op) 0 88 z a) 0 80 20 (z + 1) 0 88 = ud (m 0 88) z a := by rw [up_j (by decide), up_ud, up_j (by decide)]
  rw [List.length_append, List.length_singleton, slcR_snoc, e87, e88, show C0 + (K.length : Int) = z by omega, ud_at, ud_at]
  rw [slcR_ext (m := m) _ _ (fun j j0 j1 => by rw [e87, e88, ud_ne (by omega), ud_ne (by omega)]; exact ⟨rfl, rfl⟩), h.2]
theorem Pil.push {m : MI} {x z : Int} {P : List Int} (h : Pil m P) (hz : z = m 0 80 24) : Pil (up (up m 0 89 z x) 0 80 24 (z + 1)) (x :: P) := by
  have e1 := h.1
  refine ⟨by rw [up_at, List.length_cons]; omega, ?_⟩
  rw [up_j (by decide), up_ud, List.reverse_cons]
  exact h.2.snoc' (by rw [List.length_reverse]; omega)
/-- any pile is a list -/
theorem Pil.ex {m : MI} (h : 0 ≤ m 0 80 24) : ∃ P, Pil m P := by
  refine ⟨(byt (m 0 89) (m 0 80 24).toNat 0).reverse, by rw [List.length_reverse, byt_len]; omega, ?_⟩
  rw [List.reverse_reverse]
  generalize (m 0 80 24).toNat = k
  have key : ∀ (k : Nat) (b : Int) (i : Nat), i < k → (byt (m 0 89) k b)[i]? = some (m 0 89 (b + i)) := by
    intro k
    induction k with
    | zero => intro b i hi; exact absurd hi (Nat.not_lt_zero _)
    | succ k ih =>
      intro b i hi
      cases i with
      | zero => rw [byt]; simp
      | succ i =>
        rw [byt, List.getElem?_cons_succ, ih (b + 1) i (by omega)]
        rw [show b + 1 + (i : Int) = b + ((i + 1 : Nat) : Int) by omega]
  intro i hi
  rw [byt_len] at hi
  have := key k 0 i hi
  rw [Int.zero_add] at this
  exact this
def inn : List Int → Int
  | [] => -1
  | x :: P => if 30 ≤ x then x else inn P
def isC : List Int → Prop
  | [] => False
  | x :: P => if 20 ≤ x ∧ x ≤ 21 then isC P else 24 ≤ x ∧ x ≤ 26
def opn : List Int → Int → List Int
  | [], _ => []
  | x :: P, l => if l ≤ bnd x then x :: opn P l else []
def opr : List Int → Int → List Int
  | [], _ => []
  | x :: P, l => if l ≤ bnd x then opr P l else x :: P
section RPI
variable {d n G : Nat} {mr : MR} {Q : V → MI → Nat → MR → Prop} {t : Int → Int} {N : Int}
theorem t_emit (hL : Lay G mr) {mi : MI} {op a : Int} (h0 : 0 ≤ mi 0 80 20) (h1 : mi 0 80 20 < 400) (hQ : Q (vX 0) (up (up (up mi 0 87 (mi 0 80 20) op) 0 88 (mi 0 80 20) a) 0 80 20 (mi 0 80 20 + 1)) n mr) : Tx (d+1) mt_X12_emit [vR (some (0, 80)), vI op, vI a] mi n mr Q := by
  have e0 : ∀ (b : Nat) (k x : Int) (m : MI), b ≠ 80 → up m 0 b k x 0 80 = m 0 80 := fun b k x m hb => up_j (Ne.symm hb)
  refine tx_intro (ls := [vR (some (0, 80)), vI op, vI a]) om_X12_emit rfl (Nat.le_of_ble_eq_true rfl) ?_
  refine r_aload_n (dc kc_X12_emit 0 rfl) rfl <| s_getA (dc kc_X12_emit 1 rfl) fl_X12_33 (ly_80_21 hL) <| r_aload_n (dc kc_X12_emit 2 rfl) rfl <| s_getI (dc kc_X12_emit 3 rfl) fl_X12_191 <| s_iload_n (dc kc_X12_emit 4 rfl) rfl <| s_iastore (dc kc_X12_emit 5 rfl) rfl (by first | omega | (simp [up] <;> omega)) (by first | omega | (simp [up] <;> omega)) <| ?_
  refine r_aload_n (dc kc_X12_emit 6 rfl) rfl <| s_getA (dc kc_X12_emit 7 rfl) fl_X12_36 (ly_80_22 hL) <| r_aload_n (dc kc_X12_emit 8 rfl) rfl <| s_getI (dc kc_X12_emit 9 rfl) fl_X12_191 <| s_iload_n (dc kc_X12_emit 10 rfl) rfl <| s_iastore (dc kc_X12_emit 11 rfl) rfl (by first | omega | (simp [up] <;> omega)) (by first | omega | (simp [up] <;> omega)) <| ?_
  simp only [e0 87 _ _ _ (by decide), e0 88 _ _ _ (by decide)]
  refine r_aload_n (dc kc_X12_emit 12 rfl) rfl <| s_dup (dc kc_X12_emit 13 rfl) rfl <| s_getI (dc kc_X12_emit 14 rfl) fl_X12_191 <| k_i (dc kc_X12_emit 15 rfl) rfl <| b_iadd (dc kc_X12_emit 16 rfl) (by first | omega | (simp [up] <;> omega)) (by first | omega | (simp [up] <;> omega)) <| s_putI (dc kc_X12_emit 17 rfl) fl_X12_191 <| s_return (dc kc_X12_emit 18 rfl) rfl (Nat.zero_le _) (Nat.zero_le _) ?_
  simp only [e0 87 _ _ _ (by decide), e0 88 _ _ _ (by decide)]
  exact hQ
theorem t_push (hL : Lay G mr) {mi : MI} {op : Int} (h0 : 0 ≤ mi 0 80 24) (h1 : mi 0 80 24 < 400) (hQ : Q (vX 0) (up (up mi 0 89 (mi 0 80 24) op) 0 80 24 (mi 0 80 24 + 1)) n mr) : Tx (d+1) mt_X12_push [vR (some (0, 80)), vI op] mi n mr Q := by
  have e0 : up mi 0 89 (mi 0 80 24) op 0 80 = mi 0 80 := up_j (by decide)
  refine tx_intro (ls := [vR (some (0, 80)), vI op]) om_X12_push rfl (Nat.le_of_ble_eq_true rfl) ?_
  refine r_aload_n (dc kc_X12_push 0 rfl) rfl <| s_getA (dc kc_X12_push 1 rfl) fl_X12_39 (ly_80_23 hL) <| r_aload_n (dc kc_X12_push 2 rfl) rfl <| s_getI (dc kc_X12_push 3 rfl) fl_X12_194 <| s_iload_n (dc kc_X12_push 4 rfl) rfl <| s_iastore (dc kc_X12_push 5 rfl) rfl (by first | omega | (simp [up] <;> omega)) (by first | omega | (simp [up] <;> omega)) <| r_aload_n (dc kc_X12_push 6 rfl) rfl <| s_dup (dc kc_X12_push 7 rfl) rfl <| s_getI (dc kc_X12_push 8 rfl) fl_X12_194 <| k_i (dc kc_X12_push 9 rfl) rfl <| b_iadd (dc kc_X12_push 10 rfl) (by first | omega | (simp [up] <;> omega)) (by first | omega | (simp [up] <;> omega)) <| s_putI (dc kc_X12_push 11 rfl) fl_X12_194 <| s_return (dc kc_X12_push 12 rfl) rfl (Nat.zero_le _) (Nat.zero_le _) ?_
  rw [e0]
  exact hQ
theorem t_settle (hL : Lay G mr) {l : Int} : ∀ (P : List Int) {mi : MI} {C0 : Int} {K : List CT}, Pil mi P → CdR mi C0 K → 0 ≤ C0 → mi 0 80 20 + mi 0 80 24 ≤ 400 → (∀ mi', Ch pStl mi mi' → Pil mi' (opr P l) → CdR mi' C0 (K ++ (opn P l).map (fun x => tokOf x 0)) → (∀ b k, (b = 87 ∨ b = 88) → k < mi 0 80 20 → mi' 0 b k = mi 0 b k) → Q (vX 0) mi' n mr) → Run (d+2) mt_X12_settle Q (n, mr, 0, 0) mi 0 [vR (some (0, 80)), vI l] []
  | [], mi, C0, K, hP, hC, h0, h4, hQ => by
    have e := hP.1
    rw [List.length_nil] at e
    refine r_aload_n (dc kc_X12_settle 0 rfl) rfl <| s_getI (dc kc_X12_settle 1 rfl) fl_X12_194 <| s_if_le (tgt := 52) (dc kc_X12_settle 2 rfl) rfl (fun c4 => (s_return (dc kc_X12_settle 28 rfl) rfl (Nat.zero_le _) (Nat.zero_le _) ?_)) (fun c4 => (?_))
    · refine hQ mi Ch.rf hP ?_ (fun _ _ _ _ => rfl)
      show CdR mi C0 (K ++ [])
      rw [List.append_nil]; exact hC
    · exfalso; omega
  | x :: P, mi, C0, K, hP, hC, h0, h4, hQ => by
    obtain ⟨e, hA⟩ := id hP
    rw [List.length_cons] at e
    rw [List.reverse_cons] at hA
    have et := hA.top
    rw [List.length_reverse] at et
    have e1 := hC.1
    refine r_aload_n (dc kc_X12_settle 0 rfl) rfl <| s_getI (dc kc_X12_settle 1 rfl) fl_X12_194 <| s_if_le (tgt := 52) (dc kc_X12_settle 2 rfl) rfl (fun c4 => (?_)) (fun c4 => (r_aload_n (dc kc_X12_settle 3 rfl) rfl <| s_getA (dc kc_X12_settle 4 rfl) fl_X12_39 (ly_80_23 hL) <| r_aload_n (dc kc_X12_settle 5 rfl) rfl <| s_getI (dc kc_X12_settle 6 rfl) fl_X12_194 <| k_i (dc kc_X12_settle 7 rfl) rfl <| b_isub (dc kc_X12_settle 8 rfl) (by first | omega | (simp [up] <;> omega)) (by first | omega | (simp [up] <;> omega)) <| s_iaload (dc kc_X12_settle 9 rfl) rfl (by first | omega | (simp [up] <;> omega)) (by first | omega | (simp [up] <;> omega)) <| c_s1r (dc kc_X12_settle 10 rfl) cl_X12_197 rfl (Nat.le_of_ble_eq_true rfl) (Nat.zero_le _) (Nat.zero_le _) <| t_binds <| s_iload_n (dc kc_X12_settle 11 rfl) rfl <| s_icmp_lt (tgt := 52) (dc kc_X12_settle 12 rfl) rfl (fun c22 => (?_)) (fun c22 => (?_))))
    · exfalso; omega
    · rw [show mi 0 80 24 - 1 = (P.length : Int) by omega, et] at c22
      refine s_return (dc kc_X12_settle 28 rfl) rfl (Nat.zero_le _) (Nat.zero_le _) ?_
      refine hQ mi Ch.rf ?_ ?_ (fun _ _ _ _ => rfl)
      · rw [opr, if_neg (by omega)]; exact hP
      · rw [opn, if_neg (by omega)]
        show CdR mi C0 (K ++ [])
        rw [List.append_nil]; exact hC
    · rw [show mi 0 80 24 - 1 = (P.length : Int) by omega, et] at c22
      have u24 : up mi 0 80 24 (mi 0 80 24 - 1) 0 80 24 = P.length := by rw [up_at]; omega
      have u89 : up mi 0 80 24 (mi 0 80 24 - 1) 0 89 = mi 0 89 := up_j (by decide)
      have u20 : up mi 0 80 24 (mi 0 80 24 - 1) 0 80 20 = mi 0 80 20 := up_k (by decide)
      refine r_aload_n (dc kc_X12_settle 13 rfl) rfl <| s_dup (dc kc_X12_settle 14 rfl) rfl <| s_getI (dc kc_X12_settle 15 rfl) fl_X12_194 <| k_i (dc kc_X12_settle 16 rfl) rfl <| b_isub (dc kc_X12_settle 17 rfl) (by first | omega | (simp [up] <;> omega)) (by first | omega | (simp [up] <;> omega)) <| s_putI (dc kc_X12_settle 18 rfl) fl_X12_194 <| r_aload_n (dc kc_X12_settle 19 rfl) rfl <| r_aload_n (dc kc_X12_settle 20 rfl) rfl <| s_getA (dc kc_X12_settle 21 rfl) fl_X12_39 (ly_80_23 hL) <| r_aload_n (dc kc_X12_settle 22 rfl) rfl <| s_getI (dc kc_X12_settle 23 rfl) fl_X12_194 <| s_iaload (dc kc_X12_settle 24 rfl) rfl (by first | omega | (simp [up] <;> omega)) (by first | omega | (simp [up] <;> omega)) <| k_i (dc kc_X12_settle 25 rfl) rfl <| c_v2 (dc kc_X12_settle 26 rfl) cl_X12_200 rfl (Nat.le_of_ble_eq_true rfl) (Nat.zero_le _) (Nat.zero_le _) ?_
      rw [u24, u89, et]
      refine t_emit hL (by omega) (by omega) ?_
      rw [u20]
      refine s_goto (tgt := 0) (dc kc_X12_settle 27 rfl) rfl <| ?_
      have hP2 : Pil (up (up (up (up mi 0 80 24 (mi 0 80 24 - 1)) 0 87 (mi 0 80 20) x) 0 88 (mi 0 80 20) 0) 0 80 20 (mi 0 80 20 + 1)) P := by
        refine ⟨by simp [up]; omega, ?_⟩
        rw [up_j (by decide), up_j (by decide), up_j (by decide), up_j (by decide)]
        exact hA.pre
      have hC2 : CdR (up (up (up (up mi 0 80 24 (mi 0 80 24 - 1)) 0 87 (mi 0 80 20) x) 0 88 (mi 0 80 20) 0) 0 80 20 (mi 0 80 20 + 1)) C0 (K ++ [tokOf x 0]) := CdR.emit (hC.mv u20 (up_j (by decide)) (up_j (by decide))) u20.symm
      refine t_settle hL P hP2 hC2 h0 ?_ (fun m2 g2 p2 c2 f2 => ?_)
      · rw [hP2.1, hC2.1, List.length_append, List.length_singleton]; omega
      · refine hQ m2 (((((Ch.rf.up (by simp [pStl])).up (by simp [pStl])).up (by simp [pStl])).up (by simp [pStl])).tr g2) ?_ ?_ (fun b k hb hk => ?_)
        · rw [opr, if_pos (by omega)]; exact p2
        · rw [opn, if_pos (by omega)]
          rw [List.map_cons]
          rw [List.append_assoc] at c2
          exact c2
        · rw [f2 b k hb (by rw [up_at]; omega)]
          rcases hb with z | z
          · rw [z, up_j (by decide), up_j (by decide), up_ud, ud_ne (by omega), up_j (by decide)]
          · rw [z, up_j (by decide), up_ud, ud_ne (by omega), up_j (by decide), up_j (by decide)]
theorem t_settleT (hL : Lay G mr) {mi : MI} {C0 l : Int} {P : List Int} {K : List CT} (hP : Pil mi P) (hC : CdR mi C0 K) (h0 : 0 ≤ C0) (h4 : mi 0 80 20 + mi 0 80 24 ≤ 400) (hQ : ∀ mi', Ch pStl mi mi' → Pil mi' (opr P l) → CdR mi' C0 (K ++ (opn P l).map (fun x => tokOf x 0)) → (∀ b k, (b = 87 ∨ b = 88) → k < mi 0 80 20 → mi' 0 b k = mi 0 b k) → Q (vX 0) mi' n mr) : Tx (d+2) mt_X12_settle [vR (some (0, 80)), vI l] mi n mr Q := by
  refine tx_intro (ls := [vR (some (0, 80)), vI l]) om_X12_settle rfl (Nat.le_of_ble_eq_true rfl) ?_
  exact t_settle hL P hP hC h0 h4 hQ
theorem opn_len {P : List Int} {l : Int} : (opn P l).length + (opr P l).length = P.length := by
  induction P with
  | nil => rfl
  | cons x P ih =>
    rw [opn, opr]
    split
    · rw [List.length_cons, List.length_cons]; omega
    · simp
theorem t_settleD (hL : Lay G mr) {mi : MI} {l : Int} (h0 : 0 ≤ mi 0 80 20) (h1 : 0 ≤ mi 0 80 24) (h4 : mi 0 80 20 + mi 0 80 24 ≤ 400) (hQ : ∀ mi', Ch pStl mi mi' → 0 ≤ mi' 0 80 20 → 0 ≤ mi' 0 80 24 → mi' 0 80 20 + mi' 0 80 24 = mi 0 80 20 + mi 0 80 24 → (∀ b k, (b = 87 ∨ b = 88) → k < mi 0 80 20 → mi' 0 b k = mi 0 b k) → mi 0 80 20 ≤ mi' 0 80 20 → Q (vX 0) mi' n mr) : Tx (d+2) mt_X12_settle [vR (some (0, 80)), vI l] mi n mr Q := by
  obtain ⟨P, hP⟩ := Pil.ex h1
  refine t_settleT hL (C0 := mi 0 80 20) (K := []) hP ⟨by simp, rfl⟩ h0 h4 (fun m2 g2 p2 c2 f2 => ?_)
  have e1 := p2.1
  have e2 := c2.1
  have e3 := hP.1
  have e4 := opn_len (P := P) (l := l)
  rw [List.nil_append, List.length_map] at e2
  exact hQ m2 g2 (by omega) (by omega) (by omega) f2 (by omega)
theorem t_inner (hL : Lay G mr) {mi : MI} {P : List Int} (hP : Pil mi P) (h4 : P.length ≤ 400) (hQ : Q (vI (inn P)) mi n mr) : Tx (d+1) mt_X12_inner [vR (some (0, 80))] mi n mr Q := by
  obtain ⟨e, hA⟩ := hP
  refine tx_intro (ls := [vR (some (0, 80)), vX 0, vX 0]) om_X12_inner rfl (Nat.le_of_ble_eq_true rfl) ?_
  have loop : ∀ i : Nat, i ≤ P.length → Run (d+1) mt_X12_inner Q (n, mr, 0, 0) mi 4 [vR (some (0, 80)), vI (inn (P.reverse.take i).reverse), vI (i : Int)] [] := by
    refine nloop ?_
    intro i hi ih
    by_cases c : i < P.length
    · have ih := ih c
      rw [hA.take (by rw [List.length_reverse]; exact c), List.reverse_append] at ih
      rw [show ((i + 1 : Nat) : Int) = (i : Int) + 1 by omega] at ih
      have ih : Run (d+1) mt_X12_inner Q (n, mr, 0, 0) mi 4 [vR (some (0, 80)), vI (inn (mi 0 89 i :: (P.reverse.take i).reverse)), vI ((i : Int) + 1)] [] := ih
      rw [inn] at ih
      refine s_iload_n (dc kc_X12_inner 4 rfl) rfl <| r_aload_n (dc kc_X12_inner 5 rfl) rfl <| s_getI (dc kc_X12_inner 6 rfl) fl_X12_194 <| s_icmp_ge (tgt := 40) (dc kc_X12_inner 7 rfl) rfl (fun c9 => (s_iload_n (dc kc_X12_inner 23 rfl) rfl <| s_ireturn (dc kc_X12_inner 24 rfl) rfl (Nat.zero_le _) (Nat.zero_le _) ?_)) (fun c9 => (r_aload_n (dc kc_X12_inner 8 rfl) rfl <| s_getA (dc kc_X12_inner 9 rfl) fl_X12_39 (ly_80_23 hL) <| s_iload_n (dc kc_X12_inner 10 rfl) rfl <| s_iaload (dc kc_X12_inner 11 rfl) rfl (by first | omega | (simp [up] <;> omega)) (by first | omega | (simp [up] <;> omega)) <| k_b (dc kc_X12_inner 12 rfl) rfl <| s_icmp_lt (tgt := 32) (dc kc_X12_inner 13 rfl) rfl (fun c20 => (s_iload_n (dc kc_X12_inner 19 rfl) rfl <| t_i1 (dc kc_X12_inner 20 rfl) (Nat.le_of_ble_eq_true rfl) rfl <| b_inc2 (dc kc_X12_inner 21 rfl) rfl (Nat.le_of_ble_eq_true rfl) rfl (by first | omega | (simp [up] <;> omega)) (by first | omega | (simp [up] <;> omega)) <| s_goto (tgt := 4) (dc kc_X12_inner 22 rfl) rfl <| ?_)) (fun c20 => (r_aload_n (dc kc_X12_inner 14 rfl) rfl <| s_getA (dc kc_X12_inner 15 rfl) fl_X12_39 (ly_80_23 hL) <| s_iload_n (dc kc_X12_inner 16 rfl) rfl <| s_iaload (dc kc_X12_inner 17 rfl) rfl (by first | omega | (simp [up] <;> omega)) (by first | omega | (simp [up] <;> omega)) <| s_goto (tgt := 33) (dc kc_X12_inner 18 rfl) rfl <| t_i1 (dc kc_X12_inner 20 rfl) (Nat.le_of_ble_eq_true rfl) rfl <| b_inc2 (dc kc_X12_inner 21 rfl) rfl (Nat.le_of_ble_eq_true rfl) rfl (by first | omega | (simp [up] <;> omega)) (by first | omega | (simp [up] <;> omega)) <| s_goto (tgt := 4) (dc kc_X12_inner 22 rfl) rfl <| ?_))))
      · exfalso; omega
      · rw [if_neg (by omega)] at ih; exact ih
      · rw [if_pos (by omega)] at ih; exact ih
    · have hi2 : i = P.length := by omega
      subst hi2
      have e2 : (P.reverse.take P.length).reverse = P := by
        rw [List.take_of_length_le (by rw [List.length_reverse]; omega), List.reverse_reverse]
      rw [e2]
      refine s_iload_n (dc kc_X12_inner 4 rfl) rfl <| r_aload_n (dc kc_X12_inner 5 rfl) rfl <| s_getI (dc kc_X12_inner 6 rfl) fl_X12_194 <| s_icmp_ge (tgt := 40) (dc kc_X12_inner 7 rfl) rfl (fun c9 => (s_iload_n (dc kc_X12_inner 23 rfl) rfl <| s_ireturn (dc kc_X12_inner 24 rfl) rfl (Nat.zero_le _) (Nat.zero_le _) ?_)) (fun c9 => (?_))
      · exact hQ
      · exfalso; omega
  refine k_i (dc kc_X12_inner 0 rfl) rfl <| t_i1 (dc kc_X12_inner 1 rfl) (Nat.le_of_ble_eq_true rfl) rfl <| k_i (dc kc_X12_inner 2 rfl) rfl <| t_i2 (dc kc_X12_inner 3 rfl) (Nat.le_of_ble_eq_true rfl) rfl <| ?_
  exact loop 0 (Nat.zero_le _)
theorem t_isCompared (hL : Lay G mr) {mi : MI} {P : List Int} (hP : Pil mi P) (h4 : P.length ≤ 400) (hQ1 : isC P → Q (vI 1) mi n mr) (hQ0 : ¬ isC P → Q (vI 0) mi n mr) : Tx (d+2) mt_X12_isCompared [vR (some (0, 80))] mi n mr Q := by
  obtain ⟨e, hA⟩ := hP
  refine tx_intro (ls := [vR (some (0, 80)), vX 0]) om_X12_isCompared rfl (Nat.le_of_ble_eq_true rfl) ?_
  have loop : ∀ P1 A : List Int, P = A ++ P1 → (isC P1 → Q (vI 1) mi n mr) → (¬ isC P1 → Q (vI 0) mi n mr) → Run (d+2) mt_X12_isCompared Q (n, mr, 0, 0) mi 7 [vR (some (0, 80)), vI ((P1.length : Int) - 1)] [] := by
    intro P1
    induction P1 with
    | nil =>
      intro A _ _ q0
      rw [List.length_nil]
      refine s_iload_n (dc kc_X12_isCompared 5 rfl) rfl <| s_if_lt (tgt := 36) (dc kc_X12_isCompared 6 rfl) rfl (fun c8 => (s_iload_n (dc kc_X12_isCompared 18 rfl) rfl <| s_if_lt (tgt := 63) (dc kc_X12_isCompared 19 rfl) rfl (fun c37 => (k_i (dc kc_X12_isCompared 31 rfl) rfl <| s_zreturn (dc kc_X12_isCompared 32 rfl) rfl (by first | exact Or.inl rfl | exact Or.inr rfl | exact bi_01 | assumption) (Nat.zero_le _) (Nat.zero_le _) ?_)) (fun c37 => (?_)))) (fun c8 => (?_))
      · exact q0 (fun z => z)
      all_goals (exfalso; omega)
    | cons x P1 ih =>
      intro A hA1 q1 q0
      have hx : mi 0 89 (P1.length : Int) = x := by
        rw [hA1, List.reverse_append, List.reverse_cons] at hA
        have := hA.pre.top
        rw [List.length_reverse] at this
        exact this
      have hlen : P.length = A.length + (P1.length + 1) := by rw [hA1]; simp
      rw [List.length_cons, show ((P1.length + 1 : Nat) : Int) - 1 = (P1.length : Int) by omega]
      rw [isC] at q1 q0
      refine s_iload_n (dc kc_X12_isCompared 5 rfl) rfl <| s_if_lt (tgt := 36) (dc kc_X12_isCompared 6 rfl) rfl (fun c8 => (s_iload_n (dc kc_X12_isCompared 18 rfl) rfl <| s_if_lt (tgt := 63) (dc kc_X12_isCompared 19 rfl) rfl (fun c37 => (k_i (dc kc_X12_isCompared 31 rfl) rfl <| s_zreturn (dc kc_X12_isCompared 32 rfl) rfl (by first | exact Or.inl rfl | exact Or.inr rfl | exact bi_01 | assumption) (Nat.zero_le _) (Nat.zero_le _) ?_)) (fun c37 => (r_aload_n (dc kc_X12_isCompared 20 rfl) rfl <| s_getA (dc kc_X12_isCompared 21 rfl) fl_X12_39 (ly_80_23 hL) <| s_iload_n (dc kc_X12_isCompared 22 rfl) rfl <| s_iaload (dc kc_X12_isCompared 23 rfl) rfl (by first | omega | (simp [up] <;> omega)) (by first | omega | (simp [up] <;> omega)) <| s_i2l (dc kc_X12_isCompared 24 rfl) <| k_j (dc kc_X12_isCompared 25 rfl) kj_X12_208 rfl (a := 24) (by decide) <| k_j (dc kc_X12_isCompared 26 rfl) kj_X12_210 rfl (a := 26) (by decide) <| c_s3r (dc kc_X12_isCompared 27 rfl) cl_X12_92 rfl (Nat.le_of_ble_eq_true rfl) (Nat.zero_le _) (Nat.zero_le _) <| t_in <| s_if_eqb (tgt := 63) (dc kc_X12_isCompared 28 rfl) rfl (fun c56 => (k_i (dc kc_X12_isCompared 31 rfl) rfl <| s_zreturn (dc kc_X12_isCompared 32 rfl) rfl (by first | exact Or.inl rfl | exact Or.inr rfl | exact bi_01 | assumption) (Nat.zero_le _) (Nat.zero_le _) ?_)) (fun c56 => (k_i (dc kc_X12_isCompared 29 rfl) rfl <| s_goto (tgt := 64) (dc kc_X12_isCompared 30 rfl) rfl <| s_zreturn (dc kc_X12_isCompared 32 rfl) rfl (by first | exact Or.inl rfl | exact Or.inr rfl | exact bi_01 | assumption) (Nat.zero_le _) (Nat.zero_le _) ?_)))))) (fun c8 => (r_aload_n (dc kc_X12_isCompared 7 rfl) rfl <| s_getA (dc kc_X12_isCompared 8 rfl) fl_X12_39 (ly_80_23 hL) <| s_iload_n (dc kc_X12_isCompared 9 rfl) rfl <| s_iaload (dc kc_X12_isCompared 10 rfl) rfl (by first | omega | (simp [up] <;> omega)) (by first | omega | (simp [up] <;> omega)) <| s_i2l (dc kc_X12_isCompared 11 rfl) <| k_j (dc kc_X12_isCompared 12 rfl) kj_X12_204 rfl (a := 20) (by decide) <| k_j (dc kc_X12_isCompared 13 rfl) kj_X12_206 rfl (a := 21) (by decide) <| c_s3r (dc kc_X12_isCompared 14 rfl) cl_X12_92 rfl (Nat.le_of_ble_eq_true rfl) (Nat.zero_le _) (Nat.zero_le _) <| t_in <| s_if_eqb (tgt := 36) (dc kc_X12_isCompared 15 rfl) rfl (fun c27 => (s_iload_n (dc kc_X12_isCompared 18 rfl) rfl <| s_if_lt (tgt := 63) (dc kc_X12_isCompared 19 rfl) rfl (fun c37 => (k_i (dc kc_X12_isCompared 31 rfl) rfl <| s_zreturn (dc kc_X12_isCompared 32 rfl) rfl (by first | exact Or.inl rfl | exact Or.inr rfl | exact bi_01 | assumption) (Nat.zero_le _) (Nat.zero_le _) ?_)) (fun c37 => (r_aload_n (dc kc_X12_isCompared 20 rfl) rfl <| s_getA (dc kc_X12_isCompared 21 rfl) fl_X12_39 (ly_80_23 hL) <| s_iload_n (dc kc_X12_isCompared 22 rfl) rfl <| s_iaload (dc kc_X12_isCompared 23 rfl) rfl (by first | omega | (simp [up] <;> omega)) (by first | omega | (simp [up] <;> omega)) <| s_i2l (dc kc_X12_isCompared 24 rfl) <| k_j (dc kc_X12_isCompared 25 rfl) kj_X12_208 rfl (a := 24) (by decide) <| k_j (dc kc_X12_isCompared 26 rfl) kj_X12_210 rfl (a := 26) (by decide) <| c_s3r (dc kc_X12_isCompared 27 rfl) cl_X12_92 rfl (Nat.le_of_ble_eq_true rfl) (Nat.zero_le _) (Nat.zero_le _) <| t_in <| s_if_eqb (tgt := 63) (dc kc_X12_isCompared 28 rfl) rfl (fun c56 => (k_i (dc kc_X12_isCompared 31 rfl) rfl <| s_zreturn (dc kc_X12_isCompared 32 rfl) rfl (by first | exact Or.inl rfl | exact Or.inr rfl | exact bi_01 | assumption) (Nat.zero_le _) (Nat.zero_le _) ?_)) (fun c56 => (k_i (dc kc_X12_isCompared 29 rfl) rfl <| s_goto (tgt := 64) (dc kc_X12_isCompared 30 rfl) rfl <| s_zreturn (dc kc_X12_isCompared 32 rfl) rfl (by first | exact Or.inl rfl | exact Or.inr rfl | exact bi_01 | assumption) (Nat.zero_le _) (Nat.zero_le _) ?_)))))) (fun c27 => (b_inc1 (dc kc_X12_isCompared 16 rfl) rfl (Nat.le_of_ble_eq_true rfl) rfl (by first | omega | (simp [up] <;> omega)) (by first | omega | (simp [up] <;> omega)) <| s_goto (tgt := 7) (dc kc_X12_isCompared 17 rfl) rfl <| ?_))))
      all_goals first
        | (exfalso; omega)
        | (rw [hx] at c27 c56; first | (rw [if_neg (by omega)] at q0; exact q0 (by omega)) | (rw [if_neg (by omega)] at q1; exact q1 (by omega)))
        | (rw [hx] at c27; rw [if_pos (by omega)] at q1 q0; exact ih (A ++ [x]) (by rw [hA1]; simp) q1 q0)
  refine r_aload_n (dc kc_X12_isCompared 0 rfl) rfl <| s_getI (dc kc_X12_isCompared 1 rfl) fl_X12_194 <| k_i (dc kc_X12_isCompared 2 rfl) rfl <| b_isub (dc kc_X12_isCompared 3 rfl) (by first | omega | (simp [up] <;> omega)) (by first | omega | (simp [up] <;> omega)) <| t_i1 (dc kc_X12_isCompared 4 rfl) (Nat.le_of_ble_eq_true rfl) rfl <| ?_
  rw [e]
  exact loop P [] rfl hQ1 hQ0
def pOpn (j : Nat) (k : Int) : Bool := j == 80 && (k == 12 || k == 13 || k == 14 || k == 15 || k == 16 || k == 17 || k == 18 || k == 25)
theorem Tko.b {m : MI} {f u : Int} (h : Tko t N m f u) : m 0 80 17 = 0 := by
  unfold Tko at h
  split at h
  · exact h.2.2.1
  · exact h.2.2.1
theorem Tko.mv {m m' : MI} {f u : Int} {P : Nat → Int → Bool} (h : Tko t N m f u) (hm : Ch P m m') (h86 : ∀ k, P 86 k = false) (h80 : ∀ k, 11 ≤ k → k ≤ 18 → P 80 k = false) : Tko t N m' f u := by
  unfold Tko at *
  split
  · rename_i c
    rw [if_pos c] at h
    exact h.mv hm h86 h80
  · rename_i c
    rw [if_neg c] at h
    exact h.mv hm h86 (fun k k0 k1 _ => h80 k k0 k1)
theorem RB.mv {m m' : MI} {p : Int} {P : Nat → Int → Bool} (h : RB m p) (hm : Ch P m m') (h80 : ∀ k, 16 ≤ k → k ≤ 17 → P 80 k = false) : RB m' p := by
  unfold RB at *
  rw [hm.at (h80 17 (by decide) (by decide)), hm.at (h80 16 (by decide) (by decide))]
  exact h
theorem t_openA (hL : Lay G mr) {mi : MI} {f u b x : Int} (hP : Tpe t N) (hA : RA t N mi f u) (hb : mi 0 80 25 = b) (hb0 : 0 ≤ b) (hb1 : b ≤ 8) (hx : x = 0 ∨ x = 1) (hx1 : x = 1 → tkF t N f ≠ 91 ∧ tkF t N f ≠ 23) (hQ1 : x = 1 → b < 8 → ∀ mi', Ch pOpn mi mi' → Tko t N mi' f u → mi' 0 80 25 = b + 1 → Q (vX 0) mi' n mr) (hQ2 : ¬ (x = 1 ∧ b < 8) → ∀ mi', Ch pOpn mi mi' → RB mi' f → mi' 0 80 25 = b → Q (vX 0) mi' n mr) : Tx (d+5) mt_X12_open [vR (some (0, 80)), vI x] mi n mr Q := by
  have mq : ∀ {m : MI}, Ch pTq mi m → Ch pOpn mi m := fun g => g.mono (fun j k z => by simp [pTq] at z; simp [pOpn]; omega)
  have no : ¬ (x = 1 ∧ b < 8) → Run (d+5) mt_X12_open Q (n, mr, 0, 0) mi 18 [vR (some (0, 80)), vI x] [vR (some (0, 80))] := fun z => by
    refine k_i (dc kc_X12_open 9 rfl) rfl <| c_v1 (dc kc_X12_open 10 rfl) cl_X12_187 rfl (Nat.le_of_ble_eq_true rfl) (Nat.zero_le _) (Nat.zero_le _) ?_
    refine t_mustF hL hA (fun m2 g2 h2 => ?_)
    have e17 := h2.1
    have e25 : m2 0 80 25 = b := by rw [g2.at (by simp [pTq])]; exact hb
    refine r_aload_n (dc kc_X12_open 11 rfl) rfl <| s_dup (dc kc_X12_open 12 rfl) rfl <| s_getI (dc kc_X12_open 13 rfl) fl_X12_212 <| r_aload_n (dc kc_X12_open 14 rfl) rfl <| s_getZ (dc kc_X12_open 15 rfl) fl_X12_146 <| s_if_eq (tgt := 38) (dc kc_X12_open 16 rfl) rfl (fun c31 => (k_i (dc kc_X12_open 19 rfl) rfl <| b_iadd (dc kc_X12_open 20 rfl) (by first | omega | (simp [up] <;> omega)) (by first | omega | (simp [up] <;> omega)) <| s_putI (dc kc_X12_open 21 rfl) fl_X12_212 <| s_return (dc kc_X12_open 22 rfl) rfl (Nat.zero_le _) (Nat.zero_le _) ?_)) (fun c31 => (k_i (dc kc_X12_open 17 rfl) rfl <| s_goto (tgt := 39) (dc kc_X12_open 18 rfl) rfl <| b_iadd (dc kc_X12_open 20 rfl) (by first | omega | (simp [up] <;> omega)) (by first | omega | (simp [up] <;> omega)) <| s_putI (dc kc_X12_open 21 rfl) fl_X12_212 <| s_return (dc kc_X12_open 22 rfl) rfl (Nat.zero_le _) (Nat.zero_le _) ?_))
    · exfalso; omega
    · refine hQ2 z _ ((mq g2).up (by simp [pOpn])) (h2.mv (P := fun j k => j == 80 && k == 25) (Ch.rf.up (by simp)) (fun k k0 k1 => by simp; omega)) (by rw [up_at]; omega)
  refine tx_intro (ls := [vR (some (0, 80)), vI x]) om_X12_open rfl (Nat.le_of_ble_eq_true rfl) ?_
  refine r_aload_n (dc kc_X12_open 0 rfl) rfl <| s_iload_n (dc kc_X12_open 1 rfl) rfl <| s_if_eq (tgt := 18) (dc kc_X12_open 2 rfl) rfl (fun c2 => (?_)) (fun c2 => (r_aload_n (dc kc_X12_open 3 rfl) rfl <| s_getI (dc kc_X12_open 4 rfl) fl_X12_212 <| k_b (dc kc_X12_open 5 rfl) rfl <| s_icmp_ge (tgt := 18) (dc kc_X12_open 6 rfl) rfl (fun c11 => (?_)) (fun c11 => (k_i (dc kc_X12_open 7 rfl) rfl <| s_goto (tgt := 19) (dc kc_X12_open 8 rfl) rfl <| c_v1 (dc kc_X12_open 10 rfl) cl_X12_187 rfl (Nat.le_of_ble_eq_true rfl) (Nat.zero_le _) (Nat.zero_le _) ?_))))
  · exact no (fun z => by omega)
  · exact no (fun z => by omega)
  · have hx1' := hx1 (by omega)
    refine t_mustA hL hP hA hx1'.1 hx1'.2 (fun m2 g2 h2 => ?_)
    have e17 := h2.b
    have e25 : m2 0 80 25 = b := by rw [g2.at (by simp [pTq])]; exact hb
    refine r_aload_n (dc kc_X12_open 11 rfl) rfl <| s_dup (dc kc_X12_open 12 rfl) rfl <| s_getI (dc kc_X12_open 13 rfl) fl_X12_212 <| r_aload_n (dc kc_X12_open 14 rfl) rfl <| s_getZ (dc kc_X12_open 15 rfl) fl_X12_146 <| s_if_eq (tgt := 38) (dc kc_X12_open 16 rfl) rfl (fun c31 => (k_i (dc kc_X12_open 19 rfl) rfl <| b_iadd (dc kc_X12_open 20 rfl) (by first | omega | (simp [up] <;> omega)) (by first | omega | (simp [up] <;> omega)) <| s_putI (dc kc_X12_open 21 rfl) fl_X12_212 <| s_return (dc kc_X12_open 22 rfl) rfl (Nat.zero_le _) (Nat.zero_le _) ?_)) (fun c31 => (k_i (dc kc_X12_open 17 rfl) rfl <| s_goto (tgt := 39) (dc kc_X12_open 18 rfl) rfl <| b_iadd (dc kc_X12_open 20 rfl) (by first | omega | (simp [up] <;> omega)) (by first | omega | (simp [up] <;> omega)) <| s_putI (dc kc_X12_open 21 rfl) fl_X12_212 <| s_return (dc kc_X12_open 22 rfl) rfl (Nat.zero_le _) (Nat.zero_le _) ?_))
    · refine hQ1 (by omega) (by omega) _ ((mq g2).up (by simp [pOpn])) (h2.mv (P := fun j k => j == 80 && k == 25) (Ch.rf.up (by simp)) (fun k => by simp) (fun k k0 k1 => by simp; omega)) (by rw [up_at]; omega)
    · exfalso; omega
theorem t_openD (hL : Lay G mr) {mi : MI} {p x : Int} (hx : x = 0 ∨ x = 1) (hD : Dd t N mi p) (hb : -100 ≤ mi 0 80 25 ∧ mi 0 80 25 ≤ 100) (hQ : ∀ mi', Ch pOpn mi mi' → RB mi' p → mi' 0 80 25 = mi 0 80 25 → Q (vX 0) mi' n mr) : Tx (d+5) mt_X12_open [vR (some (0, 80)), vI x] mi n mr Q := by
  have go : ∀ y : Int, y = 0 ∨ y = 1 → Run (d+5) mt_X12_open Q (n, mr, 0, 0) mi 19 [vR (some (0, 80)), vI x] [vI y, vR (some (0, 80))] := fun y hy => by
    refine c_v1 (dc kc_X12_open 10 rfl) cl_X12_187 rfl (Nat.le_of_ble_eq_true rfl) (Nat.zero_le _) (Nat.zero_le _) ?_
    refine t_mustD hL hy hD (fun m2 g2 h2 => ?_)
    have e17 := h2.1
    have e25 : m2 0 80 25 = mi 0 80 25 := g2.at (by simp [pTq])
    refine r_aload_n (dc kc_X12_open 11 rfl) rfl <| s_dup (dc kc_X12_open 12 rfl) rfl <| s_getI (dc kc_X12_open 13 rfl) fl_X12_212 <| r_aload_n (dc kc_X12_open 14 rfl) rfl <| s_getZ (dc kc_X12_open 15 rfl) fl_X12_146 <| s_if_eq (tgt := 38) (dc kc_X12_open 16 rfl) rfl (fun c31 => (k_i (dc kc_X12_open 19 rfl) rfl <| b_iadd (dc kc_X12_open 20 rfl) (by first | omega | (simp [up] <;> omega)) (by first | omega | (simp [up] <;> omega)) <| s_putI (dc kc_X12_open 21 rfl) fl_X12_212 <| s_return (dc kc_X12_open 22 rfl) rfl (Nat.zero_le _) (Nat.zero_le _) ?_)) (fun c31 => (k_i (dc kc_X12_open 17 rfl) rfl <| s_goto (tgt := 39) (dc kc_X12_open 18 rfl) rfl <| b_iadd (dc kc_X12_open 20 rfl) (by first | omega | (simp [up] <;> omega)) (by first | omega | (simp [up] <;> omega)) <| s_putI (dc kc_X12_open 21 rfl) fl_X12_212 <| s_return (dc kc_X12_open 22 rfl) rfl (Nat.zero_le _) (Nat.zero_le _) ?_))
    · exfalso; omega
    · refine hQ _ ((g2.mono (fun j k z => by simp [pTq] at z; simp [pOpn]; omega)).up (by simp [pOpn])) (h2.mv (P := fun j k => j == 80 && k == 25) (Ch.rf.up (by simp)) (fun k k0 k1 => by simp; omega)) (by rw [up_at]; omega)
  refine tx_intro (ls := [vR (some (0, 80)), vI x]) om_X12_open rfl (Nat.le_of_ble_eq_true rfl) ?_
  refine r_aload_n (dc kc_X12_open 0 rfl) rfl <| s_iload_n (dc kc_X12_open 1 rfl) rfl <| s_if_eq (tgt := 18) (dc kc_X12_open 2 rfl) rfl (fun c2 => (k_i (dc kc_X12_open 9 rfl) rfl <| ?_)) (fun c2 => (r_aload_n (dc kc_X12_open 3 rfl) rfl <| s_getI (dc kc_X12_open 4 rfl) fl_X12_212 <| k_b (dc kc_X12_open 5 rfl) rfl <| s_icmp_ge (tgt := 18) (dc kc_X12_open 6 rfl) rfl (fun c11 => (k_i (dc kc_X12_open 9 rfl) rfl <| ?_)) (fun c11 => (k_i (dc kc_X12_open 7 rfl) rfl <| s_goto (tgt := 19) (dc kc_X12_open 8 rfl) rfl <| ?_))))
  · exact go 0 (Or.inl rfl)
  · exact go 0 (Or.inl rfl)
  · exact go 1 (Or.inr rfl)
theorem t_closeA (hL : Lay G mr) {mi : MI} {f u b : Int} (hP : Tpe t N) (hA : RA t N mi f u) (hb : mi 0 80 25 = b) (hb0 : -100 ≤ b) (hb1 : b ≤ 100) (hQ1 : tkF t N f = 73 → ∀ mi', Ch pOpn mi mi' → Tko t N mi' f u → mi' 0 80 25 = b - 1 → Q (vX 0) mi' n mr) (hQ2 : tkF t N f ≠ 73 → ∀ mi', Ch pOpn mi mi' → RB mi' f → mi' 0 80 25 = b → Q (vX 0) mi' n mr) : Tx (d+5) mt_X12_close [vR (some (0, 80))] mi n mr Q := by
  have mq : ∀ {m : MI}, Ch pTq mi m → Ch pOpn mi m := fun g => g.mono (fun j k z => by simp [pTq] at z; simp [pOpn]; omega)
  have hw := hA.2.1.sign hP hA.2.2.2.2.1.1 (c := 41) (by decide) (by decide) (by decide)
  refine tx_intro (ls := [vR (some (0, 80))]) om_X12_close rfl (Nat.le_of_ble_eq_true rfl) ?_
  refine r_aload_n (dc kc_X12_close 0 rfl) rfl <| r_aload_n (dc kc_X12_close 1 rfl) rfl <| k_b (dc kc_X12_close 2 rfl) rfl <| c_v1r (dc kc_X12_close 3 rfl) cl_X12_215 rfl (Nat.le_of_ble_eq_true rfl) (Nat.zero_le _) (Nat.zero_le _) <| t_isSign <| c_v1 (dc kc_X12_close 4 rfl) cl_X12_187 rfl (Nat.le_of_ble_eq_true rfl) (Nat.zero_le _) (Nat.zero_le _) ?_
  by_cases hc : mi 0 80 14 = 3 ∧ mi 0 80 15 = 41
  · rw [bi_t hc]
    have h73 : tkF t N f = 73 := hw.mp hc
    refine t_mustA hL hP hA (by omega) (by omega) (fun m2 g2 h2 => ?_)
    have e17 := h2.b
    have e25 : m2 0 80 25 = b := by rw [g2.at (by simp [pTq])]; exact hb
    refine r_aload_n (dc kc_X12_close 5 rfl) rfl <| s_dup (dc kc_X12_close 6 rfl) rfl <| s_getI (dc kc_X12_close 7 rfl) fl_X12_212 <| r_aload_n (dc kc_X12_close 8 rfl) rfl <| s_getZ (dc kc_X12_close 9 rfl) fl_X12_146 <| s_if_eq (tgt := 26) (dc kc_X12_close 10 rfl) rfl (fun c19 => (k_i (dc kc_X12_close 13 rfl) rfl <| b_isub (dc kc_X12_close 14 rfl) (by first | omega | (simp [up] <;> omega)) (by first | omega | (simp [up] <;> omega)) <| s_putI (dc kc_X12_close 15 rfl) fl_X12_212 <| s_return (dc kc_X12_close 16 rfl) rfl (Nat.zero_le _) (Nat.zero_le _) ?_)) (fun c19 => (k_i (dc kc_X12_close 11 rfl) rfl <| s_goto (tgt := 27) (dc kc_X12_close 12 rfl) rfl <| b_isub (dc kc_X12_close 14 rfl) (by first | omega | (simp [up] <;> omega)) (by first | omega | (simp [up] <;> omega)) <| s_putI (dc kc_X12_close 15 rfl) fl_X12_212 <| s_return (dc kc_X12_close 16 rfl) rfl (Nat.zero_le _) (Nat.zero_le _) ?_))
    · refine hQ1 h73 _ ((mq g2).up (by simp [pOpn])) (h2.mv (P := fun j k => j == 80 && k == 25) (Ch.rf.up (by simp)) (fun k => by simp) (fun k k0 k1 => by simp; omega)) (by rw [up_at]; omega)
    · exfalso; omega
  · rw [bi_f hc]
    refine t_mustF hL hA (fun m2 g2 h2 => ?_)
    have e17 := h2.1
    have e25 : m2 0 80 25 = b := by rw [g2.at (by simp [pTq])]; exact hb
    refine r_aload_n (dc kc_X12_close 5 rfl) rfl <| s_dup (dc kc_X12_close 6 rfl) rfl <| s_getI (dc kc_X12_close 7 rfl) fl_X12_212 <| r_aload_n (dc kc_X12_close 8 rfl) rfl <| s_getZ (dc kc_X12_close 9 rfl) fl_X12_146 <| s_if_eq (tgt := 26) (dc kc_X12_close 10 rfl) rfl (fun c19 => (k_i (dc kc_X12_close 13 rfl) rfl <| b_isub (dc kc_X12_close 14 rfl) (by first | omega | (simp [up] <;> omega)) (by first | omega | (simp [up] <;> omega)) <| s_putI (dc kc_X12_close 15 rfl) fl_X12_212 <| s_return (dc kc_X12_close 16 rfl) rfl (Nat.zero_le _) (Nat.zero_le _) ?_)) (fun c19 => (k_i (dc kc_X12_close 11 rfl) rfl <| s_goto (tgt := 27) (dc kc_X12_close 12 rfl) rfl <| b_isub (dc kc_X12_close 14 rfl) (by first | omega | (simp [up] <;> omega)) (by first | omega | (simp [up] <;> omega)) <| s_putI (dc kc_X12_close 15 rfl) fl_X12_212 <| s_return (dc kc_X12_close 16 rfl) rfl (Nat.zero_le _) (Nat.zero_le _) ?_))
    · exfalso; omega
    · refine hQ2 (fun z => hc (hw.mpr z)) _ ((mq g2).up (by simp [pOpn])) (h2.mv (P := fun j k => j == 80 && k == 25) (Ch.rf.up (by simp)) (fun k k0 k1 => by simp; omega)) (by rw [up_at]; omega)
theorem t_closeD (hL : Lay G mr) {mi : MI} {p : Int} (hD : Dd t N mi p) (hb : -100 ≤ mi 0 80 25 ∧ mi 0 80 25 ≤ 100) (hQ : ∀ mi', Ch pOpn mi mi' → RB mi' p → mi' 0 80 25 = mi 0 80 25 → Q (vX 0) mi' n mr) : Tx (d+5) mt_X12_close [vR (some (0, 80))] mi n mr Q := by
  refine tx_intro (ls := [vR (some (0, 80))]) om_X12_close rfl (Nat.le_of_ble_eq_true rfl) ?_
  refine r_aload_n (dc kc_X12_close 0 rfl) rfl <| r_aload_n (dc kc_X12_close 1 rfl) rfl <| k_b (dc kc_X12_close 2 rfl) rfl <| c_v1r (dc kc_X12_close 3 rfl) cl_X12_215 rfl (Nat.le_of_ble_eq_true rfl) (Nat.zero_le _) (Nat.zero_le _) <| t_isSign <| c_v1 (dc kc_X12_close 4 rfl) cl_X12_187 rfl (Nat.le_of_ble_eq_true rfl) (Nat.zero_le _) (Nat.zero_le _) ?_
  refine t_mustD hL bi_01 hD (fun m2 g2 h2 => ?_)
  have e17 := h2.1
  have e25 : m2 0 80 25 = mi 0 80 25 := g2.at (by simp [pTq])
  refine r_aload_n (dc kc_X12_close 5 rfl) rfl <| s_dup (dc kc_X12_close 6 rfl) rfl <| s_getI (dc kc_X12_close 7 rfl) fl_X12_212 <| r_aload_n (dc kc_X12_close 8 rfl) rfl <| s_getZ (dc kc_X12_close 9 rfl) fl_X12_146 <| s_if_eq (tgt := 26) (dc kc_X12_close 10 rfl) rfl (fun c19 => (k_i (dc kc_X12_close 13 rfl) rfl <| b_isub (dc kc_X12_close 14 rfl) (by first | omega | (simp [up] <;> omega)) (by first | omega | (simp [up] <;> omega)) <| s_putI (dc kc_X12_close 15 rfl) fl_X12_212 <| s_return (dc kc_X12_close 16 rfl) rfl (Nat.zero_le _) (Nat.zero_le _) ?_)) (fun c19 => (k_i (dc kc_X12_close 11 rfl) rfl <| s_goto (tgt := 27) (dc kc_X12_close 12 rfl) rfl <| b_isub (dc kc_X12_close 14 rfl) (by first | omega | (simp [up] <;> omega)) (by first | omega | (simp [up] <;> omega)) <| s_putI (dc kc_X12_close 15 rfl) fl_X12_212 <| s_return (dc kc_X12_close 16 rfl) rfl (Nat.zero_le _) (Nat.zero_le _) ?_))
  · exfalso; omega
  · refine hQ _ ((g2.mono (fun j k z => by simp [pTq] at z; simp [pOpn]; omega)).up (by simp [pOpn])) (h2.mv (P := fun j k => j == 80 && k == 25) (Ch.rf.up (by simp)) (fun k k0 k1 => by simp; omega)) (by rw [up_at]; omega)
end RPI
