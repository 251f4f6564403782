/-! the reference: ways and what is read -/
/-- cells that hold what they can -/
def VC (c : Int → Int) : Prop := (∀ h, 0 ≤ h → h < 3 → -1 ≤ c h ∧ c h ≤ 5) ∧ (∀ h, 3 ≤ h → h < 6 → 0 ≤ c h ∧ c h ≤ 9) ∧ ∀ x, 0 ≤ x → x < 6 → -1 ≤ c (6 + 3 * x) ∧ c (6 + 3 * x) ≤ 5 ∧ -1 ≤ c (7 + 3 * x) ∧ c (7 + 3 * x) ≤ 5 ∧ 0 ≤ c (8 + 3 * x) ∧ c (8 + 3 * x) ≤ 9
def wayL (c : Int → Int) : Nat → List Int → Int → List Int
  | 0, _, _ => []
  | k + 1, vis, a => if a = -1 ∨ a ∈ vis then [] else a :: wayL c k (a :: vis) (c (6 + 3 * a))
def wayE (c : Int → Int) : Nat → List Int → Int → Int
  | 0, _, a => a
  | k + 1, vis, a => if a = -1 ∨ a ∈ vis then a else wayE c k (a :: vis) (c (6 + 3 * a))
/-- the nodes on the way of a head, and where it ends -/
def way (c : Int → Int) (h : Int) : List Int := wayL c 6 [] (c h)
def wend (c : Int → Int) (h : Int) : Int := wayE c 6 [] (c h)
theorem wayL_stop {c : Int → Int} {k : Nat} {vis : List Int} {a : Int} (h : a = -1 ∨ a ∈ vis) : wayL c k vis a = [] := by
  cases k with
  | zero => rfl
  | succ k => rw [wayL, if_pos h]
theorem wayE_stop {c : Int → Int} {k : Nat} {vis : List Int} {a : Int} (h : a = -1 ∨ a ∈ vis) : wayE c k vis a = a := by
  cases k with
  | zero => rfl
  | succ k => rw [wayE, if_pos h]
theorem wayL_len (c : Int → Int) : ∀ (k : Nat) (vis : List Int) (a : Int), (wayL c k vis a).length ≤ k
  | 0, _, _ => Nat.le_refl _
  | k + 1, vis, a => by
    rw [wayL]
    split
    · exact Nat.zero_le _
    · simp only [List.length_cons]
      have := wayL_len c k (a :: vis) (c (6 + 3 * a))
      omega
theorem wayL_rg {c : Int → Int} (hc : VC c) : ∀ (k : Nat) (vis : List Int) (a : Int), -1 ≤ a → a ≤ 5 → ∀ x ∈ wayL c k vis a, 0 ≤ x ∧ x ≤ 5
  | 0, _, _, _, _, x, h => by cases h
  | k + 1, vis, a, h0, h1, x, h => by
    rw [wayL] at h
    split at h
    · cases h
    · rename_i hn
      rcases List.mem_cons.mp h with rfl | h
      · exact ⟨by have : ¬ x = -1 := fun z => hn (Or.inl z); omega, h1⟩
      · have hb : ¬ a = -1 := fun z => hn (Or.inl z)
        have := hc.2.2 a (by omega) (by omega)
        exact wayL_rg hc k (a :: vis) _ this.1 this.2.1 x h
/-- different numbers below n are n at most -/
theorem nodup_len : ∀ (n : Nat) (l : List Int), l.Nodup → (∀ x ∈ l, 0 ≤ x ∧ x < n) → l.length ≤ n
  | 0, l, _, h => by
    cases l with
    | nil => exact Nat.le_refl _
    | cons a l => have := h a List.mem_cons_self; omega
  | n + 1, l, hn, h => by
    have h1 := nodup_len n (l.erase (n : Int)) (hn.erase _) (fun x hx => by
      have hm := (hn.mem_erase_iff).mp hx
      have := h x hm.2
      have hne := hm.1
      omega)
    rw [List.length_erase] at h1
    split at h1 <;> omega
/-- a row begins with a list -/
def Arr (f : Int → Int) (L : List Int) : Prop := ∀ i : Nat, i < L.length → L[i]? = some (f i)
theorem Arr.nil {f : Int → Int} : Arr f [] := fun i h => absurd h (Nat.not_lt_zero i)
theorem Arr.snoc {f : Int → Int} {L : List Int} {v : Int} (h : Arr f L) : Arr (ud f L.length v) (L ++ [v]) := fun i hi => by
  simp only [List.length_append, List.length_cons, List.length_nil] at hi
  by_cases e : i = L.length
  · subst e
    rw [ud_at, List.getElem?_append_right (Nat.le_refl _), Nat.sub_self]
    rfl
  · rw [ud_ne (by omega), List.getElem?_append_left (by omega)]
    exact h i (by omega)
/-- the bits of a mask are a list's numbers -/
def Bm (x : Int) (L : List Int) : Prop := rg x ∧ ∀ i : Nat, i < 32 → (tB x i = true ↔ (i : Int) ∈ L)
theorem Bm.nil : Bm 0 [] := ⟨⟨by decide, by decide⟩, fun i _ => by rw [tB_0]; simp⟩
theorem Bm.set {x a : Int} {L : List Int} (h : Bm x L) (h0 : 0 ≤ a) (h1 : a < 32) : Bm (bOr x (bShl 1 a)) (a :: L) := ⟨bOr_rg _ _, fun i hi => by
  have := tB_set (x := x) h0 h1 hi
  rw [bSet] at this
  rw [this, Bool.or_eq_true, h.2 i hi, decide_eq_true_eq, List.mem_cons]
  constructor
  · rintro (q | q)
    · exact Or.inr q
    · exact Or.inl (by omega)
  · rintro (q | q)
    · exact Or.inr (by omega)
    · exact Or.inl q⟩
theorem Bm.bit {x a : Int} {L : List Int} (h : Bm x L) (h0 : 0 ≤ a) (h1 : a < 32) : bAnd (bShr x a) 1 = 0 ↔ a ∉ L := by
  rw [bit0 h0 h1]
  have := h.2 a.toNat (by omega)
  rw [Int.toNat_of_nonneg h0] at this
  rw [← this]
  cases tB x a.toNat <;> simp
theorem Bm.eq {x y : Int} {L L' : List Int} (h : Bm x L) (h' : Bm y L') (hm : ∀ a, 0 ≤ a → a < 32 → (a ∈ L ↔ a ∈ L')) : x = y := tB_ext h.1 h'.1 fun i hi => by
  have e1 := h.2 i hi
  have e2 := h'.2 i hi
  have e3 := hm i (by omega) (by omega)
  cases hx : tB x i <;> cases hy : tB y i <;> simp_all
def pW (j : Nat) (k : Int) : Bool := j == 85 || (j == 80 && (k == 7 || k == 8))
def pR (j : Nat) (k : Int) : Bool := j == 85 || (j == 80 && (k == 7 || k == 8 || k == 9))
/-- the cells of the reference -/
abbrev cel (mi : MI) : Int → Int := fun i => mi 0 81 (30 + i)
section REF2
variable {d n G : Nat} {mr : MR} {Q : V → MI → Nat → MR → Prop}
theorem findWay_loop (hL : Lay G mr) {c : Int → Int} (hc : VC c) {mi0 : MI} {hd : Int} (hQ : ∀ mi', Ch pW mi0 mi' → mi' 0 80 7 = (way c hd).length → mi' 0 80 8 = bi (wend c hd = -1) → Arr (mi' 0 85) (way c hd) → Q (vX 0) mi' n mr) : ∀ (k : Nat) (W0 : List Int) (at_ on : Int) (mi : MI), W0.length + k = 6 → Ch pW mi0 mi → (∀ i, mi 0 81 (30 + i) = c i) → mi 0 80 7 = W0.length → Arr (mi 0 85) W0 → W0.Nodup → (∀ x ∈ W0, 0 ≤ x ∧ x < 6) → Bm on W0.reverse → -1 ≤ at_ → at_ ≤ 5 → W0 ++ wayL c k W0.reverse at_ = way c hd → wayE c k W0.reverse at_ = wend c hd → Run (d+2) mt_X12_findWay Q (n, mr, 0, 0) mi 17 [vR (some (0, 80)), vI hd, vI on, vI at_] [] := by
  intro k
  induction k with
  | zero =>
    intro W0 at_ on mi hlen hCh hcel h7 hA hnd hrg hon h0 h1 hw he
    have hstop : at_ = -1 ∨ at_ ∈ W0.reverse := by
      by_cases e : at_ = -1
      · exact Or.inl e
      · refine Or.inr (Classical.byContradiction fun hn => ?_)
        have := nodup_len 6 (at_ :: W0) (List.nodup_cons.mpr ⟨fun z => hn (List.mem_reverse.mpr z), hnd⟩) (fun x hx => by
          rcases List.mem_cons.mp hx with rfl | hx
          · exact ⟨by omega, by omega⟩
          · exact hrg x hx)
        simp only [List.length_cons] at this
        omega
    rw [wayL_stop hstop, List.append_nil] at hw
    rw [wayE_stop hstop] at he
    have fin : ∀ mi', mi' = mi → Run (d+2) mt_X12_findWay Q (n, mr, 0, 0) mi' 72 [vR (some (0, 80)), vI hd, vI on, vI at_] [] := by
      intro mi' em
      subst em
      refine r_aload_n (dc kc_X12_findWay_1 8 rfl) rfl <| s_iload_n (dc kc_X12_findWay_1 9 rfl) rfl <| k_i (dc kc_X12_findWay_1 10 rfl) rfl <| s_icmp_ne (tgt := 82) (dc kc_X12_findWay_1 11 rfl) rfl (fun c75 => (k_i (dc kc_X12_findWay_1 14 rfl) rfl <| s_putZ (dc kc_X12_findWay_1 15 rfl) fl_X12_117 (by first | exact Or.inl rfl | exact Or.inr rfl | exact bi_01 | assumption) <| s_return (dc kc_X12_findWay_1 16 rfl) rfl (Nat.zero_le _) (Nat.zero_le _) ?_)) (fun c75 => (k_i (dc kc_X12_findWay_1 12 rfl) rfl <| s_goto (tgt := 83) (dc kc_X12_findWay_1 13 rfl) rfl <| s_putZ (dc kc_X12_findWay_1 15 rfl) fl_X12_117 (by first | exact Or.inl rfl | exact Or.inr rfl | exact bi_01 | assumption) <| s_return (dc kc_X12_findWay_1 16 rfl) rfl (Nat.zero_le _) (Nat.zero_le _) ?_))
      · exact hQ _ (hCh.up rfl) (by rw [up_k (by decide), h7, hw]) (by rw [up_at, bi_f (by rw [← he]; omega)]) (by rw [up_j (by decide), ← hw]; exact hA)
      · exact hQ _ (hCh.up rfl) (by rw [up_k (by decide), h7, hw]) (by rw [up_at, bi_t (by rw [← he]; omega)]) (by rw [up_j (by decide), ← hw]; exact hA)
    refine s_iload_n (dc kc_X12_findWay_0 12 rfl) rfl <| k_i (dc kc_X12_findWay_0 13 rfl) rfl <| s_icmp_eq (tgt := 72) (dc kc_X12_findWay_0 14 rfl) rfl (fun c19 => (?_)) (fun c19 => (s_iload_n (dc kc_X12_findWay_0 15 rfl) rfl <| s_iload_n (dc kc_X12_findWay_0 16 rfl) rfl <| s_ishr (dc kc_X12_findWay_0 17 rfl) <| k_i (dc kc_X12_findWay_0 18 rfl) rfl <| s_iand (dc kc_X12_findWay_0 19 rfl) <| s_if_ne (tgt := 72) (dc kc_X12_findWay_0 20 rfl) rfl (fun c27 => (?_)) (fun c27 => (?_))))
    · exact fin _ rfl
    · exact fin _ rfl
    · exfalso
      rcases hstop with z | z
      · exact c19 z
      · exact ((hon.bit (by omega) (by omega)).mp c27) z
  | succ k ih =>
    intro W0 at_ on mi hlen hCh hcel h7 hA hnd hrg hon h0 h1 hw he
    have fin : (at_ = -1 ∨ at_ ∈ W0.reverse) → ∀ mi', mi' = mi → Run (d+2) mt_X12_findWay Q (n, mr, 0, 0) mi' 72 [vR (some (0, 80)), vI hd, vI on, vI at_] [] := by
      intro hstop mi' em
      subst em
      rw [wayL_stop hstop, List.append_nil] at hw
      rw [wayE_stop hstop] at he
      refine r_aload_n (dc kc_X12_findWay_1 8 rfl) rfl <| s_iload_n (dc kc_X12_findWay_1 9 rfl) rfl <| k_i (dc kc_X12_findWay_1 10 rfl) rfl <| s_icmp_ne (tgt := 82) (dc kc_X12_findWay_1 11 rfl) rfl (fun c75 => (k_i (dc kc_X12_findWay_1 14 rfl) rfl <| s_putZ (dc kc_X12_findWay_1 15 rfl) fl_X12_117 (by first | exact Or.inl rfl | exact Or.inr rfl | exact bi_01 | assumption) <| s_return (dc kc_X12_findWay_1 16 rfl) rfl (Nat.zero_le _) (Nat.zero_le _) ?_)) (fun c75 => (k_i (dc kc_X12_findWay_1 12 rfl) rfl <| s_goto (tgt := 83) (dc kc_X12_findWay_1 13 rfl) rfl <| s_putZ (dc kc_X12_findWay_1 15 rfl) fl_X12_117 (by first | exact Or.inl rfl | exact Or.inr rfl | exact bi_01 | assumption) <| s_return (dc kc_X12_findWay_1 16 rfl) rfl (Nat.zero_le _) (Nat.zero_le _) ?_))
      · exact hQ _ (hCh.up rfl) (by rw [up_k (by decide), h7, hw]) (by rw [up_at, bi_f (by rw [← he]; omega)]) (by rw [up_j (by decide), ← hw]; exact hA)
      · exact hQ _ (hCh.up rfl) (by rw [up_k (by decide), h7, hw]) (by rw [up_at, bi_t (by rw [← he]; omega)]) (by rw [up_j (by decide), ← hw]; exact hA)
    refine s_iload_n (dc kc_X12_findWay_0 12 rfl) rfl <| k_i (dc kc_X12_findWay_0 13 rfl) rfl <| s_icmp_eq (tgt := 72) (dc kc_X12_findWay_0 14 rfl) rfl (fun c19 => (?_)) (fun c19 => (s_iload_n (dc kc_X12_findWay_0 15 rfl) rfl <| s_iload_n (dc kc_X12_findWay_0 16 rfl) rfl <| s_ishr (dc kc_X12_findWay_0 17 rfl) <| k_i (dc kc_X12_findWay_0 18 rfl) rfl <| s_iand (dc kc_X12_findWay_0 19 rfl) <| s_if_ne (tgt := 72) (dc kc_X12_findWay_0 20 rfl) rfl (fun c27 => (?_)) (fun c27 => (s_iload_n (dc kc_X12_findWay_0 21 rfl) rfl <| k_i (dc kc_X12_findWay_0 22 rfl) rfl <| s_iload_n (dc kc_X12_findWay_0 23 rfl) rfl <| s_ishl (dc kc_X12_findWay_0 24 rfl) <| s_ior (dc kc_X12_findWay_0 25 rfl) <| t_i2 (dc kc_X12_findWay_0 26 rfl) (Nat.le_of_ble_eq_true rfl) rfl <| r_aload_n (dc kc_X12_findWay_0 27 rfl) rfl <| s_getA (dc kc_X12_findWay_0 28 rfl) fl_X12_23 (ly_80_6 hL) <| r_aload_n (dc kc_X12_findWay_0 29 rfl) rfl <| s_getI (dc kc_X12_findWay_0 30 rfl) fl_X12_111 <| s_iload_n (dc kc_X12_findWay_0 31 rfl) rfl <| s_iastore (dc kc_X12_findWay_0 32 rfl) rfl (by first | omega | (simp [up] <;> omega)) (by first | omega | (simp [up] <;> omega)) <| r_aload_n (dc kc_X12_findWay_0 33 rfl) rfl <| s_dup (dc kc_X12_findWay_0 34 rfl) rfl <| s_getI (dc kc_X12_findWay_0 35 rfl) fl_X12_111 <| k_i (dc kc_X12_findWay_0 36 rfl) rfl <| b_iadd (dc kc_X12_findWay_0 37 rfl) (by first | omega | (simp [up] <;> omega)) (by first | omega | (simp [up] <;> omega)) <| s_putI (dc kc_X12_findWay_0 38 rfl) fl_X12_111 <| r_aload_n (dc kc_X12_findWay_0 39 rfl) rfl <| s_getA (dc kc_X12_findWay_1 0 rfl) fl_X12_7 (ly_80_2 hL) <| k_b (dc kc_X12_findWay_1 1 rfl) rfl <| s_iload_n (dc kc_X12_findWay_1 2 rfl) rfl <| c_s1r (dc kc_X12_findWay_1 3 rfl) cl_X12_114 rfl (Nat.le_of_ble_eq_true rfl) (Nat.zero_le _) (Nat.zero_le _) <| t_nextOf (by first | omega | (simp [up] <;> omega)) (by first | omega | (simp [up] <;> omega)) <| b_iadd (dc kc_X12_findWay_1 4 rfl) (by first | omega | (simp [up] <;> omega)) (by first | omega | (simp [up] <;> omega)) <| s_iaload (dc kc_X12_findWay_1 5 rfl) rfl (by first | omega | (simp [up] <;> omega)) (by first | omega | (simp [up] <;> omega)) <| t_i3 (dc kc_X12_findWay_1 6 rfl) (Nat.le_of_ble_eq_true rfl) rfl <| s_goto (tgt := 17) (dc kc_X12_findWay_1 7 rfl) rfl <| ?_))))
    · exact fin (Or.inl c19) _ rfl
    · exact fin (Or.inr (Classical.byContradiction fun z => c27 ((hon.bit (by omega) (by omega)).mpr z))) _ rfl
    · have hni : at_ ∉ W0.reverse := (hon.bit (by omega) (by omega)).mp c27
      have hst : ¬ (at_ = -1 ∨ at_ ∈ W0.reverse) := fun z => z.elim c19 hni
      have hnx := hc.2.2 at_ (by omega) (by omega)
      rw [wayL, if_neg hst] at hw
      rw [wayE, if_neg hst] at he
      have e1 : (W0 ++ [at_]).reverse = at_ :: W0.reverse := by simp
      have ecel : ∀ i, up (up mi 0 85 (mi 0 80 7) at_) 0 80 7 (up mi 0 85 (mi 0 80 7) at_ 0 80 7 + 1) 0 81 (30 + i) = c i := fun i => by rw [up_j (by decide), up_j (by decide)]; exact hcel i
      rw [ecel]
      refine ih (W0 ++ [at_]) (c (6 + 3 * at_)) _ _ (by simp; omega) ((hCh.up rfl).up rfl) ecel (by rw [up_at, up_j (by decide), h7]; simp) ?_ ?_ ?_ (by rw [e1]; exact hon.set (by omega) (by omega)) hnx.1 hnx.2.1 (by rw [e1, List.append_assoc]; exact hw) (by rw [e1]; exact he)
      · rw [up_j (by decide), up_ud, h7]
        exact hA.snoc
      · rw [List.nodup_append]
        refine ⟨hnd, by simp, fun x hx y hy => ?_⟩
        simp only [List.mem_cons, List.not_mem_nil, or_false] at hy
        subst hy
        intro z
        subst z
        exact hni (List.mem_reverse.mpr hx)
      · intro x hx
        rcases List.mem_append.mp hx with hx | hx
        · exact hrg x hx
        · simp only [List.mem_cons, List.not_mem_nil, or_false] at hx
          subst hx
          exact ⟨by omega, by omega⟩
theorem t_findWay (hL : Lay G mr) {mi : MI} {hd : Int} (hc : VC (cel mi)) (h0 : 0 ≤ hd) (h1 : hd < 3) (hQ : ∀ mi', Ch pW mi mi' → mi' 0 80 7 = (way (cel mi) hd).length → mi' 0 80 8 = bi (wend (cel mi) hd = -1) → Arr (mi' 0 85) (way (cel mi) hd) → Q (vX 0) mi' n mr) : Tx (d+2) mt_X12_findWay [vR (some (0, 80)), vI hd] mi n mr Q := by
  refine tx_intro (ls := [vR (some (0, 80)), vI hd, vX 0, vX 0]) om_X12_findWay rfl (Nat.le_of_ble_eq_true rfl) ?_
  have hh := hc.1 hd h0 h1
  refine r_aload_n (dc kc_X12_findWay_0 0 rfl) rfl <| k_i (dc kc_X12_findWay_0 1 rfl) rfl <| s_putI (dc kc_X12_findWay_0 2 rfl) fl_X12_111 <| k_i (dc kc_X12_findWay_0 3 rfl) rfl <| t_i2 (dc kc_X12_findWay_0 4 rfl) (Nat.le_of_ble_eq_true rfl) rfl <| r_aload_n (dc kc_X12_findWay_0 5 rfl) rfl <| s_getA (dc kc_X12_findWay_0 6 rfl) fl_X12_7 (ly_80_2 hL) <| k_b (dc kc_X12_findWay_0 7 rfl) rfl <| s_iload_n (dc kc_X12_findWay_0 8 rfl) rfl <| b_iadd (dc kc_X12_findWay_0 9 rfl) (by first | omega | (simp [up] <;> omega)) (by first | omega | (simp [up] <;> omega)) <| s_iaload (dc kc_X12_findWay_0 10 rfl) rfl (by first | omega | (simp [up] <;> omega)) (by first | omega | (simp [up] <;> omega)) <| t_i3 (dc kc_X12_findWay_0 11 rfl) (Nat.le_of_ble_eq_true rfl) rfl <| ?_
  have e : up mi 0 80 7 0 0 81 (30 + hd) = cel mi hd := by rw [up_j (by decide)]
  rw [e]
  exact findWay_loop hL hc hQ 6 [] _ 0 _ rfl (Ch.rf.up rfl) (fun i => by rw [up_j (by decide)]) (by rw [up_at]; rfl) Arr.nil List.nodup_nil (fun x hx => by cases hx) Bm.nil hh.1 hh.2 rfl rfl
theorem t_readCell {mi : MI} {c : Int} (hQ : Q (vX 0) (up mi 0 80 9 (bOr (mi 0 80 9) (bShl 1 c))) n mr) : Tx (d+1) mt_X12_readCell [vR (some (0, 80)), vI c] mi n mr Q := by
  refine tx_intro (ls := [vR (some (0, 80)), vI c]) om_X12_readCell rfl (Nat.le_of_ble_eq_true rfl) ?_
  refine r_aload_n (dc kc_X12_readCell 0 rfl) rfl <| s_dup (dc kc_X12_readCell 1 rfl) rfl <| s_getI (dc kc_X12_readCell 2 rfl) fl_X12_121 <| k_i (dc kc_X12_readCell 3 rfl) rfl <| s_iload_n (dc kc_X12_readCell 4 rfl) rfl <| s_ishl (dc kc_X12_readCell 5 rfl) <| s_ior (dc kc_X12_readCell 6 rfl) <| s_putI (dc kc_X12_readCell 7 rfl) fl_X12_121 <| s_return (dc kc_X12_readCell 8 rfl) rfl (Nat.zero_le _) (Nat.zero_le _) ?_
  exact hQ
end REF2
