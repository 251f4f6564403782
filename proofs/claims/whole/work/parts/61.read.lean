/-! the class: its reader -/
/-- what a reader may change -/
def pQ (r g j : Nat) (k : Int) : Bool := g == r && (j == 52 || j == 53 || (j == 50 && (k == 2 || k == 3 || k == 4 || k == 6 || k == 7 || k == 8)))
/-- what a walk of a reader's way may change -/
def pV (r g j : Nat) (k : Int) : Bool := g == r && (j == 53 || (j == 50 && (k == 3 || k == 6 || k == 7 || k == 8)))
def pRd (r g j : Nat) (k : Int) : Bool := g == r && j == 50 && k == 3
theorem pV_pQ {r g j : Nat} {k : Int} (h : pV r g j k = true) : pQ r g j k = true := by simp [pV, pQ] at h ⊢; omega
theorem pRd_pQ {r g j : Nat} {k : Int} (h : pRd r g j k = true) : pQ r g j k = true := by simp [pRd, pQ] at h ⊢; omega
theorem pRd_pV {r g j : Nat} {k : Int} (h : pRd r g j k = true) : pV r g j k = true := by simp [pRd, pV] at h ⊢; omega
theorem bb {r : Nat} : (r == r) = true := by simp
/-- masks by sets -/
theorem Bm.mem {x : Int} {L L' : List Int} (h : Bm x L) (hm : ∀ a, 0 ≤ a → a < 32 → (a ∈ L ↔ a ∈ L')) : Bm x L' := ⟨h.1, fun i hi => (h.2 i hi).trans (hm i (by omega) (by omega))⟩
theorem Bm.shl {x k : Int} {L : List Int} (h : Bm x L) (h0 : 0 ≤ k) (h1 : k < 32) (hL : ∀ a ∈ L, 0 ≤ a ∧ a + k < 32) : Bm (bShl x k) (L.map (· + k)) := ⟨bShl_rg _ _, fun i hi => by
  rw [tB_shl h0 h1, List.mem_map]
  constructor
  · intro z
    simp at z
    have := (h.2 (i - k.toNat) (by omega)).mp z.2.2
    exact ⟨_, this, by omega⟩
  · rintro ⟨a, ha, e⟩
    have hr := hL a ha
    have := (h.2 a.toNat (by omega)).mpr (by rw [Int.toNat_of_nonneg hr.1]; exact ha)
    simp
    refine ⟨hi, by omega, ?_⟩
    rw [show i - k.toNat = a.toNat by omega]
    exact this⟩
/-- cells of the web that a reader reads -/
abbrev clG (mi : MI) (g : Nat) : Int → Int := fun i => mi g 16 i
theorem msk_Bm : ∀ {l : List Int}, (∀ x ∈ l, 0 ≤ x ∧ x < 6) → Bm (msk l) (l.map fun x => 6 + 3 * x) := by
  intro l
  have key : ∀ (l : List Int) (m : Int) (L : List Int), (∀ x ∈ l, 0 ≤ x ∧ x < 6) → Bm m L → Bm (l.foldl (fun m x => bOr m (bShl 1 (6 + 3 * x))) m) (L ++ l.map fun x => 6 + 3 * x) := by
    intro l
    induction l with
    | nil => intro m L _ h; rw [List.map_nil, List.append_nil]; exact h
    | cons x l ih =>
      intro m L hx h
      have h0 := hx x List.mem_cons_self
      have := ih (bOr m (bShl 1 (6 + 3 * x))) (L ++ [6 + 3 * x]) (fun y hy => hx y (List.mem_cons_of_mem _ hy)) (h.or (Bm.one (by omega) (by omega)))
      rw [List.append_assoc] at this
      exact this
  intro h
  exact key l 0 [] h Bm.nil
section RDR
variable {d n G : Nat} {mr : MR} {Q : V → MI → Nat → MR → Prop}
theorem u_rbegin {mi : MI} {r : Nat} {a : Ad} (hQ : Q (vX 0) (up (up mi r 50 3 0) r 50 4 0) n (upR mr r 50 0 (some a))) : Tx (d+1) mt_X6_begin [vR (some (r, 50)), vR (some a)] mi n mr Q := by
  refine tx_intro (ls := [vR (some (r, 50)), vR (some a)]) om_X6_begin rfl (Nat.le_of_ble_eq_true rfl) ?_
  refine r_aload_n (dc kc_X6_begin 0 rfl) rfl <| r_aload_n (dc kc_X6_begin 1 rfl) rfl <| s_pA (dc kc_X6_begin 2 rfl) fl_X6_9 <| r_aload_n (dc kc_X6_begin 3 rfl) rfl <| k_i (dc kc_X6_begin 4 rfl) rfl <| s_putI (dc kc_X6_begin 5 rfl) fl_X6_22 <| r_aload_n (dc kc_X6_begin 6 rfl) rfl <| k_i (dc kc_X6_begin 7 rfl) rfl <| s_putZ (dc kc_X6_begin 8 rfl) fl_X6_25 (by first | exact Or.inl rfl | exact Or.inr rfl | exact bi_01 | assumption) <| s_return (dc kc_X6_begin 9 rfl) rfl (Nat.zero_le _) (Nat.zero_le _) ?_
  exact hQ
theorem u_look (hL : Lay G mr) {mi : MI} {r g : Nat} {c : Int} (hcel : mr r 50 0 = some (g, 16)) (h0 : 0 ≤ c) (h1 : c < 24) (hQ : Q (vI (mi g 16 c)) (up mi r 50 3 (bOr (mi r 50 3) (bShl 1 c))) n mr) : Tx (d+1) mt_X6_look [vR (some (r, 50)), vI c] mi n mr Q := by
  refine tx_intro (ls := [vR (some (r, 50)), vI c]) om_X6_look rfl (Nat.le_of_ble_eq_true rfl) ?_
  refine s_iload_n (dc kc_X6_look 0 rfl) rfl <| s_if_lt (tgt := 10) (dc kc_X6_look 1 rfl) rfl (fun c1 => (k_i (dc kc_X6_look 5 rfl) rfl <| s_ireturn (dc kc_X6_look 6 rfl) rfl (Nat.zero_le _) (Nat.zero_le _) ?_)) (fun c1 => (s_iload_n (dc kc_X6_look 2 rfl) rfl <| k_b (dc kc_X6_look 3 rfl) rfl <| s_icmp_lt (tgt := 12) (dc kc_X6_look 4 rfl) rfl (fun c7 => (r_aload_n (dc kc_X6_look 7 rfl) rfl <| s_dup (dc kc_X6_look 8 rfl) rfl <| s_getI (dc kc_X6_look 9 rfl) fl_X6_22 <| k_i (dc kc_X6_look 10 rfl) rfl <| s_iload_n (dc kc_X6_look 11 rfl) rfl <| s_ishl (dc kc_X6_look 12 rfl) <| s_ior (dc kc_X6_look 13 rfl) <| s_putI (dc kc_X6_look 14 rfl) fl_X6_22 <| r_aload_n (dc kc_X6_look 15 rfl) rfl <| s_getA (dc kc_X6_look 16 rfl) fl_X6_9 hcel <| s_iload_n (dc kc_X6_look 17 rfl) rfl <| s_iaload (dc kc_X6_look 18 rfl) rfl (by first | omega | (simp [up] <;> omega)) (by first | omega | (simp [up] <;> omega)) <| s_ireturn (dc kc_X6_look 19 rfl) rfl (Nat.zero_le _) (Nat.zero_le _) ?_)) (fun c7 => (k_i (dc kc_X6_look 5 rfl) rfl <| s_ireturn (dc kc_X6_look 6 rfl) rfl (Nat.zero_le _) (Nat.zero_le _) ?_))))
  · exfalso; omega
  · rw [up_j (by decide)]; exact hQ
  · exfalso; omega
theorem u_lookAt (hL : Lay G mr) {mi : MI} {r g : Nat} {x o : Int} (hcel : mr r 50 0 = some (g, 16)) (ho : 6 ≤ o ∧ o ≤ 8) (hQ1 : ¬ (0 ≤ x ∧ x < 6) → Q (vI (-1)) (up mi r 50 4 1) n mr) (hQ2 : 0 ≤ x → x < 6 → Q (vI (mi g 16 (o + 3 * x))) (up mi r 50 3 (bOr (mi r 50 3) (bShl 1 (o + 3 * x)))) n mr) : Tx (d+1) mt_X6_lookAt [vR (some (r, 50)), vI x, vI o] mi n mr Q := by
  refine tx_intro (ls := [vR (some (r, 50)), vI x, vI o, vX 0]) om_X6_lookAt rfl (Nat.le_of_ble_eq_true rfl) ?_
  refine s_iload_n (dc kc_X6_lookAt 0 rfl) rfl <| s_if_lt (tgt := 10) (dc kc_X6_lookAt 1 rfl) rfl (fun c1 => (r_aload_n (dc kc_X6_lookAt 5 rfl) rfl <| k_i (dc kc_X6_lookAt 6 rfl) rfl <| s_putZ (dc kc_X6_lookAt 7 rfl) fl_X6_25 (by first | exact Or.inl rfl | exact Or.inr rfl | exact bi_01 | assumption) <| k_i (dc kc_X6_lookAt 8 rfl) rfl <| s_ireturn (dc kc_X6_lookAt 9 rfl) rfl (Nat.zero_le _) (Nat.zero_le _) ?_)) (fun c1 => (s_iload_n (dc kc_X6_lookAt 2 rfl) rfl <| k_b (dc kc_X6_lookAt 3 rfl) rfl <| s_icmp_lt (tgt := 17) (dc kc_X6_lookAt 4 rfl) rfl (fun c7 => (s_iload_n (dc kc_X6_lookAt 10 rfl) rfl <| k_i (dc kc_X6_lookAt 11 rfl) rfl <| s_iload_n (dc kc_X6_lookAt 12 rfl) rfl <| b_imul (dc kc_X6_lookAt 13 rfl) (by first | omega | (simp [up] <;> omega)) (by first | omega | (simp [up] <;> omega)) <| b_iadd (dc kc_X6_lookAt 14 rfl) (by first | omega | (simp [up] <;> omega)) (by first | omega | (simp [up] <;> omega)) <| t_i3 (dc kc_X6_lookAt 15 rfl) (Nat.le_of_ble_eq_true rfl) rfl <| r_aload_n (dc kc_X6_lookAt 16 rfl) rfl <| s_dup (dc kc_X6_lookAt 17 rfl) rfl <| s_getI (dc kc_X6_lookAt 18 rfl) fl_X6_22 <| k_i (dc kc_X6_lookAt 19 rfl) rfl <| s_iload_n (dc kc_X6_lookAt 20 rfl) rfl <| s_ishl (dc kc_X6_lookAt 21 rfl) <| s_ior (dc kc_X6_lookAt 22 rfl) <| s_putI (dc kc_X6_lookAt 23 rfl) fl_X6_22 <| r_aload_n (dc kc_X6_lookAt 24 rfl) rfl <| s_getA (dc kc_X6_lookAt 25 rfl) fl_X6_9 hcel <| s_iload_n (dc kc_X6_lookAt 26 rfl) rfl <| s_iaload (dc kc_X6_lookAt 27 rfl) rfl (by first | omega | (simp [up] <;> omega)) (by first | omega | (simp [up] <;> omega)) <| s_ireturn (dc kc_X6_lookAt 28 rfl) rfl (Nat.zero_le _) (Nat.zero_le _) ?_)) (fun c7 => (r_aload_n (dc kc_X6_lookAt 5 rfl) rfl <| k_i (dc kc_X6_lookAt 6 rfl) rfl <| s_putZ (dc kc_X6_lookAt 7 rfl) fl_X6_25 (by first | exact Or.inl rfl | exact Or.inr rfl | exact bi_01 | assumption) <| k_i (dc kc_X6_lookAt 8 rfl) rfl <| s_ireturn (dc kc_X6_lookAt 9 rfl) rfl (Nat.zero_le _) (Nat.zero_le _) ?_))))
  · exact hQ1 (by omega)
  · rw [up_j (by decide)]; exact hQ2 (by omega) (by omega)
  · exact hQ1 (by omega)
theorem u_push (hL : Lay G mr) {mi : MI} {r : Nat} {v : Int} {st : List Int} (hr : r < 5) (ht : mi r 50 2 = st.length) (h60 : st.length < 60) (hA : Arr (mi r 52) st.reverse) (hQ : ∀ mi', Cg (fun g j k => g == r && (j == 52 || (j == 50 && k == 2))) mi mi' → mi' r 50 2 = ((v :: st).length : Int) → Arr (mi' r 52) (v :: st).reverse → Q (vX 0) mi' n mr) : Tx (d+1) mt_X6_push [vR (some (r, 50)), vI v] mi n mr Q := by
  have hok : okI G 50 r := hr
  refine tx_intro (ls := [vR (some (r, 50)), vI v]) om_X6_push rfl (Nat.le_of_ble_eq_true rfl) ?_
  refine r_aload_n (dc kc_X6_push 0 rfl) rfl <| s_getI (dc kc_X6_push 1 rfl) fl_X6_18 <| k_b (dc kc_X6_push 2 rfl) rfl <| s_icmp_ge (tgt := 29) (dc kc_X6_push 3 rfl) rfl (fun c6 => (s_return (dc kc_X6_push 16 rfl) rfl (Nat.zero_le _) (Nat.zero_le _) ?_)) (fun c6 => (r_aload_n (dc kc_X6_push 4 rfl) rfl <| s_getA (dc kc_X6_push 5 rfl) fl_X6_15 (ly_50_1 hL (by assumption)) <| r_aload_n (dc kc_X6_push 6 rfl) rfl <| s_getI (dc kc_X6_push 7 rfl) fl_X6_18 <| s_iload_n (dc kc_X6_push 8 rfl) rfl <| s_iastore (dc kc_X6_push 9 rfl) rfl (by first | omega | (simp [up] <;> omega)) (by first | omega | (simp [up] <;> omega)) <| r_aload_n (dc kc_X6_push 10 rfl) rfl <| s_dup (dc kc_X6_push 11 rfl) rfl <| s_getI (dc kc_X6_push 12 rfl) fl_X6_18 <| k_i (dc kc_X6_push 13 rfl) rfl <| b_iadd (dc kc_X6_push 14 rfl) (by first | omega | (simp [up] <;> omega)) (by first | omega | (simp [up] <;> omega)) <| s_putI (dc kc_X6_push 15 rfl) fl_X6_18 <| s_return (dc kc_X6_push 16 rfl) rfl (Nat.zero_le _) (Nat.zero_le _) ?_))
  · exfalso; omega
  · have e2 : up mi r 52 (mi r 50 2) v r 50 2 = mi r 50 2 := by rw [up_j (by decide)]
    refine hQ _ ((Cg.rf.up (by simp)).up (by simp)) (by rw [up_at, e2, ht, List.length_cons]; omega) ?_
    rw [up_j (by decide), up_ud, ht, List.reverse_cons]
    exact hA.snoc' (by rw [List.length_reverse])
theorem u_pop (hL : Lay G mr) {mi : MI} {r : Nat} {v : Int} {st : List Int} (hr : r < 5) (ht : mi r 50 2 = ((v :: st).length : Int)) (h60 : st.length < 60) (hA : Arr (mi r 52) (v :: st).reverse) (hQ : ∀ mi', Cg (fun g j k => g == r && j == 50 && k == 2) mi mi' → mi' r 50 2 = st.length → Arr (mi' r 52) st.reverse → Q (vI v) mi' n mr) : Tx (d+1) mt_X6_pop [vR (some (r, 50))] mi n mr Q := by
  have hok : okI G 50 r := hr
  rw [List.length_cons] at ht
  rw [List.reverse_cons] at hA
  have et := hA.top
  rw [List.length_reverse] at et
  have e1 : mi r 50 2 - 1 = st.length := by omega
  refine tx_intro (ls := [vR (some (r, 50))]) om_X6_pop rfl (Nat.le_of_ble_eq_true rfl) ?_
  refine r_aload_n (dc kc_X6_pop 0 rfl) rfl <| s_getI (dc kc_X6_pop 1 rfl) fl_X6_18 <| s_if_gt (tgt := 9) (dc kc_X6_pop 2 rfl) rfl (fun c4 => (r_aload_n (dc kc_X6_pop 5 rfl) rfl <| s_dup (dc kc_X6_pop 6 rfl) rfl <| s_getI (dc kc_X6_pop 7 rfl) fl_X6_18 <| k_i (dc kc_X6_pop 8 rfl) rfl <| b_isub (dc kc_X6_pop 9 rfl) (by first | omega | (simp [up] <;> omega)) (by first | omega | (simp [up] <;> omega)) <| s_putI (dc kc_X6_pop 10 rfl) fl_X6_18 <| ?_)) (fun c4 => (k_i (dc kc_X6_pop 3 rfl) rfl <| s_ireturn (dc kc_X6_pop 4 rfl) rfl (Nat.zero_le _) (Nat.zero_le _) ?_))
  · have e2 : up mi r 50 2 (mi r 50 2 - 1) r 50 2 = st.length := by rw [up_at, e1]
    have e3 : up mi r 50 2 (mi r 50 2 - 1) r 52 = mi r 52 := up_j (by decide)
    refine r_aload_n (dc kc_X6_pop 11 rfl) rfl <| s_getA (dc kc_X6_pop 12 rfl) fl_X6_15 (ly_50_1 hL (by assumption)) <| r_aload_n (dc kc_X6_pop 13 rfl) rfl <| s_getI (dc kc_X6_pop 14 rfl) fl_X6_18 <| s_iaload (dc kc_X6_pop 15 rfl) rfl (by first | omega | (simp [up] <;> omega)) (by first | omega | (simp [up] <;> omega)) <| s_ireturn (dc kc_X6_pop 16 rfl) rfl (Nat.zero_le _) (Nat.zero_le _) ?_
    rw [e2, e3, et]
    exact hQ _ (Cg.rf.up (by simp)) e2 (by rw [e3]; exact hA.pre)
  · exfalso; omega
theorem follow_loop (hL : Lay G mr) {c : Int → Int} (hc : VC c) {mi0 : MI} {r g : Nat} (hr : r < 5) (hcel : mr r 50 0 = some (g, 16)) {hd : Int} (h0 : 0 ≤ hd) (h3 : hd < 3) {rd : List Int} (hB : Bm (mi0 r 50 3) rd) (hQ : ∀ mi', Cg (pV r) mi0 mi' → mi' r 50 6 = (way c hd).length → mi' r 50 7 = msk (way c hd) → mi' r 50 8 = bi (wend c hd = -1) → Arr (mi' r 53) (way c hd) → Bm (mi' r 50 3) (askW c hd 0 0 ++ rd) → Q (vX 0) mi' n mr) : ∀ (k : Nat) (W0 : List Int) (at_ : Int) (mi : MI) (x4 : V), W0.length + k = 6 → Cg (pV r) mi0 mi → mi r 50 3 = mi0 r 50 3 → (∀ i, mi g 16 i = c i) → mi r 50 6 = W0.length → mi r 50 7 = msk W0 → Arr (mi r 53) W0 → (∀ x ∈ W0, 0 ≤ x ∧ x < 6) → -1 ≤ at_ → at_ ≤ 5 → W0 ++ wayL c k W0.reverse at_ = way c hd → wayE c k W0.reverse at_ = wend c hd → Run (d+1) mt_X6_follow Q (n, mr, 0, 0) mi 32 [vR (some (r, 50)), vI hd, vI at_, vI (W0.length : Int), x4] [] := by
  have hok : okI G 50 r := hr
  have hwr := way_rg hc h0 h3
  -- the end
  have fin : ∀ (mi : MI) (at_ : Int) (x3 x4 : V), Cg (pV r) mi0 mi → mi r 50 3 = mi0 r 50 3 → mi r 50 6 = (way c hd).length → mi r 50 7 = msk (way c hd) → Arr (mi r 53) (way c hd) → at_ = wend c hd → -1 ≤ at_ → Run (d+1) mt_X6_follow Q (n, mr, 0, 0) mi 112 [vR (some (r, 50)), vI hd, vI at_, x3, x4] [] := by
    intro mi at_ x3 x4 hC e3 e6 e7 hA ea hat
    have hbm : Bm (bOr (mi r 50 3) (bOr (bShl 1 hd) (mi r 50 7))) (askW c hd 0 0 ++ rd) := by
      rw [e3, e7]
      refine (hB.or ((Bm.one h0 (by omega)).or (msk_Bm (fun x hx => by have := hwr x hx; omega)))).mem (fun a a0 a1 => ?_)
      unfold askW askN
      simp
      constructor
      · rintro (h | h | ⟨x, h1, h2⟩)
        · exact Or.inr (Or.inr h)
        · exact Or.inl h
        · exact Or.inr (Or.inl ⟨x, h1, h2.symm⟩)
      · rintro (h | ⟨x, h1, h2⟩ | h)
        · exact Or.inr (Or.inl h)
        · exact Or.inr (Or.inr ⟨x, h1, h2.symm⟩)
        · exact Or.inl h
    have q3 : ∀ v, up mi r 50 8 v r 50 3 = mi r 50 3 := fun v => up_k (by decide)
    have q7 : ∀ v, up mi r 50 8 v r 50 7 = mi r 50 7 := fun v => up_k (by decide)
    refine r_aload_n (dc kc_X6_follow_1 26 rfl) rfl <| s_iload_n (dc kc_X6_follow_1 27 rfl) rfl <| s_if_ge (tgt := 121) (dc kc_X6_follow_1 28 rfl) rfl (fun c114 => (k_i (dc kc_X6_follow_1 31 rfl) rfl <| s_putZ (dc kc_X6_follow_1 32 rfl) fl_X6_38 (by first | exact Or.inl rfl | exact Or.inr rfl | exact bi_01 | assumption) <| r_aload_n (dc kc_X6_follow_1 33 rfl) rfl <| s_dup (dc kc_X6_follow_1 34 rfl) rfl <| s_getI (dc kc_X6_follow_1 35 rfl) fl_X6_22 <| k_i (dc kc_X6_follow_1 36 rfl) rfl <| s_iload_n (dc kc_X6_follow_1 37 rfl) rfl <| s_ishl (dc kc_X6_follow_1 38 rfl) <| r_aload_n (dc kc_X6_follow_1 39 rfl) rfl <| s_getI (dc kc_X6_follow_2 0 rfl) fl_X6_35 <| s_ior (dc kc_X6_follow_2 1 rfl) <| s_ior (dc kc_X6_follow_2 2 rfl) <| s_putI (dc kc_X6_follow_2 3 rfl) fl_X6_22 <| s_return (dc kc_X6_follow_2 4 rfl) rfl (Nat.zero_le _) (Nat.zero_le _) ?_)) (fun c114 => (k_i (dc kc_X6_follow_1 29 rfl) rfl <| s_goto (tgt := 122) (dc kc_X6_follow_1 30 rfl) rfl <| s_putZ (dc kc_X6_follow_1 32 rfl) fl_X6_38 (by first | exact Or.inl rfl | exact Or.inr rfl | exact bi_01 | assumption) <| r_aload_n (dc kc_X6_follow_1 33 rfl) rfl <| s_dup (dc kc_X6_follow_1 34 rfl) rfl <| s_getI (dc kc_X6_follow_1 35 rfl) fl_X6_22 <| k_i (dc kc_X6_follow_1 36 rfl) rfl <| s_iload_n (dc kc_X6_follow_1 37 rfl) rfl <| s_ishl (dc kc_X6_follow_1 38 rfl) <| r_aload_n (dc kc_X6_follow_1 39 rfl) rfl <| s_getI (dc kc_X6_follow_2 0 rfl) fl_X6_35 <| s_ior (dc kc_X6_follow_2 1 rfl) <| s_ior (dc kc_X6_follow_2 2 rfl) <| s_putI (dc kc_X6_follow_2 3 rfl) fl_X6_22 <| s_return (dc kc_X6_follow_2 4 rfl) rfl (Nat.zero_le _) (Nat.zero_le _) ?_))
    · rw [q3, q7]
      exact hQ _ ((hC.up (by simp [pV])).up (by simp [pV])) (by rw [up_k (by decide), up_k (by decide), e6]) (by rw [up_k (by decide), up_k (by decide), e7]) (by rw [up_k (by decide), up_at, bi_f (by omega)]) (by rw [up_j (by decide), up_j (by decide)]; exact hA) (by rw [up_at]; exact hbm)
    · rw [q3, q7]
      exact hQ _ ((hC.up (by simp [pV])).up (by simp [pV])) (by rw [up_k (by decide), up_k (by decide), e6]) (by rw [up_k (by decide), up_k (by decide), e7]) (by rw [up_k (by decide), up_at, bi_t (by omega)]) (by rw [up_j (by decide), up_j (by decide)]; exact hA) (by rw [up_at]; exact hbm)
  intro k
  induction k with
  | zero =>
    intro W0 at_ mi x4 hlen hC e3 hcl e6 e7 hA hrg h0' h1' hw he
    rw [wayL, List.append_nil] at hw
    rw [wayE] at he
    refine s_iload_n (dc kc_X6_follow_0 20 rfl) rfl <| k_b (dc kc_X6_follow_0 21 rfl) rfl <| s_icmp_ge (tgt := 112) (dc kc_X6_follow_0 22 rfl) rfl (fun c35 => (?_)) (fun c35 => (?_))
    · exact fin mi at_ _ _ hC e3 (by rw [e6, hw]) (by rw [e7, hw]) (by rw [← hw]; exact hA) he h0'
    · exfalso; omega
  | succ k ih =>
    intro W0 at_ mi x4 hlen hC e3 hcl e6 e7 hA hrg h0' h1' hw he
    have hbit : 0 ≤ at_ → (bAnd (bShr (mi r 50 7) (6 + 3 * at_)) 1 = 0 ↔ at_ ∉ W0.reverse) := by
      intro ha
      rw [e7, (msk_Bm hrg).bit (by omega) (by omega), List.mem_reverse]
      have : 6 + 3 * at_ ∈ W0.map (fun x => 6 + 3 * x) ↔ at_ ∈ W0 := by
        rw [List.mem_map]
        constructor
        · rintro ⟨x, h1, h2⟩
          rw [show at_ = x by omega]; exact h1
        · intro h
          exact ⟨at_, h, rfl⟩
      rw [this]
    have stopf : (at_ = -1 ∨ at_ ∈ W0.reverse) → ∀ x3 x4, Run (d+1) mt_X6_follow Q (n, mr, 0, 0) mi 112 [vR (some (r, 50)), vI hd, vI at_, x3, x4] [] := by
      intro hs x3 x4
      rw [wayL_stop hs, List.append_nil] at hw
      rw [wayE_stop hs] at he
      exact fin mi at_ _ _ hC e3 (by rw [e6, hw]) (by rw [e7, hw]) (by rw [← hw]; exact hA) he h0'
    refine s_iload_n (dc kc_X6_follow_0 20 rfl) rfl <| k_b (dc kc_X6_follow_0 21 rfl) rfl <| s_icmp_ge (tgt := 112) (dc kc_X6_follow_0 22 rfl) rfl (fun c35 => (?_)) (fun c35 => (s_iload_n (dc kc_X6_follow_0 23 rfl) rfl <| s_if_lt (tgt := 112) (dc kc_X6_follow_0 24 rfl) rfl (fun c39 => (?_)) (fun c39 => (k_b (dc kc_X6_follow_0 25 rfl) rfl <| k_i (dc kc_X6_follow_0 26 rfl) rfl <| s_iload_n (dc kc_X6_follow_0 27 rfl) rfl <| b_imul (dc kc_X6_follow_0 28 rfl) (by first | omega | (simp [up] <;> omega)) (by first | omega | (simp [up] <;> omega)) <| b_iadd (dc kc_X6_follow_0 29 rfl) (by first | omega | (simp [up] <;> omega)) (by first | omega | (simp [up] <;> omega)) <| t_i4 (dc kc_X6_follow_0 30 rfl) (Nat.le_of_ble_eq_true rfl) rfl <| r_aload_n (dc kc_X6_follow_0 31 rfl) rfl <| s_getI (dc kc_X6_follow_0 32 rfl) fl_X6_35 <| s_iload (dc kc_X6_follow_0 33 rfl) rfl <| s_ishr (dc kc_X6_follow_0 34 rfl) <| k_i (dc kc_X6_follow_0 35 rfl) rfl <| s_iand (dc kc_X6_follow_0 36 rfl) <| s_if_eq (tgt := 65) (dc kc_X6_follow_0 37 rfl) rfl (fun c59 => (?_)) (fun c59 => (s_goto (tgt := 112) (dc kc_X6_follow_0 38 rfl) rfl <| ?_))))))
    · exfalso; omega
    · exact stopf (Or.inl (by omega)) _ _
    · have hni := (hbit (by omega)).mp c59
      have hst : ¬ (at_ = -1 ∨ at_ ∈ W0.reverse) := fun z => z.elim (by omega) hni
      have hnx := hc.2.2 at_ (by omega) (by omega)
      rw [wayL, if_neg hst] at hw
      rw [wayE, if_neg hst] at he
      have e1 : (W0 ++ [at_]).reverse = at_ :: W0.reverse := by simp
      have q6 : ∀ v, up mi r 50 7 v r 50 6 = mi r 50 6 := fun v => up_k (by decide)
      have q6' : ∀ v w, up (up mi r 50 7 v) r 53 (mi r 50 6) w r 50 6 = mi r 50 6 := fun v w => by rw [up_j (by decide), q6]
      have qc : ∀ v w x i, up (up (up mi r 50 7 v) r 53 (mi r 50 6) w) r 50 6 x g 16 i = c i := fun v w x i => by rw [up_j (by decide), up_j (by decide), up_j (by decide)]; exact hcl i
      refine r_aload_n (dc kc_X6_follow_0 39 rfl) rfl <| s_dup (dc kc_X6_follow_1 0 rfl) rfl <| s_getI (dc kc_X6_follow_1 1 rfl) fl_X6_35 <| k_i (dc kc_X6_follow_1 2 rfl) rfl <| s_iload (dc kc_X6_follow_1 3 rfl) rfl <| s_ishl (dc kc_X6_follow_1 4 rfl) <| s_ior (dc kc_X6_follow_1 5 rfl) <| s_putI (dc kc_X6_follow_1 6 rfl) fl_X6_35 <| r_aload_n (dc kc_X6_follow_1 7 rfl) rfl <| s_getA (dc kc_X6_follow_1 8 rfl) fl_X6_29 (ly_50_5 hL (by assumption)) <| r_aload_n (dc kc_X6_follow_1 9 rfl) rfl <| s_getI (dc kc_X6_follow_1 10 rfl) fl_X6_32 <| s_iload_n (dc kc_X6_follow_1 11 rfl) rfl <| s_iastore (dc kc_X6_follow_1 12 rfl) rfl (by first | omega | (simp [up] <;> omega)) (by first | omega | (simp [up] <;> omega)) <| r_aload_n (dc kc_X6_follow_1 13 rfl) rfl <| s_dup (dc kc_X6_follow_1 14 rfl) rfl <| s_getI (dc kc_X6_follow_1 15 rfl) fl_X6_32 <| k_i (dc kc_X6_follow_1 16 rfl) rfl <| b_iadd (dc kc_X6_follow_1 17 rfl) (by first | omega | (simp [up] <;> omega)) (by first | omega | (simp [up] <;> omega)) <| s_putI (dc kc_X6_follow_1 18 rfl) fl_X6_32 <| r_aload_n (dc kc_X6_follow_1 19 rfl) rfl <| s_getA (dc kc_X6_follow_1 20 rfl) fl_X6_9 hcel <| s_iload (dc kc_X6_follow_1 21 rfl) rfl <| s_iaload (dc kc_X6_follow_1 22 rfl) rfl (by first | omega | (simp [up] <;> omega)) (by first | omega | (simp [up] <;> omega)) <| t_i2 (dc kc_X6_follow_1 23 rfl) (Nat.le_of_ble_eq_true rfl) rfl <| b_inc3 (dc kc_X6_follow_1 24 rfl) rfl (Nat.le_of_ble_eq_true rfl) rfl (by first | omega | (simp [up] <;> omega)) (by first | omega | (simp [up] <;> omega)) <| s_goto (tgt := 32) (dc kc_X6_follow_1 25 rfl) rfl <| ?_
      rw [q6, q6', qc]
      have := ih (W0 ++ [at_]) (c (6 + 3 * at_)) (up (up (up mi r 50 7 (bOr (mi r 50 7) (bShl 1 (6 + 3 * at_)))) r 53 (mi r 50 6) at_) r 50 6 (mi r 50 6 + 1)) (vI (6 + 3 * at_)) (by simp; omega) (((hC.up (by simp [pV])).up (by simp [pV])).up (by simp [pV])) (by rw [up_k (by decide), up_j (by decide), up_k (by decide), e3]) (qc _ _ _) (by rw [up_at, e6]; simp) (by rw [up_k (by decide), up_j (by decide), up_at, e7, msk_snoc]) (by rw [up_j (by decide), up_ud, up_j (by decide), e6]; exact hA.snoc) (fun x hx => ?_) hnx.1 hnx.2.1 (by rw [e1, List.append_assoc]; exact hw) (by rw [e1]; exact he)
      · rw [show (((W0 ++ [at_]).length : Nat) : Int) = (W0.length : Int) + 1 by simp] at this
        exact this
      · rcases List.mem_append.mp hx with z | z
        · exact hrg x z
        · rw [List.mem_singleton] at z; omega
    · refine stopf (Or.inr (Classical.byContradiction fun z => c59 ((hbit (by omega)).mpr z))) _ _
theorem u_follow (hL : Lay G mr) {mi : MI} {r g : Nat} (hr : r < 5) (hcel : mr r 50 0 = some (g, 16)) (hc : VC (clG mi g)) {hd : Int} (h0 : 0 ≤ hd) (h3 : hd < 3) {rd : List Int} (hB : Bm (mi r 50 3) rd) (hQ : ∀ mi', Cg (pV r) mi mi' → mi' r 50 6 = (way (clG mi g) hd).length → mi' r 50 7 = msk (way (clG mi g) hd) → mi' r 50 8 = bi (wend (clG mi g) hd = -1) → Arr (mi' r 53) (way (clG mi g) hd) → Bm (mi' r 50 3) (askW (clG mi g) hd 0 0 ++ rd) → Q (vX 0) mi' n mr) : Tx (d+1) mt_X6_follow [vR (some (r, 50)), vI hd] mi n mr Q := by
  have hok : okI G 50 r := hr
  refine tx_intro (ls := [vR (some (r, 50)), vI hd, vX 0, vX 0, vX 0]) om_X6_follow rfl (Nat.le_of_ble_eq_true rfl) ?_
  have hh := hc.1 hd h0 h3
  have ec : ∀ i, up (up mi r 50 6 0) r 50 7 0 g 16 i = clG mi g i := fun i => by rw [up_j (by decide), up_j (by decide)]
  refine r_aload_n (dc kc_X6_follow_0 0 rfl) rfl <| k_i (dc kc_X6_follow_0 1 rfl) rfl <| s_putI (dc kc_X6_follow_0 2 rfl) fl_X6_32 <| r_aload_n (dc kc_X6_follow_0 3 rfl) rfl <| k_i (dc kc_X6_follow_0 4 rfl) rfl <| s_putI (dc kc_X6_follow_0 5 rfl) fl_X6_35 <| s_iload_n (dc kc_X6_follow_0 6 rfl) rfl <| s_if_lt (tgt := 28) (dc kc_X6_follow_0 7 rfl) rfl (fun c11 => (k_i (dc kc_X6_follow_0 16 rfl) rfl <| t_i2 (dc kc_X6_follow_0 17 rfl) (Nat.le_of_ble_eq_true rfl) rfl <| k_i (dc kc_X6_follow_0 18 rfl) rfl <| t_i3 (dc kc_X6_follow_0 19 rfl) (Nat.le_of_ble_eq_true rfl) rfl <| ?_)) (fun c11 => (s_iload_n (dc kc_X6_follow_0 8 rfl) rfl <| k_i (dc kc_X6_follow_0 9 rfl) rfl <| s_icmp_ge (tgt := 28) (dc kc_X6_follow_0 10 rfl) rfl (fun c16 => (k_i (dc kc_X6_follow_0 16 rfl) rfl <| t_i2 (dc kc_X6_follow_0 17 rfl) (Nat.le_of_ble_eq_true rfl) rfl <| k_i (dc kc_X6_follow_0 18 rfl) rfl <| t_i3 (dc kc_X6_follow_0 19 rfl) (Nat.le_of_ble_eq_true rfl) rfl <| ?_)) (fun c16 => (r_aload_n (dc kc_X6_follow_0 11 rfl) rfl <| s_getA (dc kc_X6_follow_0 12 rfl) fl_X6_9 hcel <| s_iload_n (dc kc_X6_follow_0 13 rfl) rfl <| s_iaload (dc kc_X6_follow_0 14 rfl) rfl (by first | omega | (simp [up] <;> omega)) (by first | omega | (simp [up] <;> omega)) <| s_goto (tgt := 29) (dc kc_X6_follow_0 15 rfl) rfl <| t_i2 (dc kc_X6_follow_0 17 rfl) (Nat.le_of_ble_eq_true rfl) rfl <| k_i (dc kc_X6_follow_0 18 rfl) rfl <| t_i3 (dc kc_X6_follow_0 19 rfl) (Nat.le_of_ble_eq_true rfl) rfl <| ?_))))
  · exfalso; omega
  · exfalso; omega
  · rw [ec]
    exact follow_loop hL hc hr hcel h0 h3 hB hQ 6 [] _ _ _ rfl ((Cg.rf.up (by simp [pV])).up (by simp [pV])) (by rw [up_k (by decide), up_k (by decide)]) ec (by rw [up_k (by decide), up_at]; rfl) (by rw [up_at]; rfl) Arr.nil (fun x hx => by cases hx) hh.1 hh.2 rfl rfl
end RDR
