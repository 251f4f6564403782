/-! the class: a row compiled, a text compiled -/
theorem itr_succ {F : MS → MS} (n : Nat) (s : MS) : itr F (n + 1) s = F (itr F n s) := by
  rw [itr_add]; rfl
abbrev RowT : Type := Int × Int × List CT × List CT × List CT
def rwS (s : MS) : RowT := s.2.2.2.2.2
def rlen (q : RowT) : Int := lng q.2.2.1 q.2.2.2.1 q.2.2.2.2
def finR (tk nu nx : Int → Int) (o f : Int) : MS := itr (mv psG tk nu nx o) 10000 (f, 0, 0, -1, [700 + o], 9, 0, [], [], [])
/-- the whole text: the fault's place, or the rows -/
def cmpG (F : Int → MS) (tk nx : Int → Int) : Nat → Int → Int ⊕ List RowT
  | 0, f => .inl f
  | k + 1, f => if flt (F f) ≠ -1 then .inl (flt (F f))
    else if tk (F f).1 = 91 then (match cmpG F tk nx k (nx (F f).1) with
      | .inl p => .inl p
      | .inr L => .inr (rwS (F f) :: L))
    else if tk (F f).1 = 23 then .inr [rwS (F f)]
    else .inl (F f).1
/-- a row that is there, in the compiler's text -/
def RW (mi : MI) (B R : Int) (q : RowT) : Prop := mi 20 22 R = B ∧ mi 20 23 R = B + q.2.2.1.length ∧ (q.2.1 = 1 → mi 20 24 R = B + q.2.2.1.length + q.2.2.2.1.length) ∧ mi 20 25 R = B + rlen q ∧ mi 20 26 R = q.1 ∧ Bm (mi 20 27 R) (needL (q.2.2.1 ++ q.2.2.2.1 ++ q.2.2.2.2)) ∧ slcC (mi 20 21) (rlen q).toNat B = q.2.2.1 ++ q.2.2.2.1 ++ q.2.2.2.2
theorem rlen_0 (q : RowT) : 0 ≤ rlen q := by unfold rlen lng; omega
theorem RW.mv {mi m : MI} {B R B' R' : Int} {q : RowT} (h : RW mi B R q) (hg : Cg (pKr B' R') mi m) (h1 : B + rlen q ≤ B') (h2 : R ≠ R') : RW m B R q := by
  obtain ⟨a1, a2, a3, a4, a5, a6, a7⟩ := h
  have h0 := rlen_0 q
  have e : ∀ b : Nat, 22 ≤ b → b ≤ 27 → m 20 b R = mi 20 b R := fun b z1 z2 => hg.at (by simp [pKr]; omega)
  refine ⟨by rw [e 22 (by omega) (by omega)]; exact a1, by rw [e 23 (by omega) (by omega)]; exact a2, by rw [e 24 (by omega) (by omega)]; exact a3, by rw [e 25 (by omega) (by omega)]; exact a4, by rw [e 26 (by omega) (by omega)]; exact a5, by rw [e 27 (by omega) (by omega)]; exact a6, ?_⟩
  rw [← a7]
  exact slcC_ext _ _ (fun j j0 j1 => hg.at (by simp [pKr]; omega))
def sml : List RowT → Int
  | [] => 0
  | q :: L => rlen q + sml L
theorem sml_app (L : List RowT) (q : RowT) : sml (L ++ [q]) = sml L + rlen q := by
  induction L with
  | nil => simp [sml]
  | cons a L ih => rw [List.cons_append, sml, sml, ih]; omega
theorem sml_0 (L : List RowT) : 0 ≤ sml L := by
  induction L with
  | nil => simp [sml]
  | cons a L ih => rw [sml]; have := rlen_0 a; omega
theorem sml_tk {L : List RowT} {i : Nat} {q : RowT} (h : L[i]? = some q) : sml (L.take i) + rlen q ≤ sml L := by
  induction L generalizing i with
  | nil => simp at h
  | cons a L ih =>
    cases i with
    | zero =>
      simp at h
      subst h
      have := sml_0 L
      rw [List.take_zero, sml, sml]
      omega
    | succ i =>
      have := ih (i := i) (by simpa using h)
      rw [List.take_succ_cons, sml, sml]
      omega
def Rws (mi : MI) (L : List RowT) : Prop := ∀ (i : Nat) (q : RowT), L[i]? = some q → RW mi (sml (L.take i)) i q
theorem Rws.mv {mi m : MI} {B' R' : Int} {L : List RowT} (h : Rws mi L) (hg : Cg (pKr B' R') mi m) (h1 : sml L ≤ B') (h2 : (L.length : Int) ≤ R') : Rws m L := fun i q hq => by
  have := sml_tk hq
  obtain ⟨hi, -⟩ := List.getElem?_eq_some_iff.mp hq
  exact (h i q hq).mv hg (by omega) (by omega)
theorem Rws.snoc {mi : MI} {L : List RowT} {q : RowT} (h : Rws mi L) (hq : RW mi (sml L) L.length q) : Rws mi (L ++ [q]) := fun i q' hq' => by
  by_cases hi : i < L.length
  · rw [List.getElem?_append_left hi] at hq'
    rw [List.take_append_of_le_length (by omega)]
    exact h i q' hq'
  · have hi2 : i < (L ++ [q]).length := (List.getElem?_eq_some_iff.mp hq').1
    rw [List.length_append, List.length_singleton] at hi2
    have hil : i = L.length := by omega
    subst hil
    rw [List.getElem?_append_right (Nat.le_refl _), Nat.sub_self] at hq'
    cases hq'
    rw [List.take_append_of_le_length (Nat.le_refl _), List.take_length]
    exact hq
section CMR
variable {d n G : Nat} {mr : MR} {Q : V → MI → Nat → MR → Prop} {tk nu nx : Int → Int} {N B R o : Int}
/-- ahead of a row -/
def CB (tk : Int → Int) (mi : MI) (f B R : Int) : Prop := (0 ≤ mi 0 45 7 ∧ mi 0 45 7 < mi 0 45 5 ∧ mi 0 48 (mi 0 45 7) = f) ∧ mi 0 45 6 = tk f ∧ mi 0 45 12 = -1 ∧ mi 20 20 0 = R ∧ mi 20 20 1 = B
theorem u_beginRow (hL : Lay G mr) {mi : MI} (h0 : 0 ≤ mi 20 20 0) (h1 : mi 20 20 0 < 12) (hQ : Q (vX 0) (up (up (up (up (up mi 20 22 (mi 20 20 0) (mi 20 20 1)) 20 23 (mi 20 20 0) (mi 20 20 1)) 20 24 (mi 20 20 0) (mi 20 20 1)) 20 26 (mi 20 20 0) 9) 20 27 (mi 20 20 0) 0) n mr) : Tx (d+1) mt_X8_beginRow [vR (some (20, 20))] mi n mr Q := by
  have hok : okI G 20 20 := ok20
  have e0 : ∀ (b : Nat) (k x : Int) (m : MI), b ≠ 20 → up m 20 b k x 20 20 = m 20 20 := fun b k x m hb => up_j (Ne.symm hb)
  refine tx_intro (ls := [vR (some (20, 20))]) om_X8_beginRow rfl (Nat.le_of_ble_eq_true rfl) ?_
  refine r_aload_n (dc kc_X8_beginRow 0 rfl) rfl <| s_getI (dc kc_X8_beginRow 1 rfl) fl_X8_9 <| k_b (dc kc_X8_beginRow 2 rfl) rfl <| s_icmp_ge (tgt := 69) (dc kc_X8_beginRow 3 rfl) rfl (fun c6 => (s_return (dc kc_X8_beginRow 37 rfl) rfl (Nat.zero_le _) (Nat.zero_le _) ?_)) (fun c6 => (r_aload_n (dc kc_X8_beginRow 4 rfl) rfl <| s_getA (dc kc_X8_beginRow 5 rfl) fl_X8_22 (ly_20_3 hL (by assumption)) <| r_aload_n (dc kc_X8_beginRow 6 rfl) rfl <| s_getI (dc kc_X8_beginRow 7 rfl) fl_X8_9 <| r_aload_n (dc kc_X8_beginRow 8 rfl) rfl <| s_getI (dc kc_X8_beginRow 9 rfl) fl_X8_15 <| s_iastore (dc kc_X8_beginRow 10 rfl) rfl (by first | omega | (simp [up] <;> omega)) (by first | omega | (simp [up] <;> omega)) <| ?_))
  · exfalso; omega
  · refine r_aload_n (dc kc_X8_beginRow 11 rfl) rfl <| s_getA (dc kc_X8_beginRow 12 rfl) fl_X8_25 (ly_20_4 hL (by assumption)) <| r_aload_n (dc kc_X8_beginRow 13 rfl) rfl <| s_getI (dc kc_X8_beginRow 14 rfl) fl_X8_9 <| r_aload_n (dc kc_X8_beginRow 15 rfl) rfl <| s_getI (dc kc_X8_beginRow 16 rfl) fl_X8_15 <| s_iastore (dc kc_X8_beginRow 17 rfl) rfl (by first | omega | (simp [up] <;> omega)) (by first | omega | (simp [up] <;> omega)) <| ?_
    simp only [e0 22 _ _ _ (by decide), e0 23 _ _ _ (by decide)]
    refine r_aload_n (dc kc_X8_beginRow 18 rfl) rfl <| s_getA (dc kc_X8_beginRow 19 rfl) fl_X8_28 (ly_20_5 hL (by assumption)) <| r_aload_n (dc kc_X8_beginRow 20 rfl) rfl <| s_getI (dc kc_X8_beginRow 21 rfl) fl_X8_9 <| r_aload_n (dc kc_X8_beginRow 22 rfl) rfl <| s_getI (dc kc_X8_beginRow 23 rfl) fl_X8_15 <| s_iastore (dc kc_X8_beginRow 24 rfl) rfl (by first | omega | (simp [up] <;> omega)) (by first | omega | (simp [up] <;> omega)) <| ?_
    simp only [e0 22 _ _ _ (by decide), e0 23 _ _ _ (by decide), e0 24 _ _ _ (by decide)]
    refine r_aload_n (dc kc_X8_beginRow 25 rfl) rfl <| s_getA (dc kc_X8_beginRow 26 rfl) fl_X8_34 (ly_20_7 hL (by assumption)) <| r_aload_n (dc kc_X8_beginRow 27 rfl) rfl <| s_getI (dc kc_X8_beginRow 28 rfl) fl_X8_9 <| k_b (dc kc_X8_beginRow 29 rfl) rfl <| s_iastore (dc kc_X8_beginRow 30 rfl) rfl (by first | omega | (simp [up] <;> omega)) (by first | omega | (simp [up] <;> omega)) <| ?_
    simp only [e0 22 _ _ _ (by decide), e0 23 _ _ _ (by decide), e0 24 _ _ _ (by decide), e0 26 _ _ _ (by decide)]
    refine r_aload_n (dc kc_X8_beginRow 31 rfl) rfl <| s_getA (dc kc_X8_beginRow 32 rfl) fl_X8_37 (ly_20_8 hL (by assumption)) <| r_aload_n (dc kc_X8_beginRow 33 rfl) rfl <| s_getI (dc kc_X8_beginRow 34 rfl) fl_X8_9 <| k_i (dc kc_X8_beginRow 35 rfl) rfl <| s_iastore (dc kc_X8_beginRow 36 rfl) rfl (by first | omega | (simp [up] <;> omega)) (by first | omega | (simp [up] <;> omega)) <| s_return (dc kc_X8_beginRow 37 rfl) rfl (Nat.zero_le _) (Nat.zero_le _) ?_
    simp only [e0 22 _ _ _ (by decide), e0 23 _ _ _ (by decide), e0 24 _ _ _ (by decide), e0 26 _ _ _ (by decide)]
    exact hQ
theorem u_endRow (hL : Lay G mr) {mi : MI} (h0 : 0 ≤ mi 20 20 0) (h1 : mi 20 20 0 < 12) (hQ : Q (vX 0) (up (up mi 20 25 (mi 20 20 0) (mi 20 20 1)) 20 20 0 (mi 20 20 0 + 1)) n mr) : Tx (d+1) mt_X8_endRow [vR (some (20, 20))] mi n mr Q := by
  have hok : okI G 20 20 := ok20
  have e0 : up mi 20 25 (mi 20 20 0) (mi 20 20 1) 20 20 = mi 20 20 := up_j (by decide)
  refine tx_intro (ls := [vR (some (20, 20))]) om_X8_endRow rfl (Nat.le_of_ble_eq_true rfl) ?_
  refine r_aload_n (dc kc_X8_endRow 0 rfl) rfl <| s_getI (dc kc_X8_endRow 1 rfl) fl_X8_9 <| k_b (dc kc_X8_endRow 2 rfl) rfl <| s_icmp_ge (tgt := 32) (dc kc_X8_endRow 3 rfl) rfl (fun c6 => (s_return (dc kc_X8_endRow 17 rfl) rfl (Nat.zero_le _) (Nat.zero_le _) ?_)) (fun c6 => (r_aload_n (dc kc_X8_endRow 4 rfl) rfl <| s_getA (dc kc_X8_endRow 5 rfl) fl_X8_31 (ly_20_6 hL (by assumption)) <| r_aload_n (dc kc_X8_endRow 6 rfl) rfl <| s_getI (dc kc_X8_endRow 7 rfl) fl_X8_9 <| r_aload_n (dc kc_X8_endRow 8 rfl) rfl <| s_getI (dc kc_X8_endRow 9 rfl) fl_X8_15 <| s_iastore (dc kc_X8_endRow 10 rfl) rfl (by first | omega | (simp [up] <;> omega)) (by first | omega | (simp [up] <;> omega)) <| r_aload_n (dc kc_X8_endRow 11 rfl) rfl <| s_dup (dc kc_X8_endRow 12 rfl) rfl <| s_getI (dc kc_X8_endRow 13 rfl) fl_X8_9 <| k_i (dc kc_X8_endRow 14 rfl) rfl <| b_iadd (dc kc_X8_endRow 15 rfl) (by first | omega | (simp [up] <;> omega)) (by first | omega | (simp [up] <;> omega)) <| s_putI (dc kc_X8_endRow 16 rfl) fl_X8_9 <| s_return (dc kc_X8_endRow 17 rfl) rfl (Nat.zero_le _) (Nat.zero_le _) ?_))
  · exfalso; omega
  · rw [e0]; exact hQ
theorem Gs_0 {f : Int} (ho1 : o = 0 ∨ o = 1) (h0 : 0 ≤ f) (h1 : f ≤ N) (hB : B ≤ f) : Gs tk B N (f, 0, 0, -1, [700 + o], 9, 0, [], [], []) := by
  have hE : cE [700 + o] = 0 := by
    rw [cE, if_neg (by omega)]; rfl
  refine ⟨⟨h0, h1⟩, ⟨by show (0 : Int) ≤ 0; omega, by show (0 : Int) ≤ 60; omega⟩, fun _ z => absurd (show (0 : Int) = 60 from z) (by decide), ⟨by show -(0 : Int) ≤ 0; omega, by show (0 : Int) ≤ 8; omega⟩, fun z hz => ?_, by show 1 ≤ 256; omega, ⟨by show (-1 : Int) ≤ -1; omega, by show -1 ≤ N; omega⟩, fun _ => ⟨?_, ?_⟩⟩
  · have hz : z = 700 + o := List.mem_singleton.mp hz
    rw [hz]
    refine ⟨Or.inr (Or.inl (by omega)), fun q => ?_, fun q => ?_⟩ <;> omega
  · show B + lng [] [] [] + cE [700 + o] ≤ f
    rw [hE]; simp [lng]; exact hB
  · show lng [] [] [] + cE [700 + o] ≤ 0
    rw [hE]; simp [lng]
theorem u_compileRow (hL : Lay G mr) {mi : MI} {f : Int} (hT : TkE N tk nu nx) (hK : CK tk nu nx N mi) (hCB : CB tk mi f B R) (hN : N ≤ 400) (hR : 0 ≤ R ∧ R < 12) (hB : 0 ≤ B ∧ B ≤ f) (ho : mi 0 45 1 = o) (ho1 : o = 0 ∨ o = 1)
    (hQ : ∀ mi', Cg (pKr B R) mi mi' → CP tk mi' (finR tk nu nx o f).1 (finR tk nu nx o f).2.1 (finR tk nu nx o f).2.2.1 (flt (finR tk nu nx o f)) (stk (finR tk nu nx o f)) → mi' 20 20 0 = R + 1 → Gs tk B N (finR tk nu nx o f) → (flt (finR tk nu nx o f) = -1 → mi' 20 20 1 = B + rlen (rwS (finR tk nu nx o f)) ∧ RW mi' B R (rwS (finR tk nu nx o f))) → Q (vX 0) mi' n mr) : Tx (d+6) mt_X0_compileRow [vR (some (0, 45))] mi n mr Q := by
  obtain ⟨⟨a1, a2, a3⟩, a4, a5, a6, a7⟩ := hCB
  obtain ⟨-, -, ⟨f0, f1⟩, -⟩ := hK.2 _ a1 a2
  rw [a3] at f0 f1
  have hG0 : Gs tk B N (f, 0, 0, -1, [700 + o], 9, 0, [], [], []) := Gs_0 ho1 f0 f1 hB.2
  obtain ⟨K, hK10⟩ : ∃ K : Nat, K = 10000 := ⟨_, rfl⟩
  have hfin : finR tk nu nx o f = itr (mv psG tk nu nx o) K (f, 0, 0, -1, [700 + o], 9, 0, [], [], []) := by rw [hK10]; rfl
  rw [hfin] at hQ
  have fin : ∀ (m : MI) (x1 x2 : V), Cg (pKr B R) mi m → CM tk B R m (itr (mv psG tk nu nx o) K (f, 0, 0, -1, [700 + o], 9, 0, [], [], [])) → Gs tk B N (itr (mv psG tk nu nx o) K (f, 0, 0, -1, [700 + o], 9, 0, [], [], [])) → Run (d+6) mt_X0_compileRow Q (n, mr, 0, 0) m 146 [vR (some (0, 45)), x1, x2] [] := by
    intro m x1 x2 gm hM hG
    generalize itr (mv psG tk nu nx o) K (f, 0, 0, -1, [700 + o], 9, 0, [], [], []) = s at *
    obtain ⟨hC, ⟨y1, y2, y3⟩, hTR⟩ := hM
    refine r_aload_n (dc kc_X0_compileRow_1 32 rfl) rfl <| s_getO (dc kc_X0_compileRow_1 33 rfl) fl_X0_12 (ly_45_0 hL) <| c_v0 (dc kc_X0_compileRow_1 34 rfl) cl_X0_99 rfl (Nat.le_of_ble_eq_true rfl) (Nat.zero_le _) (Nat.zero_le _) ?_
    refine u_endRow hL (by omega) (by omega) ?_
    rw [y1]
    refine s_return (dc kc_X0_compileRow_1 35 rfl) rfl (Nat.zero_le _) (Nat.zero_le _) ?_
    refine hQ _ (gm.tr ((Cg.rf.up (by simp [pKr])).up (by simp [pKr]))) (hC.cX (fun b => by rw [up_g (by decide), up_g (by decide)])) up_at hG (fun z => ?_)
    obtain ⟨t1, t2, t3, t4, t5, t6, t7⟩ := hTR z
    refine ⟨by rw [up_k (by decide), up_j (by decide), t1]; rfl, ?_, ?_, ?_, ?_, ?_, ?_, ?_⟩
    · rw [up_j (by decide), up_j (by decide)]; exact t2
    · rw [up_j (by decide), up_j (by decide)]; exact t3
    · rw [up_j (by decide), up_j (by decide)]; exact t4
    · rw [up_j (by decide), up_at]; exact t1
    · rw [up_j (by decide), up_j (by decide)]; exact t5
    · rw [up_j (by decide), up_j (by decide)]; exact t6
    · rw [up_j (by decide), up_j (by decide)]; exact t7
  have loop : ∀ i : Nat, i ≤ K → ∀ (m : MI) (x2 : V), Cg (pKr B R) mi m → CM tk B R m (itr (mv psG tk nu nx o) i (f, 0, 0, -1, [700 + o], 9, 0, [], [], [])) → Gs tk B N (itr (mv psG tk nu nx o) i (f, 0, 0, -1, [700 + o], 9, 0, [], [], [])) → Run (d+6) mt_X0_compileRow Q (n, mr, 0, 0) m 44 [vR (some (0, 45)), vI (i : Int), x2] [] := by
    refine nloop ?_
    intro i hi ih m x2 gm hM hG
    have ihm : ∀ (m' : MI) (x2 : V), i < K → Cg (pKr B R) mi m' → CM tk B R m' (mv psG tk nu nx o (itr (mv psG tk nu nx o) i (f, 0, 0, -1, [700 + o], 9, 0, [], [], []))) → Run (d+6) mt_X0_compileRow Q (n, mr, 0, 0) m' 140 [vR (some (0, 45)), vI (i : Int), x2] [] := fun m' x2 hlt g' h' => by
      refine b_inc1 (dc kc_X0_compileRow_1 30 rfl) rfl (Nat.le_of_ble_eq_true rfl) rfl (by first | omega | (simp [up] <;> omega)) (by first | omega | (simp [up] <;> omega)) <| s_goto (tgt := 44) (dc kc_X0_compileRow_1 31 rfl) rfl <| ?_
      have := ih hlt m' x2 g' (by rw [itr_succ]; exact h') (by rw [itr_succ]; exact Gs_mv hT hG)
      rw [show ((i + 1 : Nat) : Int) = (i : Int) + 1 by omega] at this
      exact this
    have hfix : stk (itr (mv psG tk nu nx o) i (f, 0, 0, -1, [700 + o], 9, 0, [], [], [])) = [] → itr (mv psG tk nu nx o) K (f, 0, 0, -1, [700 + o], 9, 0, [], [], []) = itr (mv psG tk nu nx o) i (f, 0, 0, -1, [700 + o], 9, 0, [], [], []) := fun z => by
      rw [show K = i + (K - i) by omega, itr_add]
      exact itr_fix (mv_nil z) _
    have hlast : i = K → itr (mv psG tk nu nx o) K (f, 0, 0, -1, [700 + o], 9, 0, [], [], []) = itr (mv psG tk nu nx o) i (f, 0, 0, -1, [700 + o], 9, 0, [], [], []) := fun z => by rw [z]
    generalize itr (mv psG tk nu nx o) K (f, 0, 0, -1, [700 + o], 9, 0, [], [], []) = sN at *
    generalize itr (mv psG tk nu nx o) i (f, 0, 0, -1, [700 + o], 9, 0, [], [], []) = s at *
    obtain ⟨sf, su, sb, sl, sk, st, se, sp, sv, sc⟩ := s
    obtain ⟨hC, hX⟩ := id hM
    have hC : CP tk m sf su sb sl sk := hC
    have hX : CX m B R sl st se sp sv sc := hX
    obtain ⟨⟨b1, b2, b3⟩, b4, b5, b6, b7, b8, b9⟩ := id hC
    obtain ⟨⟨y1, y2, y3⟩, hTR⟩ := id hX
    cases sk with
    | nil =>
      have e := hfix rfl
      rw [List.length_nil] at b8
      refine s_iload_n (dc kc_X0_compileRow_0 22 rfl) rfl <| k_s (dc kc_X0_compileRow_0 23 rfl) rfl <| s_icmp_ge (tgt := 146) (dc kc_X0_compileRow_0 24 rfl) rfl (fun c48 => (?_)) (fun c48 => (r_aload_n (dc kc_X0_compileRow_0 25 rfl) rfl <| s_getI (dc kc_X0_compileRow_0 26 rfl) fl_X0_45 <| s_if_le (tgt := 146) (dc kc_X0_compileRow_0 27 rfl) rfl (fun c55 => (?_)) (fun c55 => (?_))))
      · exact fin m _ _ gm (by rw [e]; exact hM) (by rw [e]; exact hG)
      · exact fin m _ _ gm (by rw [e]; exact hM) (by rw [e]; exact hG)
      · exfalso; omega
    | cons y r =>
      rw [List.length_cons] at b8
      have hrl : r.length + 1 ≤ 256 := hG.2.2.2.2.2.1
      have hy : Sy y := hG.2.2.2.2.1 y List.mem_cons_self
      refine s_iload_n (dc kc_X0_compileRow_0 22 rfl) rfl <| k_s (dc kc_X0_compileRow_0 23 rfl) rfl <| s_icmp_ge (tgt := 146) (dc kc_X0_compileRow_0 24 rfl) rfl (fun c48 => (?_)) (fun c48 => (r_aload_n (dc kc_X0_compileRow_0 25 rfl) rfl <| s_getI (dc kc_X0_compileRow_0 26 rfl) fl_X0_45 <| s_if_le (tgt := 146) (dc kc_X0_compileRow_0 27 rfl) rfl (fun c55 => (?_)) (fun c55 => (?_))))
      · have e := hlast (by omega)
        exact fin m _ _ gm (by rw [e]; exact hM) (by rw [e]; exact hG)
      · exfalso; omega
      · have e9 : up m 0 45 9 (m 0 45 9 - 1) 0 45 9 = r.length := by rw [up_at, b8]; omega
        have e49 : up m 0 45 9 (m 0 45 9 - 1) 0 49 = m 0 49 := up_j (by decide)
        rw [List.reverse_cons] at b9
        have etop := b9.top
        rw [List.length_reverse] at etop
        have g1 : Cg (pKr B R) m (up m 0 45 9 (m 0 45 9 - 1)) := Cg.rf.up (by simp [pKr])
        have hK1 : CK tk nu nx N (up m 0 45 9 (m 0 45 9 - 1)) := (hK.mv gm).mv g1
        have hC1 : CP tk (up m 0 45 9 (m 0 45 9 - 1)) sf su sb sl r := ⟨⟨by simp [up]; exact b1, by simp [up]; exact b2, by simp [up]; exact b3⟩, by simp [up]; exact b4, by simp [up]; exact b5, by simp [up]; exact b6, by simp [up]; exact b7, e9, by rw [e49]; exact b9.pre⟩
        have hX1 : CX (up m 0 45 9 (m 0 45 9 - 1)) B R sl st se sp sv sc := hX.mv (fun b => by rw [up_g (by decide)])
        have ho2 : up m 0 45 9 (m 0 45 9 - 1) 0 45 1 = o := by rw [up_k (by decide), gm.at (by simp [pKr]), ho]
        refine r_aload_n (dc kc_X0_compileRow_0 28 rfl) rfl <| s_dup (dc kc_X0_compileRow_0 29 rfl) rfl <| s_getI (dc kc_X0_compileRow_0 30 rfl) fl_X0_45 <| k_i (dc kc_X0_compileRow_0 31 rfl) rfl <| b_isub (dc kc_X0_compileRow_0 32 rfl) (by first | omega | (simp [up] <;> omega)) (by first | omega | (simp [up] <;> omega)) <| s_putI (dc kc_X0_compileRow_0 33 rfl) fl_X0_45 <| r_aload_n (dc kc_X0_compileRow_0 34 rfl) rfl <| s_getA (dc kc_X0_compileRow_0 35 rfl) fl_X0_42 (ly_45_8 hL) <| r_aload_n (dc kc_X0_compileRow_0 36 rfl) rfl <| s_getI (dc kc_X0_compileRow_0 37 rfl) fl_X0_45 <| s_iaload (dc kc_X0_compileRow_0 38 rfl) rfl (by first | omega | (simp [up] <;> omega)) (by first | omega | (simp [up] <;> omega)) <| ?_
        rw [e9, e49, etop]
        have hlt : i < K := by omega
        generalize up m 0 45 9 (m 0 45 9 - 1) = m1 at *
        have g2 := gm.tr g1
        have hy0 := hy.1
        unfold Sy0 at hy0
        obtain ⟨⟨w1, w2, w3⟩, hTR1⟩ := id hX1
        refine t_i2 (dc kc_X0_compileRow_0 39 rfl) (Nat.le_of_ble_eq_true rfl) rfl <| s_iload_n (dc kc_X0_compileRow_1 0 rfl) rfl <| k_s (dc kc_X0_compileRow_1 1 rfl) rfl <| s_icmp_lt (tgt := 93) (dc kc_X0_compileRow_1 2 rfl) rfl (fun c82 => (s_iload_n (dc kc_X0_compileRow_1 7 rfl) rfl <| k_s (dc kc_X0_compileRow_1 8 rfl) rfl <| s_icmp_lt (tgt := 116) (dc kc_X0_compileRow_1 9 rfl) rfl (fun c97 => (s_iload_n (dc kc_X0_compileRow_1 18 rfl) rfl <| k_s (dc kc_X0_compileRow_1 19 rfl) rfl <| s_icmp_lt (tgt := 135) (dc kc_X0_compileRow_1 20 rfl) rfl (fun c120 => (r_aload_n (dc kc_X0_compileRow_1 27 rfl) rfl <| s_iload_n (dc kc_X0_compileRow_1 28 rfl) rfl <| c_v1 (dc kc_X0_compileRow_1 29 rfl) cl_X0_96 rfl (Nat.le_of_ble_eq_true rfl) (Nat.zero_le _) (Nat.zero_le _) ?_)) (fun c120 => (r_aload_n (dc kc_X0_compileRow_1 21 rfl) rfl <| s_iload_n (dc kc_X0_compileRow_1 22 rfl) rfl <| k_s (dc kc_X0_compileRow_1 23 rfl) rfl <| b_isub (dc kc_X0_compileRow_1 24 rfl) (by first | omega | (simp [up] <;> omega)) (by first | omega | (simp [up] <;> omega)) <| c_v1 (dc kc_X0_compileRow_1 25 rfl) cl_X0_93 rfl (Nat.le_of_ble_eq_true rfl) (Nat.zero_le _) (Nat.zero_le _) ?_)))) (fun c97 => (r_aload_n (dc kc_X0_compileRow_1 10 rfl) rfl <| s_getO (dc kc_X0_compileRow_1 11 rfl) fl_X0_12 (ly_45_0 hL) <| s_iload_n (dc kc_X0_compileRow_1 12 rfl) rfl <| k_s (dc kc_X0_compileRow_1 13 rfl) rfl <| b_isub (dc kc_X0_compileRow_1 14 rfl) (by first | omega | (simp [up] <;> omega)) (by first | omega | (simp [up] <;> omega)) <| k_i (dc kc_X0_compileRow_1 15 rfl) rfl <| c_v2 (dc kc_X0_compileRow_1 16 rfl) cl_X0_89 rfl (Nat.le_of_ble_eq_true rfl) (Nat.zero_le _) (Nat.zero_le _) ?_)))) (fun c82 => (r_aload_n (dc kc_X0_compileRow_1 3 rfl) rfl <| s_iload_n (dc kc_X0_compileRow_1 4 rfl) rfl <| c_v1 (dc kc_X0_compileRow_1 5 rfl) cl_X0_86 rfl (Nat.le_of_ble_eq_true rfl) (Nat.zero_le _) (Nat.zero_le _) ?_))
        · refine u_takeDue hL hK1 hC1 hX1 hG hy (by omega) (o := o) (fun m2 g3 h2 => ?_)
          exact ihm _ _ hlt (g2.tr g3) h2
        · refine u_takeNum hL hK1 hC1 hX1 (w := y - 300) (by rw [show 300 + (y - 300) = y by omega]; exact hG) hT ?_ hR hB.1 hN (o := o) (fun m2 g3 h2 => ?_)
          · rcases hy.2.1 (by omega) (by omega) with z | z | z
            · left; omega
            · right; left; omega
            · right; right; exact z
          · refine s_goto (tgt := 140) (dc kc_X0_compileRow_1 26 rfl) rfl <| ?_
            refine ihm _ _ hlt (g2.tr g3) ?_
            rw [show 300 + (y - 300) = y by omega] at h2
            exact h2
        · -- below 700
          refine u_temit hL (by omega) (fun hlt4 => ?_) (fun hge => ?_)
          · refine s_goto (tgt := 140) (dc kc_X0_compileRow_1 17 rfl) rfl <| ?_
            have ⟨q1, q2, q3, q4, q5⟩ := hy.2.2 (by omega) (by omega)
            refine ihm _ _ hlt (g2.tr ((Cg.rf.up (by simp [pKr]; omega)).up (by simp [pKr]))) ?_
            rw [mv_4 (by omega) (by omega)]
            refine ⟨hC1.cX (fun b => by rw [up_g (by decide), up_g (by decide)]), ⟨by rw [up_k (by decide), up_j (by decide)]; exact w1, by rw [up_at]; omega, by rw [up_at]; omega⟩, fun z => ?_⟩
            refine TR.emit (q := (y - 400, 0)) (hTR1 z) (by show 0 ≤ y - 400; omega) q2 (by show (0 : Int) ≤ 0; omega) (by show (0 : Int) < 128; omega) up_at ?_ (fun b z1 z2 => by rw [up_j (by omega), up_j (by omega)]) ?_
            · rw [up_j (by decide), up_ud]
            · rw [up_j (by decide), up_j (by decide)]
              have hn : nd1 (y - 400, 0) = [] := by
                unfold nd1
                rw [if_neg (show ¬ y - 400 = 9 by omega), if_neg (show ¬ (y - 400 = 20 ∨ y - 400 = 2) by omega), if_neg (show ¬ y - 400 = 1 by omega), if_neg (show ¬ (y - 400 = 19 ∨ y - 400 = 0 ∨ y - 400 = 25 ∨ y - 400 = 3) by omega)]
              rw [hn, List.append_nil]
              exact (hTR1 z).2.2.2.2.2.1
          · -- full: only where it has failed
            refine s_goto (tgt := 140) (dc kc_X0_compileRow_1 17 rfl) rfl <| ?_
            refine ihm _ _ hlt g2 ?_
            rw [mv_4 (by omega) (by omega)]
            refine ⟨hC1, ⟨w1, w2, w3⟩, fun z => ?_⟩
            exfalso
            have z : sl = -1 := z
            subst z
            have hgl : B + lng sp sv sc + cE (y :: r) ≤ sf ∧ _ := hG.2.2.2.2.2.2.2 rfl
            have hgl1 := hgl.1
            rw [cE, if_pos (by omega)] at hgl1
            have hce := cE_0 r
            have hsf : sf ≤ N := hG.1.2
            have := (hTR1 rfl).1
            omega
        · refine u_expand hL hK1 hC1 hX1 hG hT (by omega) hR ho2 ho1 (fun m2 g3 h2 => ?_)
          refine s_goto (tgt := 140) (dc kc_X0_compileRow_1 6 rfl) rfl <| ?_
          exact ihm _ _ hlt (g2.tr g3) h2
  refine tx_intro (ls := [vR (some (0, 45)), vX 0, vX 0]) om_X0_compileRow rfl (Nat.le_of_ble_eq_true rfl) ?_
  refine r_aload_n (dc kc_X0_compileRow_0 0 rfl) rfl <| k_i (dc kc_X0_compileRow_0 1 rfl) rfl <| s_putI (dc kc_X0_compileRow_0 2 rfl) fl_X0_48 <| r_aload_n (dc kc_X0_compileRow_0 3 rfl) rfl <| k_i (dc kc_X0_compileRow_0 4 rfl) rfl <| s_putI (dc kc_X0_compileRow_0 5 rfl) fl_X0_51 <| r_aload_n (dc kc_X0_compileRow_0 6 rfl) rfl <| k_i (dc kc_X0_compileRow_0 7 rfl) rfl <| s_putI (dc kc_X0_compileRow_0 8 rfl) fl_X0_45 <| r_aload_n (dc kc_X0_compileRow_0 9 rfl) rfl <| s_getO (dc kc_X0_compileRow_0 10 rfl) fl_X0_12 (ly_45_0 hL) <| c_v0 (dc kc_X0_compileRow_0 11 rfl) cl_X0_80 rfl (Nat.le_of_ble_eq_true rfl) (Nat.zero_le _) (Nat.zero_le _) ?_
  have E : ∀ b, up (up (up mi 0 45 10 0) 0 45 11 0) 0 45 9 0 20 b = mi 20 b := fun b => by rw [up_g (by decide), up_g (by decide), up_g (by decide)]
  refine u_beginRow hL (by rw [E]; omega) (by rw [E]; omega) ?_
  rw [E, a6, a7]
  generalize hm0 : up (up (up (up (up (up (up (up mi 0 45 10 0) 0 45 11 0) 0 45 9 0) 20 22 R B) 20 23 R B) 20 24 R B) 20 26 R 9) 20 27 R 0 = m0
  have g0 : Cg (pKr B R) mi m0 := by
    rw [← hm0]
    exact (((((((Cg.rf.up (by simp [pKr])).up (by simp [pKr])).up (by simp [pKr])).up (by simp [pKr])).up (by simp [pKr])).up (by simp [pKr])).up (by simp [pKr])).up (by simp [pKr])
  have hM0 : CM tk B R m0 (f, 0, 0, -1, [], 9, 0, [], [], []) := by
    refine ⟨⟨⟨?_, ?_, ?_⟩, ?_, ?_, ?_, ?_, ?_, Arr.nil⟩, ⟨?_, ?_, ?_⟩, fun _ => ⟨?_, ?_, ?_, fun z => absurd (show (0 : Int) = 1 from z) (by decide), ?_, ?_, rfl⟩⟩
    · rw [← hm0]; simp [up]; exact a1
    · rw [← hm0]; simp [up]; exact a2
    · rw [← hm0]; simp [up]; exact a3
    · rw [← hm0]; simp [up]; exact a4
    · rw [← hm0]; simp [up]
    · rw [← hm0]; simp [up]
    · rw [← hm0]; simp [up]; exact a5
    · rw [← hm0]; simp [up, stk]
    · rw [← hm0]; simp [up]; exact a6
    · rw [← hm0]; simp [up]; omega
    · rw [← hm0]; simp [up]; omega
    · rw [← hm0]; simp [up, lng]; exact a7
    · rw [← hm0]; simp [up]
    · rw [← hm0]; simp [up]
    · rw [← hm0]; simp [up]
    · rw [← hm0, up_at]; exact Bm.nil
  have ho0 : m0 0 45 1 = o := by rw [g0.at (by simp [pKr]), ho]
  have st : ∀ y, y = 700 + o → Run (d+6) mt_X0_compileRow Q (n, mr, 0, 0) m0 39 [vR (some (0, 45)), vX 0, vX 0] [vI y, vR (some (0, 45))] := fun y hy => by
    refine c_v1 (dc kc_X0_compileRow_0 19 rfl) cl_X0_83 rfl (Nat.le_of_ble_eq_true rfl) (Nat.zero_le _) (Nat.zero_le _) ?_
    refine u_await hL hM0 (by show 0 ≤ 256; omega) (fun m1 g1 h1 => ?_)
    refine k_i (dc kc_X0_compileRow_0 20 rfl) rfl <| t_i1 (dc kc_X0_compileRow_0 21 rfl) (Nat.le_of_ble_eq_true rfl) rfl <| ?_
    exact loop 0 (Nat.zero_le _) m1 _ (g0.tr g1) (by rw [← hy]; exact h1) hG0
  refine r_aload_n (dc kc_X0_compileRow_0 12 rfl) rfl <| r_aload_n (dc kc_X0_compileRow_0 13 rfl) rfl <| s_getZ (dc kc_X0_compileRow_0 14 rfl) fl_X0_18 <| s_if_eq (tgt := 36) (dc kc_X0_compileRow_0 15 rfl) rfl (fun c27 => (k_s (dc kc_X0_compileRow_0 18 rfl) rfl <| ?_)) (fun c27 => (k_s (dc kc_X0_compileRow_0 16 rfl) rfl <| s_goto (tgt := 39) (dc kc_X0_compileRow_0 17 rfl) rfl <| ?_))
  · exact st _ (by omega)
  · exact st _ (by omega)
theorem u_compileRow' (hL : Lay G mr) {mi : MI} {f : Int} (hT : TkE N tk nu nx) (hK : CK tk nu nx N mi) (hCB : CB tk mi f B R) (hN : N ≤ 400) (hR : 0 ≤ R ∧ R < 12) (hB : 0 ≤ B ∧ B ≤ f) (ho : mi 0 45 1 = o) (ho1 : o = 0 ∨ o = 1)
    (hQ : ∀ s, s = finR tk nu nx o f → ∀ mi', Cg (pKr B R) mi mi' → CP tk mi' s.1 s.2.1 s.2.2.1 (flt s) (stk s) → mi' 20 20 0 = R + 1 → Gs tk B N s → (flt s = -1 → mi' 20 20 1 = B + rlen (rwS s) ∧ RW mi' B R (rwS s)) → Q (vX 0) mi' n mr) : Tx (d+6) mt_X0_compileRow [vR (some (0, 45))] mi n mr Q := u_compileRow hL hT hK hCB hN hR hB ho ho1 (fun mi' => hQ _ rfl mi')
end CMR
