/-! the constructors: the class -/
def kB : List Ad := [(0, 0), (0, 1), (0, 110), (0, 111), (0, 5), (0, 16), (0, 15), (0, 20), (10, 20), (0, 30), (0, 37), (0, 38), (0, 40), (0, 41), (0, 42), (0, 43), (0, 6), (0, 7), (0, 8), (0, 9), (0, 10)]
def EqB (m m' : MI) : Prop := ∀ a ∈ kB, m' a.1 a.2 = m a.1 a.2
theorem StI.row {m m' : MI} (h : StI 0 m) (e : EqB m m') : StI 0 m' := by
  have e16 : m' 0 16 = m 0 16 := e (0, 16) (by decide)
  have e15 : m' 0 15 = m 0 15 := e (0, 15) (by decide)
  have e20 : m' 0 20 = m 0 20 := e (0, 20) (by decide)
  have e21 : m' (0 + 10) 20 = m (0 + 10) 20 := e (10, 20) (by decide)
  have e30 : m' 0 30 = m 0 30 := e (0, 30) (by decide)
  have e37 : m' 0 37 = m 0 37 := e (0, 37) (by decide)
  have e38 : m' 0 38 = m 0 38 := e (0, 38) (by decide)
  have e40 : m' 0 40 = m 0 40 := e (0, 40) (by decide)
  have e41 : m' 0 41 = m 0 41 := e (0, 41) (by decide)
  have e42 : m' 0 42 = m 0 42 := e (0, 42) (by decide)
  have e43 : m' 0 43 = m 0 43 := e (0, 43) (by decide)
  have e6 : m' 0 6 = m 0 6 := e (0, 6) (by decide)
  have e7 : m' 0 7 = m 0 7 := e (0, 7) (by decide)
  have e8 : m' 0 8 = m 0 8 := e (0, 8) (by decide)
  have e9 : m' 0 9 = m 0 9 := e (0, 9) (by decide)
  have e10 : m' 0 10 = m 0 10 := e (0, 10) (by decide)
  have e5 : m' 0 5 = m 0 5 := e (0, 5) (by decide)
  unfold StI at *
  rw [e16, e15, e20, e21, e30, e37, e38, e40, e41, e42, e43, e6, e7, e8, e9, e10, e5]
  exact h
def NK (r : MR) : Prop := r 0 0 4 = some (0, 5) ∧ r 0 0 5 = none ∧ ∀ k, r 0 2 k = none
abbrev LFT : Type := List (Nat × Nat × Int × Ad)
def JK (m1 : MI) (F : LFT) (n : Nat) (m : MI) (r : MR) : Prop := Fz n m r ∧ LF F r ∧ NK r ∧ EqB m1 m
theorem JK.step {m1 m m' : MI} {r r' : MR} {F Fn : LFT} {A : List Ad} {n N : Nat} {k : Int} {x : Ad} (h : JK m1 F n m r) (hN : n ≤ N) (h1 : 1 ≤ n) (hk : 6 ≤ k) (hc : Cl A m m' r r') (hn : LF Fn r') (hA : A.all (fun a => (nmL.take N).contains a) = true) (hB : A.all (fun a => !(kB.contains a)) = true) (h02 : A.contains (0, 2) = false) (hD : F.all (fun q => !(A.contains (q.1, q.2.1))) = true) (hK1 : F.all (fun q => !((q.1, q.2.1, q.2.2.1) == ((0, 0, k) : Nat × Nat × Int))) = true) (hK2 : Fn.all (fun q => !((q.1, q.2.1, q.2.2.1) == ((0, 0, k) : Nat × Nat × Int))) = true) : JK m1 ((0, 0, k, x) :: (Fn ++ F)) N m' (upR r' 0 0 k (some x)) := by
  obtain ⟨a1, a2, ⟨a3, a4, a5⟩, a6⟩ := h
  have nin : ∀ b ∈ A, kB.contains b = false := fun b hb => by
    have := List.all_eq_true.mp hB b hb
    simpa using this
  have n00 : ((0, 0) : Ad) ∉ A := fun z => by
    have := nin _ z
    exact absurd this (by decide)
  have n02 : ((0, 2) : Ad) ∉ A := fun z => by
    rw [List.contains_iff_mem.mpr z] at h02
    exact absurd h02 (by decide)
  refine ⟨?_, LF.cons upR_at ((LF.app hn (a2.cl hc hD)).up (by rw [List.all_append, hK1, hK2]; rfl)), ⟨?_, ?_, fun i => ?_⟩, fun b hb => ?_⟩
  · exact (a1.clb hc hA hN).mv (i0 := 0) (a := (0, 0)) rfl (by omega) (fun _ _ _ _ => rfl) (fun _ _ _ z => upR_a z) (Nat.le_refl _)
  · rw [upR_k (by omega), (hc 0 0 4 n00).2]; exact a3
  · rw [upR_k (by omega), (hc 0 0 5 n00).2]; exact a4
  · rw [upR_a (by simp), (hc 0 2 i n02).2]; exact a5 i
  · rw [← a6 b hb]
    funext i
    refine (hc b.1 b.2 i (fun z => ?_)).1
    have := nin _ z
    rw [List.contains_iff_mem.mpr hb] at this
    cases this
theorem JK.up {m1 m : MI} {r : MR} {F : LFT} {n N : Nat} (h : JK m1 F n m r) (hN : n ≤ N) : JK m1 F N m r := ⟨fun i a b k => h.1 i (by omega) b k, h.2⟩
def fRd0 : LFT := [(0, 50, 1, (0, 52)), (0, 50, 5, (0, 53))]
def fWk0 : LFT := [(0, 55, 0, (1, 50)), (1, 50, 1, (1, 52)), (1, 50, 5, (1, 53))]
def fSt : LFT := [(0, 5, 0, (0, 15)), (0, 5, 1, (0, 20)), (0, 5, 2, (10, 20)), (0, 5, 3, (0, 30)), (0, 5, 4, (0, 40)), (0, 5, 5, (0, 6)), (0, 5, 6, (0, 7)), (0, 5, 7, (0, 8)), (0, 5, 8, (0, 9)), (0, 5, 9, (0, 10)), (0, 15, 0, (0, 16))] ++ (fTx 0 ++ (fTx 10 ++ [(0, 30, 3, (0, 31)), (0, 30, 4, (0, 32)), (0, 30, 5, (0, 33)), (0, 30, 6, (0, 34)), (0, 30, 7, (0, 35)), (0, 30, 8, (0, 36)), (0, 30, 9, (0, 37)), (0, 30, 10, (0, 38)), (0, 40, 3, (0, 41)), (0, 40, 4, (0, 42)), (0, 40, 5, (0, 43))]))
theorem StL.lf {r : MR} (h : StL 0 r) : LF fSt r := by
  obtain ⟨⟨a0, a1, a2, a3, a4, a5, a6, a7, a8, a9⟩, b, t1, t2, ⟨j1, j2, j3, j4, j5, j6, j7, j8⟩, w1, w2, w3⟩ := h
  refine LF.app ?_ (LF.app t1.lf (LF.app (TxL.lf (x := 10) t2) ?_))
  · exact LF.cons a0 (LF.cons a1 (LF.cons a2 (LF.cons a3 (LF.cons a4 (LF.cons a5 (LF.cons a6 (LF.cons a7 (LF.cons a8 (LF.cons a9 (LF.cons b LF.nil))))))))))
  · exact LF.cons j1 (LF.cons j2 (LF.cons j3 (LF.cons j4 (LF.cons j5 (LF.cons j6 (LF.cons j7 (LF.cons j8 (LF.cons w1 (LF.cons w2 (LF.cons w3 LF.nil))))))))))
def fR1 : LFT := (0, 0, 0, (0, 1)) :: (0, 0, 6, (0, 2)) :: fSt
def fR2 : LFT := (0, 0, 7, (0, 45)) :: (fCmp ++ fR1)
def fR3 : LFT := (0, 0, 8, (0, 50)) :: (fRd0 ++ fR2)
def fR4 : LFT := (0, 0, 9, (0, 55)) :: (fWk0 ++ fR3)
def fR5 : LFT := (0, 0, 10, (0, 60)) :: (fMen ++ fR4)
def fRst : LFT := (0, 0, 11, (0, 70)) :: (fPap ++ fR5)
section INE
variable {d : Nat} {mr : MR} {mi : MI} {Q : V → MI → Nat → MR → Prop}
set_option maxRecDepth 16000 in
theorem i_mended (hz : Fz 1 mi mr) (hQ : ∀ mi' mr', Fz 108 mi' mr' → StI 0 mi' → LF fRst mr' → NK mr' → (mi' 0 0 1 = 0 ∧ mi' 0 0 2 = -1 ∧ mi' 0 0 3 = 0) → (∀ k, mi' 0 1 k = 0) → mi' 0 60 3 = -1 → mi' 0 70 10 = 0 → mi' 0 110 = mi 0 110 → mi' 0 111 = mi 0 111 → Q (vX 0) mi' 108 mr') : Tx (d+5) mt_X11_init [vR (some (0, 0))] mi 1 mr Q := by
  refine tx_intro (ls := [vR (some (0, 0))]) om_X11_init rfl (Nat.le_of_ble_eq_true rfl) ?_
  refine r_aload_n (dc kc_X11_init_0 0 rfl) rfl <| s_objInit (dc kc_X11_init_0 1 rfl) oi_X11_3 im_obj co_obj <| r_aload_n (dc kc_X11_init_0 2 rfl) rfl <| k_s (dc kc_X11_init_0 3 rfl) rfl <| s_newa (dc kc_X11_init_0 4 rfl) (by first | assumption | rfl) rfl rfl (by first | decide | omega) (by decide) ?_ ac_int (Nat.le_of_ble_eq_true rfl) (Nat.le_of_ble_eq_true rfl) <| s_pAF (dc kc_X11_init_0 5 rfl) fl_X11_9 rfl (by decide) <| r_aload_n (dc kc_X11_init_0 6 rfl) rfl <| k_i (dc kc_X11_init_0 7 rfl) rfl <| s_putI (dc kc_X11_init_0 8 rfl) fl_X11_13 <| r_aload_n (dc kc_X11_init_0 9 rfl) rfl <| k_i (dc kc_X11_init_0 10 rfl) rfl <| s_putI (dc kc_X11_init_0 11 rfl) fl_X11_17 <| r_aload_n (dc kc_X11_init_0 12 rfl) rfl <| k_i (dc kc_X11_init_0 13 rfl) rfl <| s_putI (dc kc_X11_init_0 14 rfl) fl_X11_20 <| r_aload_n (dc kc_X11_init_0 15 rfl) rfl <| s_new (j := 5) (dc kc_X11_init_0 16 rfl) (by first | assumption | rfl) rfl (by decide) rfl (by first | decide | omega) ?_ kk_X11_23 in_X7 it_X7 (Nat.le_of_ble_eq_true rfl) (Nat.le_of_ble_eq_true rfl) <| s_dup (dc kc_X11_init_0 17 rfl) rfl <| c_i0 (dc kc_X11_init_0 18 rfl) cl_X11_25 (Nat.le_of_ble_eq_true rfl) (Nat.le_of_ble_eq_true rfl) (Nat.le_of_ble_eq_true rfl) ?_
  · exact hz.fr (by omega)
  · exact (hz.clb (A := [(0, 0)]) (by repeat (first | exact Cl.rf | refine Cl.up rfl ?_ | refine Cl.upR rfl ?_)) (by decide +kernel) (by omega)).fr (by omega)
  have C0 : Cl [(0, 0)] mi (up (up (up mi 0 0 1 0) 0 0 2 (-1)) 0 0 3 0) mr (upR mr 0 0 0 (some (0, 1))) := by repeat (first | exact Cl.rf | refine Cl.up rfl ?_ | refine Cl.upR rfl ?_)
  have v0 : up (up (up mi 0 0 1 0) 0 0 2 (-1)) 0 0 3 0 0 0 1 = 0 ∧ up (up (up mi 0 0 1 0) 0 0 2 (-1)) 0 0 3 0 0 0 2 = -1 ∧ up (up (up mi 0 0 1 0) 0 0 2 (-1)) 0 0 3 0 0 0 3 = 0 := by simp [up]
  have q0 : upR mr 0 0 0 (some (0, 1)) 0 0 0 = some (0, 1) := upR_at
  have hz2 : Fz 2 (up (up (up mi 0 0 1 0) 0 0 2 (-1)) 0 0 3 0) (upR mr 0 0 0 (some (0, 1))) := hz.clb C0 (by decide +kernel) (by omega)
  have t0 : ∀ k, up (up (up mi 0 0 1 0) 0 0 2 (-1)) 0 0 3 0 0 1 k = 0 := fun k => by rw [(C0 0 1 k (by decide)).1]; exact (hz.at (N := 0) (i := 1) rfl (by omega) (by omega) k).1
  have s0 : up (up (up mi 0 0 1 0) 0 0 2 (-1)) 0 0 3 0 0 110 = mi 0 110 := funext fun k => (C0 0 110 k (by decide)).1
  have s1 : up (up (up mi 0 0 1 0) 0 0 2 (-1)) 0 0 3 0 0 111 = mi 0 111 := funext fun k => (C0 0 111 k (by decide)).1
  generalize up (up (up mi 0 0 1 0) 0 0 2 (-1)) 0 0 3 0 = m0 at *
  generalize upR mr 0 0 0 (some (0, 1)) = r0 at *
  have z5 := fun k => (hz2.at (N := 0) (i := 2) (g := 0) (j := 5) rfl (by omega) (by omega) k).1
  refine i_state (g := 0) (hz2.clb (A := []) (N := 3) Cl.rf rfl (by omega)) (i0 := 2) rfl (by omega) (by omega) (by decide +kernel) ⟨z5 10, z5 11, z5 12, z5 13⟩ (fun m1 r1 g1 si cs sl zf => ?_)
  have zf : Fz 39 m1 r1 := zf
  have v1 : m1 0 0 1 = 0 ∧ m1 0 0 2 = -1 ∧ m1 0 0 3 = 0 := by
    rw [g1.at (by decide), g1.at (by decide), g1.at (by decide)]; exact v0
  have t1 : ∀ k, m1 0 1 k = 0 := fun k => by rw [g1.at (by simp [rlS])]; exact t0 k
  have s2 : m1 0 110 = mi 0 110 := (g1.row (fun k => by simp [rlS])).trans s0
  have s3 : m1 0 111 = mi 0 111 := (g1.row (fun k => by simp [rlS])).trans s1
  have q1 : r1 0 0 0 = some (0, 1) := by rw [(cs 0 0 0).resolve_left (by simp [rlR])]; exact q0
  have q2 : ∀ k, r1 0 2 k = none := fun k => (zf.at (N := 0) (i := 39) rfl (by omega) (by omega) k).2
  have C1 : Cl [(0, 0)] m1 m1 r1 (upR (upR (upR r1 0 0 4 (some (0, 5))) 0 0 5 none) 0 0 6 (some (0, 2))) := by repeat (first | exact Cl.rf | refine Cl.up rfl ?_ | refine Cl.upR rfl ?_)
  have J1 : JK m1 fR1 40 m1 (upR (upR (upR r1 0 0 4 (some (0, 5))) 0 0 5 none) 0 0 6 (some (0, 2))) := by
    refine ⟨zf.clb C1 (by decide +kernel) (by omega), LF.cons ?_ (LF.cons upR_at (sl.lf.cl C1 (by decide +kernel))), ⟨?_, ?_, fun k => ?_⟩, fun _ _ => rfl⟩
    · rw [upR_k (by decide), upR_k (by decide), upR_k (by decide)]; exact q1
    · rw [upR_k (by decide), upR_k (by decide), upR_at]
    · rw [upR_k (by decide), upR_at]
    · rw [(C1 0 2 k (by decide)).2]; exact q2 k
  refine s_pO (dc kc_X11_init_0 19 rfl) fl_X11_26 <| r_aload_n (dc kc_X11_init_0 20 rfl) rfl <| s_null (dc kc_X11_init_0 21 rfl) <| s_pO (dc kc_X11_init_0 22 rfl) fl_X11_30 <| r_aload_n (dc kc_X11_init_0 23 rfl) rfl <| k_i (dc kc_X11_init_0 24 rfl) rfl <| s_anewa (dc kc_X11_init_0 25 rfl) (by first | assumption | rfl) rfl (by decide) rfl (by first | decide | omega) (by decide) ?_ kk_X11_23 (Nat.le_of_ble_eq_true rfl) (Nat.le_of_ble_eq_true rfl) <| s_pAF (dc kc_X11_init_0 26 rfl) fl_X11_33 rfl (by decide) <| r_aload_n (dc kc_X11_init_0 27 rfl) rfl <| s_new (j := 45) (dc kc_X11_init_0 28 rfl) (by first | assumption | rfl) rfl (by decide) rfl (by first | decide | omega) ?_ kk_X11_37 in_X0 it_X0 (Nat.le_of_ble_eq_true rfl) (Nat.le_of_ble_eq_true rfl) <| s_dup (dc kc_X11_init_0 29 rfl) rfl <| c_i0 (dc kc_X11_init_0 30 rfl) cl_X11_39 (Nat.le_of_ble_eq_true rfl) (Nat.le_of_ble_eq_true rfl) (Nat.le_of_ble_eq_true rfl) ?_
  · exact (zf.clb (A := [(0, 0)]) (by repeat (first | exact Cl.rf | refine Cl.up rfl ?_ | refine Cl.upR rfl ?_)) (by decide +kernel) (by omega)).fr (by omega)
  · exact J1.1.fr (by omega)
  generalize upR (upR (upR r1 0 0 4 (some (0, 5))) 0 0 5 none) 0 0 6 (some (0, 2)) = r1' at *
  refine i_compiler (J1.up (by omega)).1 (fun m2 r2 c2 f2 => ?_)
  have J2 : JK m1 fR2 53 m2 (upR r2 0 0 7 (some (0, 45))) := J1.step (by omega) (by omega) (by omega) c2 f2 (by decide +kernel) (by decide +kernel) (by decide) (by decide +kernel) (by decide +kernel) (by decide +kernel)
  refine s_pOF (dc kc_X11_init_0 31 rfl) fl_X11_40 rfl (by decide) <| r_aload_n (dc kc_X11_init_0 32 rfl) rfl <| s_new (j := 50) (dc kc_X11_init_0 33 rfl) (by first | assumption | rfl) rfl (by decide) rfl (by first | decide | omega) ?_ kk_X11_44 in_X6 it_X6 (Nat.le_of_ble_eq_true rfl) (Nat.le_of_ble_eq_true rfl) <| s_dup (dc kc_X11_init_0 34 rfl) rfl <| c_i0 (dc kc_X11_init_0 35 rfl) cl_X11_46 (Nat.le_of_ble_eq_true rfl) (Nat.le_of_ble_eq_true rfl) (Nat.le_of_ble_eq_true rfl) ?_
  · exact J2.1.fr (by omega)
  generalize upR r2 0 0 7 (some (0, 45)) = r2' at *
  refine i_reader (r := 0) (J2.up (N := 54) (by omega)).1 (i0 := 53) rfl (by omega) (by omega) rfl rfl rfl (fun m3 r3 c3 l1 l2 => ?_)
  have J3 : JK m1 fR3 57 m3 (upR r3 0 0 8 (some (0, 50))) := J2.step (by omega) (by omega) (by omega) c3 (LF.cons l1 (LF.cons l2 LF.nil)) (by decide +kernel) (by decide +kernel) (by decide) (by decide +kernel) (by decide +kernel) (by decide +kernel)
  refine s_pOF (dc kc_X11_init_0 36 rfl) fl_X11_47 rfl (by decide) <| r_aload_n (dc kc_X11_init_0 37 rfl) rfl <| s_new (j := 55) (dc kc_X11_init_0 38 rfl) (by first | assumption | rfl) rfl (by decide) rfl (by first | decide | omega) ?_ kk_X11_51 in_X2 it_X2 (Nat.le_of_ble_eq_true rfl) (Nat.le_of_ble_eq_true rfl) <| s_dup (dc kc_X11_init_0 39 rfl) rfl <| c_i0 (dc kc_X11_init_1 0 rfl) cl_X11_53 (Nat.le_of_ble_eq_true rfl) (Nat.le_of_ble_eq_true rfl) (Nat.le_of_ble_eq_true rfl) ?_
  · exact J3.1.fr (by omega)
  generalize upR r3 0 0 8 (some (0, 50)) = r3' at *
  refine i_work (w := 0) (J3.up (N := 58) (by omega)).1 (i0 := 57) rfl (by omega) (by omega) rfl rfl rfl rfl (fun m4 r4 c4 l3 l4 l5 => ?_)
  have c4 : Cl [(0, 55), (1, 50)] m3 m4 r3' r4 := c4
  have l3 : r4 0 55 0 = some (1, 50) := l3
  have l4 : r4 1 50 1 = some (1, 52) := l4
  have l5 : r4 1 50 5 = some (1, 53) := l5
  have J4 : JK m1 fR4 62 m4 (upR r4 0 0 9 (some (0, 55))) := J3.step (by omega) (by omega) (by omega) c4 (LF.cons l3 (LF.cons l4 (LF.cons l5 LF.nil))) (by decide +kernel) (by decide +kernel) (by decide) (by decide +kernel) (by decide +kernel) (by decide +kernel)
  refine s_pOF (dc kc_X11_init_1 1 rfl) fl_X11_54 rfl (by decide) <| r_aload_n (dc kc_X11_init_1 2 rfl) rfl <| s_new (j := 60) (dc kc_X11_init_1 3 rfl) (by first | assumption | rfl) rfl (by decide) rfl (by first | decide | omega) ?_ kk_X11_58 in_X4 it_X4 (Nat.le_of_ble_eq_true rfl) (Nat.le_of_ble_eq_true rfl) <| s_dup (dc kc_X11_init_1 4 rfl) rfl <| c_i0 (dc kc_X11_init_1 5 rfl) cl_X11_60 (Nat.le_of_ble_eq_true rfl) (Nat.le_of_ble_eq_true rfl) (Nat.le_of_ble_eq_true rfl) ?_
  · exact J4.1.fr (by omega)
  generalize upR r4 0 0 9 (some (0, 55)) = r4' at *
  refine i_mender (J4.up (by omega)).1 (fun m5 r5 c5 f5 v5 => ?_)
  have J5 : JK m1 fR5 93 m5 (upR r5 0 0 10 (some (0, 60))) := J4.step (by omega) (by omega) (by omega) c5 f5 (by decide +kernel) (by decide +kernel) (by decide) (by decide +kernel) (by decide +kernel) (by decide +kernel)
  refine s_pOF (dc kc_X11_init_1 6 rfl) fl_X11_61 rfl (by decide) <| r_aload_n (dc kc_X11_init_1 7 rfl) rfl <| s_new (j := 70) (dc kc_X11_init_1 8 rfl) (by first | assumption | rfl) rfl (by decide) rfl (by first | decide | omega) ?_ kk_X11_65 in_X5 it_X5 (Nat.le_of_ble_eq_true rfl) (Nat.le_of_ble_eq_true rfl) <| s_dup (dc kc_X11_init_1 9 rfl) rfl <| c_i0 (dc kc_X11_init_1 10 rfl) cl_X11_67 (Nat.le_of_ble_eq_true rfl) (Nat.le_of_ble_eq_true rfl) (Nat.le_of_ble_eq_true rfl) ?_
  · exact J5.1.fr (by omega)
  generalize upR r5 0 0 10 (some (0, 60)) = r5' at *
  refine i_paper (J5.up (by omega)).1 (fun m6 r6 c6 f6 v6 => ?_)
  have J6 : JK m1 fRst 108 m6 (upR r6 0 0 11 (some (0, 70))) := J5.step (by omega) (by omega) (by omega) c6 f6 (by decide +kernel) (by decide +kernel) (by decide) (by decide +kernel) (by decide +kernel) (by decide +kernel)
  refine s_pOF (dc kc_X11_init_1 11 rfl) fl_X11_68 rfl (by decide) <| s_return (dc kc_X11_init_1 12 rfl) rfl (Nat.le_of_ble_eq_true rfl) (Nat.le_of_ble_eq_true rfl) ?_
  obtain ⟨z6, F6, K6, E6⟩ := J6
  have e0 : m6 0 0 = m1 0 0 := E6 (0, 0) (by decide)
  have e1 : m6 0 1 = m1 0 1 := E6 (0, 1) (by decide)
  have e2 : m6 0 110 = m1 0 110 := E6 (0, 110) (by decide)
  have e3 : m6 0 111 = m1 0 111 := E6 (0, 111) (by decide)
  refine hQ m6 _ z6 (si.row E6) F6 K6 (by rw [e0]; exact v1) (fun k => by rw [e1]; exact t1 k) (by rw [(c6 0 60 3 (by decide)).1]; exact v5) v6 (e2.trans s2) (e3.trans s3)
end INE
