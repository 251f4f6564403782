/-! the constructors: the compiler, the paper -/
theorem Fz.clb {n N : Nat} {A : List Ad} {mi mi' : MI} {mr mr' : MR} (hz : Fz n mi mr) (h : Cl A mi mi' mr mr') (hA : A.all (fun a => (nmL.take N).contains a) = true) (hN : n ≤ N) : Fz N mi' mr' := by
  refine hz.cl h (fun a ha => ?_) hN
  have h1 := List.all_eq_true.mp hA a ha
  have h2 : a ∈ nmL.take N := List.contains_iff_mem.mp h1
  obtain ⟨i, hi, e⟩ := List.mem_iff_getElem.mp h2
  have hl : (nmL.take N).length = min N nmL.length := List.length_take
  have hL : nmL.length = 241 := rfl
  refine ⟨i, by omega, by omega, ?_⟩
  rw [List.getElem_take] at e
  show nmL.getD i (0, 999) = a
  rw [List.getD_eq_getElem?_getD, List.getElem?_eq_getElem (by omega), e]
  rfl
section CLL
variable {A B : List Ad} {mi mi' mi2 : MI} {mr mr' mr2 : MR}
theorem Cl.rf : Cl A mi mi mr mr := fun _ _ _ _ => ⟨rfl, rfl⟩
theorem Cl.nin {a b : Ad} (h : a ∉ A) (hb : A.contains b = true) : a ≠ b := fun z => h (by rw [z]; exact List.contains_iff_mem.mp hb)
theorem Cl.up {g j : Nat} {k v : Int} (hA : A.contains (g, j) = true) (h : Cl A mi mi' mr mr') : Cl A mi (up mi' g j k v) mr mr' := fun a b i z => ⟨by rw [up_a (Cl.nin z hA)]; exact (h a b i z).1, (h a b i z).2⟩
theorem Cl.upR {g j : Nat} {k : Int} {v : Option Ad} (hA : A.contains (g, j) = true) (h : Cl A mi mi' mr mr') : Cl A mi mi' mr (upR mr' g j k v) := fun a b i z => ⟨(h a b i z).1, by rw [upR_a (Cl.nin z hA)]; exact (h a b i z).2⟩
theorem Cl.cm {a : Ad} (hA : A.contains a = true) (h : Cl A mi mi' mr mr') (h2 : Cm a mr' mr2) : Cl A mi mi' mr mr2 := fun x b i z => ⟨(h x b i z).1, by rw [h2 x b i (Cl.nin z hA)]; exact (h x b i z).2⟩
theorem Cl.cn {a : Ad} (hA : A.contains a = true) (h : Cl A mi mi' mr mr') (h2 : Cn a mi' mi2) : Cl A mi mi2 mr mr' := fun x b i z => ⟨by rw [h2 x b i (Cl.nin z hA)]; exact (h x b i z).1, (h x b i z).2⟩
theorem Cl.tr (hB : B.all (fun b => A.contains b) = true) (h : Cl A mi mi' mr mr') (h2 : Cl B mi' mi2 mr' mr2) : Cl A mi mi2 mr mr2 := fun x b i z => by
  have hz : (x, b) ∉ B := fun w => z (List.contains_iff_mem.mp (List.all_eq_true.mp hB _ w))
  exact ⟨(h2 x b i hz).1.trans (h x b i z).1, (h2 x b i hz).2.trans (h x b i z).2⟩
theorem LF.cl {F : List (Nat × Nat × Int × Ad)} (h : LF F mr) (h2 : Cl A mi mi' mr mr') (hA : F.all (fun q => !(A.contains (q.1, q.2.1))) = true) : LF F mr' := h.mv A (fun g j k z => (h2 g j k z).2) hA
end CLL
def fTx (x : Nat) : List (Nat × Nat × Int × Ad) := [(x, 20, 2, (x, 21)), (x, 20, 3, (x, 22)), (x, 20, 4, (x, 23)), (x, 20, 5, (x, 24)), (x, 20, 6, (x, 25)), (x, 20, 7, (x, 26)), (x, 20, 8, (x, 27))]
theorem TxL.lf {x : Nat} {mr : MR} (h : TxL x mr) : LF (fTx x) mr := by
  obtain ⟨h1, h2, h3, h4, h5, h6, h7⟩ := h
  exact LF.cons h1 (LF.cons h2 (LF.cons h3 (LF.cons h4 (LF.cons h5 (LF.cons h6 (LF.cons h7 LF.nil))))))
def fCmp : List (Nat × Nat × Int × Ad) := fTx 20 ++ [(0, 45, 0, (20, 20)), (0, 45, 2, (0, 46)), (0, 45, 3, (0, 47)), (0, 45, 4, (0, 48)), (0, 45, 8, (0, 49))]
def fPap : List (Nat × Nat × Int × Ad) := [(3, 50, 1, (3, 52)), (3, 50, 5, (3, 53)), (4, 50, 1, (4, 52)), (4, 50, 5, (4, 53)), (1, 55, 0, (4, 50)), (9, 15, 0, (9, 16)), (0, 70, 0, (3, 50)), (0, 70, 1, (1, 55)), (0, 70, 2, (9, 15)), (0, 70, 3, (0, 71)), (0, 70, 6, (0, 72)), (0, 70, 9, (0, 73))]
section INC
variable {d : Nat} {mr : MR} {mi : MI} {Q : V → MI → Nat → MR → Prop}
theorem i_compiler (hz : Fz 41 mi mr) (hQ : ∀ mi' mr', Cl [(0, 45), (20, 20)] mi mi' mr mr' → LF fCmp mr' → Q (vX 0) mi' 53 mr') : Tx (d+2) mt_X0_init [vR (some (0, 45))] mi 41 mr Q := by
  refine tx_intro (ls := [vR (some (0, 45))]) om_X0_init rfl (Nat.le_of_ble_eq_true rfl) ?_
  refine r_aload_n (dc kc_X0_init_0 0 rfl) rfl <| s_objInit (dc kc_X0_init_0 1 rfl) oi_X0_3 im_obj co_obj <| r_aload_n (dc kc_X0_init_0 2 rfl) rfl <| s_new (j := 20) (dc kc_X0_init_0 3 rfl) (by first | assumption | rfl) rfl (by decide) rfl (by first | decide | omega) ?_ kk_X0_9 in_X8 it_X8 (Nat.le_of_ble_eq_true rfl) (Nat.le_of_ble_eq_true rfl) <| s_dup (dc kc_X0_init_0 4 rfl) rfl <| c_i0 (dc kc_X0_init_0 5 rfl) cl_X0_11 (Nat.le_of_ble_eq_true rfl) (Nat.le_of_ble_eq_true rfl) (Nat.le_of_ble_eq_true rfl) ?_
  · exact hz.fr (by omega)
  have z0 := hz.at (N := 0) (i := 41) (g := 20) (j := 20) rfl (by omega) (by omega)
  have hz1 : Fz 42 mi mr := hz.clb (A := []) Cl.rf rfl (by omega)
  refine i_text hz1 (i0 := 41) rfl (by omega) (by omega) rfl rfl rfl rfl rfl rfl rfl (z0 0).1 (z0 1).1 (fun r1 cm1 t1 => ?_)
  have c1 : Cl [(0, 45), (20, 20)] mi mi mr r1 := Cl.cm (by decide) Cl.rf cm1
  have hz2 : Fz 49 mi r1 := hz.clb c1 (by decide +kernel) (by omega)
  have t2 := t1.lf
  refine s_pOF (dc kc_X0_init_0 6 rfl) fl_X0_12 rfl (by decide) <| r_aload_n (dc kc_X0_init_0 7 rfl) rfl <| k_i (dc kc_X0_init_0 8 rfl) rfl <| s_putZ (dc kc_X0_init_0 9 rfl) fl_X0_18 (by first | exact Or.inl rfl | exact Or.inr rfl | exact bi_01 | assumption) <| r_aload_n (dc kc_X0_init_0 10 rfl) rfl <| k_s (dc kc_X0_init_0 11 rfl) rfl <| s_newa (dc kc_X0_init_0 12 rfl) (by first | assumption | rfl) rfl rfl (by first | decide | omega) (by decide) ?_ ac_int (Nat.le_of_ble_eq_true rfl) (Nat.le_of_ble_eq_true rfl) <| s_pAF (dc kc_X0_init_0 13 rfl) fl_X0_22 rfl (by decide) <| r_aload_n (dc kc_X0_init_0 14 rfl) rfl <| k_s (dc kc_X0_init_0 15 rfl) rfl <| s_newa (dc kc_X0_init_0 16 rfl) (by first | assumption | rfl) rfl rfl (by first | decide | omega) (by decide) ?_ ac_int (Nat.le_of_ble_eq_true rfl) (Nat.le_of_ble_eq_true rfl) <| s_pAF (dc kc_X0_init_0 17 rfl) fl_X0_26 rfl (by decide) <| r_aload_n (dc kc_X0_init_0 18 rfl) rfl <| k_s (dc kc_X0_init_0 19 rfl) rfl <| s_newa (dc kc_X0_init_0 20 rfl) (by first | assumption | rfl) rfl rfl (by first | decide | omega) (by decide) ?_ ac_int (Nat.le_of_ble_eq_true rfl) (Nat.le_of_ble_eq_true rfl) <| s_pAF (dc kc_X0_init_0 21 rfl) fl_X0_29 rfl (by decide) <| r_aload_n (dc kc_X0_init_0 22 rfl) rfl <| k_i (dc kc_X0_init_0 23 rfl) rfl <| s_putI (dc kc_X0_init_0 24 rfl) fl_X0_32 <| r_aload_n (dc kc_X0_init_0 25 rfl) rfl <| k_b (dc kc_X0_init_0 26 rfl) rfl <| s_putI (dc kc_X0_init_0 27 rfl) fl_X0_36 <| r_aload_n (dc kc_X0_init_0 28 rfl) rfl <| k_i (dc kc_X0_init_0 29 rfl) rfl <| s_putI (dc kc_X0_init_0 30 rfl) fl_X0_39 <| r_aload_n (dc kc_X0_init_0 31 rfl) rfl <| k_s (dc kc_X0_init_0 32 rfl) rfl <| s_newa (dc kc_X0_init_0 33 rfl) (by first | assumption | rfl) rfl rfl (by first | decide | omega) (by decide) ?_ ac_int (Nat.le_of_ble_eq_true rfl) (Nat.le_of_ble_eq_true rfl) <| s_pAF (dc kc_X0_init_0 34 rfl) fl_X0_42 rfl (by decide) <| r_aload_n (dc kc_X0_init_0 35 rfl) rfl <| k_i (dc kc_X0_init_0 36 rfl) rfl <| s_putI (dc kc_X0_init_0 37 rfl) fl_X0_45 <| r_aload_n (dc kc_X0_init_0 38 rfl) rfl <| k_i (dc kc_X0_init_0 39 rfl) rfl <| s_putI (dc kc_X0_init_1 0 rfl) fl_X0_48 <| r_aload_n (dc kc_X0_init_1 1 rfl) rfl <| k_i (dc kc_X0_init_1 2 rfl) rfl <| s_putI (dc kc_X0_init_1 3 rfl) fl_X0_51 <| r_aload_n (dc kc_X0_init_1 4 rfl) rfl <| k_i (dc kc_X0_init_1 5 rfl) rfl <| s_putI (dc kc_X0_init_1 6 rfl) fl_X0_54 <| s_return (dc kc_X0_init_1 7 rfl) rfl (Nat.le_of_ble_eq_true rfl) (Nat.le_of_ble_eq_true rfl) ?_
  all_goals first | exact (hz2.clb (A := [(0, 45)]) (by repeat (first | exact Cl.rf | refine Cl.up rfl ?_ | refine Cl.upR rfl ?_)) (by decide +kernel) (by omega)).fr (by omega) | skip
  refine hQ _ _ (by repeat (first | exact c1 | refine Cl.up rfl ?_ | refine Cl.upR rfl ?_)) ?_
  refine LF.app ?_ ?_
  · repeat (first | exact t2 | refine LF.up ?_ (by decide))
  · repeat' (first | exact LF.nil | refine LF.cons ?_ ?_)
    all_goals simp [upR]
theorem i_paper (hz : Fz 94 mi mr) (hQ : ∀ mi' mr', Cl [(0, 70), (3, 50), (4, 50), (1, 55), (9, 15), (9, 16)] mi mi' mr mr' → LF fPap mr' → mi' 0 70 10 = 0 → Q (vX 0) mi' 108 mr') : Tx (d+4) mt_X5_init [vR (some (0, 70))] mi 94 mr Q := by
  refine tx_intro (ls := [vR (some (0, 70))]) om_X5_init rfl (Nat.le_of_ble_eq_true rfl) ?_
  refine r_aload_n (dc kc_X5_init_0 0 rfl) rfl <| s_objInit (dc kc_X5_init_0 1 rfl) oi_X5_3 im_obj co_obj <| r_aload_n (dc kc_X5_init_0 2 rfl) rfl <| s_new (j := 50) (dc kc_X5_init_0 3 rfl) (by first | assumption | rfl) rfl (by decide) rfl (by first | decide | omega) ?_ kk_X5_9 in_X6 it_X6 (Nat.le_of_ble_eq_true rfl) (Nat.le_of_ble_eq_true rfl) <| s_dup (dc kc_X5_init_0 4 rfl) rfl <| c_i0 (dc kc_X5_init_0 5 rfl) cl_X5_11 (Nat.le_of_ble_eq_true rfl) (Nat.le_of_ble_eq_true rfl) (Nat.le_of_ble_eq_true rfl) ?_
  · exact hz.fr (by omega)
  have hz1 : Fz 95 mi mr := hz.clb (A := []) Cl.rf rfl (by omega)
  refine i_reader (r := 3) hz1 (i0 := 94) rfl (by omega) (by omega) rfl rfl rfl (fun m1 r1 c1 l1 l2 => ?_)
  have hz2 : Fz 98 m1 (upR r1 0 70 0 (some (3, 50))) := hz1.clb (Cl.upR (A := [(3, 50), (0, 70)]) rfl (Cl.tr rfl Cl.rf c1)) (by decide +kernel) (by omega)
  have C1 : Cl [(0, 70), (3, 50), (4, 50), (1, 55), (9, 15), (9, 16)] mi m1 mr (upR r1 0 70 0 (some (3, 50))) := Cl.upR rfl (Cl.tr rfl Cl.rf c1)
  have F1 : LF [(3, 50, 1, (3, 52)), (3, 50, 5, (3, 53)), (0, 70, 0, (3, 50))] (upR r1 0 70 0 (some (3, 50))) := LF.cons (by rw [upR_a (by decide)]; exact l1) (LF.cons (by rw [upR_a (by decide)]; exact l2) (LF.cons upR_at LF.nil))
  refine s_pOF (dc kc_X5_init_0 6 rfl) fl_X5_12 rfl (by decide) <| r_aload_n (dc kc_X5_init_0 7 rfl) rfl <| s_new (j := 55) (dc kc_X5_init_0 8 rfl) (by first | assumption | rfl) rfl (by decide) rfl (by first | decide | omega) ?_ kk_X5_18 in_X2 it_X2 (Nat.le_of_ble_eq_true rfl) (Nat.le_of_ble_eq_true rfl) <| s_dup (dc kc_X5_init_0 9 rfl) rfl <| c_i0 (dc kc_X5_init_0 10 rfl) cl_X5_20 (Nat.le_of_ble_eq_true rfl) (Nat.le_of_ble_eq_true rfl) (Nat.le_of_ble_eq_true rfl) ?_
  · exact hz2.fr (by omega)
  generalize upR r1 0 70 0 (some (3, 50)) = r1' at *
  refine i_work (w := 1) (hz2.clb (A := []) (N := 99) Cl.rf rfl (by omega)) (i0 := 98) rfl (by omega) (by omega) rfl rfl rfl rfl (fun m2 r2 c2 l3 l4 l5 => ?_)
  have c2 : Cl [(1, 55), (4, 50)] m1 m2 r1' r2 := c2
  have l3 : r2 1 55 0 = some (4, 50) := l3
  have l4 : r2 4 50 1 = some (4, 52) := l4
  have l5 : r2 4 50 5 = some (4, 53) := l5
  have hz3 : Fz 103 m2 (upR r2 0 70 1 (some (1, 55))) := hz2.clb (Cl.upR (A := [(1, 55), (4, 50), (0, 70)]) rfl (Cl.tr rfl Cl.rf c2)) (by decide +kernel) (by omega)
  have C2 : Cl [(0, 70), (3, 50), (4, 50), (1, 55), (9, 15), (9, 16)] mi m2 mr (upR r2 0 70 1 (some (1, 55))) := Cl.upR rfl (Cl.tr rfl C1 c2)
  have F2 : LF ([(4, 50, 1, (4, 52)), (4, 50, 5, (4, 53)), (1, 55, 0, (4, 50)), (0, 70, 1, (1, 55))] ++ [(3, 50, 1, (3, 52)), (3, 50, 5, (3, 53)), (0, 70, 0, (3, 50))]) (upR r2 0 70 1 (some (1, 55))) := LF.app (LF.cons (by rw [upR_a (by decide)]; exact l4) (LF.cons (by rw [upR_a (by decide)]; exact l5) (LF.cons (by rw [upR_a (by decide)]; exact l3) (LF.cons upR_at LF.nil)))) ((F1.cl c2 (by decide)).up (by decide))
  refine s_pOF (dc kc_X5_init_0 11 rfl) fl_X5_21 rfl (by decide) <| r_aload_n (dc kc_X5_init_0 12 rfl) rfl <| s_new (j := 15) (dc kc_X5_init_0 13 rfl) (by first | assumption | rfl) rfl (by decide) rfl (by first | decide | omega) ?_ kk_X5_25 in_X10 it_X10 (Nat.le_of_ble_eq_true rfl) (Nat.le_of_ble_eq_true rfl) <| s_dup (dc kc_X5_init_0 14 rfl) rfl <| c_i0 (dc kc_X5_init_0 15 rfl) cl_X5_27 (Nat.le_of_ble_eq_true rfl) (Nat.le_of_ble_eq_true rfl) (Nat.le_of_ble_eq_true rfl) ?_
  · exact hz3.fr (by omega)
  generalize upR r2 0 70 1 (some (1, 55)) = r2' at *
  refine i_web (g := 9) (hz3.clb (A := []) (N := 104) Cl.rf rfl (by omega)) (i0 := 103) rfl (by omega) (by omega) rfl (hz3.at (N := 0) (i := 103) rfl (by omega) (by omega) 1).1 (fun m3 r3 cn3 w3 cm3 l6 => ?_)
  have hz4 : Fz 105 m3 r3 := hz3.clb (Cl.cm (A := [(9, 15), (9, 16)]) rfl (Cl.cn rfl Cl.rf cn3) cm3) (by decide +kernel) (by omega)
  have C3 : Cl [(0, 70), (3, 50), (4, 50), (1, 55), (9, 15), (9, 16)] mi m3 mr r3 := Cl.cm rfl (Cl.cn rfl C2 cn3) cm3
  have F3 : LF ((9, 15, 0, (9, 16)) :: ([(4, 50, 1, (4, 52)), (4, 50, 5, (4, 53)), (1, 55, 0, (4, 50)), (0, 70, 1, (1, 55))] ++ [(3, 50, 1, (3, 52)), (3, 50, 5, (3, 53)), (0, 70, 0, (3, 50))])) r3 := LF.cons l6 (F2.mv [(9, 15)] (fun g j k h => cm3 g j k (fun z => h (by rw [z]; exact List.mem_singleton.mpr rfl))) (by decide))
  refine s_pOF (dc kc_X5_init_0 16 rfl) fl_X5_28 rfl (by decide) <| r_aload_n (dc kc_X5_init_0 17 rfl) rfl <| k_b (dc kc_X5_init_0 18 rfl) rfl <| s_newa (dc kc_X5_init_0 19 rfl) (by first | assumption | rfl) rfl rfl (by first | decide | omega) (by decide) ?_ ac_int (Nat.le_of_ble_eq_true rfl) (Nat.le_of_ble_eq_true rfl) <| s_pAF (dc kc_X5_init_0 20 rfl) fl_X5_32 rfl (by decide) <| r_aload_n (dc kc_X5_init_0 21 rfl) rfl <| k_i (dc kc_X5_init_0 22 rfl) rfl <| s_putI (dc kc_X5_init_0 23 rfl) fl_X5_36 <| r_aload_n (dc kc_X5_init_0 24 rfl) rfl <| k_i (dc kc_X5_init_0 25 rfl) rfl <| s_putI (dc kc_X5_init_0 26 rfl) fl_X5_40 <| r_aload_n (dc kc_X5_init_0 27 rfl) rfl <| k_b (dc kc_X5_init_0 28 rfl) rfl <| s_newa (dc kc_X5_init_0 29 rfl) (by first | assumption | rfl) rfl rfl (by first | decide | omega) (by decide) ?_ ac_int (Nat.le_of_ble_eq_true rfl) (Nat.le_of_ble_eq_true rfl) <| s_pAF (dc kc_X5_init_0 30 rfl) fl_X5_43 rfl (by decide) <| r_aload_n (dc kc_X5_init_0 31 rfl) rfl <| k_i (dc kc_X5_init_0 32 rfl) rfl <| s_putI (dc kc_X5_init_0 33 rfl) fl_X5_46 <| r_aload_n (dc kc_X5_init_0 34 rfl) rfl <| k_i (dc kc_X5_init_0 35 rfl) rfl <| s_putI (dc kc_X5_init_0 36 rfl) fl_X5_49 <| r_aload_n (dc kc_X5_init_0 37 rfl) rfl <| k_i (dc kc_X5_init_0 38 rfl) rfl <| s_newa (dc kc_X5_init_0 39 rfl) (by first | assumption | rfl) rfl rfl (by first | decide | omega) (by decide) ?_ ac_int (Nat.le_of_ble_eq_true rfl) (Nat.le_of_ble_eq_true rfl) <| s_pAF (dc kc_X5_init_1 0 rfl) fl_X5_52 rfl (by decide) <| r_aload_n (dc kc_X5_init_1 1 rfl) rfl <| k_i (dc kc_X5_init_1 2 rfl) rfl <| s_putI (dc kc_X5_init_1 3 rfl) fl_X5_55 <| s_return (dc kc_X5_init_1 4 rfl) rfl (Nat.le_of_ble_eq_true rfl) (Nat.le_of_ble_eq_true rfl) ?_
  all_goals first | exact (hz4.clb (A := [(0, 70)]) (by repeat (first | exact Cl.rf | refine Cl.up rfl ?_ | refine Cl.upR rfl ?_)) (by decide +kernel) (by omega)).fr (by omega) | skip
  refine hQ _ _ (by repeat (first | exact C3 | refine Cl.up rfl ?_ | refine Cl.upR rfl ?_)) ?_ (by simp [up])
  have F4 : LF ([(0, 70, 2, (9, 15)), (0, 70, 3, (0, 71)), (0, 70, 6, (0, 72)), (0, 70, 9, (0, 73))] ++ ((9, 15, 0, (9, 16)) :: ([(4, 50, 1, (4, 52)), (4, 50, 5, (4, 53)), (1, 55, 0, (4, 50)), (0, 70, 1, (1, 55))] ++ [(3, 50, 1, (3, 52)), (3, 50, 5, (3, 53)), (0, 70, 0, (3, 50))]))) (upR (upR (upR (upR r3 0 70 2 (some (9, 15))) 0 70 3 (some (0, 71))) 0 70 6 (some (0, 72))) 0 70 9 (some (0, 73))) := by
    refine LF.app ?_ ?_
    · repeat' (first | exact LF.nil | refine LF.cons ?_ ?_)
      all_goals simp [upR]
    · repeat (first | exact F3 | refine LF.up ?_ (by decide))
  exact fun q hq => F4 q (by
    have : fPap.all (fun q => ([(0, 70, 2, (9, 15)), (0, 70, 3, (0, 71)), (0, 70, 6, (0, 72)), (0, 70, 9, (0, 73))] ++ ((9, 15, 0, (9, 16)) :: ([(4, 50, 1, (4, 52)), (4, 50, 5, (4, 53)), (1, 55, 0, (4, 50)), (0, 70, 1, (1, 55))] ++ [(3, 50, 1, (3, 52)), (3, 50, 5, (3, 53)), (0, 70, 0, (3, 50))])) : List (Nat × Nat × Int × Ad)).contains q) = true := by decide
    exact List.contains_iff_mem.mp (List.all_eq_true.mp this q hq))
end INC
