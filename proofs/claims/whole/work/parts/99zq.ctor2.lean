/-! the constructors: the mender -/
def fMd1 : List (Nat × Nat × Int × Ad) := [(2, 50, 1, (2, 52)), (2, 50, 5, (2, 53)), (0, 60, 0, (2, 50))]
def fMd2 : List (Nat × Nat × Int × Ad) := fTx 21 ++ ([(0, 60, 1, (0, 61)), (0, 60, 2, (0, 62))] ++ fMd1)
def fMd3 : List (Nat × Nat × Int × Ad) := [(0, 60, 5, (0, 63)), (0, 60, 6, (0, 64)), (0, 60, 7, (0, 65)), (0, 60, 11, (0, 66)), (0, 60, 12, (0, 67)), (0, 67, 0, (0, 68)), (0, 67, 1, (1, 68)), (0, 67, 2, (2, 68))] ++ fMd2
def fMd4 (q : Nat) : List (Nat × Nat × Int × Ad) := [(q, 57, 4, (q, 58)), (0, 61, (q : Int), (q, 57))]
def fMen : List (Nat × Nat × Int × Ad) := fMd4 3 ++ (fMd4 2 ++ (fMd4 1 ++ (fMd4 0 ++ fMd3)))
def aMen : List Ad := [(0, 60), (2, 50), (21, 20), (0, 61), (0, 67), (0, 57), (1, 57), (2, 57), (3, 57)]
section IND
variable {d : Nat} {mr : MR} {mi : MI} {Q : V → MI → Nat → MR → Prop}
set_option maxRecDepth 8000 in
theorem i_mender (hz : Fz 63 mi mr) (hQ : ∀ mi' mr', Cl aMen mi mi' mr mr' → LF fMen mr' → mi' 0 60 3 = -1 → Q (vX 0) mi' 93 mr') : Tx (d+3) mt_X4_init [vR (some (0, 60))] mi 63 mr Q := by
  have hb4 : ∀ m r, Cl aMen mi m mr r → LF fMen r → m 0 60 3 = -1 → Run (d+3) mt_X4_init Q (93, r, 30, 2722) m 105 [vR (some (0, 60)), vI 4] [] := by
    intro m r c f v
    refine s_iload_n (dc kc_X4_init_1 15 rfl) rfl <| k_i (dc kc_X4_init_1 16 rfl) rfl <| s_icmp_gt (tgt := 129) (dc kc_X4_init_1 17 rfl) rfl (fun c107 => (s_return (dc kc_X4_init_1 27 rfl) rfl (Nat.le_of_ble_eq_true rfl) (Nat.le_of_ble_eq_true rfl) ?_)) (fun c107 => (?_))
    · exact hQ m r c f v
    · exfalso; omega
  have hb3 : ∀ m r, Cl aMen mi m mr r → Fz 91 m r → LF (fMd4 2 ++ (fMd4 1 ++ (fMd4 0 ++ fMd3))) r → m 0 60 3 = -1 → Run (d+3) mt_X4_init Q (91, r, 28, 2217) m 105 [vR (some (0, 60)), vI 3] [] := by
    intro m r c hz f v
    have h61 : r 0 60 1 = some (0, 61) := f (0, 60, 1, (0, 61)) (by decide)
    refine s_iload_n (dc kc_X4_init_1 15 rfl) rfl <| k_i (dc kc_X4_init_1 16 rfl) rfl <| s_icmp_gt (tgt := 129) (dc kc_X4_init_1 17 rfl) rfl (fun c107 => (s_return (dc kc_X4_init_1 27 rfl) rfl (Nat.le_of_ble_eq_true rfl) (Nat.le_of_ble_eq_true rfl) ?_)) (fun c107 => (r_aload_n (dc kc_X4_init_1 18 rfl) rfl <| s_getA (dc kc_X4_init_1 19 rfl) fl_X4_20 h61 <| s_iload_n (dc kc_X4_init_1 20 rfl) rfl <| s_new (j := 57) (dc kc_X4_init_1 21 rfl) (by first | assumption | rfl) rfl (by decide) rfl (by first | decide | omega) ?_ kk_X4_18 in_X3 it_X3 (Nat.le_of_ble_eq_true rfl) (Nat.le_of_ble_eq_true rfl) <| s_dup (dc kc_X4_init_1 22 rfl) rfl <| c_i0 (dc kc_X4_init_1 23 rfl) cl_X4_65 (Nat.le_of_ble_eq_true rfl) (Nat.le_of_ble_eq_true rfl) (Nat.le_of_ble_eq_true rfl) ?_))
    · exfalso; omega
    · exact hz.fr (by omega)
    refine i_mlist (q := 3) (hz.clb (A := []) (N := 92) Cl.rf rfl (by omega)) (i0 := 91) rfl (by omega) (by omega) rfl (fun m5 r5 c5 l5 => ?_)
    refine s_aastore (dc kc_X4_init_1 24 rfl) rfl (by decide) (by first | omega | (simp [up] <;> omega)) (by first | omega | (simp [up] <;> omega)) <| b_inc1 (dc kc_X4_init_1 25 rfl) rfl (Nat.le_of_ble_eq_true rfl) rfl (by first | omega | (simp [up] <;> omega)) (by first | omega | (simp [up] <;> omega)) <| s_goto (tgt := 105) (dc kc_X4_init_1 26 rfl) rfl <| ?_
    refine hb4 _ _ (Cl.upR rfl (Cl.tr rfl c c5)) (LF.app (LF.cons (by rw [upR_a (by decide)]; exact l5) (LF.cons upR_at LF.nil)) ((f.cl c5 (by decide)).up (by decide))) (by rw [(c5 0 60 3 (by decide)).1]; exact v)
  have hb2 : ∀ m r, Cl aMen mi m mr r → Fz 89 m r → LF (fMd4 1 ++ (fMd4 0 ++ fMd3)) r → m 0 60 3 = -1 → Run (d+3) mt_X4_init Q (89, r, 26, 1712) m 105 [vR (some (0, 60)), vI 2] [] := by
    intro m r c hz f v
    have h61 : r 0 60 1 = some (0, 61) := f (0, 60, 1, (0, 61)) (by decide)
    refine s_iload_n (dc kc_X4_init_1 15 rfl) rfl <| k_i (dc kc_X4_init_1 16 rfl) rfl <| s_icmp_gt (tgt := 129) (dc kc_X4_init_1 17 rfl) rfl (fun c107 => (s_return (dc kc_X4_init_1 27 rfl) rfl (Nat.le_of_ble_eq_true rfl) (Nat.le_of_ble_eq_true rfl) ?_)) (fun c107 => (r_aload_n (dc kc_X4_init_1 18 rfl) rfl <| s_getA (dc kc_X4_init_1 19 rfl) fl_X4_20 h61 <| s_iload_n (dc kc_X4_init_1 20 rfl) rfl <| s_new (j := 57) (dc kc_X4_init_1 21 rfl) (by first | assumption | rfl) rfl (by decide) rfl (by first | decide | omega) ?_ kk_X4_18 in_X3 it_X3 (Nat.le_of_ble_eq_true rfl) (Nat.le_of_ble_eq_true rfl) <| s_dup (dc kc_X4_init_1 22 rfl) rfl <| c_i0 (dc kc_X4_init_1 23 rfl) cl_X4_65 (Nat.le_of_ble_eq_true rfl) (Nat.le_of_ble_eq_true rfl) (Nat.le_of_ble_eq_true rfl) ?_))
    · exfalso; omega
    · exact hz.fr (by omega)
    refine i_mlist (q := 2) (hz.clb (A := []) (N := 90) Cl.rf rfl (by omega)) (i0 := 89) rfl (by omega) (by omega) rfl (fun m5 r5 c5 l5 => ?_)
    refine s_aastore (dc kc_X4_init_1 24 rfl) rfl (by decide) (by first | omega | (simp [up] <;> omega)) (by first | omega | (simp [up] <;> omega)) <| b_inc1 (dc kc_X4_init_1 25 rfl) rfl (Nat.le_of_ble_eq_true rfl) rfl (by first | omega | (simp [up] <;> omega)) (by first | omega | (simp [up] <;> omega)) <| s_goto (tgt := 105) (dc kc_X4_init_1 26 rfl) rfl <| ?_
    refine hb3 _ _ (Cl.upR rfl (Cl.tr rfl c c5)) (hz.clb (A := [(2, 57), (0, 61)]) (Cl.upR rfl (Cl.tr rfl Cl.rf c5)) (by decide +kernel) (by omega)) (LF.app (LF.cons (by rw [upR_a (by decide)]; exact l5) (LF.cons upR_at LF.nil)) ((f.cl c5 (by decide)).up (by decide))) (by rw [(c5 0 60 3 (by decide)).1]; exact v)
  have hb1 : ∀ m r, Cl aMen mi m mr r → Fz 87 m r → LF (fMd4 0 ++ fMd3) r → m 0 60 3 = -1 → Run (d+3) mt_X4_init Q (87, r, 24, 1207) m 105 [vR (some (0, 60)), vI 1] [] := by
    intro m r c hz f v
    have h61 : r 0 60 1 = some (0, 61) := f (0, 60, 1, (0, 61)) (by decide)
    refine s_iload_n (dc kc_X4_init_1 15 rfl) rfl <| k_i (dc kc_X4_init_1 16 rfl) rfl <| s_icmp_gt (tgt := 129) (dc kc_X4_init_1 17 rfl) rfl (fun c107 => (s_return (dc kc_X4_init_1 27 rfl) rfl (Nat.le_of_ble_eq_true rfl) (Nat.le_of_ble_eq_true rfl) ?_)) (fun c107 => (r_aload_n (dc kc_X4_init_1 18 rfl) rfl <| s_getA (dc kc_X4_init_1 19 rfl) fl_X4_20 h61 <| s_iload_n (dc kc_X4_init_1 20 rfl) rfl <| s_new (j := 57) (dc kc_X4_init_1 21 rfl) (by first | assumption | rfl) rfl (by decide) rfl (by first | decide | omega) ?_ kk_X4_18 in_X3 it_X3 (Nat.le_of_ble_eq_true rfl) (Nat.le_of_ble_eq_true rfl) <| s_dup (dc kc_X4_init_1 22 rfl) rfl <| c_i0 (dc kc_X4_init_1 23 rfl) cl_X4_65 (Nat.le_of_ble_eq_true rfl) (Nat.le_of_ble_eq_true rfl) (Nat.le_of_ble_eq_true rfl) ?_))
    · exfalso; omega
    · exact hz.fr (by omega)
    refine i_mlist (q := 1) (hz.clb (A := []) (N := 88) Cl.rf rfl (by omega)) (i0 := 87) rfl (by omega) (by omega) rfl (fun m5 r5 c5 l5 => ?_)
    refine s_aastore (dc kc_X4_init_1 24 rfl) rfl (by decide) (by first | omega | (simp [up] <;> omega)) (by first | omega | (simp [up] <;> omega)) <| b_inc1 (dc kc_X4_init_1 25 rfl) rfl (Nat.le_of_ble_eq_true rfl) rfl (by first | omega | (simp [up] <;> omega)) (by first | omega | (simp [up] <;> omega)) <| s_goto (tgt := 105) (dc kc_X4_init_1 26 rfl) rfl <| ?_
    refine hb2 _ _ (Cl.upR rfl (Cl.tr rfl c c5)) (hz.clb (A := [(1, 57), (0, 61)]) (Cl.upR rfl (Cl.tr rfl Cl.rf c5)) (by decide +kernel) (by omega)) (LF.app (LF.cons (by rw [upR_a (by decide)]; exact l5) (LF.cons upR_at LF.nil)) ((f.cl c5 (by decide)).up (by decide))) (by rw [(c5 0 60 3 (by decide)).1]; exact v)
  have hb0 : ∀ m r, Cl aMen mi m mr r → Fz 85 m r → LF (fMd3) r → m 0 60 3 = -1 → Run (d+3) mt_X4_init Q (85, r, 22, 702) m 105 [vR (some (0, 60)), vI 0] [] := by
    intro m r c hz f v
    have h61 : r 0 60 1 = some (0, 61) := f (0, 60, 1, (0, 61)) (by decide)
    refine s_iload_n (dc kc_X4_init_1 15 rfl) rfl <| k_i (dc kc_X4_init_1 16 rfl) rfl <| s_icmp_gt (tgt := 129) (dc kc_X4_init_1 17 rfl) rfl (fun c107 => (s_return (dc kc_X4_init_1 27 rfl) rfl (Nat.le_of_ble_eq_true rfl) (Nat.le_of_ble_eq_true rfl) ?_)) (fun c107 => (r_aload_n (dc kc_X4_init_1 18 rfl) rfl <| s_getA (dc kc_X4_init_1 19 rfl) fl_X4_20 h61 <| s_iload_n (dc kc_X4_init_1 20 rfl) rfl <| s_new (j := 57) (dc kc_X4_init_1 21 rfl) (by first | assumption | rfl) rfl (by decide) rfl (by first | decide | omega) ?_ kk_X4_18 in_X3 it_X3 (Nat.le_of_ble_eq_true rfl) (Nat.le_of_ble_eq_true rfl) <| s_dup (dc kc_X4_init_1 22 rfl) rfl <| c_i0 (dc kc_X4_init_1 23 rfl) cl_X4_65 (Nat.le_of_ble_eq_true rfl) (Nat.le_of_ble_eq_true rfl) (Nat.le_of_ble_eq_true rfl) ?_))
    · exfalso; omega
    · exact hz.fr (by omega)
    refine i_mlist (q := 0) (hz.clb (A := []) (N := 86) Cl.rf rfl (by omega)) (i0 := 85) rfl (by omega) (by omega) rfl (fun m5 r5 c5 l5 => ?_)
    refine s_aastore (dc kc_X4_init_1 24 rfl) rfl (by decide) (by first | omega | (simp [up] <;> omega)) (by first | omega | (simp [up] <;> omega)) <| b_inc1 (dc kc_X4_init_1 25 rfl) rfl (Nat.le_of_ble_eq_true rfl) rfl (by first | omega | (simp [up] <;> omega)) (by first | omega | (simp [up] <;> omega)) <| s_goto (tgt := 105) (dc kc_X4_init_1 26 rfl) rfl <| ?_
    refine hb1 _ _ (Cl.upR rfl (Cl.tr rfl c c5)) (hz.clb (A := [(0, 57), (0, 61)]) (Cl.upR rfl (Cl.tr rfl Cl.rf c5)) (by decide +kernel) (by omega)) (LF.app (LF.cons (by rw [upR_a (by decide)]; exact l5) (LF.cons upR_at LF.nil)) ((f.cl c5 (by decide)).up (by decide))) (by rw [(c5 0 60 3 (by decide)).1]; exact v)
  refine tx_intro (ls := [vR (some (0, 60)), vX 0]) om_X4_init rfl (Nat.le_of_ble_eq_true rfl) ?_
  refine r_aload_n (dc kc_X4_init_0 0 rfl) rfl <| s_objInit (dc kc_X4_init_0 1 rfl) oi_X4_3 im_obj co_obj <| r_aload_n (dc kc_X4_init_0 2 rfl) rfl <| s_new (j := 50) (dc kc_X4_init_0 3 rfl) (by first | assumption | rfl) rfl (by decide) rfl (by first | decide | omega) ?_ kk_X4_9 in_X6 it_X6 (Nat.le_of_ble_eq_true rfl) (Nat.le_of_ble_eq_true rfl) <| s_dup (dc kc_X4_init_0 4 rfl) rfl <| c_i0 (dc kc_X4_init_0 5 rfl) cl_X4_11 (Nat.le_of_ble_eq_true rfl) (Nat.le_of_ble_eq_true rfl) (Nat.le_of_ble_eq_true rfl) ?_
  · exact hz.fr (by omega)
  have hz1 : Fz 64 mi mr := hz.clb (A := []) Cl.rf rfl (by omega)
  refine i_reader (r := 2) hz1 (i0 := 63) rfl (by omega) (by omega) rfl rfl rfl (fun m1 r1 c1 l1 l2 => ?_)
  have hz2 : Fz 67 m1 (upR r1 0 60 0 (some (2, 50))) := hz1.clb (Cl.upR (A := [(2, 50), (0, 60)]) rfl (Cl.tr rfl Cl.rf c1)) (by decide +kernel) (by omega)
  have C1 : Cl aMen mi m1 mr (upR r1 0 60 0 (some (2, 50))) := Cl.upR rfl (Cl.tr rfl Cl.rf c1)
  have F1 : LF fMd1 (upR r1 0 60 0 (some (2, 50))) := LF.cons (by rw [upR_a (by decide)]; exact l1) (LF.cons (by rw [upR_a (by decide)]; exact l2) (LF.cons upR_at LF.nil))
  refine s_pOF (dc kc_X4_init_0 6 rfl) fl_X4_12 rfl (by decide) <| ?_
  generalize upR r1 0 60 0 (some (2, 50)) = r1' at *
  refine r_aload_n (dc kc_X4_init_0 7 rfl) rfl <| k_i (dc kc_X4_init_0 8 rfl) rfl <| s_anewa (dc kc_X4_init_0 9 rfl) (by first | assumption | rfl) rfl (by decide) rfl (by first | decide | omega) (by decide) ?_ kk_X4_18 (Nat.le_of_ble_eq_true rfl) (Nat.le_of_ble_eq_true rfl) <| s_pAF (dc kc_X4_init_0 10 rfl) fl_X4_20 rfl (by decide) <| r_aload_n (dc kc_X4_init_0 11 rfl) rfl <| k_i (dc kc_X4_init_0 12 rfl) rfl <| s_newa (dc kc_X4_init_0 13 rfl) (by first | assumption | rfl) rfl rfl (by first | decide | omega) (by decide) ?_ ac_int (Nat.le_of_ble_eq_true rfl) (Nat.le_of_ble_eq_true rfl) <| s_pAF (dc kc_X4_init_0 14 rfl) fl_X4_24 rfl (by decide) <| r_aload_n (dc kc_X4_init_0 15 rfl) rfl <| k_i (dc kc_X4_init_0 16 rfl) rfl <| s_putI (dc kc_X4_init_0 17 rfl) fl_X4_28 <| r_aload_n (dc kc_X4_init_0 18 rfl) rfl <| s_new (j := 20) (dc kc_X4_init_0 19 rfl) (by first | assumption | rfl) rfl (by decide) rfl (by first | decide | omega) ?_ kk_X4_32 in_X8 it_X8 (Nat.le_of_ble_eq_true rfl) (Nat.le_of_ble_eq_true rfl) <| s_dup (dc kc_X4_init_0 20 rfl) rfl <| c_i0 (dc kc_X4_init_0 21 rfl) cl_X4_34 (Nat.le_of_ble_eq_true rfl) (Nat.le_of_ble_eq_true rfl) (Nat.le_of_ble_eq_true rfl) ?_
  all_goals first | exact (hz2.clb (A := [(0, 60)]) (by repeat (first | exact Cl.rf | refine Cl.up rfl ?_ | refine Cl.upR rfl ?_)) (by decide +kernel) (by omega)).fr (by omega) | skip
  have hv : up m1 0 60 3 (-1) 0 60 3 = -1 := up_at
  have C2 : Cl aMen mi (up m1 0 60 3 (-1)) mr (upR (upR r1' 0 60 1 (some (0, 61))) 0 60 2 (some (0, 62))) := Cl.upR rfl (Cl.upR rfl (Cl.up rfl C1))
  have hz3 : Fz 69 (up m1 0 60 3 (-1)) (upR (upR r1' 0 60 1 (some (0, 61))) 0 60 2 (some (0, 62))) := hz2.clb (A := [(0, 60)]) (Cl.upR rfl (Cl.upR rfl (Cl.up rfl Cl.rf))) (by decide +kernel) (by omega)
  have F2 : LF ([(0, 60, 1, (0, 61)), (0, 60, 2, (0, 62))] ++ fMd1) (upR (upR r1' 0 60 1 (some (0, 61))) 0 60 2 (some (0, 62))) := by
    refine LF.app ?_ ((F1.up (by decide)).up (by decide))
    exact LF.cons (by simp [upR]) (LF.cons (by simp [upR]) LF.nil)
  generalize up m1 0 60 3 (-1) = m2 at *
  generalize upR (upR r1' 0 60 1 (some (0, 61))) 0 60 2 (some (0, 62)) = r2 at *
  have z0 := hz3.at (N := 0) (i := 69) (g := 21) (j := 20) rfl (by omega) (by omega)
  refine i_text (hz3.clb (A := []) (N := 70) Cl.rf rfl (by omega)) (i0 := 69) rfl (by omega) (by omega) rfl rfl rfl rfl rfl rfl rfl (z0 0).1 (z0 1).1 (fun r3 cm3 t3 => ?_)
  have C3 : Cl aMen mi m2 mr r3 := Cl.cm rfl C2 cm3
  have hz4 : Fz 77 m2 r3 := hz3.clb (A := [(21, 20)]) (Cl.cm rfl Cl.rf cm3) (by decide +kernel) (by omega)
  have F3 : LF fMd2 r3 := LF.app t3.lf (F2.mv [(21, 20)] (fun g j k h => cm3 g j k (fun z => h (by rw [z]; exact List.mem_singleton.mpr rfl))) (by decide))
  refine s_pO (dc kc_X4_init_0 22 rfl) fl_X4_35 <| r_aload_n (dc kc_X4_init_0 23 rfl) rfl <| k_b (dc kc_X4_init_0 24 rfl) rfl <| s_newa (dc kc_X4_init_0 25 rfl) (by first | assumption | rfl) rfl rfl (by first | decide | omega) (by decide) ?_ ac_int (Nat.le_of_ble_eq_true rfl) (Nat.le_of_ble_eq_true rfl) <| s_pAF (dc kc_X4_init_0 26 rfl) fl_X4_39 rfl (by decide) <| r_aload_n (dc kc_X4_init_0 27 rfl) rfl <| k_b (dc kc_X4_init_0 28 rfl) rfl <| s_newa (dc kc_X4_init_0 29 rfl) (by first | assumption | rfl) rfl rfl (by first | decide | omega) (by decide) ?_ ac_int (Nat.le_of_ble_eq_true rfl) (Nat.le_of_ble_eq_true rfl) <| s_pAF (dc kc_X4_init_0 30 rfl) fl_X4_42 rfl (by decide) <| r_aload_n (dc kc_X4_init_0 31 rfl) rfl <| k_b (dc kc_X4_init_0 32 rfl) rfl <| s_newa (dc kc_X4_init_0 33 rfl) (by first | assumption | rfl) rfl rfl (by first | decide | omega) (by decide) ?_ ac_int (Nat.le_of_ble_eq_true rfl) (Nat.le_of_ble_eq_true rfl) <| s_pAF (dc kc_X4_init_0 34 rfl) fl_X4_45 rfl (by decide) <| r_aload_n (dc kc_X4_init_0 35 rfl) rfl <| k_i (dc kc_X4_init_0 36 rfl) rfl <| s_putI (dc kc_X4_init_0 37 rfl) fl_X4_48 <| r_aload_n (dc kc_X4_init_0 38 rfl) rfl <| k_i (dc kc_X4_init_0 39 rfl) rfl <| s_putI (dc kc_X4_init_1 0 rfl) fl_X4_51 <| r_aload_n (dc kc_X4_init_1 1 rfl) rfl <| k_i (dc kc_X4_init_1 2 rfl) rfl <| s_putI (dc kc_X4_init_1 3 rfl) fl_X4_54 <| r_aload_n (dc kc_X4_init_1 4 rfl) rfl <| k_i (dc kc_X4_init_1 5 rfl) rfl <| s_newa (dc kc_X4_init_1 6 rfl) (by first | assumption | rfl) rfl rfl (by first | decide | omega) (by decide) ?_ ac_int (Nat.le_of_ble_eq_true rfl) (Nat.le_of_ble_eq_true rfl) <| s_pAF (dc kc_X4_init_1 7 rfl) fl_X4_57 rfl (by decide) <| r_aload_n (dc kc_X4_init_1 8 rfl) rfl <| k_i (dc kc_X4_init_1 9 rfl) rfl <| k_b (dc kc_X4_init_1 10 rfl) rfl <| s_mna (g := 0) (dc kc_X4_init_1 11 rfl) rfl rfl rfl rfl (by omega) ?_ kk_X4_60 ac_int (Nat.le_of_ble_eq_true rfl) (Nat.le_of_ble_eq_true rfl) <| s_pAF (dc kc_X4_init_1 12 rfl) fl_X4_62 rfl (by decide) <| k_i (dc kc_X4_init_1 13 rfl) rfl <| t_i1 (dc kc_X4_init_1 14 rfl) (Nat.le_of_ble_eq_true rfl) rfl <| ?_
  all_goals first | exact (hz4.clb (A := [(0, 60)]) (by repeat (first | exact Cl.rf | refine Cl.up rfl ?_ | refine Cl.upR rfl ?_)) (by decide +kernel) (by omega)).fr (by omega) | skip
  · exact fun i hi => (hz4.clb (A := [(0, 60)]) (N := 81 + i) (by repeat (first | exact Cl.rf | refine Cl.up rfl ?_ | refine Cl.upR rfl ?_)) (List.all_eq_true.mpr (fun a ha => by rw [List.mem_singleton.mp ha]; exact List.contains_iff_mem.mpr (List.mem_of_getElem? (i := 62) (by rw [List.getElem?_take_of_lt (by omega)]; rfl)))) (by omega)).fr (by omega)
  refine hb0 _ _ (by repeat (first | exact C3 | refine Cl.up rfl ?_ | refine Cl.upR rfl ?_)) (hz4.clb (A := [(0, 60), (0, 67)]) (by repeat (first | exact Cl.rf | refine Cl.up rfl ?_ | refine Cl.upR rfl ?_)) (by decide +kernel) (by omega)) ?_ (by simp [up]; exact hv)
  refine LF.app ?_ ?_
  · repeat' (first | exact LF.nil | refine LF.cons ?_ ?_)
    all_goals simp [upR]
  · repeat (first | exact F3 | refine LF.up ?_ (by decide))
end IND
