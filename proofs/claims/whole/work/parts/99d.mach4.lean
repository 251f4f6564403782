/-! types are kept by each move -/
theorem ty1_n {w a : Int} {ts ts' : List Nat} (m : Int) (y : Nat) (h : ty1 w a ts = tyL m a y ts) (h0 : 0 ≤ a) (h1 : a ≤ m) (e : ts' = y :: ts) : ty1 w a ts = some ts' := by
  rw [h, e]
  exact if_pos ⟨h0, h1⟩
section TYM
variable {tk nu nx : Int → Int} {B N o : Int}
theorem TYs_mv (hT : TkE N tk nu nx) {s : MS} (hG : Gs tk B N s) (h : TYs o s) : TYs o (mv psU tk nu nx o s) := by
  obtain ⟨f, u, b, fl, k, tg, e, p, v, c⟩ := s
  by_cases hfl : fl = -1
  · subst hfl
    have hg0 : 0 ≤ f := hG.1.1
    have hg1 : f ≤ N := hG.1.2
    obtain ⟨⟨n0, n1⟩, -, -, hnx⟩ := hT f hg0 hg1
    have hfm : f ≠ -1 := by omega
    have nxo : tk f ≠ 23 → nx f ≠ -1 := fun z => by have := hnx z; omega
    cases k with
    | nil => exact h
    | cons y r =>
      have hy : Sy y := hG.2.2.2.2.1 y List.mem_cons_self
      obtain ⟨ph, ts, hO, t1, hF, hP⟩ := h rfl
      have hF : Fit (y :: r) ph ts := hF
      have hP : Phs ph tg e p v c := hP
      have t1 : tyc c [] = some ts := t1
      obtain ⟨P0, P1, P2, P3, P4, P5⟩ := id hP
      by_cases y7 : 700 ≤ y
      · cases hq : prd o (tk f) y with
        | none => rw [mv_7n y7 hq]; exact TYs_flS hfm
        | some q =>
          have hx := prd_tk hq
          have fin0 : q.1 = 0 → TY o (q.2 ++ r) tg (eNw y e) (pNw y p v c) (vNw y v c) (cNw y c) → TYs o (mv psU tk nu nx o (f, u, b, -1, y :: r, tg, e, p, v, c)) := fun z1 z2 => by
            rw [mv_70 y7 hq z1]
            exact fun _ => z2
          have fin1 : q.1 = 1 → TY o (q.2 ++ r) (if y = 702 then tgN (tk f) tg else tg) (eNw y e) (pNw y p v c) (vNw y v c) (cNw y c) → TYs o (mv psU tk nu nx o (f, u, b, -1, y :: r, tg, e, p, v, c)) := fun z1 z2 => by
            rw [mv_71 y7 hq z1]
            exact TYs_tkS (nxo (hx.2 z1).1) z2
          have nc : y ≠ 703 → y ≠ 704 → y ≠ 702 → TY o (q.2 ++ r) tg e p v c → TYs o (mv psU tk nu nx o (f, u, b, -1, y :: r, tg, e, p, v, c)) := fun z3 z4 z2 z => by
            rcases hx.1 with w | w
            · exact fin0 w (by rw [eNw_n z3 z4, pNw_n z3, vNw_n z3 z4, cNw_n z3 z4]; exact z)
            · exact fin1 w (by rw [if_neg z2, eNw_n z3 z4, pNw_n z3, vNw_n z3 z4, cNw_n z3 z4]; exact z)
          have ok : Fit (q.2 ++ r) ph ts → TY o (q.2 ++ r) tg e p v c := fun z => ⟨ph, ts, hO, t1, z, hP⟩
          have hy := hy.1
          unfold Sy0 at hy
          clear h hG
          by_cases c00 : y = 700
          · subst c00
            obtain ⟨e1, e2, e3⟩ := fit_700.mp hF
            subst e1 e2 e3
            rw [prd_700] at hq
            refine nc (by decide) (by decide) (by decide) (ok ?_)
            have num : ∀ w : Int, 0 ≤ w → w ≤ 2 → Fit [300 + w] 3 [] := fun w w0 w1 => (fit_num (by omega) (by omega) (by omega)).mpr ⟨[2], fun a a0 a1 => by
              have hm : mst (300 + w - 300) = 2 := by unfold mst; rw [if_neg (by omega), if_neg (by omega)]
              rw [hm] at a1
              have : w = 0 ∨ w = 1 ∨ w = 2 := by omega
              rcases this with z | z | z <;> subst z <;> exact ty1_n 2 2 rfl a0 a1 rfl, ⟨by omega, by omega, by omega⟩, Or.inl ⟨rfl, rfl⟩⟩
            split at hq
            · cases hq; exact num 0 (by decide) (by decide)
            · split at hq
              · cases hq; exact num 1 (by decide) (by decide)
              · split at hq
                · cases hq; exact num 2 (by decide) (by decide)
                · split at hq
                  · cases hq
                    refine (fit_num (by decide) (by decide) (by decide)).mpr ⟨[3], fun a a0 a1 => ty1_n 2 3 rfl a0 a1 rfl, by decide, ?_⟩
                    refine (fit_num (by decide) (by decide) (by decide)).mpr ⟨[2], fun a a0 a1 => ?_, by decide, Or.inl ⟨rfl, rfl⟩⟩
                    have a1 : a ≤ 2 := a1
                    show ((tyL 2 a 2 [3]).bind fun _ => tyU 3 2 [3]) = _
                    rw [show tyL 2 a 2 [3] = some [2, 3] from if_pos ⟨a0, a1⟩]
                    rfl
                  · split at hq
                    · cases hq
                      exact fit_710.mpr (Or.inl ⟨rfl, rfl⟩)
                    · cases hq
          by_cases c01 : y = 701
          · subst c01
            obtain ⟨e1, e2, e3⟩ := fit_701.mp hF
            subst e1 e2 e3
            obtain ⟨p1, p2, p3, p4⟩ := P5 rfl
            rw [prd_701] at hq
            refine nc (by decide) (by decide) (by decide) ?_
            split at hq
            · cases hq
              exact ⟨0, [], ⟨fun _ => (by decide), fun _ => hO.mpr (by decide)⟩, t1, fit_702.mpr ⟨rfl, rfl, rfl⟩, P0, fun _ => ⟨p1, p2, p3⟩, fun z => (by cases z), fun z => (by cases z), fun z => (by cases z), fun z => (by cases z)⟩
            · split at hq
              · cases hq
                exact ⟨1, [], ⟨fun _ => (by decide), fun _ => hO.mpr (by decide)⟩, t1, fit_720.mpr (fit_704.mpr ⟨rfl, Or.inr rfl, rfl⟩), P0, fun z => (by cases z), fun _ => ⟨p2, p3, fun _ z => by omega⟩, fun z => (by cases z), fun z => (by cases z), fun z => (by cases z)⟩
              · cases hq
          by_cases c02 : y = 702
          · subst c02
            obtain ⟨e1, e2, e3⟩ := fit_702.mp hF
            subst e1 e2 e3
            obtain ⟨p1, p2, p3⟩ := P1 rfl
            rw [prd_702] at hq
            have hP' : ∀ t, 0 ≤ t → t ≤ 9 → Phs 0 t e p v c := fun t z1 z2 => ⟨⟨z1, z2⟩, fun _ => ⟨p1, p2, p3⟩, fun z => (by cases z), fun z => (by cases z), fun z => (by cases z), fun z => (by cases z)⟩
            have go : q.1 = 1 → Fit (q.2 ++ [704]) 0 [] → TYs o (mv psU tk nu nx o (f, u, b, -1, [702, 704], tg, e, p, v, c)) := fun z1 z2 => fin1 z1 ⟨0, [], ⟨fun _ => (by decide), fun _ => hO.mpr (by decide)⟩, t1, z2, by
              refine hP' _ ?_ ?_ <;> (rw [if_pos rfl]; unfold tgN; repeat' split) <;> omega⟩
            have hn : ∀ r', Fit (704 :: r') 1 [0] ↔ r' = [] := fun r' => ⟨fun z => (fit_704.mp z).2.2, fun z => fit_704.mpr ⟨rfl, Or.inl rfl, z⟩⟩
            have h723 : Fit [15, 723, 704] 1 [] := (fit_due (by decide)).mpr (fit_723.mpr ⟨by decide, fit_704.mpr ⟨rfl, Or.inl rfl, rfl⟩⟩)
            have h720 : Fit [15, 720, 704] 1 [] := (fit_due (by decide)).mpr (fit_720.mpr (fit_704.mpr ⟨rfl, Or.inr rfl, rfl⟩))
            split at hq
            · cases hq; exact go rfl ((fit_aim (by decide)).mpr ⟨rfl, rfl, h723⟩)
            · split at hq
              · cases hq; exact go rfl ((fit_aim (by decide)).mpr ⟨rfl, rfl, h720⟩)
              · split at hq
                · cases hq; exact go rfl (fit_724.mpr ⟨by decide, fit_703.mpr ⟨rfl, rfl, h723⟩⟩)
                · split at hq
                  · cases hq; exact go rfl (fit_724.mpr ⟨by decide, fit_703.mpr ⟨rfl, rfl, h723⟩⟩)
                  · split at hq
                    · cases hq; exact go rfl (fit_724.mpr ⟨by decide, fit_703.mpr ⟨rfl, rfl, h720⟩⟩)
                    · cases hq
          by_cases c03 : y = 703
          · subst c03
            obtain ⟨e1, e2, e3⟩ := fit_703.mp hF
            subst e1 e2
            obtain ⟨p1, p2, p3⟩ := P1 rfl
            subst p1 p2
            rw [prd_703] at hq
            cases hq
            exact fin0 rfl ⟨1, [], ⟨fun _ => (by decide), fun _ => hO.mpr (by decide)⟩, rfl, e3, P0, fun z => (by cases z), fun _ => ⟨rfl, rfl, fun _ _ => t1⟩, fun z => (by cases z), fun z => (by cases z), fun z => (by cases z)⟩
          by_cases c04 : y = 704
          · subst c04
            obtain ⟨e1, e2, e3⟩ := fit_704.mp hF
            subst e1 e3
            obtain ⟨p1, p2, p3⟩ := P2 rfl
            subst p1
            rw [prd_704] at hq
            have hP' : Phs 2 tg 1 p c [] := ⟨P0, fun z => (by cases z), fun z => (by cases z), fun _ => ⟨rfl, e2.elim (fun z => Or.inl (z ▸ t1)) (fun z => Or.inr (z ▸ t1)), p3⟩, fun z => (by cases z), fun z => (by cases z)⟩
            split at hq
            · cases hq
              exact fin1 rfl ⟨2, [], ⟨fun _ => (by decide), fun _ => hO.mpr (by decide)⟩, rfl, fit_710.mpr (Or.inr ⟨rfl, Or.inr rfl⟩), hP'⟩
            · cases hq
              exact fin0 rfl ⟨2, [], ⟨fun _ => (by decide), fun _ => hO.mpr (by decide)⟩, rfl, Or.inr ⟨rfl, Or.inl rfl⟩, hP'⟩
          refine nc c03 c04 c02 (ok ?_)
          clear fin0 fin1 nc ok
          by_cases c10 : y = 710
          · subst c10
            rw [prd_710] at hq; cases hq
            exact fit_712.mpr (fit_711.mpr ⟨⟨_, rfl⟩, fit_710.mp hF⟩)
          by_cases c12 : y = 712
          · subst c12
            rw [prd_712] at hq; cases hq
            exact fit_714.mpr (fit_713.mpr ⟨⟨_, rfl⟩, fit_712.mp hF⟩)
          by_cases c20 : y = 720
          · subst c20
            rw [prd_720] at hq; cases hq
            exact fit_722.mpr (fit_721.mpr ⟨⟨_, rfl⟩, fit_720.mp hF⟩)
          by_cases c11 : y = 711
          · subst c11
            obtain ⟨⟨t, rfl⟩, hF⟩ := fit_711.mp hF
            rw [prd_711] at hq
            split at hq
            · cases hq
              exact fit_712.mpr ((fit_emt (by decide) (by decide)).mpr ⟨2 :: t, rfl, fun _ => by decide, fit_711.mpr ⟨⟨_, rfl⟩, hF⟩⟩)
            · cases hq; exact hF
          by_cases c13 : y = 713
          · subst c13
            obtain ⟨⟨t, rfl⟩, hF⟩ := fit_713.mp hF
            rw [prd_713] at hq
            split at hq
            · cases hq
              exact fit_714.mpr ((fit_emt (by decide) (by decide)).mpr ⟨2 :: t, rfl, fun _ => by decide, fit_713.mpr ⟨⟨_, rfl⟩, hF⟩⟩)
            · cases hq; exact hF
          by_cases c21 : y = 721
          · subst c21
            obtain ⟨⟨t, rfl⟩, hF⟩ := fit_721.mp hF
            rw [prd_721] at hq
            split at hq
            · cases hq
              exact fit_722.mpr ((fit_emt (by decide) (by decide)).mpr ⟨1 :: t, rfl, fun _ => by decide, fit_721.mpr ⟨⟨_, rfl⟩, hF⟩⟩)
            · split at hq
              · cases hq
                exact fit_722.mpr ((fit_emt (by decide) (by decide)).mpr ⟨1 :: t, rfl, fun _ => by decide, fit_721.mpr ⟨⟨_, rfl⟩, hF⟩⟩)
              · cases hq; exact hF
          by_cases c14 : y = 714
          · subst c14
            have hF := fit_714.mp hF
            rw [prd_714] at hq
            split at hq
            · cases hq
              exact fit_714.mpr ((fit_emt (by decide) (by decide)).mpr ⟨2 :: ts, rfl, fun _ => by decide, hF⟩)
            · split at hq
              · cases hq
                exact (fit_due (by decide)).mpr (fit_710.mpr ((fit_due (by decide)).mpr hF))
              · cases hq
                exact fit_720.mpr (fit_715.mpr ⟨ts, rfl, hF⟩)
          by_cases c15 : y = 715
          · subst c15
            obtain ⟨t, e1, hF2⟩ := fit_715.mp hF
            subst e1
            rw [prd_715] at hq
            split at hq
            · cases hq
              exact fit_720.mpr ((fit_emt (by decide) (by decide)).mpr ⟨2 :: t, rfl, fun _ => by decide, hF2⟩)
            · split at hq
              · cases hq
                exact fit_720.mpr ((fit_emt (by decide) (by decide)).mpr ⟨2 :: t, rfl, fun _ => by decide, hF2⟩)
              · split at hq
                · cases hq
                  exact fit_720.mpr ((fit_emt (by decide) (by decide)).mpr ⟨2 :: t, rfl, fun _ => by decide, hF2⟩)
                · cases hq
          by_cases c22 : y = 722
          · subst c22
            have hF := fit_722.mp hF
            rw [prd_722] at hq
            split at hq
            · cases hq
              exact (fit_num (by decide) (by decide) (by decide)).mpr ⟨1 :: ts, fun a a0 a1 => ty1_n 99 1 rfl a0 a1 rfl, by decide, hF⟩
            · split at hq
              · cases hq
                exact (fit_num (by decide) (by decide) (by decide)).mpr ⟨1 :: ts, fun a a0 a1 => ty1_n 2 1 rfl a0 a1 rfl, by decide, hF⟩
              · split at hq
                · cases hq
                  exact (fit_num (by decide) (by decide) (by decide)).mpr ⟨1 :: ts, fun a a0 a1 => ty1_n 2 1 rfl a0 a1 rfl, by decide, hF⟩
                · split at hq
                  · cases hq
                    exact (fit_num (by decide) (by decide) (by decide)).mpr ⟨1 :: ts, fun a a0 a1 => ty1_n 2 1 rfl a0 a1 rfl, by decide, hF⟩
                  · split at hq
                    · cases hq
                      exact (fit_due (by decide)).mpr (fit_720.mpr ((fit_due (by decide)).mpr hF))
                    · split at hq
                      · rename_i ho
                        cases hq
                        have hph : ph ≠ 3 := hO.mp ho.2
                        exact fit_724.mpr ⟨hph, (fit_emt (by decide) (by decide)).mpr ⟨1 :: ts, rfl, fun z => absurd z hph, hF⟩⟩
                      · cases hq
          by_cases c23 : y = 723
          · subst c23
            obtain ⟨hph, hF⟩ := fit_723.mp hF
            rw [prd_723] at hq
            split at hq
            · cases hq
              exact (fit_num (by decide) (by decide) (by decide)).mpr ⟨0 :: ts, fun a a0 a1 => ty1_n 5 0 rfl a0 a1 rfl, by decide, hF⟩
            · split at hq
              · cases hq
                exact (fit_num (by decide) (by decide) (by decide)).mpr ⟨0 :: ts, fun a a0 a1 => ty1_n 2 0 rfl a0 a1 rfl, by decide, hF⟩
              · split at hq
                · cases hq
                  exact (fit_emt (by decide) (by decide)).mpr ⟨0 :: ts, rfl, fun z => absurd z hph, hF⟩
                · split at hq
                  · cases hq
                    exact fit_724.mpr ⟨hph, (fit_emt (by decide) (by decide)).mpr ⟨0 :: ts, rfl, fun z => absurd z hph, hF⟩⟩
                  · split at hq
                    · cases hq
                      exact fit_724.mpr ⟨hph, (fit_emt (by decide) (by decide)).mpr ⟨0 :: ts, rfl, fun z => absurd z hph, hF⟩⟩
                    · cases hq
          by_cases c24 : y = 724
          · subst c24
            obtain ⟨hph, hF⟩ := fit_724.mp hF
            rw [prd_724] at hq
            cases hq
            exact (fit_due (by decide)).mpr (fit_723.mpr ⟨hph, (fit_due (by decide)).mpr hF⟩)
          exfalso
          rcases hy with z | z | z | z
          · clear c00 c01 c02 c03 c04 c10 c11 c12 c13 c14 c15 c20 c21 c22 c23 c24; omega
          · clear c10 c11 c12 c13 c14 c15 c20 c21 c22 c23 c24; omega
          · clear c00 c01 c02 c03 c04 c20 c21 c22 c23 c24; omega
          · clear c00 c01 c02 c03 c04 c10 c11 c12 c13 c14 c15; omega
      · by_cases y4 : 400 ≤ y
        · rw [mv_4 y4 (by omega)]
          obtain ⟨t2, z1, z2, z3⟩ := (fit_emt y4 (by omega)).mp hF
          exact fun _ => TY_snoc hO t1 z1 hP z3 (fun z => by
            have := z2 z
            exact ⟨by show y - 400 ≠ 10; omega, by show y - 400 ≠ 11; omega, by show y - 400 ≠ 12; omega⟩)
        · by_cases y3 : 300 ≤ y
          · rw [mv_3 y3 (by omega)]
            split
            · exact TYs_flS hfm
            · rename_i hx
              have hx22 : tk f = 22 := by
                by_cases z : tk f = 22
                · exact z
                · exact absurd (Or.inl z) hx
              have hnm : nu f ≤ mst (y - 300) := by
                by_cases z : mst (y - 300) < nu f
                · exact absurd (Or.inr z) hx
                · omega
              refine TYs_tkS (nxo (by omega)) ?_
              by_cases ya : y = 326 ∨ y = 327
              · obtain ⟨e1, e2, e3⟩ := (fit_aim ya).mp hF
                subst e1 e2
                obtain ⟨p1, p2, p3⟩ := P1 rfl
                have hm : mst (y - 300) = 2 := by unfold mst; rw [if_neg (by omega), if_neg (by omega)]
                rw [hm] at hnm
                rw [if_pos ya]
                refine ⟨1, [], ⟨fun _ => (by decide), fun _ => hO.mpr (by decide)⟩, t1, e3, ?_, fun z => (by cases z), fun _ => ⟨p2, p3, ?_⟩, fun z => (by cases z), fun z => (by cases z), fun z => (by cases z)⟩
                · split
                  · omega
                  · split <;> omega
                · split
                  · omega
                  · split <;> omega
              · obtain ⟨t2, z1, z2, z3⟩ := (fit_num y3 (by omega) ya).mp hF
                rw [if_neg ya, if_neg (by omega), if_neg (by omega)]
                exact TY_snoc hO t1 (z1 _ n0 hnm) hP z3 (fun _ => ⟨by show y - 300 ≠ 10; omega, by show y - 300 ≠ 11; omega, by show y - 300 ≠ 12; omega⟩)
          · rw [mv_2 (by omega)]
            split
            · exact TYs_flS hfm
            · rename_i hx
              have hxy : tk f = y := by
                by_cases z : tk f = y
                · exact z
                · exact absurd (Or.inr (Or.inl z)) hx
              have hy := hy.1
              unfold Sy0 at hy
              exact TYs_tkS (nxo (by omega)) ⟨ph, ts, hO, t1, (fit_due (by omega)).mp hF, hP⟩
  · exact fun z => absurd ((dead_mv (s := (f, u, b, fl, k, tg, e, p, v, c)) hfl).symm.trans z) hfl
end TYM
theorem tyL_ne {m a : Int} {y : Nat} {ts t : List Nat} (h : tyL m a y ts = some t) : t ≠ [] := by
  unfold tyL at h
  refine ifO h (fun _ h => ?_) (fun _ h => ?_)
  · cases h; exact fun z => by cases z
  · cases h
theorem tyU_ne {x y : Nat} {ts t : List Nat} (h : tyU x y ts = some t) : t ≠ [] := by
  cases ts with
  | nil => cases h
  | cons z ts =>
    rw [tyU] at h
    refine ifO h (fun _ h => ?_) (fun _ h => ?_)
    · cases h; exact fun z => by cases z
    · cases h
theorem tyD_ne {x y : Nat} {ts t : List Nat} (h : tyD x y ts = some t) : t ≠ [] := by
  cases ts with
  | nil => cases h
  | cons z ts =>
    cases ts with
    | nil => cases h
    | cons w ts =>
      rw [tyD] at h
      refine ifO h (fun _ h => ?_) (fun _ h => ?_)
      · cases h; exact fun z => by cases z
      · cases h
theorem ty1_ne {w a : Int} {ts t : List Nat} (h : ty1 w a ts = some t) : t ≠ [] := by
  unfold ty1 at h
  repeat' (refine ifO h (fun h0 h => ?_) (fun h0 h => ?_) <;> clear h0)
  all_goals first | exact tyL_ne h | exact tyU_ne h | exact tyD_ne h | (cases h; exact fun z => by cases z) | (cases hz : tyL 2 a 2 ts with | none => (rw [hz] at h; cases h) | some q => (rw [hz] at h; exact tyU_ne h)) | cases h
theorem tyc_ne0 : ∀ {k : List CT} {ts : List Nat}, ts ≠ [] → tyc k ts ≠ some []
  | [], ts, h => fun z => by cases z; exact h rfl
  | q :: k, ts, h => fun z => by
    obtain ⟨t1, z1, z2⟩ := tyc_c z
    exact tyc_ne0 (ty1_ne z1) z2
theorem tyc_ne {q : CT} {k : List CT} {ts : List Nat} (h : tyc (q :: k) ts = some []) : False := by
  obtain ⟨t1, z1, z2⟩ := tyc_c h
  exact tyc_ne0 (ty1_ne z1) z2
/-- both along a run -/
theorem Rh.GT {tk nu nx : Int → Int} {B N o : Int} (hT : TkE N tk nu nx) {a : Nat} {s s' : MS} (h : Rh tk nu nx o a s s') (hG : Gs tk B N s) (hY : TYs o s) : Gs tk B N s' ∧ TYs o s' := by
  obtain ⟨n, -, e, hs⟩ := h
  rw [← e]
  clear e
  induction n generalizing s with
  | zero => exact ⟨hG, hY⟩
  | succ n ih =>
    rw [itr]
    have h0 : (stk s).length ≤ 250 := hs 0 (by omega)
    exact ih (by rw [← mv_GU h0]; exact Gs_mv hT hG) (TYs_mv hT hG hY) (fun m hm => hs (m + 1) (by omega))
/-- a law at its end -/
theorem end_law {tk : Int → Int} {B N f u b tg e : Int} {p v c : List CT} (hG : Gs tk B N (f, u, b, -1, [], tg, e, p, v, c)) (hY : TYs 0 (f, u, b, -1, [], tg, e, p, v, c)) : p = [] ∧ v = [] ∧ Law c := by
  obtain ⟨ph, ts, hO, t1, hF, P0, P1, P2, P3, P4, P5⟩ := hY rfl
  have hph : ph = 3 := by
    by_cases z : ph = 3
    · exact z
    · exact absurd (hO.mpr z) (by decide)
  subst hph
  obtain ⟨a1, a2, a3⟩ := P4 rfl
  have hl : lng p v c + 0 ≤ u := (hG.2.2.2.2.2.2.2 rfl).2
  have hu : u ≤ 60 := hG.2.1.2
  rcases hF with z | z
  · refine ⟨a1, a2, ?_, ?_, a3⟩
    · rw [← z.2]; exact t1
    · unfold lng at hl; omega
  · exact absurd z.1 (by decide)
theorem end_line {tk : Int → Int} {B N f u b tg e : Int} {p v c : List CT} (hG : Gs tk B N (f, u, b, -1, [], tg, e, p, v, c)) (hY : TYs 1 (f, u, b, -1, [], tg, e, p, v, c)) : e = 1 ∧ (0 ≤ tg ∧ tg ≤ 9) ∧ Lin tg p v c := by
  obtain ⟨ph, ts, hO, t1, hF, P0, P1, P2, P3, P4, P5⟩ := hY rfl
  have hph : ph ≠ 3 := hO.mp rfl
  have hl : lng p v c + 0 ≤ u := (hG.2.2.2.2.2.2.2 rfl).2
  have hu : u ≤ 60 := hG.2.1.2
  rcases hF with z | z
  · exact absurd z.1 hph
  · obtain ⟨a1, a2, a3⟩ := P3 z.1
    have t1 : tyc c [] = some ts := t1
    refine ⟨a1, P0, a3, a2, ?_, ?_, ?_, ?_⟩
    · rcases z.2 with w | w
      · left
        cases c with
        | nil => rfl
        | cons q k =>
          exfalso
          rw [w] at t1
          exact tyc_ne t1
      · right
        rw [w] at t1; exact t1
    all_goals unfold lng at hl; omega
