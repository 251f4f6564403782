/-! rules that read and write memory -/
def up (mi : MI) (g j : Nat) (k v : Int) : MI := fun g' j' k' => if g' = g ∧ j' = j ∧ k' = k then v else mi g' j' k'
def upR (mr : MR) (g j : Nat) (k : Int) (v : Option Ad) : MR := fun g' j' k' => if g' = g ∧ j' = j ∧ k' = k then v else mr g' j' k'
theorem up_at {mi : MI} {g j : Nat} {k v : Int} : up mi g j k v g j k = v := by simp [up]
theorem up_k {mi : MI} {g j : Nat} {k k' v : Int} (h : k' ≠ k) : up mi g j k v g j k' = mi g j k' := by simp [up, h]
theorem up_a {mi : MI} {g j g' j' : Nat} {k k' v : Int} (h : (g', j') ≠ (g, j)) : up mi g j k v g' j' k' = mi g' j' k' := by
  unfold up
  rw [if_neg]
  rintro ⟨h1, h2, -⟩
  exact h (by rw [h1, h2])
theorem upR_at {mr : MR} {g j : Nat} {k : Int} {v : Option Ad} : upR mr g j k v g j k = v := by simp [upR]
theorem upR_k {mr : MR} {g j : Nat} {k k' : Int} {v : Option Ad} (h : k' ≠ k) : upR mr g j k v g j k' = mr g j k' := by simp [upR, h]
theorem upR_a {mr : MR} {g j g' j' : Nat} {k k' : Int} {v : Option Ad} (h : (g', j') ≠ (g, j)) : upR mr g j k v g' j' k' = mr g' j' k' := by
  unfold upR
  rw [if_neg]
  rintro ⟨h1, h2, -⟩
  exact h (by rw [h1, h2])
theorem kd_out {j : Nat} (h : 102 ≤ j) : kd j = (99, 0) := by
  have hl : kdL.length = 102 := by decide +kernel
  unfold kd
  rw [List.getD_eq_getElem?_getD, List.getElem?_eq_none (by omega)]
  rfl
theorem kd_cl (j : Nat) (q : vw_C) (h : vwCl[(kd j).1]? = some q) : q.2.2 = (kd j).2 := by
  by_cases hj : j < 102
  · have key : ∀ j, j < 102 → ((vwCl[(kd j).1]?).isNone = true ∨ (vwCl[(kd j).1]?).map (fun q => q.2.2) = some (kd j).2) := by decide +kernel
    have := key j hj
    rw [h] at this
    rcases this with z | z
    · cases z
    · exact Option.some.inj z
  · rw [kd_out (by omega)] at h
    simp [vwCl] at h
section WDS
variable {D : va_G} {ca : Nat → ClassId} {sx : Nat → Nat} {A : Nat → Prop} {s : State} {n : Nat} {mi mi' : MI} {mr mr' : MR} {ρ : Ad → Nat} {H H1 : Heap} {ws : va_W}
theorem Rc.congr {a : Ad} {e : va_E} (h : Rc n ρ sx ca mi mr a e) (h1 : ∀ k, mi' a.1 a.2 k = mi a.1 a.2 k) (h2 : ∀ k, mr' a.1 a.2 k = mr a.1 a.2 k) : Rc n ρ sx ca mi' mr' a e := by
  unfold Rc at h ⊢
  simp only [h1, h2]
  exact h
theorem Rc.kd {a : Ad} {e : va_E} (h : Rc n ρ sx ca mi mr a e) : (kd a.2).1 ≠ 99 := by
  rcases h with ⟨h, -⟩ | ⟨h, -⟩ | ⟨h, -⟩ | ⟨h, -⟩ | ⟨-, h, -⟩ <;> omega
theorem wd_put {i : Nat} {e' : va_E} (hSc : Sc sx A s mi) (hn : n ≤ 241) (hlen : ws.length = n) (hc : ∀ i, i < n → ∃ e, ws[i]? = some (ρ (nm i), e) ∧ Rc n ρ sx ca mi mr (nm i) e) (hi : i < n)
    (hP : va_P D vwCl (ws.set i (ρ (nm i), e')) H1) (hD : va_D A (ws.set i (ρ (nm i), e'))) (h1 : ∀ g j k, (g, j) ≠ nm i → mi' g j k = mi g j k) (h2 : ∀ g j k, (g, j) ≠ nm i → mr' g j k = mr g j k) (he : Rc n ρ sx ca mi' mr' (nm i) e') : Wd D ca sx A s n mi' mr' ρ H1 := by
  have hk := he.kd
  have h110 : ((0, 110) : Ad) ≠ nm i := fun q => hk (by rw [← q]; decide)
  have h111 : ((0, 111) : Ad) ≠ nm i := fun q => hk (by rw [← q]; decide)
  refine ⟨?_, hn, ws.set i (ρ (nm i), e'), by rw [List.length_set]; exact hlen, hP, hD, fun i' hi' => ?_⟩
  · obtain ⟨L, xs, q1, q2, q3, q4, q5, q6⟩ := hSc
    exact ⟨L, xs, q1, q2, q3, q4, by rw [h1 _ _ _ h111]; exact q5, fun k hk => by rw [h1 _ _ _ h110]; exact q6 k hk⟩
  · by_cases hii : i' = i
    · subst hii
      exact ⟨e', by rw [List.getElem?_set_self (by omega)], he⟩
    · obtain ⟨e, he1, he2⟩ := hc i' hi'
      have hne : nm i' ≠ nm i := fun q => hii (nm_inj (by omega) (by omega) q)
      exact ⟨e, by rw [List.getElem?_set_ne (Ne.symm hii)]; exact he1, he2.congr (fun k => h1 _ _ k hne) (fun k => h2 _ _ k hne)⟩
end WDS
/-- a field's link: role, slot, type, final -/
def FL (own : String) (idx j : Nat) (k : Int) (ty : FieldType) (fin : Bool) : Prop := ∃ (kn : Nat) (q : vw_C), k = (kn : Int) ∧ (kd j).1 < 20 ∧ vwCl[(kd j).1]? = some q ∧ kn < q.2.2 ∧ ft (kd j).1 kn = ty ∧ (q.2.1 kn).2.2.2 = fin ∧ Cond.fieldLink own idx q.1 (q.2.1 kn).2.1 (q.2.1 kn).2.2.1 ∈ T0
theorem i32_nat {y : Int32} {x : Int} (e : y.toInt = x) (h0 : 0 ≤ x) : ¬ y < 0 ∧ (y.toNatClampNeg : Int) = x := by
  refine ⟨fun q => ?_, ?_⟩
  · have := Int32.lt_iff_toInt_lt.mp q
    rw [e] at this
    have z : (0 : Int32).toInt = 0 := rfl
    omega
  · show ((y.toInt.toNat : Nat) : Int) = x
    rw [e]
    exact Int.toNat_of_nonneg h0
theorem i32_in {y : Int32} {x : Int} {N : Nat} (e : y.toInt = x) (h0 : 0 ≤ x) (h1 : x < N) : vp_in y N := by
  obtain ⟨h2, h3⟩ := i32_nat e h0
  intro q
  rcases q with q | q
  · exact h2 q
  · omega
section MEM
variable {d : Nat} {M : MT} {Q : V → MI → Nat → MR → Prop} {S : Nat × MR × Nat × Nat} {mi : MI} {pc pc' : Nat} {ls st : List V}
theorem s_get {g j idx : Nat} {k : Int} {ty : FieldType} {fin : Bool} {x : V} (hd : Dc M pc (.getfield idx) 3 pc') (hf : FL (mY M).cls idx j k ty fin) (hx : ∀ n ρ sx v, Rf n ρ sx ty (mi g j k) (S.2.1 g j k) v → Rv n ρ sx x v)
    (kk : Run d M Q S mi pc' ls (x :: st)) : Run d M Q S mi pc ls (vR (some (g, j)) :: st) := by
  intro p l e R s m args below meth c D ca sx A n0 ρ0 Qm C0 Re ρ H locs mls mst hW hS hE hn hl hs
  obtain ⟨_, w2, rfl, ⟨rfl, i, hi, ha⟩, hs⟩ := hs
  obtain ⟨kn, q, rfl, hk20, hq, hkn, hty, -, hlk⟩ := hf
  have hN := kd_cl j q hq
  obtain ⟨hSc, h241, ws, hlen, hP, hD, hc⟩ := id hW
  obtain ⟨e0, he1, he2⟩ := hc i hi
  rw [ha] at he1 he2
  obtain ⟨fs, rfl, hfl, hfv⟩ : ∃ fs : List Value, e0 = .inr ((kd j).1, fs) ∧ fs.length = (kd j).2 ∧ ∀ k, k < (kd j).2 → ∃ v, fs[k]? = some v ∧ Rf S.1 ρ sx (ft (kd j).1 k) (mi g j k) (S.2.1 g j k) v := by
    rcases he2 with ⟨-, h⟩ | ⟨h, -⟩ | ⟨h, -⟩ | ⟨h, -⟩ | ⟨h, -⟩
    · exact h
    all_goals (simp only at h; omega)
  obtain ⟨v, hv, hr⟩ := hfv kn (by omega)
  rw [hty] at hr
  obtain ⟨c1, c2, c3, c4⟩ := cl_ok _ _ hq
  have k2 := kk p l e R s m args below meth c D ca sx A n0 ρ0 Qm C0 Re ρ H locs mls (v :: w2) hW hS hE hn hl ⟨_, _, rfl, hx _ _ _ _ hr, hs⟩
  rw [hd.2] at k2
  exact va_get (C := q.1) (T := q.2.1) (N := q.2.2) (ref := q.1) C0.1 C0.2.1 C0.2.2.2.2.1 c1 C0.2.2.2.1 C0.2.2.2.2.2.2.2.2.2.1.1 hP i he1 hq kn hkn (C0.2.2.2.2.1 _ hlk) (by rw [c4 kn hkn]; exact fun _ h => h) hv hd.1 k2
theorem s_getI {g j idx : Nat} {k : Int} {fin : Bool} (hd : Dc M pc (.getfield idx) 3 pc') (hf : FL (mY M).cls idx j k .int fin) (kk : Run d M Q S mi pc' ls (vI (mi g j k) :: st)) : Run d M Q S mi pc ls (vR (some (g, j)) :: st) := s_get (x := vI (mi g j k)) hd hf (fun _ _ _ _ h => h) kk
theorem s_getZ {g j idx : Nat} {k : Int} {fin : Bool} (hd : Dc M pc (.getfield idx) 3 pc') (hf : FL (mY M).cls idx j k .boolean fin) (kk : Run d M Q S mi pc' ls (vI (mi g j k) :: st)) : Run d M Q S mi pc ls (vR (some (g, j)) :: st) := s_get (x := vI (mi g j k)) hd hf (fun _ _ _ _ h => h) kk
theorem s_getJ {g j idx : Nat} {k : Int} {fin : Bool} (hd : Dc M pc (.getfield idx) 3 pc') (hf : FL (mY M).cls idx j k .long fin) (kk : Run d M Q S mi pc' ls (vL (mi g j k) :: st)) : Run d M Q S mi pc ls (vR (some (g, j)) :: st) := s_get (x := vL (mi g j k)) hd hf (fun _ _ _ _ h => h) kk
/-- an array's or an object's field; what it holds is known -/
theorem s_getA {g j idx : Nat} {k : Int} {t : FieldType} {fin : Bool} {r : Option Ad} (hd : Dc M pc (.getfield idx) 3 pc') (hf : FL (mY M).cls idx j k (.array t) fin) (hr : S.2.1 g j k = r) (kk : Run d M Q S mi pc' ls (vR r :: st)) : Run d M Q S mi pc ls (vR (some (g, j)) :: st) := s_get hd hf (fun _ _ _ _ h => by rw [← hr]; exact h) kk
theorem s_getO {g j idx : Nat} {k : Int} {C : String} {fin : Bool} {r : Option Ad} (hd : Dc M pc (.getfield idx) 3 pc') (hf : FL (mY M).cls idx j k (.object C) fin) (hr : S.2.1 g j k = r) (kk : Run d M Q S mi pc' ls (vR r :: st)) : Run d M Q S mi pc ls (vR (some (g, j)) :: st) := s_get hd hf (fun _ _ _ _ h => by rw [← hr]; exact h) kk
theorem s_put {g j idx : Nat} {k : Int} {ty : FieldType} {fin : Bool} {x : V} {mi' : MI} {mr' : MR} (hd : Dc M pc (.putfield idx) 3 pc') (hf : FL (mY M).cls idx j k ty fin) (hfin : fin = false ∨ ((mY M).name = "<init>" ∧ ∀ q, vwCl[(kd j).1]? = some q → q.1 = (mY M).cls))
    (h1 : ∀ g' j' k', (g', j', k') ≠ (g, j, k) → mi' g' j' k' = mi g' j' k') (h2 : ∀ g' j' k', (g', j', k') ≠ (g, j, k) → mr' g' j' k' = S.2.1 g' j' k') (hx : ∀ n ρ sx v, Rv n ρ sx x v → Rf n ρ sx ty (mi' g j k) (mr' g j k) v ∧ narrow ty v = v ∧ fits ty v = true)
    (kk : Run d M Q (S.1, mr', S.2.2) mi' pc' ls st) : Run d M Q S mi pc ls (x :: vR (some (g, j)) :: st) := by
  intro p l e R s m args below meth c D ca sx A n0 ρ0 Qm C0 Re ρ H locs mls mst hW hS hE hn hl hs
  obtain ⟨v, _, rfl, hv, _, w2, rfl, ⟨rfl, i, hi, ha⟩, hs⟩ := hs
  obtain ⟨kn, q, rfl, hk20, hq, hkn, hty, hfi, hlk⟩ := hf
  have hN := kd_cl j q hq
  obtain ⟨hSc, h241, ws, hlen, hP, hD, hc⟩ := hW
  obtain ⟨e0, he1, he2⟩ := hc i hi
  rw [ha] at he1 he2
  obtain ⟨fs, rfl, hfl, hfv⟩ : ∃ fs : List Value, e0 = .inr ((kd j).1, fs) ∧ fs.length = (kd j).2 ∧ ∀ k, k < (kd j).2 → ∃ v, fs[k]? = some v ∧ Rf S.1 ρ sx (ft (kd j).1 k) (mi g j k) (S.2.1 g j k) v := by
    rcases he2 with ⟨-, h⟩ | ⟨h, -⟩ | ⟨h, -⟩ | ⟨h, -⟩ | ⟨h, -⟩
    · exact h
    all_goals (simp only at h; omega)
  obtain ⟨c1, c2, c3, c4⟩ := cl_ok _ _ hq
  obtain ⟨hx1, hx2, hx3⟩ := hx _ _ _ _ hv
  have key : ∀ (H1 : Heap) (locs1 : List Loc), va_P D vwCl (ws.set i (ρ (g, j), .inr ((kd j).1, fs.set kn v))) H1 → va_D A (ws.set i (ρ (g, j), .inr ((kd j).1, fs.set kn v))) → va_S A s.heap H1 locs1 → W p l e R s m args below meth c H1 locs1 S.2.2.1 S.2.2.2 Qm (F0 m (pc + 3) mls w2) := by
    intro H1 locs1 hP1 hD1 hS1
    have k2 := kk p l e R s m args below meth c D ca sx A n0 ρ0 Qm C0 Re ρ H1 locs1 mls w2 ?_ hS1 hE hn hl hs
    · rw [hd.2] at k2
      exact k2
    refine wd_put hSc h241 hlen hc hi (by rw [ha]; exact hP1) (by rw [ha]; exact hD1) (fun g' j' k' h => h1 g' j' k' (fun z => h (by rw [ha]; injection z with z1 z2; injection z2 with z2 z3; rw [z1, z2]))) (fun g' j' k' h => h2 g' j' k' (fun z => h (by rw [ha]; injection z with z1 z2; injection z2 with z2 z3; rw [z1, z2]))) ?_
    rw [ha]
    refine Or.inl ⟨hk20, fs.set kn v, rfl, by rw [List.length_set]; exact hfl, fun k' hk' => ?_⟩
    by_cases hkk : k' = kn
    · subst hkk
      exact ⟨v, List.getElem?_set_self (by omega), by rw [hty]; exact hx1⟩
    · obtain ⟨v', hv1, hv2⟩ := hfv k' hk'
      have hne : ((g, j, (k' : Int)) : Nat × Nat × Int) ≠ (g, j, (kn : Int)) := fun z => hkk (by injection z with z1 z2; injection z2 with z2 z3; omega)
      refine ⟨v', by rw [List.getElem?_set_ne (Ne.symm hkk)]; exact hv1, ?_⟩
      show Rf S.1 ρ sx (ft (kd j).1 k') (mi' g j k') (mr' g j k') v'
      rw [h1 _ _ _ hne, h2 _ _ _ hne]
      exact hv2
  cases hfb : fin with
  | false =>
    exact va_put (C := q.1) (T := q.2.1) (N := q.2.2) (ref := q.1) (ty := ty) C0.1 C0.2.1 C0.2.2.2.2.1 c1 (ft (kd j).1) c2 c3 C0.2.2.2.1 C0.2.2.2.2.2.2.2.2.2.1.1 hP hD hS i he1 hq kn hkn (C0.2.2.2.2.1 _ hlk) (by rw [c4 kn hkn]; exact fun _ h => h) (by rw [hfi, hfb]) (by rw [c2 kn hkn, hty]) hx2 hx3 (by omega) hd.1 key
  | true =>
    rcases hfin with z | ⟨z1, z2⟩
    · rw [hfb] at z; cases z
    · exact va_putF (C := q.1) (T := q.2.1) (N := q.2.2) (ref := q.1) (ty := ty) C0.1 C0.2.1 C0.2.2.2.2.1 c1 (ft (kd j).1) c2 c3 C0.2.2.2.1 C0.2.2.2.2.2.2.2.2.2.1.1 hP hD hS i he1 hq kn hkn (C0.2.2.2.2.1 _ hlk) (by rw [c4 kn hkn]; exact fun _ h => h) (by rw [hfi, hfb]) (by rw [C0.2.2.2.2.2.2.2.1, z1]) (by rw [c4 kn hkn]; exact z2 q hq) (by rw [c2 kn hkn, hty]) hx2 hx3 (by omega) hd.1 key
theorem up_off {g j : Nat} {k v : Int} : ∀ g' j' k', (g', j', k') ≠ (g, j, k) → up mi g j k v g' j' k' = mi g' j' k' := fun g' j' k' h => by
  unfold up
  rw [if_neg]
  rintro ⟨h1, h2, h3⟩
  exact h (by rw [h1, h2, h3])
theorem upR_off {mr : MR} {g j : Nat} {k : Int} {v : Option Ad} : ∀ g' j' k', (g', j', k') ≠ (g, j, k) → upR mr g j k v g' j' k' = mr g' j' k' := fun g' j' k' h => by
  unfold upR
  rw [if_neg]
  rintro ⟨h1, h2, h3⟩
  exact h (by rw [h1, h2, h3])
theorem s_putI {g j idx : Nat} {k x : Int} (hd : Dc M pc (.putfield idx) 3 pc') (hf : FL (mY M).cls idx j k .int false) (kk : Run d M Q S (up mi g j k x) pc' ls st) : Run d M Q S mi pc ls (vI x :: vR (some (g, j)) :: st) :=
  s_put (mr' := S.2.1) hd hf (Or.inl rfl) up_off (fun _ _ _ _ => rfl) (fun n ρ sx v h => ⟨by show Rv n ρ sx (vI _) v; rw [up_at]; exact h, by obtain ⟨y, rfl, -⟩ := h; rfl, by obtain ⟨y, rfl, -⟩ := h; rfl⟩) kk
theorem s_putZ {g j idx : Nat} {k x : Int} (hd : Dc M pc (.putfield idx) 3 pc') (hf : FL (mY M).cls idx j k .boolean false) (hx : x = 0 ∨ x = 1) (kk : Run d M Q S (up mi g j k x) pc' ls st) : Run d M Q S mi pc ls (vI x :: vR (some (g, j)) :: st) :=
  s_put (mr' := S.2.1) hd hf (Or.inl rfl) up_off (fun _ _ _ _ => rfl) (fun n ρ sx v h => by
    refine ⟨by show Rv n ρ sx (vI _) v; rw [up_at]; exact h, ?_⟩
    obtain ⟨y, rfl, e⟩ := h
    rcases hx with hx | hx
    · have : y = 0 := Int32.toInt_inj.mp (by rw [e, hx]; rfl)
      subst this; exact ⟨rfl, rfl⟩
    · have : y = 1 := Int32.toInt_inj.mp (by rw [e, hx]; rfl)
      subst this; exact ⟨rfl, rfl⟩) kk
theorem s_putJ {g j idx : Nat} {k x : Int} (hd : Dc M pc (.putfield idx) 3 pc') (hf : FL (mY M).cls idx j k .long false) (kk : Run d M Q S (up mi g j k x) pc' ls st) : Run d M Q S mi pc ls (vL x :: vR (some (g, j)) :: st) :=
  s_put (mr' := S.2.1) hd hf (Or.inl rfl) up_off (fun _ _ _ _ => rfl) (fun n ρ sx v h => ⟨by show Rv n ρ sx (vL _) v; rw [up_at]; exact h, by obtain ⟨y, rfl, -⟩ := h; rfl, by obtain ⟨y, rfl, -⟩ := h; rfl⟩) kk
theorem ref_fit {n : Nat} {ρ : Ad → Nat} {sx : Nat → Nat} {r : Option Ad} {v : Value} (h : Rv n ρ sx (vR r) v) : v = .null ∨ ∃ a, v = .ref a := by
  cases r with
  | none => exact Or.inl h
  | some a => exact Or.inr ⟨_, h.1⟩
theorem s_putA {g j idx : Nat} {k : Int} {t : FieldType} {fin : Bool} {r : Option Ad} (hd : Dc M pc (.putfield idx) 3 pc') (hf : FL (mY M).cls idx j k (.array t) fin) (hfin : fin = false ∨ ((mY M).name = "<init>" ∧ ∀ q, vwCl[(kd j).1]? = some q → q.1 = (mY M).cls)) (kk : Run d M Q (S.1, upR S.2.1 g j k r, S.2.2) mi pc' ls st) : Run d M Q S mi pc ls (vR r :: vR (some (g, j)) :: st) :=
  s_put (mi' := mi) hd hf hfin (fun _ _ _ _ => rfl) upR_off (fun n ρ sx v h => by
    refine ⟨by show Rv n ρ sx (vR _) v; rw [upR_at]; exact h, ?_⟩
    rcases ref_fit h with rfl | ⟨a, rfl⟩ <;> exact ⟨rfl, rfl⟩) kk
theorem s_putO {g j idx : Nat} {k : Int} {C : String} {fin : Bool} {r : Option Ad} (hd : Dc M pc (.putfield idx) 3 pc') (hf : FL (mY M).cls idx j k (.object C) fin) (hfin : fin = false ∨ ((mY M).name = "<init>" ∧ ∀ q, vwCl[(kd j).1]? = some q → q.1 = (mY M).cls)) (kk : Run d M Q (S.1, upR S.2.1 g j k r, S.2.2) mi pc' ls st) : Run d M Q S mi pc ls (vR r :: vR (some (g, j)) :: st) :=
  s_put (mi' := mi) hd hf hfin (fun _ _ _ _ => rfl) upR_off (fun n ρ sx v h => by
    refine ⟨by show Rv n ρ sx (vR _) v; rw [upR_at]; exact h, ?_⟩
    rcases ref_fit h with rfl | ⟨a, rfl⟩ <;> exact ⟨rfl, rfl⟩) kk
end MEM
