/-! calls: a method's entry, a call's rule -/
section MONO
variable {n n' : Nat} {ρ ρ' : Ad → Nat} {sx : Nat → Nat}
theorem Rv.mono {x : V} {v : Value} (h : Rv n ρ sx x v) (hn : n ≤ n') (he : ∀ i, i < n → ρ' (nm i) = ρ (nm i)) : Rv n' ρ' sx x v := by
  cases x with
  | inl x => exact h
  | inr x =>
    cases x with
    | inl x => exact h
    | inr x =>
      cases x with
      | inl r =>
        cases r with
        | none => exact h
        | some a =>
          obtain ⟨rfl, i, hi, ha⟩ := h
          exact ⟨by rw [← ha, he i hi], i, by omega, ha⟩
      | inr k => exact h
theorem Rs.mono : ∀ {xs : List V} {vs : List Value}, Rs n ρ sx xs vs → n ≤ n' → (∀ i, i < n → ρ' (nm i) = ρ (nm i)) → Rs n' ρ' sx xs vs
  | [], _, h, _, _ => h
  | _ :: _, _, ⟨v, ws, e, h1, h2⟩, hn, he => ⟨v, ws, e, h1.mono hn he, Rs.mono h2 hn he⟩
theorem Rl.mono {nL : Nat} {ls : List V} {mls : Array Slot} (h : Rl n ρ sx nL ls mls) (hn : n ≤ n') (he : ∀ i, i < n → ρ' (nm i) = ρ (nm i)) : Rl n' ρ' sx nL ls mls :=
  ⟨h.1, h.2.1, fun i x hx h0 => by obtain ⟨v, h1, h2⟩ := h.2.2 i x hx h0; exact ⟨v, h1, h2.mono hn he⟩⟩
theorem Rs.split : ∀ {xs ys : List V} {vs : List Value}, Rs n ρ sx (xs ++ ys) vs → ∃ v1 v2, vs = v1 ++ v2 ∧ Rs n ρ sx xs v1 ∧ Rs n ρ sx ys v2
  | [], _, vs, h => ⟨[], vs, rfl, rfl, h⟩
  | _ :: _, _, _, ⟨v, ws, e, h1, h2⟩ => by
    obtain ⟨v1, v2, e2, h3, h4⟩ := Rs.split h2
    exact ⟨v :: v1, v2, by rw [e, e2]; rfl, ⟨v, v1, rfl, h1, h3⟩, h4⟩
theorem Rs.join : ∀ {xs ys : List V} {v1 v2 : List Value}, Rs n ρ sx xs v1 → Rs n ρ sx ys v2 → Rs n ρ sx (xs ++ ys) (v1 ++ v2)
  | [], _, _, _, h1, h2 => by cases (show _ = [] from h1); exact h2
  | _ :: _, _, _, _, ⟨v, ws, e, h3, h4⟩, h2 => ⟨v, ws ++ _, by rw [e]; rfl, h3, Rs.join h4 h2⟩
theorem Rs.rev : ∀ {xs : List V} {vs : List Value}, Rs n ρ sx xs vs → Rs n ρ sx xs.reverse vs.reverse
  | [], _, h => by cases (show _ = [] from h); exact rfl
  | x :: xs, _, ⟨v, ws, e, h1, h2⟩ => by
    rw [e, List.reverse_cons, List.reverse_cons]
    exact Rs.join (Rs.rev h2) ⟨v, [], rfl, h1, rfl⟩
theorem Rs.len : ∀ {xs : List V} {vs : List Value}, Rs n ρ sx xs vs → vs.length = xs.length
  | [], _, h => by cases (show _ = [] from h); rfl
  | _ :: _, _, ⟨v, ws, e, h1, h2⟩ => by rw [e, List.length_cons, List.length_cons, Rs.len h2]
/-- the words that a stack takes -/
def wdV (xs : List V) : Nat := (xs.map fun x => if isL x = true then 2 else 1).sum
theorem Rs.words : ∀ {xs : List V} {vs : List Value}, Rs n ρ sx xs vs → (vs.map fun v => v.category).sum = wdV xs
  | [], _, h => by cases (show _ = [] from h); rfl
  | x :: xs, _, ⟨v, ws, e, h1, h2⟩ => by
    have := Rs.words h2
    rw [e]
    simp only [List.map_cons, List.sum_cons, wdV] at this ⊢
    rw [h1.cat, this]
end MONO
section PRE
variable {D : va_G} {ca : Nat → ClassId} {sx : Nat → Nat} {A : Nat → Prop} {s U : State} {n : Nat} {mi : MI} {mr : MR} {ρ : Ad → Nat} {H : Heap} {sz : Nat} {mas : List Value}
theorem pc_blind : FrameBlind (PcM D ca sx n mi mr ρ sz mas) := by
  intro a U g mk h
  obtain ⟨h1, h2, h3, h4, h5⟩ := h
  refine ⟨h1, h2, Sw.to h3 (State.WarmedH.refl U) (fun _ _ _ => rfl) (fun _ q => q), ?_, h5⟩
  exact Sc.to h4 (Vm.Alike.refl U.vm) (fun _ _ _ => rfl) (Nat.le_refl _) (fun _ q => q)
theorem fre_sub {locs : List Loc} (hW : Wd D ca sx A s n mi mr ρ H) (hS : va_S A s.heap H locs) (hA : ∀ q, s.heap.size ≤ q → A q) : ∀ q, Fre n ρ H.size q → A q := by
  intro q hq
  rcases hq with ⟨i, hi, rfl⟩ | hq
  · obtain ⟨-, -, ws, -, -, hD, hc⟩ := hW
    obtain ⟨e, he, -⟩ := hc i hi
    exact hD.2 i _ he
  · exact hA q (Nat.le_trans hS.1 hq)
theorem pc_at {locs : List Loc} (hW : Wd D ca sx A s n mi mr ρ H) (hS : va_S A s.heap H locs) (hA : ∀ q, s.heap.size ≤ q → A q) (hSw : Sw D ca sx A s) : ∀ U : State, U.heap = H → s.WarmedH U.vm → PcM D ca sx n mi mr ρ H.size mas mas.toArray U := by
  intro U hU hWm
  have hsub := fre_sub hW hS hA
  have hq : ∀ q : Nat, q < s.heap.size → ¬ A q → U.heap[q]? = s.heap[q]? := fun q h1 h2 => by rw [hU]; exact hS.2.1 q h1 h2
  obtain ⟨hSc, h241, ws, hlen, hP, hD, hc⟩ := hW
  refine ⟨rfl, by rw [hU], Sw.to hSw hWm hq hsub, Sc.to hSc hWm.alike hq (by rw [hU]; exact hS.1) hsub, h241, ws, hlen, by rw [hU]; exact hP, ⟨hD.1, fun k q hk => ?_⟩, hc⟩
  have hkl : k < n := by rw [← hlen]; exact (List.getElem?_eq_some_iff.mp hk).1
  obtain ⟨e, he, -⟩ := hc k hkl
  rw [hk] at he
  cases he
  exact Or.inl ⟨k, hkl, rfl⟩
/-- the world behind a call, as the caller sees it -/
theorem wd_back {st₀ t : State} {n' : Nat} {mi' : MI} {mr' : MR} {ρ' : Ad → Nat} {locs : List Loc} (hW : Wd D ca sx A s n mi mr ρ H) (hS : va_S A s.heap H locs) (hA : ∀ q, s.heap.size ≤ q → A q) (h0 : st₀.heap = H) (h : Wd D ca sx (Fre n ρ H.size) st₀ n' mi' mr' ρ' t.heap) : Wd D ca sx A s n' mi' mr' ρ' t.heap := by
  have hsub := fre_sub hW hS hA
  obtain ⟨⟨L0, xs0, a1, a2, a3, a4, a5, a6⟩, -⟩ := hW
  obtain ⟨⟨L, xs, b1, b2, b3, b4, b5, b6⟩, h241, ws, hlen, hP, hD, hc⟩ := h
  refine ⟨⟨L0, xs0, a1, a2, a3, a4, ?_⟩, h241, ws, hlen, hP, hD.weaken (fun _ q _ h => hsub _ h), hc⟩
  obtain ⟨scr, c1, -, -, c4, c5⟩ := a1.kept (hS.2.1 _ a2 a3)
  obtain ⟨scr2, d1, -, -, d4, d5⟩ := b1
  rw [h0, c1] at d1
  cases d1
  have hL : L = L0 := by rw [← c4, ← d4]
  subst hL
  refine ⟨b5, fun k hk => ?_⟩
  rw [b6 k hk]
  have e1 := c5 k hk
  rw [d5 k hk] at e1
  injection e1 with e1
  injection e1 with e1
  rw [e1]
end PRE
/-- what a method's name, code and tables' words give -/
def okM (M : MT) (n : Nat) : Prop := Cond.code (mY M) (mC M) (mL M) (mT M) ∈ T0 ∧ plainFor (mY M) = true ∧ mL M ≤ 40 ∧ Cond.initialized (mY M).cls ∈ T0 ∧ ((mY M).cls ≠ "java/lang/invoke/MethodHandle" ∧ (mY M).cls ≠ "java/lang/invoke/VarHandle") ∧ (parseMethodDescriptor (mY M).desc).map (fun d => d.parameters.length) = some n
def lkM (own : String) (idx : Nat) (M : MT) : Prop := Cond.methodLink own idx (mY M) ∈ T0 ∨ ∃ host, Cond.methodLinkNest own idx (mY M) host ∈ nestW
def MLV (own : String) (idx : Nat) (M : MT) : Prop := lkM own idx M ∧ Cond.instanceMethod (mY M) ∈ T0 ∧ Cond.selects (mY M).cls (mY M) (mY M) ∈ T0
def MLS (own : String) (idx : Nat) (M : MT) : Prop := lkM own idx M ∧ Cond.static (mY M) ∈ T0
def MLI (own : String) (idx : Nat) (M : MT) : Prop := lkM own idx M ∧ Cond.instanceMethod (mY M) ∈ T0 ∧ (mY M).name = "<init>"
theorem wsM_good {M : MT} {n : Nat} (h : okM M n) : GoodIn T0 (wsM M) := by
  intro w hw
  have hm : w ∈ T0 := by
    rcases List.mem_cons.mp hw with rfl | hw
    · exact h.1
    · exact hw
  exact ⟨hm, good_of_word (T0_word hm)⟩
theorem T0_goodIn {ws : List Cond} (h : ∀ w ∈ ws, w ∈ T0) : GoodIn T0 ws := fun w hw => ⟨h w hw, good_of_word (T0_word (h w hw))⟩
/-- the stack behind a call -/
def pushV (M : MT) (v : V) (st : List V) : List V := match mT M with
  | none => st
  | some _ => v :: st
section CALL
variable {d : Nat} {M M' : MT} {Q : V → MI → Nat → MR → Prop} {S : Nat × MR × Nat × Nat} {mi : MI} {pc pc' : Nat} {ls st : List V}
/-- behind any call -/
theorem s_call {as : List V} {p : Program} {l : Launch} {e : Env} {R : Room} {s : State} {m : MethodId} {args : Array Value} {below : List Frame} {meth : Method} {c : Code} {D : va_G} {ca : Nat → ClassId} {sx : Nat → Nat} {A : Nat → Prop} {n0 : Nat} {ρ0 : Ad → Nat} {Qm : State → Prop}
    (C0 : Cx (d + 1) M p R s m args meth c D ca sx A) (Re : Rt M Q p l e R s m args below meth c D ca sx A n0 ρ0 Qm) {ρ : Ad → Nat} {H : Heap} {locs : List Loc} {mls : Array Slot} {st0 mrest : List Value} {a : Array Value}
    (hW : Wd D ca sx A s S.1 mi S.2.1 ρ H) (hS : va_S A s.heap H locs) (hE : ∀ i, i < n0 → ρ (nm i) = ρ0 (nm i)) (hn : n0 ≤ S.1) (hl : Rl S.1 ρ sx (mL M) ls mls) (hs : Rs S.1 ρ sx st mrest)
    (hr : va_Run p l e R s m args below meth c H locs S.2.2.1 S.2.2.2 (mK M') (mS M') (F0 m pc mls st0) mrest (QcM M' D ca sx S.1 ρ H.size (fun v mi' n' mr' => Run (d + 1) M Q (n', mr', S.2.2.1 + mK M', S.2.2.2 + mS M') mi' (pc + 3) ls (pushV M' v st)) a) (Fre S.1 ρ H.size)) :
    W p l e R s m args below meth c H locs S.2.2.1 S.2.2.2 Qm (F0 m pc mls st0) := by
  intro T hT X
  obtain ⟨v, st₀, t, T', L, h0, X', hL, e1, e2, ⟨vv, mi', n', mr', ρ', o, hq, ho, hRo, hWd, hext, hnn, hF⟩, stp⟩ := hr T hT X
  cases ho
  have hA := C0.2.2.2.2.2.2.2.2.2.2
  have hsub := fre_sub hW hS hA
  have hW2 := wd_back hW hS hA h0 hWd
  have hS2 : va_S A s.heap t.heap (locs ++ L) := by
    obtain ⟨f1, f2⟩ := hF
    rw [h0] at f1 f2
    refine ⟨Nat.le_trans hS.1 f1, fun q g1 g2 => ?_, fun q hq => ?_⟩
    · rw [f2 q (Nat.lt_of_lt_of_le g1 hS.1) (fun z => g2 (hsub q z))]
      exact hS.2.1 q g1 g2
    · rcases List.mem_append.mp hq with h | h
      · exact hS.2.2 q h
      · exact hsub _ (hL q h)
  have hst : Rs n' ρ' sx (pushV M' vv st) (v.toList ++ mrest) := by
    have hs' := hs.mono hnn hext
    unfold pushV
    rcases hRo with ⟨z1, z2, z3⟩ | ⟨z0, w, z1, z2⟩
    · rw [z1, z2]
      exact hs'
    · cases hm : mT M' with
      | none => exact absurd hm z0
      | some ty => rw [z1]; exact ⟨w, _, rfl, z2, hs'⟩
  have K := hq p l e R s m args below meth c D ca sx A n0 ρ0 Qm C0 Re ρ' t.heap (locs ++ L) mls (v.toList ++ mrest) hW2 hS2 (fun i hi => by rw [hext i (by omega)]; exact hE i hi) (Nat.le_trans hn hnn) (hl.mono hnn hext) hst
  obtain ⟨t2, a1, b1⟩ := K T' e1 X'
  exact ⟨t2, stp t2 a1, b1⟩
theorem s_invV {g j idx n : Nat} {as : List V} (hd : Dc M pc (.invokevirtual idx) 3 pc') (hok : okM M' n) (hml : MLV (mY M).cls idx M') (hcl : ∃ q, vwCl[(kd j).1]? = some q ∧ q.1 = (mY M').cls) (hlen : as.length = n) (hw : wdV st ≤ 8) (hcap : S.2.2.1 + mK M' ≤ mK M ∧ S.2.2.2 + mS M' ≤ mS M)
    (hT : Tx d M' (vR (some (g, j)) :: as) mi S.1 S.2.1 (fun v mi' n' mr' => Run (d + 1) M Q (n', mr', S.2.2.1 + mK M', S.2.2.2 + mS M') mi' pc' ls (pushV M' v st))) : Run (d + 1) M Q S mi pc ls (as.reverse ++ vR (some (g, j)) :: st) := by
  intro p l e R s m args below meth c D ca sx A n0 ρ0 Qm C0 Re ρ H locs mls mst hW hS hE hn hl hs
  obtain ⟨v1, v2, rfl, hs1, _, w2, rfl, ⟨rfl, i, hi, ha⟩, hs2⟩ := Rs.split hs
  have hr1 := hs1.rev
  rw [List.reverse_reverse] at hr1
  rw [hd.2] at hT
  obtain ⟨hx, hb, hmx, hown, hts, hret, hlk, hnm, ⟨hR1, hR2, hR3, hR4⟩, hSw, hA⟩ := id C0
  obtain ⟨o1, o2, o3, o4, o5, o6⟩ := id hok
  have hM := hT l D ca sx ρ H.size (.ref (ρ (g, j)) :: v1.reverse) ⟨_, _, rfl, ⟨rfl, i, hi, ha⟩, hr1⟩
  obtain ⟨hl1, hin, hse⟩ := hml
  obtain ⟨q, hq, hqc⟩ := hcl
  have hrecv : ∃ cell : Cell, H[ρ (g, j)]? = some cell ∧ cell.vm.isStatics = false ∧ s.vm.findClass (mY M').cls = some cell.cls := by
    obtain ⟨-, -, ws, -, hP, -, hc⟩ := id hW
    obtain ⟨e0, he1, he2⟩ := hc i hi
    rw [ha] at he1 he2
    have hlt : (kd j).1 < 20 := by have := (List.getElem?_eq_some_iff.mp hq).1; simp [vwCl] at this; omega
    obtain ⟨fs, rfl⟩ : ∃ fs : List Value, e0 = .inr ((kd j).1, fs) := by
      unfold Rc at he2; simp only at he2
      rcases he2 with ⟨-, fs, h, -⟩ | ⟨h, -⟩ | ⟨h, -⟩ | ⟨h, -⟩ | ⟨h, -⟩
      · exact ⟨fs, h⟩
      all_goals omega
    have := va_recv hSw.1 hP hq he1
    rw [hqc] at this
    exact this
  have hpre : PreV s H (mY M').cls (ρ (g, j)) (PcM D ca sx S.1 mi S.2.1 ρ H.size (.ref (ρ (g, j)) :: v1.reverse)) v1.reverse := ⟨pc_blind, hrecv, pc_at hW hS hA hSw⟩
  have hcapR : S.2.2.1 + mK M' ≤ R.cells ∧ S.2.2.2 + mS M' ≤ R.slots := by omega
  have hlen2 : v1.reverse.length = n := by rw [hr1.len]; exact hlen
  have hwd : 2 * (F0 m pc mls (v1 ++ .ref (ρ (g, j)) :: w2)).monitorRoom + (w2.map fun v => v.category).sum ≤ 8 := lv_room (by rw [hs2.words]; exact hw)
  refine s_call (M' := M') (as := as) (a := (Value.ref (ρ (g, j)) :: v1.reverse).toArray) C0 Re hW hS hE hn hl hs2 ?_
  rcases hl1 with hl1 | ⟨host, hl1⟩
  · refine va_runV (As := v1.reverse) ⟨hx, hb, hmx, hown, hts⟩ hM (cwV n hts (T0_goodIn ?_) rfl rfl rfl ⟨rfl, o5.1, o5.2, o6⟩ ⟨hR1, ?_⟩) hpre rfl hlen2 hl.1 (by rw [List.reverse_reverse]) hwd hd.1 hcapR
    · intro w hw
      rcases List.mem_append.mp hw with h | h
      · simp only [List.mem_cons, List.not_mem_nil, or_false] at h
        rcases h with rfl | rfl | rfl | rfl
        · exact hl1
        · exact hin
        · exact hse
        · exact o4
      · exact (wsM_good hok w h).1
    · show 8 + (mL M' + 11) + 60 * d ≤ R.locals
      omega
  · refine va_runVN (As := v1.reverse) ⟨hx, hb, hmx, hown, hts⟩ hM ⟨va_cnB n hts (wsM_good hok) rfl rfl rfl (hSw.2.1 _ hl1) (hts _ o4) ⟨o5.1, o5.2, o6⟩ ⟨hR1, ?_⟩, hts _ hin, hts _ hse⟩ hpre rfl hlen2 hl.1 (by rw [List.reverse_reverse]) hwd hd.1 hcapR
    show 8 + (mL M' + 11) + 60 * d ≤ R.locals
    omega
/-- a method of the text constant -/
theorem s_invT {idx n : Nat} {as : List V} (hd : Dc M pc (.invokevirtual idx) 3 pc') (hok : okM M' n) (hml : MLV (mY M).cls idx M') (hcl : (mY M').cls = "java/lang/String") (hlen : as.length = n) (hw : wdV st ≤ 8) (hcap : S.2.2.1 + mK M' ≤ mK M ∧ S.2.2.2 + mS M' ≤ mS M)
    (hT : Tx d M' (vX 2 :: as) mi S.1 S.2.1 (fun v mi' n' mr' => Run (d + 1) M Q (n', mr', S.2.2.1 + mK M', S.2.2.2 + mS M') mi' pc' ls (pushV M' v st))) : Run (d + 1) M Q S mi pc ls (as.reverse ++ vX 2 :: st) := by
  intro p l e R s m args below meth c D ca sx A n0 ρ0 Qm C0 Re ρ H locs mls mst hW hS hE hn hl hs
  obtain ⟨v1, v2, rfl, hs1, _, w2, rfl, ⟨hk0, rfl⟩, hs2⟩ := Rs.split hs
  have hr1 := hs1.rev
  rw [List.reverse_reverse] at hr1
  rw [hd.2] at hT
  obtain ⟨hx, hb, hmx, hown, hts, hret, hlk, hnm, ⟨hR1, hR2, hR3, hR4⟩, hSw, hA⟩ := id C0
  obtain ⟨o1, o2, o3, o4, o5, o6⟩ := id hok
  have hM := hT l D ca sx ρ H.size (.ref (sx 2) :: v1.reverse) ⟨_, _, rfl, ⟨hk0, rfl⟩, hr1⟩
  obtain ⟨hl1, hin, hse⟩ := hml
  have hrecv : ∃ cell : Cell, H[sx 2]? = some cell ∧ cell.vm.isStatics = false ∧ s.vm.findClass (mY M').cls = some cell.cls := by
    rw [hcl]
    exact vk_recv (i := 0) hSw.2.2.2.2.1 (by decide) hS
  have hpre : PreV s H (mY M').cls (sx 2) (PcM D ca sx S.1 mi S.2.1 ρ H.size (.ref (sx 2) :: v1.reverse)) v1.reverse := ⟨pc_blind, hrecv, pc_at hW hS hA hSw⟩
  have hcapR : S.2.2.1 + mK M' ≤ R.cells ∧ S.2.2.2 + mS M' ≤ R.slots := by omega
  have hlen2 : v1.reverse.length = n := by rw [hr1.len]; exact hlen
  have hwd : 2 * (F0 m pc mls (v1 ++ .ref (sx 2) :: w2)).monitorRoom + (w2.map fun v => v.category).sum ≤ 8 := lv_room (by rw [hs2.words]; exact hw)
  refine s_call (M' := M') (as := as) (a := (Value.ref (sx 2) :: v1.reverse).toArray) C0 Re hW hS hE hn hl hs2 ?_
  rcases hl1 with hl1 | ⟨host, hl1⟩
  · refine va_runV (As := v1.reverse) ⟨hx, hb, hmx, hown, hts⟩ hM (cwV n hts (T0_goodIn ?_) rfl rfl rfl ⟨rfl, o5.1, o5.2, o6⟩ ⟨hR1, ?_⟩) hpre rfl hlen2 hl.1 (by rw [List.reverse_reverse]) hwd hd.1 hcapR
    · intro w hw
      rcases List.mem_append.mp hw with h | h
      · simp only [List.mem_cons, List.not_mem_nil, or_false] at h
        rcases h with rfl | rfl | rfl | rfl
        · exact hl1
        · exact hin
        · exact hse
        · exact o4
      · exact (wsM_good hok w h).1
    · show 8 + (mL M' + 11) + 60 * d ≤ R.locals
      omega
  · refine va_runVN (As := v1.reverse) ⟨hx, hb, hmx, hown, hts⟩ hM ⟨va_cnB n hts (wsM_good hok) rfl rfl rfl (hSw.2.1 _ hl1) (hts _ o4) ⟨o5.1, o5.2, o6⟩ ⟨hR1, ?_⟩, hts _ hin, hts _ hse⟩ hpre rfl hlen2 hl.1 (by rw [List.reverse_reverse]) hwd hd.1 hcapR
    show 8 + (mL M' + 11) + 60 * d ≤ R.locals
    omega
theorem s_invS {idx n : Nat} {as : List V} (hd : Dc M pc (.invokestatic idx) 3 pc') (hok : okM M' n) (hml : MLS (mY M).cls idx M') (hlen : as.length = n) (hw : wdV st ≤ 8) (hcap : S.2.2.1 + mK M' ≤ mK M ∧ S.2.2.2 + mS M' ≤ mS M)
    (hT : Tx d M' as mi S.1 S.2.1 (fun v mi' n' mr' => Run (d + 1) M Q (n', mr', S.2.2.1 + mK M', S.2.2.2 + mS M') mi' pc' ls (pushV M' v st))) : Run (d + 1) M Q S mi pc ls (as.reverse ++ st) := by
  intro p l e R s m args below meth c D ca sx A n0 ρ0 Qm C0 Re ρ H locs mls mst hW hS hE hn hl hs
  obtain ⟨v1, w2, rfl, hs1, hs2⟩ := Rs.split hs
  have hr1 := hs1.rev
  rw [List.reverse_reverse] at hr1
  rw [hd.2] at hT
  obtain ⟨hx, hb, hmx, hown, hts, hret, hlk, hnm, ⟨hR1, hR2, hR3, hR4⟩, hSw, hA⟩ := id C0
  obtain ⟨o1, o2, o3, o4, o5, o6⟩ := id hok
  have hM := hT l D ca sx ρ H.size v1.reverse hr1
  obtain ⟨hl1, hst⟩ := hml
  have hpre : PreS s H (PcM D ca sx S.1 mi S.2.1 ρ H.size v1.reverse) v1.reverse := ⟨pc_blind, pc_at hW hS hA hSw⟩
  have hcapR : S.2.2.1 + mK M' ≤ R.cells ∧ S.2.2.2 + mS M' ≤ R.slots := by omega
  have hlen2 : v1.reverse.length = n := by rw [hr1.len]; exact hlen
  have hwd : 2 * (F0 m pc mls (v1 ++ w2)).monitorRoom + (w2.map fun v => v.category).sum ≤ 8 := lv_room (by rw [hs2.words]; exact hw)
  refine s_call (M' := M') (as := as) (a := v1.reverse.toArray) C0 Re hW hS hE hn hl hs2 ?_
  rcases hl1 with hl1 | ⟨host, hl1⟩
  · refine va_runS (As := v1.reverse) ⟨hx, hb, hmx, hown, hts⟩ hM ⟨callB_of n hts (wsM_good hok) rfl rfl rfl (hts _ o4) (hts _ hl1) ⟨o5.1, o5.2, o6⟩ ⟨hR1, ?_⟩, hts _ hst⟩ hpre rfl hlen2 hl.1 (by rw [List.reverse_reverse]) hwd hd.1 hcapR
    show 8 + (mL M' + 11) + 60 * d ≤ R.locals
    omega
  · refine va_runSN (As := v1.reverse) ⟨hx, hb, hmx, hown, hts⟩ hM ⟨va_cnB n hts (wsM_good hok) rfl rfl rfl (hSw.2.1 _ hl1) (hts _ o4) ⟨o5.1, o5.2, o6⟩ ⟨hR1, ?_⟩, hts _ hst, trivial⟩ hpre rfl hlen2 hl.1 (by rw [List.reverse_reverse]) hwd hd.1 hcapR
    show 8 + (mL M' + 11) + 60 * d ≤ R.locals
    omega
theorem s_invI {a : Ad} {idx n : Nat} {as : List V} (hd : Dc M pc (.invokespecial idx) 3 pc') (hok : okM M' n) (hml : MLI (mY M).cls idx M') (hnone : mT M' = none) (hlen : as.length = n) (hw : wdV st ≤ 8) (hcap : S.2.2.1 + mK M' ≤ mK M ∧ S.2.2.2 + mS M' ≤ mS M)
    (hT : Tx d M' (vR (some a) :: as) mi S.1 S.2.1 (fun v mi' n' mr' => Run (d + 1) M Q (n', mr', S.2.2.1 + mK M', S.2.2.2 + mS M') mi' pc' ls (pushV M' v st))) : Run (d + 1) M Q S mi pc ls (as.reverse ++ vR (some a) :: st) := by
  intro p l e R s m args below meth c D ca sx A n0 ρ0 Qm C0 Re ρ H locs mls mst hW hS hE hn hl hs
  obtain ⟨v1, v2, rfl, hs1, _, w2, rfl, ⟨rfl, i, hi, ha⟩, hs2⟩ := Rs.split hs
  have hr1 := hs1.rev
  rw [List.reverse_reverse] at hr1
  rw [hd.2] at hT
  obtain ⟨hx, hb, hmx, hown, hts, hret, hlk, hnm, ⟨hR1, hR2, hR3, hR4⟩, hSw, hA⟩ := id C0
  obtain ⟨o1, o2, o3, o4, o5, o6⟩ := id hok
  have hM := hT l D ca sx ρ H.size (.ref (ρ a) :: v1.reverse) ⟨_, _, rfl, ⟨rfl, i, hi, ha⟩, hr1⟩
  obtain ⟨hl1, hin, hnmi⟩ := hml
  have hpre : PreS s H (PcM D ca sx S.1 mi S.2.1 ρ H.size (.ref (ρ a) :: v1.reverse)) (.ref (ρ a) :: v1.reverse) := ⟨pc_blind, pc_at hW hS hA hSw⟩
  have hcapR : S.2.2.1 + mK M' ≤ R.cells ∧ S.2.2.2 + mS M' ≤ R.slots := by omega
  have hlen2 : v1.reverse.length = n := by rw [hr1.len]; exact hlen
  have hwd : 2 * (F0 m pc mls (v1 ++ .ref (ρ a) :: w2)).monitorRoom + (w2.map fun v => v.category).sum ≤ 8 := lv_room (by rw [hs2.words]; exact hw)
  refine s_call (M' := M') (as := as) (a := (Value.ref (ρ a) :: v1.reverse).toArray) C0 Re hW hS hE hn hl hs2 ?_
  rcases hl1 with hl1 | ⟨host, hl1⟩
  · refine va_runI (bytes := mC M') (maxL := mL M') (As := v1.reverse) ⟨hx, hb, hmx, hown, hts⟩ hM ⟨?_, hnmi, hts _ hin⟩ hpre rfl hlen2 hl.1 (by rw [List.reverse_reverse]) hwd hd.1 hcapR
    have := callB_of (R := R) (mc := mK M') (ms := mS M') (rm := rmM d M') n hts (wsM_good hok) rfl rfl rfl (hts _ o4) (hts _ hl1) ⟨o5.1, o5.2, o6⟩ ⟨hR1, by show 8 + (mL M' + 11) + 60 * d ≤ R.locals; omega⟩
    rw [hnone] at this
    exact this
  · refine va_runIN (host := host) (bytes := mC M') (maxL := mL M') (As := v1.reverse) ⟨hx, hb, hmx, hown, hts⟩ hM ⟨?_, hnmi, hts _ hin⟩ hpre rfl hlen2 hl.1 (by rw [List.reverse_reverse]) hwd hd.1 hcapR
    have := va_cnB (R := R) (mc := mK M') (ms := mS M') (rm := rmM d M') n hts (wsM_good hok) rfl rfl rfl (hSw.2.1 _ hl1) (hts _ o4) ⟨o5.1, o5.2, o6⟩ ⟨hR1, by show 8 + (mL M' + 11) + 60 * d ≤ R.locals; omega⟩
    rw [hnone] at this
    exact this
/-- Object's own constructor -/
theorem s_objInit {a : Ad} {idx : Nat} (hd : Dc M pc (.invokespecial idx) 3 pc') (h1 : Cond.methodLink (mY M).cls idx Lib.objectInit ∈ T0) (h2 : Cond.instanceMethod Lib.objectInit ∈ T0) (h3 : Cond.code Lib.objectInit ⟨#[0xb1]⟩ 1 none ∈ T0) (k : Run (d + 1) M Q S mi pc' ls []) : Run (d + 1) M Q S mi pc ls [vR (some a)] := by
  intro p l e R s m args below meth c D ca sx A n0 ρ0 Qm C0 Re ρ H locs mls mst hW hS hE hn hl hs
  obtain ⟨_, w2, rfl, ⟨rfl, i, hi, ha⟩, hs2⟩ := hs
  cases (show w2 = [] from hs2)
  obtain ⟨hx, hb, hmx, hown, hts, hret, hlk, hnm, ⟨hR1, hR2, hR3, hR4⟩, hSw, hA⟩ := id C0
  have k2 := k p l e R s m args below meth c D ca sx A n0 ρ0 Qm C0 Re ρ H locs mls [] hW hS hE hn hl rfl
  rw [hd.2] at k2
  refine W.objInit hx hb hown (hts _ h1) (hts _ h2) (hts _ h3) rfl (by rw [hmx]; exact hl.1) rfl hd.1 (by omega) ?_ k2
  show 2 * 0 + 0 + 12 ≤ R.locals
  omega
end CALL
