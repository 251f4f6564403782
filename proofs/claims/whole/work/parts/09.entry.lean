/-! a method's entry; making cells; the script, the text, copies -/
/-- the locals with which a method begins -/
def lsOf : List V → List V
  | [] => []
  | x :: xs => if isL x = true then x :: vX 0 :: lsOf xs else x :: lsOf xs
section ENTRY
variable {n : Nat} {ρ : Ad → Nat} {sx : Nat → Nat}
theorem lsOf_len : ∀ {xs : List V} {vs : List Value}, Rs n ρ sx xs vs → (lg_sl vs).length = (lsOf xs).length
  | [], _, h => by cases (show _ = [] from h); rfl
  | x :: xs, _, ⟨v, ws, e, h1, h2⟩ => by
    have ih := lsOf_len h2
    have hc := h1.cat
    rw [e]
    unfold lsOf
    by_cases hx : isL x = true
    · rw [if_pos hx] at hc ⊢
      simp only [lg_sl, List.flatMap_cons, hc, if_pos, List.length_append, List.length_cons, List.length_nil] at ih ⊢
      omega
    · rw [if_neg hx] at hc ⊢
      have : ¬ v.category = 2 := by omega
      simp only [lg_sl, List.flatMap_cons, if_neg this, List.length_append, List.length_cons, List.length_nil] at ih ⊢
      omega
theorem lsOf_mem : ∀ {xs : List V} {vs : List Value} (k : Nat), Rs n ρ sx xs vs → ∀ (i : Nat) (x : V), (lsOf xs)[i]? = some x → x ≠ vX 0 → ∃ v, (k + i, v) ∈ lv_args k vs ∧ Rv n ρ sx x v
  | [], _, _, h, i, x, hi, _ => by simp [lsOf] at hi
  | y :: ys, _, k, ⟨v, ws, e, h1, h2⟩, i, x, hi, hx => by
    have hc := h1.cat
    rw [e]
    unfold lsOf at hi
    unfold lv_args
    by_cases hy : isL y = true
    · rw [if_pos hy] at hc hi
      rw [if_pos hc]
      match i, hi with
      | 0, hi => cases hi; exact ⟨v, List.mem_cons_self, h1⟩
      | 1, hi => cases hi; exact absurd rfl hx
      | i + 2, hi =>
        obtain ⟨w, hw1, hw2⟩ := lsOf_mem (k + 2) h2 i x hi hx
        exact ⟨w, List.mem_cons_of_mem _ (by rw [show k + (i + 2) = k + 2 + i by omega]; exact hw1), hw2⟩
    · rw [if_neg hy] at hc hi
      rw [if_neg (by omega)]
      match i, hi with
      | 0, hi => cases hi; exact ⟨v, List.mem_cons_self, h1⟩
      | i + 1, hi =>
        obtain ⟨w, hw1, hw2⟩ := lsOf_mem (k + 1) h2 i x hi hx
        exact ⟨w, List.mem_cons_of_mem _ (by rw [show k + (i + 1) = k + 1 + i by omega]; exact hw1), hw2⟩
end ENTRY
theorem Met.ofWF {l : Launch} {y : MethodName} {ws ws' : List Cond} {rm : Room} {Pc : Array Value → State → Prop} {Qc : Array Value → State → Outcome → State → Prop} {mc ms : Nat} {free : Addr → Prop} {cc : ByteArray} {maxL : Nat} {ret : Option FieldType}
    (hy : plainFor y = true) (hw : ws = Cond.code y cc maxL ret :: ws')
    (body : ∀ p e s m args below meth c s₁, BodyLoose p l y (headSpec ws rm) cc maxL ret e s m args below meth c s₁ → c.maxLocals = maxL → Pc args s →
      W p l e (headSpec ws rm).room s m args below meth c s.heap [] 0 0 (MQ below Qc args s mc ms free) (entryFrame m args maxL)) : Met l y ws rm Pc Qc mc ms free := by
  refine MetFree.of_bodySF (code := cc) (maxLocals := maxL) (ret := ret) hy ?_ ?_
  · intro args s m h hn
    obtain ⟨meth, c, h1, h2, h3, h4, h5, h6, -, -⟩ := Cond.code_spec hn (atoms_spec (ws := ws) h _ (by rw [hw]; exact List.mem_cons_self))
    exact ⟨meth, c, h1, h2, h3, h4, h5, h6⟩
  · intro p e s m args below meth c s₁ B hml hP _
    have hh0 : s₁.heap = s.heap := by rw [B.state]; rfl
    obtain ⟨t, a1, o, b1, b2, b3⟩ := body p e s m args below meth c s₁ B hml hP s₁ hh0 (Stand.of_body B)
    exact ⟨t, o, a1, b1, b2, ⟨b3.1, b3.2⟩⟩
theorem tx_intro {d : Nat} {M : MT} {k : Nat} {as : List V} {mi : MI} {n : Nat} {mr : MR} {Q : V → MI → Nat → MR → Prop} {ls : List V} (hok : okM M k) (hls : lsOf as ++ List.replicate (mL M - (lsOf as).length) (vX 0) = ls) (hlen : (lsOf as).length ≤ mL M)
    (h : Run d M Q (n, mr, 0, 0) mi 0 ls []) : Tx d M as mi n mr Q := by
  intro l D ca sx ρ sz mas hmas
  refine Met.ofWF (cc := mC M) (maxL := mL M) (ret := mT M) hok.2.1 rfl ?_
  intro p e s m args below meth c s₁ B hml hv
  obtain ⟨rfl, hsz, hSw, hWd⟩ := hv
  subst hsz
  have hts : ∀ w ∈ T0, w.before mas.toArray s = true := fun w hw => atoms_spec (ws := wsM M) B.pre w (List.mem_cons_of_mem _ hw)
  have hown : s.vm.findClass (mY M).cls = some m.cls := findClass_of_methodNamed B.named
  have hnm : meth.name = (mY M).name := (name_of_methodNamed B.named B.method).1
  have C0 : Cx d M p (headSpec (wsM M) (rmM d M)).room s m mas.toArray meth c D ca sx (Fre n ρ s.heap.size) := ⟨B.exec, B.bytes, hml, hown, hts, B.returns, B.notSynchronized, hnm, ⟨Nat.le_refl _, Nat.le_refl _, Nat.le_refl _, Nat.le_refl _⟩, hSw, fun q hq => Or.inr hq⟩
  have hl := lv_entry mas (n := mL M) (by rw [lsOf_len hmas]; exact hlen)
  rw [lg_entry_eq]
  refine h p l e _ s m mas.toArray below meth c D ca sx (Fre n ρ s.heap.size) n ρ _ C0 ?_ ρ s.heap [] _ [] hWd va_S.rf (fun _ _ => rfl) (Nat.le_refl _) ⟨hl.1, hl.2.1, fun i x hi hx => ?_⟩ rfl
  · intro v mi' n' mr' kc ks ρ' H locs pc mls mst hq hkc hks hW hS hE hn hr
    refine W.widen hkc hks ?_
    have hQ : ∀ (o : Option Value), Ro n' ρ' sx M v o → ∀ t : State, t.heap = H → s.WarmedH t.vm → QcM M D ca sx n ρ s.heap.size Q mas.toArray s (.returned o) t := fun o ho t ht _ => ⟨v, mi', n', mr', ρ', o, hq, rfl, ho, by rw [ht]; exact hW, hE, hn, hS.F ht⟩
    have hlk := B.notSynchronized
    rcases hr with ⟨h1, ty, y, h2, h3, rfl, rfl⟩ | ⟨h1, h2, y, rfl, rfl⟩ | ⟨h1, C, r, w, h2, rfl, rfl, h3⟩ | ⟨h1, h2, rfl, rfl⟩
    · exact W.zret (ty := ty) B.exec B.bytes (by rw [B.returns, h2]) h3 (hQ _ (Or.inr ⟨(by rw [h2]; exact Option.some_ne_none _), _, rfl, _, rfl, rfl⟩)) (fun q hq => hS.2.2 q hq) h1 hlk
    · exact W.lret B.exec B.bytes (by rw [B.returns, h2]) (hQ _ (Or.inr ⟨(by rw [h2]; exact Option.some_ne_none _), _, rfl, _, rfl, rfl⟩)) (fun q hq => hS.2.2 q hq) h1 hlk
    · exact W.aret B.exec B.bytes (by rw [B.returns, h2]) (Or.inl ⟨C, rfl⟩) (ref_fit h3) (hQ _ (Or.inr ⟨(by rw [h2]; exact Option.some_ne_none _), _, rfl, h3⟩)) (fun q hq => hS.2.2 q hq) h1 hlk
    · exact W.vret B.exec B.bytes (by rw [B.returns, h2]) (hQ _ (Or.inl ⟨h2, rfl, rfl⟩)) (fun q hq => hS.2.2 q hq) h1 hlk
  · rw [← hls] at hi
    have hlt : i < (lsOf as).length := by
      rcases Nat.lt_or_ge i (lsOf as).length with q | q
      · exact q
      · rw [List.getElem?_append_right q] at hi
        exact absurd (List.eq_of_mem_replicate (List.mem_of_getElem? hi)) hx
    rw [List.getElem?_append_left hlt] at hi
    obtain ⟨w, h1, h2⟩ := lsOf_mem 0 hmas i x hi hx
    rw [Nat.zero_add] at h1
    exact ⟨w, hl.2.2 _ h1, h2⟩
def isRefT : FieldType → Bool
  | .object _ => true
  | .array _ => true
  | _ => false
theorem ft_ok : ∀ (ci : Nat) (q : vw_C), vwCl[ci]? = some q → ∀ k, k < q.2.2 → (ft ci k = .int ∨ ft ci k = .boolean ∨ ft ci k = .long ∨ isRefT (ft ci k) = true)
  | 0, _, rfl => (by decide +kernel : ∀ k, k < 13 → (ft 0 k = .int ∨ ft 0 k = .boolean ∨ ft 0 k = .long ∨ isRefT (ft 0 k) = true))
  | 1, _, rfl => (by decide +kernel : ∀ k, k < 11 → (ft 1 k = .int ∨ ft 1 k = .boolean ∨ ft 1 k = .long ∨ isRefT (ft 1 k) = true))
  | 2, _, rfl => (by decide +kernel : ∀ k, k < 6 → (ft 2 k = .int ∨ ft 2 k = .boolean ∨ ft 2 k = .long ∨ isRefT (ft 2 k) = true))
  | 3, _, rfl => (by decide +kernel : ∀ k, k < 5 → (ft 3 k = .int ∨ ft 3 k = .boolean ∨ ft 3 k = .long ∨ isRefT (ft 3 k) = true))
  | 4, _, rfl => (by decide +kernel : ∀ k, k < 13 → (ft 4 k = .int ∨ ft 4 k = .boolean ∨ ft 4 k = .long ∨ isRefT (ft 4 k) = true))
  | 5, _, rfl => (by decide +kernel : ∀ k, k < 11 → (ft 5 k = .int ∨ ft 5 k = .boolean ∨ ft 5 k = .long ∨ isRefT (ft 5 k) = true))
  | 6, _, rfl => (by decide +kernel : ∀ k, k < 9 → (ft 6 k = .int ∨ ft 6 k = .boolean ∨ ft 6 k = .long ∨ isRefT (ft 6 k) = true))
  | 7, _, rfl => (by decide +kernel : ∀ k, k < 14 → (ft 7 k = .int ∨ ft 7 k = .boolean ∨ ft 7 k = .long ∨ isRefT (ft 7 k) = true))
  | 8, _, rfl => (by decide +kernel : ∀ k, k < 9 → (ft 8 k = .int ∨ ft 8 k = .boolean ∨ ft 8 k = .long ∨ isRefT (ft 8 k) = true))
  | 9, _, rfl => (by decide +kernel : ∀ k, k < 6 → (ft 9 k = .int ∨ ft 9 k = .boolean ∨ ft 9 k = .long ∨ isRefT (ft 9 k) = true))
  | 10, _, rfl => (by decide +kernel : ∀ k, k < 2 → (ft 10 k = .int ∨ ft 10 k = .boolean ∨ ft 10 k = .long ∨ isRefT (ft 10 k) = true))
  | 11, _, rfl => (by decide +kernel : ∀ k, k < 12 → (ft 11 k = .int ∨ ft 11 k = .boolean ∨ ft 11 k = .long ∨ isRefT (ft 11 k) = true))
  | 12, _, rfl => (by decide +kernel : ∀ k, k < 48 → (ft 12 k = .int ∨ ft 12 k = .boolean ∨ ft 12 k = .long ∨ isRefT (ft 12 k) = true))
  | _ + 13, _, h => by simp [vwCl] at h
theorem Rf.mono {n n' : Nat} {ρ ρ' : Ad → Nat} {sx : Nat → Nat} {ty : FieldType} {x : Int} {r : Option Ad} {v : Value} (h : Rf n ρ sx ty x r v) (hn : n ≤ n') (he : ∀ i, i < n → ρ' (nm i) = ρ (nm i)) : Rf n' ρ' sx ty x r v := by
  cases ty with
  | int => exact (show Rv n ρ sx (vI x) v from h).mono hn he
  | boolean => exact (show Rv n ρ sx (vI x) v from h).mono hn he
  | long => exact (show Rv n ρ sx (vL x) v from h).mono hn he
  | _ => exact (show Rv n ρ sx (vR r) v from h).mono hn he
section NEW
variable {d : Nat} {M : MT} {Q : V → MI → Nat → MR → Prop} {n : Nat} {mr : MR} {kc ks : Nat} {mi : MI} {pc pc' : Nat} {ls st : List V}
/-- a cell more: its words are the old ones' and its own -/
theorem wd_new {D : va_G} {ca : Nat → ClassId} {sx : Nat → Nat} {A : Nat → Prop} {s : State} {ρ : Ad → Nat} {H1 : Heap} {ws : va_W} {q : Nat} {e : va_E} (hSc : Sc sx A s mi) (hn : n < 241) (hlen : ws.length = n) (hc : ∀ i, i < n → ∃ e, ws[i]? = some (ρ (nm i), e) ∧ Rc n ρ sx ca mi mr (nm i) e)
    (hP : va_P D vwCl (ws ++ [(q, e)]) H1) (hD : va_D A (ws ++ [(q, e)])) (he : ∀ ρ', Rc (n + 1) ρ' sx ca mi mr (nm n) e) : ∃ ρ' : Ad → Nat, (∀ i, i < n → ρ' (nm i) = ρ (nm i)) ∧ ρ' (nm n) = q ∧ Wd D ca sx A s (n + 1) mi mr ρ' H1 := by
  have hne : ∀ i, i < n → nm i ≠ nm n := fun i hi z => by have := nm_inj (by omega) (by omega) z; omega
  refine ⟨fun a => if a = nm n then q else ρ a, fun i hi => if_neg (hne i hi), if_pos rfl, hSc, by omega, ws ++ [(q, e)], by simp [hlen], hP, hD, fun i hi => ?_⟩
  by_cases hin : i < n
  · obtain ⟨e0, he1, he2⟩ := hc i hin
    refine ⟨e0, by rw [List.getElem?_append_left (by omega), he1]; simp only [if_neg (hne i hin)], ?_⟩
    have mono : ∀ {x : V} {v : Value}, Rv n ρ sx x v → Rv (n + 1) (fun a => if a = nm n then q else ρ a) sx x v := fun h => h.mono (by omega) (fun i hi => if_neg (hne i hi))
    unfold Rc at he2 ⊢
    rcases he2 with ⟨h1, fs, h2, h3, h4⟩ | h | h | h | ⟨h1, h2, f, h3, h4⟩
    · refine Or.inl ⟨h1, fs, h2, h3, fun k hk => ?_⟩
      obtain ⟨v, hv1, hv2⟩ := h4 k hk
      exact ⟨v, hv1, hv2.mono (by omega) (fun i hi => if_neg (hne i hi))⟩
    · exact Or.inr (Or.inl h)
    · exact Or.inr (Or.inr (Or.inl h))
    · exact Or.inr (Or.inr (Or.inr (Or.inl h)))
    · exact Or.inr (Or.inr (Or.inr (Or.inr ⟨h1, h2, f, h3, fun k hk => mono (h4 k hk)⟩)))
  · have : i = n := by omega
    subst this
    refine ⟨e, ?_, he _⟩
    rw [List.getElem?_append_right (by omega), hlen, Nat.sub_self]
    simp
/-- fresh memory: the next cell to be made holds noughts -/
def Fr0 (n : Nat) (mi : MI) (mr : MR) : Prop := ∀ k : Int, mi (nm n).1 (nm n).2 k = 0 ∧ mr (nm n).1 (nm n).2 k = none
theorem s_new {idx ci N : Nat} {g j : Nat} {q : vw_C} (hd : Dc M pc (.new idx) 3 pc') (hnm : nm n = (g, j)) (hkd : kd j = (ci, N)) (hci : ci < 20) (hq : vwCl[ci]? = some q) (hn : n < 241) (hf : Fr0 n mi mr) (h1 : Cond.classLink (mY M).cls idx q.1 ∈ T0) (h2 : Cond.instantiable q.1 N ∈ T0) (h3 : Cond.initialized q.1 ∈ T0) (hK : kc + 1 ≤ mK M) (hS2 : ks + N ≤ mS M)
    (kk : Run d M Q (n + 1, mr, kc + 1, ks + N) mi pc' ls (vR (some (g, j)) :: st)) : Run d M Q (n, mr, kc, ks) mi pc ls st := by
  intro p l e R s m args below meth c D ca sx A n0 ρ0 Qm C0 Re ρ H locs mls mst hW hS hE hnn hl hs
  obtain ⟨hx, hb, hmx, hown, hts, hret, hlk, hnme, ⟨hR1, hR2, hR3, hR4⟩, hSw, hA⟩ := id C0
  obtain ⟨hSc, h241, ws, hlen, hP, hD, hc⟩ := id hW
  have hqN : q.2.2 = N := by have := kd_cl j q (by rw [hkd]; exact hq); rw [hkd] at this; exact this
  obtain ⟨c1, c2, c3, c4⟩ := cl_ok _ _ hq
  refine va_new (C := q.1) (T := q.2.1) (N := q.2.2) (fs := (List.range N).map (fun k => defaultValue (ft ci k))) hx hb hts c1 (ft ci) c2 hown (hts _ h1) (by rw [hqN]; exact hts _ h2) (hts _ h3) hSw.1 hP hD hS hA hq (fun k hk => ?_) (by show kc + 1 ≤ R.cells; omega) (by rw [hqN]; show ks + N ≤ R.slots; omega) hd.1 (fun a H1 hP1 hD1 hS1 => ?_)
  · rw [hqN] at hk
    simp [vp_V, List.getD, hk]
  · obtain ⟨ρ', e1, e2, hW'⟩ := wd_new hSc hn hlen hc hP1 hD1 (fun ρ' => by
      rw [hnm]
      unfold Rc
      simp only [hkd]
      refine Or.inl ⟨hci, _, rfl, by simp, fun k hk => ⟨defaultValue (ft ci k), by simp [hk], ?_⟩⟩
      have f1 := (hf k).1
      have f2 := (hf k).2
      rw [hnm] at f1 f2
      simp only at f1 f2
      rw [f1, f2]
      have hall := ft_ok ci q hq
      rcases hall k (by omega) with z | z | z | z
      · rw [z]; exact ⟨0, rfl, rfl⟩
      · rw [z]; exact ⟨0, rfl, rfl⟩
      · rw [z]; exact ⟨0, rfl, rfl⟩
      · cases hft : ft ci k <;> rw [hft] at z <;> first | exact rfl | (simp [isRefT] at z))
    have k2 := kk p l e R s m args below meth c D ca sx A n0 ρ0 Qm C0 Re ρ' H1 locs mls (.ref a :: mst) hW' hS1 (fun i hi => by rw [e1 i (by show i < n; simp only at hnn; omega)]; exact hE i hi) (Nat.le_succ_of_le hnn) (hl.mono (Nat.le_succ n) e1) ⟨_, _, rfl, ⟨by rw [← hnm, e2], n, Nat.lt_succ_self n, hnm⟩, hs.mono (Nat.le_succ n) e1⟩
    rw [hd.2] at k2
    rw [hqN]
    exact k2
end NEW
