/-! the machine once it has failed; what a token taken makes of it -/
/-- what may stand on the stack of a machine that has just failed -/
def DrL (L : List Int) : Prop := L = [] ∨ L = [414] ∨ ∃ y r, L = y :: r ∧ (y < 400 ∨ y = 702 ∨ y = 722 ∨ y = 720 ∨ y = 714 ∨ y = 712 ∨ y = 710 ∨ y = 724) ∧ r.length ≤ 6
theorem prd_DrL {o x y : Int} {q : Int × List Int} (h : prd o x y = some q) (h1 : q.1 = 1) : DrL q.2 := by
  unfold prd at h
  repeat' (refine ifO h (fun h0 h => ?_) (fun h0 h => ?_) <;> clear h0)
  all_goals first
    | (cases h; exact absurd h1 (by decide))
    | (cases h; exact Or.inr (Or.inl rfl))
    | (cases h; exact Or.inr (Or.inr ⟨_, _, rfl, by decide, by decide⟩))
    | cases h
section DRN
variable {tk nu nx : Int → Int} {o : Int}
theorem dr_1 {f u b fl y tg e : Int} {r : List Int} {p v c : List CT} (h : fl ≠ -1) (hy : y < 400 ∨ y = 702 ∨ y = 722) : mv psU tk nu nx o (f, u, b, fl, y :: r, tg, e, p, v, c) = (f, u, b, fl, [], tg, e, p, v, c) := by
  have hx : tkn tk f fl = 24 := if_neg h
  have hf : flS f u b fl tg e p v c = (f, u, b, fl, [], tg, e, p, v, c) := by unfold flS; rw [if_neg h]
  rcases hy with z | z | z
  · by_cases h3 : 300 ≤ y
    · rw [mv_3 h3 (by omega), if_pos (Or.inl (by rw [hx]; decide)), hf]
    · rw [mv_2 (by omega), if_pos (Or.inl h), hf]
  · subst z; rw [mv_7n (by decide) (by rw [hx]; rfl), hf]
  · subst z; rw [mv_7n (by decide) (by rw [hx]; rw [prd_722]; simp), hf]
theorem dr_0 {f u b fl tg e : Int} {r L : List Int} {p v c : List CT} {y : Int} (h : fl ≠ -1) (hy : 705 ≤ y) (hq : prd o 24 y = some (0, L)) : mv psU tk nu nx o (f, u, b, fl, y :: r, tg, e, p, v, c) = (f, u, b, fl, L ++ r, tg, e, p, v, c) := by
  have hx : tkn tk f fl = 24 := if_neg h
  rw [mv_70 (by omega) (by rw [hx]; exact hq) rfl, eNw_n (by omega) (by omega), pNw_n (by omega), vNw_n (by omega) (by omega), cNw_n (by omega) (by omega)]
  rfl
theorem drain {f u b fl tg e : Int} {L : List Int} {p v c : List CT} (h : fl ≠ -1) (hL : DrL L) : ∃ s', Rh tk nu nx o 6 (f, u, b, fl, L, tg, e, p, v, c) s' ∧ stk s' = [] ∧ flt s' = fl := by
  have one : ∀ {y : Int} {r : List Int}, r.length ≤ 100 → (y < 400 ∨ y = 702 ∨ y = 722) → Rh tk nu nx o 1 (f, u, b, fl, y :: r, tg, e, p, v, c) (f, u, b, fl, [], tg, e, p, v, c) := fun {y r} hr hy => Rh.one (by show (y :: r).length ≤ 250; rw [List.length_cons]; omega) (dr_1 h hy)
  have zer : ∀ {y : Int} {r M : List Int}, r.length ≤ 100 → 705 ≤ y → prd o 24 y = some (0, M) → Rh tk nu nx o 1 (f, u, b, fl, y :: r, tg, e, p, v, c) (f, u, b, fl, M ++ r, tg, e, p, v, c) := fun {y r M} hr hy hq => Rh.one (by show (y :: r).length ≤ 250; rw [List.length_cons]; omega) (dr_0 h hy hq)
  have d720 : ∀ {r : List Int}, r.length ≤ 90 → Rh tk nu nx o 2 (f, u, b, fl, 720 :: r, tg, e, p, v, c) (f, u, b, fl, [], tg, e, p, v, c) := fun {r} hr => (zer (by omega) (by decide) prd_720).tr (one (by show (721 :: r).length ≤ 100; rw [List.length_cons]; omega) (Or.inr (Or.inr rfl)))
  have d714 : ∀ {r : List Int}, r.length ≤ 80 → Rh tk nu nx o 3 (f, u, b, fl, 714 :: r, tg, e, p, v, c) (f, u, b, fl, [], tg, e, p, v, c) := fun {r} hr => (zer (by omega) (by decide) (M := [720, 715]) rfl).tr (d720 (by show (715 :: r).length ≤ 90; rw [List.length_cons]; omega))
  have d712 : ∀ {r : List Int}, r.length ≤ 70 → Rh tk nu nx o 4 (f, u, b, fl, 712 :: r, tg, e, p, v, c) (f, u, b, fl, [], tg, e, p, v, c) := fun {r} hr => (zer (by omega) (by decide) prd_712).tr (d714 (by show (713 :: r).length ≤ 80; rw [List.length_cons]; omega))
  have d710 : ∀ {r : List Int}, r.length ≤ 60 → Rh tk nu nx o 5 (f, u, b, fl, 710 :: r, tg, e, p, v, c) (f, u, b, fl, [], tg, e, p, v, c) := fun {r} hr => (zer (by omega) (by decide) prd_710).tr (d712 (by show (711 :: r).length ≤ 70; rw [List.length_cons]; omega))
  rcases hL with z | z | ⟨y, r, z, hy, hr⟩
  · subst z
    exact ⟨_, Rh.rf, rfl, rfl⟩
  · subst z
    refine ⟨_, (Rh.one (by show 1 ≤ 250; omega) (mv_4 (by decide) (by decide))).mono (by omega), rfl, rfl⟩
  · subst z
    rcases hy with c1 | c1 | c1 | c1 | c1 | c1 | c1 | c1
    · exact ⟨_, (one (by omega) (Or.inl c1)).mono (by omega), rfl, rfl⟩
    · exact ⟨_, (one (by omega) (Or.inr (Or.inl c1))).mono (by omega), rfl, rfl⟩
    · exact ⟨_, (one (by omega) (Or.inr (Or.inr c1))).mono (by omega), rfl, rfl⟩
    · subst c1; exact ⟨_, (d720 (by omega)).mono (by omega), rfl, rfl⟩
    · subst c1; exact ⟨_, (d714 (by omega)).mono (by omega), rfl, rfl⟩
    · subst c1; exact ⟨_, (d712 (by omega)).mono (by omega), rfl, rfl⟩
    · subst c1; exact ⟨_, (d710 (by omega)).mono (by omega), rfl, rfl⟩
    · subst c1
      exact ⟨_, ((zer (by omega) (by decide) prd_724).tr (one (by show (723 :: 73 :: r).length ≤ 100; simp; omega) (Or.inl (by decide)))).mono (by omega), rfl, rfl⟩
end DRN
/-- from s on the machine fails at p, within a moves -/
def Dn (tk nu nx : Int → Int) (o : Int) (a : Nat) (s : MS) (p : Int) : Prop := ∃ s', Rh tk nu nx o a s s' ∧ flt s' = p ∧ p ≠ -1 ∧ DrL (stk s')
section DNS
variable {tk nu nx : Int → Int} {o : Int} {a b : Nat} {s s1 : MS} {p : Int}
theorem Dn.mono (h : Dn tk nu nx o a s p) (hab : a ≤ b) : Dn tk nu nx o b s p := by
  obtain ⟨s', h1, h2⟩ := h
  exact ⟨s', h1.mono hab, h2⟩
theorem Rh.dn (h : Rh tk nu nx o a s s1) (h2 : Dn tk nu nx o b s1 p) : Dn tk nu nx o (a + b) s p := by
  obtain ⟨s', h3, h4⟩ := h2
  exact ⟨s', h.tr h3, h4⟩
theorem Dn.fin (h : Dn tk nu nx o a s p) {M : Nat} (hM : a + 6 ≤ M) : flt (itr (mv psG tk nu nx o) M s) = p := by
  obtain ⟨s', h1, h2, h3, h4⟩ := h
  obtain ⟨f, u, b, fl, L, tg, e, pp, v, c⟩ := s'
  have h2 : fl = p := h2
  have h4 : DrL L := h4
  obtain ⟨s2, h5, h6, h7⟩ := drain (tk := tk) (nu := nu) (nx := nx) (o := o) (f := f) (u := u) (b := b) (fl := fl) (tg := tg) (e := e) (p := pp) (v := v) (c := c) (by rw [h2]; exact h3) h4
  rw [(h1.tr h5).fin h6 hM, h7, h2]
/-- a token is taken: the machine goes on, or is over its sixty -/
theorem tkm {f u b' tg e : Int} {L r : List Int} {pp v c : List CT} (h : mv psU tk nu nx o s = tkS psU tk nx L f u b' (-1) r tg e pp v c) (hs : (stk s).length ≤ 250) (hn : nx f ≠ -1) (hL : DrL L) : (59 ≤ u ∧ tk (nx f) ≠ 91 ∧ tk (nx f) ≠ 23 → Dn tk nu nx o 1 s (nx f)) ∧ (¬ (59 ≤ u ∧ tk (nx f) ≠ 91 ∧ tk (nx f) ≠ 23) → Rh tk nu nx o 1 s (nx f, u + 1, b', -1, L ++ r, tg, e, pp, v, c)) := by
  unfold tkS at h
  refine ⟨fun z => ?_, fun z => ?_⟩
  · rw [if_pos z] at h
    exact ⟨_, Rh.one hs h, rfl, hn, by show DrL (psU L []); unfold psU; rw [List.append_nil]; exact hL⟩
  · rw [if_neg z] at h
    exact Rh.one hs h
/-- the machine fails where it is -/
theorem flm {f u b' tg e : Int} {pp v c : List CT} (h : mv psU tk nu nx o s = flS f u b' (-1) tg e pp v c) (hs : (stk s).length ≤ 250) (hf : f ≠ -1) : Dn tk nu nx o 1 s f := ⟨_, Rh.one hs h, rfl, hf, Or.inl rfl⟩
theorem DrL.nil : DrL [] := Or.inl rfl
/-- a sign that is due -/
theorem due_f {f u b' y tg e : Int} {r : List Int} {pp v c : List CT} (h2 : y < 300) (hl : r.length < 250) (hf : f ≠ -1) (hx : tk f ≠ y ∨ ((y = 72 ∨ y = 123) ∧ 8 ≤ b')) : Dn tk nu nx o 1 (f, u, b', -1, y :: r, tg, e, pp, v, c) f :=
  flm (by rw [mv_2 h2, if_pos (Or.inr hx)]) (by show (y :: r).length ≤ 250; rw [List.length_cons]; omega) hf
theorem due_t {f u b' y tg e : Int} {r : List Int} {pp v c : List CT} (h2 : y < 300) (hl : r.length < 250) (hn : nx f ≠ -1) (hx : tk f = y) (hx2 : ¬ ((y = 72 ∨ y = 123) ∧ 8 ≤ b')) : (59 ≤ u ∧ tk (nx f) ≠ 91 ∧ tk (nx f) ≠ 23 → Dn tk nu nx o 1 (f, u, b', -1, y :: r, tg, e, pp, v, c) (nx f)) ∧ (¬ (59 ≤ u ∧ tk (nx f) ≠ 91 ∧ tk (nx f) ≠ 23) → Rh tk nu nx o 1 (f, u, b', -1, y :: r, tg, e, pp, v, c) (nx f, u + 1, (if y = 72 ∨ y = 123 then b' + 1 else if y = 73 ∨ y = 125 then b' - 1 else b'), -1, r, tg, e, pp, v, c)) :=
  tkm (L := []) (by rw [mv_2 h2, if_neg (fun z => by rcases z with z | z | z; exact z rfl; exact z hx; exact hx2 z)]) (by show (y :: r).length ≤ 250; rw [List.length_cons]; omega) hn DrL.nil
/-- a number that is due -/
theorem num_f {f u b' y tg e : Int} {r : List Int} {pp v c : List CT} (h1 : 300 ≤ y) (h2 : y < 400) (hl : r.length < 250) (hf : f ≠ -1) (hx : ¬ (tk f = 22 ∧ nu f ≤ mst (y - 300))) : Dn tk nu nx o 1 (f, u, b', -1, y :: r, tg, e, pp, v, c) f := by
  refine flm (u := u) (b' := b') (tg := tg) (e := e) (pp := pp) (v := v) (c := c) ?_ (by show (y :: r).length ≤ 250; rw [List.length_cons]; omega) hf
  rw [mv_3 h1 h2, if_pos]
  by_cases z : tk f = 22
  · right
    by_cases w : nu f ≤ mst (y - 300)
    · exact absurd ⟨z, w⟩ hx
    · omega
  · exact Or.inl z
theorem num_t {f u b' y tg e : Int} {r : List Int} {pp v c : List CT} (h1 : 300 ≤ y) (h2 : y < 400) (hl : r.length < 250) (hn : nx f ≠ -1) (hx : tk f = 22) (hx2 : nu f ≤ mst (y - 300)) : (59 ≤ u ∧ tk (nx f) ≠ 91 ∧ tk (nx f) ≠ 23 → Dn tk nu nx o 1 (f, u, b', -1, y :: r, tg, e, pp, v, c) (nx f)) ∧ (¬ (59 ≤ u ∧ tk (nx f) ≠ 91 ∧ tk (nx f) ≠ 23) → Rh tk nu nx o 1 (f, u, b', -1, y :: r, tg, e, pp, v, c) (nx f, u + 1, b', -1, r, (if y = 326 then nu f else if y = 327 then 3 + nu f else tg), e, pp, v, (if y = 326 ∨ y = 327 then c else c ++ [(y - 300, nu f)]))) :=
  tkm (L := []) (by rw [mv_3 h1 h2, if_neg (fun z => by rcases z with z | z; exact z hx; omega)]) (by show (y :: r).length ≤ 250; rw [List.length_cons]; omega) hn DrL.nil
/-- code to be emitted -/
theorem emt {f u b' y tg e : Int} {r : List Int} {pp v c : List CT} (h1 : 400 ≤ y) (h2 : y < 700) (hl : r.length < 250) : Rh tk nu nx o 1 (f, u, b', -1, y :: r, tg, e, pp, v, c) (f, u, b', -1, r, tg, e, pp, v, c ++ [(y - 400, 0)]) := Rh.one (by show (y :: r).length ≤ 250; rw [List.length_cons]; omega) (mv_4 h1 h2)
/-- a rule that takes its token -/
theorem rul_t {f u b' y tg e : Int} {L r : List Int} {pp v c : List CT} (h1 : 705 ≤ y) (hl : r.length < 250) (hn : nx f ≠ -1) (hq : prd o (tk f) y = some (1, L)) : (59 ≤ u ∧ tk (nx f) ≠ 91 ∧ tk (nx f) ≠ 23 → Dn tk nu nx o 1 (f, u, b', -1, y :: r, tg, e, pp, v, c) (nx f)) ∧ (¬ (59 ≤ u ∧ tk (nx f) ≠ 91 ∧ tk (nx f) ≠ 23) → Rh tk nu nx o 1 (f, u, b', -1, y :: r, tg, e, pp, v, c) (nx f, u + 1, b', -1, L ++ r, tg, e, pp, v, c)) := by
  refine tkm (L := L) ?_ (by show (y :: r).length ≤ 250; rw [List.length_cons]; omega) hn (prd_DrL hq rfl)
  rw [mv_71 (by omega) (show prd o (tkn tk f (-1)) y = some (1, L) from hq) rfl, if_neg (by omega), eNw_n (by omega) (by omega), pNw_n (by omega), vNw_n (by omega) (by omega), cNw_n (by omega) (by omega)]
theorem rul_0 {f u b' y tg e : Int} {L r : List Int} {pp v c : List CT} (h1 : 705 ≤ y) (hl : r.length < 250) (hq : prd o (tk f) y = some (0, L)) : Rh tk nu nx o 1 (f, u, b', -1, y :: r, tg, e, pp, v, c) (f, u, b', -1, L ++ r, tg, e, pp, v, c) := by
  refine Rh.one (by show (y :: r).length ≤ 250; rw [List.length_cons]; omega) ?_
  rw [mv_70 (by omega) (show prd o (tkn tk f (-1)) y = some (0, L) from hq) rfl, eNw_n (by omega) (by omega), pNw_n (by omega), vNw_n (by omega) (by omega), cNw_n (by omega) (by omega)]
  rfl
theorem rul_f {f u b' y tg e : Int} {r : List Int} {pp v c : List CT} (h1 : 700 ≤ y) (hl : r.length < 250) (hf : f ≠ -1) (hq : prd o (tk f) y = none) : Dn tk nu nx o 1 (f, u, b', -1, y :: r, tg, e, pp, v, c) f :=
  flm (mv_7n h1 hq) (by show (y :: r).length ≤ 250; rw [List.length_cons]; omega) hf
end DNS
