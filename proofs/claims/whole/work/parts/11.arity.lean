/-! calls by the number of arguments; the fixed facts of a call in one word -/
def CV (own : String) (idx : Nat) (M : MT) (n j : Nat) : Prop := okM M n ∧ MLV own idx M ∧ (∃ q, vwCl[(kd j).1]? = some q ∧ q.1 = (mY M).cls) ∧ mK M = 0 ∧ mS M = 0
def CS (own : String) (idx : Nat) (M : MT) (n : Nat) : Prop := okM M n ∧ MLS own idx M ∧ mK M = 0 ∧ mS M = 0
def CI (own : String) (idx : Nat) (M : MT) : Prop := okM M 0 ∧ MLI own idx M ∧ mT M = none
theorem pushV_none {M : MT} {v : V} {st : List V} (h : mT M = none) : pushV M v st = st := by unfold pushV; rw [h]
theorem pushV_some {M : MT} {v : V} {st : List V} {ty : FieldType} (h : mT M = some ty) : pushV M v st = v :: st := by unfold pushV; rw [h]
theorem hL_at {ls : List V} {i : Nat} {x : V} (h : ls[i]? = some x) (hx : isL x = false) : ∀ j y, j + 1 = i + 1 → ls[j]? = some y → isL y = false := fun j y hj hy => by
  have : j = i := by omega
  subst this
  rw [h] at hy
  cases hy
  exact hx
section ARITY
variable {d : Nat} {M M' : MT} {Q : V → MI → Nat → MR → Prop} {n : Nat} {mr : MR} {kc ks : Nat} {mi : MI} {pc pc' : Nat} {ls st : List V}
theorem c_v0r {g j idx : Nat} (hd : Dc M pc (.invokevirtual idx) 3 pc') (hc : CV (mY M).cls idx M' 0 j) {ty : FieldType} (hr : mT M' = some ty) (hw : wdV st ≤ 8) (hK : kc ≤ mK M) (hS : ks ≤ mS M)
    (hT : Tx d M' [vR (some (g, j))] mi n mr (fun v mi' n' mr' => Run (d + 1) M Q (n', mr', kc, ks) mi' pc' ls (v :: st))) : Run (d + 1) M Q (n, mr, kc, ks) mi pc ls (vR (some (g, j)) :: st) := by
  obtain ⟨h1, h2, h3, h4, h5⟩ := hc
  refine s_invV (S := (n, mr, kc, ks)) (as := []) hd h1 h2 h3 rfl hw (by rw [h4, h5]; exact ⟨hK, hS⟩) ?_
  simp only [h4, h5, Nat.add_zero, pushV_some hr]
  exact hT
theorem c_s0r {idx : Nat} (hd : Dc M pc (.invokestatic idx) 3 pc') (hc : CS (mY M).cls idx M' 0) {ty : FieldType} (hr : mT M' = some ty) (hw : wdV st ≤ 8) (hK : kc ≤ mK M) (hS : ks ≤ mS M)
    (hT : Tx d M' [] mi n mr (fun v mi' n' mr' => Run (d + 1) M Q (n', mr', kc, ks) mi' pc' ls (v :: st))) : Run (d + 1) M Q (n, mr, kc, ks) mi pc ls (st) := by
  obtain ⟨h1, h2, h4, h5⟩ := hc
  refine s_invS (S := (n, mr, kc, ks)) (as := []) hd h1 h2 rfl hw (by rw [h4, h5]; exact ⟨hK, hS⟩) ?_
  simp only [h4, h5, Nat.add_zero, pushV_some hr]
  exact hT
theorem c_v0 {g j idx : Nat} (hd : Dc M pc (.invokevirtual idx) 3 pc') (hc : CV (mY M).cls idx M' 0 j) (hr : mT M' = none) (hw : wdV st ≤ 8) (hK : kc ≤ mK M) (hS : ks ≤ mS M)
    (hT : Tx d M' [vR (some (g, j))] mi n mr (fun v mi' n' mr' => Run (d + 1) M Q (n', mr', kc, ks) mi' pc' ls (st))) : Run (d + 1) M Q (n, mr, kc, ks) mi pc ls (vR (some (g, j)) :: st) := by
  obtain ⟨h1, h2, h3, h4, h5⟩ := hc
  refine s_invV (S := (n, mr, kc, ks)) (as := []) hd h1 h2 h3 rfl hw (by rw [h4, h5]; exact ⟨hK, hS⟩) ?_
  simp only [h4, h5, Nat.add_zero, pushV_none hr]
  exact hT
theorem c_s0 {idx : Nat} (hd : Dc M pc (.invokestatic idx) 3 pc') (hc : CS (mY M).cls idx M' 0) (hr : mT M' = none) (hw : wdV st ≤ 8) (hK : kc ≤ mK M) (hS : ks ≤ mS M)
    (hT : Tx d M' [] mi n mr (fun v mi' n' mr' => Run (d + 1) M Q (n', mr', kc, ks) mi' pc' ls (st))) : Run (d + 1) M Q (n, mr, kc, ks) mi pc ls (st) := by
  obtain ⟨h1, h2, h4, h5⟩ := hc
  refine s_invS (S := (n, mr, kc, ks)) (as := []) hd h1 h2 rfl hw (by rw [h4, h5]; exact ⟨hK, hS⟩) ?_
  simp only [h4, h5, Nat.add_zero, pushV_none hr]
  exact hT
theorem c_v1r {g j idx : Nat} {a1 : V} (hd : Dc M pc (.invokevirtual idx) 3 pc') (hc : CV (mY M).cls idx M' 1 j) {ty : FieldType} (hr : mT M' = some ty) (hw : wdV st ≤ 8) (hK : kc ≤ mK M) (hS : ks ≤ mS M)
    (hT : Tx d M' [vR (some (g, j)), a1] mi n mr (fun v mi' n' mr' => Run (d + 1) M Q (n', mr', kc, ks) mi' pc' ls (v :: st))) : Run (d + 1) M Q (n, mr, kc, ks) mi pc ls (a1 :: vR (some (g, j)) :: st) := by
  obtain ⟨h1, h2, h3, h4, h5⟩ := hc
  refine s_invV (S := (n, mr, kc, ks)) (as := [a1]) hd h1 h2 h3 rfl hw (by rw [h4, h5]; exact ⟨hK, hS⟩) ?_
  simp only [h4, h5, Nat.add_zero, pushV_some hr]
  exact hT
theorem c_s1r {idx : Nat} {a1 : V} (hd : Dc M pc (.invokestatic idx) 3 pc') (hc : CS (mY M).cls idx M' 1) {ty : FieldType} (hr : mT M' = some ty) (hw : wdV st ≤ 8) (hK : kc ≤ mK M) (hS : ks ≤ mS M)
    (hT : Tx d M' [a1] mi n mr (fun v mi' n' mr' => Run (d + 1) M Q (n', mr', kc, ks) mi' pc' ls (v :: st))) : Run (d + 1) M Q (n, mr, kc, ks) mi pc ls (a1 :: st) := by
  obtain ⟨h1, h2, h4, h5⟩ := hc
  refine s_invS (S := (n, mr, kc, ks)) (as := [a1]) hd h1 h2 rfl hw (by rw [h4, h5]; exact ⟨hK, hS⟩) ?_
  simp only [h4, h5, Nat.add_zero, pushV_some hr]
  exact hT
theorem c_v1 {g j idx : Nat} {a1 : V} (hd : Dc M pc (.invokevirtual idx) 3 pc') (hc : CV (mY M).cls idx M' 1 j) (hr : mT M' = none) (hw : wdV st ≤ 8) (hK : kc ≤ mK M) (hS : ks ≤ mS M)
    (hT : Tx d M' [vR (some (g, j)), a1] mi n mr (fun v mi' n' mr' => Run (d + 1) M Q (n', mr', kc, ks) mi' pc' ls (st))) : Run (d + 1) M Q (n, mr, kc, ks) mi pc ls (a1 :: vR (some (g, j)) :: st) := by
  obtain ⟨h1, h2, h3, h4, h5⟩ := hc
  refine s_invV (S := (n, mr, kc, ks)) (as := [a1]) hd h1 h2 h3 rfl hw (by rw [h4, h5]; exact ⟨hK, hS⟩) ?_
  simp only [h4, h5, Nat.add_zero, pushV_none hr]
  exact hT
theorem c_s1 {idx : Nat} {a1 : V} (hd : Dc M pc (.invokestatic idx) 3 pc') (hc : CS (mY M).cls idx M' 1) (hr : mT M' = none) (hw : wdV st ≤ 8) (hK : kc ≤ mK M) (hS : ks ≤ mS M)
    (hT : Tx d M' [a1] mi n mr (fun v mi' n' mr' => Run (d + 1) M Q (n', mr', kc, ks) mi' pc' ls (st))) : Run (d + 1) M Q (n, mr, kc, ks) mi pc ls (a1 :: st) := by
  obtain ⟨h1, h2, h4, h5⟩ := hc
  refine s_invS (S := (n, mr, kc, ks)) (as := [a1]) hd h1 h2 rfl hw (by rw [h4, h5]; exact ⟨hK, hS⟩) ?_
  simp only [h4, h5, Nat.add_zero, pushV_none hr]
  exact hT
theorem c_v2r {g j idx : Nat} {a1 a2 : V} (hd : Dc M pc (.invokevirtual idx) 3 pc') (hc : CV (mY M).cls idx M' 2 j) {ty : FieldType} (hr : mT M' = some ty) (hw : wdV st ≤ 8) (hK : kc ≤ mK M) (hS : ks ≤ mS M)
    (hT : Tx d M' [vR (some (g, j)), a1, a2] mi n mr (fun v mi' n' mr' => Run (d + 1) M Q (n', mr', kc, ks) mi' pc' ls (v :: st))) : Run (d + 1) M Q (n, mr, kc, ks) mi pc ls (a2 :: a1 :: vR (some (g, j)) :: st) := by
  obtain ⟨h1, h2, h3, h4, h5⟩ := hc
  refine s_invV (S := (n, mr, kc, ks)) (as := [a1, a2]) hd h1 h2 h3 rfl hw (by rw [h4, h5]; exact ⟨hK, hS⟩) ?_
  simp only [h4, h5, Nat.add_zero, pushV_some hr]
  exact hT
theorem c_s2r {idx : Nat} {a1 a2 : V} (hd : Dc M pc (.invokestatic idx) 3 pc') (hc : CS (mY M).cls idx M' 2) {ty : FieldType} (hr : mT M' = some ty) (hw : wdV st ≤ 8) (hK : kc ≤ mK M) (hS : ks ≤ mS M)
    (hT : Tx d M' [a1, a2] mi n mr (fun v mi' n' mr' => Run (d + 1) M Q (n', mr', kc, ks) mi' pc' ls (v :: st))) : Run (d + 1) M Q (n, mr, kc, ks) mi pc ls (a2 :: a1 :: st) := by
  obtain ⟨h1, h2, h4, h5⟩ := hc
  refine s_invS (S := (n, mr, kc, ks)) (as := [a1, a2]) hd h1 h2 rfl hw (by rw [h4, h5]; exact ⟨hK, hS⟩) ?_
  simp only [h4, h5, Nat.add_zero, pushV_some hr]
  exact hT
theorem c_v2 {g j idx : Nat} {a1 a2 : V} (hd : Dc M pc (.invokevirtual idx) 3 pc') (hc : CV (mY M).cls idx M' 2 j) (hr : mT M' = none) (hw : wdV st ≤ 8) (hK : kc ≤ mK M) (hS : ks ≤ mS M)
    (hT : Tx d M' [vR (some (g, j)), a1, a2] mi n mr (fun v mi' n' mr' => Run (d + 1) M Q (n', mr', kc, ks) mi' pc' ls (st))) : Run (d + 1) M Q (n, mr, kc, ks) mi pc ls (a2 :: a1 :: vR (some (g, j)) :: st) := by
  obtain ⟨h1, h2, h3, h4, h5⟩ := hc
  refine s_invV (S := (n, mr, kc, ks)) (as := [a1, a2]) hd h1 h2 h3 rfl hw (by rw [h4, h5]; exact ⟨hK, hS⟩) ?_
  simp only [h4, h5, Nat.add_zero, pushV_none hr]
  exact hT
theorem c_s2 {idx : Nat} {a1 a2 : V} (hd : Dc M pc (.invokestatic idx) 3 pc') (hc : CS (mY M).cls idx M' 2) (hr : mT M' = none) (hw : wdV st ≤ 8) (hK : kc ≤ mK M) (hS : ks ≤ mS M)
    (hT : Tx d M' [a1, a2] mi n mr (fun v mi' n' mr' => Run (d + 1) M Q (n', mr', kc, ks) mi' pc' ls (st))) : Run (d + 1) M Q (n, mr, kc, ks) mi pc ls (a2 :: a1 :: st) := by
  obtain ⟨h1, h2, h4, h5⟩ := hc
  refine s_invS (S := (n, mr, kc, ks)) (as := [a1, a2]) hd h1 h2 rfl hw (by rw [h4, h5]; exact ⟨hK, hS⟩) ?_
  simp only [h4, h5, Nat.add_zero, pushV_none hr]
  exact hT
theorem c_v3r {g j idx : Nat} {a1 a2 a3 : V} (hd : Dc M pc (.invokevirtual idx) 3 pc') (hc : CV (mY M).cls idx M' 3 j) {ty : FieldType} (hr : mT M' = some ty) (hw : wdV st ≤ 8) (hK : kc ≤ mK M) (hS : ks ≤ mS M)
    (hT : Tx d M' [vR (some (g, j)), a1, a2, a3] mi n mr (fun v mi' n' mr' => Run (d + 1) M Q (n', mr', kc, ks) mi' pc' ls (v :: st))) : Run (d + 1) M Q (n, mr, kc, ks) mi pc ls (a3 :: a2 :: a1 :: vR (some (g, j)) :: st) := by
  obtain ⟨h1, h2, h3, h4, h5⟩ := hc
  refine s_invV (S := (n, mr, kc, ks)) (as := [a1, a2, a3]) hd h1 h2 h3 rfl hw (by rw [h4, h5]; exact ⟨hK, hS⟩) ?_
  simp only [h4, h5, Nat.add_zero, pushV_some hr]
  exact hT
theorem c_s3r {idx : Nat} {a1 a2 a3 : V} (hd : Dc M pc (.invokestatic idx) 3 pc') (hc : CS (mY M).cls idx M' 3) {ty : FieldType} (hr : mT M' = some ty) (hw : wdV st ≤ 8) (hK : kc ≤ mK M) (hS : ks ≤ mS M)
    (hT : Tx d M' [a1, a2, a3] mi n mr (fun v mi' n' mr' => Run (d + 1) M Q (n', mr', kc, ks) mi' pc' ls (v :: st))) : Run (d + 1) M Q (n, mr, kc, ks) mi pc ls (a3 :: a2 :: a1 :: st) := by
  obtain ⟨h1, h2, h4, h5⟩ := hc
  refine s_invS (S := (n, mr, kc, ks)) (as := [a1, a2, a3]) hd h1 h2 rfl hw (by rw [h4, h5]; exact ⟨hK, hS⟩) ?_
  simp only [h4, h5, Nat.add_zero, pushV_some hr]
  exact hT
theorem c_v3 {g j idx : Nat} {a1 a2 a3 : V} (hd : Dc M pc (.invokevirtual idx) 3 pc') (hc : CV (mY M).cls idx M' 3 j) (hr : mT M' = none) (hw : wdV st ≤ 8) (hK : kc ≤ mK M) (hS : ks ≤ mS M)
    (hT : Tx d M' [vR (some (g, j)), a1, a2, a3] mi n mr (fun v mi' n' mr' => Run (d + 1) M Q (n', mr', kc, ks) mi' pc' ls (st))) : Run (d + 1) M Q (n, mr, kc, ks) mi pc ls (a3 :: a2 :: a1 :: vR (some (g, j)) :: st) := by
  obtain ⟨h1, h2, h3, h4, h5⟩ := hc
  refine s_invV (S := (n, mr, kc, ks)) (as := [a1, a2, a3]) hd h1 h2 h3 rfl hw (by rw [h4, h5]; exact ⟨hK, hS⟩) ?_
  simp only [h4, h5, Nat.add_zero, pushV_none hr]
  exact hT
theorem c_s3 {idx : Nat} {a1 a2 a3 : V} (hd : Dc M pc (.invokestatic idx) 3 pc') (hc : CS (mY M).cls idx M' 3) (hr : mT M' = none) (hw : wdV st ≤ 8) (hK : kc ≤ mK M) (hS : ks ≤ mS M)
    (hT : Tx d M' [a1, a2, a3] mi n mr (fun v mi' n' mr' => Run (d + 1) M Q (n', mr', kc, ks) mi' pc' ls (st))) : Run (d + 1) M Q (n, mr, kc, ks) mi pc ls (a3 :: a2 :: a1 :: st) := by
  obtain ⟨h1, h2, h4, h5⟩ := hc
  refine s_invS (S := (n, mr, kc, ks)) (as := [a1, a2, a3]) hd h1 h2 rfl hw (by rw [h4, h5]; exact ⟨hK, hS⟩) ?_
  simp only [h4, h5, Nat.add_zero, pushV_none hr]
  exact hT
theorem c_v4r {g j idx : Nat} {a1 a2 a3 a4 : V} (hd : Dc M pc (.invokevirtual idx) 3 pc') (hc : CV (mY M).cls idx M' 4 j) {ty : FieldType} (hr : mT M' = some ty) (hw : wdV st ≤ 8) (hK : kc ≤ mK M) (hS : ks ≤ mS M)
    (hT : Tx d M' [vR (some (g, j)), a1, a2, a3, a4] mi n mr (fun v mi' n' mr' => Run (d + 1) M Q (n', mr', kc, ks) mi' pc' ls (v :: st))) : Run (d + 1) M Q (n, mr, kc, ks) mi pc ls (a4 :: a3 :: a2 :: a1 :: vR (some (g, j)) :: st) := by
  obtain ⟨h1, h2, h3, h4, h5⟩ := hc
  refine s_invV (S := (n, mr, kc, ks)) (as := [a1, a2, a3, a4]) hd h1 h2 h3 rfl hw (by rw [h4, h5]; exact ⟨hK, hS⟩) ?_
  simp only [h4, h5, Nat.add_zero, pushV_some hr]
  exact hT
theorem c_s4r {idx : Nat} {a1 a2 a3 a4 : V} (hd : Dc M pc (.invokestatic idx) 3 pc') (hc : CS (mY M).cls idx M' 4) {ty : FieldType} (hr : mT M' = some ty) (hw : wdV st ≤ 8) (hK : kc ≤ mK M) (hS : ks ≤ mS M)
    (hT : Tx d M' [a1, a2, a3, a4] mi n mr (fun v mi' n' mr' => Run (d + 1) M Q (n', mr', kc, ks) mi' pc' ls (v :: st))) : Run (d + 1) M Q (n, mr, kc, ks) mi pc ls (a4 :: a3 :: a2 :: a1 :: st) := by
  obtain ⟨h1, h2, h4, h5⟩ := hc
  refine s_invS (S := (n, mr, kc, ks)) (as := [a1, a2, a3, a4]) hd h1 h2 rfl hw (by rw [h4, h5]; exact ⟨hK, hS⟩) ?_
  simp only [h4, h5, Nat.add_zero, pushV_some hr]
  exact hT
theorem c_v4 {g j idx : Nat} {a1 a2 a3 a4 : V} (hd : Dc M pc (.invokevirtual idx) 3 pc') (hc : CV (mY M).cls idx M' 4 j) (hr : mT M' = none) (hw : wdV st ≤ 8) (hK : kc ≤ mK M) (hS : ks ≤ mS M)
    (hT : Tx d M' [vR (some (g, j)), a1, a2, a3, a4] mi n mr (fun v mi' n' mr' => Run (d + 1) M Q (n', mr', kc, ks) mi' pc' ls (st))) : Run (d + 1) M Q (n, mr, kc, ks) mi pc ls (a4 :: a3 :: a2 :: a1 :: vR (some (g, j)) :: st) := by
  obtain ⟨h1, h2, h3, h4, h5⟩ := hc
  refine s_invV (S := (n, mr, kc, ks)) (as := [a1, a2, a3, a4]) hd h1 h2 h3 rfl hw (by rw [h4, h5]; exact ⟨hK, hS⟩) ?_
  simp only [h4, h5, Nat.add_zero, pushV_none hr]
  exact hT
theorem c_s4 {idx : Nat} {a1 a2 a3 a4 : V} (hd : Dc M pc (.invokestatic idx) 3 pc') (hc : CS (mY M).cls idx M' 4) (hr : mT M' = none) (hw : wdV st ≤ 8) (hK : kc ≤ mK M) (hS : ks ≤ mS M)
    (hT : Tx d M' [a1, a2, a3, a4] mi n mr (fun v mi' n' mr' => Run (d + 1) M Q (n', mr', kc, ks) mi' pc' ls (st))) : Run (d + 1) M Q (n, mr, kc, ks) mi pc ls (a4 :: a3 :: a2 :: a1 :: st) := by
  obtain ⟨h1, h2, h4, h5⟩ := hc
  refine s_invS (S := (n, mr, kc, ks)) (as := [a1, a2, a3, a4]) hd h1 h2 rfl hw (by rw [h4, h5]; exact ⟨hK, hS⟩) ?_
  simp only [h4, h5, Nat.add_zero, pushV_none hr]
  exact hT
theorem c_v5r {g j idx : Nat} {a1 a2 a3 a4 a5 : V} (hd : Dc M pc (.invokevirtual idx) 3 pc') (hc : CV (mY M).cls idx M' 5 j) {ty : FieldType} (hr : mT M' = some ty) (hw : wdV st ≤ 8) (hK : kc ≤ mK M) (hS : ks ≤ mS M)
    (hT : Tx d M' [vR (some (g, j)), a1, a2, a3, a4, a5] mi n mr (fun v mi' n' mr' => Run (d + 1) M Q (n', mr', kc, ks) mi' pc' ls (v :: st))) : Run (d + 1) M Q (n, mr, kc, ks) mi pc ls (a5 :: a4 :: a3 :: a2 :: a1 :: vR (some (g, j)) :: st) := by
  obtain ⟨h1, h2, h3, h4, h5⟩ := hc
  refine s_invV (S := (n, mr, kc, ks)) (as := [a1, a2, a3, a4, a5]) hd h1 h2 h3 rfl hw (by rw [h4, h5]; exact ⟨hK, hS⟩) ?_
  simp only [h4, h5, Nat.add_zero, pushV_some hr]
  exact hT
theorem c_s5r {idx : Nat} {a1 a2 a3 a4 a5 : V} (hd : Dc M pc (.invokestatic idx) 3 pc') (hc : CS (mY M).cls idx M' 5) {ty : FieldType} (hr : mT M' = some ty) (hw : wdV st ≤ 8) (hK : kc ≤ mK M) (hS : ks ≤ mS M)
    (hT : Tx d M' [a1, a2, a3, a4, a5] mi n mr (fun v mi' n' mr' => Run (d + 1) M Q (n', mr', kc, ks) mi' pc' ls (v :: st))) : Run (d + 1) M Q (n, mr, kc, ks) mi pc ls (a5 :: a4 :: a3 :: a2 :: a1 :: st) := by
  obtain ⟨h1, h2, h4, h5⟩ := hc
  refine s_invS (S := (n, mr, kc, ks)) (as := [a1, a2, a3, a4, a5]) hd h1 h2 rfl hw (by rw [h4, h5]; exact ⟨hK, hS⟩) ?_
  simp only [h4, h5, Nat.add_zero, pushV_some hr]
  exact hT
theorem c_v5 {g j idx : Nat} {a1 a2 a3 a4 a5 : V} (hd : Dc M pc (.invokevirtual idx) 3 pc') (hc : CV (mY M).cls idx M' 5 j) (hr : mT M' = none) (hw : wdV st ≤ 8) (hK : kc ≤ mK M) (hS : ks ≤ mS M)
    (hT : Tx d M' [vR (some (g, j)), a1, a2, a3, a4, a5] mi n mr (fun v mi' n' mr' => Run (d + 1) M Q (n', mr', kc, ks) mi' pc' ls (st))) : Run (d + 1) M Q (n, mr, kc, ks) mi pc ls (a5 :: a4 :: a3 :: a2 :: a1 :: vR (some (g, j)) :: st) := by
  obtain ⟨h1, h2, h3, h4, h5⟩ := hc
  refine s_invV (S := (n, mr, kc, ks)) (as := [a1, a2, a3, a4, a5]) hd h1 h2 h3 rfl hw (by rw [h4, h5]; exact ⟨hK, hS⟩) ?_
  simp only [h4, h5, Nat.add_zero, pushV_none hr]
  exact hT
theorem c_s5 {idx : Nat} {a1 a2 a3 a4 a5 : V} (hd : Dc M pc (.invokestatic idx) 3 pc') (hc : CS (mY M).cls idx M' 5) (hr : mT M' = none) (hw : wdV st ≤ 8) (hK : kc ≤ mK M) (hS : ks ≤ mS M)
    (hT : Tx d M' [a1, a2, a3, a4, a5] mi n mr (fun v mi' n' mr' => Run (d + 1) M Q (n', mr', kc, ks) mi' pc' ls (st))) : Run (d + 1) M Q (n, mr, kc, ks) mi pc ls (a5 :: a4 :: a3 :: a2 :: a1 :: st) := by
  obtain ⟨h1, h2, h4, h5⟩ := hc
  refine s_invS (S := (n, mr, kc, ks)) (as := [a1, a2, a3, a4, a5]) hd h1 h2 rfl hw (by rw [h4, h5]; exact ⟨hK, hS⟩) ?_
  simp only [h4, h5, Nat.add_zero, pushV_none hr]
  exact hT
theorem c_v6r {g j idx : Nat} {a1 a2 a3 a4 a5 a6 : V} (hd : Dc M pc (.invokevirtual idx) 3 pc') (hc : CV (mY M).cls idx M' 6 j) {ty : FieldType} (hr : mT M' = some ty) (hw : wdV st ≤ 8) (hK : kc ≤ mK M) (hS : ks ≤ mS M)
    (hT : Tx d M' [vR (some (g, j)), a1, a2, a3, a4, a5, a6] mi n mr (fun v mi' n' mr' => Run (d + 1) M Q (n', mr', kc, ks) mi' pc' ls (v :: st))) : Run (d + 1) M Q (n, mr, kc, ks) mi pc ls (a6 :: a5 :: a4 :: a3 :: a2 :: a1 :: vR (some (g, j)) :: st) := by
  obtain ⟨h1, h2, h3, h4, h5⟩ := hc
  refine s_invV (S := (n, mr, kc, ks)) (as := [a1, a2, a3, a4, a5, a6]) hd h1 h2 h3 rfl hw (by rw [h4, h5]; exact ⟨hK, hS⟩) ?_
  simp only [h4, h5, Nat.add_zero, pushV_some hr]
  exact hT
theorem c_s6r {idx : Nat} {a1 a2 a3 a4 a5 a6 : V} (hd : Dc M pc (.invokestatic idx) 3 pc') (hc : CS (mY M).cls idx M' 6) {ty : FieldType} (hr : mT M' = some ty) (hw : wdV st ≤ 8) (hK : kc ≤ mK M) (hS : ks ≤ mS M)
    (hT : Tx d M' [a1, a2, a3, a4, a5, a6] mi n mr (fun v mi' n' mr' => Run (d + 1) M Q (n', mr', kc, ks) mi' pc' ls (v :: st))) : Run (d + 1) M Q (n, mr, kc, ks) mi pc ls (a6 :: a5 :: a4 :: a3 :: a2 :: a1 :: st) := by
  obtain ⟨h1, h2, h4, h5⟩ := hc
  refine s_invS (S := (n, mr, kc, ks)) (as := [a1, a2, a3, a4, a5, a6]) hd h1 h2 rfl hw (by rw [h4, h5]; exact ⟨hK, hS⟩) ?_
  simp only [h4, h5, Nat.add_zero, pushV_some hr]
  exact hT
theorem c_v6 {g j idx : Nat} {a1 a2 a3 a4 a5 a6 : V} (hd : Dc M pc (.invokevirtual idx) 3 pc') (hc : CV (mY M).cls idx M' 6 j) (hr : mT M' = none) (hw : wdV st ≤ 8) (hK : kc ≤ mK M) (hS : ks ≤ mS M)
    (hT : Tx d M' [vR (some (g, j)), a1, a2, a3, a4, a5, a6] mi n mr (fun v mi' n' mr' => Run (d + 1) M Q (n', mr', kc, ks) mi' pc' ls (st))) : Run (d + 1) M Q (n, mr, kc, ks) mi pc ls (a6 :: a5 :: a4 :: a3 :: a2 :: a1 :: vR (some (g, j)) :: st) := by
  obtain ⟨h1, h2, h3, h4, h5⟩ := hc
  refine s_invV (S := (n, mr, kc, ks)) (as := [a1, a2, a3, a4, a5, a6]) hd h1 h2 h3 rfl hw (by rw [h4, h5]; exact ⟨hK, hS⟩) ?_
  simp only [h4, h5, Nat.add_zero, pushV_none hr]
  exact hT
theorem c_s6 {idx : Nat} {a1 a2 a3 a4 a5 a6 : V} (hd : Dc M pc (.invokestatic idx) 3 pc') (hc : CS (mY M).cls idx M' 6) (hr : mT M' = none) (hw : wdV st ≤ 8) (hK : kc ≤ mK M) (hS : ks ≤ mS M)
    (hT : Tx d M' [a1, a2, a3, a4, a5, a6] mi n mr (fun v mi' n' mr' => Run (d + 1) M Q (n', mr', kc, ks) mi' pc' ls (st))) : Run (d + 1) M Q (n, mr, kc, ks) mi pc ls (a6 :: a5 :: a4 :: a3 :: a2 :: a1 :: st) := by
  obtain ⟨h1, h2, h4, h5⟩ := hc
  refine s_invS (S := (n, mr, kc, ks)) (as := [a1, a2, a3, a4, a5, a6]) hd h1 h2 rfl hw (by rw [h4, h5]; exact ⟨hK, hS⟩) ?_
  simp only [h4, h5, Nat.add_zero, pushV_none hr]
  exact hT
theorem c_t0r {idx : Nat} (hd : Dc M pc (.invokevirtual idx) 3 pc') (h1 : okM M' 0) (h2 : MLV (mY M).cls idx M') (h3 : (mY M').cls = "java/lang/String") (h4 : mK M' = 0) (h5 : mS M' = 0) {ty : FieldType} (hr : mT M' = some ty) (hw : wdV st ≤ 8) (hK : kc ≤ mK M) (hS : ks ≤ mS M)
    (hT : Tx d M' [vX 2] mi n mr (fun v mi' n' mr' => Run (d + 1) M Q (n', mr', kc, ks) mi' pc' ls (v :: st))) : Run (d + 1) M Q (n, mr, kc, ks) mi pc ls (vX 2 :: st) := by
  refine s_invT (S := (n, mr, kc, ks)) (as := []) hd h1 h2 h3 rfl hw (by rw [h4, h5]; exact ⟨hK, hS⟩) ?_
  simp only [h4, h5, Nat.add_zero, pushV_some hr]
  exact hT
theorem c_t1r {idx : Nat} {a1 : V} (hd : Dc M pc (.invokevirtual idx) 3 pc') (h1 : okM M' 1) (h2 : MLV (mY M).cls idx M') (h3 : (mY M').cls = "java/lang/String") (h4 : mK M' = 0) (h5 : mS M' = 0) {ty : FieldType} (hr : mT M' = some ty) (hw : wdV st ≤ 8) (hK : kc ≤ mK M) (hS : ks ≤ mS M)
    (hT : Tx d M' [vX 2, a1] mi n mr (fun v mi' n' mr' => Run (d + 1) M Q (n', mr', kc, ks) mi' pc' ls (v :: st))) : Run (d + 1) M Q (n, mr, kc, ks) mi pc ls (a1 :: vX 2 :: st) := by
  refine s_invT (S := (n, mr, kc, ks)) (as := [a1]) hd h1 h2 h3 rfl hw (by rw [h4, h5]; exact ⟨hK, hS⟩) ?_
  simp only [h4, h5, Nat.add_zero, pushV_some hr]
  exact hT
theorem c_i0 {idx : Nat} {a : Ad} (hd : Dc M pc (.invokespecial idx) 3 pc') (hc : CI (mY M).cls idx M') (hw : wdV st ≤ 8) (hK : kc + mK M' ≤ mK M) (hS : ks + mS M' ≤ mS M)
    (hT : Tx d M' [vR (some a)] mi n mr (fun _ mi' n' mr' => Run (d + 1) M Q (n', mr', kc + mK M', ks + mS M') mi' pc' ls st)) : Run (d + 1) M Q (n, mr, kc, ks) mi pc ls (vR (some a) :: st) := by
  obtain ⟨h1, h2, h3⟩ := hc
  refine s_invI (S := (n, mr, kc, ks)) (as := []) hd h1 h2 h3 rfl hw ⟨hK, hS⟩ ?_
  simp only [pushV_none h3]
  exact hT
theorem s_pA {g j idx : Nat} {k : Int} {t : FieldType} {r : Option Ad} (hd : Dc M pc (.putfield idx) 3 pc') (hf : FL (mY M).cls idx j k (.array t) false) (kk : Run d M Q (n, upR mr g j k r, kc, ks) mi pc' ls st) : Run d M Q (n, mr, kc, ks) mi pc ls (vR r :: vR (some (g, j)) :: st) := s_putA hd hf (Or.inl rfl) kk
theorem s_pO {g j idx : Nat} {k : Int} {C : String} {r : Option Ad} (hd : Dc M pc (.putfield idx) 3 pc') (hf : FL (mY M).cls idx j k (.object C) false) (kk : Run d M Q (n, upR mr g j k r, kc, ks) mi pc' ls st) : Run d M Q (n, mr, kc, ks) mi pc ls (vR r :: vR (some (g, j)) :: st) := s_putO hd hf (Or.inl rfl) kk
theorem s_pAF {g j idx : Nat} {k : Int} {t : FieldType} {r : Option Ad} (hd : Dc M pc (.putfield idx) 3 pc') (hf : FL (mY M).cls idx j k (.array t) true) (hi : (mY M).name = "<init>") (hq : ∀ q, vwCl[(kd j).1]? = some q → q.1 = (mY M).cls) (kk : Run d M Q (n, upR mr g j k r, kc, ks) mi pc' ls st) : Run d M Q (n, mr, kc, ks) mi pc ls (vR r :: vR (some (g, j)) :: st) := s_putA hd hf (Or.inr ⟨hi, hq⟩) kk
theorem s_pOF {g j idx : Nat} {k : Int} {C : String} {r : Option Ad} (hd : Dc M pc (.putfield idx) 3 pc') (hf : FL (mY M).cls idx j k (.object C) true) (hi : (mY M).name = "<init>") (hq : ∀ q, vwCl[(kd j).1]? = some q → q.1 = (mY M).cls) (kk : Run d M Q (n, upR mr g j k r, kc, ks) mi pc' ls st) : Run d M Q (n, mr, kc, ks) mi pc ls (vR r :: vR (some (g, j)) :: st) := s_putO hd hf (Or.inr ⟨hi, hq⟩) kk
theorem s_aast {g j g2 j2 kk0 N : Nat} {x : Int} (hd : Dc M pc .aastore 1 pc') (hk : kd j = (kk0, N)) (hk3 : (kk0 = 23 ∧ (kd j2).1 = 3) ∨ (kk0 = 24 ∧ (kd j2).1 = 7)) (h0 : 0 ≤ x) (h1 : x < N) (kk : Run d M Q (n, upR mr g j x (some (g2, j2)), kc, ks) mi pc' ls st) : Run d M Q (n, mr, kc, ks) mi pc ls (vR (some (g2, j2)) :: vI x :: vR (some (g, j)) :: st) := s_aastore hd hk hk3 h0 h1 kk
theorem t_i0 {S : Nat × MR × Nat × Nat} {x0 : V} {a : Int} {l : List V} (hd : Dc M pc (.istore_n 0) 1 pc') (hi : 0 < mL M) (k : Run d M Q S mi pc' (vI a :: l) st) : Run d M Q S mi pc (x0 :: l) (vI a :: st) := by
  refine s_istore_n hd hi (fun j y hj _ => absurd hj (by omega)) k
theorem t_a0 {S : Nat × MR × Nat × Nat} {x0 : V} {a : Ad} {l : List V} (hd : Dc M pc (.astore_n 0) 1 pc') (hi : 0 < mL M) (k : Run d M Q S mi pc' (vR (some a) :: l) st) : Run d M Q S mi pc (x0 :: l) (vR (some a) :: st) := by
  refine s_astore_n hd hi (fun j y hj _ => absurd hj (by omega)) k
theorem t_n0 {S : Nat × MR × Nat × Nat} {x0 : V}  {l : List V} (hd : Dc M pc (.astore_n 0) 1 pc') (hi : 0 < mL M) (k : Run d M Q S mi pc' (vR none :: l) st) : Run d M Q S mi pc (x0 :: l) (vR none :: st) := by
  refine s_astore_nN hd hi (fun j y hj _ => absurd hj (by omega)) k
theorem t_inc0 {S : Nat × MR × Nat × Nat} {a b : Int} {l : List V} (hd : Dc M pc (.iinc 0 b) 3 pc') (hb : (Int32.ofInt b).toInt = b) (hi : 0 < mL M) (k : Run d M Q S mi pc' (vI (w32 (a + b)) :: l) st) : Run d M Q S mi pc (vI a :: l) st := by
  refine s_iinc hd rfl hb hi (fun j y hj _ => absurd hj (by omega)) k
theorem t_l0 {S : Nat × MR × Nat × Nat} {x0 y0 : V} {a : Int} {l : List V} (hd : Dc M pc (.lstore_n 0) 1 pc') (hi : 0 + 1 < mL M) (k : Run d M Q S mi pc' (vL a :: vX 0 :: l) st) : Run d M Q S mi pc (x0 :: y0 :: l) (vL a :: st) := by
  refine s_lstore_n hd hi (fun j y hj _ => absurd hj (by omega)) k
theorem t_i1 {S : Nat × MR × Nat × Nat} {x0 x1 : V} {a : Int} {l : List V} (hd : Dc M pc (.istore_n 1) 1 pc') (hi : 1 < mL M) (hL : isL x0 = false) (k : Run d M Q S mi pc' (x0 :: vI a :: l) st) : Run d M Q S mi pc (x0 :: x1 :: l) (vI a :: st) := by
  refine s_istore_n hd hi (hL_at (i := 0) rfl hL) k
theorem t_a1 {S : Nat × MR × Nat × Nat} {x0 x1 : V} {a : Ad} {l : List V} (hd : Dc M pc (.astore_n 1) 1 pc') (hi : 1 < mL M) (hL : isL x0 = false) (k : Run d M Q S mi pc' (x0 :: vR (some a) :: l) st) : Run d M Q S mi pc (x0 :: x1 :: l) (vR (some a) :: st) := by
  refine s_astore_n hd hi (hL_at (i := 0) rfl hL) k
theorem t_n1 {S : Nat × MR × Nat × Nat} {x0 x1 : V}  {l : List V} (hd : Dc M pc (.astore_n 1) 1 pc') (hi : 1 < mL M) (hL : isL x0 = false) (k : Run d M Q S mi pc' (x0 :: vR none :: l) st) : Run d M Q S mi pc (x0 :: x1 :: l) (vR none :: st) := by
  refine s_astore_nN hd hi (hL_at (i := 0) rfl hL) k
theorem t_inc1 {S : Nat × MR × Nat × Nat} {x0 : V} {a b : Int} {l : List V} (hd : Dc M pc (.iinc 1 b) 3 pc') (hb : (Int32.ofInt b).toInt = b) (hi : 1 < mL M) (hL : isL x0 = false) (k : Run d M Q S mi pc' (x0 :: vI (w32 (a + b)) :: l) st) : Run d M Q S mi pc (x0 :: vI a :: l) st := by
  refine s_iinc hd rfl hb hi (hL_at (i := 0) rfl hL) k
theorem t_l1 {S : Nat × MR × Nat × Nat} {x0 x1 y0 : V} {a : Int} {l : List V} (hd : Dc M pc (.lstore_n 1) 1 pc') (hi : 1 + 1 < mL M) (hL : isL x0 = false) (k : Run d M Q S mi pc' (x0 :: vL a :: vX 0 :: l) st) : Run d M Q S mi pc (x0 :: x1 :: y0 :: l) (vL a :: st) := by
  refine s_lstore_n hd hi (hL_at (i := 0) rfl hL) k
theorem t_i2 {S : Nat × MR × Nat × Nat} {x0 x1 x2 : V} {a : Int} {l : List V} (hd : Dc M pc (.istore_n 2) 1 pc') (hi : 2 < mL M) (hL : isL x1 = false) (k : Run d M Q S mi pc' (x0 :: x1 :: vI a :: l) st) : Run d M Q S mi pc (x0 :: x1 :: x2 :: l) (vI a :: st) := by
  refine s_istore_n hd hi (hL_at (i := 1) rfl hL) k
theorem t_a2 {S : Nat × MR × Nat × Nat} {x0 x1 x2 : V} {a : Ad} {l : List V} (hd : Dc M pc (.astore_n 2) 1 pc') (hi : 2 < mL M) (hL : isL x1 = false) (k : Run d M Q S mi pc' (x0 :: x1 :: vR (some a) :: l) st) : Run d M Q S mi pc (x0 :: x1 :: x2 :: l) (vR (some a) :: st) := by
  refine s_astore_n hd hi (hL_at (i := 1) rfl hL) k
theorem t_n2 {S : Nat × MR × Nat × Nat} {x0 x1 x2 : V}  {l : List V} (hd : Dc M pc (.astore_n 2) 1 pc') (hi : 2 < mL M) (hL : isL x1 = false) (k : Run d M Q S mi pc' (x0 :: x1 :: vR none :: l) st) : Run d M Q S mi pc (x0 :: x1 :: x2 :: l) (vR none :: st) := by
  refine s_astore_nN hd hi (hL_at (i := 1) rfl hL) k
theorem t_inc2 {S : Nat × MR × Nat × Nat} {x0 x1 : V} {a b : Int} {l : List V} (hd : Dc M pc (.iinc 2 b) 3 pc') (hb : (Int32.ofInt b).toInt = b) (hi : 2 < mL M) (hL : isL x1 = false) (k : Run d M Q S mi pc' (x0 :: x1 :: vI (w32 (a + b)) :: l) st) : Run d M Q S mi pc (x0 :: x1 :: vI a :: l) st := by
  refine s_iinc hd rfl hb hi (hL_at (i := 1) rfl hL) k
theorem t_l2 {S : Nat × MR × Nat × Nat} {x0 x1 x2 y0 : V} {a : Int} {l : List V} (hd : Dc M pc (.lstore_n 2) 1 pc') (hi : 2 + 1 < mL M) (hL : isL x1 = false) (k : Run d M Q S mi pc' (x0 :: x1 :: vL a :: vX 0 :: l) st) : Run d M Q S mi pc (x0 :: x1 :: x2 :: y0 :: l) (vL a :: st) := by
  refine s_lstore_n hd hi (hL_at (i := 1) rfl hL) k
theorem t_i3 {S : Nat × MR × Nat × Nat} {x0 x1 x2 x3 : V} {a : Int} {l : List V} (hd : Dc M pc (.istore_n 3) 1 pc') (hi : 3 < mL M) (hL : isL x2 = false) (k : Run d M Q S mi pc' (x0 :: x1 :: x2 :: vI a :: l) st) : Run d M Q S mi pc (x0 :: x1 :: x2 :: x3 :: l) (vI a :: st) := by
  refine s_istore_n hd hi (hL_at (i := 2) rfl hL) k
theorem t_a3 {S : Nat × MR × Nat × Nat} {x0 x1 x2 x3 : V} {a : Ad} {l : List V} (hd : Dc M pc (.astore_n 3) 1 pc') (hi : 3 < mL M) (hL : isL x2 = false) (k : Run d M Q S mi pc' (x0 :: x1 :: x2 :: vR (some a) :: l) st) : Run d M Q S mi pc (x0 :: x1 :: x2 :: x3 :: l) (vR (some a) :: st) := by
  refine s_astore_n hd hi (hL_at (i := 2) rfl hL) k
theorem t_n3 {S : Nat × MR × Nat × Nat} {x0 x1 x2 x3 : V}  {l : List V} (hd : Dc M pc (.astore_n 3) 1 pc') (hi : 3 < mL M) (hL : isL x2 = false) (k : Run d M Q S mi pc' (x0 :: x1 :: x2 :: vR none :: l) st) : Run d M Q S mi pc (x0 :: x1 :: x2 :: x3 :: l) (vR none :: st) := by
  refine s_astore_nN hd hi (hL_at (i := 2) rfl hL) k
theorem t_inc3 {S : Nat × MR × Nat × Nat} {x0 x1 x2 : V} {a b : Int} {l : List V} (hd : Dc M pc (.iinc 3 b) 3 pc') (hb : (Int32.ofInt b).toInt = b) (hi : 3 < mL M) (hL : isL x2 = false) (k : Run d M Q S mi pc' (x0 :: x1 :: x2 :: vI (w32 (a + b)) :: l) st) : Run d M Q S mi pc (x0 :: x1 :: x2 :: vI a :: l) st := by
  refine s_iinc hd rfl hb hi (hL_at (i := 2) rfl hL) k
theorem t_l3 {S : Nat × MR × Nat × Nat} {x0 x1 x2 x3 y0 : V} {a : Int} {l : List V} (hd : Dc M pc (.lstore_n 3) 1 pc') (hi : 3 + 1 < mL M) (hL : isL x2 = false) (k : Run d M Q S mi pc' (x0 :: x1 :: x2 :: vL a :: vX 0 :: l) st) : Run d M Q S mi pc (x0 :: x1 :: x2 :: x3 :: y0 :: l) (vL a :: st) := by
  refine s_lstore_n hd hi (hL_at (i := 2) rfl hL) k
theorem t_i4 {S : Nat × MR × Nat × Nat} {x0 x1 x2 x3 x4 : V} {a : Int} {l : List V} (hd : Dc M pc (.istore 4) 2 pc') (hi : 4 < mL M) (hL : isL x3 = false) (k : Run d M Q S mi pc' (x0 :: x1 :: x2 :: x3 :: vI a :: l) st) : Run d M Q S mi pc (x0 :: x1 :: x2 :: x3 :: x4 :: l) (vI a :: st) := by
  refine s_istore hd hi (hL_at (i := 3) rfl hL) k
theorem t_a4 {S : Nat × MR × Nat × Nat} {x0 x1 x2 x3 x4 : V} {a : Ad} {l : List V} (hd : Dc M pc (.astore 4) 2 pc') (hi : 4 < mL M) (hL : isL x3 = false) (k : Run d M Q S mi pc' (x0 :: x1 :: x2 :: x3 :: vR (some a) :: l) st) : Run d M Q S mi pc (x0 :: x1 :: x2 :: x3 :: x4 :: l) (vR (some a) :: st) := by
  refine s_astore hd hi (hL_at (i := 3) rfl hL) k
theorem t_n4 {S : Nat × MR × Nat × Nat} {x0 x1 x2 x3 x4 : V}  {l : List V} (hd : Dc M pc (.astore 4) 2 pc') (hi : 4 < mL M) (hL : isL x3 = false) (k : Run d M Q S mi pc' (x0 :: x1 :: x2 :: x3 :: vR none :: l) st) : Run d M Q S mi pc (x0 :: x1 :: x2 :: x3 :: x4 :: l) (vR none :: st) := by
  refine s_astoreN hd hi (hL_at (i := 3) rfl hL) k
theorem t_inc4 {S : Nat × MR × Nat × Nat} {x0 x1 x2 x3 : V} {a b : Int} {l : List V} (hd : Dc M pc (.iinc 4 b) 3 pc') (hb : (Int32.ofInt b).toInt = b) (hi : 4 < mL M) (hL : isL x3 = false) (k : Run d M Q S mi pc' (x0 :: x1 :: x2 :: x3 :: vI (w32 (a + b)) :: l) st) : Run d M Q S mi pc (x0 :: x1 :: x2 :: x3 :: vI a :: l) st := by
  refine s_iinc hd rfl hb hi (hL_at (i := 3) rfl hL) k
theorem t_l4 {S : Nat × MR × Nat × Nat} {x0 x1 x2 x3 x4 y0 : V} {a : Int} {l : List V} (hd : Dc M pc (.lstore 4) 2 pc') (hi : 4 + 1 < mL M) (hL : isL x3 = false) (k : Run d M Q S mi pc' (x0 :: x1 :: x2 :: x3 :: vL a :: vX 0 :: l) st) : Run d M Q S mi pc (x0 :: x1 :: x2 :: x3 :: x4 :: y0 :: l) (vL a :: st) := by
  refine s_lstore hd hi (hL_at (i := 3) rfl hL) k
theorem t_i5 {S : Nat × MR × Nat × Nat} {x0 x1 x2 x3 x4 x5 : V} {a : Int} {l : List V} (hd : Dc M pc (.istore 5) 2 pc') (hi : 5 < mL M) (hL : isL x4 = false) (k : Run d M Q S mi pc' (x0 :: x1 :: x2 :: x3 :: x4 :: vI a :: l) st) : Run d M Q S mi pc (x0 :: x1 :: x2 :: x3 :: x4 :: x5 :: l) (vI a :: st) := by
  refine s_istore hd hi (hL_at (i := 4) rfl hL) k
theorem t_a5 {S : Nat × MR × Nat × Nat} {x0 x1 x2 x3 x4 x5 : V} {a : Ad} {l : List V} (hd : Dc M pc (.astore 5) 2 pc') (hi : 5 < mL M) (hL : isL x4 = false) (k : Run d M Q S mi pc' (x0 :: x1 :: x2 :: x3 :: x4 :: vR (some a) :: l) st) : Run d M Q S mi pc (x0 :: x1 :: x2 :: x3 :: x4 :: x5 :: l) (vR (some a) :: st) := by
  refine s_astore hd hi (hL_at (i := 4) rfl hL) k
theorem t_n5 {S : Nat × MR × Nat × Nat} {x0 x1 x2 x3 x4 x5 : V}  {l : List V} (hd : Dc M pc (.astore 5) 2 pc') (hi : 5 < mL M) (hL : isL x4 = false) (k : Run d M Q S mi pc' (x0 :: x1 :: x2 :: x3 :: x4 :: vR none :: l) st) : Run d M Q S mi pc (x0 :: x1 :: x2 :: x3 :: x4 :: x5 :: l) (vR none :: st) := by
  refine s_astoreN hd hi (hL_at (i := 4) rfl hL) k
theorem t_inc5 {S : Nat × MR × Nat × Nat} {x0 x1 x2 x3 x4 : V} {a b : Int} {l : List V} (hd : Dc M pc (.iinc 5 b) 3 pc') (hb : (Int32.ofInt b).toInt = b) (hi : 5 < mL M) (hL : isL x4 = false) (k : Run d M Q S mi pc' (x0 :: x1 :: x2 :: x3 :: x4 :: vI (w32 (a + b)) :: l) st) : Run d M Q S mi pc (x0 :: x1 :: x2 :: x3 :: x4 :: vI a :: l) st := by
  refine s_iinc hd rfl hb hi (hL_at (i := 4) rfl hL) k
theorem t_l5 {S : Nat × MR × Nat × Nat} {x0 x1 x2 x3 x4 x5 y0 : V} {a : Int} {l : List V} (hd : Dc M pc (.lstore 5) 2 pc') (hi : 5 + 1 < mL M) (hL : isL x4 = false) (k : Run d M Q S mi pc' (x0 :: x1 :: x2 :: x3 :: x4 :: vL a :: vX 0 :: l) st) : Run d M Q S mi pc (x0 :: x1 :: x2 :: x3 :: x4 :: x5 :: y0 :: l) (vL a :: st) := by
  refine s_lstore hd hi (hL_at (i := 4) rfl hL) k
theorem t_i6 {S : Nat × MR × Nat × Nat} {x0 x1 x2 x3 x4 x5 x6 : V} {a : Int} {l : List V} (hd : Dc M pc (.istore 6) 2 pc') (hi : 6 < mL M) (hL : isL x5 = false) (k : Run d M Q S mi pc' (x0 :: x1 :: x2 :: x3 :: x4 :: x5 :: vI a :: l) st) : Run d M Q S mi pc (x0 :: x1 :: x2 :: x3 :: x4 :: x5 :: x6 :: l) (vI a :: st) := by
  refine s_istore hd hi (hL_at (i := 5) rfl hL) k
theorem t_a6 {S : Nat × MR × Nat × Nat} {x0 x1 x2 x3 x4 x5 x6 : V} {a : Ad} {l : List V} (hd : Dc M pc (.astore 6) 2 pc') (hi : 6 < mL M) (hL : isL x5 = false) (k : Run d M Q S mi pc' (x0 :: x1 :: x2 :: x3 :: x4 :: x5 :: vR (some a) :: l) st) : Run d M Q S mi pc (x0 :: x1 :: x2 :: x3 :: x4 :: x5 :: x6 :: l) (vR (some a) :: st) := by
  refine s_astore hd hi (hL_at (i := 5) rfl hL) k
theorem t_n6 {S : Nat × MR × Nat × Nat} {x0 x1 x2 x3 x4 x5 x6 : V}  {l : List V} (hd : Dc M pc (.astore 6) 2 pc') (hi : 6 < mL M) (hL : isL x5 = false) (k : Run d M Q S mi pc' (x0 :: x1 :: x2 :: x3 :: x4 :: x5 :: vR none :: l) st) : Run d M Q S mi pc (x0 :: x1 :: x2 :: x3 :: x4 :: x5 :: x6 :: l) (vR none :: st) := by
  refine s_astoreN hd hi (hL_at (i := 5) rfl hL) k
theorem t_inc6 {S : Nat × MR × Nat × Nat} {x0 x1 x2 x3 x4 x5 : V} {a b : Int} {l : List V} (hd : Dc M pc (.iinc 6 b) 3 pc') (hb : (Int32.ofInt b).toInt = b) (hi : 6 < mL M) (hL : isL x5 = false) (k : Run d M Q S mi pc' (x0 :: x1 :: x2 :: x3 :: x4 :: x5 :: vI (w32 (a + b)) :: l) st) : Run d M Q S mi pc (x0 :: x1 :: x2 :: x3 :: x4 :: x5 :: vI a :: l) st := by
  refine s_iinc hd rfl hb hi (hL_at (i := 5) rfl hL) k
theorem t_l6 {S : Nat × MR × Nat × Nat} {x0 x1 x2 x3 x4 x5 x6 y0 : V} {a : Int} {l : List V} (hd : Dc M pc (.lstore 6) 2 pc') (hi : 6 + 1 < mL M) (hL : isL x5 = false) (k : Run d M Q S mi pc' (x0 :: x1 :: x2 :: x3 :: x4 :: x5 :: vL a :: vX 0 :: l) st) : Run d M Q S mi pc (x0 :: x1 :: x2 :: x3 :: x4 :: x5 :: x6 :: y0 :: l) (vL a :: st) := by
  refine s_lstore hd hi (hL_at (i := 5) rfl hL) k
theorem t_i7 {S : Nat × MR × Nat × Nat} {x0 x1 x2 x3 x4 x5 x6 x7 : V} {a : Int} {l : List V} (hd : Dc M pc (.istore 7) 2 pc') (hi : 7 < mL M) (hL : isL x6 = false) (k : Run d M Q S mi pc' (x0 :: x1 :: x2 :: x3 :: x4 :: x5 :: x6 :: vI a :: l) st) : Run d M Q S mi pc (x0 :: x1 :: x2 :: x3 :: x4 :: x5 :: x6 :: x7 :: l) (vI a :: st) := by
  refine s_istore hd hi (hL_at (i := 6) rfl hL) k
theorem t_a7 {S : Nat × MR × Nat × Nat} {x0 x1 x2 x3 x4 x5 x6 x7 : V} {a : Ad} {l : List V} (hd : Dc M pc (.astore 7) 2 pc') (hi : 7 < mL M) (hL : isL x6 = false) (k : Run d M Q S mi pc' (x0 :: x1 :: x2 :: x3 :: x4 :: x5 :: x6 :: vR (some a) :: l) st) : Run d M Q S mi pc (x0 :: x1 :: x2 :: x3 :: x4 :: x5 :: x6 :: x7 :: l) (vR (some a) :: st) := by
  refine s_astore hd hi (hL_at (i := 6) rfl hL) k
theorem t_n7 {S : Nat × MR × Nat × Nat} {x0 x1 x2 x3 x4 x5 x6 x7 : V}  {l : List V} (hd : Dc M pc (.astore 7) 2 pc') (hi : 7 < mL M) (hL : isL x6 = false) (k : Run d M Q S mi pc' (x0 :: x1 :: x2 :: x3 :: x4 :: x5 :: x6 :: vR none :: l) st) : Run d M Q S mi pc (x0 :: x1 :: x2 :: x3 :: x4 :: x5 :: x6 :: x7 :: l) (vR none :: st) := by
  refine s_astoreN hd hi (hL_at (i := 6) rfl hL) k
theorem t_inc7 {S : Nat × MR × Nat × Nat} {x0 x1 x2 x3 x4 x5 x6 : V} {a b : Int} {l : List V} (hd : Dc M pc (.iinc 7 b) 3 pc') (hb : (Int32.ofInt b).toInt = b) (hi : 7 < mL M) (hL : isL x6 = false) (k : Run d M Q S mi pc' (x0 :: x1 :: x2 :: x3 :: x4 :: x5 :: x6 :: vI (w32 (a + b)) :: l) st) : Run d M Q S mi pc (x0 :: x1 :: x2 :: x3 :: x4 :: x5 :: x6 :: vI a :: l) st := by
  refine s_iinc hd rfl hb hi (hL_at (i := 6) rfl hL) k
theorem t_l7 {S : Nat × MR × Nat × Nat} {x0 x1 x2 x3 x4 x5 x6 x7 y0 : V} {a : Int} {l : List V} (hd : Dc M pc (.lstore 7) 2 pc') (hi : 7 + 1 < mL M) (hL : isL x6 = false) (k : Run d M Q S mi pc' (x0 :: x1 :: x2 :: x3 :: x4 :: x5 :: x6 :: vL a :: vX 0 :: l) st) : Run d M Q S mi pc (x0 :: x1 :: x2 :: x3 :: x4 :: x5 :: x6 :: x7 :: y0 :: l) (vL a :: st) := by
  refine s_lstore hd hi (hL_at (i := 6) rfl hL) k
theorem t_i8 {S : Nat × MR × Nat × Nat} {x0 x1 x2 x3 x4 x5 x6 x7 x8 : V} {a : Int} {l : List V} (hd : Dc M pc (.istore 8) 2 pc') (hi : 8 < mL M) (hL : isL x7 = false) (k : Run d M Q S mi pc' (x0 :: x1 :: x2 :: x3 :: x4 :: x5 :: x6 :: x7 :: vI a :: l) st) : Run d M Q S mi pc (x0 :: x1 :: x2 :: x3 :: x4 :: x5 :: x6 :: x7 :: x8 :: l) (vI a :: st) := by
  refine s_istore hd hi (hL_at (i := 7) rfl hL) k
theorem t_a8 {S : Nat × MR × Nat × Nat} {x0 x1 x2 x3 x4 x5 x6 x7 x8 : V} {a : Ad} {l : List V} (hd : Dc M pc (.astore 8) 2 pc') (hi : 8 < mL M) (hL : isL x7 = false) (k : Run d M Q S mi pc' (x0 :: x1 :: x2 :: x3 :: x4 :: x5 :: x6 :: x7 :: vR (some a) :: l) st) : Run d M Q S mi pc (x0 :: x1 :: x2 :: x3 :: x4 :: x5 :: x6 :: x7 :: x8 :: l) (vR (some a) :: st) := by
  refine s_astore hd hi (hL_at (i := 7) rfl hL) k
theorem t_n8 {S : Nat × MR × Nat × Nat} {x0 x1 x2 x3 x4 x5 x6 x7 x8 : V}  {l : List V} (hd : Dc M pc (.astore 8) 2 pc') (hi : 8 < mL M) (hL : isL x7 = false) (k : Run d M Q S mi pc' (x0 :: x1 :: x2 :: x3 :: x4 :: x5 :: x6 :: x7 :: vR none :: l) st) : Run d M Q S mi pc (x0 :: x1 :: x2 :: x3 :: x4 :: x5 :: x6 :: x7 :: x8 :: l) (vR none :: st) := by
  refine s_astoreN hd hi (hL_at (i := 7) rfl hL) k
theorem t_inc8 {S : Nat × MR × Nat × Nat} {x0 x1 x2 x3 x4 x5 x6 x7 : V} {a b : Int} {l : List V} (hd : Dc M pc (.iinc 8 b) 3 pc') (hb : (Int32.ofInt b).toInt = b) (hi : 8 < mL M) (hL : isL x7 = false) (k : Run d M Q S mi pc' (x0 :: x1 :: x2 :: x3 :: x4 :: x5 :: x6 :: x7 :: vI (w32 (a + b)) :: l) st) : Run d M Q S mi pc (x0 :: x1 :: x2 :: x3 :: x4 :: x5 :: x6 :: x7 :: vI a :: l) st := by
  refine s_iinc hd rfl hb hi (hL_at (i := 7) rfl hL) k
theorem t_l8 {S : Nat × MR × Nat × Nat} {x0 x1 x2 x3 x4 x5 x6 x7 x8 y0 : V} {a : Int} {l : List V} (hd : Dc M pc (.lstore 8) 2 pc') (hi : 8 + 1 < mL M) (hL : isL x7 = false) (k : Run d M Q S mi pc' (x0 :: x1 :: x2 :: x3 :: x4 :: x5 :: x6 :: x7 :: vL a :: vX 0 :: l) st) : Run d M Q S mi pc (x0 :: x1 :: x2 :: x3 :: x4 :: x5 :: x6 :: x7 :: x8 :: y0 :: l) (vL a :: st) := by
  refine s_lstore hd hi (hL_at (i := 7) rfl hL) k
theorem t_i9 {S : Nat × MR × Nat × Nat} {x0 x1 x2 x3 x4 x5 x6 x7 x8 x9 : V} {a : Int} {l : List V} (hd : Dc M pc (.istore 9) 2 pc') (hi : 9 < mL M) (hL : isL x8 = false) (k : Run d M Q S mi pc' (x0 :: x1 :: x2 :: x3 :: x4 :: x5 :: x6 :: x7 :: x8 :: vI a :: l) st) : Run d M Q S mi pc (x0 :: x1 :: x2 :: x3 :: x4 :: x5 :: x6 :: x7 :: x8 :: x9 :: l) (vI a :: st) := by
  refine s_istore hd hi (hL_at (i := 8) rfl hL) k
theorem t_a9 {S : Nat × MR × Nat × Nat} {x0 x1 x2 x3 x4 x5 x6 x7 x8 x9 : V} {a : Ad} {l : List V} (hd : Dc M pc (.astore 9) 2 pc') (hi : 9 < mL M) (hL : isL x8 = false) (k : Run d M Q S mi pc' (x0 :: x1 :: x2 :: x3 :: x4 :: x5 :: x6 :: x7 :: x8 :: vR (some a) :: l) st) : Run d M Q S mi pc (x0 :: x1 :: x2 :: x3 :: x4 :: x5 :: x6 :: x7 :: x8 :: x9 :: l) (vR (some a) :: st) := by
  refine s_astore hd hi (hL_at (i := 8) rfl hL) k
theorem t_n9 {S : Nat × MR × Nat × Nat} {x0 x1 x2 x3 x4 x5 x6 x7 x8 x9 : V}  {l : List V} (hd : Dc M pc (.astore 9) 2 pc') (hi : 9 < mL M) (hL : isL x8 = false) (k : Run d M Q S mi pc' (x0 :: x1 :: x2 :: x3 :: x4 :: x5 :: x6 :: x7 :: x8 :: vR none :: l) st) : Run d M Q S mi pc (x0 :: x1 :: x2 :: x3 :: x4 :: x5 :: x6 :: x7 :: x8 :: x9 :: l) (vR none :: st) := by
  refine s_astoreN hd hi (hL_at (i := 8) rfl hL) k
theorem t_inc9 {S : Nat × MR × Nat × Nat} {x0 x1 x2 x3 x4 x5 x6 x7 x8 : V} {a b : Int} {l : List V} (hd : Dc M pc (.iinc 9 b) 3 pc') (hb : (Int32.ofInt b).toInt = b) (hi : 9 < mL M) (hL : isL x8 = false) (k : Run d M Q S mi pc' (x0 :: x1 :: x2 :: x3 :: x4 :: x5 :: x6 :: x7 :: x8 :: vI (w32 (a + b)) :: l) st) : Run d M Q S mi pc (x0 :: x1 :: x2 :: x3 :: x4 :: x5 :: x6 :: x7 :: x8 :: vI a :: l) st := by
  refine s_iinc hd rfl hb hi (hL_at (i := 8) rfl hL) k
theorem t_l9 {S : Nat × MR × Nat × Nat} {x0 x1 x2 x3 x4 x5 x6 x7 x8 x9 y0 : V} {a : Int} {l : List V} (hd : Dc M pc (.lstore 9) 2 pc') (hi : 9 + 1 < mL M) (hL : isL x8 = false) (k : Run d M Q S mi pc' (x0 :: x1 :: x2 :: x3 :: x4 :: x5 :: x6 :: x7 :: x8 :: vL a :: vX 0 :: l) st) : Run d M Q S mi pc (x0 :: x1 :: x2 :: x3 :: x4 :: x5 :: x6 :: x7 :: x8 :: x9 :: y0 :: l) (vL a :: st) := by
  refine s_lstore hd hi (hL_at (i := 8) rfl hL) k
theorem t_i10 {S : Nat × MR × Nat × Nat} {x0 x1 x2 x3 x4 x5 x6 x7 x8 x9 x10 : V} {a : Int} {l : List V} (hd : Dc M pc (.istore 10) 2 pc') (hi : 10 < mL M) (hL : isL x9 = false) (k : Run d M Q S mi pc' (x0 :: x1 :: x2 :: x3 :: x4 :: x5 :: x6 :: x7 :: x8 :: x9 :: vI a :: l) st) : Run d M Q S mi pc (x0 :: x1 :: x2 :: x3 :: x4 :: x5 :: x6 :: x7 :: x8 :: x9 :: x10 :: l) (vI a :: st) := by
  refine s_istore hd hi (hL_at (i := 9) rfl hL) k
theorem t_a10 {S : Nat × MR × Nat × Nat} {x0 x1 x2 x3 x4 x5 x6 x7 x8 x9 x10 : V} {a : Ad} {l : List V} (hd : Dc M pc (.astore 10) 2 pc') (hi : 10 < mL M) (hL : isL x9 = false) (k : Run d M Q S mi pc' (x0 :: x1 :: x2 :: x3 :: x4 :: x5 :: x6 :: x7 :: x8 :: x9 :: vR (some a) :: l) st) : Run d M Q S mi pc (x0 :: x1 :: x2 :: x3 :: x4 :: x5 :: x6 :: x7 :: x8 :: x9 :: x10 :: l) (vR (some a) :: st) := by
  refine s_astore hd hi (hL_at (i := 9) rfl hL) k
theorem t_n10 {S : Nat × MR × Nat × Nat} {x0 x1 x2 x3 x4 x5 x6 x7 x8 x9 x10 : V}  {l : List V} (hd : Dc M pc (.astore 10) 2 pc') (hi : 10 < mL M) (hL : isL x9 = false) (k : Run d M Q S mi pc' (x0 :: x1 :: x2 :: x3 :: x4 :: x5 :: x6 :: x7 :: x8 :: x9 :: vR none :: l) st) : Run d M Q S mi pc (x0 :: x1 :: x2 :: x3 :: x4 :: x5 :: x6 :: x7 :: x8 :: x9 :: x10 :: l) (vR none :: st) := by
  refine s_astoreN hd hi (hL_at (i := 9) rfl hL) k
theorem t_inc10 {S : Nat × MR × Nat × Nat} {x0 x1 x2 x3 x4 x5 x6 x7 x8 x9 : V} {a b : Int} {l : List V} (hd : Dc M pc (.iinc 10 b) 3 pc') (hb : (Int32.ofInt b).toInt = b) (hi : 10 < mL M) (hL : isL x9 = false) (k : Run d M Q S mi pc' (x0 :: x1 :: x2 :: x3 :: x4 :: x5 :: x6 :: x7 :: x8 :: x9 :: vI (w32 (a + b)) :: l) st) : Run d M Q S mi pc (x0 :: x1 :: x2 :: x3 :: x4 :: x5 :: x6 :: x7 :: x8 :: x9 :: vI a :: l) st := by
  refine s_iinc hd rfl hb hi (hL_at (i := 9) rfl hL) k
theorem t_l10 {S : Nat × MR × Nat × Nat} {x0 x1 x2 x3 x4 x5 x6 x7 x8 x9 x10 y0 : V} {a : Int} {l : List V} (hd : Dc M pc (.lstore 10) 2 pc') (hi : 10 + 1 < mL M) (hL : isL x9 = false) (k : Run d M Q S mi pc' (x0 :: x1 :: x2 :: x3 :: x4 :: x5 :: x6 :: x7 :: x8 :: x9 :: vL a :: vX 0 :: l) st) : Run d M Q S mi pc (x0 :: x1 :: x2 :: x3 :: x4 :: x5 :: x6 :: x7 :: x8 :: x9 :: x10 :: y0 :: l) (vL a :: st) := by
  refine s_lstore hd hi (hL_at (i := 9) rfl hL) k
theorem t_i11 {S : Nat × MR × Nat × Nat} {x0 x1 x2 x3 x4 x5 x6 x7 x8 x9 x10 x11 : V} {a : Int} {l : List V} (hd : Dc M pc (.istore 11) 2 pc') (hi : 11 < mL M) (hL : isL x10 = false) (k : Run d M Q S mi pc' (x0 :: x1 :: x2 :: x3 :: x4 :: x5 :: x6 :: x7 :: x8 :: x9 :: x10 :: vI a :: l) st) : Run d M Q S mi pc (x0 :: x1 :: x2 :: x3 :: x4 :: x5 :: x6 :: x7 :: x8 :: x9 :: x10 :: x11 :: l) (vI a :: st) := by
  refine s_istore hd hi (hL_at (i := 10) rfl hL) k
theorem t_a11 {S : Nat × MR × Nat × Nat} {x0 x1 x2 x3 x4 x5 x6 x7 x8 x9 x10 x11 : V} {a : Ad} {l : List V} (hd : Dc M pc (.astore 11) 2 pc') (hi : 11 < mL M) (hL : isL x10 = false) (k : Run d M Q S mi pc' (x0 :: x1 :: x2 :: x3 :: x4 :: x5 :: x6 :: x7 :: x8 :: x9 :: x10 :: vR (some a) :: l) st) : Run d M Q S mi pc (x0 :: x1 :: x2 :: x3 :: x4 :: x5 :: x6 :: x7 :: x8 :: x9 :: x10 :: x11 :: l) (vR (some a) :: st) := by
  refine s_astore hd hi (hL_at (i := 10) rfl hL) k
theorem t_n11 {S : Nat × MR × Nat × Nat} {x0 x1 x2 x3 x4 x5 x6 x7 x8 x9 x10 x11 : V}  {l : List V} (hd : Dc M pc (.astore 11) 2 pc') (hi : 11 < mL M) (hL : isL x10 = false) (k : Run d M Q S mi pc' (x0 :: x1 :: x2 :: x3 :: x4 :: x5 :: x6 :: x7 :: x8 :: x9 :: x10 :: vR none :: l) st) : Run d M Q S mi pc (x0 :: x1 :: x2 :: x3 :: x4 :: x5 :: x6 :: x7 :: x8 :: x9 :: x10 :: x11 :: l) (vR none :: st) := by
  refine s_astoreN hd hi (hL_at (i := 10) rfl hL) k
theorem t_inc11 {S : Nat × MR × Nat × Nat} {x0 x1 x2 x3 x4 x5 x6 x7 x8 x9 x10 : V} {a b : Int} {l : List V} (hd : Dc M pc (.iinc 11 b) 3 pc') (hb : (Int32.ofInt b).toInt = b) (hi : 11 < mL M) (hL : isL x10 = false) (k : Run d M Q S mi pc' (x0 :: x1 :: x2 :: x3 :: x4 :: x5 :: x6 :: x7 :: x8 :: x9 :: x10 :: vI (w32 (a + b)) :: l) st) : Run d M Q S mi pc (x0 :: x1 :: x2 :: x3 :: x4 :: x5 :: x6 :: x7 :: x8 :: x9 :: x10 :: vI a :: l) st := by
  refine s_iinc hd rfl hb hi (hL_at (i := 10) rfl hL) k
theorem t_l11 {S : Nat × MR × Nat × Nat} {x0 x1 x2 x3 x4 x5 x6 x7 x8 x9 x10 x11 y0 : V} {a : Int} {l : List V} (hd : Dc M pc (.lstore 11) 2 pc') (hi : 11 + 1 < mL M) (hL : isL x10 = false) (k : Run d M Q S mi pc' (x0 :: x1 :: x2 :: x3 :: x4 :: x5 :: x6 :: x7 :: x8 :: x9 :: x10 :: vL a :: vX 0 :: l) st) : Run d M Q S mi pc (x0 :: x1 :: x2 :: x3 :: x4 :: x5 :: x6 :: x7 :: x8 :: x9 :: x10 :: x11 :: y0 :: l) (vL a :: st) := by
  refine s_lstore hd hi (hL_at (i := 10) rfl hL) k
theorem t_i12 {S : Nat × MR × Nat × Nat} {x0 x1 x2 x3 x4 x5 x6 x7 x8 x9 x10 x11 x12 : V} {a : Int} {l : List V} (hd : Dc M pc (.istore 12) 2 pc') (hi : 12 < mL M) (hL : isL x11 = false) (k : Run d M Q S mi pc' (x0 :: x1 :: x2 :: x3 :: x4 :: x5 :: x6 :: x7 :: x8 :: x9 :: x10 :: x11 :: vI a :: l) st) : Run d M Q S mi pc (x0 :: x1 :: x2 :: x3 :: x4 :: x5 :: x6 :: x7 :: x8 :: x9 :: x10 :: x11 :: x12 :: l) (vI a :: st) := by
  refine s_istore hd hi (hL_at (i := 11) rfl hL) k
theorem t_a12 {S : Nat × MR × Nat × Nat} {x0 x1 x2 x3 x4 x5 x6 x7 x8 x9 x10 x11 x12 : V} {a : Ad} {l : List V} (hd : Dc M pc (.astore 12) 2 pc') (hi : 12 < mL M) (hL : isL x11 = false) (k : Run d M Q S mi pc' (x0 :: x1 :: x2 :: x3 :: x4 :: x5 :: x6 :: x7 :: x8 :: x9 :: x10 :: x11 :: vR (some a) :: l) st) : Run d M Q S mi pc (x0 :: x1 :: x2 :: x3 :: x4 :: x5 :: x6 :: x7 :: x8 :: x9 :: x10 :: x11 :: x12 :: l) (vR (some a) :: st) := by
  refine s_astore hd hi (hL_at (i := 11) rfl hL) k
theorem t_n12 {S : Nat × MR × Nat × Nat} {x0 x1 x2 x3 x4 x5 x6 x7 x8 x9 x10 x11 x12 : V}  {l : List V} (hd : Dc M pc (.astore 12) 2 pc') (hi : 12 < mL M) (hL : isL x11 = false) (k : Run d M Q S mi pc' (x0 :: x1 :: x2 :: x3 :: x4 :: x5 :: x6 :: x7 :: x8 :: x9 :: x10 :: x11 :: vR none :: l) st) : Run d M Q S mi pc (x0 :: x1 :: x2 :: x3 :: x4 :: x5 :: x6 :: x7 :: x8 :: x9 :: x10 :: x11 :: x12 :: l) (vR none :: st) := by
  refine s_astoreN hd hi (hL_at (i := 11) rfl hL) k
theorem t_inc12 {S : Nat × MR × Nat × Nat} {x0 x1 x2 x3 x4 x5 x6 x7 x8 x9 x10 x11 : V} {a b : Int} {l : List V} (hd : Dc M pc (.iinc 12 b) 3 pc') (hb : (Int32.ofInt b).toInt = b) (hi : 12 < mL M) (hL : isL x11 = false) (k : Run d M Q S mi pc' (x0 :: x1 :: x2 :: x3 :: x4 :: x5 :: x6 :: x7 :: x8 :: x9 :: x10 :: x11 :: vI (w32 (a + b)) :: l) st) : Run d M Q S mi pc (x0 :: x1 :: x2 :: x3 :: x4 :: x5 :: x6 :: x7 :: x8 :: x9 :: x10 :: x11 :: vI a :: l) st := by
  refine s_iinc hd rfl hb hi (hL_at (i := 11) rfl hL) k
theorem t_l12 {S : Nat × MR × Nat × Nat} {x0 x1 x2 x3 x4 x5 x6 x7 x8 x9 x10 x11 x12 y0 : V} {a : Int} {l : List V} (hd : Dc M pc (.lstore 12) 2 pc') (hi : 12 + 1 < mL M) (hL : isL x11 = false) (k : Run d M Q S mi pc' (x0 :: x1 :: x2 :: x3 :: x4 :: x5 :: x6 :: x7 :: x8 :: x9 :: x10 :: x11 :: vL a :: vX 0 :: l) st) : Run d M Q S mi pc (x0 :: x1 :: x2 :: x3 :: x4 :: x5 :: x6 :: x7 :: x8 :: x9 :: x10 :: x11 :: x12 :: y0 :: l) (vL a :: st) := by
  refine s_lstore hd hi (hL_at (i := 11) rfl hL) k
theorem t_i13 {S : Nat × MR × Nat × Nat} {x0 x1 x2 x3 x4 x5 x6 x7 x8 x9 x10 x11 x12 x13 : V} {a : Int} {l : List V} (hd : Dc M pc (.istore 13) 2 pc') (hi : 13 < mL M) (hL : isL x12 = false) (k : Run d M Q S mi pc' (x0 :: x1 :: x2 :: x3 :: x4 :: x5 :: x6 :: x7 :: x8 :: x9 :: x10 :: x11 :: x12 :: vI a :: l) st) : Run d M Q S mi pc (x0 :: x1 :: x2 :: x3 :: x4 :: x5 :: x6 :: x7 :: x8 :: x9 :: x10 :: x11 :: x12 :: x13 :: l) (vI a :: st) := by
  refine s_istore hd hi (hL_at (i := 12) rfl hL) k
theorem t_a13 {S : Nat × MR × Nat × Nat} {x0 x1 x2 x3 x4 x5 x6 x7 x8 x9 x10 x11 x12 x13 : V} {a : Ad} {l : List V} (hd : Dc M pc (.astore 13) 2 pc') (hi : 13 < mL M) (hL : isL x12 = false) (k : Run d M Q S mi pc' (x0 :: x1 :: x2 :: x3 :: x4 :: x5 :: x6 :: x7 :: x8 :: x9 :: x10 :: x11 :: x12 :: vR (some a) :: l) st) : Run d M Q S mi pc (x0 :: x1 :: x2 :: x3 :: x4 :: x5 :: x6 :: x7 :: x8 :: x9 :: x10 :: x11 :: x12 :: x13 :: l) (vR (some a) :: st) := by
  refine s_astore hd hi (hL_at (i := 12) rfl hL) k
theorem t_n13 {S : Nat × MR × Nat × Nat} {x0 x1 x2 x3 x4 x5 x6 x7 x8 x9 x10 x11 x12 x13 : V}  {l : List V} (hd : Dc M pc (.astore 13) 2 pc') (hi : 13 < mL M) (hL : isL x12 = false) (k : Run d M Q S mi pc' (x0 :: x1 :: x2 :: x3 :: x4 :: x5 :: x6 :: x7 :: x8 :: x9 :: x10 :: x11 :: x12 :: vR none :: l) st) : Run d M Q S mi pc (x0 :: x1 :: x2 :: x3 :: x4 :: x5 :: x6 :: x7 :: x8 :: x9 :: x10 :: x11 :: x12 :: x13 :: l) (vR none :: st) := by
  refine s_astoreN hd hi (hL_at (i := 12) rfl hL) k
theorem t_inc13 {S : Nat × MR × Nat × Nat} {x0 x1 x2 x3 x4 x5 x6 x7 x8 x9 x10 x11 x12 : V} {a b : Int} {l : List V} (hd : Dc M pc (.iinc 13 b) 3 pc') (hb : (Int32.ofInt b).toInt = b) (hi : 13 < mL M) (hL : isL x12 = false) (k : Run d M Q S mi pc' (x0 :: x1 :: x2 :: x3 :: x4 :: x5 :: x6 :: x7 :: x8 :: x9 :: x10 :: x11 :: x12 :: vI (w32 (a + b)) :: l) st) : Run d M Q S mi pc (x0 :: x1 :: x2 :: x3 :: x4 :: x5 :: x6 :: x7 :: x8 :: x9 :: x10 :: x11 :: x12 :: vI a :: l) st := by
  refine s_iinc hd rfl hb hi (hL_at (i := 12) rfl hL) k
theorem t_l13 {S : Nat × MR × Nat × Nat} {x0 x1 x2 x3 x4 x5 x6 x7 x8 x9 x10 x11 x12 x13 y0 : V} {a : Int} {l : List V} (hd : Dc M pc (.lstore 13) 2 pc') (hi : 13 + 1 < mL M) (hL : isL x12 = false) (k : Run d M Q S mi pc' (x0 :: x1 :: x2 :: x3 :: x4 :: x5 :: x6 :: x7 :: x8 :: x9 :: x10 :: x11 :: x12 :: vL a :: vX 0 :: l) st) : Run d M Q S mi pc (x0 :: x1 :: x2 :: x3 :: x4 :: x5 :: x6 :: x7 :: x8 :: x9 :: x10 :: x11 :: x12 :: x13 :: y0 :: l) (vL a :: st) := by
  refine s_lstore hd hi (hL_at (i := 12) rfl hL) k
theorem t_i14 {S : Nat × MR × Nat × Nat} {x0 x1 x2 x3 x4 x5 x6 x7 x8 x9 x10 x11 x12 x13 x14 : V} {a : Int} {l : List V} (hd : Dc M pc (.istore 14) 2 pc') (hi : 14 < mL M) (hL : isL x13 = false) (k : Run d M Q S mi pc' (x0 :: x1 :: x2 :: x3 :: x4 :: x5 :: x6 :: x7 :: x8 :: x9 :: x10 :: x11 :: x12 :: x13 :: vI a :: l) st) : Run d M Q S mi pc (x0 :: x1 :: x2 :: x3 :: x4 :: x5 :: x6 :: x7 :: x8 :: x9 :: x10 :: x11 :: x12 :: x13 :: x14 :: l) (vI a :: st) := by
  refine s_istore hd hi (hL_at (i := 13) rfl hL) k
theorem t_a14 {S : Nat × MR × Nat × Nat} {x0 x1 x2 x3 x4 x5 x6 x7 x8 x9 x10 x11 x12 x13 x14 : V} {a : Ad} {l : List V} (hd : Dc M pc (.astore 14) 2 pc') (hi : 14 < mL M) (hL : isL x13 = false) (k : Run d M Q S mi pc' (x0 :: x1 :: x2 :: x3 :: x4 :: x5 :: x6 :: x7 :: x8 :: x9 :: x10 :: x11 :: x12 :: x13 :: vR (some a) :: l) st) : Run d M Q S mi pc (x0 :: x1 :: x2 :: x3 :: x4 :: x5 :: x6 :: x7 :: x8 :: x9 :: x10 :: x11 :: x12 :: x13 :: x14 :: l) (vR (some a) :: st) := by
  refine s_astore hd hi (hL_at (i := 13) rfl hL) k
theorem t_n14 {S : Nat × MR × Nat × Nat} {x0 x1 x2 x3 x4 x5 x6 x7 x8 x9 x10 x11 x12 x13 x14 : V}  {l : List V} (hd : Dc M pc (.astore 14) 2 pc') (hi : 14 < mL M) (hL : isL x13 = false) (k : Run d M Q S mi pc' (x0 :: x1 :: x2 :: x3 :: x4 :: x5 :: x6 :: x7 :: x8 :: x9 :: x10 :: x11 :: x12 :: x13 :: vR none :: l) st) : Run d M Q S mi pc (x0 :: x1 :: x2 :: x3 :: x4 :: x5 :: x6 :: x7 :: x8 :: x9 :: x10 :: x11 :: x12 :: x13 :: x14 :: l) (vR none :: st) := by
  refine s_astoreN hd hi (hL_at (i := 13) rfl hL) k
theorem t_inc14 {S : Nat × MR × Nat × Nat} {x0 x1 x2 x3 x4 x5 x6 x7 x8 x9 x10 x11 x12 x13 : V} {a b : Int} {l : List V} (hd : Dc M pc (.iinc 14 b) 3 pc') (hb : (Int32.ofInt b).toInt = b) (hi : 14 < mL M) (hL : isL x13 = false) (k : Run d M Q S mi pc' (x0 :: x1 :: x2 :: x3 :: x4 :: x5 :: x6 :: x7 :: x8 :: x9 :: x10 :: x11 :: x12 :: x13 :: vI (w32 (a + b)) :: l) st) : Run d M Q S mi pc (x0 :: x1 :: x2 :: x3 :: x4 :: x5 :: x6 :: x7 :: x8 :: x9 :: x10 :: x11 :: x12 :: x13 :: vI a :: l) st := by
  refine s_iinc hd rfl hb hi (hL_at (i := 13) rfl hL) k
theorem t_l14 {S : Nat × MR × Nat × Nat} {x0 x1 x2 x3 x4 x5 x6 x7 x8 x9 x10 x11 x12 x13 x14 y0 : V} {a : Int} {l : List V} (hd : Dc M pc (.lstore 14) 2 pc') (hi : 14 + 1 < mL M) (hL : isL x13 = false) (k : Run d M Q S mi pc' (x0 :: x1 :: x2 :: x3 :: x4 :: x5 :: x6 :: x7 :: x8 :: x9 :: x10 :: x11 :: x12 :: x13 :: vL a :: vX 0 :: l) st) : Run d M Q S mi pc (x0 :: x1 :: x2 :: x3 :: x4 :: x5 :: x6 :: x7 :: x8 :: x9 :: x10 :: x11 :: x12 :: x13 :: x14 :: y0 :: l) (vL a :: st) := by
  refine s_lstore hd hi (hL_at (i := 13) rfl hL) k
theorem t_i15 {S : Nat × MR × Nat × Nat} {x0 x1 x2 x3 x4 x5 x6 x7 x8 x9 x10 x11 x12 x13 x14 x15 : V} {a : Int} {l : List V} (hd : Dc M pc (.istore 15) 2 pc') (hi : 15 < mL M) (hL : isL x14 = false) (k : Run d M Q S mi pc' (x0 :: x1 :: x2 :: x3 :: x4 :: x5 :: x6 :: x7 :: x8 :: x9 :: x10 :: x11 :: x12 :: x13 :: x14 :: vI a :: l) st) : Run d M Q S mi pc (x0 :: x1 :: x2 :: x3 :: x4 :: x5 :: x6 :: x7 :: x8 :: x9 :: x10 :: x11 :: x12 :: x13 :: x14 :: x15 :: l) (vI a :: st) := by
  refine s_istore hd hi (hL_at (i := 14) rfl hL) k
theorem t_a15 {S : Nat × MR × Nat × Nat} {x0 x1 x2 x3 x4 x5 x6 x7 x8 x9 x10 x11 x12 x13 x14 x15 : V} {a : Ad} {l : List V} (hd : Dc M pc (.astore 15) 2 pc') (hi : 15 < mL M) (hL : isL x14 = false) (k : Run d M Q S mi pc' (x0 :: x1 :: x2 :: x3 :: x4 :: x5 :: x6 :: x7 :: x8 :: x9 :: x10 :: x11 :: x12 :: x13 :: x14 :: vR (some a) :: l) st) : Run d M Q S mi pc (x0 :: x1 :: x2 :: x3 :: x4 :: x5 :: x6 :: x7 :: x8 :: x9 :: x10 :: x11 :: x12 :: x13 :: x14 :: x15 :: l) (vR (some a) :: st) := by
  refine s_astore hd hi (hL_at (i := 14) rfl hL) k
theorem t_n15 {S : Nat × MR × Nat × Nat} {x0 x1 x2 x3 x4 x5 x6 x7 x8 x9 x10 x11 x12 x13 x14 x15 : V}  {l : List V} (hd : Dc M pc (.astore 15) 2 pc') (hi : 15 < mL M) (hL : isL x14 = false) (k : Run d M Q S mi pc' (x0 :: x1 :: x2 :: x3 :: x4 :: x5 :: x6 :: x7 :: x8 :: x9 :: x10 :: x11 :: x12 :: x13 :: x14 :: vR none :: l) st) : Run d M Q S mi pc (x0 :: x1 :: x2 :: x3 :: x4 :: x5 :: x6 :: x7 :: x8 :: x9 :: x10 :: x11 :: x12 :: x13 :: x14 :: x15 :: l) (vR none :: st) := by
  refine s_astoreN hd hi (hL_at (i := 14) rfl hL) k
theorem t_inc15 {S : Nat × MR × Nat × Nat} {x0 x1 x2 x3 x4 x5 x6 x7 x8 x9 x10 x11 x12 x13 x14 : V} {a b : Int} {l : List V} (hd : Dc M pc (.iinc 15 b) 3 pc') (hb : (Int32.ofInt b).toInt = b) (hi : 15 < mL M) (hL : isL x14 = false) (k : Run d M Q S mi pc' (x0 :: x1 :: x2 :: x3 :: x4 :: x5 :: x6 :: x7 :: x8 :: x9 :: x10 :: x11 :: x12 :: x13 :: x14 :: vI (w32 (a + b)) :: l) st) : Run d M Q S mi pc (x0 :: x1 :: x2 :: x3 :: x4 :: x5 :: x6 :: x7 :: x8 :: x9 :: x10 :: x11 :: x12 :: x13 :: x14 :: vI a :: l) st := by
  refine s_iinc hd rfl hb hi (hL_at (i := 14) rfl hL) k
end ARITY
