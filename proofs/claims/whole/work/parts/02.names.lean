/-- an array of arrays: its own table row is there -/
def va_AOA (ty : FieldType) (U : State) : Prop := (Cond.arrayOver (.array ty)).before #[] U = true
theorem va_AOA.use {ty : FieldType} {A : Array Value} {U : State} (h : va_AOA ty U) : (Cond.arrayOver (.array ty)).before A U = true := h
theorem va_AOA.spec {ty : FieldType} {s : State} (h : va_AOA ty s) :
    ∃ comp c k, s.vm.findClass (FieldType.array ty).toString = some comp ∧ (s.vm.classes.findIdx? fun x => match x.kind with | .array component _ => component == comp | _ => false) = some c ∧ s.vm.classes[c]? = some k ∧ k.kind = .array comp (.array ty) ∧ s.vm.findClass ("[" ++ (FieldType.array ty).toString) = some c := by
  simp only [va_AOA, Cond.before, Cond.holds, Cond.value, beq_iff_eq] at h
  cases hc : s.vm.findClass (FieldType.array ty).toString with
  | none => simp [hc] at h
  | some comp =>
    simp only [hc, Option.bind_some, Option.bind_eq_some_iff, Option.map_eq_some_iff] at h
    obtain ⟨c, hi, k, hk, hb⟩ := h
    obtain ⟨hlt, hp, -⟩ := Array.findIdx?_eq_some_iff_getElem.mp hi
    have hkk : s.vm.classes[c] = k := (Array.getElem?_eq_some_iff.mp hk).2
    rw [hkk] at hp
    cases hkind : k.kind with
    | array component ty2 =>
      rw [hkind] at hb hp
      simp at hb hp
      exact ⟨comp, c, k, rfl, hi, hk, by rw [hkind, hp, hb.1], hb.2⟩
    | _ => rw [hkind] at hb; simp at hb
theorem va_AOA.moved {ty : FieldType} {u U : State} (hvm : u.vm.Alike U.vm) (h : va_AOA ty u) : va_AOA ty U := by
  obtain ⟨comp, c, k, h1, h2, h3, h4, h5⟩ := h.spec
  obtain ⟨k', hk', he⟩ := hvm.2.2 _ _ h3
  have hbq : U.vm.bare = u.vm.bare := by first | exact hvm.bare_eq | exact hvm.bare_eq.symm
  have e1 := va_idx_bare U.vm comp
  rw [hbq, va_idx_bare u.vm comp] at e1
  have hi : (U.vm.classes.findIdx? fun (x : Class) => match x.kind with | .array component _ => component == comp | _ => false) = some c := e1.symm.trans h2
  have hkind : k'.kind = .array comp (.array ty) := by rw [he]; exact h4
  have f1 : U.vm.findClass (FieldType.array ty).toString = some comp := by rw [hvm.findClass]; exact h1
  have f2 : U.vm.findClass ("[" ++ (FieldType.array ty).toString) = some c := by rw [hvm.findClass]; exact h5
  unfold va_AOA Cond.before Cond.holds
  simp only [Cond.value]
  rw [f1, Option.bind_some]
  refine (congrArg (fun o : Option Nat => (o.bind (fun c => (U.vm.classes[c]?).map fun (k : Class) => match k.kind with | .array _ ty2 => decide (ty2 = FieldType.array ty) && decide (U.vm.findClass ("[" ++ (FieldType.array ty).toString) = some c) | _ => false) == some true)) hi).trans ?_
  simp [hk', hkind, f2]
/-! ===== BEGIN words of one list among another's, by their places ===== -/
theorem goodIn_r {big : List Cond} (ws : List Cond) (ps : List Nat) (hp : ws = ps.filterMap (fun i => big[i]?)) (h : ws.all goodWord = true) : GoodIn big ws := by
  intro w hw
  have h1 := List.all_eq_true.mp h w hw
  rw [hp] at hw
  obtain ⟨i, -, hi⟩ := List.mem_filterMap.mp hw
  have hm : w ∈ big := by first | exact List.mem_of_getElem? hi | exact List.getElem?_mem hi
  exact ⟨hm, good_of_word h1⟩
theorem goodIn_app {big a b : List Cond} (ha : GoodIn big a) (hb : GoodIn big b) : GoodIn big (a ++ b) := fun w h => (List.mem_append.mp h).elim (ha w) (hb w)
theorem goodIn_ca {big a b : List Cond} {c : Cond} (ha : GoodIn big (c :: a)) (hb : GoodIn big b) : GoodIn big (c :: (a ++ b)) := fun w h => (List.mem_cons.mp h).elim (fun e => ha w (List.mem_cons.mpr (Or.inl e))) (fun h => (List.mem_append.mp h).elim (fun h => ha w (List.mem_cons.mpr (Or.inr h))) (hb w))
theorem goodIn_sub {big ws : List Cond} (hm : ∀ w ∈ ws, w ∈ big) (h : ws.all goodWord = true) : GoodIn big ws := fun w hw => ⟨hm w hw, good_of_word (List.all_eq_true.mp h w hw)⟩
/-! ===== END ===== -/

/-! ===== BEGIN new T[n][m]: the outer array a place, the inner ones among the pooled ===== -/
/-- f, but v at every address of l -/
def vr_up {α : Type} (f : Nat → α) (l : List Nat) (v : α) : Nat → α := fun a => if a ∈ l then v else f a
theorem vr_up_in {α : Type} {f : Nat → α} {l : List Nat} {v : α} {a : Nat} (h : a ∈ l) : vr_up f l v a = v := if_pos h
theorem vr_up_ne {α : Type} {f : Nat → α} {l : List Nat} {v : α} {a : Nat} (h : a ∉ l) : vr_up f l v a = f a := if_neg h
theorem vr_rows {L l : List Nat} {f : Nat → va_E} {e : va_E} (h : ∀ a, a ∈ l → a ∉ L) : va_pl L f ++ l.map (fun a => (a, e)) = va_pl (L ++ l) (vr_up f l e) := by
  unfold va_pl
  rw [List.map_append]
  congr 1
  · apply List.map_congr_left
    intro a ha
    rw [vr_up_ne (fun q => h a q ha)]
  · apply List.map_congr_left
    intro a ha
    rw [vr_up_in ha]
theorem vr_lay {X rows : va_W} {x : Nat × va_E} {pl : va_W} {D : va_G} {cl : List vw_C} {H : Heap} (hP : va_P D cl (((X ++ pl) ++ [x]) ++ rows) H) : va_P D cl ((X ++ [x]) ++ (pl ++ rows)) H := by
  rw [List.append_assoc (X ++ pl)] at hP
  have h := va_P.swap hP
  rw [← List.append_assoc X] at h
  have h2 := va_P.swap h
  rw [List.append_assoc (X ++ [x])] at h2
  exact h2
theorem vr_layD {X rows : va_W} {x : Nat × va_E} {pl : va_W} {A : Nat → Prop} (hD : va_D A (((X ++ pl) ++ [x]) ++ rows)) : va_D A ((X ++ [x]) ++ (pl ++ rows)) := by
  rw [List.append_assoc (X ++ pl)] at hD
  have h := va_D.swap hD
  rw [← List.append_assoc X] at h
  have h2 := va_D.swap h
  rw [List.append_assoc (X ++ [x])] at h2
  exact h2
theorem vr_outer (c : ClassId) (N h0 : Nat) : ∀ i : Nat, Jvm.Free.Multi.outerC c N h0 i = arrV c N (fun j => va_rf (if j < i then some (h0 + 1 + j) else none))
  | 0 => by
    show ({ cls := c, slots := Array.replicate N .null, vm := .none } : Cell) = _
    rw [arrV_new]
    refine congrArg (arrV c N) (funext fun j => ?_)
    simp [va_rf]
  | i + 1 => by
    show (Jvm.Free.Multi.outerC c N h0 i).setSlot i (.ref (h0 + 1 + i)) = _
    rw [vr_outer c N h0 i, arrV_store]
    refine congrArg (arrV c N) (funext fun j => ?_)
    by_cases e : j = i
    · subst e
      simp [updV, va_rf]
    · by_cases h : j < i
      · simp [updV, e, h, Nat.lt_succ_of_lt h]
      · simp [updV, e, h, show ¬ j < i + 1 by omega]
section VGM
variable {p : Program} {l : Launch} {e : Env} {R : Room} {s : State} {m : MethodId} {args : Array Value} {below : List Frame} {meth : Method} {c : Code} {H : Heap} {locs : List Loc} {cells slots : Nat} {Q : State → Prop}
variable {cc : ByteArray} {pc : Nat} {ls : Array Slot} {rest : List Value} {D : va_G} {cl : List vw_C} {A : Nat → Prop} {a : Nat} {tys : List (ClassId × FieldType)} {ws : va_W} {H0 : Heap}
theorem va_mna {X : va_W} {L : List Nat} {f : Nat → va_E} {cc : ByteArray} (hexec : p.tables.exec = Jvm.exec) (hb : c.code = cc) {own : String} {index : Nat} {ty : FieldType} {cy : ClassId} (hown : s.vm.findClass own = some m.cls) (hclink : (Cond.classLink own index ("[" ++ (FieldType.array ty).toString)).before args s = true) (hover : va_AOA ty s) (harr : (Cond.arrayClass ty).before args s = true) (hcy : s.vm.findClass (FieldType.array ty).toString = some cy)
    (hK : va_K D cl tys s) (hP : va_P D cl (X ++ va_pl L f) H) (hD : va_D A (X ++ va_pl L f)) (hS : va_S A H0 H locs) (hA : ∀ q, H0.size ≤ q → A q) {n k : Int32} {N' K' : Nat} {z : vp_A} (hn : ¬ n < 0) (hk : ¬ k < 0) (hN : n.toNatClampNeg = N') (hM : k.toNatClampNeg = K')
    (hb1 : N' * 4 ≤ 536870912) (hb2 : K' * componentBytes ty ≤ 536870912) (hb3 : K' ≤ 536870912) (hdf : fits ty (defaultValue ty) = true) (hdd : (defaultValue ty).isDefault = true) (hcells : cells + (1 + N') ≤ R.cells) (hslots : slots + (N' + N' * K') ≤ R.slots) (hz : ∀ c : ClassId, Jvm.Free.Multi.innerC c K' (defaultValue ty) = vp_cell c z) (hdg : decode cc pc = .ok (.multianewarray index 2, 4))
    (kk : ∀ (q : Nat) (r : Nat → Nat) (cA : ClassId) (H1 : Heap), (∀ i j : Nat, i < N' → j < N' → r i = r j → i = j) → (∀ i : Nat, i < N' → r i ∉ L) → va_K D cl (tys ++ [(cA, .array ty)]) s →
      va_P D cl ((X ++ [(q, .inl (cA, N', .inr (.inr (.inr (.inr (fun i => if i < N' then some (r i) else none))))))]) ++ va_pl (L ++ (List.range N').map r) (vr_up f ((List.range N').map r) (.inl (cy, z)))) H1 → va_D A ((X ++ [(q, .inl (cA, N', .inr (.inr (.inr (.inr (fun i => if i < N' then some (r i) else none))))))]) ++ va_pl (L ++ (List.range N').map r) (vr_up f ((List.range N').map r) (.inl (cy, z)))) → va_S A H0 H1 locs →
      W p l e R s m args below meth c H1 locs (cells + 1 + N') (slots + N' + N' * K') Q (F0 m (pc + 4) ls (.ref q :: rest))) : W p l e R s m args below meth c H locs cells slots Q (F0 m pc ls (.int k :: .int n :: rest)) := by
  subst hN
  subst hM
  intro T hT Xs
  obtain ⟨vm₁, cA, comp, -, fA, fC, hO, -, X', step⟩ := Xs.multianewarray2F hexec hown hclink (va_AOA.use hover) harr (g := F0 m pc ls (.int k :: .int n :: rest)) rfl (by rw [hb]; exact hdg) rfl hn hk hb1 hb2 hb3 hdf hdd hcells hslots
  have ec : some cy = some comp := hcy.symm.trans fC
  cases ec
  generalize hF : Jvm.Free.Multi.fill (T.setVm vm₁) cA cy n.toNatClampNeg k.toNatClampNeg (defaultValue ty) n.toNatClampNeg = F at X' step
  have hTh : (T.setVm vm₁).heap = H := hT
  obtain ⟨f1, f2, -, -⟩ := Jvm.Free.Multi.fill_facts (T.setVm vm₁) cA cy n.toNatClampNeg k.toNatClampNeg (defaultValue ty) n.toNatClampNeg
  rw [hF, hTh] at f1 f2
  have hold : ∀ x : Nat, x < H.size → F.heap[x]? = H[x]? := fun x hx => by
    have := Jvm.Free.Multi.fill_old (T.setVm vm₁) cA cy n.toNatClampNeg k.toNatClampNeg (defaultValue ty) (a := x) (by rw [hTh]; exact hx) n.toNatClampNeg
    rw [hF, hTh] at this
    exact this
  have hrow : ∀ j : Nat, j < n.toNatClampNeg → F.heap[H.size + 1 + j]? = some (vp_cell cy z) := fun j hj => by
    have := Jvm.Free.Multi.fill_inner (T.setVm vm₁) cA cy n.toNatClampNeg k.toNatClampNeg (defaultValue ty) n.toNatClampNeg j hj
    rw [hF, hTh, hz] at this
    exact this
  have hout : Jvm.Free.Multi.outerC cA n.toNatClampNeg H.size n.toNatClampNeg = vp_cell cA (n.toNatClampNeg, .inr (.inr (.inr (.inr (fun i => if i < n.toNatClampNeg then some (H.size + 1 + i) else none))))) := by
    rw [vp_cell_q]
    exact vr_outer cA n.toNatClampNeg H.size n.toNatClampNeg
  rw [hout] at f2
  have hlt : ∀ a, a ∈ L → a < H.size := fun a ha => by
    obtain ⟨k9, hk9⟩ := va_pl_get (X := X) (f := f) ha
    exact (hP k9 _ hk9).lt
  have hnl : ∀ i : Nat, i < n.toNatClampNeg → H.size + 1 + i ∉ L := fun i _ h => by
    have := hlt _ h
    omega
  have hnm : ∀ a, a ∈ (List.range n.toNatClampNeg).map (fun i => H.size + 1 + i) → a ∉ L := fun a ha h => by
    obtain ⟨i, -, rfl⟩ := List.mem_map.mp ha
    have := hlt _ h
    omega
  have hP0 : va_P D cl (X ++ va_pl L f) F.heap := hP.kept (fun k9 x hx => hold x.1 ((hP k9 x hx).lt))
  have hP1 : va_P D cl ((X ++ va_pl L f) ++ [(H.size, .inl (cA, n.toNatClampNeg, .inr (.inr (.inr (.inr (fun i => if i < n.toNatClampNeg then some (H.size + 1 + i) else none))))))]) F.heap := hP0.app (fun k9 x hx => by
    have h0 : k9 < 1 := (List.getElem?_eq_some_iff.mp hx).1
    rw [show k9 = 0 by omega] at hx
    cases hx
    exact f2)
  have hP2 : va_P D cl (((X ++ va_pl L f) ++ [(H.size, .inl (cA, n.toNatClampNeg, .inr (.inr (.inr (.inr (fun i => if i < n.toNatClampNeg then some (H.size + 1 + i) else none))))))]) ++ ((List.range n.toNatClampNeg).map (fun i => H.size + 1 + i)).map (fun a => (a, .inl (cy, z)))) F.heap := hP1.app (fun k9 x hx => by
    obtain ⟨a, ha, rfl⟩ := List.mem_map.mp (List.mem_of_getElem? hx)
    obtain ⟨i, hi, rfl⟩ := List.mem_map.mp ha
    exact hrow i (List.mem_range.mp hi))
  have hD2 : va_D A (((X ++ va_pl L f) ++ [(H.size, .inl (cA, n.toNatClampNeg, .inr (.inr (.inr (.inr (fun i => if i < n.toNatClampNeg then some (H.size + 1 + i) else none))))))]) ++ ((List.range n.toNatClampNeg).map (fun i => H.size + 1 + i)).map (fun a => (a, .inl (cy, z)))) := by
    have hD1 := hD.push (e := .inl (cA, n.toNatClampNeg, .inr (.inr (.inr (.inr (fun i => if i < n.toNatClampNeg then some (H.size + 1 + i) else none)))))) hP rfl (hA _ hS.1)
    generalize hW1 : (X ++ va_pl L f) ++ [(H.size, .inl (cA, n.toNatClampNeg, .inr (.inr (.inr (.inr (fun i => if i < n.toNatClampNeg then some (H.size + 1 + i) else none))))))] = W1 at hD1 hP1 ⊢
    have hle : ∀ (k9 : Nat) (x : Nat × va_E), W1[k9]? = some x → x.1 ≤ H.size := fun k9 x hx => by
      rw [← hW1] at hx
      by_cases hl : k9 < (X ++ va_pl L f).length
      · rw [List.getElem?_append_left hl] at hx
        exact Nat.le_of_lt ((hP k9 x hx).lt)
      · rw [List.getElem?_append_right (by omega)] at hx
        have h0 : k9 - (X ++ va_pl L f).length < 1 := (List.getElem?_eq_some_iff.mp hx).1
        rw [show k9 - (X ++ va_pl L f).length = 0 by omega] at hx
        cases hx
        exact Nat.le_refl _
    have hr : ∀ (k9 : Nat) (x : Nat × va_E), (((List.range n.toNatClampNeg).map (fun i => H.size + 1 + i)).map (fun a => ((a, .inl (cy, z)) : Nat × va_E)))[k9]? = some x → x.1 = H.size + 1 + k9 := fun k9 x hx => by
      rw [List.getElem?_map, List.getElem?_map] at hx
      by_cases h9 : k9 < n.toNatClampNeg
      · rw [List.getElem?_range h9] at hx
        cases hx
        rfl
      · have hn0 : (List.range n.toNatClampNeg)[k9]? = none := List.getElem?_eq_none (by rw [List.length_range]; omega)
        rw [hn0] at hx
        cases hx
    refine ⟨fun i j x y hi hj hxy => ?_, fun k9 x hx => ?_⟩
    · by_cases h1 : i < W1.length <;> by_cases h2 : j < W1.length
      · rw [List.getElem?_append_left h1] at hi
        rw [List.getElem?_append_left h2] at hj
        exact hD1.1 i j x y hi hj hxy
      · rw [List.getElem?_append_left h1] at hi
        rw [List.getElem?_append_right (by omega)] at hj
        have := hle _ _ hi
        have := hr _ _ hj
        omega
      · rw [List.getElem?_append_right (by omega)] at hi
        rw [List.getElem?_append_left h2] at hj
        have := hle _ _ hj
        have := hr _ _ hi
        omega
      · rw [List.getElem?_append_right (by omega)] at hi hj
        have := hr _ _ hi
        have := hr _ _ hj
        omega
    · by_cases h1 : k9 < W1.length
      · rw [List.getElem?_append_left h1] at hx
        exact hD1.2 k9 x hx
      · rw [List.getElem?_append_right (by omega)] at hx
        have := hr _ _ hx
        exact hA _ (by have := hS.1; omega)
  have hAr : ArrOfT s cA (.array ty) := fun N9 z9 => by
    obtain ⟨-, k9, hk9, cm9, hkk9⟩ := (hO 0 0 0).1
    exact ⟨(fun q hq => by cases hq), k9, hk9, cm9, hkk9⟩
  have hK2 : va_K D cl (tys ++ [(cA, .array ty)]) s := ⟨hK.1, fun k9 x hx => by
    by_cases hl : k9 < tys.length
    · rw [List.getElem?_append_left hl] at hx
      exact hK.2 k9 x hx
    · rw [List.getElem?_append_right (by omega)] at hx
      have h0 : k9 - tys.length < 1 := (List.getElem?_eq_some_iff.mp hx).1
      rw [show k9 - tys.length = 0 by omega] at hx
      cases hx
      exact ⟨hAr, fA⟩⟩
  obtain ⟨t, a1, b1⟩ := kk H.size (fun i => H.size + 1 + i) cA F.heap (fun i j _ _ h => by have h9 : H.size + 1 + i = H.size + 1 + j := h; omega) hnl hK2 (by rw [← vr_rows hnm]; exact vr_lay hP2) (by rw [← vr_rows hnm]; exact vr_layD hD2) ⟨by rw [f1]; have := hS.1; omega, fun x h1 h2 => (hold x (Nat.lt_of_lt_of_le h1 hS.1)).trans (hS.2.1 x h1 h2), hS.2.2⟩ F rfl X'
  refine ⟨t, step t ?_, b1⟩
  have e : T.heap.size = H.size := by rw [hT]
  rw [e]
  exact a1
end VGM
/-! ===== END ===== -/

/-! ===== BEGIN printed: names, fields, word lists, decode rows ===== -/
def RX0 : String := "MendedWebs$Compiler"
def TX0 : u_T := fun k => match k with
  | 0 => ("MendedWebs$Compiler", "text", "LMendedWebs$Text;", true)
  | 1 => ("MendedWebs$Compiler", "ofLines", "Z", false)
  | 2 => ("MendedWebs$Compiler", "tokens", "[I", true)
  | 3 => ("MendedWebs$Compiler", "numbers", "[I", true)
  | 4 => ("MendedWebs$Compiler", "places", "[I", true)
  | 5 => ("MendedWebs$Compiler", "scanned", "I", false)
  | 6 => ("MendedWebs$Compiler", "token", "I", false)
  | 7 => ("MendedWebs$Compiler", "at", "I", false)
  | 8 => ("MendedWebs$Compiler", "awaited", "[I", true)
  | 9 => ("MendedWebs$Compiler", "top", "I", false)
  | 10 => ("MendedWebs$Compiler", "used", "I", false)
  | 11 => ("MendedWebs$Compiler", "brackets", "I", false)
  | _ => ("MendedWebs$Compiler", "faultAt", "I", false)
def tyX0 : Nat → FieldType := fun k => match k with
  | 0 => .object "MendedWebs$Text"
  | 1 => .boolean
  | 2 => .array .int
  | 3 => .array .int
  | 4 => .array .int
  | 5 => .int
  | 6 => .int
  | 7 => .int
  | 8 => .array .int
  | 9 => .int
  | 10 => .int
  | 11 => .int
  | _ => .int
abbrev wsX00 : List Cond := u_ws RX0 TX0 13
theorem nmX0 : ∀ a, a < 13 → ∀ b, b < 13 → a ≠ b → (TX0 a).2.1 ≠ (TX0 b).2.1 := by decide +kernel
theorem tyX0_ok : ∀ k, k < 13 → parseFieldDescriptor (TX0 k).2.2.1 = some (tyX0 k) := by decide +kernel
abbrev cX0_init : ByteArray := prog_2_method_1_code
def yX0_init : MethodName := ⟨RX0, "<init>", "()V"⟩
abbrev cX0_compile : ByteArray := prog_2_method_2_code
def yX0_compile : MethodName := ⟨RX0, "compile", "([IIZ)I"⟩
abbrev cX0_compileRow : ByteArray := prog_2_method_3_code
def yX0_compileRow : MethodName := ⟨RX0, "compileRow", "()V"⟩
abbrev cX0_expand : ByteArray := prog_2_method_4_code
def yX0_expand : MethodName := ⟨RX0, "expand", "(I)V"⟩
abbrev cX0_expandLaw : ByteArray := prog_2_method_5_code
def yX0_expandLaw : MethodName := ⟨RX0, "expandLaw", "(I)V"⟩
abbrev cX0_expandLine : ByteArray := prog_2_method_6_code
def yX0_expandLine : MethodName := ⟨RX0, "expandLine", "(I)V"⟩
abbrev cX0_expandPlace : ByteArray := prog_2_method_7_code
def yX0_expandPlace : MethodName := ⟨RX0, "expandPlace", "(I)V"⟩
abbrev cX0_aimAtNode : ByteArray := prog_2_method_8_code
def yX0_aimAtNode : MethodName := ⟨RX0, "aimAtNode", "(II)V"⟩
abbrev cX0_expandIf : ByteArray := prog_2_method_9_code
def yX0_expandIf : MethodName := ⟨RX0, "expandIf", "()V"⟩
abbrev cX0_expandTest : ByteArray := prog_2_method_10_code
def yX0_expandTest : MethodName := ⟨RX0, "expandTest", "(II)V"⟩
abbrev cX0_goOnIf : ByteArray := prog_2_method_11_code
def yX0_goOnIf : MethodName := ⟨RX0, "goOnIf", "(ZII)V"⟩
abbrev cX0_expandPlain : ByteArray := prog_2_method_12_code
def yX0_expandPlain : MethodName := ⟨RX0, "expandPlain", "()V"⟩
abbrev cX0_expandCompared : ByteArray := prog_2_method_13_code
def yX0_expandCompared : MethodName := ⟨RX0, "expandCompared", "(I)V"⟩
abbrev cX0_expandPart : ByteArray := prog_2_method_14_code
def yX0_expandPart : MethodName := ⟨RX0, "expandPart", "(I)V"⟩
abbrev cX0_expandNode : ByteArray := prog_2_method_15_code
def yX0_expandNode : MethodName := ⟨RX0, "expandNode", "(I)V"⟩
abbrev cX0_takeDue : ByteArray := prog_2_method_16_code
def yX0_takeDue : MethodName := ⟨RX0, "takeDue", "(I)V"⟩
abbrev cX0_isOpening : ByteArray := prog_2_method_17_code
def yX0_isOpening : MethodName := ⟨RX0, "isOpening", "(I)Z"⟩
abbrev cX0_takeNumberFor : ByteArray := prog_2_method_18_code
def yX0_takeNumberFor : MethodName := ⟨RX0, "takeNumberFor", "(I)V"⟩
abbrev cX0_neededFor : ByteArray := prog_2_method_19_code
def yX0_neededFor : MethodName := ⟨RX0, "neededFor", "(II)I"⟩
abbrev cX0_await : ByteArray := prog_2_method_20_code
def yX0_await : MethodName := ⟨RX0, "await", "(I)V"⟩
abbrev cX0_await_ : ByteArray := prog_2_method_21_code
def yX0_await_ : MethodName := ⟨RX0, "await", "(II)V"⟩
abbrev cX0_await__ : ByteArray := prog_2_method_22_code
def yX0_await__ : MethodName := ⟨RX0, "await", "(III)V"⟩
abbrev cX0_fail : ByteArray := prog_2_method_23_code
def yX0_fail : MethodName := ⟨RX0, "fail", "()V"⟩
abbrev cX0_take : ByteArray := prog_2_method_24_code
def yX0_take : MethodName := ⟨RX0, "take", "()V"⟩
abbrev cX0_goTo : ByteArray := prog_2_method_25_code
def yX0_goTo : MethodName := ⟨RX0, "goTo", "(I)V"⟩
abbrev cX0_scan : ByteArray := prog_2_method_26_code
def yX0_scan : MethodName := ⟨RX0, "scan", "([II)V"⟩
abbrev cX0_endOfToken : ByteArray := prog_2_method_27_code
def yX0_endOfToken : MethodName := ⟨RX0, "endOfToken", "([III)I"⟩
abbrev cX0_scanToken : ByteArray := prog_2_method_28_code
def yX0_scanToken : MethodName := ⟨RX0, "scanToken", "([III)V"⟩
abbrev cX0_note : ByteArray := prog_2_method_29_code
def yX0_note : MethodName := ⟨RX0, "note", "(III)V"⟩
abbrev cX0_numberAt : ByteArray := prog_2_method_30_code
def yX0_numberAt : MethodName := ⟨RX0, "numberAt", "([III)I"⟩
abbrev cX0_wordAt : ByteArray := prog_2_method_31_code
def yX0_wordAt : MethodName := ⟨RX0, "wordAt", "([III)I"⟩
abbrev cX0_isSame : ByteArray := prog_2_method_32_code
def yX0_isSame : MethodName := ⟨RX0, "isSame", "([IIII)Z"⟩
abbrev cX0_isAlike : ByteArray := prog_2_method_33_code
def yX0_isAlike : MethodName := ⟨RX0, "isAlike", "(II)Z"⟩
abbrev cX0_isLetter : ByteArray := prog_2_method_34_code
def yX0_isLetter : MethodName := ⟨RX0, "isLetter", "(I)Z"⟩
abbrev cX0_isDigit : ByteArray := prog_2_method_35_code
def yX0_isDigit : MethodName := ⟨RX0, "isDigit", "(I)Z"⟩
def RX1 : String := "MendedWebs$Journal"
def TX1 : u_T := fun k => match k with
  | 0 => ("MendedWebs$Journal", "count", "I", false)
  | 1 => ("MendedWebs$Journal", "first", "I", false)
  | 2 => ("MendedWebs$Journal", "lostStep", "I", false)
  | 3 => ("MendedWebs$Journal", "step", "[I", true)
  | 4 => ("MendedWebs$Journal", "line", "[I", true)
  | 5 => ("MendedWebs$Journal", "cell", "[I", true)
  | 6 => ("MendedWebs$Journal", "was", "[I", true)
  | 7 => ("MendedWebs$Journal", "wasMarked", "[I", true)
  | 8 => ("MendedWebs$Journal", "read", "[I", true)
  | 9 => ("MendedWebs$Journal", "stepLine", "[I", true)
  | _ => ("MendedWebs$Journal", "stepAmiss", "[I", true)
def tyX1 : Nat → FieldType := fun k => match k with
  | 0 => .int
  | 1 => .int
  | 2 => .int
  | 3 => .array .int
  | 4 => .array .int
  | 5 => .array .int
  | 6 => .array .int
  | 7 => .array .int
  | 8 => .array .int
  | 9 => .array .int
  | _ => .array .int
abbrev wsX10 : List Cond := u_ws RX1 TX1 11
theorem nmX1 : ∀ a, a < 11 → ∀ b, b < 11 → a ≠ b → (TX1 a).2.1 ≠ (TX1 b).2.1 := by decide +kernel
theorem tyX1_ok : ∀ k, k < 11 → parseFieldDescriptor (TX1 k).2.2.1 = some (tyX1 k) := by decide +kernel
abbrev cX1_init : ByteArray := prog_3_method_1_code
def yX1_init : MethodName := ⟨RX1, "<init>", "()V"⟩
abbrev cX1_become : ByteArray := prog_3_method_2_code
def yX1_become : MethodName := ⟨RX1, "become", "(LMendedWebs$Journal;)V"⟩
abbrev cX1_placeOf : ByteArray := prog_3_method_3_code
def yX1_placeOf : MethodName := ⟨RX1, "placeOf", "(I)I"⟩
abbrev cX1_add : ByteArray := prog_3_method_4_code
def yX1_add : MethodName := ⟨RX1, "add", "(IIILMendedWebs$Web;I)V"⟩
abbrev cX1_isKeptFrom : ByteArray := prog_3_method_5_code
def yX1_isKeptFrom : MethodName := ⟨RX1, "isKeptFrom", "(I)Z"⟩
abbrev cX1_latestLine : ByteArray := prog_3_method_6_code
def yX1_latestLine : MethodName := ⟨RX1, "latestLine", "(I)I"⟩
abbrev cX1_writtenByLinesSince : ByteArray := prog_3_method_7_code
def yX1_writtenByLinesSince : MethodName := ⟨RX1, "writtenByLinesSince", "(I)I"⟩
abbrev cX1_spreadOf : ByteArray := prog_3_method_8_code
def yX1_spreadOf : MethodName := ⟨RX1, "spreadOf", "(II)I"⟩
abbrev cX1_takeBack : ByteArray := prog_3_method_9_code
def yX1_takeBack : MethodName := ⟨RX1, "takeBack", "(LMendedWebs$Web;I)V"⟩
abbrev cX1_noteStep : ByteArray := prog_3_method_10_code
def yX1_noteStep : MethodName := ⟨RX1, "noteStep", "(IIZ)V"⟩
abbrev cX1_lineOf : ByteArray := prog_3_method_11_code
def yX1_lineOf : MethodName := ⟨RX1, "lineOf", "(I)I"⟩
abbrev cX1_wasAmiss : ByteArray := prog_3_method_12_code
def yX1_wasAmiss : MethodName := ⟨RX1, "wasAmiss", "(I)Z"⟩
abbrev cX1_leaveOut : ByteArray := prog_3_method_13_code
def yX1_leaveOut : MethodName := ⟨RX1, "leaveOut", "(I)V"⟩
abbrev cX1_loseLines : ByteArray := prog_3_method_14_code
def yX1_loseLines : MethodName := ⟨RX1, "loseLines", "()V"⟩
def RX2 : String := "MendedWebs$LineWork"
def TX2 : u_T := fun k => match k with
  | 0 => ("MendedWebs$LineWork", "reader", "LMendedWebs$Reader;", true)
  | 1 => ("MendedWebs$LineWork", "outcome", "I", false)
  | 2 => ("MendedWebs$LineWork", "cell", "I", false)
  | 3 => ("MendedWebs$LineWork", "value", "I", false)
  | 4 => ("MendedWebs$LineWork", "read", "I", false)
  | _ => ("MendedWebs$LineWork", "marked", "I", false)
def tyX2 : Nat → FieldType := fun k => match k with
  | 0 => .object "MendedWebs$Reader"
  | 1 => .int
  | 2 => .int
  | 3 => .int
  | 4 => .int
  | _ => .int
abbrev wsX20 : List Cond := u_ws RX2 TX2 6
theorem nmX2 : ∀ a, a < 6 → ∀ b, b < 6 → a ≠ b → (TX2 a).2.1 ≠ (TX2 b).2.1 := by decide +kernel
theorem tyX2_ok : ∀ k, k < 6 → parseFieldDescriptor (TX2 k).2.2.1 = some (tyX2 k) := by decide +kernel
abbrev cX2_init : ByteArray := prog_4_method_1_code
def yX2_init : MethodName := ⟨RX2, "<init>", "()V"⟩
abbrev cX2_perform : ByteArray := prog_4_method_2_code
def yX2_perform : MethodName := ⟨RX2, "perform", "(LMendedWebs$Text;ILMendedWebs$Web;)V"⟩
abbrev cX2_findCell : ByteArray := prog_4_method_3_code
def yX2_findCell : MethodName := ⟨RX2, "findCell", "(LMendedWebs$Text;I)V"⟩
abbrev cX2_judge : ByteArray := prog_4_method_4_code
def yX2_judge : MethodName := ⟨RX2, "judge", "(I)I"⟩
def RX3 : String := "MendedWebs$MendList"
def TX3 : u_T := fun k => match k with
  | 0 => ("MendedWebs$MendList", "size", "I", false)
  | 1 => ("MendedWebs$MendList", "total", "I", false)
  | 2 => ("MendedWebs$MendList", "found", "I", false)
  | 3 => ("MendedWebs$MendList", "kept", "I", false)
  | _ => ("MendedWebs$MendList", "rows", "[I", true)
def tyX3 : Nat → FieldType := fun k => match k with
  | 0 => .int
  | 1 => .int
  | 2 => .int
  | 3 => .int
  | _ => .array .int
abbrev wsX30 : List Cond := u_ws RX3 TX3 5
theorem nmX3 : ∀ a, a < 5 → ∀ b, b < 5 → a ≠ b → (TX3 a).2.1 ≠ (TX3 b).2.1 := by decide +kernel
theorem tyX3_ok : ∀ k, k < 5 → parseFieldDescriptor (TX3 k).2.2.1 = some (tyX3 k) := by decide +kernel
abbrev cX3_init : ByteArray := prog_5_method_1_code
def yX3_init : MethodName := ⟨RX3, "<init>", "()V"⟩
abbrev cX3_clear : ByteArray := prog_5_method_2_code
def yX3_clear : MethodName := ⟨RX3, "clear", "(I)V"⟩
abbrev cX3_has : ByteArray := prog_5_method_3_code
def yX3_has : MethodName := ⟨RX3, "has", "(I)Z"⟩
abbrev cX3_add : ByteArray := prog_5_method_4_code
def yX3_add : MethodName := ⟨RX3, "add", "(II)V"⟩
abbrev cX3_placeFor : ByteArray := prog_5_method_5_code
def yX3_placeFor : MethodName := ⟨RX3, "placeFor", "(I)I"⟩
abbrev cX3_pairOf : ByteArray := prog_5_method_6_code
def yX3_pairOf : MethodName := ⟨RX3, "pairOf", "(II)I"⟩
abbrev cX3_cellOf : ByteArray := prog_5_method_7_code
def yX3_cellOf : MethodName := ⟨RX3, "cellOf", "(II)I"⟩
abbrev cX3_valueOf : ByteArray := prog_5_method_8_code
def yX3_valueOf : MethodName := ⟨RX3, "valueOf", "(II)I"⟩
abbrev cX3_differIn : ByteArray := prog_5_method_9_code
def yX3_differIn : MethodName := ⟨RX3, "differIn", "(I)Z"⟩
abbrev cX3_weightyPairs : ByteArray := prog_5_method_10_code
def yX3_weightyPairs : MethodName := ⟨RX3, "weightyPairs", "(II)I"⟩
def RX4 : String := "MendedWebs$Mender"
def TX4 : u_T := fun k => match k with
  | 0 => ("MendedWebs$Mender", "reader", "LMendedWebs$Reader;", true)
  | 1 => ("MendedWebs$Mender", "lists", "[LMendedWebs$MendList;", true)
  | 2 => ("MendedWebs$Mender", "sizeFor", "[I", true)
  | 3 => ("MendedWebs$Mender", "known", "I", false)
  | 4 => ("MendedWebs$Mender", "laws", "LMendedWebs$Text;", false)
  | 5 => ("MendedWebs$Mender", "cells", "[I", true)
  | 6 => ("MendedWebs$Mender", "base", "[I", true)
  | 7 => ("MendedWebs$Mender", "copied", "[I", true)
  | 8 => ("MendedWebs$Mender", "cheapest", "I", false)
  | 9 => ("MendedWebs$Mender", "size", "I", false)
  | 10 => ("MendedWebs$Mender", "limit", "I", false)
  | 11 => ("MendedWebs$Mender", "chosen", "[I", true)
  | _ => ("MendedWebs$Mender", "askedBy", "[[I", true)
def tyX4 : Nat → FieldType := fun k => match k with
  | 0 => .object "MendedWebs$Reader"
  | 1 => .array (.object "MendedWebs$MendList")
  | 2 => .array .int
  | 3 => .int
  | 4 => .object "MendedWebs$Text"
  | 5 => .array .int
  | 6 => .array .int
  | 7 => .array .int
  | 8 => .int
  | 9 => .int
  | 10 => .int
  | 11 => .array .int
  | _ => .array (.array .int)
abbrev wsX40 : List Cond := u_ws RX4 TX4 13
theorem nmX4 : ∀ a, a < 13 → ∀ b, b < 13 → a ≠ b → (TX4 a).2.1 ≠ (TX4 b).2.1 := by decide +kernel
theorem tyX4_ok : ∀ k, k < 13 → parseFieldDescriptor (TX4 k).2.2.1 = some (tyX4 k) := by decide +kernel
abbrev cX4_init : ByteArray := prog_6_method_1_code
def yX4_init : MethodName := ⟨RX4, "<init>", "()V"⟩
abbrev cX4_forget : ByteArray := prog_6_method_2_code
def yX4_forget : MethodName := ⟨RX4, "forget", "()V"⟩
abbrev cX4_leastBy : ByteArray := prog_6_method_3_code
def yX4_leastBy : MethodName := ⟨RX4, "leastBy", "(LMendedWebs$State;I)LMendedWebs$MendList;"⟩
abbrev cX4_begin : ByteArray := prog_6_method_4_code
def yX4_begin : MethodName := ⟨RX4, "begin", "(LMendedWebs$State;)V"⟩
abbrev cX4_search : ByteArray := prog_6_method_5_code
def yX4_search : MethodName := ⟨RX4, "search", "(I)Z"⟩
abbrev cX4_grow : ByteArray := prog_6_method_6_code
def yX4_grow : MethodName := ⟨RX4, "grow", "(III)V"⟩
abbrev cX4_cellsToTry : ByteArray := prog_6_method_7_code
def yX4_cellsToTry : MethodName := ⟨RX4, "cellsToTry", "(II)I"⟩
abbrev cX4_tryValues : ByteArray := prog_6_method_8_code
def yX4_tryValues : MethodName := ⟨RX4, "tryValues", "(IIII)V"⟩
abbrev cX4_priceOf : ByteArray := prog_6_method_9_code
def yX4_priceOf : MethodName := ⟨RX4, "priceOf", "(II)I"⟩
abbrev cX4_holdsWith : ByteArray := prog_6_method_10_code
def yX4_holdsWith : MethodName := ⟨RX4, "holdsWith", "(II)Z"⟩
abbrev cX4_rowOfChosen : ByteArray := prog_6_method_11_code
def yX4_rowOfChosen : MethodName := ⟨RX4, "rowOfChosen", "()I"⟩
def RX5 : String := "MendedWebs$Paper"
def TX5 : u_T := fun k => match k with
  | 0 => ("MendedWebs$Paper", "reader", "LMendedWebs$Reader;", true)
  | 1 => ("MendedWebs$Paper", "work", "LMendedWebs$LineWork;", true)
  | 2 => ("MendedWebs$Paper", "web", "LMendedWebs$Web;", true)
  | 3 => ("MendedWebs$Paper", "paid", "[I", true)
  | 4 => ("MendedWebs$Paper", "paidCount", "I", false)
  | 5 => ("MendedWebs$Paper", "held", "I", false)
  | 6 => ("MendedWebs$Paper", "duePaid", "[I", true)
  | 7 => ("MendedWebs$Paper", "duePaidCount", "I", false)
  | 8 => ("MendedWebs$Paper", "dueHeld", "I", false)
  | 9 => ("MendedWebs$Paper", "came", "[I", true)
  | _ => ("MendedWebs$Paper", "knownFor", "I", false)
def tyX5 : Nat → FieldType := fun k => match k with
  | 0 => .object "MendedWebs$Reader"
  | 1 => .object "MendedWebs$LineWork"
  | 2 => .object "MendedWebs$Web"
  | 3 => .array .int
  | 4 => .int
  | 5 => .int
  | 6 => .array .int
  | 7 => .int
  | 8 => .int
  | 9 => .array .int
  | _ => .int
abbrev wsX50 : List Cond := u_ws RX5 TX5 11
theorem nmX5 : ∀ a, a < 11 → ∀ b, b < 11 → a ≠ b → (TX5 a).2.1 ≠ (TX5 b).2.1 := by decide +kernel
theorem tyX5_ok : ∀ k, k < 11 → parseFieldDescriptor (TX5 k).2.2.1 = some (tyX5 k) := by decide +kernel
abbrev cX5_init : ByteArray := prog_7_method_1_code
def yX5_init : MethodName := ⟨RX5, "<init>", "()V"⟩
abbrev cX5_forget : ByteArray := prog_7_method_2_code
def yX5_forget : MethodName := ⟨RX5, "forget", "()V"⟩
abbrev cX5_prepare : ByteArray := prog_7_method_3_code
def yX5_prepare : MethodName := ⟨RX5, "prepare", "(LMendedWebs$State;I)V"⟩
abbrev cX5_goOn : ByteArray := prog_7_method_4_code
def yX5_goOn : MethodName := ⟨RX5, "goOn", "(LMendedWebs$State;I)V"⟩
abbrev cX5_whatCame : ByteArray := prog_7_method_5_code
def yX5_whatCame : MethodName := ⟨RX5, "whatCame", "(LMendedWebs$Text;)I"⟩
abbrev cX5_isPaidAsDue : ByteArray := prog_7_method_6_code
def yX5_isPaidAsDue : MethodName := ⟨RX5, "isPaidAsDue", "()Z"⟩
def RX6 : String := "MendedWebs$Reader"
def TX6 : u_T := fun k => match k with
  | 0 => ("MendedWebs$Reader", "cells", "[I", false)
  | 1 => ("MendedWebs$Reader", "stack", "[I", true)
  | 2 => ("MendedWebs$Reader", "top", "I", false)
  | 3 => ("MendedWebs$Reader", "read", "I", false)
  | 4 => ("MendedWebs$Reader", "amiss", "Z", false)
  | 5 => ("MendedWebs$Reader", "way", "[I", true)
  | 6 => ("MendedWebs$Reader", "wayLength", "I", false)
  | 7 => ("MendedWebs$Reader", "wayCells", "I", false)
  | _ => ("MendedWebs$Reader", "wayEnds", "Z", false)
def tyX6 : Nat → FieldType := fun k => match k with
  | 0 => .array .int
  | 1 => .array .int
  | 2 => .int
  | 3 => .int
  | 4 => .boolean
  | 5 => .array .int
  | 6 => .int
  | 7 => .int
  | _ => .boolean
abbrev wsX60 : List Cond := u_ws RX6 TX6 9
theorem nmX6 : ∀ a, a < 9 → ∀ b, b < 9 → a ≠ b → (TX6 a).2.1 ≠ (TX6 b).2.1 := by decide +kernel
theorem tyX6_ok : ∀ k, k < 9 → parseFieldDescriptor (TX6 k).2.2.1 = some (tyX6 k) := by decide +kernel
abbrev cX6_init : ByteArray := prog_8_method_1_code
def yX6_init : MethodName := ⟨RX6, "<init>", "()V"⟩
abbrev cX6_begin : ByteArray := prog_8_method_2_code
def yX6_begin : MethodName := ⟨RX6, "begin", "([I)V"⟩
abbrev cX6_allHold : ByteArray := prog_8_method_3_code
def yX6_allHold : MethodName := ⟨RX6, "allHold", "(LMendedWebs$Text;)Z"⟩
abbrev cX6_brokenLaws : ByteArray := prog_8_method_4_code
def yX6_brokenLaws : MethodName := ⟨RX6, "brokenLaws", "(LMendedWebs$Text;)I"⟩
abbrev cX6_nodeOnWay : ByteArray := prog_8_method_5_code
def yX6_nodeOnWay : MethodName := ⟨RX6, "nodeOnWay", "(II)I"⟩
abbrev cX6_run : ByteArray := prog_8_method_6_code
def yX6_run : MethodName := ⟨RX6, "run", "(LMendedWebs$Text;II)I"⟩
abbrev cX6_push : ByteArray := prog_8_method_7_code
def yX6_push : MethodName := ⟨RX6, "push", "(I)V"⟩
abbrev cX6_pop : ByteArray := prog_8_method_8_code
def yX6_pop : MethodName := ⟨RX6, "pop", "()I"⟩
abbrev cX6_look : ByteArray := prog_8_method_9_code
def yX6_look : MethodName := ⟨RX6, "look", "(I)I"⟩
abbrev cX6_lookAt : ByteArray := prog_8_method_10_code
def yX6_lookAt : MethodName := ⟨RX6, "lookAt", "(II)I"⟩
abbrev cX6_follow : ByteArray := prog_8_method_11_code
def yX6_follow : MethodName := ⟨RX6, "follow", "(I)V"⟩
abbrev cX6_totalOfWay : ByteArray := prog_8_method_12_code
def yX6_totalOfWay : MethodName := ⟨RX6, "totalOfWay", "()I"⟩
abbrev cX6_isWayTwin : ByteArray := prog_8_method_13_code
def yX6_isWayTwin : MethodName := ⟨RX6, "isWayTwin", "()Z"⟩
abbrev cX6_isWayRising : ByteArray := prog_8_method_14_code
def yX6_isWayRising : MethodName := ⟨RX6, "isWayRising", "()Z"⟩
def RX7 : String := "MendedWebs$State"
def TX7 : u_T := fun k => match k with
  | 0 => ("MendedWebs$State", "web", "LMendedWebs$Web;", true)
  | 1 => ("MendedWebs$State", "laws", "LMendedWebs$Text;", true)
  | 2 => ("MendedWebs$State", "lines", "LMendedWebs$Text;", true)
  | 3 => ("MendedWebs$State", "journal", "LMendedWebs$Journal;", true)
  | 4 => ("MendedWebs$State", "watch", "LMendedWebs$Watch;", true)
  | 5 => ("MendedWebs$State", "counts", "[I", true)
  | 6 => ("MendedWebs$State", "out", "[I", true)
  | 7 => ("MendedWebs$State", "mended", "[I", true)
  | 8 => ("MendedWebs$State", "prices", "[I", true)
  | 9 => ("MendedWebs$State", "copyOfCells", "[I", true)
  | 10 => ("MendedWebs$State", "copied", "Z", false)
  | 11 => ("MendedWebs$State", "weightyCells", "I", false)
  | 12 => ("MendedWebs$State", "chance", "I", false)
  | _ => ("MendedWebs$State", "lot", "I", false)
def tyX7 : Nat → FieldType := fun k => match k with
  | 0 => .object "MendedWebs$Web"
  | 1 => .object "MendedWebs$Text"
  | 2 => .object "MendedWebs$Text"
  | 3 => .object "MendedWebs$Journal"
  | 4 => .object "MendedWebs$Watch"
  | 5 => .array .int
  | 6 => .array .int
  | 7 => .array .int
  | 8 => .array .int
  | 9 => .array .int
  | 10 => .boolean
  | 11 => .int
  | 12 => .int
  | _ => .int
abbrev wsX70 : List Cond := u_ws RX7 TX7 14
theorem nmX7 : ∀ a, a < 14 → ∀ b, b < 14 → a ≠ b → (TX7 a).2.1 ≠ (TX7 b).2.1 := by decide +kernel
theorem tyX7_ok : ∀ k, k < 14 → parseFieldDescriptor (TX7 k).2.2.1 = some (tyX7 k) := by decide +kernel
abbrev cX7_init : ByteArray := prog_9_method_1_code
def yX7_init : MethodName := ⟨RX7, "<init>", "()V"⟩
abbrev cX7_become : ByteArray := prog_9_method_2_code
def yX7_become : MethodName := ⟨RX7, "become", "(LMendedWebs$State;)V"⟩
abbrev cX7_write : ByteArray := prog_9_method_3_code
def yX7_write : MethodName := ⟨RX7, "write", "(IIIIII)V"⟩
abbrev cX7_flipTo : ByteArray := prog_9_method_4_code
def yX7_flipTo : MethodName := ⟨RX7, "flipTo", "(III)V"⟩
abbrev cX7_mendTo : ByteArray := prog_9_method_5_code
def yX7_mendTo : MethodName := ⟨RX7, "mendTo", "(II)V"⟩
abbrev cX7_takeBackFrom : ByteArray := prog_9_method_6_code
def yX7_takeBackFrom : MethodName := ⟨RX7, "takeBackFrom", "(I)V"⟩
abbrev cX7_takeOutcome : ByteArray := prog_9_method_7_code
def yX7_takeOutcome : MethodName := ⟨RX7, "takeOutcome", "(IILMendedWebs$LineWork;)V"⟩
abbrev cX7_payOut : ByteArray := prog_9_method_8_code
def yX7_payOut : MethodName := ⟨RX7, "payOut", "(I)V"⟩
abbrev cX7_flipByLots : ByteArray := prog_9_method_9_code
def yX7_flipByLots : MethodName := ⟨RX7, "flipByLots", "(I)V"⟩
abbrev cX7_draw : ByteArray := prog_9_method_10_code
def yX7_draw : MethodName := ⟨RX7, "draw", "(I)I"⟩
abbrev cX7_bearsOn : ByteArray := prog_9_method_11_code
def yX7_bearsOn : MethodName := ⟨RX7, "bearsOn", "(I)I"⟩
abbrev cX7_lawsToAsk : ByteArray := prog_9_method_12_code
def yX7_lawsToAsk : MethodName := ⟨RX7, "lawsToAsk", "(III)I"⟩
abbrev cX7_basePrices : ByteArray := prog_9_method_13_code
def yX7_basePrices : MethodName := ⟨RX7, "basePrices", "([I)V"⟩
def RX8 : String := "MendedWebs$Text"
def TX8 : u_T := fun k => match k with
  | 0 => ("MendedWebs$Text", "count", "I", false)
  | 1 => ("MendedWebs$Text", "size", "I", false)
  | 2 => ("MendedWebs$Text", "code", "[I", true)
  | 3 => ("MendedWebs$Text", "start", "[I", true)
  | 4 => ("MendedWebs$Text", "nodeEnd", "[I", true)
  | 5 => ("MendedWebs$Text", "valueEnd", "[I", true)
  | 6 => ("MendedWebs$Text", "testEnd", "[I", true)
  | 7 => ("MendedWebs$Text", "target", "[I", true)
  | _ => ("MendedWebs$Text", "needs", "[I", true)
def tyX8 : Nat → FieldType := fun k => match k with
  | 0 => .int
  | 1 => .int
  | 2 => .array .int
  | 3 => .array .int
  | 4 => .array .int
  | 5 => .array .int
  | 6 => .array .int
  | 7 => .array .int
  | _ => .array .int
abbrev wsX80 : List Cond := u_ws RX8 TX8 9
theorem nmX8 : ∀ a, a < 9 → ∀ b, b < 9 → a ≠ b → (TX8 a).2.1 ≠ (TX8 b).2.1 := by decide +kernel
theorem tyX8_ok : ∀ k, k < 9 → parseFieldDescriptor (TX8 k).2.2.1 = some (tyX8 k) := by decide +kernel
abbrev cX8_init : ByteArray := prog_10_method_1_code
def yX8_init : MethodName := ⟨RX8, "<init>", "()V"⟩
abbrev cX8_clear : ByteArray := prog_10_method_2_code
def yX8_clear : MethodName := ⟨RX8, "clear", "()V"⟩
abbrev cX8_become : ByteArray := prog_10_method_3_code
def yX8_become : MethodName := ⟨RX8, "become", "(LMendedWebs$Text;)V"⟩
abbrev cX8_has : ByteArray := prog_10_method_4_code
def yX8_has : MethodName := ⟨RX8, "has", "(I)Z"⟩
abbrev cX8_targetOf : ByteArray := prog_10_method_5_code
def yX8_targetOf : MethodName := ⟨RX8, "targetOf", "(I)I"⟩
abbrev cX8_emit : ByteArray := prog_10_method_6_code
def yX8_emit : MethodName := ⟨RX8, "emit", "(II)V"⟩
abbrev cX8_beginRow : ByteArray := prog_10_method_7_code
def yX8_beginRow : MethodName := ⟨RX8, "beginRow", "()V"⟩
abbrev cX8_aimAt : ByteArray := prog_10_method_8_code
def yX8_aimAt : MethodName := ⟨RX8, "aimAt", "(I)V"⟩
abbrev cX8_endNode : ByteArray := prog_10_method_9_code
def yX8_endNode : MethodName := ⟨RX8, "endNode", "()V"⟩
abbrev cX8_endValue : ByteArray := prog_10_method_10_code
def yX8_endValue : MethodName := ⟨RX8, "endValue", "()V"⟩
abbrev cX8_need : ByteArray := prog_10_method_11_code
def yX8_need : MethodName := ⟨RX8, "need", "(I)V"⟩
abbrev cX8_endRow : ByteArray := prog_10_method_12_code
def yX8_endRow : MethodName := ⟨RX8, "endRow", "()V"⟩
def RX9 : String := "MendedWebs$Watch"
def TX9 : u_T := fun k => match k with
  | 0 => ("MendedWebs$Watch", "how", "I", false)
  | 1 => ("MendedWebs$Watch", "from", "I", false)
  | 2 => ("MendedWebs$Watch", "to", "I", false)
  | 3 => ("MendedWebs$Watch", "brokenSince", "[I", true)
  | 4 => ("MendedWebs$Watch", "seenIn", "[I", true)
  | _ => ("MendedWebs$Watch", "late", "[I", true)
def tyX9 : Nat → FieldType := fun k => match k with
  | 0 => .int
  | 1 => .int
  | 2 => .int
  | 3 => .array .int
  | 4 => .array .int
  | _ => .array .int
abbrev wsX90 : List Cond := u_ws RX9 TX9 6
theorem nmX9 : ∀ a, a < 6 → ∀ b, b < 6 → a ≠ b → (TX9 a).2.1 ≠ (TX9 b).2.1 := by decide +kernel
theorem tyX9_ok : ∀ k, k < 6 → parseFieldDescriptor (TX9 k).2.2.1 = some (tyX9 k) := by decide +kernel
abbrev cX9_init : ByteArray := prog_11_method_1_code
def yX9_init : MethodName := ⟨RX9, "<init>", "()V"⟩
abbrev cX9_forget : ByteArray := prog_11_method_2_code
def yX9_forget : MethodName := ⟨RX9, "forget", "()V"⟩
abbrev cX9_become : ByteArray := prog_11_method_3_code
def yX9_become : MethodName := ⟨RX9, "become", "(LMendedWebs$Watch;)V"⟩
abbrev cX9_isWithinRoutine : ByteArray := prog_11_method_4_code
def yX9_isWithinRoutine : MethodName := ⟨RX9, "isWithinRoutine", "(I)Z"⟩
abbrev cX9_noteBroken : ByteArray := prog_11_method_5_code
def yX9_noteBroken : MethodName := ⟨RX9, "noteBroken", "(III)V"⟩
abbrev cX9_noteSeen : ByteArray := prog_11_method_6_code
def yX9_noteSeen : MethodName := ⟨RX9, "noteSeen", "(II)V"⟩
def RX10 : String := "MendedWebs$Web"
def TX10 : u_T := fun k => match k with
  | 0 => ("MendedWebs$Web", "cells", "[I", true)
  | _ => ("MendedWebs$Web", "marks", "I", false)
def tyX10 : Nat → FieldType := fun k => match k with
  | 0 => .array .int
  | _ => .int
abbrev wsX100 : List Cond := u_ws RX10 TX10 2
theorem nmX10 : ∀ a, a < 2 → ∀ b, b < 2 → a ≠ b → (TX10 a).2.1 ≠ (TX10 b).2.1 := by decide +kernel
theorem tyX10_ok : ∀ k, k < 2 → parseFieldDescriptor (TX10 k).2.2.1 = some (tyX10 k) := by decide +kernel
abbrev cX10_init : ByteArray := prog_12_method_1_code
def yX10_init : MethodName := ⟨RX10, "<init>", "()V"⟩
abbrev cX10_become : ByteArray := prog_12_method_2_code
def yX10_become : MethodName := ⟨RX10, "become", "(LMendedWebs$Web;)V"⟩
abbrev cX10_markOf : ByteArray := prog_12_method_3_code
def yX10_markOf : MethodName := ⟨RX10, "markOf", "(I)I"⟩
abbrev cX10_mark : ByteArray := prog_12_method_4_code
def yX10_mark : MethodName := ⟨RX10, "mark", "(II)V"⟩
def RX11 : String := "MendedWebs"
def TX11 : u_T := fun k => match k with
  | 0 => ("MendedWebs", "tape", "[I", true)
  | 1 => ("MendedWebs", "tapeLength", "I", false)
  | 2 => ("MendedWebs", "faultPlace", "I", false)
  | 3 => ("MendedWebs", "refusedBy", "I", false)
  | 4 => ("MendedWebs", "now", "LMendedWebs$State;", false)
  | 5 => ("MendedWebs", "spare", "LMendedWebs$State;", false)
  | 6 => ("MendedWebs", "images", "[LMendedWebs$State;", true)
  | 7 => ("MendedWebs", "compiler", "LMendedWebs$Compiler;", true)
  | 8 => ("MendedWebs", "reader", "LMendedWebs$Reader;", true)
  | 9 => ("MendedWebs", "work", "LMendedWebs$LineWork;", true)
  | 10 => ("MendedWebs", "mender", "LMendedWebs$Mender;", true)
  | _ => ("MendedWebs", "paper", "LMendedWebs$Paper;", true)
def tyX11 : Nat → FieldType := fun k => match k with
  | 0 => .array .int
  | 1 => .int
  | 2 => .int
  | 3 => .int
  | 4 => .object "MendedWebs$State"
  | 5 => .object "MendedWebs$State"
  | 6 => .array (.object "MendedWebs$State")
  | 7 => .object "MendedWebs$Compiler"
  | 8 => .object "MendedWebs$Reader"
  | 9 => .object "MendedWebs$LineWork"
  | 10 => .object "MendedWebs$Mender"
  | _ => .object "MendedWebs$Paper"
abbrev wsX110 : List Cond := u_ws RX11 TX11 12
theorem nmX11 : ∀ a, a < 12 → ∀ b, b < 12 → a ≠ b → (TX11 a).2.1 ≠ (TX11 b).2.1 := by decide +kernel
theorem tyX11_ok : ∀ k, k < 12 → parseFieldDescriptor (TX11 k).2.2.1 = some (tyX11 k) := by decide +kernel
abbrev cX11_init : ByteArray := prog_1_method_1_code
def yX11_init : MethodName := ⟨RX11, "<init>", "()V"⟩
abbrev cX11_feed : ByteArray := prog_1_method_2_code
def yX11_feed : MethodName := ⟨RX11, "feed", "(IIIII)I"⟩
abbrev cX11_feedFour : ByteArray := prog_1_method_3_code
def yX11_feedFour : MethodName := ⟨RX11, "feedFour", "(I)V"⟩
abbrev cX11_end : ByteArray := prog_1_method_4_code
def yX11_end : MethodName := ⟨RX11, "end", "(I)I"⟩
abbrev cX11_laws : ByteArray := prog_1_method_5_code
def yX11_laws : MethodName := ⟨RX11, "laws", "()I"⟩
abbrev cX11_lines : ByteArray := prog_1_method_6_code
def yX11_lines : MethodName := ⟨RX11, "lines", "()I"⟩
abbrev cX11_fault : ByteArray := prog_1_method_7_code
def yX11_fault : MethodName := ⟨RX11, "fault", "()I"⟩
abbrev cX11_holds : ByteArray := prog_1_method_8_code
def yX11_holds : MethodName := ⟨RX11, "holds", "(I)I"⟩
abbrev cX11_bears : ByteArray := prog_1_method_9_code
def yX11_bears : MethodName := ⟨RX11, "bears", "(I)I"⟩
abbrev cX11_asked : ByteArray := prog_1_method_10_code
def yX11_asked : MethodName := ⟨RX11, "asked", "(I)I"⟩
abbrev cX11_cell : ByteArray := prog_1_method_11_code
def yX11_cell : MethodName := ⟨RX11, "cell", "(II)I"⟩
abbrev cX11_way : ByteArray := prog_1_method_12_code
def yX11_way : MethodName := ⟨RX11, "way", "(II)I"⟩
abbrev cX11_flip : ByteArray := prog_1_method_13_code
def yX11_flip : MethodName := ⟨RX11, "flip", "(II)I"⟩
abbrev cX11_row : ByteArray := prog_1_method_14_code
def yX11_row : MethodName := ⟨RX11, "row", "(I)I"⟩
abbrev cX11_lots : ByteArray := prog_1_method_15_code
def yX11_lots : MethodName := ⟨RX11, "lots", "(II)I"⟩
abbrev cX11_watch : ByteArray := prog_1_method_16_code
def yX11_watch : MethodName := ⟨RX11, "watch", "(I)I"⟩
abbrev cX11_routine : ByteArray := prog_1_method_17_code
def yX11_routine : MethodName := ⟨RX11, "routine", "(II)I"⟩
abbrev cX11_step : ByteArray := prog_1_method_18_code
def yX11_step : MethodName := ⟨RX11, "step", "(I)I"⟩
abbrev cX11_stepOnce : ByteArray := prog_1_method_19_code
def yX11_stepOnce : MethodName := ⟨RX11, "stepOnce", "()V"⟩
abbrev cX11_watchStep : ByteArray := prog_1_method_20_code
def yX11_watchStep : MethodName := ⟨RX11, "watchStep", "(II)V"⟩
abbrev cX11_seen : ByteArray := prog_1_method_21_code
def yX11_seen : MethodName := ⟨RX11, "seen", "(II)I"⟩
abbrev cX11_all : ByteArray := prog_1_method_22_code
def yX11_all : MethodName := ⟨RX11, "all", "(I)I"⟩
abbrev cX11_out : ByteArray := prog_1_method_23_code
def yX11_out : MethodName := ⟨RX11, "out", "(I)I"⟩
abbrev cX11_price : ByteArray := prog_1_method_24_code
def yX11_price : MethodName := ⟨RX11, "price", "(II)I"⟩
abbrev cX11_copy : ByteArray := prog_1_method_25_code
def yX11_copy : MethodName := ⟨RX11, "copy", "()I"⟩
abbrev cX11_weighty : ByteArray := prog_1_method_26_code
def yX11_weighty : MethodName := ⟨RX11, "weighty", "(I)I"⟩
abbrev cX11_least : ByteArray := prog_1_method_27_code
def yX11_least : MethodName := ⟨RX11, "least", "(II)I"⟩
abbrev cX11_mends : ByteArray := prog_1_method_28_code
def yX11_mends : MethodName := ⟨RX11, "mends", "(IIII)I"⟩
abbrev cX11_mend : ByteArray := prog_1_method_29_code
def yX11_mend : MethodName := ⟨RX11, "mend", "(II)I"⟩
abbrev cX11_sure : ByteArray := prog_1_method_30_code
def yX11_sure : MethodName := ⟨RX11, "sure", "(I)I"⟩
abbrev cX11_spread : ByteArray := prog_1_method_31_code
def yX11_spread : MethodName := ⟨RX11, "spread", "(II)I"⟩
abbrev cX11_again : ByteArray := prog_1_method_32_code
def yX11_again : MethodName := ⟨RX11, "again", "(I)I"⟩
abbrev cX11_doAgain : ByteArray := prog_1_method_33_code
def yX11_doAgain : MethodName := ⟨RX11, "doAgain", "(LMendedWebs$State;I)I"⟩
abbrev cX11_putIn : ByteArray := prog_1_method_34_code
def yX11_putIn : MethodName := ⟨RX11, "putIn", "(II)I"⟩
abbrev cX11_image : ByteArray := prog_1_method_35_code
def yX11_image : MethodName := ⟨RX11, "image", "(I)I"⟩
abbrev cX11_back : ByteArray := prog_1_method_36_code
def yX11_back : MethodName := ⟨RX11, "back", "(I)I"⟩
abbrev cX11_status : ByteArray := prog_1_method_37_code
def yX11_status : MethodName := ⟨RX11, "status", "()I"⟩
abbrev cX11_refuse : ByteArray := prog_1_method_38_code
def yX11_refuse : MethodName := ⟨RX11, "refuse", "(I)I"⟩
abbrev cX11_answer : ByteArray := prog_1_method_39_code
def yX11_answer : MethodName := ⟨RX11, "answer", "(I)I"⟩
abbrev cX11_changed : ByteArray := prog_1_method_40_code
def yX11_changed : MethodName := ⟨RX11, "changed", "()V"⟩
abbrev cX11_isCell : ByteArray := prog_1_method_41_code
def yX11_isCell : MethodName := ⟨RX11, "isCell", "(I)Z"⟩
abbrev cX11_isNumber : ByteArray := prog_1_method_42_code
def yX11_isNumber : MethodName := ⟨RX11, "isNumber", "(I)Z"⟩
abbrev cX11_lowestOf : ByteArray := prog_1_method_43_code
def yX11_lowestOf : MethodName := ⟨RX11, "lowestOf", "(I)I"⟩
abbrev cX11_highestOf : ByteArray := prog_1_method_44_code
def yX11_highestOf : MethodName := ⟨RX11, "highestOf", "(I)I"⟩
abbrev cX11_canBe : ByteArray := prog_1_method_45_code
def yX11_canBe : MethodName := ⟨RX11, "canBe", "(II)Z"⟩
abbrev cX11_kindOf : ByteArray := prog_1_method_46_code
def yX11_kindOf : MethodName := ⟨RX11, "kindOf", "(I)I"⟩
def RX12 : String := "MendedWebsModel"
def TX12 : u_T := fun k => match k with
  | 0 => ("MendedWebsModel", "thrown", "I", false)
  | 1 => ("MendedWebsModel", "status", "I", false)
  | 2 => ("MendedWebsModel", "row", "[I", true)
  | 3 => ("MendedWebsModel", "spare", "[I", true)
  | 4 => ("MendedWebsModel", "images", "[I", true)
  | 5 => ("MendedWebsModel", "isKept", "[Z", true)
  | 6 => ("MendedWebsModel", "wayNode", "[I", true)
  | 7 => ("MendedWebsModel", "wayMany", "I", false)
  | 8 => ("MendedWebsModel", "wayEnds", "Z", false)
  | 9 => ("MendedWebsModel", "reads", "I", false)
  | 10 => ("MendedWebsModel", "tape", "[I", true)
  | 11 => ("MendedWebsModel", "taped", "I", false)
  | 12 => ("MendedWebsModel", "from", "I", false)
  | 13 => ("MendedWebsModel", "to", "I", false)
  | 14 => ("MendedWebsModel", "sort", "I", false)
  | 15 => ("MendedWebsModel", "worth", "J", false)
  | 16 => ("MendedWebsModel", "fault", "I", false)
  | 17 => ("MendedWebsModel", "bad", "Z", false)
  | 18 => ("MendedWebsModel", "tokens", "I", false)
  | 19 => ("MendedWebsModel", "mayKey", "Z", false)
  | 20 => ("MendedWebsModel", "nCode", "I", false)
  | 21 => ("MendedWebsModel", "nOp", "[I", true)
  | 22 => ("MendedWebsModel", "nArg", "[I", true)
  | 23 => ("MendedWebsModel", "pile", "[I", true)
  | 24 => ("MendedWebsModel", "piled", "I", false)
  | 25 => ("MendedWebsModel", "opened", "I", false)
  | 26 => ("MendedWebsModel", "over", "[I", true)
  | 27 => ("MendedWebsModel", "nRow", "[I", true)
  | 28 => ("MendedWebsModel", "nMany", "I", false)
  | 29 => ("MendedWebsModel", "rest", "[I", true)
  | 30 => ("MendedWebsModel", "amiss", "Z", false)
  | 31 => ("MendedWebsModel", "payment", "I", false)
  | 32 => ("MendedWebsModel", "isHeld", "Z", false)
  | 33 => ("MendedWebsModel", "lookedFor", "I", false)
  | 34 => ("MendedWebsModel", "leastPrice", "I", false)
  | 35 => ("MendedWebsModel", "leastCells", "I", false)
  | 36 => ("MendedWebsModel", "found", "I", false)
  | 37 => ("MendedWebsModel", "mends", "[J", true)
  | 38 => ("MendedWebsModel", "changed", "[I", true)
  | 39 => ("MendedWebsModel", "becomes", "[I", true)
  | 40 => ("MendedWebsModel", "had", "[I", true)
  | 41 => ("MendedWebsModel", "asks", "[I", true)
  | 42 => ("MendedWebsModel", "spent", "[I", true)
  | 43 => ("MendedWebsModel", "paper", "[I", true)
  | 44 => ("MendedWebsModel", "paid", "[I", true)
  | 45 => ("MendedWebsModel", "paidMany", "I", false)
  | 46 => ("MendedWebsModel", "heldMany", "I", false)
  | _ => ("MendedWebsModel", "plainPaid", "[I", true)
def tyX12 : Nat → FieldType := fun k => match k with
  | 0 => .int
  | 1 => .int
  | 2 => .array .int
  | 3 => .array .int
  | 4 => .array .int
  | 5 => .array .boolean
  | 6 => .array .int
  | 7 => .int
  | 8 => .boolean
  | 9 => .int
  | 10 => .array .int
  | 11 => .int
  | 12 => .int
  | 13 => .int
  | 14 => .int
  | 15 => .long
  | 16 => .int
  | 17 => .boolean
  | 18 => .int
  | 19 => .boolean
  | 20 => .int
  | 21 => .array .int
  | 22 => .array .int
  | 23 => .array .int
  | 24 => .int
  | 25 => .int
  | 26 => .array .int
  | 27 => .array .int
  | 28 => .int
  | 29 => .array .int
  | 30 => .boolean
  | 31 => .int
  | 32 => .boolean
  | 33 => .int
  | 34 => .int
  | 35 => .int
  | 36 => .int
  | 37 => .array .long
  | 38 => .array .int
  | 39 => .array .int
  | 40 => .array .int
  | 41 => .array .int
  | 42 => .array .int
  | 43 => .array .int
  | 44 => .array .int
  | 45 => .int
  | 46 => .int
  | _ => .array .int
abbrev wsX120 : List Cond := u_ws RX12 TX12 48
theorem nmX12 : ∀ a, a < 48 → ∀ b, b < 48 → a ≠ b → (TX12 a).2.1 ≠ (TX12 b).2.1 := by decide +kernel
theorem tyX12_ok : ∀ k, k < 48 → parseFieldDescriptor (TX12 k).2.2.1 = some (tyX12 k) := by decide +kernel
abbrev cX12_init : ByteArray := prog_14_method_1_code
def yX12_init : MethodName := ⟨RX12, "<init>", "()V"⟩
abbrev cX12_in : ByteArray := prog_14_method_3_code
def yX12_in : MethodName := ⟨RX12, "in", "(JJJ)Z"⟩
abbrev cX12_tell : ByteArray := prog_14_method_4_code
def yX12_tell : MethodName := ⟨RX12, "tell", "(I)I"⟩
abbrev cX12_image : ByteArray := prog_14_method_5_code
def yX12_image : MethodName := ⟨RX12, "image", "(I)I"⟩
abbrev cX12_back : ByteArray := prog_14_method_6_code
def yX12_back : MethodName := ⟨RX12, "back", "(I)I"⟩
abbrev cX12_isNode : ByteArray := prog_14_method_7_code
def yX12_isNode : MethodName := ⟨RX12, "isNode", "(I)Z"⟩
abbrev cX12_isCell : ByteArray := prog_14_method_8_code
def yX12_isCell : MethodName := ⟨RX12, "isCell", "(I)Z"⟩
abbrev cX12_canBe : ByteArray := prog_14_method_9_code
def yX12_canBe : MethodName := ⟨RX12, "canBe", "(II)Z"⟩
abbrev cX12_nextOf : ByteArray := prog_14_method_10_code
def yX12_nextOf : MethodName := ⟨RX12, "nextOf", "(I)I"⟩
abbrev cX12_backOf : ByteArray := prog_14_method_11_code
def yX12_backOf : MethodName := ⟨RX12, "backOf", "(I)I"⟩
abbrev cX12_keyOf : ByteArray := prog_14_method_12_code
def yX12_keyOf : MethodName := ⟨RX12, "keyOf", "(I)I"⟩
abbrev cX12_findWay : ByteArray := prog_14_method_13_code
def yX12_findWay : MethodName := ⟨RX12, "findWay", "(I)V"⟩
abbrev cX12_readCell : ByteArray := prog_14_method_14_code
def yX12_readCell : MethodName := ⟨RX12, "readCell", "(I)V"⟩
abbrev cX12_readWay : ByteArray := prog_14_method_15_code
def yX12_readWay : MethodName := ⟨RX12, "readWay", "(IZZ)V"⟩
abbrev cX12_four : ByteArray := prog_14_method_16_code
def yX12_four : MethodName := ⟨RX12, "four", "(I)V"⟩
abbrev cX12_feed : ByteArray := prog_14_method_17_code
def yX12_feed : MethodName := ⟨RX12, "feed", "(IIIII)I"⟩
abbrev cX12_end : ByteArray := prog_14_method_18_code
def yX12_end : MethodName := ⟨RX12, "end", "(I)I"⟩
abbrev cX12_isSmall : ByteArray := prog_14_method_19_code
def yX12_isSmall : MethodName := ⟨RX12, "isSmall", "(I)Z"⟩
abbrev cX12_isDigit : ByteArray := prog_14_method_20_code
def yX12_isDigit : MethodName := ⟨RX12, "isDigit", "(I)Z"⟩
abbrev cX12_begin : ByteArray := prog_14_method_21_code
def yX12_begin : MethodName := ⟨RX12, "begin", "()V"⟩
abbrev cX12_next : ByteArray := prog_14_method_22_code
def yX12_next : MethodName := ⟨RX12, "next", "()V"⟩
abbrev cX12_isWord : ByteArray := prog_14_method_23_code
def yX12_isWord : MethodName := ⟨RX12, "isWord", "(J)Z"⟩
abbrev cX12_isSign : ByteArray := prog_14_method_24_code
def yX12_isSign : MethodName := ⟨RX12, "isSign", "(I)Z"⟩
abbrev cX12_wrong : ByteArray := prog_14_method_25_code
def yX12_wrong : MethodName := ⟨RX12, "wrong", "()V"⟩
abbrev cX12_pass : ByteArray := prog_14_method_26_code
def yX12_pass : MethodName := ⟨RX12, "pass", "()V"⟩
abbrev cX12_must : ByteArray := prog_14_method_27_code
def yX12_must : MethodName := ⟨RX12, "must", "(Z)V"⟩
abbrev cX12_number : ByteArray := prog_14_method_28_code
def yX12_number : MethodName := ⟨RX12, "number", "(J)I"⟩
abbrev cX12_fault : ByteArray := prog_14_method_29_code
def yX12_fault : MethodName := ⟨RX12, "fault", "()I"⟩
abbrev cX12_emit : ByteArray := prog_14_method_30_code
def yX12_emit : MethodName := ⟨RX12, "emit", "(II)V"⟩
abbrev cX12_push : ByteArray := prog_14_method_31_code
def yX12_push : MethodName := ⟨RX12, "push", "(I)V"⟩
abbrev cX12_binds : ByteArray := prog_14_method_32_code
def yX12_binds : MethodName := ⟨RX12, "binds", "(I)I"⟩
abbrev cX12_settle : ByteArray := prog_14_method_33_code
def yX12_settle : MethodName := ⟨RX12, "settle", "(I)V"⟩
abbrev cX12_inner : ByteArray := prog_14_method_34_code
def yX12_inner : MethodName := ⟨RX12, "inner", "()I"⟩
abbrev cX12_isCompared : ByteArray := prog_14_method_35_code
def yX12_isCompared : MethodName := ⟨RX12, "isCompared", "()Z"⟩
abbrev cX12_open : ByteArray := prog_14_method_36_code
def yX12_open : MethodName := ⟨RX12, "open", "(Z)V"⟩
abbrev cX12_close : ByteArray := prog_14_method_37_code
def yX12_close : MethodName := ⟨RX12, "close", "()V"⟩
abbrev cX12_readNode : ByteArray := prog_14_method_38_code
def yX12_readNode : MethodName := ⟨RX12, "readNode", "()V"⟩
abbrev cX12_readPart : ByteArray := prog_14_method_39_code
def yX12_readPart : MethodName := ⟨RX12, "readPart", "()I"⟩
abbrev cX12_readPlain : ByteArray := prog_14_method_40_code
def yX12_readPlain : MethodName := ⟨RX12, "readPlain", "()I"⟩
abbrev cX12_behindSum : ByteArray := prog_14_method_41_code
def yX12_behindSum : MethodName := ⟨RX12, "behindSum", "(Z)I"⟩
abbrev cX12_behindTest : ByteArray := prog_14_method_42_code
def yX12_behindTest : MethodName := ⟨RX12, "behindTest", "()I"⟩
abbrev cX12_readExpression : ByteArray := prog_14_method_43_code
def yX12_readExpression : MethodName := ⟨RX12, "readExpression", "(Z)V"⟩
abbrev cX12_readLaw : ByteArray := prog_14_method_44_code
def yX12_readLaw : MethodName := ⟨RX12, "readLaw", "()V"⟩
abbrev cX12_clearLaws : ByteArray := prog_14_method_45_code
def yX12_clearLaws : MethodName := ⟨RX12, "clearLaws", "()V"⟩
abbrev cX12_lay : ByteArray := prog_14_method_46_code
def yX12_lay : MethodName := ⟨RX12, "lay", "(II)V"⟩
abbrev cX12_isMore : ByteArray := prog_14_method_47_code
def yX12_isMore : MethodName := ⟨RX12, "isMore", "()Z"⟩
abbrev cX12_laws : ByteArray := prog_14_method_48_code
def yX12_laws : MethodName := ⟨RX12, "laws", "()I"⟩
abbrev cX12_readPlace : ByteArray := prog_14_method_49_code
def yX12_readPlace : MethodName := ⟨RX12, "readPlace", "(I)V"⟩
abbrev cX12_readWhat : ByteArray := prog_14_method_50_code
def yX12_readWhat : MethodName := ⟨RX12, "readWhat", "(I)V"⟩
abbrev cX12_readLine : ByteArray := prog_14_method_51_code
def yX12_readLine : MethodName := ⟨RX12, "readLine", "()V"⟩
abbrev cX12_lines : ByteArray := prog_14_method_52_code
def yX12_lines : MethodName := ⟨RX12, "lines", "()I"⟩
abbrev cX12_reckon : ByteArray := prog_14_method_53_code
def yX12_reckon : MethodName := ⟨RX12, "reckon", "(III)I"⟩
abbrev cX12_leafOf : ByteArray := prog_14_method_54_code
def yX12_leafOf : MethodName := ⟨RX12, "leafOf", "(II)I"⟩
abbrev cX12_cellOf : ByteArray := prog_14_method_55_code
def yX12_cellOf : MethodName := ⟨RX12, "cellOf", "(II)I"⟩
abbrev cX12_joined : ByteArray := prog_14_method_56_code
def yX12_joined : MethodName := ⟨RX12, "joined", "(III)I"⟩
abbrev cX12_isLaw : ByteArray := prog_14_method_57_code
def yX12_isLaw : MethodName := ⟨RX12, "isLaw", "(I)Z"⟩
abbrev cX12_isTwin : ByteArray := prog_14_method_58_code
def yX12_isTwin : MethodName := ⟨RX12, "isTwin", "()Z"⟩
abbrev cX12_isRising : ByteArray := prog_14_method_59_code
def yX12_isRising : MethodName := ⟨RX12, "isRising", "()Z"⟩
abbrev cX12_areApart : ByteArray := prog_14_method_60_code
def yX12_areApart : MethodName := ⟨RX12, "areApart", "(I)Z"⟩
abbrev cX12_doesHold : ByteArray := prog_14_method_61_code
def yX12_doesHold : MethodName := ⟨RX12, "doesHold", "(I)Z"⟩
abbrev cX12_holds : ByteArray := prog_14_method_62_code
def yX12_holds : MethodName := ⟨RX12, "holds", "(I)I"⟩
abbrev cX12_askedOf : ByteArray := prog_14_method_63_code
def yX12_askedOf : MethodName := ⟨RX12, "askedOf", "(I)I"⟩
abbrev cX12_asked : ByteArray := prog_14_method_64_code
def yX12_asked : MethodName := ⟨RX12, "asked", "(I)I"⟩
abbrev cX12_wordsOf : ByteArray := prog_14_method_65_code
def yX12_wordsOf : MethodName := ⟨RX12, "wordsOf", "(I)I"⟩
abbrev cX12_bearsOn : ByteArray := prog_14_method_66_code
def yX12_bearsOn : MethodName := ⟨RX12, "bearsOn", "(II)Z"⟩
abbrev cX12_isLine : ByteArray := prog_14_method_67_code
def yX12_isLine : MethodName := ⟨RX12, "isLine", "(I)Z"⟩
abbrev cX12_bears : ByteArray := prog_14_method_68_code
def yX12_bears : MethodName := ⟨RX12, "bears", "(I)I"⟩
abbrev cX12_keepWrite : ByteArray := prog_14_method_69_code
def yX12_keepWrite : MethodName := ⟨RX12, "keepWrite", "(IIIII)V"⟩
abbrev cX12_mark : ByteArray := prog_14_method_70_code
def yX12_mark : MethodName := ⟨RX12, "mark", "(IZ)V"⟩
abbrev cX12_cell : ByteArray := prog_14_method_71_code
def yX12_cell : MethodName := ⟨RX12, "cell", "(II)I"⟩
abbrev cX12_way : ByteArray := prog_14_method_72_code
def yX12_way : MethodName := ⟨RX12, "way", "(II)I"⟩
abbrev cX12_flipCell : ByteArray := prog_14_method_73_code
def yX12_flipCell : MethodName := ⟨RX12, "flipCell", "(II)V"⟩
abbrev cX12_flip : ByteArray := prog_14_method_74_code
def yX12_flip : MethodName := ⟨RX12, "flip", "(II)I"⟩
abbrev cX12_row : ByteArray := prog_14_method_75_code
def yX12_row : MethodName := ⟨RX12, "row", "(I)I"⟩
abbrev cX12_lots : ByteArray := prog_14_method_76_code
def yX12_lots : MethodName := ⟨RX12, "lots", "(II)I"⟩
abbrev cX12_watch : ByteArray := prog_14_method_77_code
def yX12_watch : MethodName := ⟨RX12, "watch", "(I)I"⟩
abbrev cX12_routine : ByteArray := prog_14_method_78_code
def yX12_routine : MethodName := ⟨RX12, "routine", "(II)I"⟩
abbrev cX12_doLine : ByteArray := prog_14_method_79_code
def yX12_doLine : MethodName := ⟨RX12, "doLine", "(IIZ)I"⟩
abbrev cX12_draw : ByteArray := prog_14_method_80_code
def yX12_draw : MethodName := ⟨RX12, "draw", "(I)I"⟩
abbrev cX12_drawLots : ByteArray := prog_14_method_81_code
def yX12_drawLots : MethodName := ⟨RX12, "drawLots", "()V"⟩
abbrev cX12_ask : ByteArray := prog_14_method_82_code
def yX12_ask : MethodName := ⟨RX12, "ask", "(II)V"⟩
abbrev cX12_oneStep : ByteArray := prog_14_method_83_code
def yX12_oneStep : MethodName := ⟨RX12, "oneStep", "()V"⟩
abbrev cX12_step : ByteArray := prog_14_method_84_code
def yX12_step : MethodName := ⟨RX12, "step", "(I)I"⟩
abbrev cX12_seen : ByteArray := prog_14_method_85_code
def yX12_seen : MethodName := ⟨RX12, "seen", "(II)I"⟩
abbrev cX12_all : ByteArray := prog_14_method_86_code
def yX12_all : MethodName := ⟨RX12, "all", "(I)I"⟩
abbrev cX12_out : ByteArray := prog_14_method_87_code
def yX12_out : MethodName := ⟨RX12, "out", "(I)I"⟩
abbrev cX12_price : ByteArray := prog_14_method_88_code
def yX12_price : MethodName := ⟨RX12, "price", "(II)I"⟩
abbrev cX12_copy : ByteArray := prog_14_method_89_code
def yX12_copy : MethodName := ⟨RX12, "copy", "()I"⟩
abbrev cX12_weighty : ByteArray := prog_14_method_90_code
def yX12_weighty : MethodName := ⟨RX12, "weighty", "(I)I"⟩
abbrev cX12_kindOf : ByteArray := prog_14_method_91_code
def yX12_kindOf : MethodName := ⟨RX12, "kindOf", "(I)I"⟩
abbrev cX12_priceOf : ByteArray := prog_14_method_92_code
def yX12_priceOf : MethodName := ⟨RX12, "priceOf", "(II)I"⟩
abbrev cX12_firstBroken : ByteArray := prog_14_method_93_code
def yX12_firstBroken : MethodName := ⟨RX12, "firstBroken", "()I"⟩
abbrev cX12_signOf : ByteArray := prog_14_method_94_code
def yX12_signOf : MethodName := ⟨RX12, "signOf", "(II)J"⟩
abbrev cX12_rowOf : ByteArray := prog_14_method_95_code
def yX12_rowOf : MethodName := ⟨RX12, "rowOf", "(I)J"⟩
abbrev cX12_addMend : ByteArray := prog_14_method_96_code
def yX12_addMend : MethodName := ⟨RX12, "addMend", "(J)V"⟩
abbrev cX12_tellMend : ByteArray := prog_14_method_97_code
def yX12_tellMend : MethodName := ⟨RX12, "tellMend", "(I)V"⟩
abbrev cX12_change : ByteArray := prog_14_method_98_code
def yX12_change : MethodName := ⟨RX12, "change", "(I)Z"⟩
abbrev cX12_mayChange : ByteArray := prog_14_method_99_code
def yX12_mayChange : MethodName := ⟨RX12, "mayChange", "(II)Z"⟩
abbrev cX12_beginAt : ByteArray := prog_14_method_100_code
def yX12_beginAt : MethodName := ⟨RX12, "beginAt", "(II)V"⟩
abbrev cX12_look : ByteArray := prog_14_method_101_code
def yX12_look : MethodName := ⟨RX12, "look", "(I)V"⟩
abbrev cX12_canMend : ByteArray := prog_14_method_102_code
def yX12_canMend : MethodName := ⟨RX12, "canMend", "()Z"⟩
abbrev cX12_many : ByteArray := prog_14_method_103_code
def yX12_many : MethodName := ⟨RX12, "many", "()I"⟩
abbrev cX12_partOf : ByteArray := prog_14_method_104_code
def yX12_partOf : MethodName := ⟨RX12, "partOf", "(JI)I"⟩
abbrev cX12_cellThen : ByteArray := prog_14_method_105_code
def yX12_cellThen : MethodName := ⟨RX12, "cellThen", "(II)I"⟩
abbrev cX12_doDiffer : ByteArray := prog_14_method_106_code
def yX12_doDiffer : MethodName := ⟨RX12, "doDiffer", "()Z"⟩
abbrev cX12_least : ByteArray := prog_14_method_107_code
def yX12_least : MethodName := ⟨RX12, "least", "(II)I"⟩
abbrev cX12_mends : ByteArray := prog_14_method_108_code
def yX12_mends : MethodName := ⟨RX12, "mends", "(IIII)I"⟩
abbrev cX12_mend : ByteArray := prog_14_method_109_code
def yX12_mend : MethodName := ⟨RX12, "mend", "(II)I"⟩
abbrev cX12_sure : ByteArray := prog_14_method_110_code
def yX12_sure : MethodName := ⟨RX12, "sure", "(I)I"⟩
abbrev cX12_isStep : ByteArray := prog_14_method_111_code
def yX12_isStep : MethodName := ⟨RX12, "isStep", "(I)Z"⟩
abbrev cX12_spread : ByteArray := prog_14_method_112_code
def yX12_spread : MethodName := ⟨RX12, "spread", "(II)I"⟩
abbrev cX12_takeBack : ByteArray := prog_14_method_113_code
def yX12_takeBack : MethodName := ⟨RX12, "takeBack", "(I)V"⟩
abbrev cX12_again : ByteArray := prog_14_method_114_code
def yX12_again : MethodName := ⟨RX12, "again", "(I)I"⟩
abbrev cX12_goOn : ByteArray := prog_14_method_115_code
def yX12_goOn : MethodName := ⟨RX12, "goOn", "(I)V"⟩
abbrev cX12_putPaper : ByteArray := prog_14_method_116_code
def yX12_putPaper : MethodName := ⟨RX12, "putPaper", "(I)V"⟩
abbrev cX12_putIn : ByteArray := prog_14_method_117_code
def yX12_putIn : MethodName := ⟨RX12, "putIn", "(II)I"⟩
abbrev cX12_status : ByteArray := prog_14_method_118_code
def yX12_status : MethodName := ⟨RX12, "status", "()I"⟩
def RJ6 : String := "java/lang/Integer"
def TJ6 : u_T := fun k => match k with
  | _ => ("", "", "", false)
def tyJ6 : Nat → FieldType := fun k => match k with
  | _ => .int
abbrev wsJ60 : List Cond := u_ws RJ6 TJ6 0
theorem nmJ6 : ∀ a, a < 0 → ∀ b, b < 0 → a ≠ b → (TJ6 a).2.1 ≠ (TJ6 b).2.1 := by decide +kernel
theorem tyJ6_ok : ∀ k, k < 0 → parseFieldDescriptor (TJ6 k).2.2.1 = some (tyJ6 k) := by decide +kernel
abbrev cJ6_bitCount_0f7a4 : ByteArray := prog_15_method_49_code
def yJ6_bitCount_0f7a4 : MethodName := ⟨RJ6, "bitCount", "(I)I"⟩
def RJ9 : String := "java/lang/Math"
def TJ9 : u_T := fun k => match k with
  | _ => ("", "", "", false)
def tyJ9 : Nat → FieldType := fun k => match k with
  | _ => .int
abbrev wsJ90 : List Cond := u_ws RJ9 TJ9 0
theorem nmJ9 : ∀ a, a < 0 → ∀ b, b < 0 → a ≠ b → (TJ9 a).2.1 ≠ (TJ9 b).2.1 := by decide +kernel
theorem tyJ9_ok : ∀ k, k < 0 → parseFieldDescriptor (TJ9 k).2.2.1 = some (tyJ9 k) := by decide +kernel
abbrev cJ9_floorMod_7cf53 : ByteArray := prog_16_method_50_code
def yJ9_floorMod_7cf53 : MethodName := ⟨RJ9, "floorMod", "(II)I"⟩
abbrev cJ9_max_7cf53 : ByteArray := prog_16_method_65_code
def yJ9_max_7cf53 : MethodName := ⟨RJ9, "max", "(II)I"⟩
abbrev cJ9_min_7cf53 : ByteArray := prog_16_method_69_code
def yJ9_min_7cf53 : MethodName := ⟨RJ9, "min", "(II)I"⟩
def RJ0 : String := "java/lang/String"
def TJ0 : u_T := fun k => match k with
  | _ => ("", "", "", false)
def tyJ0 : Nat → FieldType := fun k => match k with
  | _ => .int
abbrev wsJ00 : List Cond := u_ws RJ0 TJ0 0
theorem nmJ0 : ∀ a, a < 0 → ∀ b, b < 0 → a ≠ b → (TJ0 a).2.1 ≠ (TJ0 b).2.1 := by decide +kernel
theorem tyJ0_ok : ∀ k, k < 0 → parseFieldDescriptor (TJ0 k).2.2.1 = some (tyJ0 k) := by decide +kernel
abbrev cJ0_length_8abf5 : ByteArray := prog_17_method_54_code
def yJ0_length_8abf5 : MethodName := ⟨RJ0, "length", "()I"⟩
abbrev cJ0_charAt_5068e : ByteArray := prog_17_method_56_code
def yJ0_charAt_5068e : MethodName := ⟨RJ0, "charAt", "(I)C"⟩
abbrev cJ0_coder_7d493 : ByteArray := prog_17_method_152_code
def yJ0_coder_7d493 : MethodName := ⟨RJ0, "coder", "()B"⟩
abbrev cJ0_isLatin1_aae02 : ByteArray := prog_17_method_154_code
def yJ0_isLatin1_aae02 : MethodName := ⟨RJ0, "isLatin1", "()Z"⟩
abbrev cJ0_checkIndex_df160 : ByteArray := prog_17_method_155_code
def yJ0_checkIndex_df160 : MethodName := ⟨RJ0, "checkIndex", "(II)V"⟩
def RJ1 : String := "java/lang/StringLatin1"
def TJ1 : u_T := fun k => match k with
  | _ => ("", "", "", false)
def tyJ1 : Nat → FieldType := fun k => match k with
  | _ => .int
abbrev wsJ10 : List Cond := u_ws RJ1 TJ1 0
theorem nmJ1 : ∀ a, a < 0 → ∀ b, b < 0 → a ≠ b → (TJ1 a).2.1 ≠ (TJ1 b).2.1 := by decide +kernel
theorem tyJ1_ok : ∀ k, k < 0 → parseFieldDescriptor (TJ1 k).2.2.1 = some (tyJ1 k) := by decide +kernel
abbrev cJ1_charAt_3b067 : ByteArray := prog_18_method_2_code
def yJ1_charAt_3b067 : MethodName := ⟨RJ1, "charAt", "([BI)C"⟩
def RJ2 : String := "java/lang/StringUTF16"
def TJ2 : u_T := fun k => match k with
  | _ => ("", "", "", false)
def tyJ2 : Nat → FieldType := fun k => match k with
  | _ => .int
abbrev wsJ20 : List Cond := u_ws RJ2 TJ2 0
theorem nmJ2 : ∀ a, a < 0 → ∀ b, b < 0 → a ≠ b → (TJ2 a).2.1 ≠ (TJ2 b).2.1 := by decide +kernel
theorem tyJ2_ok : ∀ k, k < 0 → parseFieldDescriptor (TJ2 k).2.2.1 = some (tyJ2 k) := by decide +kernel
abbrev cJ2_getChar_3b067 : ByteArray := prog_19_method_5_code
def yJ2_getChar_3b067 : MethodName := ⟨RJ2, "getChar", "([BI)C"⟩
abbrev cJ2_length_9d52b : ByteArray := prog_19_method_6_code
def yJ2_length_9d52b : MethodName := ⟨RJ2, "length", "([B)I"⟩
abbrev cJ2_charAt_3b067 : ByteArray := prog_19_method_83_code
def yJ2_charAt_3b067 : MethodName := ⟨RJ2, "charAt", "([BI)C"⟩
abbrev cJ2_checkIndex_2214a : ByteArray := prog_19_method_91_code
def yJ2_checkIndex_2214a : MethodName := ⟨RJ2, "checkIndex", "(I[B)V"⟩
def RJ10 : String := "java/lang/System"
def TJ10 : u_T := fun k => match k with
  | _ => ("", "", "", false)
def tyJ10 : Nat → FieldType := fun k => match k with
  | _ => .int
abbrev wsJ100 : List Cond := u_ws RJ10 TJ10 0
theorem nmJ10 : ∀ a, a < 0 → ∀ b, b < 0 → a ≠ b → (TJ10 a).2.1 ≠ (TJ10 b).2.1 := by decide +kernel
theorem tyJ10_ok : ∀ k, k < 0 → parseFieldDescriptor (TJ10 k).2.2.1 = some (tyJ10 k) := by decide +kernel
def RJ7 : String := "java/util/Arrays"
def TJ7 : u_T := fun k => match k with
  | _ => ("", "", "", false)
def tyJ7 : Nat → FieldType := fun k => match k with
  | _ => .int
abbrev wsJ70 : List Cond := u_ws RJ7 TJ7 0
theorem nmJ7 : ∀ a, a < 0 → ∀ b, b < 0 → a ≠ b → (TJ7 a).2.1 ≠ (TJ7 b).2.1 := by decide +kernel
theorem tyJ7_ok : ∀ k, k < 0 → parseFieldDescriptor (TJ7 k).2.2.1 = some (tyJ7 k) := by decide +kernel
abbrev cJ7_fill_53178 : ByteArray := prog_21_method_103_code
def yJ7_fill_53178 : MethodName := ⟨RJ7, "fill", "([II)V"⟩
def RJ3 : String := "jdk/internal/util/Preconditions"
def TJ3 : u_T := fun k => match k with
  | _ => ("", "", "", false)
def tyJ3 : Nat → FieldType := fun k => match k with
  | _ => .int
abbrev wsJ30 : List Cond := u_ws RJ3 TJ3 0
theorem nmJ3 : ∀ a, a < 0 → ∀ b, b < 0 → a ≠ b → (TJ3 a).2.1 ≠ (TJ3 b).2.1 := by decide +kernel
theorem tyJ3_ok : ∀ k, k < 0 → parseFieldDescriptor (TJ3 k).2.2.1 = some (tyJ3 k) := by decide +kernel
abbrev cJ3_checkIndex_8e157 : ByteArray := prog_22_method_11_code
def yJ3_checkIndex_8e157 : MethodName := ⟨RJ3, "checkIndex", "(IILjava/util/function/BiFunction;)I"⟩
def RL : String := "MendedWebsLaw"
abbrev cL_law : ByteArray := code
def yL_law : MethodName := ⟨RL, "law", "([I)Z"⟩
abbrev vwCl : List vw_C := [(RX0, TX0, 13), (RX1, TX1, 11), (RX2, TX2, 6), (RX3, TX3, 5), (RX4, TX4, 13), (RX5, TX5, 11), (RX6, TX6, 9), (RX7, TX7, 14), (RX8, TX8, 9), (RX9, TX9, 6), (RX10, TX10, 2), (RX11, TX11, 12), (RX12, TX12, 48)]
