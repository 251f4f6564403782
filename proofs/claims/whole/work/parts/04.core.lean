/-! The little machine: values by whole numbers, a memory of ints (mi), of references (mr), the number n of cells made; 'Run': from this place on, the method comes to an end with Q; 'Tx': a call of a method comes to an end with Q. -/
abbrev Ad : Type := Nat × Nat
abbrev V : Type := Int ⊕ (Int ⊕ (Option Ad ⊕ Nat))
abbrev vI (x : Int) : V := Sum.inl x
abbrev vL (x : Int) : V := Sum.inr (Sum.inl x)
abbrev vR (r : Option Ad) : V := Sum.inr (Sum.inr (Sum.inl r))
abbrev vX (k : Nat) : V := Sum.inr (Sum.inr (Sum.inr k))
abbrev MI : Type := Nat → Nat → Int → Int
abbrev MR : Type := Nat → Nat → Int → Option Ad
abbrev MT : Type := MethodName × ByteArray × Nat × Option FieldType × Nat × Nat
abbrev mY (M : MT) : MethodName := M.1
abbrev mC (M : MT) : ByteArray := M.2.1
abbrev mL (M : MT) : Nat := M.2.2.1
abbrev mT (M : MT) : Option FieldType := M.2.2.2.1
abbrev mK (M : MT) : Nat := M.2.2.2.2.1
abbrev mS (M : MT) : Nat := M.2.2.2.2.2
/-- the words of a method: its own code, and all that a call hands on -/
def wsM (M : MT) : List Cond := Cond.code (mY M) (mC M) (mL M) (mT M) :: T0
def rmM (d : Nat) (M : MT) : Room := { frames := d, cells := mK M, slots := mS M, locals := 60 * d }
/-- a value here and in the machine -/
def Rv (n : Nat) (ρ : Ad → Nat) (sx : Nat → Nat) : V → Value → Prop
  | .inl x, v => ∃ y : Int32, v = .int y ∧ y.toInt = x
  | .inr (.inl x), v => ∃ y : Int64, v = .long y ∧ y.toInt = x
  | .inr (.inr (.inl none)), v => v = .null
  | .inr (.inr (.inl (some a))), v => v = .ref (ρ a) ∧ ∃ i, i < n ∧ nm i = a
  | .inr (.inr (.inr k)), v => 0 < k ∧ v = .ref (sx k)
def Rs (n : Nat) (ρ : Ad → Nat) (sx : Nat → Nat) : List V → List Value → Prop
  | [], vs => vs = []
  | x :: xs, vs => ∃ v ws, vs = v :: ws ∧ Rv n ρ sx x v ∧ Rs n ρ sx xs ws
def Rl (n : Nat) (ρ : Ad → Nat) (sx : Nat → Nat) (nL : Nat) (ls : List V) (mls : Array Slot) : Prop :=
  mls.size = nL ∧ lv_wf mls ∧ ∀ (i : Nat) (x : V), ls[i]? = some x → x ≠ vX 0 → ∃ v, mls[i]? = some (.val v) ∧ Rv n ρ sx x v
/-- what a field of a type holds -/
def Rf (n : Nat) (ρ : Ad → Nat) (sx : Nat → Nat) (ty : FieldType) (x : Int) (r : Option Ad) (v : Value) : Prop := match ty with
  | .int => Rv n ρ sx (vI x) v
  | .boolean => Rv n ρ sx (vI x) v
  | .long => Rv n ρ sx (vL x) v
  | _ => Rv n ρ sx (vR r) v
/-- what a cell holds, by its kind -/
def Rc (n : Nat) (ρ : Ad → Nat) (sx : Nat → Nat) (ca : Nat → ClassId) (mi : MI) (mr : MR) (a : Ad) (e : va_E) : Prop :=
  ((kd a.2).1 < 20 ∧ ∃ fs : List Value, e = .inr ((kd a.2).1, fs) ∧ fs.length = (kd a.2).2 ∧ ∀ k, k < (kd a.2).2 → ∃ v, fs[k]? = some v ∧ Rf n ρ sx (ft (kd a.2).1 k) (mi a.1 a.2 k) (mr a.1 a.2 k) v)
  ∨ ((kd a.2).1 = 20 ∧ ∃ f : Nat → Int32, e = .inl (ca 0, (kd a.2).2, .inl f) ∧ ∀ k : Nat, k < (kd a.2).2 → (f k).toInt = mi a.1 a.2 k)
  ∨ ((kd a.2).1 = 21 ∧ ∃ f : Nat → Int64, e = .inl (ca 1, (kd a.2).2, .inr (.inl f)) ∧ ∀ k : Nat, k < (kd a.2).2 → (f k).toInt = mi a.1 a.2 k)
  ∨ ((kd a.2).1 = 22 ∧ ∃ f : Nat → Int32, e = .inl (ca 2, (kd a.2).2, .inl f) ∧ ∀ k : Nat, k < (kd a.2).2 → (f k).toInt = mi a.1 a.2 k)
  ∨ (23 ≤ (kd a.2).1 ∧ (kd a.2).1 ≤ 25 ∧ ∃ f : Nat → Option Nat, e = .inl (ca ((kd a.2).1 - 20), (kd a.2).2, .inr (.inr (.inr (.inr f)))) ∧ ∀ k : Nat, k < (kd a.2).2 → Rv n ρ sx (vR (mr a.1 a.2 k)) (va_rf (f k)))
def tysM (ca : Nat → ClassId) : List (ClassId × FieldType) := [(ca 0, .int), (ca 1, .long), (ca 2, .boolean), (ca 3, .object RX3), (ca 4, .object RX7), (ca 5, .array .int)]
/-- the script, as memory: its ints at role 110, its length at role 111 -/
def Sc (sx : Nat → Nat) (A : Nat → Prop) (s : State) (mi : MI) : Prop := ∃ (L : Nat) (xs : Nat → Int32), va_X (sx 1) L xs s s.heap ∧ sx 1 < s.heap.size ∧ ¬ A (sx 1) ∧ L ≤ 3072 ∧ mi 0 111 0 = L ∧ ∀ k : Nat, k < L → mi 0 110 k = (xs k).toInt
/-- the world: all cells made, and what they hold -/
def Wd (D : va_G) (ca : Nat → ClassId) (sx : Nat → Nat) (A : Nat → Prop) (s : State) (n : Nat) (mi : MI) (mr : MR) (ρ : Ad → Nat) (H : Heap) : Prop :=
  Sc sx A s mi ∧ n ≤ 241 ∧ ∃ ws : va_W, ws.length = n ∧ va_P D vwCl ws H ∧ va_D A ws ∧ ∀ i, i < n → ∃ e, ws[i]? = some (ρ (nm i), e) ∧ Rc n ρ sx ca mi mr (nm i) e
def lenW : List Nat := [101]
def bytW : List (List Int32) := [[108, 105, 115, 116, 32, 116, 119, 105, 110, 32, 114, 105, 115, 101, 32, 97, 112, 97, 114, 116, 32, 107, 101, 101, 112, 32, 108, 101, 116, 32, 112, 97, 121, 32, 105, 102, 32, 104, 101, 97, 100, 32, 110, 97, 109, 101, 32, 110, 101, 120, 116, 32, 98, 97, 99, 107, 32, 107, 101, 121, 32, 110, 111, 100, 101, 32, 110, 111, 116, 104, 105, 110, 103, 32, 98, 101, 32, 111, 114, 32, 97, 110, 100, 32, 110, 111, 116, 32, 108, 101, 110, 103, 116, 104, 32, 116, 111, 116, 97, 108, 32]]
def fmC : String := "jdk/internal/util/Preconditions"
def txW : String := "list twin rise apart keep let pay if head name next back key node nothing be or and not length total "
def Sw (D : va_G) (ca : Nat → ClassId) (sx : Nat → Nat) (A : Nat → Prop) (U : State) : Prop :=
  va_K D vwCl (tysM ca) U ∧ (∀ w ∈ nestW, va_Nw w U) ∧ (va_AO RX3 U ∧ va_AO RX7 U ∧ va_AOA .int U) ∧ vk_R RX0 190 txW (sx 2) U ∧ vk_S 1 lenW bytW (fun _ => sx 2) (fun _ => sx 3) A U U.heap ∧ va_Z "java/lang/String" "COMPACT_STRINGS" "Z" (.int 1) A U U.heap ∧ (va_Z fmC "SIOOBE_FORMATTER" "Ljava/util/function/BiFunction;" .null A U U.heap ∨ va_Z fmC "SIOOBE_FORMATTER" "Ljava/util/function/BiFunction;" (.ref (sx 4)) A U U.heap)
theorem Sw.to {D : va_G} {ca : Nat → ClassId} {sx : Nat → Nat} {A B : Nat → Prop} {s U : State} (h : Sw D ca sx A s) (hW : s.WarmedH U.vm) (hq : ∀ q : Nat, q < s.heap.size → ¬ A q → U.heap[q]? = s.heap[q]?) (hAB : ∀ q, B q → A q) : Sw D ca sx B U := by
  obtain ⟨h1, h2, ⟨h3, h4, h5⟩, h6, h7, h8, h9⟩ := h
  refine ⟨va_K.moved hW.alike h1, fun w hw => ?_, ⟨va_AO.moved hW.alike h3, va_AO.moved hW.alike h4, va_AOA.moved hW.alike h5⟩, vk_R.warm hW h6, ((vk_S.moved hW.alike h7).kept hq).narrow hAB, ((va_Z.moved hW.alike h8).kept hq).narrow hAB, h9.elim (fun z => Or.inl (((va_Z.moved hW.alike z).kept hq).narrow hAB)) (fun z => Or.inr (((va_Z.moved hW.alike z).kept hq).narrow hAB))⟩
  obtain ⟨a, i, x, b, rfl⟩ := nestW_is hw
  exact va_Nw.warmM hW (h2 _ hw)
theorem Sc.to {sx : Nat → Nat} {A B : Nat → Prop} {s U : State} {mi : MI} (h : Sc sx A s mi) (hvm : s.vm.Alike U.vm) (hq : ∀ q : Nat, q < s.heap.size → ¬ A q → U.heap[q]? = s.heap[q]?) (hl : s.heap.size ≤ U.heap.size) (hAB : ∀ q, B q → A q) : Sc sx B U mi := by
  obtain ⟨L, xs, h1, h2, h3, h4⟩ := h
  exact ⟨L, xs, (va_X.moved hvm h1).kept (hq _ h2 h3), Nat.lt_of_lt_of_le h2 hl, fun q => h3 (hAB _ q), h4⟩
/-- the method's fixed facts: machine, code, words, room -/
def Cx (d : Nat) (M : MT) (p : Program) (R : Room) (s : State) (m : MethodId) (args : Array Value) (meth : Method) (c : Code) (D : va_G) (ca : Nat → ClassId) (sx : Nat → Nat) (A : Nat → Prop) : Prop :=
  p.tables.exec = Jvm.exec ∧ c.code = mC M ∧ c.maxLocals = mL M ∧ s.vm.findClass (mY M).cls = some m.cls ∧ (∀ w ∈ T0, w.before args s = true) ∧ meth.sig.returnType = mT M ∧ meth.locks = false ∧ meth.name = (mY M).name ∧
  (d ≤ R.frames ∧ 60 * d ≤ R.locals ∧ mK M ≤ R.cells ∧ mS M ≤ R.slots) ∧ Sw D ca sx A s ∧ ∀ q, s.heap.size ≤ q → A q
/-- an end: the return at pc with v -/
def Rr (M : MT) (n : Nat) (ρ : Ad → Nat) (sx : Nat → Nat) (pc : Nat) (v : V) (mst : List Value) : Prop :=
  (decode (mC M) pc = .ok (.ireturn, 1) ∧ ∃ (ty : FieldType) (y : Int32), mT M = some ty ∧ narrow ty (.int y) = .int y ∧ mst = [.int y] ∧ v = vI y.toInt)
  ∨ (decode (mC M) pc = .ok (.lreturn, 1) ∧ mT M = some .long ∧ ∃ y : Int64, mst = [.long y] ∧ v = vL y.toInt)
  ∨ (decode (mC M) pc = .ok (.areturn, 1) ∧ ∃ (C : String) (r : Option Ad) (w : Value), mT M = some (.object C) ∧ v = vR r ∧ mst = [w] ∧ Rv n ρ sx v w)
  ∨ (decode (mC M) pc = .ok (.return_, 1) ∧ mT M = none ∧ mst = [] ∧ v = vX 0)
def Rt (M : MT) (Q : V → MI → Nat → MR → Prop) (p : Program) (l : Launch) (e : Env) (R : Room) (s : State) (m : MethodId) (args : Array Value) (below : List Frame) (meth : Method) (c : Code) (D : va_G) (ca : Nat → ClassId) (sx : Nat → Nat) (A : Nat → Prop) (n0 : Nat) (ρ0 : Ad → Nat) (Qm : State → Prop) : Prop :=
  ∀ (v : V) (mi : MI) (n : Nat) (mr : MR) (kc ks : Nat) (ρ : Ad → Nat) (H : Heap) (locs : List Loc) (pc : Nat) (mls : Array Slot) (mst : List Value),
    Q v mi n mr → kc ≤ mK M → ks ≤ mS M → Wd D ca sx A s n mi mr ρ H → va_S A s.heap H locs → (∀ i, i < n0 → ρ (nm i) = ρ0 (nm i)) → n0 ≤ n → Rr M n ρ sx pc v mst → W p l e R s m args below meth c H locs kc ks Qm (F0 m pc mls mst)
def Run (d : Nat) (M : MT) (Q : V → MI → Nat → MR → Prop) (S : Nat × MR × Nat × Nat) (mi : MI) (pc : Nat) (ls st : List V) : Prop :=
  ∀ (p : Program) (l : Launch) (e : Env) (R : Room) (s : State) (m : MethodId) (args : Array Value) (below : List Frame) (meth : Method) (c : Code) (D : va_G) (ca : Nat → ClassId) (sx : Nat → Nat) (A : Nat → Prop) (n0 : Nat) (ρ0 : Ad → Nat) (Qm : State → Prop),
    Cx d M p R s m args meth c D ca sx A → Rt M Q p l e R s m args below meth c D ca sx A n0 ρ0 Qm →
    ∀ (ρ : Ad → Nat) (H : Heap) (locs : List Loc) (mls : Array Slot) (mst : List Value),
      Wd D ca sx A s S.1 mi S.2.1 ρ H → va_S A s.heap H locs → (∀ i, i < n0 → ρ (nm i) = ρ0 (nm i)) → n0 ≤ S.1 → Rl S.1 ρ sx (mL M) ls mls → Rs S.1 ρ sx st mst → W p l e R s m args below meth c H locs S.2.2.1 S.2.2.2 Qm (F0 m pc mls mst)
/-- the cells that a call may change -/
def Fre (n : Nat) (ρ : Ad → Nat) (sz : Nat) : Nat → Prop := fun q => (∃ i, i < n ∧ q = ρ (nm i)) ∨ sz ≤ q
def Ro (n : Nat) (ρ : Ad → Nat) (sx : Nat → Nat) (M : MT) (v : V) (o : Option Value) : Prop := (mT M = none ∧ o = none ∧ v = vX 0) ∨ (mT M ≠ none ∧ ∃ w, o = some w ∧ Rv n ρ sx v w)
def PcM (D : va_G) (ca : Nat → ClassId) (sx : Nat → Nat) (n : Nat) (mi : MI) (mr : MR) (ρ : Ad → Nat) (sz : Nat) (mas : List Value) : Array Value → State → Prop := fun a U =>
  a = mas.toArray ∧ U.heap.size = sz ∧ Sw D ca sx (Fre n ρ sz) U ∧ Wd D ca sx (Fre n ρ sz) U n mi mr ρ U.heap
def QcM (M : MT) (D : va_G) (ca : Nat → ClassId) (sx : Nat → Nat) (n : Nat) (ρ : Ad → Nat) (sz : Nat) (Q : V → MI → Nat → MR → Prop) : Array Value → State → Outcome → State → Prop := fun _ st oc t =>
  ∃ (v : V) (mi' : MI) (n' : Nat) (mr' : MR) (ρ' : Ad → Nat) (o : Option Value), Q v mi' n' mr' ∧ oc = .returned o ∧ Ro n' ρ' sx M v o ∧ Wd D ca sx (Fre n ρ sz) st n' mi' mr' ρ' t.heap ∧ (∀ i, i < n → ρ' (nm i) = ρ (nm i)) ∧ n ≤ n' ∧ va_F (Fre n ρ sz) st t
def Tx (d : Nat) (M : MT) (as : List V) (mi : MI) (n : Nat) (mr : MR) (Q : V → MI → Nat → MR → Prop) : Prop :=
  ∀ (l : Launch) (D : va_G) (ca : Nat → ClassId) (sx : Nat → Nat) (ρ : Ad → Nat) (sz : Nat) (mas : List Value), Rs n ρ sx as mas → Met l (mY M) (wsM M) (rmM d M) (PcM D ca sx n mi mr ρ sz mas) (QcM M D ca sx n ρ sz Q) (mK M) (mS M) (Fre n ρ sz)
/-- an instruction at a place, its length, and the place behind it -/
def Dc (M : MT) (pc : Nat) (i : Instr) (len pc' : Nat) : Prop := decode (mC M) pc = .ok (i, len) ∧ pc' = pc + len
/-- the code of a method as a list: place, instruction, length, next place -/
abbrev CL : Type := List (Nat × Instr × Nat × Nat)
def clOk (M : MT) (k : CL) : Prop := ∀ q ∈ k, decode (mC M) q.1 = .ok (q.2.1, q.2.2.1) ∧ q.2.2.2 = q.1 + q.2.2.1
theorem dc {M : MT} {k : CL} (h : clOk M k) (i : Nat) {pc len pc' : Nat} {ins : Instr} (e : k[i]? = some (pc, ins, len, pc')) : Dc M pc ins len pc' := h (pc, ins, len, pc') (List.mem_of_getElem? e)
/-! whole numbers of 32 and of 64 bits -/
def w32 (x : Int) : Int := Int.bmod x 4294967296
def w64 (x : Int) : Int := Int.bmod x 18446744073709551616
def bAnd (a b : Int) : Int := (Int32.ofInt a &&& Int32.ofInt b).toInt
def bOr (a b : Int) : Int := (Int32.ofInt a ||| Int32.ofInt b).toInt
def bXor (a b : Int) : Int := (Int32.ofInt a ^^^ Int32.ofInt b).toInt
def bShl (a b : Int) : Int := (Int32.ofInt a <<< (Int32.ofInt b &&& 31)).toInt
def bShr (a b : Int) : Int := (Int32.ofInt a >>> (Int32.ofInt b &&& 31)).toInt
def bUshr (a b : Int) : Int := ((Int32.ofInt a).toUInt32 >>> ((Int32.ofInt b).toUInt32 &&& Int32.toUInt32 31)).toInt32.toInt
def lc (x y : Int) : Int := if y < x then 1 else if x = y then 0 else -1
theorem w32_id {x : Int} (h1 : -2147483648 ≤ x) (h2 : x < 2147483648) : w32 x = x := Int.bmod_eq_of_le (by omega) (by omega)
theorem w64_id {x : Int} (h1 : -9223372036854775808 ≤ x) (h2 : x < 9223372036854775808) : w64 x = x := Int.bmod_eq_of_le (by omega) (by omega)
theorem i32_lo (y : Int32) : -2147483648 ≤ y.toInt := Int32.le_toInt y
theorem i32_hi (y : Int32) : y.toInt < 2147483648 := Int32.toInt_lt y
theorem i64_lo (y : Int64) : -9223372036854775808 ≤ y.toInt := Int64.le_toInt y
theorem i64_hi (y : Int64) : y.toInt < 9223372036854775808 := Int64.toInt_lt y
theorem i32_rem (x y : Int32) : (x - x / y * y).toInt = x.toInt.tmod y.toInt := by
  rw [Int32.toInt_sub, Int32.toInt_mul, Int32.toInt_div]
  simp only [Int.bmod_mul_bmod, Int.bmod_sub_bmod, Int.sub_bmod_bmod, Int.mul_bmod_bmod]
  rw [Int.mul_comm, ← Int.tmod_def, ← Int32.toInt_mod]
  exact w32_id (i32_lo _) (i32_hi _)
theorem i64_rem (x y : Int64) : (x - x / y * y).toInt = x.toInt.tmod y.toInt := by
  rw [Int64.toInt_sub, Int64.toInt_mul, Int64.toInt_div]
  simp only [Int.bmod_mul_bmod, Int.bmod_sub_bmod, Int.sub_bmod_bmod, Int.mul_bmod_bmod]
  rw [Int.mul_comm, ← Int.tmod_def, ← Int64.toInt_mod]
  exact w64_id (i64_lo _) (i64_hi _)
theorem i32_ne0 {y : Int32} {b : Int} (e : y.toInt = b) (h : b ≠ 0) : ¬ y = 0 := fun q => h (by rw [← e, q]; rfl)
theorem i64_ne0 {y : Int64} {b : Int} (e : y.toInt = b) (h : b ≠ 0) : ¬ y = 0 := fun q => h (by rw [← e, q]; rfl)
theorem lg_cmp_int (x y : Int64) : (lg_cmp x y).toInt = lc x.toInt y.toInt := by
  unfold lg_cmp lc
  by_cases h1 : x > y
  · rw [if_pos h1, if_pos (Int64.lt_iff_toInt_lt.mp h1)]; rfl
  · rw [if_neg h1, if_neg (fun q => h1 (Int64.lt_iff_toInt_lt.mpr q))]
    by_cases h2 : x = y
    · rw [if_pos h2, if_pos (by rw [h2])]; rfl
    · rw [if_neg h2, if_neg (fun q => h2 (Int64.toInt_inj.mp q))]; rfl
/-! locals -/
def isL : V → Bool
  | .inr (.inl _) => true
  | _ => false
def lvAll (mls : Array Slot) : List (Nat × Value) := (List.range mls.size).filterMap (fun (i : Nat) => match (mls[i]? : Option Slot) with | some (Slot.val v) => some (i, v) | _ => none)
theorem lvAll_mem {mls : Array Slot} {i : Nat} {v : Value} (h : mls[i]? = some (.val v)) : (i, v) ∈ lvAll mls := by
  refine List.mem_filterMap.mpr ⟨i, List.mem_range.mpr (lv_lt h), ?_⟩
  rw [h]
theorem lvAll_of {mls : Array Slot} {q : Nat × Value} (h : q ∈ lvAll mls) : mls[q.1]? = some (.val q.2) := by
  obtain ⟨i, -, hi⟩ := List.mem_filterMap.mp h
  cases hx : mls[i]? with
  | none => rw [hx] at hi; cases hi
  | some y =>
    cases y with
    | val v => rw [hx] at hi; cases hi; exact hx
    | _ => rw [hx] at hi; cases hi
section RLS
variable {n : Nat} {ρ : Ad → Nat} {sx : Nat → Nat} {nL : Nat} {ls : List V} {mls mls' : Array Slot}
theorem Rl.has (h : Rl n ρ sx nL ls mls) : lv_has mls nL (lvAll mls) := ⟨h.1, h.2.1, fun _ hq => lvAll_of hq⟩
theorem Rl.get (h : Rl n ρ sx nL ls mls) {i : Nat} {x : V} (hx : ls[i]? = some x) (h0 : x ≠ vX 0) : ∃ v, mls[i]? = some (.val v) ∧ Rv n ρ sx x v := h.2.2 i x hx h0
theorem Rv.cat {x : V} {v : Value} (h : Rv n ρ sx x v) : v.category = if isL x = true then 2 else 1 := by
  cases x with
  | inl x => obtain ⟨y, rfl, -⟩ := h; rfl
  | inr x =>
    cases x with
    | inl x => obtain ⟨y, rfl, -⟩ := h; rfl
    | inr x =>
      cases x with
      | inl r =>
        cases r with
        | none => cases (show v = .null from h); rfl
        | some a => cases h.1; rfl
      | inr k => cases h.2; rfl
theorem Rl.store {i : Nat} {x : V} {v : Value} (h : Rl n ρ sx nL ls mls) (hv : Rv n ρ sx x v) (hL : ∀ j y, j + 1 = i → ls[j]? = some y → isL y = false)
    (h' : lv_has mls' nL ((i, v) :: (lvAll mls).filter (fun q => !(q.1 == i) && !(q.1 + 1 == i && q.2.category == 2)))) : Rl n ρ sx nL (ls.set i x) mls' := by
  refine ⟨h'.1, h'.2.1, fun j y hj hy => ?_⟩
  by_cases hji : j = i
  · subst hji
    have hlt : j < ls.length := by have := (List.getElem?_eq_some_iff.mp hj).1; simpa using this
    rw [List.getElem?_set_self hlt] at hj
    cases hj
    exact ⟨v, h'.2.2 (j, v) List.mem_cons_self, hv⟩
  · rw [List.getElem?_set_ne (Ne.symm hji)] at hj
    obtain ⟨w, hw, hr⟩ := h.2.2 j y hj hy
    refine ⟨w, h'.2.2 (j, w) (List.mem_cons_of_mem _ (List.mem_filter.mpr ⟨lvAll_mem hw, ?_⟩)), hr⟩
    have hc := hr.cat
    by_cases hj1 : j + 1 = i
    · rw [hL j y hj1 hj] at hc
      simp [hji, hc]
    · simp [hji, hj1]
theorem Rl.store2 {i : Nat} {x : V} {v : Value} (h : Rl n ρ sx nL ls mls) (hv : Rv n ρ sx x v) (hL : ∀ j y, j + 1 = i → ls[j]? = some y → isL y = false)
    (h' : lv_has mls' nL ((i, v) :: (lvAll mls).filter (fun q => !(q.1 == i) && (!(q.1 == i + 1) && !(q.1 + 1 == i && q.2.category == 2))))) : Rl n ρ sx nL ((ls.set i x).set (i + 1) (vX 0)) mls' := by
  refine ⟨h'.1, h'.2.1, fun j y hj hy => ?_⟩
  by_cases hj2 : j = i + 1
  · subst hj2
    have hlt : i + 1 < (ls.set i x).length := by have := (List.getElem?_eq_some_iff.mp hj).1; simpa using this
    rw [List.getElem?_set_self hlt] at hj
    cases hj
    exact absurd rfl hy
  rw [List.getElem?_set_ne (Ne.symm hj2)] at hj
  by_cases hji : j = i
  · subst hji
    have hlt : j < ls.length := by have := (List.getElem?_eq_some_iff.mp hj).1; simpa using this
    rw [List.getElem?_set_self hlt] at hj
    cases hj
    exact ⟨v, h'.2.2 (j, v) List.mem_cons_self, hv⟩
  · rw [List.getElem?_set_ne (Ne.symm hji)] at hj
    obtain ⟨w, hw, hr⟩ := h.2.2 j y hj hy
    refine ⟨w, h'.2.2 (j, w) (List.mem_cons_of_mem _ (List.mem_filter.mpr ⟨lvAll_mem hw, ?_⟩)), hr⟩
    have hc := hr.cat
    by_cases hj1 : j + 1 = i
    · rw [hL j y hj1 hj] at hc
      simp [hji, hj2, hc]
    · simp [hji, hj1, hj2]
end RLS
