/-! tokens of a tape: t its bytes, N how many -/
def ltB (x : Int) : Bool := decide (97 ≤ x ∧ x ≤ 122)
def dgB (x : Int) : Bool := decide (48 ≤ x ∧ x ≤ 57)
def spB (x : Int) : Bool := decide (x = 32)
theorem ltB_t {x : Int} : ltB x = true ↔ 97 ≤ x ∧ x ≤ 122 := by unfold ltB; simp
theorem dgB_t {x : Int} : dgB x = true ↔ 48 ≤ x ∧ x ≤ 57 := by unfold dgB; simp
theorem spB_t {x : Int} : spB x = true ↔ x = 32 := by unfold spB; simp
theorem bf {b : Bool} : b = false ↔ ¬ b = true := by cases b <;> simp
/-- the end of a run of bytes of a kind -/
def rnE (P : Int → Bool) (t : Int → Int) : Nat → Int → Int
  | 0, f => f
  | k + 1, f => if P (t f) = true then rnE P t k (f + 1) else f
theorem rnE_is {P : Int → Bool} {t : Int → Int} : ∀ (k : Nat) (f e : Int), f ≤ e → e ≤ f + k → (∀ j, f ≤ j → j < e → P (t j) = true) → (e < f + k → ¬ P (t e) = true) → rnE P t k f = e
  | 0, f, e, h1, h2, _, _ => by rw [rnE]; omega
  | k + 1, f, e, h1, h2, h3, h4 => by
    rw [rnE]
    by_cases c : f < e
    · rw [if_pos (h3 f (Int.le_refl _) c)]
      exact rnE_is k (f + 1) e (by omega) (by omega) (fun j j1 j2 => h3 j (by omega) j2) (fun z => h4 (by omega))
    · have e0 : f = e := by omega
      subst e0
      rw [if_neg (h4 (by omega))]
theorem rnE_bd {P : Int → Bool} {t : Int → Int} : ∀ (k : Nat) (f : Int), f ≤ rnE P t k f ∧ rnE P t k f ≤ f + k
  | 0, f => by rw [rnE]; omega
  | k + 1, f => by
    rw [rnE]
    have := rnE_bd (P := P) (t := t) k (f + 1)
    split <;> omega
theorem rnE_in {P : Int → Bool} {t : Int → Int} : ∀ (k : Nat) (f : Int) (j : Int), f ≤ j → j < rnE P t k f → P (t j) = true
  | 0, f, j, h1, h2 => by rw [rnE] at h2; omega
  | k + 1, f, j, h1, h2 => by
    rw [rnE] at h2
    split at h2
    · rename_i hp
      by_cases e : j = f
      · rw [e]; exact hp
      · exact rnE_in k (f + 1) j (by omega) h2
    · omega
theorem rnE_st {P : Int → Bool} {t : Int → Int} : ∀ (k : Nat) (f : Int), rnE P t k f < f + k → ¬ P (t (rnE P t k f)) = true
  | 0, f, h => by rw [rnE] at h; omega
  | k + 1, f, h => by
    rw [rnE] at h ⊢
    split at h
    · rename_i hp
      rw [if_pos hp]
      exact rnE_st k (f + 1) (by omega)
    · rename_i hp
      rw [if_neg hp]
      exact hp
def byt (t : Int → Int) : Nat → Int → List Int
  | 0, _ => []
  | n + 1, f => t f :: byt t n (f + 1)
theorem byt_len {t : Int → Int} : ∀ (n : Nat) (f : Int), (byt t n f).length = n
  | 0, _ => rfl
  | n + 1, f => by rw [byt, List.length_cons, byt_len n]
theorem byt_snoc {t : Int → Int} : ∀ (n : Nat) (f : Int), byt t (n + 1) f = byt t n f ++ [t (f + n)]
  | 0, f => by
    rw [byt, byt, byt]
    simp
  | n + 1, f => by
    rw [byt, byt_snoc n (f + 1), byt, List.cons_append, show f + 1 + (n : Int) = f + ((n + 1 : Nat) : Int) by omega]
theorem byt_eq {t s : Int → Int} : ∀ (n : Nat) (f b : Int), byt t n f = byt s n b ↔ ∀ j : Int, 0 ≤ j → j < n → t (f + j) = s (b + j)
  | 0, f, b => ⟨fun _ j j0 j1 => by omega, fun _ => rfl⟩
  | n + 1, f, b => by
    rw [byt, byt]
    constructor
    · intro h
      injection h with h1 h2
      intro j j0 j1
      by_cases e : j = 0
      · rw [e, Int.add_zero, Int.add_zero]; exact h1
      · have := (byt_eq n (f + 1) (b + 1)).mp h2 (j - 1) (by omega) (by omega)
        rw [show f + 1 + (j - 1) = f + j by omega, show b + 1 + (j - 1) = b + j by omega] at this
        exact this
    · intro h
      have h1 := h 0 (by omega) (by omega)
      rw [Int.add_zero, Int.add_zero] at h1
      rw [h1, (byt_eq n (f + 1) (b + 1)).mpr (fun j j0 j1 => by
        have := h (j + 1) (by omega) (by omega)
        rw [show f + 1 + j = f + (j + 1) by omega, show b + 1 + j = b + (j + 1) by omega]
        exact this)]
theorem byt_all {t : Int → Int} {P : Int → Prop} : ∀ (n : Nat) (f : Int), (∀ j, f ≤ j → j < f + n → P (t j)) → ∀ x ∈ byt t n f, P x
  | 0, _, _, x, hx => by cases hx
  | n + 1, f, h, x, hx => by
    rcases List.mem_cons.mp hx with e | e
    · rw [e]; exact h f (Int.le_refl _) (by omega)
    · exact byt_all n (f + 1) (fun j j0 j1 => h j (by omega) (by omega)) x e
def WL : List (List Int) := [[108, 105, 115, 116], [116, 119, 105, 110], [114, 105, 115, 101], [97, 112, 97, 114, 116], [107, 101, 101, 112], [108, 101, 116], [112, 97, 121], [105, 102], [104, 101, 97, 100], [110, 97, 109, 101], [110, 101, 120, 116], [98, 97, 99, 107], [107, 101, 121], [110, 111, 100, 101], [110, 111, 116, 104, 105, 110, 103], [98, 101], [111, 114], [97, 110, 100], [110, 111, 116], [108, 101, 110, 103, 116, 104], [116, 111, 116, 97, 108]]
def wnoF : List (List Int) → Int → List Int → Int
  | [], k, _ => k
  | w :: ws, k, l => if w = l then k else wnoF ws (k + 1) l
def wno (l : List Int) : Int := wnoF WL 0 l
theorem wnoF_is : ∀ (ws : List (List Int)) (k : Int) (l : List Int) (i : Nat), ws[i]? = some l → (∀ j : Nat, j < i → ws[j]? ≠ some l) → wnoF ws k l = k + i
  | [], _, _, _, h, _ => by simp at h
  | w :: ws, k, l, i, h, hj => by
    rw [wnoF]
    cases i with
    | zero =>
      simp at h
      rw [if_pos h]; simp
    | succ i =>
      rw [if_neg (fun z => hj 0 (by omega) (by simp [z])), wnoF_is ws (k + 1) l i (by simpa using h) (fun j hj' => by simpa using hj (j + 1) (by omega))]
      omega
theorem wnoF_no : ∀ (ws : List (List Int)) (k : Int) (l : List Int), (∀ j : Nat, j < ws.length → ws[j]? ≠ some l) → wnoF ws k l = k + ws.length
  | [], k, _, _ => by simp [wnoF]
  | w :: ws, k, l, hj => by
    rw [wnoF, if_neg (fun z => hj 0 (by simp) (by simp [z])), wnoF_no ws (k + 1) l (fun j hj' => by simpa using hj (j + 1) (by simpa using hj'))]
    rw [List.length_cons]
    omega
theorem wnoF_rg : ∀ (ws : List (List Int)) (k : Int) (l : List Int), k ≤ wnoF ws k l ∧ wnoF ws k l ≤ k + ws.length
  | [], k, _ => by simp [wnoF]
  | w :: ws, k, l => by
    rw [wnoF]
    have := wnoF_rg ws (k + 1) l
    rw [List.length_cons]
    split <;> omega
theorem wno_rg (l : List Int) : 0 ≤ wno l ∧ wno l ≤ 21 := by
  have := wnoF_rg WL 0 l
  have e : WL.length = 21 := rfl
  unfold wno
  omega
def nmb (l : List Int) : Int := l.foldl (fun n x => min (n * 10 + x - 48) 100) 0
theorem nmb_snoc {l : List Int} {x : Int} : nmb (l ++ [x]) = min (nmb l * 10 + x - 48) 100 := by unfold nmb; rw [List.foldl_append]; rfl
theorem nmb_rg {l : List Int} (h : ∀ x ∈ l, 48 ≤ x ∧ x ≤ 57) : 0 ≤ nmb l ∧ nmb l ≤ 100 := by
  have key : ∀ (l : List Int) (n : Int), (∀ x ∈ l, 48 ≤ x ∧ x ≤ 57) → 0 ≤ n → n ≤ 100 → 0 ≤ l.foldl (fun n x => min (n * 10 + x - 48) 100) n ∧ l.foldl (fun n x => min (n * 10 + x - 48) 100) n ≤ 100 := by
    intro l
    induction l with
    | nil => intro n _ h0 h1; exact ⟨h0, h1⟩
    | cons a l ih =>
      intro n hx h0 h1
      have := hx a List.mem_cons_self
      exact ih _ (fun x hx' => hx x (List.mem_cons_of_mem _ hx')) (by show 0 ≤ min (n * 10 + a - 48) 100; omega) (by show min (n * 10 + a - 48) 100 ≤ 100; omega)
  exact key l 0 h (by decide) (by decide)
/-- the end of the token at f -/
def ndE (t : Int → Int) (N f : Int) : Int := if ltB (t f) = true then rnE ltB t (N - f).toNat f else if dgB (t f) = true then rnE dgB t (N - f).toNat f else f + 1
def skp (t : Int → Int) (N f : Int) : Int := rnE spB t (N - f).toNat f
def tkF (t : Int → Int) (N f : Int) : Int := if N ≤ f then 23 else if ltB (t f) = true then wno (byt t (ndE t N f - f).toNat f) else if dgB (t f) = true then 22 else 32 + t f
def nuF (t : Int → Int) (N f : Int) : Int := if f < N ∧ dgB (t f) = true then nmb (byt t (ndE t N f - f).toNat f) else 0
def nxF (t : Int → Int) (N f : Int) : Int := skp t N (ndE t N f)
theorem skp_bd {t : Int → Int} {N f : Int} (h : f ≤ N) : f ≤ skp t N f ∧ skp t N f ≤ N := by
  have := rnE_bd (P := spB) (t := t) (N - f).toNat f
  unfold skp
  omega
theorem ndE_bd {t : Int → Int} {N f : Int} (h : f < N) : f < ndE t N f ∧ ndE t N f ≤ N := by
  unfold ndE
  obtain ⟨k, hk⟩ : ∃ k : Nat, (N - f).toNat = k + 1 := ⟨(N - f).toNat - 1, by omega⟩
  rw [hk]
  split
  · rename_i hp
    rw [rnE, if_pos hp]
    have := rnE_bd (P := ltB) (t := t) k (f + 1)
    omega
  · split
    · rename_i hp
      rw [rnE, if_pos hp]
      have := rnE_bd (P := dgB) (t := t) k (f + 1)
      omega
    · omega
theorem ndE_dg {t : Int → Int} {N f : Int} (h : f < N) (hd : dgB (t f) = true) : ∀ x ∈ byt t (ndE t N f - f).toNat f, 48 ≤ x ∧ x ≤ 57 := by
  have hl : ¬ ltB (t f) = true := fun z => by have := ltB_t.mp z; have := dgB_t.mp hd; omega
  have hb := ndE_bd (t := t) h
  have e : ndE t N f = rnE dgB t (N - f).toNat f := by unfold ndE; rw [if_neg hl, if_pos hd]
  refine byt_all _ _ (fun j j0 j1 => dgB_t.mp (rnE_in (N - f).toNat f j j0 ?_))
  rw [← e]
  omega
theorem TkE_F {t : Int → Int} {N : Int} (ht : ∀ i, 0 ≤ i → i < N → 0 ≤ t i ∧ t i ≤ 255) : TkE N (tkF t N) (nuF t N) (nxF t N) := fun f h0 h1 => by
  refine ⟨?_, ?_, ?_, fun hx => ?_⟩
  · unfold nuF
    split
    · rename_i hc
      exact nmb_rg (ndE_dg hc.1 hc.2)
    · omega
  · unfold tkF
    have := wno_rg (byt t (ndE t N f - f).toNat f)
    split
    · omega
    · have := ht f h0 (by omega)
      split
      · omega
      · split <;> omega
  · unfold tkF
    have := wno_rg (byt t (ndE t N f - f).toNat f)
    split
    · omega
    · have := ht f h0 (by omega)
      split
      · omega
      · split <;> omega
  · have hlt : f < N := by
      unfold tkF at hx
      by_cases z : N ≤ f
      · rw [if_pos z] at hx; exact absurd rfl hx
      · omega
    have h1 := ndE_bd (t := t) hlt
    have h2 := skp_bd (t := t) h1.2
    unfold nxF
    omega
theorem skp_id {t : Int → Int} {N f : Int} (h : f < N → t f ≠ 32) (h1 : f ≤ N) : skp t N f = f := rnE_is _ f f (Int.le_refl _) (by omega) (fun j j0 j1 => by omega) (fun z w => h (by omega) (spB_t.mp w))
theorem skp_1 {t : Int → Int} {N f : Int} (h : f < N) (h32 : t f = 32) : skp t N f = skp t N (f + 1) := by
  unfold skp
  rw [show (N - f).toNat = (N - (f + 1)).toNat + 1 by omega, rnE, if_pos (spB_t.mpr h32)]
def wIl : List Nat := [0, 0, 0, 0, 0, 1, 1, 1, 1, 1, 2, 2, 2, 2, 2, 3, 3, 3, 3, 3, 3, 4, 4, 4, 4, 4, 5, 5, 5, 5, 6, 6, 6, 6, 7, 7, 7, 8, 8, 8, 8, 8, 9, 9, 9, 9, 9, 10, 10, 10, 10, 10, 11, 11, 11, 11, 11, 12, 12, 12, 12, 13, 13, 13, 13, 13, 14, 14, 14, 14, 14, 14, 14, 14, 15, 15, 15, 16, 16, 16, 17, 17, 17, 17, 18, 18, 18, 18, 19, 19, 19, 19, 19, 19, 19, 20, 20, 20, 20, 20, 20, 21]
def bIl : List Nat := [0, 0, 0, 0, 0, 5, 5, 5, 5, 5, 10, 10, 10, 10, 10, 15, 15, 15, 15, 15, 15, 21, 21, 21, 21, 21, 26, 26, 26, 26, 30, 30, 30, 30, 34, 34, 34, 37, 37, 37, 37, 37, 42, 42, 42, 42, 42, 47, 47, 47, 47, 47, 52, 52, 52, 52, 52, 57, 57, 57, 57, 61, 61, 61, 61, 61, 66, 66, 66, 66, 66, 66, 66, 66, 74, 74, 74, 77, 77, 77, 80, 80, 80, 80, 84, 84, 84, 84, 88, 88, 88, 88, 88, 88, 88, 95, 95, 95, 95, 95, 95, 101]
theorem wtab : ∀ i : Nat, i < 101 → (txC i = 32 → wIl.getD (i + 1) 0 = wIl.getD i 0 + 1 ∧ bIl.getD (i + 1) 0 = i + 1 ∧ WL[wIl.getD i 0]? = some (byt txC (i - bIl.getD i 0) (bIl.getD i 0))) ∧ (txC i ≠ 32 → wIl.getD (i + 1) 0 = wIl.getD i 0 ∧ bIl.getD (i + 1) 0 = bIl.getD i 0) ∧ bIl.getD i 0 ≤ i ∧ wIl.getD i 0 ≤ 21 := by decide +kernel
