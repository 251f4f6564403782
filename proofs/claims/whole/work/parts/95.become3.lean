/-! the class: a state becomes another -/
theorem slcC_ext {f f' : Int → Int} : ∀ (n : Nat) (k : Int), (∀ j, k ≤ j → j < k + n → f' j = f j) → slcC f' n k = slcC f n k
  | 0, _, _ => rfl
  | n + 1, k, h => by
    rw [slcC, slcC, h k (by omega) (by omega), slcC_ext n (k + 1) (fun j a b => h j (by omega) (by omega))]
/-- one text is as the other -/
def TxE (mi' mi : MI) (a b : Nat) : Prop := (mi' a 20 0 = mi b 20 0 ∧ mi' a 20 1 = mi b 20 1) ∧ (∀ i, 0 ≤ i → i < mi b 20 1 → mi' a 21 i = mi b 21 i) ∧ ∀ i, 0 ≤ i → i < 12 → mi' a 22 i = mi b 22 i ∧ mi' a 23 i = mi b 23 i ∧ mi' a 24 i = mi b 24 i ∧ mi' a 25 i = mi b 25 i ∧ mi' a 26 i = mi b 26 i ∧ mi' a 27 i = mi b 27 i
theorem TxE.S {mi mi' : MI} {a b : Nat} (h : TxE mi' mi a b) (hs : TxS mi b) (h12 : mi b 20 0 ≤ 12) : TxS mi' a := by
  obtain ⟨⟨e0, e1⟩, _, e⟩ := h
  refine ⟨by rw [e1]; exact hs.1, fun l x y => ?_⟩
  rw [e0] at y
  rw [e1, (e l x (by omega)).2.2.2.1]
  exact hs.2 l x y
theorem TxE.slc {mi mi' : MI} {a b : Nat} (h : TxE mi' mi a b) {f t : Int} (h0 : 0 ≤ f) (ht : t ≤ mi b 20 1) : slcC (mi' a 21) (t - f).toNat f = slcC (mi b 21) (t - f).toNat f := slcC_ext _ _ (fun j x y => h.2.1 j (by omega) (by omega))
theorem TxE.lw {mi mi' : MI} {a b : Nat} (h : TxE mi' mi a b) (hs : TxS mi b) (h12 : mi b 20 0 ≤ 12) {l : Int} {k : List CT} (h0 : 0 ≤ l) (h1 : l < mi b 20 0) (hk : LwT mi b l k) : LwT mi' a l k := by
  obtain ⟨e22, e23, e24, e25, e26, e27⟩ := h.2.2 l h0 (by omega)
  have := hs.2 l h0 h1
  unfold LwT at *
  rw [e22, e25, h.slc hk.1 this]
  exact hk
theorem TxE.ln {mi mi' : MI} {a b : Nat} (h : TxE mi' mi a b) (hs : TxS mi b) (h12 : mi b 20 0 ≤ 12) {l t : Int} {p v w : List CT} (h0 : 0 ≤ l) (h1 : l < mi b 20 0) (hk : LnT mi b l t p v w) : LnT mi' a l t p v w := by
  obtain ⟨e22, e23, e24, e25, e26, e27⟩ := h.2.2 l h0 (by omega)
  have hz := hs.2 l h0 h1
  unfold LnT at *
  obtain ⟨k1, k2, k3, k4⟩ := hk
  rw [e22, e23, e24, e25, e26, h.slc k3.1 (by omega), h.slc (by omega) (by omega), h.slc (by omega) hz]
  exact ⟨k1, k2, k3, k4⟩
theorem Rep_copy {mi mi' : MI} {g h : Nat} {ρ : Int → Int} (hR : Rep (-1) mi h ρ) (hS1 : TxS mi h) (hS2 : TxS mi (h + 10)) (h16 : ρ 16 ≤ 12) (h17 : ρ 17 ≤ 12)
    (w16 : ∀ i, 0 ≤ i → i < 24 → mi' g 16 i = mi h 16 i) (w15 : mi' g 15 1 = mi h 15 1) (t1 : TxE mi' mi g h) (t2 : TxE mi' mi (g + 10) (h + 10))
    (j30 : mi' g 30 0 = mi h 30 0 ∧ mi' g 30 1 = mi h 30 1 ∧ mi' g 30 2 = mi h 30 2) (jr : ∀ i, 0 ≤ i → i < 200 → mi' g 31 i = mi h 31 i ∧ mi' g 32 i = mi h 32 i ∧ mi' g 33 i = mi h 33 i ∧ mi' g 34 i = mi h 34 i ∧ mi' g 35 i = mi h 35 i ∧ mi' g 36 i = mi h 36 i ∧ mi' g 37 i = mi h 37 i ∧ mi' g 38 i = mi h 38 i)
    (h40 : mi' g 40 0 = mi h 40 0 ∧ mi' g 40 1 = mi h 40 1 ∧ mi' g 40 2 = mi h 40 2) (hr : ∀ i, 0 ≤ i → i < 12 → mi' g 41 i = mi h 41 i ∧ mi' g 42 i = mi h 42 i ∧ mi' g 43 i = mi h 43 i)
    (c6 : ∀ i, 0 ≤ i → i < 8 → mi' g 6 i = mi h 6 i) (c7 : ∀ i, 0 ≤ i → i < 100 → mi' g 7 i = mi h 7 i) (c8 : ∀ i, 0 ≤ i → i < 24 → mi' g 8 i = mi h 8 i) (c9 : ∀ i, 0 ≤ i → i < 5 → mi' g 9 i = mi h 9 i) (c10 : ∀ i, 0 ≤ i → i < 24 → mi' g 10 i = mi h 10 i)
    (c5 : mi' g 5 10 = mi h 5 10 ∧ mi' g 5 11 = mi h 5 11 ∧ mi' g 5 12 = mi h 5 12 ∧ mi' g 5 13 = mi h 5 13) : Rep (-1) mi' g ρ ∧ TxS mi' g ∧ TxS mi' (g + 10) := by
  obtain ⟨rW, rL, rN, rJ, rS, rH, rC⟩ := hR
  have l12 : mi h 20 0 ≤ 12 := by rw [rL.1]; exact h16
  have n12 : mi (h + 10) 20 0 ≤ 12 := by rw [rN.1]; exact h17
  refine ⟨⟨⟨fun i a b => by rw [w16 i a b]; exact rW.1 i a b, by rw [w15]; exact rW.2⟩, ⟨by rw [t1.1.1]; exact rL.1, fun l a b => ?_⟩, ⟨by rw [t2.1.1]; exact rN.1, fun j a b => t2.ln hS2 n12 a (by rw [rN.1]; exact b) (rN.2 j a b)⟩, ⟨by rw [j30.1]; exact rJ.1, by rw [j30.2.1]; exact rJ.2.1, by rw [j30.2.2]; exact rJ.2.2.1, fun w a b => ?_⟩, fun s a b => ?_, ⟨by rw [h40.1]; exact rH.1, by rw [h40.2.1]; exact rH.2.1, fun z => by rw [h40.2.2]; exact rH.2.2.1 z, fun z => by rw [h40.2.2]; exact rH.2.2.2.1 z, fun l a b => ?_⟩, ⟨fun k a b c => by rw [c6 k a b]; exact rC.1 k a b c, fun i a b => by rw [c7 i a b]; exact rC.2.1 i a b, fun i a b => by rw [c8 i a b]; exact rC.2.2.1 i a b, fun i a b => by rw [c9 i a b]; exact rC.2.2.2.1 i a b, fun i a b => by rw [c10 i a b]; exact rC.2.2.2.2.1 i a b, ?_⟩⟩, t1.S hS1 l12, t2.S hS2 n12⟩
  · obtain ⟨e22, e23, e24, e25, e26, e27⟩ := t1.2.2 l a (by omega)
    have := rL.2 l a b
    exact ⟨t1.lw hS1 l12 a (by rw [rL.1]; exact b) this.1, by rw [e27]; exact this.2⟩
  · have hp : plc mi' g w = plc mi h w := by unfold plc; rw [j30.2.1]
    rw [hp]
    have hb : 0 ≤ plc mi h w ∧ plc mi h w < 200 := by unfold plc; omega
    obtain ⟨e1, e2, e3, e4, e5, e6, _⟩ := jr _ hb.1 hb.2
    rw [e1, e2, e3, e4, e5, e6]
    exact rJ.2.2.2 w a b
  · obtain ⟨_, _, _, _, _, _, e7, e8⟩ := jr s a b
    rw [e7, e8]; exact rS s a b
  · obtain ⟨e1, e2, e3⟩ := hr l a b
    rw [e1, e2, e3]; exact rH.2.2.2.2 l a b
  · rw [c5.1, c5.2.1, c5.2.2.1, c5.2.2.2]; exact rC.2.2.2.2.2
