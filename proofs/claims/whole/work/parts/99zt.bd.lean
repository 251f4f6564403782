/-! rows that are the same within their bounds -/
def bdEq (ρ ρ' : Int → Int) : Prop := ∀ i, 0 ≤ i → i < 3886 → ρ' i = ρ i
def lwEq (ρ ρ' : Int → Int) : Prop := (∀ i, 2046 ≤ i → i < 2166 → ρ' i = ρ i) ∧ ∀ i, 2286 ≤ i → i < 3086 → ρ' i = ρ i
def lnEq (ρ ρ' : Int → Int) : Prop := (∀ i, 2166 ≤ i → i < 2286 → ρ' i = ρ i) ∧ ∀ i, 3086 ≤ i → i < 3886 → ρ' i = ρ i
theorem lwEq.sy {ρ ρ' : Int → Int} (h : lwEq ρ ρ') : lwEq ρ' ρ := ⟨fun i a b => (h.1 i a b).symm, fun i a b => (h.2 i a b).symm⟩
theorem bdEq.lw {ρ ρ' : Int → Int} (h : bdEq ρ ρ') : lwEq ρ ρ' := ⟨fun i a b => h i (by omega) (by omega), fun i a b => h i (by omega) (by omega)⟩
theorem bdEq.ln {ρ ρ' : Int → Int} (h : bdEq ρ ρ') : lnEq ρ ρ' := ⟨fun i a b => h i (by omega) (by omega), fun i a b => h i (by omega) (by omega)⟩
theorem lawC_lw {ρ ρ' : Int → Int} (h : lwEq ρ ρ') {l : Int} (h0 : 0 ≤ l) (h1 : l < 12) (hw : WfLaw ρ l) : lawC ρ' l = lawC ρ l := by
  unfold lawC
  rw [h.1 (2046 + 10 * l) (by omega) (by omega), h.1 (2046 + 10 * l + 1) (by omega) (by omega), h.1 (2046 + 10 * l + 2) (by omega) (by omega), h.1 (2046 + 10 * l + 3) (by omega) (by omega), h.1 (2046 + 10 * l + 4) (by omega) (by omega)]
  by_cases e : ρ (2046 + 10 * l) = 4
  · have hs := hw.2.2.1 e
    rw [if_pos e, if_pos e, slc_eq _ _ (fun i a b => h.2 i (by omega) (by omega))]
  · rw [if_neg e, if_neg e]
theorem WfLaw.lw {ρ ρ' : Int → Int} (h : lwEq ρ ρ') {l : Int} (h0 : 0 ≤ l) (h1 : l < 12) (hw : WfLaw ρ l) : WfLaw ρ' l := by
  have hc := lawC_lw h h0 h1 hw
  unfold WfLaw at hw ⊢
  rw [hc, h.1 (2046 + 10 * l) (by omega) (by omega), h.1 (2046 + 10 * l + 3) (by omega) (by omega), h.1 (2046 + 10 * l + 4) (by omega) (by omega)]
  exact hw
theorem tgtOf_ln {ρ ρ' : Int → Int} (h : lnEq ρ ρ') {j : Int} (h0 : 0 ≤ j) (h1 : j < 12) : tgtOf ρ' j = tgtOf ρ j := by
  unfold tgtOf
  rw [h.1 (2166 + 10 * j) (by omega) (by omega), h.1 (2166 + 10 * j + 1) (by omega) (by omega)]
theorem ln_ln {ρ ρ' : Int → Int} (h : lnEq ρ ρ') {j : Int} (h0 : 0 ≤ j) (h1 : j < 12) (hw : WfLine ρ j) : lnP ρ' j = lnP ρ j ∧ lnV ρ' j = lnV ρ j ∧ lnT ρ' j = lnT ρ j := by
  obtain ⟨-, hs, -⟩ := hw
  unfold lnP lnV lnT
  rw [h.1 (2166 + 10 * j + 2) (by omega) (by omega), h.1 (2166 + 10 * j + 3) (by omega) (by omega), h.1 (2166 + 10 * j + 4) (by omega) (by omega), h.1 (2166 + 10 * j + 5) (by omega) (by omega), h.1 (2166 + 10 * j + 6) (by omega) (by omega), h.1 (2166 + 10 * j + 7) (by omega) (by omega)]
  exact ⟨slc_eq _ _ (fun i a b => h.2 i (by omega) (by omega)), slc_eq _ _ (fun i a b => h.2 i (by omega) (by omega)), slc_eq _ _ (fun i a b => h.2 i (by omega) (by omega))⟩
theorem WfLine.ln {ρ ρ' : Int → Int} (h : lnEq ρ ρ') {j : Int} (h0 : 0 ≤ j) (h1 : j < 12) (hw : WfLine ρ j) : WfLine ρ' j := by
  have hl := ln_ln h h0 h1 hw
  unfold WfLine WfTgt at hw ⊢
  rw [hl.1, hl.2.1, hl.2.2, tgtOf_ln h h0 h1, h.1 (2166 + 10 * j) (by omega) (by omega), h.1 (2166 + 10 * j + 1) (by omega) (by omega), h.1 (2166 + 10 * j + 2) (by omega) (by omega), h.1 (2166 + 10 * j + 3) (by omega) (by omega), h.1 (2166 + 10 * j + 4) (by omega) (by omega), h.1 (2166 + 10 * j + 5) (by omega) (by omega), h.1 (2166 + 10 * j + 6) (by omega) (by omega), h.1 (2166 + 10 * j + 7) (by omega) (by omega)]
  exact hw
theorem RepL.lw {mi : MI} {g : Nat} {ρ ρ' : Int → Int} (hw : ∀ l, 0 ≤ l → l < ρ 16 → WfLaw ρ l) (hM : ρ 16 ≤ 12) (h : RepL mi g ρ) (h16 : ρ' 16 = ρ 16) (hh : lwEq ρ ρ') : RepL mi g ρ' := by
  refine ⟨by rw [h16]; exact h.1, fun l a b => ?_⟩
  rw [h16] at b
  rw [lawC_lw hh a (by omega) (hw l a b)]
  exact h.2 l a b
theorem RepN.ln {mi : MI} {g : Nat} {ρ ρ' : Int → Int} (hw : ∀ j, 0 ≤ j → j < ρ 17 → WfLine ρ j) (hM : ρ 17 ≤ 12) (h : RepN mi g ρ) (h17 : ρ' 17 = ρ 17) (hh : lnEq ρ ρ') : RepN mi g ρ' := by
  refine ⟨by rw [h17]; exact h.1, fun j a b => ?_⟩
  rw [h17] at b
  have := ln_ln hh a (by omega) (hw j a b)
  rw [tgtOf_ln hh a (by omega), this.1, this.2.1, this.2.2]
  exact h.2 j a b
theorem Rep.bd {mi : MI} {g : Nat} {B : Int} {ρ ρ' : Int → Int} (h : Rep (-1) mi g ρ) (hI : Inv B ρ) (e : bdEq ρ ρ') : Rep (-1) mi g ρ' := by
  obtain ⟨rW, rL, rN, rJ, rS, rH, rC⟩ := h
  have h16 := hI.1.2.2.2.2.2.1
  have h17 := hI.1.2.2.2.2.2.2.1
  have h8 := hI.1.2.2.2.1
  exact ⟨rW.row (fun k hk => e k (by omega) (by omega)), rL.lw hI.wf.1 h16.2 (e 16 (by omega) (by omega)) e.lw, rN.ln hI.wf.2 h17.2 (e 17 (by omega) (by omega)) e.ln, rJ.row h8.2 (fun k hk => e k (by omega) (by omega)), rS.row (fun k a b => e k (by omega) (by omega)), rH.row (fun k hk => e k (by omega) (by omega)), rC.row (fun k hk => e k (by omega) (by omega))⟩
/-- what stays true when some places change -/
theorem Inv.gen {B : Int} {ρ ρ' : Int → Int} (h : Inv B ρ) (hV : VC (clR ρ')) (hW : InvW ρ') (h7 : 0 ≤ ρ' 7 ∧ (0 < ρ' 17 → ρ' 7 < ρ' 17)) (h8 : 0 ≤ ρ' 8 ∧ ρ' 8 ≤ 200) (h9 : 0 ≤ ρ' 9 ∧ ρ' 9 ≤ 1000) (h10 : 0 ≤ ρ' 10 ∧ ρ' 10 < 1000003) (h11 : 0 ≤ ρ' 11 ∧ ρ' 11 ≤ 3) (h12 : ρ' 12 = -1 ∨ 0 ≤ ρ' 12) (h13 : 0 ≤ ρ' 13 ∧ ρ' 13 ≤ 12) (h14 : ρ' 14 = 0 ∨ ρ' 14 = 1) (h15 : 0 ≤ ρ' 15 ∧ ρ' 15 ≤ 16777215) (h16 : (0 ≤ ρ' 16 ∧ ρ' 16 ≤ 12) ∧ ∀ l, 0 ≤ l → l < ρ' 16 → WfLaw ρ' l) (h17 : (0 ≤ ρ' 17 ∧ ρ' 17 ≤ 12) ∧ ∀ j, 0 ≤ j → j < ρ' 17 → WfLine ρ' j) (h19 : rg (ρ' 19)) (hp : ∀ i, 0 ≤ i → i < 5 → 1 ≤ ρ' (102 + i) ∧ ρ' (102 + i) ≤ 9) (e : ∀ k, (0 ≤ k ∧ k ≤ 6) ∨ k = 18 → ρ' k = ρ k) : Inv B ρ' := by
  obtain ⟨⟨_, b0, _, _, _, _, _, b18, _, _⟩, _, ⟨c1, _, _, _, _, _, _, c8, c9, _⟩, bB⟩ := h
  have e0 := e 0 (by omega)
  have e3 := e 3 (by omega)
  have e18 := e 18 (by omega)
  exact ⟨⟨hV, by rw [e0]; exact b0, h7, h8, h10, h16.1, h17.1, ⟨by rw [e18]; exact b18.1, by rw [e18]; exact b18.2.1, h13⟩, h16.2, h17.2⟩, hW, ⟨fun k a b => by rw [e k (by omega)]; exact c1 k a b, hp, h11, h15, h14, h9, h12, by rw [e3, e0]; exact c8, by rw [e18, e3]; exact c9, h19⟩, by rw [e0]; exact bB⟩
theorem Inv.bd {B : Int} {ρ ρ' : Int → Int} (h : Inv B ρ) (e : bdEq ρ ρ') : Inv B ρ' := by
  have q := fun (k : Int) (a : 0 ≤ k) (b : k < 3886) => e k a b
  have h1 := h.1
  have h2 := h.2.2.1
  have h16 := h.1.2.2.2.2.2.1
  have h17 := h.1.2.2.2.2.2.2.1
  have e7 := q 7 (by omega) (by omega)
  have e8 := q 8 (by omega) (by omega)
  have e16 := q 16 (by omega) (by omega)
  have e17 := q 17 (by omega) (by omega)
  refine h.gen (h1.1.ag (fun i a b => q _ (by omega) (by omega))) (h.2.1.cong h1.2.2.2.1.2 (fun k hk => q k (by unfold rlW at hk; omega) (by unfold rlW at hk; omega))) (by rw [e7, e17]; exact h1.2.2.1) (by rw [e8]; exact h1.2.2.2.1) (by rw [q 9 (by omega) (by omega)]; exact h2.2.2.2.2.2.1) (by rw [q 10 (by omega) (by omega)]; exact h1.2.2.2.2.1) (by rw [q 11 (by omega) (by omega)]; exact h2.2.2.1) (by rw [q 12 (by omega) (by omega)]; exact h2.2.2.2.2.2.2.1) (by rw [q 13 (by omega) (by omega)]; exact h1.2.2.2.2.2.2.2.1.2.2) (by rw [q 14 (by omega) (by omega)]; exact h2.2.2.2.2.1) (by rw [q 15 (by omega) (by omega)]; exact h2.2.2.2.1) ⟨by rw [e16]; exact h16, fun l a b => ?_⟩ ⟨by rw [e17]; exact h17, fun j a b => ?_⟩ (by rw [q 19 (by omega) (by omega)]; exact h2.2.2.2.2.2.2.2.2.2) (fun i a b => by rw [q _ (by omega) (by omega)]; exact h2.2.1 i a b) (fun k hk => q k (by omega) (by omega))
  · rw [e16] at b
    exact (h.wf.1 l a b).lw e.lw a (by omega)
  · rw [e17] at b
    exact (h.wf.2 j a b).ln e.ln a (by omega)
theorem Inv.mono {B B' : Int} {ρ : Int → Int} (h : Inv B ρ) (hB : B ≤ B') : Inv B' ρ := ⟨h.1, h.2.1, h.2.2.1, Int.le_trans h.2.2.2 hB⟩
/-! what mends hang on -/
def mdP (k : Int) : Prop := k = 0 ∨ k = 8 ∨ k = 14 ∨ k = 16 ∨ (30 ≤ k ∧ k < 54) ∨ (78 ≤ k ∧ k < 107) ∨ (646 ≤ k ∧ k < 2166) ∨ (2286 ≤ k ∧ k < 3086)
def mdEq (ρ ρ' : Int → Int) : Prop := ∀ k, mdP k → ρ' k = ρ k
theorem mdEq.sy {ρ ρ' : Int → Int} (h : mdEq ρ ρ') : mdEq ρ' ρ := fun k hk => (h k hk).symm
theorem mdEq.lw {ρ ρ' : Int → Int} (h : mdEq ρ ρ') : lwEq ρ ρ' := ⟨fun i a b => h i (by unfold mdP; omega), fun i a b => h i (by unfold mdP; omega)⟩
/-- what is needed of a row: cells, writes' number, laws -/
def MdW (ρ : Int → Int) : Prop := VC (clR ρ) ∧ (0 ≤ ρ 8 ∧ ρ 8 ≤ 200) ∧ (ρ 16 ≤ 12) ∧ ∀ l, 0 ≤ l → l < ρ 16 → WfLaw ρ l
theorem Inv.mdw {B : Int} {ρ : Int → Int} (h : Inv B ρ) : MdW ρ := ⟨h.1.1, h.1.2.2.2.1, h.1.2.2.2.2.2.1.2, h.wf.1⟩
theorem MdW.eq {ρ ρ' : Int → Int} (h : MdW ρ) (e : mdEq ρ ρ') : MdW ρ' := by
  have e16 := e 16 (by unfold mdP; omega)
  refine ⟨h.1.ag (fun i a b => e _ (by unfold mdP; omega)), by rw [e 8 (by unfold mdP; omega)]; exact h.2.1, by rw [e16]; exact h.2.2.1, fun l a b => ?_⟩
  rw [e16] at b
  have := h.2.2.1
  exact (h.2.2.2 l a b).lw e.lw a (by omega)
theorem lateF_eq {ρ ρ' : Int → Int} (e : mdEq ρ ρ') {c : Int} : ∀ n : Nat, n ≤ 200 → lateF ρ' c n = lateF ρ c n
  | 0, _ => rfl
  | n + 1, hn => by
    rw [lateF, lateF, lateF_eq e n (by omega), e _ (show mdP (646 + 7 * (n : Int) + 2) by unfold mdP; omega), e _ (show mdP (646 + 7 * (n : Int) + 1) by unfold mdP; omega), e _ (show mdP (646 + 7 * (n : Int)) by unfold mdP; omega), e 0 (by unfold mdP; omega)]
theorem prR_eq {ρ ρ' : Int → Int} (e : mdEq ρ ρ') (h8 : 0 ≤ ρ 8 ∧ ρ 8 ≤ 200) {c v : Int} (h0 : 0 ≤ c) (h1 : c < 24) : prR ρ' c v = prR ρ c v := by
  have hk := knd_rg h0 h1
  unfold prR
  rw [e 8 (by unfold mdP; omega), lateF_eq e _ (by omega), e 14 (by unfold mdP; omega), e (102 + knd c) (by unfold mdP; omega), e (78 + c) (by unfold mdP; omega)]
theorem rowA_eqAt {ρ ρ' : Int → Int} {k : Int} : ∀ (A : List PR) {r r' : Int → Int}, r' k = r k → rowA r' A k = rowA r A k
  | [], _, _, h => h
  | q :: A, r, r', h => by
    show rowA (ud r' (30 + q.1) q.2) A k = rowA (ud r (30 + q.1) q.2) A k
    refine rowA_eqAt (ρ := ρ) (ρ' := ρ') A ?_
    unfold ud
    rw [h]
theorem rowA_VC {ρ : Int → Int} {A : List PR} (hV : VC (clR ρ)) (hP : Pth ρ A) : VC (clR (rowA ρ A)) := hV.wr (fun i h0 h1 => by
  by_cases e : ∃ q ∈ A, q.1 = i
  · obtain ⟨q, hq, rfl⟩ := e
    right
    show biC q.1 (rowA ρ A (30 + q.1)) = 1
    rw [rowA_mem hP.1 (show (q.1, q.2) ∈ A from hq)]
    exact (hP.2 q hq).2.2.1
  · left
    show rowA ρ A (30 + i) = ρ (30 + i)
    exact rowA_not (fun q hq z => e ⟨q, hq, by omega⟩))
theorem Mnd.eq1 {ρ ρ' : Int → Int} (e : mdEq ρ ρ') (hw : MdW ρ) {L : List PR} (h : Mnd ρ L) : Mnd ρ' L := by
  obtain ⟨h1, h2, h3⟩ := h
  have hV := rowA_VC hw.1 h2
  have hc : ag (clR (rowA ρ L)) (clR (rowA ρ' L)) := fun i a b => rowA_eqAt (ρ := ρ) (ρ' := ρ') L (e _ (by unfold mdP; omega))
  refine ⟨h1, ⟨h2.1, fun q hq => ?_⟩, fun l a b => ?_⟩
  · obtain ⟨a1, a2, a3, a4⟩ := h2.2 q hq
    exact ⟨a1, a2, a3, by rw [e _ (show mdP (30 + q.1) by unfold mdP; omega)]; exact a4⟩
  · rw [e 16 (by unfold mdP; omega)] at b
    have := hw.2.2.1
    rw [lawC_lw e.lw a (by omega) (hw.2.2.2 l a b), valA_ag hV hc (hw.2.2.2 l a b).2.2.2]
    exact h3 l a b
theorem Mnd_eq {ρ ρ' : Int → Int} (e : mdEq ρ ρ') (hw : MdW ρ) {L : List PR} : Mnd ρ' L ↔ Mnd ρ L := ⟨Mnd.eq1 e.sy (hw.eq e), Mnd.eq1 e hw⟩
theorem prc_eq {ρ ρ' : Int → Int} (e : mdEq ρ ρ') (hw : MdW ρ) {L : List PR} (h : Mnd ρ L) : prc ρ' L = prc ρ L := by
  unfold prc
  refine congrArg sumL (List.map_congr_left (fun q hq => prR_eq e hw.2.1 (h.2.1.2 q hq).1 (h.2.1.2 q hq).2.1))
theorem NoMend.eq {ρ ρ' : Int → Int} (e : mdEq ρ ρ') (hw : MdW ρ) {m : Int} (h : NoMend ρ m) : NoMend ρ' m := fun L hL => h L ((Mnd_eq e hw).mp hL)
theorem Least.eq {ρ ρ' : Int → Int} (e : mdEq ρ ρ') (hw : MdW ρ) {m P C : Int} (h : Least ρ m P C) : Least ρ' m P C := by
  obtain ⟨⟨L, a1, a2, a3⟩, b, c⟩ := h
  refine ⟨⟨L, (Mnd_eq e hw).mpr a1, a2, by rw [prc_eq e hw a1]; exact a3⟩, b, fun L hL hl => ?_⟩
  have hL' := (Mnd_eq e hw).mp hL
  rw [prc_eq e hw hL']
  exact c L hL' hl
theorem Keys.eq {ρ ρ' : Int → Int} (e : mdEq ρ ρ') (hw : MdW ρ) {f : List PR → Int} {P C : Int} {K : List Int} (h : Keys f ρ P C K) : Keys f ρ' P C K := ⟨h.1, fun k => (h.2 k).trans ⟨fun ⟨L, a1, a2, a3, a4⟩ => ⟨L, (Mnd_eq e hw).mpr a1, a2, by rw [prc_eq e hw a1]; exact a3, a4⟩, fun ⟨L, a1, a2, a3, a4⟩ => ⟨L, (Mnd_eq e hw).mp a1, a2, by rw [← prc_eq e hw ((Mnd_eq e hw).mp a1)]; exact a3, a4⟩⟩⟩
theorem Lst.eq {ρ ρ' : Int → Int} (e : mdEq ρ ρ') (hw : MdW ρ) {P C : Int} {Y : List (List PR)} (h : Lst ρ P C Y) : Lst ρ' P C Y := ⟨h.1, fun L => (h.2 L).trans ⟨fun ⟨a1, a2, a3⟩ => ⟨(Mnd_eq e hw).mpr a1, a2, by rw [prc_eq e hw a1]; exact a3⟩, fun ⟨a1, a2, a3⟩ => ⟨(Mnd_eq e hw).mp a1, a2, by rw [← prc_eq e hw ((Mnd_eq e hw).mp a1)]; exact a3⟩⟩⟩
theorem LkY.eq {ρ ρ' : Int → Int} (e : mdEq ρ ρ') (hw : MdW ρ) {m : Int} {mi mi' : MI} (h : LkY ρ m mi) (h34 : mi' 0 80 34 = mi 0 80 34) (h35 : mi' 0 80 35 = mi 0 80 35) (h36 : mi' 0 80 36 = mi 0 80 36) (h93 : mi' 0 93 = mi 0 93) : LkY ρ' m mi' := by
  unfold LkY at *
  rw [h34, h35, h36, h93]
  rcases h with ⟨a, b⟩ | ⟨a, b, Y, c, d⟩
  · exact Or.inl ⟨a, b.eq e hw⟩
  · exact Or.inr ⟨a, b.eq e hw, Y, c.eq e hw, d⟩
theorem MkV.eq {ρ ρ' : Int → Int} (e : mdEq ρ ρ') (hw : MdW ρ) {mi mi' : MI} {k s : Int} (h : MkV mi ρ k s) (hm : ∀ a b, 57 ≤ b → b ≤ 58 → mi' a b = mi a b) : MkV mi' ρ' k s := by
  rcases h with ⟨a, b⟩ | ⟨C, P, K, a, b, c, d, f⟩
  · exact Or.inl ⟨a, b.eq e hw⟩
  · refine Or.inr ⟨C, P, K, a, ?_, c, d.eq e hw, f.eq e hw⟩
    unfold ML at *
    rw [hm C 57 (by decide) (by decide), hm C 58 (by decide) (by decide)]
    exact b
theorem MB.eq {ρ ρ' : Int → Int} (e : mdEq ρ ρ') (hw : MdW ρ) {mi mi' : MI} (h : MB mi ρ) (h64 : mi' 0 64 = mi 0 64) (h65 : mi' 0 65 = mi 0 65) (h60 : mi' 0 60 8 = mi 0 60 8) : MB mi' ρ' := by
  unfold MB at *
  rw [h64, h65, h60]
  refine ⟨fun c a b => ⟨(h.1 c a b).1, fun v hv => ?_⟩, h.2⟩
  rw [prR_eq e hw.2.1 a b]
  exact (h.1 c a b).2 v hv
theorem MkK.eq {ρ ρ' : Int → Int} (e : mdEq ρ ρ') (hw : MdW ρ) {mi mi' : MI} {mr mr' : MR} (h : MkK mi mr ρ) (hm : ∀ a b, 57 ≤ b → b ≤ 68 → mi' a b = mi a b) (hr : mr 2 50 0 = some (0, 63) → mr' 2 50 0 = some (0, 63)) : MkK mi' mr' ρ' := by
  unfold MkK at *
  have e60 : mi' 0 60 = mi 0 60 := hm 0 60 (by decide) (by decide)
  rw [e60]
  rcases h with z | ⟨a1, a2, a3, a4, a5⟩
  · exact Or.inl z
  · refine Or.inr ⟨a1, hr a2, a3.eq e hw (hm 0 64 (by decide) (by decide)) (hm 0 65 (by decide) (by decide)) (by rw [e60]), ?_, fun j b c => ?_⟩
    · intro i b c
      have h1 := a4 i b c
      unfold clM at *
      rw [hm 0 63 (by decide) (by decide)]
      rw [h1]
      exact (e (30 + i) (by unfold mdP; omega)).symm
    · rw [hm 0 62 (by decide) (by decide)]
      exact (a5 j b c).eq e hw (fun a b z1 z2 => hm a b z1 (by omega))
