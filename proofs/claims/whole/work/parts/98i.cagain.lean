/-! the class: again -/
def pAh (h a b : Nat) (k : Int) : Bool := rlS h a b || pAg h a b k || (a == 0 && b == 0 && k == 3) || (a == 0 && b == 60 && k == 3) || (a == 0 && b == 70 && k == 10)
theorem pAg_unm {G h a b : Nat} {k : Int} (hh : h < G) (z : unm G a b) : pAh h a b k = false := by
  unfold unm at z
  simp [pAh, pAg, pSt, pJ, pW5, pQ, rlS]
  omega
section CAI
variable {d n G : Nat} {mr : MR} {Q : V → MI → Nat → MR → Prop}
/-- from where the spare state stands -/
theorem run_again (hL : Lay G mr) {mi : MI} {g h : Nat} {i0 i1 : Option Nat} {ρ : Int → Int} {B s : Int} {kc ks : Nat} {x2 x3 x4 : V} (hkc : kc ≤ 37) (hks : ks ≤ 2816) (hO : Own G g (some h) i0 i1 mr) (hn : n = 93 + 37 * G) (hz : Fz n mi mr) (hR : Rep (-1) mi g ρ) (hI : Inv B ρ) (hS1 : TxS mi g) (hS2 : TxS mi (g + 10)) (hs0 : 0 ≤ s) (hs1 : s < ρ 0) (h20 : ρ 20 < s)
    (hQ3 : agF (ag0 ρ s) (s + 1) (ρ 0 - s - 1).toNat = none → ∀ mi' mr', Lay G mr' → Own G g (some h) i0 i1 mr' → Fz n mi' mr' → Cg (pAh h) mi mi' → mi' 0 0 3 = -3 → mi' 0 60 3 = mi 0 60 3 → mi' 0 70 10 = mi 0 70 10 → mr' 2 50 0 = mr 2 50 0 → Q (vI (-3)) mi' n mr')
    (hQ4 : ∀ q, agF (ag0 ρ s) (s + 1) (ρ 0 - s - 1).toNat = some q → ∀ mi' mr', Lay G mr' → Own G h (some g) i0 i1 mr' → Fz n mi' mr' → Cg (pAh h) mi mi' → mi' 0 0 3 = 0 → mi' 0 60 3 = -1 → mi' 0 70 10 = 0 → Rep (-1) mi' h q.1 → TxS mi' h → TxS mi' (h + 10) → Q (vI q.2) mi' n mr') : Run (d+7) mt_X11_again Q (n, mr, kc, ks) mi 73 [vR (some (0, 0)), vI s, x2, vX 0, x4] [] := by
  have hnow := hO.1
  have hspa : mr 0 0 5 = some (h, 5) := hO.2.1
  have hg := hO.2.2.2.2.1
  have hh := hO.2.2.2.2.2.1 h rfl
  have hG4 := hO.g4
  have h16 := hI.1.2.2.2.2.2.1
  have h17 := hI.1.2.2.2.2.2.2.1
  have h14 := hI.2.2.1.2.2.2.2.1
  sorry
end CAI
