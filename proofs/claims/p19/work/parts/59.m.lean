/-! the class's Dependences -/
theorem dR_zero {f : Int → Int} (h : ∀ i : Int, 0 ≤ i → i < ((2016 : Nat) : Int) → f i = 0) : dR f := by
  intro n k n0 n1 k0 k1
  rw [h _ (by omega) (by omega)]
  exact bit_zero
