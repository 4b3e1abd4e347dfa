/-! what the reference's dependences look at -/
def rst (f : Nat → Int → Int) : Nat → Int → Int := fun p i => if 46 ≤ p ∧ p ≤ 58 then f p i else 0
def rst2 (l : Nat → Int → Int64) : Nat → Int → Int64 := fun p i => if p = 59 then l p i else 0
theorem Hk_rst (f : Nat → Int → Int) (l : Nat → Int → Int64) : Hk (rst f) (rst2 l) = Hk f l := rfl
theorem Hk_sm {f g : Nat → Int → Int} {l l' : Nat → Int → Int64} (e : ∀ p, 46 ≤ p → p ≤ 58 → g p = f p) (e59 : l' 59 = l 59) : Hk g l' = Hk f l := by
  have e1 : rst g = rst f := by
    funext p i
    unfold rst
    by_cases h : 46 ≤ p ∧ p ≤ 58
    · rw [if_pos h, if_pos h, e p h.1 h.2]
    · rw [if_neg h, if_neg h]
  have e2 : rst2 l' = rst2 l := by
    funext p i
    unfold rst2
    by_cases h : p = 59
    · rw [if_pos h, if_pos h, h, e59]
    · rw [if_neg h, if_neg h]
  rw [← Hk_rst g l', e1, e2, Hk_rst]
