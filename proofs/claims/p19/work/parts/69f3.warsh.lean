/-- the ways of all rows: only of instructions that are there -/
def Sw (f : Nat → Int → Int) (a b : Int) : Prop := (a < f 46 (0 : Nat) ∧ ¬ f 47 a = 18) ∧ Sr f a b
/-- rows of ways: sound, holding each way, closed through what lies ahead of k -/
def wK (f : Nat → Int → Int) (g : Int → Int64) (k : Int) : Prop := (∀ a, 0 ≤ a → a < 36 → ∀ b, fX (g a) b → rs (Sw f) (Sw f a) nS b) ∧ (∀ a b, 0 ≤ a → a < 36 → Sw f a b → fX (g a) b) ∧ (∀ c, 0 ≤ c → c < k → ∀ a b, 0 ≤ a → a < 36 → fX (g a) c → fX (g c) b → fX (g a) b) ∧ (∀ a, 0 ≤ a → a < 36 → fN 35 (g a))
def wL (g h : Int → Int64) (k n : Int) : Prop := ∀ a, 0 ≤ a → a < 36 → (a < n → fX (g a) k → h a = g a ||| g k) ∧ (a < n → ¬ fX (g a) k → h a = g a) ∧ (n ≤ a → h a = g a)
theorem or_self64 (x : Int64) : x ||| x = x := by
  apply Int64.toBitVec_inj.mp
  show x.toBitVec ||| x.toBitVec = x.toBitVec
  exact BitVec.or_self
theorem or_zero64 (x : Int64) : x ||| Int64.ofNat 0 = x := by
  apply Int64.toBitVec_inj.mp
  show x.toBitVec ||| 0#64 = x.toBitVec
  exact BitVec.or_zero
theorem wL_k {g h : Int → Int64} {k n : Int} (k0 : 0 ≤ k) (k1 : k < 36) (hl : wL g h k n) : h k = g k := by
  obtain ⟨h1, h2, h3⟩ := hl k k0 k1
  by_cases e : k < n
  · by_cases q : fX (g k) k
    · rw [h1 e q, or_self64]
    · exact h2 e q
  · exact h3 (by omega)
theorem wK_next {f : Nat → Int → Int} {g h : Int → Int64} {k n : Int} (k0 : 0 ≤ k) (k1 : k < 36) (hn : 36 ≤ n) (hk : wK f g k) (hl : wL g h k n) : wK f h (k + 1) := by
  have hr : ∀ a, 0 ≤ a → a < 36 → ∀ b, fX (h a) b ↔ (fX (g a) b ∨ (fX (g a) k ∧ fX (g k) b)) := by
    intro a a0 a1 b
    obtain ⟨h1, h2, -⟩ := hl a a0 a1
    by_cases q : fX (g a) k
    · rw [h1 (by omega) q, fX_or]
      exact ⟨fun z => z.imp id (fun z => ⟨q, z⟩), fun z => z.imp id (fun z => z.2)⟩
    · rw [h2 (by omega) q]
      exact ⟨fun z => Or.inl z, fun z => z.elim id (fun z => absurd z.1 q)⟩
  obtain ⟨w1, w2, w3, w4⟩ := hk
  refine ⟨fun a a0 a1 b hb => ?_, fun a b a0 a1 hs => (hr a a0 a1 b).mpr (Or.inl (w2 a b a0 a1 hs)), fun c c0 c1 a b a0 a1 x y => ?_, fun a a0 a1 b hb => ?_⟩
  · rcases (hr a a0 a1 b).mp hb with q | ⟨q, q'⟩
    · exact w1 a a0 a1 b q
    · exact rs_tr (w1 a a0 a1 k q) (w1 k k0 k1 b q')
  · have c36 : c < 36 := by omega
    rw [hr a a0 a1] at x ⊢
    rw [hr c c0 c36] at y
    by_cases e : c = k
    · subst e
      rcases x with x | ⟨x, -⟩
      · rcases y with y | ⟨-, y⟩
        · exact Or.inr ⟨x, y⟩
        · exact Or.inr ⟨x, y⟩
      · rcases y with y | ⟨-, y⟩
        · exact Or.inr ⟨x, y⟩
        · exact Or.inr ⟨x, y⟩
    · have cl := w3 c c0 (by omega)
      rcases x with x | ⟨x, x'⟩
      · rcases y with y | ⟨y, y'⟩
        · exact Or.inl (cl a b a0 a1 x y)
        · exact Or.inr ⟨cl a k a0 a1 x y, y'⟩
      · rcases y with y | ⟨y, y'⟩
        · exact Or.inr ⟨x, cl k b k0 k1 x' y⟩
        · exact Or.inr ⟨x, y'⟩
  · rcases (hr a a0 a1 b).mp hb with q | ⟨q, q'⟩
    · exact w4 a a0 a1 b q
    · exact w4 k k0 k1 b q'
theorem wK_fin {f : Nat → Int → Int} {g : Int → Int64} {k : Int} (hk : wK f g k) (h36 : 36 ≤ k) : ∀ a, 0 ≤ a → a < 36 → ∀ b, fX (g a) b ↔ rs (Sw f) (Sw f a) nS b := by
  intro a a0 a1 b
  refine ⟨hk.1 a a0 a1 b, fun q => q (fX (g a)) (fun i hi => hk.2.1 a i a0 a1 hi) (fun i j hi _ hs => ?_)⟩
  have i36 : 0 ≤ i ∧ i < 36 := ⟨hs.2.1.1, by have := hs.2.1.2; omega⟩
  exact hk.2.2.1 i i36.1 (by omega) a j a0 a1 hi (hk.2.1 i j i36.1 i36.2 hs)

