/-! the dependences inside, of all nodes: class and reference -/
def RDc (f : Nat → Int → Int) (a z : Int) : Prop := (a < 32 ∧ ¬ cLl f a ∧ (((¬ f 2 a = 0 ∧ ¬ f 2 a = 6) ∧ f 4 a = z) ∨ (((1 ≤ f 2 a ∧ f 2 a ≤ 5) ∨ f 2 a = 8) ∧ f 5 a = z))) ∨ ((32 ≤ a ∧ a < 64) ∧ f 4 (a % 32) = z) ∨ ((64 ≤ a ∧ a < 96) ∧ f 5 (a % 32) = z) ∨ (224 ≤ a ∧ (a - 224) % 7 = 4 ∧ z = 0)
def psC (f : Nat → Int → Int) (a p y : Int) : Prop := (a < 224 ∧ y = a % 32) ∨ (224 ≤ a ∧ y = f 11 p)
def opR (f : Nat → Int → Int) : Prop := ∀ i, 0 ≤ i → 0 ≤ f 2 i ∧ f 2 i ≤ 18
theorem rd_cx {f : Nat → Int → Int} (h : bW f) (hr : opR f) {a : Int} (a0 : 0 ≤ a) (a1 : a ≤ 251) (hx : xsC f a) (z : Int) : rdr f (psi a) z ↔ RDc f a z := by
  have c32 := h.2.2.2.1
  have c := fun q => xs_c hx a0 q
  unfold rdr RDc fs1 fs2
  rcases psi_r a a0 a1 with ⟨q, e1, e2, e3, e4⟩ | ⟨q, e1, e2, e3, e4⟩ | ⟨q, e1, e2, e3, e4⟩
  · rw [e2, e3, e4, e1]
    have em : a % 32 = a := by omega
    have c := c (by omega)
    rw [em] at c
    obtain ⟨⟨e47, -, e49, e50⟩, -⟩ := h.1.2.1 a c.1 c.2.1
    rw [e47, e49, e50]
    have o := hr a a0
    have nd : ndE f a := by
      rcases hx with ⟨-, y⟩ | ⟨y, -⟩ | ⟨y, -⟩
      · exact y.2
      · omega
      · omega
    unfold ndE at nd
    by_cases hc : cLl f a
    · have hc2 := hc.2
      constructor
      · intro w
        exfalso
        omega
      · rintro (⟨-, w, -⟩ | w | w | w)
        · exact absurd hc w
        · omega
        · omega
        · omega
    · have hc2 : ¬ (13 ≤ f 2 a ∧ f 2 a ≤ 16) := fun w => hc ⟨⟨c.1, c.2.1⟩, w⟩
      constructor
      · rintro (w | ⟨-, w | w | ⟨-, w | w⟩⟩)
        · omega
        · omega
        · omega
        · exact Or.inl ⟨q, hc, Or.inl ⟨by omega, w.2⟩⟩
        · exact Or.inl ⟨q, hc, Or.inr ⟨by omega, w.2⟩⟩
      · rintro (⟨-, -, w | w⟩ | w | w | w)
        · exact Or.inr ⟨by omega, Or.inr (Or.inr ⟨q, Or.inl ⟨by omega, w.2⟩⟩)⟩
        · exact Or.inr ⟨by omega, Or.inr (Or.inr ⟨q, Or.inr ⟨by omega, w.2⟩⟩)⟩
        · omega
        · omega
        · omega
  · rw [e2, e3, e4]
    have c := c (by omega)
    obtain ⟨⟨-, -, e49, e50⟩, -⟩ := h.1.2.1 _ c.1 c.2.1
    rw [e49, e50]
    constructor
    · rintro (w | ⟨-, w | w | w⟩)
      · omega
      · exact Or.inr (Or.inl ⟨by omega, w.2⟩)
      · exact Or.inr (Or.inr (Or.inl ⟨by omega, w.2⟩))
      · omega
    · rintro (w | w | w | w)
      · omega
      · exact Or.inr ⟨by omega, Or.inl ⟨by omega, w.2⟩⟩
      · exact Or.inr ⟨by omega, Or.inr (Or.inl ⟨by omega, w.2⟩)⟩
      · omega
  · rw [e4]
    constructor
    · rintro (w | ⟨w, -⟩)
      · exact Or.inr (Or.inr (Or.inr ⟨q, w⟩))
      · omega
    · rintro (w | w | w | w)
      · omega
      · omega
      · omega
      · exact Or.inl w.2
theorem rd_pos {f : Nat → Int → Int} (hO : cOps f) (hr : opR f) {a z : Int} (a0 : 0 ≤ a) (hx : xsC f a) (h : RDc f a z) : 0 ≤ z := by
  rcases h with ⟨q, hc, w⟩ | ⟨q, w⟩ | ⟨q, w⟩ | ⟨q, -, w⟩
  · rcases hx with ⟨-, y⟩ | ⟨y, -⟩ | ⟨y, -⟩
    · obtain ⟨-, oa, ob⟩ := hO a y.1.1 y.1.2
      have y2 := y.2
      unfold ndE at y2
      rcases w with w | w
      · by_cases hA : nA (f 2 a)
        · have := oa hA
          omega
        · exfalso
          apply hA
          unfold nA
          have hc2 : ¬ (13 ≤ f 2 a ∧ f 2 a ≤ 16) := fun w => hc ⟨y.1, w⟩
          have := hr a a0
          omega
      · have := ob (by unfold nB; omega)
        omega
    · omega
    · omega
  · rcases hx with ⟨y, -⟩ | ⟨-, y⟩ | ⟨y, -⟩
    · omega
    · have := (hO _ y.1.1 y.1.2).2.1 (by have := y.2; unfold nA; omega)
      omega
    · omega
  · rcases hx with ⟨y, -⟩ | ⟨-, y⟩ | ⟨y, -⟩
    · omega
    · have := (hO _ y.1.1 y.1.2).2.2 (by have := y.2; unfold nB; omega)
      omega
    · omega
  · omega
/-- a reader's place -/
theorem pos_cx {f : Nat → Int → Int} (h : bW f) {a p y : Int} (a0 : 0 ≤ a) (a1 : a ≤ 251) (hx : xsC f a) (hp : prC f a p) (hy : psC f a p y) : aT (psi a) = ph f p y ∧ f 10 p ≤ y ∧ y ≤ f 11 p := by
  obtain ⟨⟨p0, p1⟩, hin⟩ := pr_in h a0 hx hp
  have b := h.2.1.2.1 p p0 p1
  have r := ph_r f p y
  unfold psC at hy
  unfold prC at hp
  have ps := psi_r a a0 a1
  by_cases q : a < 224
  · have := hin q
    omega
  · omega
/-- data, of all nodes -/
theorem dt_cx {f : Nat → Int → Int} {l : Nat → Int → Int64} (h : bW f) (hr : opR f) (hO : cOps f) (hW : wyS f l) {a b p y : Int} (a0 : 0 ≤ a) (a1 : a ≤ 251) (b0 : 0 ≤ b) (b1 : b ≤ 251) (hx : xsC f a) (hp : prC f a p) (hy : psC f a p y) : (∃ z, RDc f a z ∧ rdA f l a y z p a b) ↔ (xsR f (psi b) ∧ prR f (psi b) = p ∧ dat f (psi a) (psi b)) := by
  obtain ⟨p0, p1⟩ := (pr_in h a0 hx hp).1
  obtain ⟨e, q0, q1⟩ := pos_cx h a0 a1 hx hp hy
  exact dat_cx h hW b0 b1 p0 p1 q0 q1 e ((pr_eq h a0 a1 hx).mpr hp) (fun z => rd_cx h hr a0 a1 hx z) (fun z q => rd_pos hO hr a0 hx q)
/-- reached, in both -/
theorem rc_cx {f : Nat → Int → Int} {l lr : Nat → Int → Int64} (h : bW f) (hW : wyS f l) (hE : rEx f lr) {p k n : Int} (p0 : 0 ≤ p) (p1 : p < f 1 (11 : Nat)) (k0 : f 10 p ≤ k) (k1 : k < f 11 p) (n1 : n < f 11 p) : fX (l 22 k) n ↔ fX (lr 59 k) n := by
  obtain ⟨ck, -, -, c32⟩ := bW_p h p0 p1 k0 k1
  rw [(hW.2.1 k ck.1 ck.2).1 n, hE k ck.1 (by omega) n]
  exact rch_eq h p0 p1 k0 k1 n1
