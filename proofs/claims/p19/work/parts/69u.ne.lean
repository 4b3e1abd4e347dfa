/-! all edges inside, in both -/
def iA (f : Nat → Int → Int) (l : Nat → Int → Int64) (a b : Int) : Prop := eX 0 (f 1 (4 : Nat)) (fun i => inA f l i a b) ∨ eX 0 (f 1 (11 : Nat)) (fun p => enA f l p a b)
def hE (f : Nat → Int → Int) (lr : Nat → Int → Int64) (x y : Int) : Prop := ∃ k, (0 ≤ k ∧ k ≤ 3) ∧ Hk f lr k x y
def cCo (f : Nat → Int → Int) (a b : Int) : Prop := (a < 32 ∧ coU f a a b) ∨ ((32 ≤ a ∧ a < 224) ∧ b = a % 32)
def lkC (f : Nat → Int → Int) (a : Int) : Prop := (a < 32 ∧ f 2 a = 7) ∨ (96 ≤ a ∧ a < 128)
def cHe (f : Nat → Int → Int) (l : Nat → Int → Int64) (a b p : Int) : Prop := (lkC f a ∧ (b = 224 + p * 7 + 3 ∨ eX (f 10 p) (f 11 p) (fun k => fX (l 22 k) (a % 32) ∧ dSr f 8 5 k b))) ∨ ((224 ≤ a ∧ (a - 224) % 7 = 5) ∧ eX (f 10 p) (f 11 p) (fun k => True ∧ dSr f 8 5 k b))
def cHa (f : Nat → Int → Int) (l : Nat → Int → Int64) (a b p : Int) : Prop := (a < 32 ∧ eX (f 10 p) (f 11 p) (fun k => fX (l 22 k) (a % 32) ∧ dSr f 5 6 k b)) ∨ ((224 ≤ a ∧ (a - 224) % 7 = 6) ∧ eX (f 10 p) (f 11 p) (fun k => True ∧ dSr f 5 6 k b))
theorem co_cx {f : Nat → Int → Int} (h : bW f) {a b p : Int} (a0 : 0 ≤ a) (a1 : a ≤ 251) (b0 : 0 ≤ b) (b1 : b ≤ 251) (hx : xsC f a) (hp : prC f a p) : cCo f a b ↔ (xsR f (psi b) ∧ prR f (psi b) = p ∧ ctl f (psi a) (psi b)) := by
  have c32 := h.2.2.2.1
  have hP4 := h.2.1.1
  obtain ⟨⟨p0, p1⟩, hin⟩ := pr_in h a0 hx hp
  have psa := psi_r a a0 a1
  have psb := psi_r b b0 b1
  rw [xs_eq h b0 b1]
  by_cases q : a < 32
  · have c := xs_c hx a0 (by omega)
    have em : a % 32 = a := by omega
    rw [em] at c
    have e54 := (h.1.2.1 a c.1 c.2.1).2.1
    have e53 := (h.1.2.1 a c.1 c.2.1).2.2.2.2
    have y2 := (h.2.2.1.2.1 a c.1 c.2.1).1
    have ea : aT (psi a) = a := by omega
    have ep : p = f 9 a := by
      unfold prC at hp
      rw [em] at hp
      omega
    unfold cCo coU ctl
    rw [ea, e54, e53]
    constructor
    · rintro (⟨-, -, ⟨z1, z2⟩ | ⟨z1, z2⟩⟩ | z)
      · have hxs : xsC f b := Or.inr (Or.inr ⟨by omega, by omega⟩)
        exact ⟨hxs, (pr_eq h b0 b1 hxs).mpr (Or.inr ⟨by omega, by omega⟩), by omega, Or.inr ⟨by omega, Or.inr ⟨by omega, by omega⟩⟩⟩
      · rcases y2 with y | ⟨⟨y0, y1⟩, yo, y9⟩
        · exact absurd y z1
        · have hxs : xsC f b := Or.inl ⟨by omega, by rw [z2]; exact ⟨⟨y0, by omega⟩, by unfold ndE; omega⟩⟩
          exact ⟨hxs, (pr_eq h b0 b1 hxs).mpr (Or.inl ⟨by omega, by have e : b % 32 = f 6 a := (by omega); rw [e]; omega⟩), by omega, Or.inr ⟨by omega, Or.inl ⟨by omega, by omega⟩⟩⟩
      · omega
    · rintro ⟨-, -, -, ⟨z, -⟩ | ⟨-, z⟩⟩
      · omega
      · refine Or.inl ⟨q, rfl, ?_⟩
        rcases y2 with y | ⟨⟨y0, y1⟩, yo, y9⟩
        · exact Or.inl ⟨y, by omega⟩
        · exact Or.inr ⟨by omega, by omega⟩
  · by_cases q2 : a < 224
    · have c := xs_c hx a0 (by omega)
      have cl : cLl f (a % 32) := by
        rcases hx with ⟨y, -⟩ | ⟨-, y⟩ | ⟨y, -⟩
        · omega
        · exact y
        · omega
      have ea : aT (psi a) = a % 32 := by omega
      have ep : p = f 9 (a % 32) := by
        unfold prC at hp
        omega
      unfold cCo ctl
      rw [ea]
      constructor
      · rintro (z | ⟨-, z⟩)
        · omega
        · have cl2 := cl.2
          have hxs : xsC f b := Or.inl ⟨by omega, by rw [z]; exact ⟨cl.1, by unfold ndE; omega⟩⟩
          exact ⟨hxs, (pr_eq h b0 b1 hxs).mpr (Or.inl ⟨by omega, by have e : b % 32 = a % 32 := (by omega); rw [e]; exact ep⟩), by omega, Or.inl ⟨by omega, by omega⟩⟩
      · rintro ⟨-, -, -, ⟨-, z⟩ | ⟨z, -⟩⟩
        · exact Or.inr ⟨by omega, by omega⟩
        · omega
    · unfold cCo ctl
      constructor
      · rintro (z | z) <;> omega
      · rintro ⟨-, -, z, -⟩
        omega
theorem lk_cx {f : Nat → Int → Int} (h : bW f) {a : Int} (a0 : 0 ≤ a) (a1 : a ≤ 251) (hx : xsC f a) : lks f (psi a) ↔ lkC f a := by
  have psa := psi_r a a0 a1
  unfold lks lkC
  by_cases q : a < 32
  · have c := xs_c hx a0 (by omega)
    have em : a % 32 = a := by omega
    rw [em] at c
    have e47 := (h.1.2.1 a c.1 c.2.1).1.1
    have ea : aT (psi a) = a := by omega
    rw [ea, e47]
    omega
  · omega
theorem he_cx {f : Nat → Int → Int} {l lr : Nat → Int → Int64} (h : bW f) (hW : wyS f l) (hE : rEx f lr) {a b p : Int} (a0 : 0 ≤ a) (a1 : a ≤ 251) (b0 : 0 ≤ b) (b1 : b ≤ 251) (hx : xsC f a) (hp : prC f a p) : cHe f l a b p ↔ (xsR f (psi b) ∧ prR f (psi b) = p ∧ hep f lr (psi a) (psi b)) := by
  have hP4 := h.2.1.1
  obtain ⟨⟨p0, p1⟩, hin⟩ := pr_in h a0 hx hp
  have psa := psi_r a a0 a1
  have psb := psi_r b b0 b1
  have lk := lk_cx h a0 a1 hx
  have s1 := src_cx (o := 8) (t := 5) (W := fun k => fX (l 22 k) (a % 32)) h b0 b1 p0 p1 (by decide) (by decide) (by decide) (by decide)
  have s2 := src_cx (o := 8) (t := 5) (W := fun _ => True) h b0 b1 p0 p1 (by decide) (by decide) (by decide) (by decide)
  have rc : a < 224 → xsR f (psi b) → prR f (psi b) = p → ((psi b < 32 ∧ f 47 (aT (psi b)) = 8) ∨ pT (psi b) = 5 - 1) → (fX (l 22 (aT (psi b))) (a % 32) ↔ fX (lr 59 (aT (psi b))) (aT (psi a))) := by
    intro q hxs hpr w
    have hxc := (xs_eq h b0 b1).mp hxs
    have b224 : b < 224 := by omega
    obtain ⟨k0, k1⟩ := (pr_in h b0 hxc ((pr_eq h b0 b1 hxc).mp hpr)).2 b224
    have eb : aT (psi b) = b % 32 := by omega
    have ea : aT (psi a) = a % 32 := by omega
    rw [eb, ea]
    exact rc_cx h hW hE p0 p1 k0 k1 (hin q).2
  unfold cHe hep wrt
  constructor
  · rintro (⟨z, y | y⟩ | ⟨z, y⟩)
    · have hxs : xsC f b := Or.inr (Or.inr ⟨by omega, by omega⟩)
      exact ⟨(xs_eq h b0 b1).mpr hxs, (pr_eq h b0 b1 hxs).mpr (Or.inr ⟨by omega, by omega⟩), Or.inr ⟨lk.mpr z, Or.inl (by omega)⟩⟩
    · obtain ⟨y1, y2, y3, y4⟩ := s1.mp y
      have a224 : a < 224 := by
        unfold lkC at z
        omega
      exact ⟨y1, y2, Or.inr ⟨lk.mpr z, Or.inr ⟨by omega, (rc a224 y1 y2 y3).mp y4⟩⟩⟩
    · obtain ⟨y1, y2, y3, -⟩ := s2.mp y
      exact ⟨y1, y2, Or.inl ⟨by omega, by omega⟩⟩
  · rintro ⟨y1, y2, ⟨z, w⟩ | ⟨z, w | ⟨w, w'⟩⟩⟩
    · exact Or.inr ⟨by omega, s2.mpr ⟨y1, y2, by omega, trivial⟩⟩
    · have hxc := (xs_eq h b0 b1).mp y1
      have hpc := (pr_eq h b0 b1 hxc).mp y2
      unfold prC at hpc
      exact Or.inl ⟨lk.mp z, Or.inl (by omega)⟩
    · have z' := lk.mp z
      have a224 : a < 224 := by
        unfold lkC at z'
        omega
      have w2 : (psi b < 32 ∧ f 47 (aT (psi b)) = 8) ∨ pT (psi b) = 5 - 1 := by omega
      exact Or.inl ⟨z', Or.inr (s1.mpr ⟨y1, y2, w2, (rc a224 y1 y2 w2).mpr w'⟩)⟩
theorem ha_cx {f : Nat → Int → Int} {l lr : Nat → Int → Int64} (h : bW f) (hW : wyS f l) (hE : rEx f lr) {a b p : Int} (a0 : 0 ≤ a) (a1 : a ≤ 251) (b0 : 0 ≤ b) (b1 : b ≤ 251) (hx : xsC f a) (hp : prC f a p) : cHa f l a b p ↔ (xsR f (psi b) ∧ prR f (psi b) = p ∧ hal f lr (psi a) (psi b)) := by
  obtain ⟨⟨p0, p1⟩, hin⟩ := pr_in h a0 hx hp
  have psa := psi_r a a0 a1
  have psb := psi_r b b0 b1
  have s1 := src_cx (o := 5) (t := 6) (W := fun k => fX (l 22 k) (a % 32)) h b0 b1 p0 p1 (by decide) (by decide) (by decide) (by decide)
  have s2 := src_cx (o := 5) (t := 6) (W := fun _ => True) h b0 b1 p0 p1 (by decide) (by decide) (by decide) (by decide)
  have rc : a < 32 → xsR f (psi b) → prR f (psi b) = p → ((psi b < 32 ∧ f 47 (aT (psi b)) = 5) ∨ pT (psi b) = 6 - 1) → (fX (l 22 (aT (psi b))) (a % 32) ↔ fX (lr 59 (aT (psi b))) (aT (psi a))) := by
    intro q hxs hpr w
    have hxc := (xs_eq h b0 b1).mp hxs
    have b224 : b < 224 := by omega
    obtain ⟨k0, k1⟩ := (pr_in h b0 hxc ((pr_eq h b0 b1 hxc).mp hpr)).2 b224
    have eb : aT (psi b) = b % 32 := by omega
    have ea : aT (psi a) = a % 32 := by omega
    rw [eb, ea]
    exact rc_cx h hW hE p0 p1 k0 k1 (hin (by omega)).2
  unfold cHa hal stp
  constructor
  · rintro (⟨z, y⟩ | ⟨z, y⟩)
    · obtain ⟨y1, y2, y3, y4⟩ := s1.mp y
      exact ⟨y1, y2, by omega, Or.inr ⟨by omega, (rc z y1 y2 y3).mp y4⟩⟩
    · obtain ⟨y1, y2, y3, -⟩ := s2.mp y
      exact ⟨y1, y2, by omega, Or.inl (by omega)⟩
  · rintro ⟨y1, y2, w, z | ⟨z, w'⟩⟩
    · exact Or.inr ⟨by omega, s2.mpr ⟨y1, y2, by omega, trivial⟩⟩
    · have a32 : a < 32 := by omega
      have w2 : (psi b < 32 ∧ f 47 (aT (psi b)) = 5) ∨ pT (psi b) = 6 - 1 := by omega
      exact Or.inl ⟨a32, s1.mpr ⟨y1, y2, w2, (rc a32 y1 y2 w2).mpr w'⟩⟩
theorem rdA_a {f : Nat → Int → Int} {l : Nat → Int → Int64} {x y z p a b : Int} (h : rdA f l x y z p a b) : a = x := by
  rcases h with (q | ⟨_, _, q⟩) | q
  · exact q.elim
  · exact q.1
  · exact q.1
/-- the class's edges by kinds -/
def cKs (f : Nat → Int → Int) (l : Nat → Int → Int64) (a b p y : Int) : Prop := cCo f a b ∨ (∃ z, RDc f a z ∧ rdA f l a y z p a b) ∨ cHe f l a b p ∨ cHa f l a b p
theorem iA_ks {f : Nat → Int → Int} {l : Nat → Int → Int64} (h : bW f) {a b : Int} (a0 : 0 ≤ a) (a1 : a ≤ 251) : iA f l a b ↔ (xsC f a ∧ ∃ p y, prC f a p ∧ psC f a p y ∧ cKs f l a b p y) := by
  have c32 := h.2.2.2.1
  constructor
  · rintro (⟨i, ⟨i0, i1⟩, nd, ((q | q) | q) | q⟩ | ⟨p, ⟨p0, p1⟩, q⟩)
    · have xi : xsC f i := Or.inl ⟨by omega, ⟨i0, i1⟩, nd⟩
      have em : i % 32 = i := by omega
      rcases q with q | ⟨hc, t, ⟨t0, t1⟩, e1, e2⟩
      · have ea : a = i := q.1
        subst ea
        exact ⟨xi, f 9 a, a, Or.inl ⟨by omega, by rw [em]⟩, Or.inl ⟨by omega, em.symm⟩, Or.inl (Or.inl ⟨by omega, q⟩)⟩
      · have em : a % 32 = i := by omega
        exact ⟨Or.inr (Or.inl ⟨by omega, by rw [em]; exact hc⟩), f 9 i, i, Or.inl ⟨by omega, by rw [em]⟩, Or.inl ⟨by omega, em.symm⟩, Or.inl (Or.inr ⟨by omega, by omega⟩)⟩
    · have mk : ∀ x z, rdA f l x i z (f 9 i) a b → xsC f x → x % 32 = i → x < 224 → RDc f x z → xsC f a ∧ ∃ p y, prC f a p ∧ psC f a p y ∧ cKs f l a b p y := by
        intro x z hr hx em x1 hd
        have ea := rdA_a hr
        subst ea
        exact ⟨hx, f 9 i, i, Or.inl ⟨by omega, by rw [em]⟩, Or.inl ⟨by omega, em.symm⟩, Or.inr (Or.inl ⟨z, hd, hr⟩)⟩
      rcases q with ⟨hc, q | q⟩ | ⟨hc, ⟨o, q⟩ | ⟨o, q⟩⟩
      · have e : (1 * 32 + i) % 32 = i := by omega
        exact mk _ _ q (Or.inr (Or.inl ⟨by omega, by rw [e]; exact hc⟩)) e (by omega) (Or.inr (Or.inl ⟨by omega, by rw [e]⟩))
      · have e : (2 * 32 + i) % 32 = i := by omega
        exact mk _ _ q (Or.inr (Or.inl ⟨by omega, by rw [e]; exact hc⟩)) e (by omega) (Or.inr (Or.inr (Or.inl ⟨by omega, by rw [e]⟩)))
      · exact mk _ _ q (Or.inl ⟨by omega, ⟨i0, i1⟩, nd⟩) (by omega) (by omega) (Or.inl ⟨by omega, hc, Or.inl ⟨o, rfl⟩⟩)
      · exact mk _ _ q (Or.inl ⟨by omega, ⟨i0, i1⟩, nd⟩) (by omega) (by omega) (Or.inl ⟨by omega, hc, Or.inr ⟨o, rfl⟩⟩)
    · obtain ⟨x, hx, q⟩ := q
      have ea : a = x := by
        rcases q with q | ⟨_, _, _, q, _⟩
        · exact q.1
        · exact q
      subst ea
      have em : a % 32 = i := by
        unfold hN at hx
        omega
      have lk : lkC f a := by
        unfold lkC
        rcases hx with ⟨_, e⟩ | ⟨_, o, e⟩
        · omega
        · rw [e]
          exact Or.inl ⟨by omega, o⟩
      have xa : xsC f a := by
        rcases hx with ⟨hc, e⟩ | ⟨_, o, e⟩
        · exact Or.inr (Or.inl ⟨by omega, by rw [em]; exact hc⟩)
        · exact Or.inl ⟨by omega, by rw [e]; exact ⟨⟨i0, i1⟩, nd⟩⟩
      have a224 : a < 224 := by
        unfold lkC at lk
        omega
      refine ⟨xa, f 9 i, i, Or.inl ⟨a224, by rw [em]⟩, Or.inl ⟨a224, em.symm⟩, Or.inr (Or.inr (Or.inl (Or.inl ⟨lk, ?_⟩)))⟩
      rcases q with q | ⟨k, hk, q1, -, q2⟩
      · exact Or.inl q.2
      · exact Or.inr ⟨k, hk, by rw [em]; exact q1, q2⟩
    · rcases q with q | ⟨k, hk, q1, q2, q3⟩
      · exact q.elim
      · subst q2
        have em : a % 32 = a := by omega
        exact ⟨Or.inl ⟨by omega, ⟨i0, i1⟩, nd⟩, f 9 a, a, Or.inl ⟨by omega, by rw [em]⟩, Or.inl ⟨by omega, em.symm⟩, Or.inr (Or.inr (Or.inr (Or.inl ⟨by omega, k, hk, by rw [em]; exact q1, q3⟩)))⟩
    · have hP4 := h.2.1.1
      rcases q with q | ⟨k, hk, ⟨e, q⟩ | ⟨e, q⟩⟩
      · have ea := rdA_a q
        have xa : xsC f a := Or.inr (Or.inr ⟨by omega, by omega⟩)
        refine ⟨xa, p, f 11 p, Or.inr ⟨by omega, by omega⟩, Or.inr ⟨by omega, rfl⟩, Or.inr (Or.inl ⟨0, Or.inr (Or.inr (Or.inr ⟨by omega, by omega, rfl⟩)), ?_⟩)⟩
        rw [← ea] at q
        exact q
      · exact ⟨Or.inr (Or.inr ⟨by omega, by omega⟩), p, f 11 p, Or.inr ⟨by omega, by omega⟩, Or.inr ⟨by omega, rfl⟩, Or.inr (Or.inr (Or.inl (Or.inr ⟨by omega, k, hk, trivial, q⟩)))⟩
      · exact ⟨Or.inr (Or.inr ⟨by omega, by omega⟩), p, f 11 p, Or.inr ⟨by omega, by omega⟩, Or.inr ⟨by omega, rfl⟩, Or.inr (Or.inr (Or.inr (Or.inr ⟨by omega, k, hk, trivial, q⟩)))⟩
  · rintro ⟨hx, p, y, hp, hy, q⟩
    have hpi := (pr_in h a0 hx hp).1
    have inI : a < 224 → (0 ≤ a % 32 ∧ a % 32 < f 1 (4 : Nat)) ∧ ndE f (a % 32) := by
      intro z
      rcases hx with ⟨w, w'⟩ | ⟨w, w'⟩ | ⟨w, w'⟩
      · have em : a % 32 = a := by omega
        rw [em]
        exact w'
      · exact ⟨w'.1, by have := w'.2; unfold ndE; omega⟩
      · omega
    have pI : a < 224 → p = f 9 (a % 32) ∧ y = a % 32 := by
      intro z
      unfold prC at hp
      unfold psC at hy
      omega
    have pP : 224 ≤ a → p = (a - 224) / 7 ∧ y = f 11 p := by
      intro z
      unfold prC at hp
      unfold psC at hy
      omega
    have clI : 32 ≤ a → a < 224 → cLl f (a % 32) := by
      intro z z'
      rcases hx with ⟨w, -⟩ | ⟨-, w⟩ | ⟨w, -⟩
      · omega
      · exact w
      · omega
    rcases q with q | ⟨z, hz, hr⟩ | q | q
    · rcases q with ⟨w, q⟩ | ⟨w, q⟩
      · have em : a % 32 = a := by omega
        have ii := inI (by omega)
        rw [em] at ii
        exact Or.inl ⟨a, ii.1, ii.2, Or.inl (Or.inl (Or.inl (Or.inl q)))⟩
      · have ii := inI w.2
        exact Or.inl ⟨a % 32, ii.1, ii.2, Or.inl (Or.inl (Or.inl (Or.inr ⟨clI w.1 w.2, a / 32, ⟨by omega, by omega⟩, by omega, q⟩)))⟩
    · rcases hz with ⟨w, hc, q⟩ | ⟨w, q⟩ | ⟨w, q⟩ | ⟨w, w', q⟩
      · have em : a % 32 = a := by omega
        have ii := inI (by omega)
        obtain ⟨e1, e2⟩ := pI (by omega)
        rw [em] at ii e1 e2
        rw [e1, e2] at hr
        refine Or.inl ⟨a, ii.1, ii.2, Or.inl (Or.inl (Or.inr (Or.inr ⟨hc, ?_⟩)))⟩
        rcases q with ⟨o, e⟩ | ⟨o, e⟩
        · rw [← e] at hr
          exact Or.inl ⟨o, hr⟩
        · rw [← e] at hr
          exact Or.inr ⟨o, hr⟩
      · have ii := inI (by omega)
        obtain ⟨e1, e2⟩ := pI (by omega)
        rw [e1, e2, ← q] at hr
        have ea : 1 * 32 + a % 32 = a := by omega
        refine Or.inl ⟨a % 32, ii.1, ii.2, Or.inl (Or.inl (Or.inr (Or.inl ⟨clI (by omega) (by omega), Or.inl ?_⟩)))⟩
        rw [ea]
        exact hr
      · have ii := inI (by omega)
        obtain ⟨e1, e2⟩ := pI (by omega)
        rw [e1, e2, ← q] at hr
        have ea : 2 * 32 + a % 32 = a := by omega
        refine Or.inl ⟨a % 32, ii.1, ii.2, Or.inl (Or.inl (Or.inr (Or.inl ⟨clI (by omega) (by omega), Or.inr ?_⟩)))⟩
        rw [ea]
        exact hr
      · obtain ⟨e1, e2⟩ := pP w
        rw [e2, q] at hr
        have ea : 224 + p * 7 + 4 = a := by omega
        refine Or.inr ⟨p, ⟨hpi.1, hpi.2⟩, Or.inl ?_⟩
        rw [ea]
        exact hr
    · rcases q with ⟨lk, q⟩ | ⟨w, k, hk, -, q⟩
      · have a224 : a < 224 := by
          unfold lkC at lk
          omega
        have ii := inI a224
        obtain ⟨e1, e2⟩ := pI a224
        rw [e1] at q
        have hx' : hN f (a % 32) a := by
          rcases lk with ⟨w, o⟩ | w
          · have em : a % 32 = a := by omega
            rw [em]
            exact Or.inr ⟨fun z => by have := z.2; omega, o, rfl⟩
          · exact Or.inl ⟨clI (by omega) (by omega), by omega⟩
        refine Or.inl ⟨a % 32, ii.1, ii.2, Or.inl (Or.inr ⟨a, hx', ?_⟩)⟩
        rcases q with q | ⟨k, hk, q1, q2⟩
        · exact Or.inl ⟨rfl, q⟩
        · exact Or.inr ⟨k, hk, q1, rfl, q2⟩
      · obtain ⟨e1, e2⟩ := pP w.1
        exact Or.inr ⟨p, ⟨hpi.1, hpi.2⟩, Or.inr ⟨k, hk, Or.inl ⟨by omega, q⟩⟩⟩
    · rcases q with ⟨w, k, hk, q1, q2⟩ | ⟨w, k, hk, -, q⟩
      · have em : a % 32 = a := by omega
        have ii := inI (by omega)
        obtain ⟨e1, e2⟩ := pI (by omega)
        rw [em] at ii e1 q1
        rw [e1] at hk
        exact Or.inl ⟨a, ii.1, ii.2, Or.inr (Or.inr ⟨k, hk, q1, rfl, q2⟩)⟩
      · obtain ⟨e1, e2⟩ := pP w.1
        exact Or.inr ⟨p, ⟨hpi.1, hpi.2⟩, Or.inr ⟨k, hk, Or.inr ⟨by omega, q⟩⟩⟩
/-- the same edges inside, in both -/
theorem ne_cx {f : Nat → Int → Int} {l lr : Nat → Int → Int64} (h : bW f) (hr : opR f) (hO : cOps f) (hW : wyS f l) (hE' : rEx f lr) {a b : Int} (a0 : 0 ≤ a) (a1 : a ≤ 251) (b0 : 0 ≤ b) (b1 : b ≤ 251) : iA f l a b ↔ hE f lr (psi a) (psi b) := by
  rw [iA_ks h a0 a1]
  constructor
  · rintro ⟨hx, p, y, hp, hy, q⟩
    have hxa := (xs_eq h a0 a1).mpr hx
    have hpa := (pr_eq h a0 a1 hx).mpr hp
    rcases q with q | q | q | q
    · obtain ⟨q1, q2, q3⟩ := (co_cx h a0 a1 b0 b1 hx hp).mp q
      exact ⟨0, ⟨by decide, by decide⟩, ⟨hxa, q1, hpa.trans q2.symm⟩, Or.inl ⟨rfl, q3⟩⟩
    · obtain ⟨q1, q2, q3⟩ := (dt_cx h hr hO hW a0 a1 b0 b1 hx hp hy).mp q
      exact ⟨1, ⟨by decide, by decide⟩, ⟨hxa, q1, hpa.trans q2.symm⟩, Or.inr (Or.inl ⟨rfl, q3⟩)⟩
    · obtain ⟨q1, q2, q3⟩ := (he_cx h hW hE' a0 a1 b0 b1 hx hp).mp q
      exact ⟨2, ⟨by decide, by decide⟩, ⟨hxa, q1, hpa.trans q2.symm⟩, Or.inr (Or.inr (Or.inl ⟨rfl, q3⟩))⟩
    · obtain ⟨q1, q2, q3⟩ := (ha_cx h hW hE' a0 a1 b0 b1 hx hp).mp q
      exact ⟨3, ⟨by decide, by decide⟩, ⟨hxa, q1, hpa.trans q2.symm⟩, Or.inr (Or.inr (Or.inr ⟨rfl, q3⟩))⟩
  · rintro ⟨k, -, ⟨hxa, q1, q2⟩, q⟩
    have hx := (xs_eq h a0 a1).mp hxa
    have hp := (pr_eq (p := prR f (psi a)) h a0 a1 hx).mp rfl
    have hy : ∃ y, psC f a (prR f (psi a)) y := by
      by_cases z : a < 224
      · exact ⟨a % 32, Or.inl ⟨z, rfl⟩⟩
      · exact ⟨_, Or.inr ⟨by omega, rfl⟩⟩
    obtain ⟨y, hy⟩ := hy
    refine ⟨hx, _, y, hp, hy, ?_⟩
    rcases q with ⟨-, q⟩ | ⟨-, q⟩ | ⟨-, q⟩ | ⟨-, q⟩
    · exact Or.inl ((co_cx h a0 a1 b0 b1 hx hp).mpr ⟨q1, q2.symm, q⟩)
    · exact Or.inr (Or.inl ((dt_cx h hr hO hW a0 a1 b0 b1 hx hp hy).mpr ⟨q1, q2.symm, q⟩))
    · exact Or.inr (Or.inr (Or.inl ((he_cx h hW hE' a0 a1 b0 b1 hx hp).mpr ⟨q1, q2.symm, q⟩)))
    · exact Or.inr (Or.inr (Or.inr ((ha_cx h hW hE' a0 a1 b0 b1 hx hp).mpr ⟨q1, q2.symm, q⟩)))
