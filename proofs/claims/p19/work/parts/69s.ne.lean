/-! the dependences inside, of all nodes, in both -/
/-- a node of the class as the reference numbers it -/
def psi (a : Int) : Int := if a < 32 then a else if a < 224 then 32 + 6 * (a % 32) + (a / 32 - 1) else a
theorem psi_r (a : Int) (a0 : 0 ≤ a) (a1 : a ≤ 251) : (a < 32 ∧ psi a = a ∧ aT (psi a) = a ∧ pT (psi a) = -1 ∧ rL (psi a) = -1) ∨ ((32 ≤ a ∧ a < 224) ∧ (32 ≤ psi a ∧ psi a < 224) ∧ aT (psi a) = a % 32 ∧ pT (psi a) = a / 32 - 1 ∧ rL (psi a) = -1) ∨ (224 ≤ a ∧ psi a = a ∧ aT (psi a) = 32 + (a - 224) / 7 ∧ pT (psi a) = -1 ∧ rL (psi a) = (a - 224) % 7) := by
  have h1 := aT_r (psi a)
  have h2 := pT_r (psi a)
  have h3 := rL_r (psi a)
  have h4 : (a < 32 ∧ psi a = a) ∨ ((32 ≤ a ∧ a < 224) ∧ psi a = 32 + 6 * (a % 32) + (a / 32 - 1)) ∨ (224 ≤ a ∧ psi a = a) := by
    unfold psi
    split
    · omega
    · split <;> omega
  omega
/-- nodes that are there, in the class -/
def xsC (f : Nat → Int → Int) (a : Int) : Prop := (a < 32 ∧ ndT f a) ∨ ((32 ≤ a ∧ a < 224) ∧ cLl f (a % 32)) ∨ (224 ≤ a ∧ (a - 224) / 7 < f 1 (11 : Nat))
def prC (f : Nat → Int → Int) (a p : Int) : Prop := (a < 224 ∧ p = f 9 (a % 32)) ∨ (224 ≤ a ∧ p = (a - 224) / 7)
theorem xs_eq {f : Nat → Int → Int} (h : bW f) {a : Int} (a0 : 0 ≤ a) (a1 : a ≤ 251) : xsR f (psi a) ↔ xsC f a := by
  have c32 := h.2.2.2.1
  obtain ⟨ec, ep⟩ := h.1.1
  unfold xsR xsC
  rcases psi_r a a0 a1 with ⟨q, e1, e2, -, -⟩ | ⟨q, e1, e2, -, -⟩ | ⟨q, e1, -, -, -⟩
  · rw [e2, e1]
    constructor
    · rintro (z | ⟨⟨z, y⟩, x | x⟩)
      · omega
      · have e := (h.1.2.1 a a0 (by omega)).1.1
        rw [e] at x
        exact Or.inl ⟨q, ⟨a0, by omega⟩, x.2⟩
      · omega
    · rintro (⟨-, z, y⟩ | z | z)
      · have e := (h.1.2.1 a a0 z.2).1.1
        rw [e]
        exact Or.inr ⟨⟨by omega, by omega⟩, Or.inl ⟨q, y⟩⟩
      · omega
      · omega
  · rw [e2]
    constructor
    · rintro (z | ⟨⟨z, y⟩, x | x⟩)
      · omega
      · omega
      · have e := (h.1.2.1 (a % 32) (by omega) (by omega)).1.1
        have x2 := x.2
        unfold clR at x2
        rw [e] at x2
        exact Or.inr (Or.inl ⟨q, ⟨by omega, by omega⟩, x2⟩)
    · rintro (z | ⟨-, z, y⟩ | z)
      · omega
      · have e := (h.1.2.1 (a % 32) z.1 z.2).1.1
        refine Or.inr ⟨⟨by omega, by omega⟩, Or.inr ⟨by omega, ?_⟩⟩
        unfold clR
        rw [e]
        exact y
      · omega
  · rw [e1]
    constructor
    · rintro (z | z)
      · exact Or.inr (Or.inr ⟨q, by omega⟩)
      · omega
    · rintro (z | z | z)
      · omega
      · omega
      · exact Or.inl ⟨q, by omega⟩
theorem xs_c {f : Nat → Int → Int} {a : Int} (h : xsC f a) (a0 : 0 ≤ a) (q : a < 224) : 0 ≤ a % 32 ∧ a % 32 < f 1 (4 : Nat) ∧ ¬ f 2 (a % 32) = 18 := by
  rcases h with ⟨z, y⟩ | ⟨z, y⟩ | ⟨z, y⟩
  · have e : a % 32 = a := by omega
    rw [e]
    exact ⟨y.1.1, y.1.2, y.2.2.2⟩
  · exact ⟨y.1.1, y.1.2, by have := y.2; omega⟩
  · omega
theorem pr_eq {f : Nat → Int → Int} (h : bW f) {a p : Int} (a0 : 0 ≤ a) (a1 : a ≤ 251) (hx : xsC f a) : prR f (psi a) = p ↔ prC f a p := by
  have c := fun q => xs_c hx a0 q
  have r := prR_r f (psi a)
  unfold prC
  rcases psi_r a a0 a1 with ⟨q, e1, e2, -, -⟩ | ⟨q, e1, e2, -, -⟩ | ⟨q, e1, -, -, -⟩
  · rw [e2] at r
    have em : a % 32 = a := by omega
    have c := c (by omega)
    rw [em] at c ⊢
    have e := (h.1.2.1 a c.1 c.2.1).2.2.2.2
    omega
  · rw [e2] at r
    have c := c (by omega)
    have e := (h.1.2.1 (a % 32) c.1 c.2.1).2.2.2.2
    omega
  · rw [e1] at r ⊢
    omega
/-- a node's procedure is one, and a node that is no procedure's lies in it -/
theorem pr_in {f : Nat → Int → Int} (h : bW f) {a p : Int} (a0 : 0 ≤ a) (hx : xsC f a) (hp : prC f a p) : (0 ≤ p ∧ p < f 1 (11 : Nat)) ∧ (a < 224 → f 10 p ≤ a % 32 ∧ a % 32 < f 11 p) := by
  unfold prC at hp
  by_cases q : a < 224
  · obtain ⟨c0, c1, c2⟩ := xs_c hx a0 q
    have y := h.2.2.1.1 (a % 32) c0 c1 c2
    have e : p = f 9 (a % 32) := by omega
    rw [e]
    exact ⟨y.1, fun _ => y.2⟩
  · rcases hx with ⟨z, y⟩ | ⟨z, y⟩ | ⟨z, y⟩
    · omega
    · omega
    · exact ⟨by omega, fun z => absurd z q⟩
/-- as rs_cr, with the EXIT too -/
theorem rs_cx {f : Nat → Int → Int} (h : bW f) {p : Int} (p0 : 0 ≤ p) (p1 : p < f 1 (11 : Nat)) {S' : Int → Int → Prop} {X X' st st' : Int → Prop} (hS : ∀ i j', f 10 p ≤ i → i < f 11 p → (S' i j' ↔ ∃ j, Sc f i j ∧ j' = ph f p j)) (hS32 : ∀ i j', S' i j' → i < 32) (hX : ∀ j, X j → f 10 p ≤ j ∧ j ≤ f 11 p) (hXX : ∀ j', X' j' ↔ ∃ j, X j ∧ j' = ph f p j) (hst : ∀ i, f 10 p ≤ i → i < f 11 p → (st i ↔ st' i)) {n : Int} (n1 : n ≤ f 11 p) : rs (Scc f) X st n ↔ rs S' X' st' (ph f p n) := by
  have hp := h.2.1.2.1 p p0 p1
  have c32 := h.2.2.2.1
  have hx := h.2.2.1.2.2.2 p p0 p1
  constructor
  · intro q C hC1 hC2
    refine (q (fun k => (f 10 p ≤ k ∧ k ≤ f 11 p) ∧ C (ph f p k)) (fun i hi => ⟨hX i hi, hC1 _ ((hXX _).mpr ⟨i, hi, rfl⟩)⟩) (fun i k hi hn hs => ?_)).2
    by_cases e : i < f 11 p
    · have ei : ph f p i = i := if_pos e
      have hi2 := hi.2
      rw [ei] at hi2
      exact ⟨Sc_in h p0 p1 hi.1.1 e hs.2, hC2 i _ hi2 (fun z => hn ((hst i hi.1.1 e).mpr z)) ((hS i _ hi.1.1 e).mpr ⟨k, hs.2, rfl⟩)⟩
    · exfalso
      have ei : i = f 11 p := by have := hi.1.2; omega
      have hs1 := hs.1
      have hs2 := hs.2
      rw [ei] at hs1 hs2
      rcases hx with hx | ⟨-, o⟩
      · omega
      · exact Sc_18 o hs2
  · intro q C hC1 hC2
    have r := q (fun k' => ∃ k, (f 10 p ≤ k ∧ k ≤ f 11 p) ∧ k' = ph f p k ∧ C k) (fun i hi => ?_) (fun i k hi hn hs => ?_)
    · obtain ⟨k, ⟨k0, k1⟩, e, hk⟩ := r
      have h1 := ph_r f p k
      have h2 := ph_r f p n
      have ek : k = n := by omega
      rw [← ek]
      exact hk
    · obtain ⟨j, hj, e⟩ := (hXX i).mp hi
      exact ⟨j, hX j hj, e, hC1 j hj⟩
    · obtain ⟨j, ⟨j0, j1⟩, e, hj⟩ := hi
      have i32 := hS32 i k hs
      have := ph_r f p j
      have e1 : j < f 11 p := by omega
      have e2 : i = j := by omega
      subst e2
      obtain ⟨k', hk, e3⟩ := (hS i k j0 e1).mp hs
      exact ⟨k', Sc_in h p0 p1 j0 e1 hk, e3, hC2 i k' hj (fun z => hn ((hst i j0 e1).mp z)) ⟨⟨by omega, by omega⟩, hk⟩⟩
theorem arv_cx {f : Nat → Int → Int} (h : bW f) {p i n : Int} (p0 : 0 ≤ p) (p1 : p < f 1 (11 : Nat)) (i0 : f 10 p ≤ i) (i1 : i < f 11 p) (n1 : n ≤ f 11 p) (hd : dfc f (f 3 i) i) : rcD f i n ↔ arv f (f 3 i) i (ph f p n) := by
  obtain ⟨ci, n18, h9, c32⟩ := bW_p h p0 p1 i0 i1
  have e := h.1.2.1 i ci.1 ci.2
  have e11 := (h.1.2.2.1 p p0 p1).2
  have e2 : f 47 i = f 2 i := e.1.1
  have e53 : f 53 i = p := e.2.2.2.2.trans h9
  refine rs_cx h p0 p1 (fun i j' a b => St_iff h p0 p1 a b j') (fun i j' q => q.1.2) (fun j q => Sc_in h p0 p1 i0 i1 q.2) (fun j' => ?_) (fun i a b => df_eq h p0 p1 a b) n1
  have hd := hd.2.1
  have op : ¬ f 2 i = 9 ∧ ¬ f 2 i = 10 ∧ ¬ f 2 i = 11 ∧ ¬ f 2 i = 12 ∧ ¬ f 2 i = 18 := by omega
  have ew : wy f i 0 j' ↔ j' = ph f p (i + 1) := by
    rw [wy_0 (by omega) (by omega) (by omega), e53]
    exact rBh_ph e11
  constructor
  · intro q
    exact ⟨i + 1, ⟨ci, (Sc_p op).mpr rfl⟩, ew.mp q⟩
  · rintro ⟨j, ⟨-, q⟩, e⟩
    have ej := (Sc_p op).mp q
    subst ej
    exact ew.mpr e
theorem frb_cx {f : Nat → Int → Int} (h : bW f) {p n x : Int} (p0 : 0 ≤ p) (p1 : p < f 1 (11 : Nat)) (n1 : n ≤ f 11 p) : rs (Scc f) (fun j => j = f 10 p) (dfc f x) n ↔ frb f x p (ph f p n) := by
  have hp := h.2.1.2.1 p p0 p1
  obtain ⟨e10, e11⟩ := h.1.2.2.1 p p0 p1
  refine rs_cx h p0 p1 (fun i j' a b => St_iff h p0 p1 a b j') (fun i j' q => q.1.2) (fun j q => by omega) (fun j' => ?_) (fun i a b => df_eq h p0 p1 a b) n1
  have r := ph_r f p (f 10 p)
  unfold bgS
  rw [e10, e11]
  constructor
  · intro q
    exact ⟨f 10 p, rfl, by omega⟩
  · rintro ⟨j, e, e'⟩
    rw [e] at e'
    omega
/-- what a reader depends on by data, in both -/
theorem dat_cx {f : Nat → Int → Int} {l : Nat → Int → Int64} (h : bW f) (hW : wyS f l) {a b p pos : Int} {N : Int} {RD : Int → Prop} (b0 : 0 ≤ b) (b1 : b ≤ 251) (p0 : 0 ≤ p) (p1 : p < f 1 (11 : Nat)) (q0 : f 10 p ≤ pos) (q1 : pos ≤ f 11 p) (hN : aT N = ph f p pos) (hpN : prR f N = p) (hR : ∀ z, rdr f N z ↔ RD z) (hRp : ∀ z, RD z → 0 ≤ z) : (∃ z, RD z ∧ rdA f l a pos z p a b) ↔ (xsR f (psi b) ∧ prR f (psi b) = p ∧ dat f N (psi b)) := by
  have c32 := h.2.2.2.1
  have hp := h.2.1.2.1 p p0 p1
  have hP4 := h.2.1.1
  rw [xs_eq h b0 b1]
  have mk : ∀ k, f 10 p ≤ k → k < f 11 p → dfc f (f 3 k) k → (fX (l 23 k) pos ↔ arv f (f 48 k) k (aT N)) := by
    intro k k0 k1 hd
    have ek := (h.1.2.1 k hd.1.1 hd.1.2).1.2.1
    rw [(hW.2.1 k hd.1.1 hd.1.2).2 hd pos, hN, ek]
    exact arv_cx h p0 p1 k0 k1 q1 hd
  constructor
  · rintro ⟨z, hz, (q | ⟨k, ⟨k0, k1⟩, -, ⟨hd, hx⟩, hb⟩) | ⟨-, z2, hx, hb⟩⟩
    · exact q.elim
    · have e3 : f 3 k = z := hd.2.2
      rw [← e3] at hd hz
      obtain ⟨ck, n18, h9, -⟩ := bW_p h p0 p1 k0 k1
      have e48 := (h.1.2.1 k ck.1 ck.2).1.2.1
      have e47 := (h.1.2.1 k ck.1 ck.2).1.1
      have ha := (mk k k0 k1 hd).mp hx
      rcases hb with ⟨hc, hb⟩ | ⟨hc, hb⟩
      · have hxs : xsC f b := Or.inr (Or.inl ⟨by omega, (by have e : b % 32 = k := (by omega); rw [e]; exact hc)⟩)
        have ps := psi_r b b0 b1
        have ea : aT (psi b) = k := by omega
        refine ⟨hxs, (pr_eq h b0 b1 hxs).mpr (Or.inl ⟨by omega, (by have e : b % 32 = k := (by omega); rw [e]; exact h9.symm)⟩), Or.inr ⟨Or.inl (by omega), ?_, ?_⟩⟩
        · rw [ea, e48]
          exact (hR _).mpr hz
        · rw [ea]
          exact ha
      · have ps := psi_r b b0 b1
        have ea : aT (psi b) = k := by omega
        have o7 : f 2 k ≤ 7 := hd.2.1.resolve_right (fun z => hc ⟨hd.1, z⟩)
        have hxs : xsC f b := Or.inl ⟨by omega, by rw [hb]; exact ⟨ck, by unfold ndE; omega⟩⟩
        refine ⟨hxs, (pr_eq h b0 b1 hxs).mpr (Or.inl ⟨by omega, (by have e : b % 32 = k := (by omega); rw [e]; exact h9.symm)⟩), Or.inr ⟨Or.inr ⟨by omega, ?_⟩, ?_, ?_⟩⟩
        · rw [ea, e47]
          exact o7
        · rw [ea, e48]
          exact (hR _).mpr hz
        · rw [ea]
          exact ha
    · have z0 := hRp z hz
      have ps := psi_r b b0 b1
      have hxs : xsC f b := Or.inr (Or.inr ⟨by omega, by omega⟩)
      have er : rL (psi b) = 1 + z := by omega
      have e1 : 1 + z - 1 = z := by omega
      refine ⟨hxs, (pr_eq h b0 b1 hxs).mpr (Or.inr ⟨by omega, by omega⟩), Or.inl ⟨by omega, ?_, ?_⟩⟩
      · rw [er, e1]
        exact (hR _).mpr hz
      · rw [er, e1, hpN, hN]
        exact (frb_cx h p0 p1 q1).mp ((hW.2.2 p z p0 p1 z0 (by omega) pos).mp hx)
  · rintro ⟨hxs, hpr, q⟩
    have hpc := (pr_eq h b0 b1 hxs).mp hpr
    have hin := (pr_in h b0 hxs hpc).2
    have ps := psi_r b b0 b1
    rcases q with ⟨qr, qd, qf⟩ | ⟨qv, qr, qa⟩
    · unfold prC at hpc
      refine ⟨_, (hR _).mp qd, Or.inr ⟨rfl, by omega, ?_, by omega⟩⟩
      rw [hpN, hN] at qf
      exact (hW.2.2 p (rL (psi b) - 1) p0 p1 (by omega) (by omega) pos).mpr ((frb_cx h p0 p1 q1).mpr qf)
    · have b224 : b < 224 := by
        unfold vlu at qv
        omega
      obtain ⟨k0, k1⟩ := hin b224
      have ea : aT (psi b) = b % 32 := by omega
      obtain ⟨ck, n18, h9, -⟩ := bW_p h p0 p1 k0 k1
      have e48 := (h.1.2.1 _ ck.1 ck.2).1.2.1
      have e47 := (h.1.2.1 _ ck.1 ck.2).1.1
      rw [ea] at qr qa
      have hd : dfc f (f 3 (b % 32)) (b % 32) := by
        refine ⟨ck, ?_, rfl⟩
        rcases qv with w | ⟨w, w'⟩
        · rcases hxs with ⟨y, -⟩ | ⟨-, y⟩ | ⟨y, -⟩
          · omega
          · exact Or.inr y.2
          · omega
        · rw [ea, e47] at w'
          exact Or.inl w'
      have hx := (mk _ k0 k1 hd).mpr qa
      rw [e48] at qr
      refine ⟨f 3 (b % 32), (hR _).mp qr, Or.inl (Or.inr ⟨b % 32, ⟨k0, k1⟩, rfl, ⟨hd, hx⟩, ?_⟩)⟩
      rcases qv with w | ⟨w, w'⟩
      · refine Or.inl ⟨?_, by omega⟩
        rcases hxs with ⟨y, -⟩ | ⟨-, y⟩ | ⟨y, -⟩
        · omega
        · exact y
        · omega
      · refine Or.inr ⟨fun y => ?_, by omega⟩
        have y2 := y.2
        rw [ea, e47] at w'
        omega
/-- sources of heap and halt, in both: o the op, t the part of a CALL -/
theorem src_cx {f : Nat → Int → Int} (h : bW f) {b p o t : Int} {W : Int → Prop} (b0 : 0 ≤ b) (b1 : b ≤ 251) (p0 : 0 ≤ p) (p1 : p < f 1 (11 : Nat)) (t0 : 1 ≤ t) (t1 : t ≤ 6) (ho : o ≤ 8) (ho0 : 0 ≤ o) : eX (f 10 p) (f 11 p) (fun n => W n ∧ dSr f o t n b) ↔ (xsR f (psi b) ∧ prR f (psi b) = p ∧ ((psi b < 32 ∧ f 47 (aT (psi b)) = o) ∨ pT (psi b) = t - 1) ∧ W (aT (psi b))) := by
  have c32 := h.2.2.2.1
  have hp := h.2.1.2.1 p p0 p1
  rw [xs_eq h b0 b1]
  have ps := psi_r b b0 b1
  constructor
  · rintro ⟨k, ⟨k0, k1⟩, hw, hs⟩
    obtain ⟨ck, n18, h9, -⟩ := bW_p h p0 p1 k0 k1
    have e47 := (h.1.2.1 _ ck.1 ck.2).1.1
    rcases hs with ⟨eo, eb⟩ | ⟨no, hc, eb⟩
    · have hxs : xsC f b := Or.inl ⟨by omega, by rw [eb]; exact ⟨ck, by unfold ndE; omega⟩⟩
      have ea : aT (psi b) = k := by omega
      refine ⟨hxs, (pr_eq h b0 b1 hxs).mpr (Or.inl ⟨by omega, by have e : b % 32 = k := (by omega); rw [e]; exact h9.symm⟩), Or.inl ⟨by omega, by rw [ea, e47]; exact eo⟩, by rw [ea]; exact hw⟩
    · have hxs : xsC f b := Or.inr (Or.inl ⟨by omega, by have e : b % 32 = k := (by omega); rw [e]; exact hc⟩)
      have ea : aT (psi b) = k := by omega
      exact ⟨hxs, (pr_eq h b0 b1 hxs).mpr (Or.inl ⟨by omega, by have e : b % 32 = k := (by omega); rw [e]; exact h9.symm⟩), Or.inr (by omega), by rw [ea]; exact hw⟩
  · rintro ⟨hxs, hpr, hs, hw⟩
    have hpc := (pr_eq h b0 b1 hxs).mp hpr
    have b224 : b < 224 := by omega
    obtain ⟨k0, k1⟩ := (pr_in h b0 hxs hpc).2 b224
    have ea : aT (psi b) = b % 32 := by omega
    obtain ⟨ck, n18, h9, -⟩ := bW_p h p0 p1 k0 k1
    have e47 := (h.1.2.1 _ ck.1 ck.2).1.1
    rw [ea] at hw hs
    refine ⟨b % 32, ⟨k0, k1⟩, hw, ?_⟩
    rcases hs with ⟨q, eo⟩ | q
    · rw [e47] at eo
      exact Or.inl ⟨eo, by omega⟩
    · rcases hxs with ⟨y, -⟩ | ⟨-, y⟩ | ⟨y, -⟩
      · omega
      · have y2 := y.2
        exact Or.inr ⟨by omega, y, by omega⟩
      · omega
