/-! the reference: levels, check -/
def bP (f : Nat → Int → Int) : Prop := ∃ l, 0 ≤ l ∧ l < f 46 (34 : Nat) ∧ ∀ k, 0 ≤ k → k < f 46 (34 : Nat) → ¬ f 72 (5 * l + k) = 0
set_option maxHeartbeats 8000000 in
set_option maxRecDepth 20000 in
theorem k197 {Z : sm_Z} (hZ : Z.2.2.2 = tb_N) (m : wk_M) (x : Int) : wC Z 1 197 [] [.inr (.inl 46), .inl x] m (fun r m' => ∃ v : Int, r = some (.inl v) ∧ m' = m ∧ ((v = 1 ∧ 0 ≤ x ∧ x < m.1 46 (34 : Nat) ∧ m.1 46 (34 : Nat) ≤ 5) ∨ (v = 0 ∧ (x < 0 ∨ m.1 46 (34 : Nat) ≤ x)))) := by
  refine wC.gen fun Q hQ => wk_E hZ (by exact rfl) [] rfl (fun _ _ => trivial) fun hr hs => ?_
  have e1 : ab_lo = -2147483648 := rfl
  have e2 : ab_hi = 2147483647 := rfl
  repeat' first | refine And.intro ?_ ?_ | intro _ | refine Or.inl ⟨by omega, by omega, ?_⟩ | refine Or.inr ?_ | exact trivial
  all_goals first | omega | exact hQ _ _ ⟨_, rfl, rfl, by omega⟩

set_option maxHeartbeats 8000000 in
set_option maxRecDepth 20000 in
theorem k200x {Z : sm_Z} (hZ : Z.2.2.2 = tb_N) (m : wk_M) (p q : Int) (p0 : 0 ≤ p) (p1 : p ≤ 4) (q0 : 0 ≤ q) (q1 : q ≤ 4) : wC Z 1 200 [] [.inr (.inl 46), .inl p, .inl q] m (fun r m' => ∃ v : Int, r = some (.inl v) ∧ m' = m ∧ v = m.1 72 (5 * p + q)) := by
  refine wC.gen fun Q hQ => wk_E hZ (by exact rfl) [] rfl (fun _ _ => trivial) fun hr hs => ?_
  have e1 : ab_lo = -2147483648 := rfl
  have e2 : ab_hi = 2147483647 := rfl
  repeat' first | refine And.intro ?_ ?_ | intro _ | refine Or.inl ⟨by omega, by omega, ?_⟩ | refine Or.inr ?_ | exact trivial
  all_goals first | omega | exact hQ _ _ ⟨_, rfl, rfl, by omega⟩

/-! the reference's order as a relation -/
def rB (f : Nat → Int → Int) (p q : Int) : Prop := ¬ f 72 (5 * p + q) = 0
def rRf (n : Int) (R : Int → Int → Prop) : Prop := ∀ p, 0 ≤ p → p < n → R p p
def rTr (n : Int) (R : Int → Int → Prop) : Prop := ∀ p q s, 0 ≤ p → p < n → 0 ≤ q → q < n → 0 ≤ s → s < n → R p q → R q s → R p s
def rN (R : Int → Int → Prop) (a b p q : Int) : Prop := R p q ∨ (R p a ∧ R b q)
/-- what stands when the stages ahead of k are through -/
def rK (R : Int → Int → Prop) (a b k p q : Int) : Prop := R p q ∨ (p = a ∧ q = b) ∨ (a < k ∧ R p a ∧ q = b) ∨ (b < k ∧ p = a ∧ R b q) ∨ (a < k ∧ b < k ∧ R p a ∧ R b q)
def rD (p q p' q' : Int) : Prop := p' < p ∨ (p' = p ∧ q' < q)
def rUp (n : Int) (R C : Int → Int → Prop) (a b : Int) : Prop := ∀ p q, 0 ≤ p → p < n → 0 ≤ q → q < n → C p q → rN R a b p q
def rLo (n : Int) (R C : Int → Int → Prop) (a b k : Int) : Prop := ∀ p q, 0 ≤ p → p < n → 0 ≤ q → q < n → rK R a b k p q → C p q
def rDn (n : Int) (R C : Int → Int → Prop) (a b k p q : Int) : Prop := ∀ p' q', 0 ≤ p' → p' < n → 0 ≤ q' → q' < n → rD p q p' q' → rK R a b k p' k → rK R a b k k q' → C p' q'
theorem rN_tr {n a b : Int} {R : Int → Int → Prop} (ht : rTr n R) (a0 : 0 ≤ a) (a1 : a < n) (b0 : 0 ≤ b) (b1 : b < n) {p k q : Int} (p0 : 0 ≤ p) (p1 : p < n) (k0 : 0 ≤ k) (k1 : k < n) (q0 : 0 ≤ q) (q1 : q < n) (h1 : rN R a b p k) (h2 : rN R a b k q) : rN R a b p q := by
  rcases h1 with h1 | ⟨h1, h1'⟩
  · rcases h2 with h2 | ⟨h2, h2'⟩
    · exact Or.inl (ht p k q p0 p1 k0 k1 q0 q1 h1 h2)
    · exact Or.inr ⟨ht p k a p0 p1 k0 k1 a0 a1 h1 h2, h2'⟩
  · rcases h2 with h2 | ⟨h2, h2'⟩
    · exact Or.inr ⟨h1, ht b k q b0 b1 k0 k1 q0 q1 h1' h2⟩
    · exact Or.inr ⟨h1, h2'⟩
/-- a stage is through -/
theorem rK_next {n a b k : Int} {R C : Int → Int → Prop} (ht : rTr n R) (a0 : 0 ≤ a) (a1 : a < n) (b0 : 0 ≤ b) (b1 : b < n) (hl : rLo n R C a b k) (hd : ∀ p' q', 0 ≤ p' → p' < n → 0 ≤ q' → q' < n → rK R a b k p' k → rK R a b k k q' → C p' q') : rLo n R C a b (k + 1) := by
  intro p q p0 p1 q0 q1 h
  rcases h with h | h | ⟨h1, h2, h3⟩ | ⟨h1, h2, h3⟩ | ⟨h1, h2, h3, h4⟩
  · exact hl p q p0 p1 q0 q1 (Or.inl h)
  · exact hl p q p0 p1 q0 q1 (Or.inr (Or.inl h))
  · by_cases e : a < k
    · exact hl p q p0 p1 q0 q1 (Or.inr (Or.inr (Or.inl ⟨e, h2, h3⟩)))
    · have ek : a = k := by omega
      subst ek
      exact hd p q p0 p1 q0 q1 (Or.inl h2) (Or.inr (Or.inl ⟨rfl, h3⟩))
  · by_cases e : b < k
    · exact hl p q p0 p1 q0 q1 (Or.inr (Or.inr (Or.inr (Or.inl ⟨e, h2, h3⟩))))
    · have ek : b = k := by omega
      subst ek
      exact hd p q p0 p1 q0 q1 (Or.inr (Or.inl ⟨h2, rfl⟩)) (Or.inl h3)
  · by_cases e : a < k
    · by_cases e' : b < k
      · exact hl p q p0 p1 q0 q1 (Or.inr (Or.inr (Or.inr (Or.inr ⟨e, e', h3, h4⟩))))
      · have ek : b = k := by omega
        subst ek
        exact hd p q p0 p1 q0 q1 (Or.inr (Or.inr (Or.inl ⟨e, h3, rfl⟩))) (Or.inl h4)
    · have ek : a = k := by omega
      subst ek
      by_cases e' : b < a
      · exact hd p q p0 p1 q0 q1 (Or.inl h3) (Or.inr (Or.inr (Or.inr (Or.inl ⟨e', rfl, h4⟩))))
      · have eb : b = a := by omega
        subst eb
        exact hl p q p0 p1 q0 q1 (Or.inl (ht p b q p0 p1 b0 b1 q0 q1 h3 h4))
theorem rLo_fin {n a b k : Int} {R C : Int → Int → Prop} (a1 : a < n) (b1 : b < n) (hu : rUp n R C a b) (ek : k = n) (hl : rLo n R C a b k) : ∀ p q, 0 ≤ p → p < n → 0 ≤ q → q < n → (C p q ↔ rN R a b p q) := fun p q p0 p1 q0 q1 => ⟨hu p q p0 p1 q0 q1, fun h => hl p q p0 p1 q0 q1 (h.elim Or.inl (fun h => Or.inr (Or.inr (Or.inr (Or.inr ⟨by omega, by omega, h.1, h.2⟩)))))⟩
theorem ix5 {p q p' q' : Int} (q0 : 0 ≤ q) (q1 : q ≤ 4) (r0 : 0 ≤ q') (r1 : q' ≤ 4) (h : 5 * p + q = 5 * p' + q') : p = p' ∧ q = q' := by omega
/-- a store of the table at p, q -/
theorem rB_st {m : wk_M} {p q v p' q' : Int} (q0 : 0 ≤ q) (q1 : q ≤ 4) (r0 : 0 ≤ q') (r1 : q' ≤ 4) : rB (wk_u m 72 (5 * p + q) v).1 p' q' ↔ ((p' = p ∧ q' = q) ∧ ¬ v = 0) ∨ (¬ (p' = p ∧ q' = q) ∧ rB m.1 p' q') := by
  have g : (wk_u m 72 (5 * p + q) v).1 72 (5 * p' + q') = if 5 * p' + q' = 5 * p + q then v else m.1 72 (5 * p' + q') := by simp (decide := true) only [wk_u_at, wk_ul_1, and_self, and_true, true_and, and_false, false_and, if_true, if_false]
  unfold rB
  rw [g]
  by_cases e : p' = p ∧ q' = q
  · rw [if_pos (by omega)]
    exact ⟨fun z => Or.inl ⟨e, z⟩, fun z => z.elim (fun z => z.2) (fun z => absurd e z.1)⟩
  · rw [if_neg (by omega)]
    exact ⟨fun z => Or.inr ⟨e, z⟩, fun z => z.elim (fun z => absurd z.1 e) (fun z => z.2)⟩
/-- the first store of below -/
theorem rb_first {m : wk_M} {n a b : Int} (n5 : n ≤ 5) (a0 : 0 ≤ a) (a1 : a < n) (b0 : 0 ≤ b) (b1 : b < n) (hr : rRf n (rB m.1)) : rUp n (rB m.1) (rB (wk_u m 72 (5 * a + b) 1).1) a b ∧ rLo n (rB m.1) (rB (wk_u m 72 (5 * a + b) 1).1) a b 0 := by
  refine ⟨fun p q p0 p1 q0 q1 h => ?_, fun p q p0 p1 q0 q1 h => ?_⟩
  · rcases (rB_st b0 (by omega) q0 (by omega)).mp h with ⟨⟨e1, e2⟩, -⟩ | ⟨-, h⟩
    · subst e1 e2
      exact Or.inr ⟨hr p p0 p1, hr q q0 q1⟩
    · exact Or.inl h
  · refine (rB_st b0 (by omega) q0 (by omega)).mpr ?_
    by_cases e : p = a ∧ q = b
    · exact Or.inl ⟨e, by decide⟩
    · refine Or.inr ⟨e, ?_⟩
      rcases h with h | h | ⟨h, -⟩ | ⟨h, -⟩ | ⟨h, -⟩
      · exact h
      · exact absurd h e
      · omega
      · omega
      · omega
/-- a step of the inner loop: the table at p, q becomes v -/
theorem rb_step {m m2 : wk_M} {n a b k p q v : Int} (n5 : n ≤ 5) (ht : rTr n (rB m.1)) (a0 : 0 ≤ a) (a1 : a < n) (b0 : 0 ≤ b) (b1 : b < n) (k0 : 0 ≤ k) (k1 : k < n) (p0 : 0 ≤ p) (p1 : p < n) (q0 : 0 ≤ q) (q1 : q < n) (hu : rUp n (rB m.1) (rB m2.1) a b) (hl : rLo n (rB m.1) (rB m2.1) a b k) (hd : rDn n (rB m.1) (rB m2.1) a b k p q) (hv : ¬ v = 0 ↔ (rB m2.1 p q ∨ (rB m2.1 p k ∧ rB m2.1 k q))) : rUp n (rB m.1) (rB (wk_u m2 72 (5 * p + q) v).1) a b ∧ rLo n (rB m.1) (rB (wk_u m2 72 (5 * p + q) v).1) a b k ∧ rDn n (rB m.1) (rB (wk_u m2 72 (5 * p + q) v).1) a b k p (q + 1) := by
  have up : ∀ p' q', 0 ≤ q' → q' < n → rB m2.1 p' q' → rB (wk_u m2 72 (5 * p + q) v).1 p' q' := fun p' q' r0 r1 h => (rB_st q0 (by omega) r0 (by omega)).mpr (by
    by_cases e : p' = p ∧ q' = q
    · refine Or.inl ⟨e, hv.mpr (Or.inl ?_)⟩
      rw [← e.1, ← e.2]
      exact h
    · exact Or.inr ⟨e, h⟩)
  refine ⟨fun p' q' s0 s1 r0 r1 h => ?_, fun p' q' s0 s1 r0 r1 h => up p' q' r0 r1 (hl p' q' s0 s1 r0 r1 h), fun p' q' s0 s1 r0 r1 h x y => ?_⟩
  · rcases (rB_st q0 (by omega) r0 (by omega)).mp h with ⟨⟨e1, e2⟩, h9⟩ | ⟨-, h9⟩
    · subst e1 e2
      rcases hv.mp h9 with h8 | ⟨h8, h7⟩
      · exact hu p' q' s0 s1 r0 r1 h8
      · exact rN_tr ht a0 a1 b0 b1 s0 s1 k0 k1 r0 r1 (hu p' k s0 s1 k0 k1 h8) (hu k q' k0 k1 r0 r1 h7)
    · exact hu p' q' s0 s1 r0 r1 h9
  · by_cases e : p' = p ∧ q' = q
    · refine (rB_st q0 (by omega) r0 (by omega)).mpr (Or.inl ⟨e, hv.mpr (Or.inr ?_)⟩)
      obtain ⟨e1, e2⟩ := e
      subst e1 e2
      exact ⟨hl p' k s0 s1 k0 k1 x, hl k q' k0 k1 r0 r1 y⟩
    · refine up p' q' r0 r1 (hd p' q' s0 s1 r0 r1 ?_ x y)
      unfold rD at h ⊢
      omega
theorem rDn_zero {n a b k : Int} {R C : Int → Int → Prop} : rDn n R C a b k 0 0 := fun p' q' s0 _ r0 _ h _ _ => by
  unfold rD at h
  omega
theorem rDn_row {n a b k p q : Int} {R C : Int → Int → Prop} (hq : n ≤ q) (h : rDn n R C a b k p q) : rDn n R C a b k (p + 1) 0 := fun p' q' s0 s1 r0 r1 z x y => h p' q' s0 s1 r0 r1 (by unfold rD at z ⊢; omega) x y
theorem rDn_all {n a b k p : Int} {R C : Int → Int → Prop} (hp : n ≤ p) (h : rDn n R C a b k p 0) : ∀ p' q', 0 ≤ p' → p' < n → 0 ≤ q' → q' < n → rK R a b k p' k → rK R a b k k q' → C p' q' := fun p' q' s0 s1 r0 r1 x y => h p' q' s0 s1 r0 r1 (by unfold rD; omega) x y

set_option maxHeartbeats 8000000 in
set_option maxRecDepth 20000 in
theorem k196b {Z : sm_Z} (hZ : Z.2.2.2 = tb_N) (m : wk_M) (a b : Int) (hR : rRf (m.1 46 (34 : Nat)) (rB m.1)) (hT : rTr (m.1 46 (34 : Nat)) (rB m.1)) : wC Z 2 196 [72] [.inr (.inl 46), .inl a, .inl b] m (fun r m' => ∃ v : Int, r = some (.inl v) ∧ ((v = 1 ∧ 0 ≤ a ∧ a < m.1 46 (34 : Nat) ∧ 0 ≤ b ∧ b < m.1 46 (34 : Nat) ∧ ∀ p q, 0 ≤ p → p < m.1 46 (34 : Nat) → 0 ≤ q → q < m.1 46 (34 : Nat) → (rB m'.1 p q ↔ rN (rB m.1) a b p q)) ∨ (v = 0 ∧ (a < 0 ∨ m.1 46 (34 : Nat) ≤ a ∨ b < 0 ∨ m.1 46 (34 : Nat) ≤ b) ∧ m' = m))) := by
  obtain ⟨J0, hJ0⟩ : ∃ J : Int → wk_M → Prop, ∀ k m', J k m' ↔ ((0 ≤ a ∧ a < m.1 46 (34 : Nat) ∧ 0 ≤ b ∧ b < m.1 46 (34 : Nat)) ∧ (0 ≤ k ∧ k ≤ m.1 46 (34 : Nat)) ∧ rUp (m.1 46 (34 : Nat)) (rB m.1) (rB m'.1) a b ∧ rLo (m.1 46 (34 : Nat)) (rB m.1) (rB m'.1) a b k) := ⟨_, fun _ _ => Iff.rfl⟩
  obtain ⟨J1, hJ1⟩ : ∃ J : Int →Int → wk_M → Prop, ∀ k p m', J k p m' ↔ ((0 ≤ a ∧ a < m.1 46 (34 : Nat) ∧ 0 ≤ b ∧ b < m.1 46 (34 : Nat)) ∧ (0 ≤ k ∧ k < m.1 46 (34 : Nat)) ∧ (0 ≤ p ∧ p ≤ m.1 46 (34 : Nat)) ∧ rUp (m.1 46 (34 : Nat)) (rB m.1) (rB m'.1) a b ∧ (rLo (m.1 46 (34 : Nat)) (rB m.1) (rB m'.1) a b k) ∧ rDn (m.1 46 (34 : Nat)) (rB m.1) (rB m'.1) a b k p 0) := ⟨_, fun _ _ _ => Iff.rfl⟩
  obtain ⟨J2, hJ2⟩ : ∃ J : Int →Int →Int → wk_M → Prop, ∀ k p q m', J k p q m' ↔ ((0 ≤ a ∧ a < m.1 46 (34 : Nat) ∧ 0 ≤ b ∧ b < m.1 46 (34 : Nat)) ∧ (0 ≤ k ∧ k < m.1 46 (34 : Nat)) ∧ (0 ≤ p ∧ p < m.1 46 (34 : Nat)) ∧ (0 ≤ q ∧ q ≤ m.1 46 (34 : Nat)) ∧ rUp (m.1 46 (34 : Nat)) (rB m.1) (rB m'.1) a b ∧ (rLo (m.1 46 (34 : Nat)) (rB m.1) (rB m'.1) a b k) ∧ rDn (m.1 46 (34 : Nat)) (rB m.1) (rB m'.1) a b k p q) := ⟨_, fun _ _ _ _ => Iff.rfl⟩
  refine wC.gen fun Q hQ => wk_E hZ (by exact rfl) [(31, [(3, 46), (0, 0), (0, 0), (1, 0), (0, 0), (0, 0)], fun vs _ m' => (match vs with
    | [k] => J0 k m'
    | _ => False), fun vs _ m' => (match vs with
    | [k] => ((5 - k) * 1000 + 999 : Int).toNat
    | _ => 0)), (42, [(3, 46), (0, 0), (0, 0), (1, 0), (1, 0), (0, 0)], fun vs _ m' => (match vs with
    | [k, p] => J1 k p m'
    | _ => False), fun vs _ m' => (match vs with
    | [k, p] => ((5 - k) * 1000 + (5 - p) * 100 + 99 : Int).toNat
    | _ => 0)), (54, [(3, 46), (0, 0), (0, 0), (1, 0), (1, 0), (1, 0)], fun vs _ m' => (match vs with
    | [k, p, q] => J2 k p q m'
    | _ => False), fun vs _ m' => (match vs with
    | [k, p, q] => ((5 - k) * 1000 + (5 - p) * 100 + (5 - q) : Int).toNat
    | _ => 0))] rfl (fun hr hs => ⟨?_, ⟨?_, ⟨?_, trivial⟩⟩⟩) (fun hr hs => ?_)
  · have e1 : ab_lo = -2147483648 := rfl
    have e2 : ab_hi = 2147483647 := rfl
    intro m2 hr2 hf2 k kl kh hI
    have hI := (hJ0 _ _).mp hI
    obtain ⟨hl, ⟨k0, k1⟩, hu, ho⟩ := hI
    have hn : 1 ≤ m.1 46 (34 : Nat) ∧ m.1 46 (34 : Nat) ≤ 5 := hr.1 46 34
    have e46 := congrFun (hf2 46 (by decide)).1 ((34 : Nat) : Int)
    obtain ⟨ha0, ha1, hb0, hb1⟩ := hl
    repeat' first | (intro h; exact absurd h (by decide)) | (intro h; exact absurd rfl h) | refine And.intro ?_ ?_ | intro _ | refine Or.inl ⟨by omega, by omega, ?_⟩ | refine Or.inr ?_ | exact trivial
    all_goals first
      | omega
      | (show ((5 - (_ : Int)) * 1000 + 999 : Int).toNat < ((5 - (_ : Int)) * 1000 + 999 : Int).toNat; omega)
      | exact hQ _ _ ⟨_, rfl, Or.inl ⟨rfl, ha0, ha1, hb0, hb1, rLo_fin ha1 hb1 hu (by omega) ho⟩⟩
      | (show J1 _ _ _; refine (hJ1 _ _ _).mpr ⟨⟨ha0, ha1, hb0, hb1⟩, ⟨by omega, by omega⟩, ⟨by omega, by omega⟩, hu, ho, rDn_zero⟩)
      | (show (_ : Nat) < (_ : Nat); dsimp only; omega)
  · have e1 : ab_lo = -2147483648 := rfl
    have e2 : ab_hi = 2147483647 := rfl
    intro m2 hr2 hf2 k kl kh p pl ph hI
    have hI := (hJ1 _ _ _).mp hI
    obtain ⟨hl, ⟨k0, k1⟩, ⟨p0, p1⟩, hu, ho, hd⟩ := hI
    have hn : 1 ≤ m.1 46 (34 : Nat) ∧ m.1 46 (34 : Nat) ≤ 5 := hr.1 46 34
    have e46 := congrFun (hf2 46 (by decide)).1 ((34 : Nat) : Int)
    obtain ⟨ha0, ha1, hb0, hb1⟩ := hl
    repeat' first | (intro h; exact absurd h (by decide)) | (intro h; exact absurd rfl h) | refine And.intro ?_ ?_ | intro _ | refine Or.inl ⟨by omega, by omega, ?_⟩ | refine Or.inr ?_ | exact trivial
    all_goals first
      | omega
      | (show ((5 - (_ : Int)) * 1000 + (5 - (_ : Int)) * 100 + 99 : Int).toNat < ((5 - (_ : Int)) * 1000 + (5 - (_ : Int)) * 100 + 99 : Int).toNat; omega)
      | (show J0 _ _; refine (hJ0 _ _).mpr ⟨⟨ha0, ha1, hb0, hb1⟩, ⟨by omega, by omega⟩, hu, rK_next hT ha0 ha1 hb0 hb1 ho (rDn_all (by omega) hd)⟩)
      | (show J2 _ _ _ _; refine (hJ2 _ _ _ _).mpr ⟨⟨ha0, ha1, hb0, hb1⟩, ⟨by omega, by omega⟩, ⟨by omega, by omega⟩, ⟨by omega, by omega⟩, hu, ho, hd⟩)
      | (show (_ : Nat) < (_ : Nat); dsimp only; omega)
  · have e1 : ab_lo = -2147483648 := rfl
    have e2 : ab_hi = 2147483647 := rfl
    intro m2 hr2 hf2 k kl kh p pl ph q ql qh hI
    have hI := (hJ2 _ _ _ _).mp hI
    obtain ⟨hl, ⟨k0, k1⟩, ⟨p0, p1⟩, ⟨q0, q1⟩, hu, ho, hd⟩ := hI
    have hn : 1 ≤ m.1 46 (34 : Nat) ∧ m.1 46 (34 : Nat) ≤ 5 := hr.1 46 34
    have e46 := congrFun (hf2 46 (by decide)).1 ((34 : Nat) : Int)
    obtain ⟨ha0, ha1, hb0, hb1⟩ := hl
    repeat' first | (intro h; exact absurd h (by decide)) | (intro h; exact absurd rfl h) | refine And.intro ?_ ?_ | intro _ | refine Or.inl ⟨by omega, by omega, ?_⟩ | refine Or.inr ?_ | exact trivial
    all_goals first
      | omega
      | (show ((5 - (_ : Int)) * 1000 + (5 - (_ : Int)) * 100 + (5 - (_ : Int)) : Int).toNat < ((5 - (_ : Int)) * 1000 + (5 - (_ : Int)) * 100 + (5 - (_ : Int)) : Int).toNat; omega)
      | (show J1 _ _ _; refine (hJ1 _ _ _).mpr ⟨⟨ha0, ha1, hb0, hb1⟩, ⟨by omega, by omega⟩, ⟨by omega, by omega⟩, hu, ho, rDn_row (by omega) hd⟩)
      | (show J2 _ _ _ _; refine (hJ2 _ _ _ _).mpr ⟨⟨ha0, ha1, hb0, hb1⟩, ⟨by omega, by omega⟩, ⟨by omega, by omega⟩, ⟨by omega, by omega⟩, rb_step hn.2 hT ha0 ha1 hb0 hb1 k0 (by omega) p0 (by omega) q0 (by omega) hu ho hd (by unfold rB; omega)⟩)
      | (show (_ : Nat) < (_ : Nat); dsimp only; omega)
  · have e1 : ab_lo = -2147483648 := rfl
    have e2 : ab_hi = 2147483647 := rfl
    have hn : 1 ≤ m.1 46 (34 : Nat) ∧ m.1 46 (34 : Nat) ≤ 5 := hr.1 46 34
    repeat' first | (intro h; exact absurd h (by decide)) | (intro h; exact absurd rfl h) | refine And.intro ?_ ?_ | intro _ | refine Or.inl ⟨by omega, by omega, ?_⟩ | refine Or.inr ?_ | exact trivial | (refine wk_use (k197 hZ _ _) rfl rfl ?_; rintro - _ _ - - - ⟨_, rfl, rfl, ⟨rfl, _⟩ | ⟨rfl, _⟩⟩; refine Or.inl ⟨[], rfl, ?_⟩)
    all_goals first
      | omega
      | trivial
      | exact hQ _ _ ⟨_, rfl, Or.inr ⟨rfl, by omega, rfl⟩⟩
      | (show J0 _ _; refine (hJ0 _ _).mpr ⟨⟨by omega, by omega, by omega, by omega⟩, ⟨by omega, by omega⟩, rb_first hn.2 (by omega) (by omega) (by omega) (by omega) hR⟩)

def lT (f : Nat → Int → Int) (k : Int) : Prop := ∀ j, 0 ≤ j → j < k → f 72 j = if j / 5 = j % 5 then 1 else 0
theorem lT_next {m2 : wk_M} {k v : Int} (h : lT m2.1 k) (hv : v = if k / 5 = k % 5 then 1 else 0) : lT (wk_u m2 72 k v).1 (k + 1) := by
  intro j j0 j1
  have g : (wk_u m2 72 k v).1 72 j = if j = k then v else m2.1 72 j := by simp (decide := true) only [wk_u_at, wk_ul_1, and_self, and_true, true_and, and_false, false_and, if_true, if_false]
  rw [g]
  by_cases e : j = k
  · rw [if_pos e, hv, e]
  · rw [if_neg e]
    exact h j j0 (by omega)
theorem lT_rB {f : Nat → Int → Int} {k : Int} (h : lT f k) (ek : 25 ≤ k) : ∀ p q, 0 ≤ p → p ≤ 4 → 0 ≤ q → q ≤ 4 → (rB f p q ↔ p = q) := by
  intro p q p0 p1 q0 q1
  unfold rB
  rw [h (5 * p + q) (by omega) (by omega)]
  split
  · exact ⟨fun _ => by omega, fun _ => by decide⟩
  · exact ⟨fun z => absurd rfl z, fun z => by omega⟩
def lZ (f : Nat → Int → Int) (k : Int) : Prop := ∀ j, 0 ≤ j → j < k → f 73 j = 0 ∧ f 74 j = 0
theorem lZ_next {m2 : wk_M} {k : Int} (h : lZ m2.1 k) : lZ (wk_u (wk_u m2 73 k 0) 74 k 0).1 (k + 1) := by
  intro j j0 j1
  have g : (wk_u (wk_u m2 73 k 0) 74 k 0).1 73 j = if j = k then 0 else m2.1 73 j := by simp (decide := true) only [wk_u_at, wk_ul_1, and_self, and_true, true_and, and_false, false_and, if_true, if_false]
  have g' : (wk_u (wk_u m2 73 k 0) 74 k 0).1 74 j = if j = k then 0 else m2.1 74 j := by simp (decide := true) only [wk_u_at, wk_ul_1, and_self, and_true, true_and, and_false, false_and, if_true, if_false]
  rw [g, g']
  by_cases e : j = k
  · rw [if_pos e, if_pos e]
    exact ⟨rfl, rfl⟩
  · rw [if_neg e, if_neg e]
    exact h j j0 (by omega)

set_option maxHeartbeats 8000000 in
set_option maxRecDepth 20000 in
theorem k195 {Z : sm_Z} (hZ : Z.2.2.2 = tb_N) (m : wk_M) (n : Int) : wC Z 1 195 [46, 72, 73, 74] [.inr (.inl 46), .inl n] m (fun r m' => ∃ v : Int, r = some (.inl v) ∧ ((v = 1 ∧ 1 ≤ n ∧ n ≤ 5 ∧ m'.1 46 (34 : Nat) = n ∧ (∀ p q, 0 ≤ p → p ≤ 4 → 0 ≤ q → q ≤ 4 → (rB m'.1 p q ↔ p = q)) ∧ lZ m'.1 4) ∨ (v = 0 ∧ (n < 1 ∨ 5 < n) ∧ m'.1 46 (34 : Nat) = m.1 46 (34 : Nat) ∧ m' = m)) ∧ (m'.1 46 (0 : Nat) = m.1 46 (0 : Nat) ∧ m'.1 46 (5 : Nat) = m.1 46 (5 : Nat) ∧ m'.1 46 (6 : Nat) = m.1 46 (6 : Nat))) := by
  obtain ⟨J0, hJ0⟩ : ∃ J : Int →Int → wk_M → Prop, ∀ x k m', J x k m' ↔ ((x = n ∧ 1 ≤ n ∧ n ≤ 5 ∧ 0 ≤ k ∧ k ≤ 25) ∧ (m'.1 46 (34 : Nat) = n ∧ lT m'.1 k) ∧ (m'.1 46 (0 : Nat) = m.1 46 (0 : Nat) ∧ m'.1 46 (5 : Nat) = m.1 46 (5 : Nat) ∧ m'.1 46 (6 : Nat) = m.1 46 (6 : Nat))) := ⟨_, fun _ _ _ => Iff.rfl⟩
  obtain ⟨J1, hJ1⟩ : ∃ J : Int →Int → wk_M → Prop, ∀ x k m', J x k m' ↔ ((x = n ∧ 1 ≤ n ∧ n ≤ 5 ∧ 0 ≤ k ∧ k ≤ 4) ∧ (m'.1 46 (34 : Nat) = n ∧ lT m'.1 25 ∧ lZ m'.1 k) ∧ (m'.1 46 (0 : Nat) = m.1 46 (0 : Nat) ∧ m'.1 46 (5 : Nat) = m.1 46 (5 : Nat) ∧ m'.1 46 (6 : Nat) = m.1 46 (6 : Nat))) := ⟨_, fun _ _ _ => Iff.rfl⟩
  refine wC.gen fun Q hQ => wk_E hZ (by exact rfl) [(19, [(3, 46), (1, 0), (1, 0)], fun vs _ m' => (match vs with
    | [x, k] => J0 x k m'
    | _ => False), fun vs _ m' => (match vs with
    | [x, k] => (1000 - k : Int).toNat
    | _ => 0)), (53, [(3, 46), (1, 0), (1, 0)], fun vs _ m' => (match vs with
    | [x, k] => J1 x k m'
    | _ => False), fun vs _ m' => (match vs with
    | [x, k] => (900 - k : Int).toNat
    | _ => 0))] rfl (fun hr hs => ⟨?_, ⟨?_, trivial⟩⟩) (fun hr hs => ?_)
  · have e1 : ab_lo = -2147483648 := rfl
    have e2 : ab_hi = 2147483647 := rfl
    intro m2 hr2 hf2 x xl xh k kl kh hI
    have hI := (hJ0 _ _ _).mp hI
    obtain ⟨⟨ex, n0, n1, k0, k1⟩, ⟨e34, hT⟩, e0, e5, e6⟩ := hI
    have hk : 25 ≤ k → lT m2.1 25 := fun q j j0 j1 => hT j j0 (by omega)
    repeat' first | (intro h; exact absurd h (by decide)) | (intro h; exact absurd rfl h) | refine And.intro ?_ ?_ | intro _ | refine Or.inl ⟨by omega, by omega, ?_⟩ | refine Or.inr ?_ | exact trivial
    all_goals first
      | omega
      | (show (1000 - (_ : Int) : Int).toNat < (1000 - (_ : Int) : Int).toNat; omega)
      | (show J0 _ _ _; refine (hJ0 _ _ _).mpr ⟨⟨ex, n0, n1, by omega, by omega⟩, ⟨e34, lT_next hT (by split <;> omega)⟩, e0, e5, e6⟩)
      | (show J1 _ _ _; refine (hJ1 _ _ _).mpr ⟨⟨ex, n0, n1, by omega, by omega⟩, ⟨e34, hk (by omega), fun j j0 j1 => by omega⟩, e0, e5, e6⟩)
      | (show (_ : Nat) < (_ : Nat); dsimp only; omega)
  · have e1 : ab_lo = -2147483648 := rfl
    have e2 : ab_hi = 2147483647 := rfl
    intro m2 hr2 hf2 x xl xh k kl kh hI
    have hI := (hJ1 _ _ _).mp hI
    obtain ⟨⟨ex, n0, n1, k0, k1⟩, ⟨e34, hT, hZ0⟩, e0, e5, e6⟩ := hI
    have hk : 4 ≤ k → lZ m2.1 4 := fun q j j0 j1 => hZ0 j j0 (by omega)
    repeat' first | (intro h; exact absurd h (by decide)) | (intro h; exact absurd rfl h) | refine And.intro ?_ ?_ | intro _ | refine Or.inl ⟨by omega, by omega, ?_⟩ | refine Or.inr ?_ | exact trivial
    all_goals first
      | omega
      | (show (900 - (_ : Int) : Int).toNat < (900 - (_ : Int) : Int).toNat; omega)
      | exact hQ _ _ ⟨_, rfl, Or.inl ⟨rfl, n0, n1, e34, lT_rB hT (Int.le_refl _), hk (by omega)⟩, e0, e5, e6⟩
      | (show J1 _ _ _; refine (hJ1 _ _ _).mpr ⟨⟨ex, n0, n1, by omega, by omega⟩, ⟨e34, hT, lZ_next hZ0⟩, e0, e5, e6⟩)
      | (show (_ : Nat) < (_ : Nat); dsimp only; omega)
  · have e1 : ab_lo = -2147483648 := rfl
    have e2 : ab_hi = 2147483647 := rfl
    repeat' first | (intro h; exact absurd h (by decide)) | (intro h; exact absurd rfl h) | refine And.intro ?_ ?_ | intro _ | refine Or.inl ⟨by omega, by omega, ?_⟩ | refine Or.inr ?_ | exact trivial
    all_goals first
      | omega
      | trivial
      | exact hQ _ _ ⟨_, rfl, Or.inr ⟨rfl, by omega, rfl, rfl⟩, rfl, rfl, rfl⟩
      | (show J0 _ _ _; refine (hJ0 _ _ _).mpr ⟨⟨rfl, by omega, by omega, by omega, by omega⟩, ⟨by simp (decide := true) only [wk_u_at, wk_ul_1, and_self, and_true, true_and, and_false, false_and, if_true, if_false], fun j j0 j1 => by omega⟩, ⟨by simp (decide := true) only [wk_u_at, wk_ul_1, and_self, and_true, true_and, and_false, false_and, if_true, if_false], by simp (decide := true) only [wk_u_at, wk_ul_1, and_self, and_true, true_and, and_false, false_and, if_true, if_false], by simp (decide := true) only [wk_u_at, wk_ul_1, and_self, and_true, true_and, and_false, false_and, if_true, if_false]⟩⟩)

set_option maxHeartbeats 8000000 in
set_option maxRecDepth 20000 in
theorem k198 {Z : sm_Z} (hZ : Z.2.2.2 = tb_N) (m : wk_M) (b k l : Int) : wC Z 2 198 [73, 74] [.inr (.inl 46), .inl b, .inl k, .inl l] m (fun r m' => ∃ v : Int, r = some (.inl v) ∧ ((v = 1 ∧ 0 ≤ k ∧ k ≤ 3 ∧ 0 ≤ l ∧ l < m.1 46 (34 : Nat) ∧ ((¬ b = 0 ∧ m' = wk_u m 74 k l) ∨ (b = 0 ∧ m' = wk_u m 73 k l))) ∨ (v = 0 ∧ (k < 0 ∨ 3 < k ∨ l < 0 ∨ m.1 46 (34 : Nat) ≤ l) ∧ m' = m))) := by
  refine wC.gen fun Q hQ => wk_E hZ (by exact rfl) [] rfl (fun _ _ => trivial) fun hr hs => ?_
  have e1 : ab_lo = -2147483648 := rfl
  have e2 : ab_hi = 2147483647 := rfl
  repeat' first | (intro h; exact absurd h (by decide)) | (intro h; exact absurd rfl h) | refine And.intro ?_ ?_ | intro _ | refine Or.inl ⟨by omega, by omega, ?_⟩ | refine Or.inr ?_ | exact trivial | (refine wk_use (k144 hZ _ _) rfl rfl ?_; rintro - _ _ - - - ⟨_, rfl, rfl, ⟨rfl, _⟩ | ⟨rfl, _⟩⟩; refine Or.inl ⟨[], rfl, ?_⟩) | (refine wk_use (k197 hZ _ _) rfl rfl ?_; rintro - _ _ - - - ⟨_, rfl, rfl, ⟨rfl, _⟩ | ⟨rfl, _⟩⟩; refine Or.inl ⟨[], rfl, ?_⟩)
  all_goals first | omega | exact hQ _ _ ⟨_, rfl, Or.inr ⟨rfl, by omega, rfl⟩⟩ | exact hQ _ _ ⟨_, rfl, Or.inl ⟨rfl, by omega, by omega, by omega, by omega, Or.inl ⟨by omega, rfl⟩⟩⟩ | exact hQ _ _ ⟨_, rfl, Or.inl ⟨rfl, by omega, by omega, by omega, by omega, Or.inr ⟨by omega, rfl⟩⟩⟩

theorem lk_next {R : Int → Int → Prop} {A : Prop} {p q c e g g' : Int} (hg : g = 1 ↔ A ∧ ∀ e', 0 ≤ e' → e' < e → R p e' → R q e' → R c e') (e0 : 0 ≤ e) (h : g' = 1 ↔ (g = 1 ∧ (¬ R p e ∨ ¬ R q e ∨ R c e))) : g' = 1 ↔ A ∧ ∀ e', 0 ≤ e' → e' < e + 1 → R p e' → R q e' → R c e' := by
  rw [h, hg]
  constructor
  · rintro ⟨⟨a, b⟩, c'⟩
    refine ⟨a, fun e' s0 s1 x y => ?_⟩
    by_cases z : e' = e
    · subst z
      rcases c' with c' | c' | c'
      · exact absurd x c'
      · exact absurd y c'
      · exact c'
    · exact b e' s0 (by omega) x y
  · rintro ⟨a, b⟩
    refine ⟨⟨a, fun e' s0 s1 => b e' s0 (by omega)⟩, ?_⟩
    by_cases x : R p e
    · by_cases y : R q e
      · exact Or.inr (Or.inr (b e e0 (by omega) x y))
      · exact Or.inr (Or.inl y)
    · exact Or.inl x

set_option maxHeartbeats 8000000 in
set_option maxRecDepth 20000 in
theorem k201b {Z : sm_Z} (hZ : Z.2.2.2 = tb_N) (m : wk_M) (p q c : Int) (p0 : 0 ≤ p) (p1 : p ≤ 4) (q0 : 0 ≤ q) (q1 : q ≤ 4) (c0 : 0 ≤ c) (c1 : c ≤ 4) : wC Z 2 201 [] [.inr (.inl 46), .inl p, .inl q, .inl c] m (fun r m' => ∃ v : Int, r = some (.inl v) ∧ m' = m ∧ ((v = 1 ∧ ltK (m.1 46 (34 : Nat)) (rB m.1) p q c) ∨ (v = 0 ∧ ¬ ltK (m.1 46 (34 : Nat)) (rB m.1) p q c))) := by
  obtain ⟨J0, hJ0⟩ : ∃ J : Int →Int →Int →Int →Int → wk_M → Prop, ∀ x y z g e m', J x y z g e m' ↔ (m' = m ∧ (x = p ∧ y = q ∧ z = c) ∧ (0 ≤ g ∧ g ≤ 1) ∧ (0 ≤ e ∧ e ≤ m.1 46 (34 : Nat)) ∧ (g = 1 ↔ (rB m.1 p c ∧ rB m.1 q c) ∧ ∀ e', 0 ≤ e' → e' < e → rB m.1 p e' → rB m.1 q e' → rB m.1 c e')) := ⟨_, fun _ _ _ _ _ _ => Iff.rfl⟩
  refine wC.gen fun Q hQ => wk_E hZ (by exact rfl) [(28, [(3, 46), (1, 0), (1, 0), (1, 0), (1, 0), (1, 0)], fun vs _ m' => (match vs with
    | [x, y, z, g, e] => J0 x y z g e m'
    | _ => False), fun vs _ m' => (match vs with
    | [x, y, z, g, e] => (5 - e : Int).toNat
    | _ => 0))] rfl (fun hr hs => ⟨?_, trivial⟩) (fun hr hs => ?_)
  · have e1 : ab_lo = -2147483648 := rfl
    have e2 : ab_hi = 2147483647 := rfl
    intro m2 hr2 hf2 x xl xh y yl yh z zl zh g gl gh e el eh hI
    have hI := (hJ0 _ _ _ _ _ _).mp hI
    obtain ⟨rfl, ⟨rfl, rfl, rfl⟩, ⟨g0, g1⟩, ⟨e0, e1⟩, hg⟩ := hI
    have hn : 1 ≤ m2.1 46 (34 : Nat) ∧ m2.1 46 (34 : Nat) ≤ 5 := hr2.1 46 34
    repeat' first | (intro h; exact absurd h (by decide)) | (intro h; exact absurd rfl h) | refine And.intro ?_ ?_ | intro _ | refine Or.inl ⟨by omega, by omega, ?_⟩ | refine Or.inr ?_ | exact trivial | (refine wk_use (k200x hZ _ _ _ (by omega) (by omega) (by omega) (by omega)) rfl rfl ?_; rintro - _ _ - - - ⟨_, rfl, rfl, hz⟩; refine Or.inl ⟨[], rfl, ?_⟩)
    all_goals first
      | omega
      | (show (5 - (_ : Int) : Int).toNat < (5 - (_ : Int) : Int).toNat; omega)
      | exact hQ _ _ ⟨_, rfl, rfl, Or.inl ⟨by omega, (fun h => ⟨h.1.1, h.1.2, fun e' s0 s1 => h.2 e' s0 (by omega)⟩) (hg.mp (by omega))⟩⟩
      | exact hQ _ _ ⟨_, rfl, rfl, Or.inr ⟨by omega, fun h => by have q := hg.mpr ⟨⟨h.1, h.2.1⟩, fun e' s0 s1 => h.2.2 e' s0 (by omega)⟩; omega⟩⟩
      | (by_cases hgg : g = 1; (exact hQ _ _ ⟨_, rfl, rfl, Or.inl ⟨by omega, (fun h => ⟨h.1.1, h.1.2, fun e' s0 s1 => h.2 e' s0 (by omega)⟩) (hg.mp (by omega))⟩⟩); exact hQ _ _ ⟨_, rfl, rfl, Or.inr ⟨by omega, fun h => by have q := hg.mpr ⟨⟨h.1, h.2.1⟩, fun e' s0 s1 => h.2.2 e' s0 (by omega)⟩; omega⟩⟩)
      | (show J0 _ _ _ _ _ _; refine (hJ0 _ _ _ _ _ _).mpr ⟨rfl, ⟨rfl, rfl, rfl⟩, ⟨by omega, by omega⟩, ⟨by omega, by omega⟩, lk_next (R := rB _) hg e0 (by unfold rB; omega)⟩)
      | (show (_ : Nat) < (_ : Nat); dsimp only; omega)
  · have e1 : ab_lo = -2147483648 := rfl
    have e2 : ab_hi = 2147483647 := rfl
    have hn : 1 ≤ m.1 46 (34 : Nat) ∧ m.1 46 (34 : Nat) ≤ 5 := hr.1 46 34
    repeat' first | (intro h; exact absurd h (by decide)) | (intro h; exact absurd rfl h) | refine And.intro ?_ ?_ | intro _ | refine Or.inl ⟨by omega, by omega, ?_⟩ | refine Or.inr ?_ | exact trivial | (refine wk_use (k200x hZ _ _ _ (by omega) (by omega) (by omega) (by omega)) rfl rfl ?_; rintro - _ _ - - - ⟨_, rfl, rfl, hz⟩; refine Or.inl ⟨[], rfl, ?_⟩)
    all_goals first
      | omega
      | trivial
      | (show J0 _ _ _ _ _ _; refine (hJ0 _ _ _ _ _ _).mpr ⟨rfl, ⟨rfl, rfl, rfl⟩, ⟨by omega, by omega⟩, ⟨by omega, by omega⟩, ⟨fun h => ⟨⟨by unfold rB; omega, by unfold rB; omega⟩, fun e' s0 s1 => by omega⟩, fun h => by have h1 := h.1.1; have h2 := h.1.2; unfold rB at h1 h2; omega⟩⟩)

set_option maxHeartbeats 8000000 in
set_option maxRecDepth 20000 in
theorem k202x {Z : sm_Z} (hZ : Z.2.2.2 = tb_N) (m : wk_M)  : wC Z 2 202 [] [.inr (.inl 46)] m (fun r m' => ∃ v : Int, r = some (.inl v) ∧ m' = m ∧ ((-1 ≤ v ∧ v ≤ 4) ∧ ltF (m.1 46 (34 : Nat)) (rB m.1) v ∧ (bP m.1 ↔ ¬ v = -1))) := by
  obtain ⟨J0, hJ0⟩ : ∃ J : Int → wk_M → Prop, ∀ l m', J l m' ↔ (m' = m ∧ (0 ≤ l ∧ l ≤ m.1 46 (34 : Nat)) ∧ ∀ l', 0 ≤ l' → l' < l → ¬ ltB (m.1 46 (34 : Nat)) (rB m.1) l') := ⟨_, fun _ _ => Iff.rfl⟩
  obtain ⟨J1, hJ1⟩ : ∃ J : Int →Int →Int → wk_M → Prop, ∀ l g k m', J l g k m' ↔ (m' = m ∧ ((0 ≤ l ∧ l < m.1 46 (34 : Nat)) ∧ (0 ≤ g ∧ g ≤ 1) ∧ 0 ≤ k ∧ k ≤ m.1 46 (34 : Nat)) ∧ (∀ l', 0 ≤ l' → l' < l → ¬ ltB (m.1 46 (34 : Nat)) (rB m.1) l') ∧ (g = 1 ↔ ∀ k', 0 ≤ k' → k' < k → rB m.1 l k')) := ⟨_, fun _ _ _ _ => Iff.rfl⟩
  refine wC.gen fun Q hQ => wk_E hZ (by exact rfl) [(2, [(3, 46), (1, 0), (0, 0), (0, 0)], fun vs _ m' => (match vs with
    | [l] => J0 l m'
    | _ => False), fun vs _ m' => (match vs with
    | [l] => ((5 - l) * 100 + 99 : Int).toNat
    | _ => 0)), (14, [(3, 46), (1, 0), (1, 0), (1, 0)], fun vs _ m' => (match vs with
    | [l, g, k] => J1 l g k m'
    | _ => False), fun vs _ m' => (match vs with
    | [l, g, k] => ((5 - l) * 100 + (5 - k) : Int).toNat
    | _ => 0))] rfl (fun hr hs => ⟨?_, ⟨?_, trivial⟩⟩) (fun hr hs => ?_)
  · have e1 : ab_lo = -2147483648 := rfl
    have e2 : ab_hi = 2147483647 := rfl
    intro m2 hr2 hf2 l ll lh hI
    have hI := (hJ0 _ _).mp hI
    obtain ⟨rfl, ⟨l0, l1⟩, hn⟩ := hI
    have hv : 1 ≤ m2.1 46 (34 : Nat) ∧ m2.1 46 (34 : Nat) ≤ 5 := hr2.1 46 34
    repeat' first | (intro h; exact absurd h (by decide)) | (intro h; exact absurd rfl h) | (intro _; exfalso; omega) | refine And.intro ?_ ?_ | intro _ | refine Or.inl ⟨by omega, by omega, ?_⟩ | refine Or.inr ?_ | exact trivial | (refine wk_use (k200x hZ _ _ _ (by omega) (by omega) (by omega) (by omega)) rfl rfl ?_; rintro - _ _ - - - ⟨_, rfl, rfl, hz⟩; refine Or.inl ⟨[], rfl, ?_⟩)
    all_goals first
      | omega
      | (show ((5 - (_ : Int)) * 100 + 99 : Int).toNat < ((5 - (_ : Int)) * 100 + 99 : Int).toNat; omega)
      | exact hQ _ _ ⟨_, rfl, rfl, ⟨by omega, by omega⟩, Or.inl ⟨rfl, fun l' a b => hn l' a (by omega)⟩, ⟨fun ⟨l', a, b, c⟩ _ => hn l' a (by omega) (fun k' x y => c k' x y), fun z => absurd rfl z⟩⟩
      | (show J1 _ _ _ _; refine (hJ1 _ _ _ _).mpr ⟨rfl, ⟨⟨by omega, by omega⟩, ⟨by omega, by omega⟩, by omega, by omega⟩, hn, ⟨fun _ k' a b => by omega, fun _ => rfl⟩⟩)
      | (show (_ : Nat) < (_ : Nat); dsimp only; omega)
  · have e1 : ab_lo = -2147483648 := rfl
    have e2 : ab_hi = 2147483647 := rfl
    intro m2 hr2 hf2 l ll lh g gl gh k kl kh hI
    have hI := (hJ1 _ _ _ _).mp hI
    obtain ⟨rfl, ⟨⟨l0, l1⟩, ⟨g0, g1⟩, k0, k1⟩, hn, hg⟩ := hI
    have hv : 1 ≤ m2.1 46 (34 : Nat) ∧ m2.1 46 (34 : Nat) ≤ 5 := hr2.1 46 34
    repeat' first | (intro h; exact absurd h (by decide)) | (intro h; exact absurd rfl h) | (intro _; exfalso; omega) | refine And.intro ?_ ?_ | intro _ | refine Or.inl ⟨by omega, by omega, ?_⟩ | refine Or.inr ?_ | exact trivial | (refine wk_use (k200x hZ _ _ _ (by omega) (by omega) (by omega) (by omega)) rfl rfl ?_; rintro - _ _ - - - ⟨_, rfl, rfl, hz⟩; refine Or.inl ⟨[], rfl, ?_⟩)
    all_goals first
      | omega
      | (show ((5 - (_ : Int)) * 100 + (5 - (_ : Int)) : Int).toNat < ((5 - (_ : Int)) * 100 + (5 - (_ : Int)) : Int).toNat; omega)
      | exact hQ _ _ ⟨_, rfl, rfl, ⟨by omega, by omega⟩, Or.inr ⟨⟨l0, l1⟩, fun k' a b => hg.mp (by omega) k' a (by omega), hn⟩, ⟨fun _ => by omega, fun _ => ⟨l, l0, l1, fun k' a b => hg.mp (by omega) k' a (by omega)⟩⟩⟩
      | (show J0 _ _; refine (hJ0 _ _).mpr ⟨rfl, ⟨by omega, by omega⟩, fun l' a b => by by_cases e : l' = l; (subst e; intro z; have q := hg.mpr (fun k' x y => z k' x (by omega)); omega); exact hn l' a (by omega)⟩)
      | (show J1 _ _ _ _; refine (hJ1 _ _ _ _).mpr ⟨rfl, ⟨⟨by omega, by omega⟩, ⟨by omega, by omega⟩, by omega, by omega⟩, hn, ⟨fun z k' a b => by by_cases e : k' = k; (subst e; unfold rB; omega); exact hg.mp (by omega) k' a (by omega), fun z => by have q := z k k0 (by omega); have q' := hg.mpr (fun k' x y => z k' x (by omega)); unfold rB at q; omega⟩⟩)
      | (show (_ : Nat) < (_ : Nat); dsimp only; omega)
  · have e1 : ab_lo = -2147483648 := rfl
    have e2 : ab_hi = 2147483647 := rfl
    repeat' first | (intro h; exact absurd h (by decide)) | (intro h; exact absurd rfl h) | (intro _; exfalso; omega) | refine And.intro ?_ ?_ | intro _ | refine Or.inl ⟨by omega, by omega, ?_⟩ | refine Or.inr ?_ | exact trivial
    all_goals first
      | omega
      | trivial
      | (show J0 _ _; refine (hJ0 _ _).mpr ⟨rfl, ⟨by omega, by have hv : 1 ≤ m.1 46 (34 : Nat) ∧ m.1 46 (34 : Nat) ≤ 5 := hr.1 46 34; omega⟩, fun l' a b => by omega⟩)

/-- rows and columns of the pairs -/
def pD (n p q p' q' : Int) : Prop := (0 ≤ p' ∧ p' < n) ∧ (0 ≤ q' ∧ q' < n) ∧ (p' < p ∨ (p' = p ∧ q' < q))
def noC (n : Int) (R : Int → Int → Prop) (p q : Int) : Prop := ∀ p' q', pD n p q p' q' → ¬ (¬ p' = q' ∧ R p' q' ∧ R q' p')
def alJ (n : Int) (R : Int → Int → Prop) (p q : Int) : Prop := ∀ p' q', pD n p q p' q' → ltJ n R p' q'
theorem noC_row {n p q : Int} {R : Int → Int → Prop} (hq : n ≤ q) (h : noC n R p q) : noC n R (p + 1) 0 := fun p' q' d => h p' q' (by unfold pD at d ⊢; omega)
theorem alJ_row {n p q : Int} {R : Int → Int → Prop} (hq : n ≤ q) : alJ n R p q ↔ alJ n R (p + 1) 0 := ⟨fun h p' q' d => h p' q' (by unfold pD at d ⊢; omega), fun h p' q' d => h p' q' (by unfold pD at d ⊢; omega)⟩
theorem noC_next {n p q : Int} {R : Int → Int → Prop} (h : noC n R p q) (hn : ¬ (¬ p = q ∧ R p q ∧ R q p)) : noC n R p (q + 1) := fun p' q' d => by
  by_cases e : p' = p ∧ q' = q
  · rw [e.1, e.2]
    exact hn
  · exact h p' q' (by unfold pD at d ⊢; omega)
theorem alJ_next {n p q : Int} {R : Int → Int → Prop} (p0 : 0 ≤ p) (p1 : p < n) (q0 : 0 ≤ q) (q1 : q < n) : alJ n R p (q + 1) ↔ alJ n R p q ∧ ltJ n R p q := by
  constructor
  · intro h
    exact ⟨fun p' q' d => h p' q' (by unfold pD at d ⊢; omega), h p q (by unfold pD; omega)⟩
  · rintro ⟨h, h'⟩ p' q' d
    by_cases e : p' = p ∧ q' = q
    · rw [e.1, e.2]
      exact h'
    · exact h p' q' (by unfold pD at d ⊢; omega)
theorem noC_all {n p : Int} {R : Int → Int → Prop} (hp : n ≤ p) (h : noC n R p 0) : ¬ ltC n R := by
  rintro ⟨a, b, ⟨a0, a1⟩, ⟨b0, b1⟩, ne, x, y⟩
  exact h a b (by unfold pD; omega) ⟨ne, x, y⟩
theorem alJ_all {n p : Int} {R : Int → Int → Prop} (hp : n ≤ p) : alJ n R p 0 ↔ ltAJ n R := ⟨fun h a b a0 a1 b0 b1 => h a b (by unfold pD; omega), fun h a b d => h a b d.1.1 d.1.2 d.2.1.1 d.2.1.2⟩
theorem pD_no {n : Int} {R : Int → Int → Prop} : noC n R 0 0 ∧ alJ n R 0 0 := ⟨fun p' q' d => by unfold pD at d; omega, fun p' q' d => by unfold pD at d; omega⟩
def anK (n : Int) (R : Int → Int → Prop) (p q c : Int) : Prop := ∃ c', (0 ≤ c' ∧ c' < c) ∧ ltK n R p q c'
theorem anK_next {n p q c : Int} {R : Int → Int → Prop} (c0 : 0 ≤ c) : anK n R p q (c + 1) ↔ anK n R p q c ∨ ltK n R p q c := by
  constructor
  · rintro ⟨c', ⟨a, b⟩, h⟩
    by_cases e : c' = c
    · exact Or.inr (e ▸ h)
    · exact Or.inl ⟨c', ⟨a, by omega⟩, h⟩
  · rintro (⟨c', ⟨a, b⟩, h⟩ | h)
    · exact ⟨c', ⟨a, by omega⟩, h⟩
    · exact ⟨c, ⟨c0, by omega⟩, h⟩
theorem anK_all {n p q c : Int} {R : Int → Int → Prop} (hc : c = n) : anK n R p q c ↔ ltJ n R p q := by
  subst hc
  exact ⟨fun ⟨c', ⟨a, b⟩, h⟩ => ⟨c', a, b, h⟩, fun ⟨c', a, b, h⟩ => ⟨c', ⟨a, b⟩, h⟩⟩
theorem g_and {g g' k : Int} {A B : Prop} (hg : g = 1 ↔ A) (hk : k = 1 ↔ B) (h : g' = 1 ↔ g = 1 ∧ k = 1) : g' = 1 ↔ A ∧ B := by
  rw [h, hg, hk]

set_option maxHeartbeats 8000000 in
set_option maxRecDepth 20000 in
theorem k199x {Z : sm_Z} (hZ : Z.2.2.2 = tb_N) (m : wk_M)  : wC Z 3 199 [] [.inr (.inl 46)] m (fun r m' => ∃ v : Int, r = some (.inl v) ∧ m' = m ∧ ((0 ≤ v ∧ v ≤ 3) ∧ ltA (m.1 46 (34 : Nat)) (rB m.1) v ∧ (v = 0 → bP m.1))) := by
  obtain ⟨J0, hJ0⟩ : ∃ J : Int →Int → wk_M → Prop, ∀ g p m', J g p m' ↔ (m' = m ∧ (0 ≤ g ∧ g ≤ 1) ∧ (0 ≤ p ∧ p ≤ m.1 46 (34 : Nat)) ∧ noC (m.1 46 (34 : Nat)) (rB m.1) p 0 ∧ (g = 1 ↔ alJ (m.1 46 (34 : Nat)) (rB m.1) p 0)) := ⟨_, fun _ _ _ => Iff.rfl⟩
  obtain ⟨J1, hJ1⟩ : ∃ J : Int →Int →Int → wk_M → Prop, ∀ g p q m', J g p q m' ↔ (m' = m ∧ (0 ≤ g ∧ g ≤ 1) ∧ (0 ≤ p ∧ p < m.1 46 (34 : Nat)) ∧ (0 ≤ q ∧ q ≤ m.1 46 (34 : Nat)) ∧ noC (m.1 46 (34 : Nat)) (rB m.1) p q ∧ (g = 1 ↔ alJ (m.1 46 (34 : Nat)) (rB m.1) p q)) := ⟨_, fun _ _ _ _ => Iff.rfl⟩
  obtain ⟨J2, hJ2⟩ : ∃ J : Int →Int →Int →Int →Int → wk_M → Prop, ∀ g p q a c m', J g p q a c m' ↔ (m' = m ∧ ((0 ≤ g ∧ g ≤ 1) ∧ (0 ≤ a ∧ a ≤ 1)) ∧ (0 ≤ p ∧ p < m.1 46 (34 : Nat)) ∧ (0 ≤ q ∧ q < m.1 46 (34 : Nat)) ∧ (0 ≤ c ∧ c ≤ m.1 46 (34 : Nat)) ∧ noC (m.1 46 (34 : Nat)) (rB m.1) p (q + 1) ∧ (g = 1 ↔ alJ (m.1 46 (34 : Nat)) (rB m.1) p q) ∧ (a = 1 ↔ anK (m.1 46 (34 : Nat)) (rB m.1) p q c)) := ⟨_, fun _ _ _ _ _ _ => Iff.rfl⟩
  refine wC.gen fun Q hQ => wk_E hZ (by exact rfl) [(4, [(3, 46), (1, 0), (1, 0), (0, 0), (0, 0), (0, 0)], fun vs _ m' => (match vs with
    | [g, p] => J0 g p m'
    | _ => False), fun vs _ m' => (match vs with
    | [g, p] => ((5 - p) * 10000 + 9999 : Int).toNat
    | _ => 0)), (14, [(3, 46), (1, 0), (1, 0), (1, 0), (0, 0), (0, 0)], fun vs _ m' => (match vs with
    | [g, p, q] => J1 g p q m'
    | _ => False), fun vs _ m' => (match vs with
    | [g, p, q] => ((5 - p) * 10000 + (5 - q) * 100 + 99 : Int).toNat
    | _ => 0)), (53, [(3, 46), (1, 0), (1, 0), (1, 0), (1, 0), (1, 0)], fun vs _ m' => (match vs with
    | [g, p, q, a, c] => J2 g p q a c m'
    | _ => False), fun vs _ m' => (match vs with
    | [g, p, q, a, c] => ((5 - p) * 10000 + (5 - q) * 100 + (5 - c) : Int).toNat
    | _ => 0))] rfl (fun hr hs => ⟨?_, ⟨?_, ⟨?_, trivial⟩⟩⟩) (fun hr hs => ?_)
  · have e1 : ab_lo = -2147483648 := rfl
    have e2 : ab_hi = 2147483647 := rfl
    intro m2 hr2 hf2 g gl gh p pl ph hI
    have hI := (hJ0 _ _ _).mp hI
    obtain ⟨rfl, ⟨g0, g1⟩, ⟨p0, p1⟩, hc, hg⟩ := hI
    have hv : 1 ≤ m2.1 46 (34 : Nat) ∧ m2.1 46 (34 : Nat) ≤ 5 := hr2.1 46 34
    repeat' first | (intro h; exact absurd h (by decide)) | (intro h; exact absurd rfl h) | refine And.intro ?_ ?_ | intro _ | refine Or.inl ⟨by omega, by omega, ?_⟩ | refine Or.inr ?_ | exact trivial | (refine wk_use (k200x hZ _ _ _ (by omega) (by omega) (by omega) (by omega)) rfl rfl ?_; rintro - _ _ - - - ⟨_, rfl, rfl, hz⟩; refine Or.inl ⟨[], rfl, ?_⟩) | (refine wk_use (k201b hZ _ _ _ _ (by omega) (by omega) (by omega) (by omega) (by omega) (by omega)) rfl rfl ?_; rintro - _ _ - - - ⟨_, rfl, rfl, ⟨rfl, hk⟩ | ⟨rfl, hk⟩⟩; refine Or.inl ⟨[], rfl, ?_⟩) | (refine wk_use (k202x hZ _) rfl rfl ?_; rintro - _ _ - - - ⟨_, rfl, rfl, ⟨_, _⟩, hf, hb⟩; refine Or.inl ⟨[], rfl, ?_⟩)
    all_goals first
      | omega
      | (show ((5 - (_ : Int)) * 10000 + 9999 : Int).toNat < ((5 - (_ : Int)) * 10000 + 9999 : Int).toNat; omega)
      | exact hQ _ _ ⟨_, rfl, rfl, ⟨by omega, by omega⟩, Or.inr (Or.inl ⟨rfl, noC_all (by omega) hc, fun z => by have q := hg.mpr ((alJ_all (by omega)).mpr z); omega⟩), fun z => by omega⟩
      | exact hQ _ _ ⟨_, rfl, rfl, ⟨by omega, by omega⟩, Or.inr (Or.inr (Or.inl ⟨rfl, noC_all (by omega) hc, (alJ_all (by omega)).mp (hg.mp (by omega)), ltF_cast (by omega) hf⟩)), fun z => by omega⟩
      | exact hQ _ _ ⟨_, rfl, rfl, ⟨by omega, by omega⟩, Or.inr (Or.inr (Or.inr ⟨rfl, noC_all (by omega) hc, (alJ_all (by omega)).mp (hg.mp (by omega)), _, by omega, hf⟩)), fun z => hb.mpr (by omega)⟩
      | (show J1 _ _ _ _; refine (hJ1 _ _ _ _).mpr ⟨rfl, ⟨by omega, by omega⟩, ⟨by omega, by omega⟩, ⟨by omega, by omega⟩, hc, hg⟩)
      | (show (_ : Nat) < (_ : Nat); dsimp only; omega)
  · have e1 : ab_lo = -2147483648 := rfl
    have e2 : ab_hi = 2147483647 := rfl
    intro m2 hr2 hf2 g gl gh p pl ph q ql qh hI
    have hI := (hJ1 _ _ _ _).mp hI
    obtain ⟨rfl, ⟨g0, g1⟩, ⟨p0, p1⟩, ⟨q0, q1⟩, hc, hg⟩ := hI
    have hv : 1 ≤ m2.1 46 (34 : Nat) ∧ m2.1 46 (34 : Nat) ≤ 5 := hr2.1 46 34
    repeat' first | (intro h; exact absurd h (by decide)) | (intro h; exact absurd rfl h) | refine And.intro ?_ ?_ | intro _ | refine Or.inl ⟨by omega, by omega, ?_⟩ | refine Or.inr ?_ | exact trivial | (refine wk_use (k200x hZ _ _ _ (by omega) (by omega) (by omega) (by omega)) rfl rfl ?_; rintro - _ _ - - - ⟨_, rfl, rfl, hz⟩; refine Or.inl ⟨[], rfl, ?_⟩) | (refine wk_use (k201b hZ _ _ _ _ (by omega) (by omega) (by omega) (by omega) (by omega) (by omega)) rfl rfl ?_; rintro - _ _ - - - ⟨_, rfl, rfl, ⟨rfl, hk⟩ | ⟨rfl, hk⟩⟩; refine Or.inl ⟨[], rfl, ?_⟩) | (refine wk_use (k202x hZ _) rfl rfl ?_; rintro - _ _ - - - ⟨_, rfl, rfl, ⟨_, _⟩, hf, hb⟩; refine Or.inl ⟨[], rfl, ?_⟩)
    all_goals first
      | omega
      | (show ((5 - (_ : Int)) * 10000 + (5 - (_ : Int)) * 100 + 99 : Int).toNat < ((5 - (_ : Int)) * 10000 + (5 - (_ : Int)) * 100 + 99 : Int).toNat; omega)
      | exact hQ _ _ ⟨_, rfl, rfl, ⟨by omega, by omega⟩, Or.inl ⟨rfl, p, q, ⟨p0, p1⟩, ⟨q0, by omega⟩, by omega, by unfold rB; omega, by unfold rB; omega⟩, fun z => by omega⟩
      | (show J0 _ _ _; refine (hJ0 _ _ _).mpr ⟨rfl, ⟨by omega, by omega⟩, ⟨by omega, by omega⟩, noC_row (by omega) hc, hg.trans (alJ_row (by omega))⟩)
      | (show J2 _ _ _ _ _ _; refine (hJ2 _ _ _ _ _ _).mpr ⟨rfl, ⟨⟨by omega, by omega⟩, by omega, by omega⟩, ⟨by omega, by omega⟩, ⟨by omega, by omega⟩, ⟨by omega, by omega⟩, noC_next hc (by unfold rB; omega), hg, ⟨fun z => by omega, fun ⟨c', ⟨x, y⟩, _⟩ => by omega⟩⟩)
      | (show (_ : Nat) < (_ : Nat); dsimp only; omega)
  · have e1 : ab_lo = -2147483648 := rfl
    have e2 : ab_hi = 2147483647 := rfl
    intro m2 hr2 hf2 g gl gh p pl ph q ql qh a al ah c cl ch hI
    have hI := (hJ2 _ _ _ _ _ _).mp hI
    obtain ⟨rfl, ⟨⟨g0, g1⟩, a0, a1⟩, ⟨p0, p1⟩, ⟨q0, q1⟩, ⟨c0, c1⟩, hc, hg, ha⟩ := hI
    have hv : 1 ≤ m2.1 46 (34 : Nat) ∧ m2.1 46 (34 : Nat) ≤ 5 := hr2.1 46 34
    repeat' first | (intro h; exact absurd h (by decide)) | (intro h; exact absurd rfl h) | refine And.intro ?_ ?_ | intro _ | refine Or.inl ⟨by omega, by omega, ?_⟩ | refine Or.inr ?_ | exact trivial | (refine wk_use (k200x hZ _ _ _ (by omega) (by omega) (by omega) (by omega)) rfl rfl ?_; rintro - _ _ - - - ⟨_, rfl, rfl, hz⟩; refine Or.inl ⟨[], rfl, ?_⟩) | (refine wk_use (k201b hZ _ _ _ _ (by omega) (by omega) (by omega) (by omega) (by omega) (by omega)) rfl rfl ?_; rintro - _ _ - - - ⟨_, rfl, rfl, ⟨rfl, hk⟩ | ⟨rfl, hk⟩⟩; refine Or.inl ⟨[], rfl, ?_⟩) | (refine wk_use (k202x hZ _) rfl rfl ?_; rintro - _ _ - - - ⟨_, rfl, rfl, ⟨_, _⟩, hf, hb⟩; refine Or.inl ⟨[], rfl, ?_⟩)
    all_goals first
      | omega
      | (show ((5 - (_ : Int)) * 10000 + (5 - (_ : Int)) * 100 + (5 - (_ : Int)) : Int).toNat < ((5 - (_ : Int)) * 10000 + (5 - (_ : Int)) * 100 + (5 - (_ : Int)) : Int).toNat; omega)
      | (show J1 _ _ _ _; refine (hJ1 _ _ _ _).mpr ⟨rfl, ⟨by omega, by omega⟩, ⟨by omega, by omega⟩, ⟨by omega, by omega⟩, hc, (g_and hg (ha.trans (anK_all (by omega))) (by omega)).trans (alJ_next p0 p1 q0 q1).symm⟩)
      | (show J2 _ _ _ _ _ _; refine (hJ2 _ _ _ _ _ _).mpr ⟨rfl, ⟨⟨by omega, by omega⟩, by omega, by omega⟩, ⟨by omega, by omega⟩, ⟨by omega, by omega⟩, ⟨by omega, by omega⟩, hc, hg, ⟨fun _ => (anK_next c0).mpr (Or.inl (ha.mp (by omega))), fun _ => by omega⟩⟩)
      | (show J2 _ _ _ _ _ _; refine (hJ2 _ _ _ _ _ _).mpr ⟨rfl, ⟨⟨by omega, by omega⟩, by omega, by omega⟩, ⟨by omega, by omega⟩, ⟨by omega, by omega⟩, ⟨by omega, by omega⟩, hc, hg, ⟨fun _ => (anK_next c0).mpr (Or.inr hk), fun _ => by omega⟩⟩)
      | (show J2 _ _ _ _ _ _; refine (hJ2 _ _ _ _ _ _).mpr ⟨rfl, ⟨⟨by omega, by omega⟩, by omega, by omega⟩, ⟨by omega, by omega⟩, ⟨by omega, by omega⟩, ⟨by omega, by omega⟩, hc, hg, ⟨fun z => by omega, fun z => ((anK_next c0).mp z).elim (fun z => by have q := ha.mpr z; omega) (fun z => absurd z hk)⟩⟩)
      | (show (_ : Nat) < (_ : Nat); dsimp only; omega)
  · have e1 : ab_lo = -2147483648 := rfl
    have e2 : ab_hi = 2147483647 := rfl
    have hv : 1 ≤ m.1 46 (34 : Nat) ∧ m.1 46 (34 : Nat) ≤ 5 := hr.1 46 34
    repeat' first | (intro h; exact absurd h (by decide)) | (intro h; exact absurd rfl h) | refine And.intro ?_ ?_ | intro _ | refine Or.inl ⟨by omega, by omega, ?_⟩ | refine Or.inr ?_ | exact trivial
    all_goals first
      | omega
      | trivial
      | (show J0 _ _ _; refine (hJ0 _ _ _).mpr ⟨rfl, ⟨by omega, by omega⟩, ⟨by omega, by omega⟩, pD_no.1, ⟨fun _ => pD_no.2, fun _ => rfl⟩⟩)

theorem bP_fr {m' m : wk_M} (h : wk_fr [63] m' m) (hb : bP m.1) : bP m'.1 := by
  unfold bP
  rw [(h 46 (by decide)).1, (h 72 (by decide)).1]
  exact hb

set_option maxHeartbeats 8000000 in
set_option maxRecDepth 20000 in
theorem k204 {Z : sm_Z} (hZ : Z.2.2.2 = tb_N) (m : wk_M) (j : Int) (hO : rOps m.1) (hb : bP m.1) : wC Z 4 204 [63] [.inr (.inl 46), .inl j] m (fun r m' => ∃ v : Int, r = some (.inl v) ∧ -1025 ≤ v ∧ v ≤ 1023) := by
  obtain ⟨J0, hJ0⟩ : ∃ J : Int →Int →Int → wk_M → Prop, ∀ j n s m', J j n s m' ↔ ((0 ≤ n ∧ n ≤ 32 * s) ∧ 0 ≤ s ∧ s ≤ 32) := ⟨_, fun _ _ _ _ => Iff.rfl⟩
  obtain ⟨J1, hJ1⟩ : ∃ J : Int →Int →Int →Int →Int → wk_M → Prop, ∀ j n s l i m', J j n s l i m' ↔ ((0 ≤ n ∧ n ≤ 32 * s + i) ∧ (0 ≤ s ∧ s < 32) ∧ (0 ≤ l ∧ l ≤ 4) ∧ 0 ≤ i ∧ i ≤ 32) := ⟨_, fun _ _ _ _ _ _ => Iff.rfl⟩
  refine wC.gen fun Q hQ => wk_E hZ (by exact rfl) [(4, [(3, 46), (1, 0), (1, 0), (1, 0), (0, 0), (0, 0)], fun vs _ m' => (match vs with
    | [j, n, s] => J0 j n s m'
    | _ => False), fun vs _ m' => (match vs with
    | [j, n, s] => ((32 - s) * 100 + 99 : Int).toNat
    | _ => 0)), (71, [(3, 46), (1, 0), (1, 0), (1, 0), (1, 0), (1, 0)], fun vs _ m' => (match vs with
    | [j, n, s, l, i] => J1 j n s l i m'
    | _ => False), fun vs _ m' => (match vs with
    | [j, n, s, l, i] => ((32 - s) * 100 + (32 - i) : Int).toNat
    | _ => 0))] rfl (fun hr hs => ⟨?_, ⟨?_, trivial⟩⟩) (fun hr hs => ?_)
  · have e1 : ab_lo = -2147483648 := rfl
    have e2 : ab_hi = 2147483647 := rfl
    intro m2 hr2 hf2 j jl jh n nl nh s sl sh hI
    have hI := (hJ0 _ _ _ _).mp hI
    obtain ⟨⟨n0, n1⟩, s0, s1⟩ := hI
    have e46 := (hf2 46 (by decide)).1
    have hb2 := bP_fr hf2 hb
    have hO2 := rOps_fr (congrFun e46 _) (fr_57 hf2 rfl) hO
    have hc : 0 ≤ m2.1 46 (0 : Nat) ∧ m2.1 46 (0 : Nat) ≤ 32 := hr2.1 46 0
    have qd : s < m2.1 46 (0 : Nat) → m2.1 47 s = 17 → 0 ≤ m2.1 48 s ∧ m2.1 48 s ≤ 3 := fun h e => (hO2 s s0 h).1 (by unfold nD; omega)
    repeat' first | (intro h; exact absurd h (by decide)) | (intro h; exact absurd rfl h) | refine And.intro ?_ ?_ | intro _ | refine Or.inl ⟨by omega, by omega, ?_⟩ | refine Or.inr ?_ | exact trivial | (refine wk_use (k202x hZ _) rfl rfl ?_; rintro - _ _ - - - ⟨_, rfl, rfl, ⟨_, _⟩, hbf, hbb⟩; have hne := hbb.mp hb2; refine Or.inl ⟨[], rfl, ?_⟩) | (refine wk_use (k178 hZ _ _ (by omega) (by omega)) rfl rfl ?_; rintro - _ _ - hfr - rfl; refine Or.inr ?_)
    all_goals first
      | omega
      | (show ((32 - (_ : Int)) * 100 + 99 : Int).toNat < ((32 - (_ : Int)) * 100 + 99 : Int).toNat; omega)
      | exact hQ _ _ ⟨_, rfl, by omega, by omega⟩
      | (show J0 _ _ _ _; refine (hJ0 _ _ _ _).mpr ⟨⟨by omega, by omega⟩, by omega, by omega⟩)
      | (show J1 _ _ _ _ _ _; refine (hJ1 _ _ _ _ _ _).mpr ⟨⟨by omega, by omega⟩, ⟨by omega, by omega⟩, ⟨by omega, by omega⟩, by omega, by omega⟩)
      | (show (_ : Nat) < (_ : Nat); dsimp only; omega)
  · have e1 : ab_lo = -2147483648 := rfl
    have e2 : ab_hi = 2147483647 := rfl
    intro m2 hr2 hf2 j jl jh n nl nh s sl sh l ll lh i il ih hI
    have hI := (hJ1 _ _ _ _ _ _).mp hI
    obtain ⟨⟨n0, n1⟩, ⟨s0, s1⟩, ⟨l0, l1⟩, i0, i1⟩ := hI
    have e46 := (hf2 46 (by decide)).1
    have hb2 := bP_fr hf2 hb
    have hO2 := rOps_fr (congrFun e46 _) (fr_57 hf2 rfl) hO
    have hc : 0 ≤ m2.1 46 (0 : Nat) ∧ m2.1 46 (0 : Nat) ≤ 32 := hr2.1 46 0
    have qa : i < m2.1 46 (0 : Nat) → m2.1 47 i = 6 → 0 ≤ m2.1 49 i ∧ m2.1 49 i ≤ 3 := fun h e => (hO2 i i0 h).2.1 (by unfold nA; omega)
    repeat' first | (intro h; exact absurd h (by decide)) | (intro h; exact absurd rfl h) | refine And.intro ?_ ?_ | intro _ | refine Or.inl ⟨by omega, by omega, ?_⟩ | refine Or.inr ?_ | exact trivial | (refine wk_use (k173s hZ _ _ (by decide) (by decide) _ (by omega) (by omega)) rfl rfl ?_; rintro - _ _ - - - ⟨_, rfl, rfl, _, _⟩; refine Or.inl ⟨[], rfl, ?_⟩) | (refine wk_use (k200x hZ _ _ _ (by omega) (by omega) (by omega) (by omega)) rfl rfl ?_; rintro - _ _ - - - ⟨_, rfl, rfl, _⟩; refine Or.inl ⟨[], rfl, ?_⟩)
    all_goals first
      | omega
      | (show ((32 - (_ : Int)) * 100 + (32 - (_ : Int)) : Int).toNat < ((32 - (_ : Int)) * 100 + (32 - (_ : Int)) : Int).toNat; omega)
      | exact hQ _ _ ⟨_, rfl, by omega, by omega⟩
      | (show J0 _ _ _ _; refine (hJ0 _ _ _ _).mpr ⟨⟨by omega, by omega⟩, by omega, by omega⟩)
      | (show J1 _ _ _ _ _ _; refine (hJ1 _ _ _ _ _ _).mpr ⟨⟨by omega, by omega⟩, ⟨by omega, by omega⟩, ⟨by omega, by omega⟩, by omega, by omega⟩)
      | (show (_ : Nat) < (_ : Nat); dsimp only; omega)
  · have e1 : ab_lo = -2147483648 := rfl
    have e2 : ab_hi = 2147483647 := rfl
    repeat' first | (intro h; exact absurd h (by decide)) | (intro h; exact absurd rfl h) | refine And.intro ?_ ?_ | intro _ | refine Or.inl ⟨by omega, by omega, ?_⟩ | refine Or.inr ?_ | exact trivial
    all_goals first
      | omega
      | trivial
      | (show J0 _ _ _ _; refine (hJ0 _ _ _ _).mpr ⟨⟨by omega, by omega⟩, by omega, by omega⟩)

set_option maxHeartbeats 8000000 in
set_option maxRecDepth 20000 in
theorem k203 {Z : sm_Z} (hZ : Z.2.2.2 = tb_N) (m : wk_M) (hO : rOps m.1) : wC Z 5 203 [63] [.inr (.inl 46)] m (fun r m' => ∃ v : Int, r = some (.inl v)) := by
  refine wC.gen fun Q hQ => wk_E hZ (by exact rfl) [] rfl (fun _ _ => trivial) fun hr hs => ?_
  have e1 : ab_lo = -2147483648 := rfl
  have e2 : ab_hi = 2147483647 := rfl
  repeat' first | (intro h; exact absurd h (by decide)) | (intro h; exact absurd rfl h) | refine And.intro ?_ ?_ | intro _ | refine Or.inl ⟨by omega, by omega, ?_⟩ | refine Or.inr ?_ | exact trivial | (refine wk_use (k199x hZ _) rfl rfl ?_; rintro - _ _ - - - ⟨v, rfl, rfl, ⟨_, _⟩, hlt, hb⟩; refine Or.inl ⟨[], rfl, ?_⟩) | (refine wk_use (k204 hZ _ _ hO (hb (by omega))) rfl rfl ?_; rintro - _ _ - hfr - ⟨_, rfl, _, _⟩; refine Or.inr ?_)
  all_goals first | omega | exact hQ _ _ ⟨_, rfl⟩

set_option maxHeartbeats 8000000 in
set_option maxRecDepth 20000 in
theorem k205 {Z : sm_Z} (hZ : Z.2.2.2 = tb_N) (m : wk_M) (j : Int) (hO : rOps m.1) : wC Z 5 205 [63] [.inr (.inl 46), .inl j] m (fun r m' => ∃ v : Int, r = some (.inl v)) := by
  refine wC.gen fun Q hQ => wk_E hZ (by exact rfl) [] rfl (fun _ _ => trivial) fun hr hs => ?_
  have e1 : ab_lo = -2147483648 := rfl
  have e2 : ab_hi = 2147483647 := rfl
  repeat' first | (intro h; exact absurd h (by decide)) | (intro h; exact absurd rfl h) | refine And.intro ?_ ?_ | intro _ | refine Or.inl ⟨by omega, by omega, ?_⟩ | refine Or.inr ?_ | exact trivial | (refine wk_use (k199x hZ _) rfl rfl ?_; rintro - _ _ - - - ⟨v, rfl, rfl, ⟨_, _⟩, hlt, hb⟩; refine Or.inl ⟨[], rfl, ?_⟩) | (refine wk_use (k204 hZ _ _ hO (hb (by omega))) rfl rfl ?_; rintro - _ _ - hfr - ⟨_, rfl, _, _⟩; refine Or.inr ?_)
  all_goals first | omega | exact hQ _ _ ⟨_, rfl⟩
