/-! class and reference: the same dependences -/
/-- the tables of both are the same -/
def bE (f : Nat → Int → Int) : Prop := (f 46 (0 : Nat) = f 1 (4 : Nat) ∧ f 46 (6 : Nat) = f 1 (11 : Nat)) ∧ (∀ j, 0 ≤ j → j < f 1 (4 : Nat) → (f 47 j = f 2 j ∧ f 48 j = f 3 j ∧ f 49 j = f 4 j ∧ f 50 j = f 5 j) ∧ f 54 j = f 6 j ∧ f 55 j = f 7 j ∧ f 56 j = f 8 j ∧ f 53 j = f 9 j) ∧ (∀ p, 0 ≤ p → p < f 1 (11 : Nat) → f 51 p = f 10 p ∧ f 52 p = f 11 p) ∧ ∀ j, 0 ≤ j → j < f 1 (4 : Nat) → (f 2 j = 10 ∨ f 2 j = 12) → f 57 j = f 6 j
/-- what a built program keeps to -/
def bW (f : Nat → Int → Int) : Prop := bE f ∧ cWL f ∧ yWc f ∧ f 1 (4 : Nat) ≤ 32 ∧ ∀ p j, 0 ≤ p → p < f 1 (11 : Nat) → f 10 p ≤ j → j < f 11 p → f 9 j = p
def ph (f : Nat → Int → Int) (p j : Int) : Int := if j < f 11 p then j else 32 + p
theorem ph_r (f : Nat → Int → Int) (p j : Int) : (j < f 11 p ∧ ph f p j = j) ∨ (f 11 p ≤ j ∧ ph f p j = 32 + p) := by
  unfold ph
  split <;> omega
theorem bW_p {f : Nat → Int → Int} (h : bW f) {p i : Int} (p0 : 0 ≤ p) (p1 : p < f 1 (11 : Nat)) (i0 : f 10 p ≤ i) (i1 : i < f 11 p) : (0 ≤ i ∧ i < f 1 (4 : Nat)) ∧ ¬ f 2 i = 18 ∧ f 9 i = p ∧ f 1 (4 : Nat) ≤ 32 := by
  have a := h.2.1.2.1 p p0 p1
  exact ⟨⟨by omega, by omega⟩, (h.2.1.2.2.1 p i p0 p1 i0 i1).1, h.2.2.2.2 p i p0 p1 i0 i1, h.2.2.2.1⟩
theorem Sc_9 {f : Nat → Int → Int} {i j : Int} (o : f 2 i = 9) : Sc f i j ↔ (j = i + 1 ∨ (f 7 i = -1 ∧ j = f 8 i) ∨ (¬ f 7 i = -1 ∧ j = f 7 i + 1)) := by
  refine ⟨fun q => ?_, fun q => Or.inl ⟨o, q⟩⟩
  rcases q with ⟨_, z⟩ | ⟨z, _⟩ | ⟨z, _⟩ | ⟨z, _⟩ | ⟨z, _⟩
  · exact z
  · omega
  · omega
  · omega
  · exact absurd o z
theorem Sc_11 {f : Nat → Int → Int} {i j : Int} (o : f 2 i = 11) : Sc f i j ↔ (j = i + 1 ∨ j = f 8 i + 1) := by
  refine ⟨fun q => ?_, fun q => Or.inr (Or.inl ⟨o, q⟩)⟩
  rcases q with ⟨z, _⟩ | ⟨_, z⟩ | ⟨z, _⟩ | ⟨z, _⟩ | ⟨_, _, z, _⟩
  · omega
  · exact z
  · omega
  · omega
  · exact absurd o z
theorem Sc_10 {f : Nat → Int → Int} {i j : Int} (o : f 2 i = 10) : Sc f i j ↔ j = f 8 (f 6 i) := by
  refine ⟨fun q => ?_, fun q => Or.inr (Or.inr (Or.inl ⟨o, q⟩))⟩
  rcases q with ⟨z, _⟩ | ⟨z, _⟩ | ⟨_, z⟩ | ⟨z, _⟩ | ⟨_, z, _⟩
  · omega
  · omega
  · exact z
  · omega
  · exact absurd o z
theorem Sc_12 {f : Nat → Int → Int} {i j : Int} (o : f 2 i = 12) : Sc f i j ↔ ((f 2 (f 6 i) = 11 ∧ j = f 6 i) ∨ (¬ f 2 (f 6 i) = 11 ∧ j = i + 1)) := by
  refine ⟨fun q => ?_, fun q => Or.inr (Or.inr (Or.inr (Or.inl ⟨o, q⟩)))⟩
  rcases q with ⟨z, _⟩ | ⟨z, _⟩ | ⟨z, _⟩ | ⟨_, z⟩ | ⟨_, _, _, z, _⟩
  · omega
  · omega
  · omega
  · exact z
  · exact absurd o z
theorem Sc_p {f : Nat → Int → Int} {i j : Int} (o : ¬ f 2 i = 9 ∧ ¬ f 2 i = 10 ∧ ¬ f 2 i = 11 ∧ ¬ f 2 i = 12 ∧ ¬ f 2 i = 18) : Sc f i j ↔ j = i + 1 := by
  refine ⟨fun q => ?_, fun q => Or.inr (Or.inr (Or.inr (Or.inr ⟨o.1, o.2.1, o.2.2.1, o.2.2.2.1, o.2.2.2.2, q⟩)))⟩
  rcases q with ⟨z, _⟩ | ⟨z, _⟩ | ⟨z, _⟩ | ⟨z, _⟩ | ⟨_, _, _, _, _, z⟩
  · exact absurd z o.1
  · exact absurd z o.2.2.1
  · exact absurd z o.2.1
  · exact absurd z o.2.2.2.1
  · exact z
theorem Sc_18 {f : Nat → Int → Int} {i j : Int} (o : f 2 i = 18) : ¬ Sc f i j := by
  intro q
  rcases q with ⟨z, _⟩ | ⟨z, _⟩ | ⟨z, _⟩ | ⟨z, _⟩ | ⟨_, _, _, _, z, _⟩
  · omega
  · omega
  · omega
  · omega
  · exact absurd o z
theorem Sc_in {f : Nat → Int → Int} (h : bW f) {p i j : Int} (p0 : 0 ≤ p) (p1 : p < f 1 (11 : Nat)) (i0 : f 10 p ≤ i) (i1 : i < f 11 p) (hs : Sc f i j) : f 10 p ≤ j ∧ j ≤ f 11 p := by
  obtain ⟨c0, c1, c2, c3, c4⟩ := h.2.1.2.2.1 p i p0 p1 i0 i1
  by_cases o9 : f 2 i = 9
  · have q := c3 o9
    rcases (Sc_9 o9).mp hs with z | ⟨z, y⟩ | ⟨z, y⟩
    · omega
    · omega
    · have := q.2.2 z
      omega
  · by_cases oB : f 2 i = 11
    · have q := c4 oB
      rcases (Sc_11 oB).mp hs with z | z <;> omega
    · by_cases oA : f 2 i = 10
      · have q := c1 oA
        have z := (Sc_10 oA).mp hs
        omega
      · by_cases oC : f 2 i = 12
        · have q := c2 oC
          rcases (Sc_12 oC).mp hs with ⟨_, z⟩ | ⟨_, z⟩ <;> omega
        · have z := (Sc_p ⟨o9, oA, oB, oC, c0⟩).mp hs
          omega
/-- behind, as the reference numbers it -/
theorem rBh_ph {f : Nat → Int → Int} {p i v : Int} (e11 : f 52 p = f 11 p) : rBh f i p v ↔ v = ph f p (i + 1) := by
  have r := ph_r f p (i + 1)
  unfold rBh
  rw [e11]
  omega
/-- a step of the class is a step of the reference -/
theorem St_iff {f : Nat → Int → Int} (h : bW f) {p i : Int} (p0 : 0 ≤ p) (p1 : p < f 1 (11 : Nat)) (i0 : f 10 p ≤ i) (i1 : i < f 11 p) (j' : Int) : Sr f i j' ↔ ∃ j, Sc f i j ∧ j' = ph f p j := by
  obtain ⟨⟨ci0, ci1⟩, n18, h9, c32⟩ := bW_p h p0 p1 i0 i1
  have hp := h.2.1.2.1 p p0 p1
  have hP4 := h.2.1.1
  obtain ⟨⟨e2, -, -, -⟩, e6, e7, e8, e9⟩ := h.1.2.1 i ci0 ci1
  have e11 := (h.1.2.2.1 p p0 p1).2
  have e57 := h.1.2.2.2 i ci0 ci1
  obtain ⟨y2, y10, y12⟩ := h.2.2.1.2.1 i ci0 ci1
  have y3 := h.2.2.1.2.2.1 i ci0 ci1
  have y1 := h.2.2.1.1
  have e53 : f 53 i = p := e9.trans h9
  have i32 : i < 32 := by omega
  -- from two ways to one step
  have two : ∀ (A B : Int → Prop), (∀ v, wy f i 0 v ↔ A v) → (∀ v, wy f i 1 v ↔ B v) → (Sr f i j' ↔ (0 ≤ j' ∧ j' ≤ 35) ∧ (A j' ∨ B j')) := by
    intro A B hA hB
    unfold Sr
    rw [hA, hB]
    exact ⟨fun q => q.2, fun q => ⟨⟨ci0, i32⟩, q⟩⟩
  have w0 : ¬ f 47 i = 10 → ¬ (f 47 i = 12 ∧ f 47 (f 57 i) = 11) → ∀ v, wy f i 0 v ↔ v = ph f p (i + 1) := fun a b v => by
    rw [wy_0 i32 a b, e53]
    exact rBh_ph e11
  have w11 : f 47 i = 11 → ∀ v, wy f i 1 v ↔ v = ph f p (f 56 i + 1) := fun a v => by
    rw [wy_111 i32 a, e53]
    exact rBh_ph e11
  have bd : ∀ j, f 10 p ≤ j → j ≤ f 11 p → 0 ≤ ph f p j ∧ ph f p j ≤ 35 := by
    intro j a b
    have := ph_r f p j
    omega
  -- the END's place of an IF or WHILE
  have k8 : (f 2 i = 9 ∨ f 2 i = 11) → i < f 8 i ∧ f 8 i < f 11 p := by
    intro o
    obtain ⟨⟨a, b⟩, o12, d, -⟩ := y3 o
    have q := y1 (f 8 i) (by omega) b (by omega)
    rw [d, h9] at q
    exact ⟨a, q.2.2⟩
  by_cases o9 : f 2 i = 9
  · have q8 := k8 (Or.inl o9)
    have q7 : f 7 i = -1 ∨ (i < f 7 i ∧ f 7 i < f 8 i) := (y3 (Or.inl o9)).2.2.2
    have o47 : f 47 i = 9 := e2.trans o9
    rw [two _ _ (w0 (by omega) (by omega)) (fun v => wy_19 i32 o47), e7, e8]
    constructor
    · rintro ⟨-, z | ⟨z, y⟩ | ⟨z, y⟩⟩
      · exact ⟨i + 1, (Sc_9 o9).mpr (Or.inl rfl), z⟩
      · refine ⟨f 7 i + 1, (Sc_9 o9).mpr (Or.inr (Or.inr ⟨by omega, rfl⟩)), ?_⟩
        have := ph_r f p (f 7 i + 1)
        omega
      · refine ⟨f 8 i, (Sc_9 o9).mpr (Or.inr (Or.inl ⟨by omega, rfl⟩)), ?_⟩
        have := ph_r f p (f 8 i)
        omega
    · rintro ⟨j, hs, e⟩
      rcases (Sc_9 o9).mp hs with z | ⟨z, y⟩ | ⟨z, y⟩
      · subst z
        rw [e]
        exact ⟨bd _ (by omega) (by omega), Or.inl rfl⟩
      · subst y
        have := ph_r f p (f 8 i)
        exact ⟨by omega, Or.inr (Or.inr ⟨by omega, by omega⟩)⟩
      · subst y
        have := ph_r f p (f 7 i + 1)
        exact ⟨by omega, Or.inr (Or.inl ⟨by omega, by omega⟩)⟩
  · by_cases oB : f 2 i = 11
    · have q8 := k8 (Or.inr oB)
      have o47 : f 47 i = 11 := e2.trans oB
      rw [two _ _ (w0 (by omega) (by omega)) (w11 o47), e8]
      constructor
      · rintro ⟨-, z | z⟩
        · exact ⟨i + 1, (Sc_11 oB).mpr (Or.inl rfl), z⟩
        · exact ⟨f 8 i + 1, (Sc_11 oB).mpr (Or.inr rfl), z⟩
      · rintro ⟨j, hs, e⟩
        rcases (Sc_11 oB).mp hs with z | z
        · subst z
          rw [e]
          exact ⟨bd _ (by omega) (by omega), Or.inl rfl⟩
        · subst z
          rw [e]
          exact ⟨bd _ (by omega) (by omega), Or.inr rfl⟩
    · by_cases oA : f 2 i = 10
      · obtain ⟨a, b⟩ := y10 oA
        rcases y2 with z | ⟨⟨a0, a1⟩, -, a9⟩
        · omega
        · obtain ⟨⟨u, v⟩, o12, d, -⟩ := h.2.2.1.2.2.1 (f 6 i) a0 (by omega) (Or.inl b)
          have q := y1 (f 8 (f 6 i)) (by omega) v (by omega)
          rw [d, a9, h9] at q
          have e56 : f 56 (f 57 i) = f 8 (f 6 i) := by
            rw [e57 (Or.inl oA)]
            exact (h.1.2.1 (f 6 i) a0 (by omega)).2.2.2.1
          have o47 : f 47 i = 10 := e2.trans oA
          rw [two _ _ (fun v => (wy_10 i32 o47).1) (fun v => (wy_10 i32 o47).2), e56]
          have r := ph_r f p (f 8 (f 6 i))
          constructor
          · rintro ⟨z0, z | z⟩
            · exact ⟨f 8 (f 6 i), (Sc_10 oA).mpr rfl, by omega⟩
            · omega
          · rintro ⟨j, hs, e⟩
            have z := (Sc_10 oA).mp hs
            subst z
            exact ⟨by omega, Or.inl (by omega)⟩
      · by_cases oC : f 2 i = 12
        · have a := y12 oC
          rcases y2 with z | ⟨⟨a0, a1⟩, -, a9⟩
          · omega
          · have q := y1 (f 6 i) a0 (by omega)
            have eh := e57 (Or.inr oC)
            have e47 : f 47 (f 57 i) = f 2 (f 6 i) := by
              rw [eh]
              exact (h.1.2.1 (f 6 i) a0 (by omega)).1.1
            have o47 : f 47 i = 12 := e2.trans oC
            by_cases oW : f 2 (f 6 i) = 11
            · have q := q (by omega)
              rw [a9, h9] at q
              rw [two _ _ (fun v => (wy_12 i32 ⟨o47, by rw [e47]; exact oW⟩).1) (fun v => (wy_12 i32 ⟨o47, by rw [e47]; exact oW⟩).2), eh]
              have r := ph_r f p (f 6 i)
              constructor
              · rintro ⟨z0, z | z⟩
                · exact ⟨f 6 i, (Sc_12 oC).mpr (Or.inl ⟨oW, rfl⟩), by omega⟩
                · omega
              · rintro ⟨j, hs, e⟩
                rcases (Sc_12 oC).mp hs with ⟨_, z⟩ | ⟨z, _⟩
                · subst z
                  exact ⟨by omega, Or.inl (by omega)⟩
                · exact absurd oW z
            · have n47 : ¬ (f 47 i = 12 ∧ f 47 (f 57 i) = 11) := fun z => oW (by rw [← e47]; exact z.2)
              rw [two _ _ (w0 (by omega) n47) (fun v => wy_1n i32 (by omega) n47 (by omega) (by omega))]
              constructor
              · rintro ⟨z0, z | z⟩
                · exact ⟨i + 1, (Sc_12 oC).mpr (Or.inr ⟨oW, rfl⟩), z⟩
                · omega
              · rintro ⟨j, hs, e⟩
                rcases (Sc_12 oC).mp hs with ⟨z, _⟩ | ⟨_, z⟩
                · exact absurd z oW
                · subst z
                  rw [e]
                  exact ⟨bd _ (by omega) (by omega), Or.inl rfl⟩
        · have n47 : ¬ (f 47 i = 12 ∧ f 47 (f 57 i) = 11) := fun z => oC (e2.symm.trans z.1)
          rw [two _ _ (w0 (by omega) n47) (fun v => wy_1n i32 (by omega) n47 (by omega) (by omega))]
          have op : ¬ f 2 i = 9 ∧ ¬ f 2 i = 10 ∧ ¬ f 2 i = 11 ∧ ¬ f 2 i = 12 ∧ ¬ f 2 i = 18 := ⟨o9, oA, oB, oC, n18⟩
          constructor
          · rintro ⟨z0, z | z⟩
            · exact ⟨i + 1, (Sc_p op).mpr rfl, z⟩
            · omega
          · rintro ⟨j, hs, e⟩
            have z := (Sc_p op).mp hs
            subst z
            rw [e]
            exact ⟨bd _ (by omega) (by omega), Or.inl rfl⟩
theorem rs_cr {f : Nat → Int → Int} (h : bW f) {p : Int} (p0 : 0 ≤ p) (p1 : p < f 1 (11 : Nat)) {S' : Int → Int → Prop} {X X' st st' : Int → Prop} (hS : ∀ i j', f 10 p ≤ i → i < f 11 p → (S' i j' ↔ ∃ j, Sc f i j ∧ j' = ph f p j)) (hS32 : ∀ i j', S' i j' → i < 32) (hX : ∀ j, X j → f 10 p ≤ j ∧ j ≤ f 11 p) (hXX : ∀ j', X' j' ↔ ∃ j, X j ∧ j' = ph f p j) (hst : ∀ i, f 10 p ≤ i → i < f 11 p → (st i ↔ st' i)) {n : Int} (n1 : n < f 11 p) : rs (Scc f) X st n ↔ rs S' X' st' n := by
  have hp := h.2.1.2.1 p p0 p1
  have c32 := h.2.2.2.1
  have hx := h.2.2.1.2.2.2 p p0 p1
  constructor
  · intro q C hC1 hC2
    have r := q (fun k => (f 10 p ≤ k ∧ k ≤ f 11 p) ∧ C (ph f p k)) (fun i hi => ⟨hX i hi, hC1 _ ((hXX _).mpr ⟨i, hi, rfl⟩)⟩) (fun i k hi hn hs => ?_)
    · have e : ph f p n = n := if_pos n1
      rw [← e]
      exact r.2
    · by_cases e : i < f 11 p
      · have ei : ph f p i = i := if_pos e
        have hi2 := hi.2
        rw [ei] at hi2
        exact ⟨Sc_in h p0 p1 hi.1.1 e hs.2, hC2 i _ hi2 (fun z => hn ((hst i hi.1.1 e).mpr z)) ((hS i _ hi.1.1 e).mpr ⟨k, hs.2, rfl⟩)⟩
      · exfalso
        have ei : i = f 11 p := by have := hi.1.2; omega
        have hs1 := hs.1
        have hs2 := hs.2
        rw [ei] at hs1 hs2
        rcases hx with hx | ⟨-, o⟩
        · omega
        · exact Sc_18 o hs2
  · intro q C hC1 hC2
    have r := q (fun k' => ∃ k, (f 10 p ≤ k ∧ k ≤ f 11 p) ∧ k' = ph f p k ∧ C k) (fun i hi => ?_) (fun i k hi hn hs => ?_)
    · obtain ⟨k, ⟨k0, k1⟩, e, hk⟩ := r
      have := ph_r f p k
      have ek : k = n := by omega
      rw [← ek]
      exact hk
    · obtain ⟨j, hj, e⟩ := (hXX i).mp hi
      exact ⟨j, hX j hj, e, hC1 j hj⟩
    · obtain ⟨j, ⟨j0, j1⟩, e, hj⟩ := hi
      have i32 := hS32 i k hs
      have := ph_r f p j
      have e1 : j < f 11 p := by omega
      have e2 : i = j := by omega
      subst e2
      obtain ⟨k', hk, e3⟩ := (hS i k j0 e1).mp hs
      exact ⟨k', Sc_in h p0 p1 j0 e1 hk, e3, hC2 i k' hj (fun z => hn ((hst i j0 e1).mp z)) ⟨⟨by omega, by omega⟩, hk⟩⟩
theorem Sw_iff {f : Nat → Int → Int} (h : bW f) {p i : Int} (p0 : 0 ≤ p) (p1 : p < f 1 (11 : Nat)) (i0 : f 10 p ≤ i) (i1 : i < f 11 p) (j' : Int) : Sw f i j' ↔ ∃ j, Sc f i j ∧ j' = ph f p j := by
  obtain ⟨⟨ci0, ci1⟩, n18, h9, c32⟩ := bW_p h p0 p1 i0 i1
  have e2 := (h.1.2.1 i ci0 ci1).1.1
  rw [← St_iff h p0 p1 i0 i1 j']
  unfold Sw
  exact ⟨fun q => q.2, fun q => ⟨⟨by rw [h.1.1.1]; exact ci1, by rw [e2]; exact n18⟩, q⟩⟩
/-- reached, in both -/
theorem rch_eq {f : Nat → Int → Int} (h : bW f) {p i n : Int} (p0 : 0 ≤ p) (p1 : p < f 1 (11 : Nat)) (i0 : f 10 p ≤ i) (i1 : i < f 11 p) (n1 : n < f 11 p) : rs (Scc f) (Scc f i) nS n ↔ rs (Sw f) (Sw f i) nS n := by
  obtain ⟨ci, n18, h9, c32⟩ := bW_p h p0 p1 i0 i1
  refine rs_cr h p0 p1 (fun i j' a b => Sw_iff h p0 p1 a b j') (fun i j' q => q.2.1.2) (fun j q => Sc_in h p0 p1 i0 i1 q.2) (fun j' => ?_) (fun _ _ _ => Iff.rfl) n1
  rw [Sw_iff h p0 p1 i0 i1]
  exact ⟨fun ⟨j, a, b⟩ => ⟨j, ⟨ci, a⟩, b⟩, fun ⟨j, a, b⟩ => ⟨j, a.2, b⟩⟩
theorem df_eq {f : Nat → Int → Int} (h : bW f) {p i x : Int} (p0 : 0 ≤ p) (p1 : p < f 1 (11 : Nat)) (i0 : f 10 p ≤ i) (i1 : i < f 11 p) : dfc f x i ↔ dfn f x i := by
  obtain ⟨⟨ci0, ci1⟩, n18, h9, c32⟩ := bW_p h p0 p1 i0 i1
  obtain ⟨⟨e2, e3, -, -⟩, -⟩ := h.1.2.1 i ci0 ci1
  unfold dfc dfn
  rw [e2, e3]
  exact ⟨fun q => ⟨by omega, q.2⟩, fun q => ⟨⟨ci0, ci1⟩, q.2⟩⟩
/-- a definition reaches, in both -/
theorem arv_eq {f : Nat → Int → Int} (h : bW f) {p i n : Int} (p0 : 0 ≤ p) (p1 : p < f 1 (11 : Nat)) (i0 : f 10 p ≤ i) (i1 : i < f 11 p) (n1 : n < f 11 p) (hd : dfc f (f 3 i) i) : rs (Scc f) (Scc f i) (dfc f (f 3 i)) n ↔ arv f (f 48 i) i n := by
  obtain ⟨ci, n18, h9, c32⟩ := bW_p h p0 p1 i0 i1
  have e := h.1.2.1 i ci.1 ci.2
  have e11 := (h.1.2.2.1 p p0 p1).2
  have e3 : f 48 i = f 3 i := e.1.2.1
  have e2 : f 47 i = f 2 i := e.1.1
  have e53 : f 53 i = p := e.2.2.2.2.trans h9
  rw [e3]
  refine rs_cr h p0 p1 (fun i j' a b => St_iff h p0 p1 a b j') (fun i j' q => q.1.2) (fun j q => Sc_in h p0 p1 i0 i1 q.2) (fun j' => ?_) (fun i a b => df_eq h p0 p1 a b) n1
  have hd := hd.2.1
  have op : ¬ f 2 i = 9 ∧ ¬ f 2 i = 10 ∧ ¬ f 2 i = 11 ∧ ¬ f 2 i = 12 ∧ ¬ f 2 i = 18 := by omega
  have ew : wy f i 0 j' ↔ j' = ph f p (i + 1) := by
    rw [wy_0 (by omega) (by omega) (by omega), e53]
    exact rBh_ph e11
  constructor
  · intro q
    exact ⟨i + 1, ⟨ci, (Sc_p op).mpr rfl⟩, ew.mp q⟩
  · rintro ⟨j, ⟨-, q⟩, e⟩
    have ej := (Sc_p op).mp q
    subst ej
    exact ew.mpr e
