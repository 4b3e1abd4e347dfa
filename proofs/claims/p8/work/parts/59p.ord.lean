/-! the class's Order, exactly: the levels' order as a relation, what a lattice lacks -/
theorem ot_or_t : (List.range 32).all (fun a => (List.range 32).all (fun b => decide (0 ≤ (Int32.ofInt (a : Int) ||| Int32.ofInt (b : Int)).toInt ∧ (Int32.ofInt (a : Int) ||| Int32.ofInt (b : Int)).toInt ≤ 31))) = true := by decide +kernel
theorem ot_or {a b : Int} (a0 : 0 ≤ a) (a1 : a ≤ 31) (b0 : 0 ≤ b) (b1 : b ≤ 31) : 0 ≤ (Int32.ofInt a ||| Int32.ofInt b).toInt ∧ (Int32.ofInt a ||| Int32.ofInt b).toInt ≤ 31 := by
  obtain ⟨n, rfl⟩ := Int.eq_ofNat_of_zero_le a0
  obtain ⟨k, rfl⟩ := Int.eq_ofNat_of_zero_le b0
  exact of_decide_eq_true (List.all_eq_true.mp (List.all_eq_true.mp ot_or_t n (List.mem_range.mpr (by omega))) k (List.mem_range.mpr (by omega)))
theorem ot_and_t : (List.range 32).all (fun a => (List.range 32).all (fun b => decide (0 ≤ (Int32.ofInt (a : Int) &&& Int32.ofInt (b : Int)).toInt ∧ (Int32.ofInt (a : Int) &&& Int32.ofInt (b : Int)).toInt ≤ 31))) = true := by decide +kernel
theorem ot_and {a b : Int} (a0 : 0 ≤ a) (a1 : a ≤ 31) (b0 : 0 ≤ b) (b1 : b ≤ 31) : 0 ≤ (Int32.ofInt a &&& Int32.ofInt b).toInt ∧ (Int32.ofInt a &&& Int32.ofInt b).toInt ≤ 31 := by
  obtain ⟨n, rfl⟩ := Int.eq_ofNat_of_zero_le a0
  obtain ⟨k, rfl⟩ := Int.eq_ofNat_of_zero_le b0
  exact of_decide_eq_true (List.all_eq_true.mp (List.all_eq_true.mp ot_and_t n (List.mem_range.mpr (by omega))) k (List.mem_range.mpr (by omega)))
theorem ot_sub_t : (List.range 32).all (fun a => (List.range 32).all (fun b => decide ((Int32.ofInt (a : Int) &&& Int32.ofInt (Int32.ofInt (b : Int) ^^^ Int32.ofInt (-1)).toInt).toInt = 0 ↔ ∀ q ∈ List.range 5, bitI (a : Int) (q : Int) = true → bitI (b : Int) (q : Int) = true))) = true := by decide +kernel
theorem ot_sub {a b z1 z2 : Int} (a0 : 0 ≤ a) (a1 : a ≤ 31) (b0 : 0 ≤ b) (b1 : b ≤ 31) (e1 : z1 = (Int32.ofInt b ^^^ Int32.ofInt (-1)).toInt) (e2 : z2 = (Int32.ofInt a &&& Int32.ofInt z1).toInt) : z2 = 0 ↔ ∀ q, 0 ≤ q → q ≤ 4 → bitI a q = true → bitI b q = true := by
  obtain ⟨n, rfl⟩ := Int.eq_ofNat_of_zero_le a0
  obtain ⟨k, rfl⟩ := Int.eq_ofNat_of_zero_le b0
  have h := of_decide_eq_true (List.all_eq_true.mp (List.all_eq_true.mp ot_sub_t n (List.mem_range.mpr (by omega))) k (List.mem_range.mpr (by omega)))
  rw [e2, e1]
  refine h.trans ⟨fun g q q0 q1 => ?_, fun g q hq => g q (by omega) (by have := List.mem_range.mp hq; omega)⟩
  obtain ⟨j, rfl⟩ := Int.eq_ofNat_of_zero_le q0
  exact g j (List.mem_range.mpr (by omega))
theorem ot_full_t : (List.range 32).all (fun x => (List.range 6).all (fun n => decide (1 ≤ n → ((x : Int) = (Int32.ofInt 1 <<< (Int32.ofInt (n : Int) &&& 31)).toInt - 1 ↔ ∀ q ∈ List.range 5, (bitI (x : Int) (q : Int) = true ↔ q < n))))) = true := by decide +kernel
theorem ot_full {x n z : Int} (x0 : 0 ≤ x) (x1 : x ≤ 31) (n0 : 1 ≤ n) (n1 : n ≤ 5) (ez : z = (Int32.ofInt 1 <<< (Int32.ofInt n &&& 31)).toInt) (hh : ∀ k, n ≤ k → k ≤ 4 → bitI x k = false) : x = z - 1 ↔ ∀ q, 0 ≤ q → q < n → bitI x q = true := by
  obtain ⟨a, rfl⟩ := Int.eq_ofNat_of_zero_le x0
  obtain ⟨k, rfl⟩ := Int.eq_ofNat_of_zero_le (show 0 ≤ n by omega)
  have h := of_decide_eq_true (List.all_eq_true.mp (List.all_eq_true.mp ot_full_t a (List.mem_range.mpr (by omega))) k (List.mem_range.mpr (by omega))) (by omega)
  rw [ez]
  refine h.trans ⟨fun g q q0 q1 => ?_, fun g q hq => ⟨fun z => ?_, fun z => g q (by omega) (by omega)⟩⟩
  · obtain ⟨j, rfl⟩ := Int.eq_ofNat_of_zero_le q0
    exact (g j (List.mem_range.mpr (by omega))).mpr (by omega)
  · have hq := List.mem_range.mp hq
    by_cases e : q < k
    · exact e
    · rw [hh q (by omega) (by omega)] at z
      cases z
theorem ot_pow_t : (List.range 6).all (fun n => decide (2 ≤ (Int32.ofInt 1 <<< (Int32.ofInt ((n + 1 : Nat) : Int) &&& 31)).toInt ∧ (Int32.ofInt 1 <<< (Int32.ofInt ((n + 1 : Nat) : Int) &&& 31)).toInt ≤ 64)) = true := by decide +kernel
theorem ot_one_t : (List.range 5).all (fun n => decide (0 ≤ (Int32.ofInt 1 <<< (Int32.ofInt (n : Int) &&& 31)).toInt ∧ (Int32.ofInt 1 <<< (Int32.ofInt (n : Int) &&& 31)).toInt ≤ 31)) = true := by decide +kernel
theorem ot_one {n z : Int} (n0 : 0 ≤ n) (n1 : n ≤ 4) (ez : z = (Int32.ofInt 1 <<< (Int32.ofInt n &&& 31)).toInt) : 0 ≤ z ∧ z ≤ 31 := by
  obtain ⟨k, rfl⟩ := Int.eq_ofNat_of_zero_le n0
  rw [ez]
  exact of_decide_eq_true (List.all_eq_true.mp ot_one_t k (List.mem_range.mpr (by omega)))
/-- the levels' masks hold levels alone -/
def oA (f : Nat → Int → Int) : Prop := ∀ p, 0 ≤ p → p < f 38 (0 : Nat) → (0 ≤ f 39 p ∧ f 39 p ≤ 31) ∧ ∀ k, f 38 (0 : Nat) ≤ k → k ≤ 4 → bitI (f 39 p) k = false
/-- what a lattice lacks, of a relation of n levels -/
def ltC (n : Int) (R : Int → Int → Prop) : Prop := ∃ p q, (0 ≤ p ∧ p < n) ∧ (0 ≤ q ∧ q < n) ∧ ¬ p = q ∧ R p q ∧ R q p
def ltK (n : Int) (R : Int → Int → Prop) (p q c : Int) : Prop := R p c ∧ R q c ∧ ∀ e, 0 ≤ e → e < n → R p e → R q e → R c e
def ltJ (n : Int) (R : Int → Int → Prop) (p q : Int) : Prop := ∃ c, 0 ≤ c ∧ c < n ∧ ltK n R p q c
def ltB (n : Int) (R : Int → Int → Prop) (l : Int) : Prop := ∀ k, 0 ≤ k → k < n → R l k
def ltAJ (n : Int) (R : Int → Int → Prop) : Prop := ∀ p q, 0 ≤ p → p < n → 0 ≤ q → q < n → ltJ n R p q
/-- the first level under all, or -1 -/
def ltF (n : Int) (R : Int → Int → Prop) (v : Int) : Prop := (v = -1 ∧ ∀ l, 0 ≤ l → l < n → ¬ ltB n R l) ∨ ((0 ≤ v ∧ v < n) ∧ ltB n R v ∧ ∀ l, 0 ≤ l → l < v → ¬ ltB n R l)
def ltA (n : Int) (R : Int → Int → Prop) (v : Int) : Prop := (v = 1 ∧ ltC n R) ∨ (v = 2 ∧ ¬ ltC n R ∧ ¬ ltAJ n R) ∨ (v = 3 ∧ ¬ ltC n R ∧ ltAJ n R ∧ ltF n R (-1)) ∨ (v = 0 ∧ ¬ ltC n R ∧ ltAJ n R ∧ ∃ l, 0 ≤ l ∧ ltF n R l)
theorem ltF_uniq {n u v : Int} {R : Int → Int → Prop} (hu : ltF n R u) (hv : ltF n R v) : u = v := by
  rcases hu with ⟨a, al⟩ | ⟨⟨a0, a1⟩, a2, al⟩
  · rcases hv with ⟨b, bl⟩ | ⟨⟨b0, b1⟩, b2, bl⟩
    · omega
    · exact absurd b2 (al v b0 b1)
  · rcases hv with ⟨b, bl⟩ | ⟨⟨b0, b1⟩, b2, bl⟩
    · exact absurd a2 (bl u a0 a1)
    · rcases Int.lt_trichotomy u v with h | h | h
      · exact absurd a2 (bl u a0 h)
      · exact h
      · exact absurd b2 (al v b0 h)
theorem ltF_cast {n u v : Int} {R : Int → Int → Prop} (e : u = v) (h : ltF n R u) : ltF n R v := e ▸ h
theorem ltA_uniq {n u v : Int} {R : Int → Int → Prop} (hu : ltA n R u) (hv : ltA n R v) : u = v := by
  rcases hu with ⟨a, a1⟩ | ⟨a, a1, a2⟩ | ⟨a, a1, a2, a3⟩ | ⟨a, a1, a2, l, a3, a4⟩
  · rcases hv with ⟨b, b1⟩ | ⟨b, b1, b2⟩ | ⟨b, b1, b2, b3⟩ | ⟨b, b1, b2, k, b3, b4⟩
    · omega
    · exact absurd a1 b1
    · exact absurd a1 b1
    · exact absurd a1 b1
  · rcases hv with ⟨b, b1⟩ | ⟨b, b1, b2⟩ | ⟨b, b1, b2, b3⟩ | ⟨b, b1, b2, k, b3, b4⟩
    · exact absurd b1 a1
    · omega
    · exact absurd b2 a2
    · exact absurd b2 a2
  · rcases hv with ⟨b, b1⟩ | ⟨b, b1, b2⟩ | ⟨b, b1, b2, b3⟩ | ⟨b, b1, b2, k, b3, b4⟩
    · exact absurd b1 a1
    · exact absurd a2 b2
    · omega
    · have := ltF_uniq a3 b4
      omega
  · rcases hv with ⟨b, b1⟩ | ⟨b, b1, b2⟩ | ⟨b, b1, b2, b3⟩ | ⟨b, b1, b2, k, b3, b4⟩
    · exact absurd b1 a1
    · exact absurd a2 b2
    · have := ltF_uniq a4 b3
      omega
    · omega
/-- relations that agree on the levels -/
def lEq (n : Int) (R S : Int → Int → Prop) : Prop := ∀ p q, 0 ≤ p → p < n → 0 ≤ q → q < n → (R p q ↔ S p q)
theorem lEq.symm {n : Int} {R S : Int → Int → Prop} (h : lEq n R S) : lEq n S R := fun p q a b c d => (h p q a b c d).symm
theorem ltC_eq {n : Int} {R S : Int → Int → Prop} (h : lEq n R S) (hc : ltC n R) : ltC n S := by
  obtain ⟨p, q, ⟨p0, p1⟩, ⟨q0, q1⟩, ne, a, b⟩ := hc
  exact ⟨p, q, ⟨p0, p1⟩, ⟨q0, q1⟩, ne, (h p q p0 p1 q0 q1).mp a, (h q p q0 q1 p0 p1).mp b⟩
theorem ltJ_eq {n p q : Int} {R S : Int → Int → Prop} (h : lEq n R S) (p0 : 0 ≤ p) (p1 : p < n) (q0 : 0 ≤ q) (q1 : q < n) (hj : ltJ n R p q) : ltJ n S p q := by
  obtain ⟨c, c0, c1, a, b, e⟩ := hj
  exact ⟨c, c0, c1, (h p c p0 p1 c0 c1).mp a, (h q c q0 q1 c0 c1).mp b, fun e' e0 e1 x y => (h c e' c0 c1 e0 e1).mp (e e' e0 e1 ((h p e' p0 p1 e0 e1).mpr x) ((h q e' q0 q1 e0 e1).mpr y))⟩
theorem ltAJ_eq {n : Int} {R S : Int → Int → Prop} (h : lEq n R S) (hj : ltAJ n R) : ltAJ n S := fun p q p0 p1 q0 q1 => ltJ_eq h p0 p1 q0 q1 (hj p q p0 p1 q0 q1)
theorem ltB_eq {n l : Int} {R S : Int → Int → Prop} (h : lEq n R S) (l0 : 0 ≤ l) (l1 : l < n) (hb : ltB n R l) : ltB n S l := fun k k0 k1 => (h l k l0 l1 k0 k1).mp (hb k k0 k1)
theorem ltF_eq {n v : Int} {R S : Int → Int → Prop} (h : lEq n R S) (hf : ltF n R v) : ltF n S v := by
  rcases hf with ⟨a, al⟩ | ⟨⟨a0, a1⟩, a2, al⟩
  · exact Or.inl ⟨a, fun l l0 l1 z => al l l0 l1 (ltB_eq h.symm l0 l1 z)⟩
  · exact Or.inr ⟨⟨a0, a1⟩, ltB_eq h a0 a1 a2, fun l l0 l1 z => al l l0 l1 (ltB_eq h.symm l0 (by omega) z)⟩
theorem ltA_eq {n v : Int} {R S : Int → Int → Prop} (h : lEq n R S) (ha : ltA n R v) : ltA n S v := by
  rcases ha with ⟨a, a1⟩ | ⟨a, a1, a2⟩ | ⟨a, a1, a2, a3⟩ | ⟨a, a1, a2, l, a3, a4⟩
  · exact Or.inl ⟨a, ltC_eq h a1⟩
  · exact Or.inr (Or.inl ⟨a, fun z => a1 (ltC_eq h.symm z), fun z => a2 (ltAJ_eq h.symm z)⟩)
  · exact Or.inr (Or.inr (Or.inl ⟨a, fun z => a1 (ltC_eq h.symm z), ltAJ_eq h a2, ltF_eq h a3⟩))
  · exact Or.inr (Or.inr (Or.inr ⟨a, fun z => a1 (ltC_eq h.symm z), ltAJ_eq h a2, l, a3, ltF_eq h a4⟩))
/-- the class's relation -/
def oB (f : Nat → Int → Int) (p q : Int) : Prop := bitI (f 39 p) q = true
def hL (f : Nat → Int → Int) (x i : Int) : Prop := bitI x i = true ∧ ∀ q, 0 ≤ q → q ≤ 4 → bitI x q = true → bitI (f 39 i) q = true

set_option maxHeartbeats 8000000 in
set_option maxRecDepth 20000 in
theorem k85b {Z : sm_Z} (hZ : Z.2.2.2 = tb_N) (m : wk_M) (x y : Int) (x0 : 0 ≤ x) (x1 : x ≤ 4) (y0 : 0 ≤ y) (y1 : y ≤ 31) : wC Z 2 85 [] [.inr (.inl 38), .inl x, .inl y] m (fun r m' => ∃ v : Int, r = some (.inl v) ∧ m' = m ∧ ((v = 1 ∧ oB m.1 x y) ∨ (v = 0 ∧ ¬ oB m.1 x y))) := by
  refine wC.gen fun Q hQ => wk_E hZ (by exact rfl) [] rfl (fun _ _ => trivial) fun hr hs => ?_
  have e1 : ab_lo = -2147483648 := rfl
  have e2 : ab_hi = 2147483647 := rfl
  repeat' first | refine And.intro ?_ ?_ | intro _ | refine Or.inl ⟨by omega, by omega, ?_⟩ | refine Or.inr ?_ | exact trivial | (refine wk_use (k67b hZ _ _ _ (by omega) (by omega)) rfl rfl ?_; rintro - _ _ - - - ⟨_, rfl, rfl, ⟨rfl, hb⟩ | ⟨rfl, hb⟩⟩; refine Or.inl ⟨[], rfl, ?_⟩)
  all_goals first | omega | exact hQ _ _ ⟨_, rfl, rfl, Or.inl ⟨rfl, hb⟩⟩ | exact hQ _ _ ⟨_, rfl, rfl, Or.inr ⟨rfl, fun z => by unfold oB at z; rw [hb] at z; cases z⟩⟩

set_option maxHeartbeats 8000000 in
set_option maxRecDepth 20000 in
theorem k92b {Z : sm_Z} (hZ : Z.2.2.2 = tb_N) (m : wk_M) (x : Int) (x0 : 0 ≤ x) (x1 : x ≤ 31) (hA : oA m.1) : wC Z 2 92 [] [.inr (.inl 38), .inl x] m (fun r m' => ∃ v : Int, r = some (.inl v) ∧ m' = m ∧ ((v = 1 ∧ ∃ i, 0 ≤ i ∧ i < m.1 38 (0 : Nat) ∧ hL m.1 x i) ∨ (v = 0 ∧ ∀ i, 0 ≤ i → i < m.1 38 (0 : Nat) → ¬ hL m.1 x i))) := by
  obtain ⟨J0, hJ0⟩ : ∃ J : Int →Int → wk_M → Prop, ∀ l i m', J l i m' ↔ (m' = m ∧ l = x ∧ (0 ≤ i ∧ i ≤ m.1 38 (0 : Nat)) ∧ ∀ k, 0 ≤ k → k < i → ¬ hL m.1 x k) := ⟨_, fun _ _ _ => Iff.rfl⟩
  refine wC.gen fun Q hQ => wk_E hZ (by exact rfl) [(2, [(3, 38), (1, 0), (1, 0)], fun vs _ m' => (match vs with
    | [l, i] => J0 l i m'
    | _ => False), fun vs _ m' => (match vs with
    | [l, i] => (5 - i : Int).toNat
    | _ => 0))] rfl (fun hr hs => ⟨?_, trivial⟩) (fun hr hs => ?_)
  · have e1 : ab_lo = -2147483648 := rfl
    have e2 : ab_hi = 2147483647 := rfl
    intro m2 hr2 hf2 l ll lh i il ih hI
    have hI := (hJ0 _ _ _).mp hI
    obtain ⟨rfl, ex, ⟨i0, i1⟩, hN⟩ := hI
    have hn : 1 ≤ m2.1 38 (0 : Nat) ∧ m2.1 38 (0 : Nat) ≤ 5 := hr2.1 38 0
    subst ex
    have hA1 := hA i i0
    repeat' first | (intro h; exact absurd h (by decide)) | (intro h; exact absurd rfl h) | refine And.intro ?_ ?_ | intro _ | refine Or.inl ⟨by omega, by omega, ?_⟩ | refine Or.inr ?_ | exact trivial | (refine wk_use (k67b hZ _ _ _ (by omega) (by omega)) rfl rfl ?_; rintro - _ _ - - - ⟨_, rfl, rfl, ⟨rfl, hb⟩ | ⟨rfl, hb⟩⟩; refine Or.inl ⟨[], rfl, ?_⟩)
    all_goals first
      | omega
      | (show (5 - (_ : Int) : Int).toNat < (5 - (_ : Int) : Int).toNat; omega)
      | exact hQ _ _ ⟨_, rfl, rfl, Or.inr ⟨rfl, fun k k0 k1 => hN k k0 (by omega)⟩⟩
      | exact hQ _ _ ⟨_, rfl, rfl, Or.inl ⟨rfl, i, i0, by omega, hb, (ot_sub x0 x1 (hA1 (by omega)).1.1 (hA1 (by omega)).1.2 (by assumption) (by assumption)).mp (by omega)⟩⟩
      | (show J0 _ _ _; refine (hJ0 _ _ _).mpr ⟨rfl, rfl, ⟨by omega, by omega⟩, fun k k0 k1 => by by_cases e : k = i; (subst e; intro z; unfold hL at z; rw [hb] at z; cases z.1); exact hN k k0 (by omega)⟩)
      | (show J0 _ _ _; refine (hJ0 _ _ _).mpr ⟨rfl, rfl, ⟨by omega, by omega⟩, fun k k0 k1 => by by_cases e : k = i; (subst e; intro z; have q := (ot_sub x0 x1 (hA1 (by omega)).1.1 (hA1 (by omega)).1.2 (by assumption) (by assumption)).mpr z.2; omega); exact hN k k0 (by omega)⟩)
      | (show (_ : Nat) < (_ : Nat); dsimp only; omega)
  · have e1 : ab_lo = -2147483648 := rfl
    have e2 : ab_hi = 2147483647 := rfl
    have hn : 1 ≤ m.1 38 (0 : Nat) ∧ m.1 38 (0 : Nat) ≤ 5 := hr.1 38 0
    repeat' first | (intro h; exact absurd h (by decide)) | (intro h; exact absurd rfl h) | refine And.intro ?_ ?_ | intro _ | refine Or.inl ⟨by omega, by omega, ?_⟩ | refine Or.inr ?_ | exact trivial
    all_goals first
      | omega
      | trivial
      | (show J0 _ _ _; refine (hJ0 _ _ _).mpr ⟨rfl, rfl, ⟨by omega, by omega⟩, fun k k0 k1 => by omega⟩)

set_option maxHeartbeats 8000000 in
set_option maxRecDepth 20000 in
theorem k93b {Z : sm_Z} (hZ : Z.2.2.2 = tb_N) (m : wk_M) (hA : oA m.1) : wC Z 1 93 [] [.inr (.inl 38)] m (fun r m' => ∃ v : Int, r = some (.inl v) ∧ m' = m ∧ ((-1 ≤ v ∧ v ≤ 4) ∧ ltF (m.1 38 (0 : Nat)) (oB m.1) v)) := by
  obtain ⟨J0, hJ0⟩ : ∃ J : Int →Int → wk_M → Prop, ∀ z i m', J z i m' ↔ (m' = m ∧ z = (Int32.ofInt 1 <<< (Int32.ofInt (m.1 38 (0 : Nat)) &&& 31)).toInt - 1 ∧ (0 ≤ i ∧ i ≤ m.1 38 (0 : Nat)) ∧ ∀ k, 0 ≤ k → k < i → ¬ ltB (m.1 38 (0 : Nat)) (oB m.1) k) := ⟨_, fun _ _ _ => Iff.rfl⟩
  refine wC.gen fun Q hQ => wk_E hZ (by exact rfl) [(11, [(3, 38), (1, 0), (1, 0)], fun vs _ m' => (match vs with
    | [z, i] => J0 z i m'
    | _ => False), fun vs _ m' => (match vs with
    | [z, i] => (5 - i : Int).toNat
    | _ => 0))] rfl (fun hr hs => ⟨?_, trivial⟩) (fun hr hs => ?_)
  · have e1 : ab_lo = -2147483648 := rfl
    have e2 : ab_hi = 2147483647 := rfl
    intro m2 hr2 hf2 z zl zh i il ih hI
    have hI := (hJ0 _ _ _).mp hI
    obtain ⟨rfl, ez, ⟨i0, i1⟩, hN⟩ := hI
    have hn : 1 ≤ m2.1 38 (0 : Nat) ∧ m2.1 38 (0 : Nat) ≤ 5 := hr2.1 38 0
    have hA1 := hA i i0
    have hB : i < m2.1 38 (0 : Nat) → (m2.1 39 i = z ↔ ltB (m2.1 38 (0 : Nat)) (oB m2.1) i) := fun q => by
      have g := ot_full (hA1 q).1.1 (hA1 q).1.2 hn.1 hn.2 rfl (hA1 q).2
      rw [← ez] at g
      exact g
    repeat' first | (intro h; exact absurd h (by decide)) | (intro h; exact absurd rfl h) | refine And.intro ?_ ?_ | intro _ | refine Or.inl ⟨by omega, by omega, ?_⟩ | refine Or.inr ?_ | exact trivial
    all_goals first
      | omega
      | (show (5 - (_ : Int) : Int).toNat < (5 - (_ : Int) : Int).toNat; omega)
      | exact hQ _ _ ⟨_, rfl, rfl, ⟨by omega, by omega⟩, Or.inl ⟨rfl, fun k k0 k1 => hN k k0 (by omega)⟩⟩
      | exact hQ _ _ ⟨_, rfl, rfl, ⟨by omega, by omega⟩, Or.inr ⟨⟨i0, by omega⟩, (hB (by omega)).mp (by omega), hN⟩⟩
      | (show J0 _ _ _; refine (hJ0 _ _ _).mpr ⟨rfl, ez, ⟨by omega, by omega⟩, fun k k0 k1 => by by_cases e : k = i; (subst e; intro y; have q := (hB (by omega)).mpr y; omega); exact hN k k0 (by omega)⟩)
      | (show (_ : Nat) < (_ : Nat); dsimp only; omega)
  · have e1 : ab_lo = -2147483648 := rfl
    have e2 : ab_hi = 2147483647 := rfl
    have hn : 1 ≤ m.1 38 (0 : Nat) ∧ m.1 38 (0 : Nat) ≤ 5 := hr.1 38 0
    have hpw : 2 ≤ (Int32.ofInt 1 <<< (Int32.ofInt (m.1 38 (0 : Nat)) &&& 31)).toInt ∧ (Int32.ofInt 1 <<< (Int32.ofInt (m.1 38 (0 : Nat)) &&& 31)).toInt ≤ 64 := by
      obtain ⟨k, hk⟩ := Int.eq_ofNat_of_zero_le (show 0 ≤ m.1 38 (0 : Nat) - 1 by omega)
      have e : m.1 38 (0 : Nat) = ((k + 1 : Nat) : Int) := by omega
      rw [e]
      exact of_decide_eq_true (List.all_eq_true.mp ot_pow_t k (List.mem_range.mpr (by omega)))
    repeat' first | (intro h; exact absurd h (by decide)) | (intro h; exact absurd rfl h) | refine And.intro ?_ ?_ | intro _ | refine Or.inl ⟨by omega, by omega, ?_⟩ | refine Or.inr ?_ | exact trivial
    all_goals first
      | omega
      | trivial
      | (show J0 _ _ _; refine (hJ0 _ _ _).mpr ⟨rfl, by omega, ⟨by omega, by omega⟩, fun k k0 k1 => by omega⟩)

set_option maxHeartbeats 8000000 in
set_option maxRecDepth 20000 in
theorem k90b {Z : sm_Z} (hZ : Z.2.2.2 = tb_N) (m : wk_M)  : wC Z 3 90 [] [.inr (.inl 38)] m (fun r m' => ∃ v : Int, r = some (.inl v) ∧ m' = m ∧ ((v = 1 ∧ ltC (m.1 38 (0 : Nat)) (oB m.1)) ∨ (v = 0 ∧ ¬ ltC (m.1 38 (0 : Nat)) (oB m.1)))) := by
  obtain ⟨J0, hJ0⟩ : ∃ J : Int → wk_M → Prop, ∀ a m', J a m' ↔ (m' = m ∧ (0 ≤ a ∧ a ≤ m.1 38 (0 : Nat)) ∧ ∀ a', 0 ≤ a' → a' < a → ∀ b', 0 ≤ b' → b' < a' → ¬ (oB m.1 a' b' ∧ oB m.1 b' a')) := ⟨_, fun _ _ => Iff.rfl⟩
  obtain ⟨J1, hJ1⟩ : ∃ J : Int →Int → wk_M → Prop, ∀ a b m', J a b m' ↔ (m' = m ∧ (0 ≤ a ∧ a < m.1 38 (0 : Nat)) ∧ (0 ≤ b ∧ b ≤ a) ∧ (∀ a', 0 ≤ a' → a' < a → ∀ b', 0 ≤ b' → b' < a' → ¬ (oB m.1 a' b' ∧ oB m.1 b' a')) ∧ ∀ b', 0 ≤ b' → b' < b → ¬ (oB m.1 a b' ∧ oB m.1 b' a)) := ⟨_, fun _ _ _ => Iff.rfl⟩
  refine wC.gen fun Q hQ => wk_E hZ (by exact rfl) [(2, [(3, 38), (1, 0), (0, 0)], fun vs _ m' => (match vs with
    | [a] => J0 a m'
    | _ => False), fun vs _ m' => (match vs with
    | [a] => ((5 - a) * 10 + 9 : Int).toNat
    | _ => 0)), (12, [(3, 38), (1, 0), (1, 0)], fun vs _ m' => (match vs with
    | [a, b] => J1 a b m'
    | _ => False), fun vs _ m' => (match vs with
    | [a, b] => ((5 - a) * 10 + (5 - b) : Int).toNat
    | _ => 0))] rfl (fun hr hs => ⟨?_, ⟨?_, trivial⟩⟩) (fun hr hs => ?_)
  · have e1 : ab_lo = -2147483648 := rfl
    have e2 : ab_hi = 2147483647 := rfl
    intro m2 hr2 hf2 a al ah hI
    have hI := (hJ0 _ _).mp hI
    obtain ⟨rfl, ⟨a0, a1⟩, hN⟩ := hI
    have hn : 1 ≤ m2.1 38 (0 : Nat) ∧ m2.1 38 (0 : Nat) ≤ 5 := hr2.1 38 0
    repeat' first | (intro h; exact absurd h (by decide)) | (intro h; exact absurd rfl h) | refine And.intro ?_ ?_ | intro _ | refine Or.inl ⟨by omega, by omega, ?_⟩ | refine Or.inr ?_ | exact trivial
    all_goals first
      | omega
      | (show ((5 - (_ : Int)) * 10 + 9 : Int).toNat < ((5 - (_ : Int)) * 10 + 9 : Int).toNat; omega)
      | exact hQ _ _ ⟨_, rfl, rfl, Or.inr ⟨rfl, fun ⟨p, q, ⟨p0, p1⟩, ⟨q0, q1⟩, ne, x, y⟩ => by rcases (show p < q ∨ q < p by omega) with e | e; (exact hN q q0 (by omega) p p0 e ⟨y, x⟩); (exact hN p p0 (by omega) q q0 e ⟨x, y⟩)⟩⟩
      | (show J1 _ _ _; refine (hJ1 _ _ _).mpr ⟨rfl, ⟨by omega, by omega⟩, ⟨by omega, by omega⟩, hN, fun b' c d => by omega⟩)
      | (show (_ : Nat) < (_ : Nat); dsimp only; omega)
  · have e1 : ab_lo = -2147483648 := rfl
    have e2 : ab_hi = 2147483647 := rfl
    intro m2 hr2 hf2 a al ah b bl bh hI
    have hI := (hJ1 _ _ _).mp hI
    obtain ⟨rfl, ⟨a0, a1⟩, ⟨b0, b1⟩, hN, hM⟩ := hI
    have hn : 1 ≤ m2.1 38 (0 : Nat) ∧ m2.1 38 (0 : Nat) ≤ 5 := hr2.1 38 0
    repeat' first | (intro h; exact absurd h (by decide)) | (intro h; exact absurd rfl h) | refine And.intro ?_ ?_ | intro _ | refine Or.inl ⟨by omega, by omega, ?_⟩ | refine Or.inr ?_ | exact trivial | (refine wk_use (k85b hZ _ _ _ (by omega) (by omega) (by omega) (by omega)) rfl rfl ?_; rintro - _ _ - - - ⟨_, rfl, rfl, ⟨rfl, hb1⟩ | ⟨rfl, hb0⟩⟩; refine Or.inl ⟨[], rfl, ?_⟩)
    all_goals first
      | omega
      | (show ((5 - (_ : Int)) * 10 + (5 - (_ : Int)) : Int).toNat < ((5 - (_ : Int)) * 10 + (5 - (_ : Int)) : Int).toNat; omega)
      | exact hQ _ _ ⟨_, rfl, rfl, Or.inl ⟨rfl, _, _, ⟨a0, a1⟩, ⟨b0, by omega⟩, by omega, by assumption, by assumption⟩⟩
      | (show J1 _ _ _; refine (hJ1 _ _ _).mpr ⟨rfl, ⟨a0, a1⟩, ⟨by omega, by omega⟩, hN, fun b' c d => by by_cases e : b' = b; (subst e; intro z; first | exact absurd z.1 (by assumption) | exact absurd z.2 (by assumption)); exact hM b' c (by omega)⟩)
      | (show J0 _ _; refine (hJ0 _ _).mpr ⟨rfl, ⟨by omega, by omega⟩, fun a' c d => by by_cases e : a' = a; (subst e; exact fun b' x y => hM b' x (by omega)); exact hN a' c (by omega)⟩)
      | (show (_ : Nat) < (_ : Nat); dsimp only; omega)
  · have e1 : ab_lo = -2147483648 := rfl
    have e2 : ab_hi = 2147483647 := rfl
    have hn : 1 ≤ m.1 38 (0 : Nat) ∧ m.1 38 (0 : Nat) ≤ 5 := hr.1 38 0
    repeat' first | (intro h; exact absurd h (by decide)) | (intro h; exact absurd rfl h) | refine And.intro ?_ ?_ | intro _ | refine Or.inl ⟨by omega, by omega, ?_⟩ | refine Or.inr ?_ | exact trivial
    all_goals first
      | omega
      | trivial
      | (show J0 _ _; refine (hJ0 _ _).mpr ⟨rfl, ⟨by omega, by omega⟩, fun a' c d => by omega⟩)

/-- the masks' common levels have a least one: the two levels have a join -/
theorem hL_join {f : Nat → Int → Int} (hA : oA f) (hn : f 38 (0 : Nat) ≤ 5) {a b x i : Int} (a0 : 0 ≤ a) (a1 : a < f 38 (0 : Nat)) (ex : x = (Int32.ofInt (f 39 a) &&& Int32.ofInt (f 39 b)).toInt) : hL f x i ↔ ltK (f 38 (0 : Nat)) (oB f) a b i := by
  have bt : ∀ k, bitI x k = (bitI (f 39 a) k && bitI (f 39 b) k) := fun k => by rw [ex, bitI_and]
  unfold hL ltK oB
  constructor
  · rintro ⟨h1, h2⟩
    rw [bt, Bool.and_eq_true] at h1
    exact ⟨h1.1, h1.2, fun e e0 e1 u v => h2 e e0 (by omega) (by rw [bt, u, v]; rfl)⟩
  · rintro ⟨h1, h2, h3⟩
    refine ⟨by rw [bt, h1, h2]; rfl, fun q q0 q1 z => ?_⟩
    rw [bt, Bool.and_eq_true] at z
    by_cases e : q < f 38 (0 : Nat)
    · exact h3 q q0 e z.1 z.2
    · rw [(hA a a0 a1).2 q (by omega) q1] at z
      cases z.1
theorem ltJ_sym {n p q : Int} {R : Int → Int → Prop} (h : ltJ n R p q) : ltJ n R q p := by
  obtain ⟨c, c0, c1, a, b, e⟩ := h
  exact ⟨c, c0, c1, b, a, fun e' e0 e1 x y => e e' e0 e1 y x⟩

set_option maxHeartbeats 8000000 in
set_option maxRecDepth 20000 in
theorem k91b {Z : sm_Z} (hZ : Z.2.2.2 = tb_N) (m : wk_M) (hA : oA m.1) : wC Z 3 91 [] [.inr (.inl 38)] m (fun r m' => ∃ v : Int, r = some (.inl v) ∧ m' = m ∧ ((v = 1 ∧ ∀ a', 0 ≤ a' → a' < m.1 38 (0 : Nat) → ∀ b', 0 ≤ b' → b' < a' → ltJ (m.1 38 (0 : Nat)) (oB m.1) a' b') ∨ (v = 0 ∧ ∃ a' b', (0 ≤ a' ∧ a' < m.1 38 (0 : Nat)) ∧ (0 ≤ b' ∧ b' < a') ∧ ¬ ltJ (m.1 38 (0 : Nat)) (oB m.1) a' b'))) := by
  obtain ⟨J0, hJ0⟩ : ∃ J : Int → wk_M → Prop, ∀ a m', J a m' ↔ (m' = m ∧ (0 ≤ a ∧ a ≤ m.1 38 (0 : Nat)) ∧ ∀ a', 0 ≤ a' → a' < a → ∀ b', 0 ≤ b' → b' < a' → ltJ (m.1 38 (0 : Nat)) (oB m.1) a' b') := ⟨_, fun _ _ => Iff.rfl⟩
  obtain ⟨J1, hJ1⟩ : ∃ J : Int →Int → wk_M → Prop, ∀ a b m', J a b m' ↔ (m' = m ∧ (0 ≤ a ∧ a < m.1 38 (0 : Nat)) ∧ (0 ≤ b ∧ b ≤ a) ∧ (∀ a', 0 ≤ a' → a' < a → ∀ b', 0 ≤ b' → b' < a' → ltJ (m.1 38 (0 : Nat)) (oB m.1) a' b') ∧ ∀ b', 0 ≤ b' → b' < b → ltJ (m.1 38 (0 : Nat)) (oB m.1) a b') := ⟨_, fun _ _ _ => Iff.rfl⟩
  refine wC.gen fun Q hQ => wk_E hZ (by exact rfl) [(2, [(3, 38), (1, 0), (0, 0)], fun vs _ m' => (match vs with
    | [a] => J0 a m'
    | _ => False), fun vs _ m' => (match vs with
    | [a] => ((5 - a) * 10 + 9 : Int).toNat
    | _ => 0)), (12, [(3, 38), (1, 0), (1, 0)], fun vs _ m' => (match vs with
    | [a, b] => J1 a b m'
    | _ => False), fun vs _ m' => (match vs with
    | [a, b] => ((5 - a) * 10 + (5 - b) : Int).toNat
    | _ => 0))] rfl (fun hr hs => ⟨?_, ⟨?_, trivial⟩⟩) (fun hr hs => ?_)
  · have e1 : ab_lo = -2147483648 := rfl
    have e2 : ab_hi = 2147483647 := rfl
    intro m2 hr2 hf2 a al ah hI
    have hI := (hJ0 _ _).mp hI
    obtain ⟨rfl, ⟨a0, a1⟩, hN⟩ := hI
    have hn : 1 ≤ m2.1 38 (0 : Nat) ∧ m2.1 38 (0 : Nat) ≤ 5 := hr2.1 38 0
    repeat' first | (intro h; exact absurd h (by decide)) | (intro h; exact absurd rfl h) | refine And.intro ?_ ?_ | intro _ | refine Or.inl ⟨by omega, by omega, ?_⟩ | refine Or.inr ?_ | exact trivial
    all_goals first
      | omega
      | (show ((5 - (_ : Int)) * 10 + 9 : Int).toNat < ((5 - (_ : Int)) * 10 + 9 : Int).toNat; omega)
      | exact hQ _ _ ⟨_, rfl, rfl, Or.inl ⟨rfl, fun a' c d => hN a' c (by omega)⟩⟩
      | (show J1 _ _ _; refine (hJ1 _ _ _).mpr ⟨rfl, ⟨by omega, by omega⟩, ⟨by omega, by omega⟩, hN, fun b' c d => by omega⟩)
      | (show (_ : Nat) < (_ : Nat); dsimp only; omega)
  · have e1 : ab_lo = -2147483648 := rfl
    have e2 : ab_hi = 2147483647 := rfl
    intro m2 hr2 hf2 a al ah b bl bh hI
    have hI := (hJ1 _ _ _).mp hI
    obtain ⟨rfl, ⟨a0, a1⟩, ⟨b0, b1⟩, hN, hM⟩ := hI
    have hn : 1 ≤ m2.1 38 (0 : Nat) ∧ m2.1 38 (0 : Nat) ≤ 5 := hr2.1 38 0
    have hAa := (hA a a0 a1).1
    have hAb : b < m2.1 38 (0 : Nat) → 0 ≤ m2.1 39 b ∧ m2.1 39 b ≤ 31 := fun q => (hA b b0 q).1
    have hoa : b < m2.1 38 (0 : Nat) → ∀ z, z = (Int32.ofInt (m2.1 39 a) &&& Int32.ofInt (m2.1 39 b)).toInt → (0 ≤ z ∧ z ≤ 31) ∧ ∀ i, hL m2.1 z i ↔ ltK (m2.1 38 (0 : Nat)) (oB m2.1) a b i := fun q z ez => ⟨by rw [ez]; exact ot_and hAa.1 hAa.2 (hAb q).1 (hAb q).2, fun i => hL_join hA hn.2 a0 a1 ez⟩
    repeat' first | (intro h; exact absurd h (by decide)) | (intro h; exact absurd rfl h) | refine And.intro ?_ ?_ | intro _ | refine Or.inl ⟨by omega, by omega, ?_⟩ | refine Or.inr ?_ | exact trivial | (refine wk_use (k92b hZ _ _ (hoa (by omega) _ (by assumption)).1.1 (hoa (by omega) _ (by assumption)).1.2 hA) rfl rfl ?_; rintro - _ _ - - - ⟨_, rfl, rfl, ⟨rfl, i, q0, q1, hh⟩ | ⟨rfl, hh⟩⟩; refine Or.inl ⟨[], rfl, ?_⟩)
    all_goals first
      | omega
      | (show ((5 - (_ : Int)) * 10 + (5 - (_ : Int)) : Int).toNat < ((5 - (_ : Int)) * 10 + (5 - (_ : Int)) : Int).toNat; omega)
      | exact hQ _ _ ⟨_, rfl, rfl, Or.inr ⟨rfl, a, b, ⟨a0, a1⟩, ⟨b0, by omega⟩, fun ⟨c, c0, c1, hc⟩ => hh c c0 c1 (((hoa (by omega) _ (by assumption)).2 c).mpr hc)⟩⟩
      | (show J1 _ _ _; refine (hJ1 _ _ _).mpr ⟨rfl, ⟨a0, a1⟩, ⟨by omega, by omega⟩, hN, fun b' c d => by by_cases e : b' = b; (subst e; exact ⟨i, q0, q1, ((hoa (by omega) _ (by assumption)).2 i).mp hh⟩); exact hM b' c (by omega)⟩)
      | (show J0 _ _; refine (hJ0 _ _).mpr ⟨rfl, ⟨by omega, by omega⟩, fun a' c d => by by_cases e : a' = a; (subst e; exact fun b' x y => hM b' x (by omega)); exact hN a' c (by omega)⟩)
      | (show (_ : Nat) < (_ : Nat); dsimp only; omega)
  · have e1 : ab_lo = -2147483648 := rfl
    have e2 : ab_hi = 2147483647 := rfl
    have hn : 1 ≤ m.1 38 (0 : Nat) ∧ m.1 38 (0 : Nat) ≤ 5 := hr.1 38 0
    repeat' first | (intro h; exact absurd h (by decide)) | (intro h; exact absurd rfl h) | refine And.intro ?_ ?_ | intro _ | refine Or.inl ⟨by omega, by omega, ?_⟩ | refine Or.inr ?_ | exact trivial
    all_goals first
      | omega
      | trivial
      | (show J0 _ _; refine (hJ0 _ _).mpr ⟨rfl, ⟨by omega, by omega⟩, fun a' c d => by omega⟩)

theorem ltAJ_of {n : Int} {R : Int → Int → Prop} (hr : ∀ p, 0 ≤ p → p < n → R p p) (h : ∀ a, 0 ≤ a → a < n → ∀ b, 0 ≤ b → b < a → ltJ n R a b) : ltAJ n R := fun p q p0 p1 q0 q1 => by
  rcases Int.lt_trichotomy p q with e | e | e
  · exact ltJ_sym (h q q0 q1 p p0 e)
  · subst e
    exact ⟨p, p0, p1, hr p p0 p1, hr p p0 p1, fun _ _ _ x _ => x⟩
  · exact h p p0 p1 q q0 e

set_option maxHeartbeats 8000000 in
set_option maxRecDepth 20000 in
theorem k89b {Z : sm_Z} (hZ : Z.2.2.2 = tb_N) (m : wk_M) (hA : oA m.1) (hr' : ∀ p, 0 ≤ p → p < m.1 38 (0 : Nat) → oB m.1 p p) : wC Z 4 89 [] [.inr (.inl 38)] m (fun r m' => ∃ v : Int, r = some (.inl v) ∧ m' = m ∧ ((0 ≤ v ∧ v ≤ 3) ∧ ltA (m.1 38 (0 : Nat)) (oB m.1) v)) := by
  refine wC.gen fun Q hQ => wk_E hZ (by exact rfl) [] rfl (fun _ _ => trivial) fun hr hs => ?_
  have e1 : ab_lo = -2147483648 := rfl
  have e2 : ab_hi = 2147483647 := rfl
  repeat' first | (intro h; exact absurd h (by decide)) | (intro h; exact absurd rfl h) | refine And.intro ?_ ?_ | intro _ | refine Or.inl ⟨by omega, by omega, ?_⟩ | refine Or.inr ?_ | exact trivial | (refine wk_use (k90b hZ _) rfl rfl ?_; rintro - _ _ - - - ⟨_, rfl, rfl, ⟨rfl, hc⟩ | ⟨rfl, hc⟩⟩; refine Or.inl ⟨[], rfl, ?_⟩) | (refine wk_use (k91b hZ _ hA) rfl rfl ?_; rintro - _ _ - - - ⟨_, rfl, rfl, ⟨rfl, hj⟩ | ⟨rfl, hj⟩⟩; refine Or.inl ⟨[], rfl, ?_⟩) | (refine wk_use (k93b hZ _ hA) rfl rfl ?_; rintro - _ _ - - - ⟨_, rfl, rfl, ⟨_, _⟩, hf⟩; refine Or.inl ⟨[], rfl, ?_⟩)
  all_goals first | omega | exact hQ _ _ ⟨_, rfl, rfl, ⟨by omega, by omega⟩, Or.inl ⟨rfl, hc⟩⟩ | exact hQ _ _ ⟨_, rfl, rfl, ⟨by omega, by omega⟩, Or.inr (Or.inl ⟨rfl, hc, fun z => by obtain ⟨a, b, ⟨a0, a1⟩, ⟨b0, b1⟩, hn⟩ := hj; exact hn (z a b a0 a1 b0 (by omega))⟩)⟩ | exact hQ _ _ ⟨_, rfl, rfl, ⟨by omega, by omega⟩, Or.inr (Or.inr (Or.inl ⟨rfl, hc, ltAJ_of hr' hj, ltF_cast (by omega) hf⟩))⟩ | exact hQ _ _ ⟨_, rfl, rfl, ⟨by omega, by omega⟩, Or.inr (Or.inr (Or.inr ⟨rfl, hc, ltAJ_of hr' hj, _, by omega, hf⟩))⟩
