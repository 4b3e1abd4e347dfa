/-! the class's Order: what tell and reset do -/
def oN (f : Nat → Int → Int) (a b p q : Int) : Prop := oB f p q ∨ (oB f p a ∧ oB f b q)
theorem tl_y {m m2 : wk_M} {x y i : Int} (y0 : 0 ≤ y) (hd : ∀ p q, 0 ≤ p → p < i → 0 ≤ q → q ≤ 4 → (oB m2.1 p q ↔ oN m.1 x y p q)) (hu : ∀ p, i ≤ p → m2.1 39 p = m.1 39 p) : ∀ q, 0 ≤ q → q ≤ 4 → (oB m2.1 y q ↔ oB m.1 y q) := by
  intro q q0 q1
  by_cases e : y < i
  · refine (hd y q y0 e q0 q1).trans ⟨fun z => ?_, fun z => Or.inl z⟩
    rcases z with z | z
    · exact z
    · exact z.2
  · unfold oB
    rw [hu y (by omega)]
theorem tl_yes {m m2 : wk_M} {x y i z : Int} (i0 : 0 ≤ i) (i1 : i < m2.1 38 (0 : Nat)) (y0 : 0 ≤ y) (y1 : y < m2.1 38 (0 : Nat)) (hA2 : oA m2.1) (hd : ∀ p q, 0 ≤ p → p < i → 0 ≤ q → q ≤ 4 → (oB m2.1 p q ↔ oN m.1 x y p q)) (hu : ∀ p, i ≤ p → m2.1 39 p = m.1 39 p) (hb : oB m2.1 i x) (ez : z = (Int32.ofInt (m2.1 39 i) ||| Int32.ofInt (m2.1 39 y)).toInt) : oA (wk_u m2 39 i z).1 ∧ (∀ p q, 0 ≤ p → p < i + 1 → 0 ≤ q → q ≤ 4 → (oB (wk_u m2 39 i z).1 p q ↔ oN m.1 x y p q)) ∧ ∀ p, i + 1 ≤ p → (wk_u m2 39 i z).1 39 p = m.1 39 p := by
  have hy := tl_y y0 hd hu
  have g39 : ∀ p, (wk_u m2 39 i z).1 39 p = if p = i then z else m2.1 39 p := by intro p; simp (decide := true) only [wk_u_at, wk_ul_1, and_self, and_true, true_and, and_false, false_and, if_true, if_false]
  have g38 : (wk_u m2 39 i z).1 38 (0 : Nat) = m2.1 38 (0 : Nat) := by simp (decide := true) only [wk_u_at, wk_ul_1, and_self, and_true, true_and, and_false, false_and, if_true, if_false]
  have bt : ∀ k, bitI z k = (bitI (m2.1 39 i) k || bitI (m2.1 39 y) k) := fun k => by rw [ez, bitI_or]
  refine ⟨fun p p0 p1 => ?_, fun p q p0 p1 q0 q1 => ?_, fun p hp => ?_⟩
  · rw [g38] at p1
    rw [g39, g38]
    by_cases e : p = i
    · rw [if_pos e]
      refine ⟨by rw [ez]; exact ot_or (hA2 i i0 i1).1.1 (hA2 i i0 i1).1.2 (hA2 y y0 y1).1.1 (hA2 y y0 y1).1.2, fun k k0 k1 => ?_⟩
      rw [bt, (hA2 i i0 i1).2 k k0 k1, (hA2 y y0 y1).2 k k0 k1]
      rfl
    · rw [if_neg e]
      exact hA2 p p0 p1
  · show bitI ((wk_u m2 39 i z).1 39 p) q = true ↔ oN m.1 x y p q
    rw [g39]
    by_cases e : p = i
    · subst e
      rw [if_pos rfl, bt, Bool.or_eq_true]
      have h1 : (bitI (m2.1 39 p) q = true) ↔ oB m.1 p q := by
        unfold oB
        rw [hu p (Int.le_refl _)]
      have h2 := hy q q0 q1
      have h3 : oB m.1 p x := by
        have hb' := hb
        unfold oB at hb' ⊢
        rw [← hu p (Int.le_refl _)]
        exact hb'
      exact ⟨fun s => s.elim (fun s => Or.inl (h1.mp s)) (fun s => Or.inr ⟨h3, h2.mp s⟩), fun s => s.elim (fun s => Or.inl (h1.mpr s)) (fun s => Or.inr (h2.mpr s.2))⟩
    · rw [if_neg e]
      exact hd p q p0 (by omega) q0 q1
  · rw [g39, if_neg (show ¬ p = i by omega)]
    exact hu p (by omega)
theorem tl_no {m m2 : wk_M} {x y i : Int} (hd : ∀ p q, 0 ≤ p → p < i → 0 ≤ q → q ≤ 4 → (oB m2.1 p q ↔ oN m.1 x y p q)) (hu : ∀ p, i ≤ p → m2.1 39 p = m.1 39 p) (hb : ¬ oB m2.1 i x) : (∀ p q, 0 ≤ p → p < i + 1 → 0 ≤ q → q ≤ 4 → (oB m2.1 p q ↔ oN m.1 x y p q)) ∧ ∀ p, i + 1 ≤ p → m2.1 39 p = m.1 39 p := by
  refine ⟨fun p q p0 p1 q0 q1 => ?_, fun p hp => hu p (by omega)⟩
  by_cases e : p = i
  · subst e
    have e' : ∀ q, oB m2.1 p q ↔ oB m.1 p q := fun q => by
      unfold oB
      rw [hu p (Int.le_refl _)]
    refine (e' q).trans ⟨fun s => Or.inl s, fun s => ?_⟩
    rcases s with s | s
    · exact s
    · exact absurd ((e' x).mpr s.1) hb
  · exact hd p q p0 (by omega) q0 q1

set_option maxHeartbeats 8000000 in
set_option maxRecDepth 20000 in
theorem k84b {Z : sm_Z} (hZ : Z.2.2.2 = tb_N) (m : wk_M) (a b : Int) (a0 : 0 ≤ a) (a1 : a ≤ 4) (b0 : 0 ≤ b) (b1 : b < m.1 38 (0 : Nat)) (hA : oA m.1) : wC Z 3 84 [39] [.inr (.inl 38), .inl a, .inl b] m (fun r m' => r = none ∧ oA m'.1 ∧ ∀ p q, 0 ≤ p → p < m.1 38 (0 : Nat) → 0 ≤ q → q ≤ 4 → (oB m'.1 p q ↔ oN m.1 a b p q)) := by
  obtain ⟨J0, hJ0⟩ : ∃ J : Int →Int →Int → wk_M → Prop, ∀ x y i m', J x y i m' ↔ ((x = a ∧ y = b ∧ 0 ≤ i ∧ i ≤ m.1 38 (0 : Nat)) ∧ oA m'.1 ∧ (∀ p q, 0 ≤ p → p < i → 0 ≤ q → q ≤ 4 → (oB m'.1 p q ↔ oN m.1 a b p q)) ∧ ∀ p, i ≤ p → m'.1 39 p = m.1 39 p) := ⟨_, fun _ _ _ _ => Iff.rfl⟩
  refine wC.gen fun Q hQ => wk_E hZ (by exact rfl) [(2, [(3, 38), (1, 0), (1, 0), (1, 0)], fun vs _ m' => (match vs with
    | [x, y, i] => J0 x y i m'
    | _ => False), fun vs _ m' => (match vs with
    | [x, y, i] => (5 - i : Int).toNat
    | _ => 0))] rfl (fun hr hs => ⟨?_, trivial⟩) (fun hr hs => ?_)
  · have e1 : ab_lo = -2147483648 := rfl
    have e2 : ab_hi = 2147483647 := rfl
    intro m2 hr2 hf2 x xl xh y yl yh i il ih hI
    have hI := (hJ0 _ _ _ _).mp hI
    obtain ⟨⟨ex, ey, i0, i1⟩, hA2, hd, hu⟩ := hI
    have e38 := congrFun (hf2 38 (by decide)).1 ((0 : Nat) : Int)
    have hn : 1 ≤ m2.1 38 (0 : Nat) ∧ m2.1 38 (0 : Nat) ≤ 5 := hr2.1 38 0
    subst ex ey
    repeat' first | (intro h; exact absurd h (by decide)) | (intro h; exact absurd rfl h) | refine And.intro ?_ ?_ | intro _ | refine Or.inl ⟨by omega, by omega, ?_⟩ | refine Or.inr ?_ | exact trivial | (refine wk_use (k85b hZ _ _ _ (by omega) (by omega) (by omega) (by omega)) rfl rfl ?_; rintro - _ _ - - - ⟨_, rfl, rfl, ⟨rfl, hb⟩ | ⟨rfl, hb⟩⟩; refine Or.inl ⟨[], rfl, ?_⟩)
    all_goals first
      | omega
      | (show (5 - (_ : Int) : Int).toNat < (5 - (_ : Int) : Int).toNat; omega)
      | exact hQ _ _ ⟨rfl, hA2, fun p q p0 p1 q0 q1 => hd p q p0 (by omega) q0 q1⟩
      | (show J0 _ _ _ _; refine (hJ0 _ _ _ _).mpr ⟨⟨rfl, rfl, by omega, by omega⟩, hA2, tl_no hd hu hb⟩)
      | (show J0 _ _ _ _; refine (hJ0 _ _ _ _).mpr ⟨⟨rfl, rfl, by omega, by omega⟩, tl_yes i0 (by omega) b0 (by omega) hA2 hd hu hb (by assumption)⟩)
      | (show (_ : Nat) < (_ : Nat); dsimp only; omega)
  · have e1 : ab_lo = -2147483648 := rfl
    have e2 : ab_hi = 2147483647 := rfl
    have hn : 1 ≤ m.1 38 (0 : Nat) ∧ m.1 38 (0 : Nat) ≤ 5 := hr.1 38 0
    repeat' first | (intro h; exact absurd h (by decide)) | (intro h; exact absurd rfl h) | refine And.intro ?_ ?_ | intro _ | refine Or.inl ⟨by omega, by omega, ?_⟩ | refine Or.inr ?_ | exact trivial
    all_goals first
      | omega
      | trivial
      | (show J0 _ _ _ _; refine (hJ0 _ _ _ _).mpr ⟨⟨rfl, rfl, by omega, by omega⟩, hA, fun p q p0 p1 => by omega, fun p _ => rfl⟩)

def oS (f : Nat → Int → Int) (i : Int) : Prop := ∀ p, 0 ≤ p → p < i → (0 ≤ f 39 p ∧ f 39 p ≤ 31) ∧ ∀ k, 0 ≤ k → k ≤ 4 → (bitI (f 39 p) k = true ↔ k = p)
theorem oS_next {m2 : wk_M} {i z : Int} (i0 : 0 ≤ i) (i1 : i ≤ 4) (h : oS m2.1 i) (ez : z = (Int32.ofInt 1 <<< (Int32.ofInt i &&& 31)).toInt) : oS (wk_u m2 39 i z).1 (i + 1) := by
  have g39 : ∀ p, (wk_u m2 39 i z).1 39 p = if p = i then z else m2.1 39 p := by intro p; simp (decide := true) only [wk_u_at, wk_ul_1, and_self, and_true, true_and, and_false, false_and, if_true, if_false]
  intro p p0 p1
  rw [g39]
  by_cases e : p = i
  · rw [if_pos e]
    refine ⟨ot_one i0 i1 ez, fun k k0 k1 => ?_⟩
    rw [ez, bitI_shl i0 (by omega) k0 (by omega), e]
    exact decide_eq_true_iff
  · rw [if_neg e]
    exact h p p0 (by omega)
theorem oS_fin {m2 m' : wk_M} {n : Int} (e39 : m'.1 39 = m2.1 39) (e38 : m'.1 38 (0 : Nat) = n) (h : oS m2.1 n) : oA m'.1 ∧ ∀ p q, 0 ≤ p → p < n → 0 ≤ q → q ≤ 4 → (oB m'.1 p q ↔ p = q) := by
  refine ⟨fun p p0 p1 => ?_, fun p q p0 p1 q0 q1 => ?_⟩
  · rw [e38] at p1 ⊢
    rw [e39]
    refine ⟨(h p p0 p1).1, fun k k0 k1 => ?_⟩
    cases hc : bitI (m2.1 39 p) k with
    | false => rfl
    | true =>
      have := ((h p p0 p1).2 k (by omega) k1).mp hc
      omega
  · unfold oB
    rw [e39]
    exact ((h p p0 p1).2 q q0 q1).trans ⟨fun z => z.symm, fun z => z.symm⟩

set_option maxHeartbeats 8000000 in
set_option maxRecDepth 20000 in
theorem k81 {Z : sm_Z} (hZ : Z.2.2.2 = tb_N) (m : wk_M) (n : Int) (n0 : 1 ≤ n) (n1 : n ≤ 5) : wC Z 1 81 [38, 39, 40, 41] [.inr (.inl 38), .inl n] m (fun r m' => r = none ∧ m'.1 38 (0 : Nat) = n ∧ (oA m'.1 ∧ ∀ p q, 0 ≤ p → p < n → 0 ≤ q → q ≤ 4 → (oB m'.1 p q ↔ p = q)) ∧ ∀ k, 0 ≤ k → k ≤ 3 → m'.1 40 k = 0 ∧ m'.1 41 k = 0) := by
  obtain ⟨J0, hJ0⟩ : ∃ J : Int →Int → wk_M → Prop, ∀ x i m', J x i m' ↔ ((x = n ∧ 1 ≤ n ∧ n ≤ 5) ∧ (0 ≤ i ∧ i ≤ n) ∧ m'.1 38 (0 : Nat) = n ∧ oS m'.1 i) := ⟨_, fun _ _ _ => Iff.rfl⟩
  refine wC.gen fun Q hQ => wk_E hZ (by exact rfl) [(7, [(3, 38), (1, 0), (1, 0)], fun vs _ m' => (match vs with
    | [x, i] => J0 x i m'
    | _ => False), fun vs _ m' => (match vs with
    | [x, i] => (5 - i : Int).toNat
    | _ => 0))] rfl (fun hr hs => ⟨?_, trivial⟩) (fun hr hs => ?_)
  · have e1 : ab_lo = -2147483648 := rfl
    have e2 : ab_hi = 2147483647 := rfl
    intro m2 hr2 hf2 x xl xh i il ih hI
    have hI := (hJ0 _ _ _).mp hI
    obtain ⟨⟨ex, n0, n1⟩, ⟨i0, i1⟩, e38, hS⟩ := hI
    have hi : x ≤ i → i = n := fun q => by omega
    repeat' first | (intro h; exact absurd h (by decide)) | (intro h; exact absurd rfl h) | refine And.intro ?_ ?_ | intro _ | refine Or.inl ⟨by omega, by omega, ?_⟩ | refine Or.inr ?_ | exact trivial | (refine wk_use (wfI 40 4 0 _ rfl rfl (by decide) (by decide)) rfl rfl ?_; rintro - _ _ - hfr - ⟨rfl, z40⟩; have hp := congrFun (hfr 38 (by decide)).1 ((0 : Nat) : Int); (try simp (decide := true) only [wk_u_at, wk_ul_1, and_self, and_true, true_and, and_false, false_and, if_true, if_false] at hp); have f40 := hfr; refine Or.inr ?_) | (refine wk_use (wfI 41 4 0 _ rfl rfl (by decide) (by decide)) rfl rfl ?_; rintro - _ _ - hfr - ⟨rfl, z41⟩; have hp := congrFun (hfr 38 (by decide)).1 ((0 : Nat) : Int); (try simp (decide := true) only [wk_u_at, wk_ul_1, and_self, and_true, true_and, and_false, false_and, if_true, if_false] at hp); have f41 := hfr; refine Or.inr ?_)
    all_goals first
      | omega
      | (show (5 - (_ : Int) : Int).toNat < (5 - (_ : Int) : Int).toNat; omega)
      | exact hQ _ _ ⟨rfl, by omega, oS_fin (m2 := m2) ((f41 39 (by decide)).1.trans (f40 39 (by decide)).1) (by omega) (by rw [← hi (by omega)]; exact hS), fun k k0 k1 => ⟨by rw [(f41 40 (by decide)).1]; exact z40 k k0 (by omega), z41 k k0 (by omega)⟩⟩
      | (show J0 _ _ _; refine (hJ0 _ _ _).mpr ⟨⟨ex, n0, n1⟩, ⟨by omega, by omega⟩, e38, oS_next i0 (by omega) hS (by assumption)⟩)
  · have e1 : ab_lo = -2147483648 := rfl
    have e2 : ab_hi = 2147483647 := rfl
    repeat' first | (intro h; exact absurd h (by decide)) | (intro h; exact absurd rfl h) | refine And.intro ?_ ?_ | intro _ | refine Or.inl ⟨by omega, by omega, ?_⟩ | refine Or.inr ?_ | exact trivial
    all_goals first
      | omega
      | trivial
      | (show J0 _ _ _; refine (hJ0 _ _ _).mpr ⟨⟨rfl, by omega, by omega⟩, ⟨by omega, by omega⟩, by simp (decide := true) only [wk_u_at, wk_ul_1, and_self, and_true, true_and, and_false, false_and, if_true, if_false], fun p p0 p1 => by omega⟩)
