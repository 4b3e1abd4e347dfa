/-! the class's Ways, exactly -/
/-- the ways of the laid out program, as the class numbers them -/
def Sc (f : Nat → Int → Int) (i j : Int) : Prop := (f 2 i = 9 ∧ (j = i + 1 ∨ (f 7 i = -1 ∧ j = f 8 i) ∨ (¬ f 7 i = -1 ∧ j = f 7 i + 1))) ∨ (f 2 i = 11 ∧ (j = i + 1 ∨ j = f 8 i + 1)) ∨ (f 2 i = 10 ∧ j = f 8 (f 6 i)) ∨ (f 2 i = 12 ∧ ((f 2 (f 6 i) = 11 ∧ j = f 6 i) ∨ (¬ f 2 (f 6 i) = 11 ∧ j = i + 1))) ∨ (¬ f 2 i = 9 ∧ ¬ f 2 i = 10 ∧ ¬ f 2 i = 11 ∧ ¬ f 2 i = 12 ∧ ¬ f 2 i = 18 ∧ j = i + 1)
/-- all ways lead to 0 .. 32 -/
def nS : Int → Prop := fun _ => False
set_option maxHeartbeats 8000000 in
set_option maxRecDepth 20000 in
theorem k43x {Z : sm_Z} (hZ : Z.2.2.2 = tb_N) (m : wk_M) (y : Int64) (x : Int) (x0 : 0 ≤ x) (x1 : x ≤ 63) : wC Z 1 43 [] [.inr (.inr y), .inl x] m (fun r m' => ∃ v : Int, r = some (.inl v) ∧ m' = m ∧ ((v = 1 ∧ bitL y x = true) ∨ (v = 0 ∧ bitL y x = false))) := by
  refine wC.gen fun Q hQ => wk_E hZ (by exact rfl) [] rfl (fun _ _ => trivial) fun hr hs => ?_
  have e1 : ab_lo = -2147483648 := rfl
  have e2 : ab_hi = 2147483647 := rfl
  repeat' first | refine And.intro ?_ ?_ | intro _ | refine Or.inl ⟨by omega, by omega, ?_⟩ | refine Or.inr ?_ | exact trivial
  all_goals first
    | omega
    | exact hQ _ _ ⟨_, rfl, rfl, Or.inr ⟨rfl, (fX_has x0 x1 (by assumption)).mp (by omega)⟩⟩
    | exact hQ _ _ ⟨_, rfl, rfl, Or.inl ⟨rfl, by cases hc : bitL y x with | true => rfl | false => (have q := (fX_has x0 x1 (by assumption)).mpr hc; exfalso; omega)⟩⟩


theorem s38_9 {f : Nat → Int → Int} {i v : Int} (o : f 2 i = 9) (hv : (f 7 i = -1 ∧ v = f 8 i) ∨ (¬ f 7 i = -1 ∧ v = f 7 i + 1)) (i0 : 0 ≤ i) (i1 : i ≤ 31) (hS : ∀ j, Sc f i j → 0 ≤ j ∧ j ≤ 32) : ∀ j, fX ((Int64.ofNat 1 <<< ((Int32.ofInt (i + 1)).toInt64 &&& 63)) ||| (Int64.ofNat 1 <<< ((Int32.ofInt v).toInt64 &&& 63))) j ↔ Sc f i j := by
  have q := hS v (Or.inl ⟨o, Or.inr hv⟩)
  intro j
  rw [fX_two (by omega) (by omega) (by omega) (by omega)]
  constructor
  · rintro (z | z)
    · exact Or.inl ⟨o, Or.inl z⟩
    · refine Or.inl ⟨o, Or.inr ?_⟩
      rw [z]
      exact hv
  · rintro (⟨_, z⟩ | ⟨z, _⟩ | ⟨z, _⟩ | ⟨z, _⟩ | ⟨z, _⟩)
    · omega
    · omega
    · omega
    · omega
    · exact absurd o z
theorem s38_11 {f : Nat → Int → Int} {i : Int} (o : f 2 i = 11) (i0 : 0 ≤ i) (i1 : i ≤ 31) (hS : ∀ j, Sc f i j → 0 ≤ j ∧ j ≤ 32) : ∀ j, fX ((Int64.ofNat 1 <<< ((Int32.ofInt (i + 1)).toInt64 &&& 63)) ||| (Int64.ofNat 1 <<< ((Int32.ofInt (f 8 i + 1)).toInt64 &&& 63))) j ↔ Sc f i j := by
  have q := hS (f 8 i + 1) (Or.inr (Or.inl ⟨o, Or.inr rfl⟩))
  intro j
  rw [fX_two (by omega) (by omega) (by omega) (by omega)]
  constructor
  · exact fun z => Or.inr (Or.inl ⟨o, z⟩)
  · rintro (⟨z, _⟩ | ⟨_, z⟩ | ⟨z, _⟩ | ⟨z, _⟩ | ⟨_, _, z, _⟩)
    · omega
    · exact z
    · omega
    · omega
    · exact absurd o z
theorem s38_m {f : Nat → Int → Int} {i v : Int} (o : f 2 i = 10 ∨ f 2 i = 12) (hv : (f 2 i = 10 ∧ v = f 8 (f 6 i)) ∨ (¬ f 2 i = 10 ∧ f 2 (f 6 i) = 11 ∧ v = f 6 i) ∨ (¬ f 2 i = 10 ∧ ¬ f 2 (f 6 i) = 11 ∧ v = i + 1)) (hS : ∀ j, Sc f i j → 0 ≤ j ∧ j ≤ 32) : ∀ j, fX (Int64.ofNat 1 <<< ((Int32.ofInt v).toInt64 &&& 63)) j ↔ Sc f i j := by
  have e : ∀ j, Sc f i j ↔ j = v := by
    intro j
    constructor
    · rintro (⟨z, _⟩ | ⟨z, _⟩ | ⟨z, y⟩ | ⟨z, y⟩ | ⟨_, z, _, y, _⟩)
      · omega
      · omega
      · omega
      · omega
      · omega
    · intro z
      rw [z]
      rcases hv with ⟨a, b⟩ | ⟨a, b, c⟩ | ⟨a, b, c⟩
      · exact Or.inr (Or.inr (Or.inl ⟨a, b⟩))
      · exact Or.inr (Or.inr (Or.inr (Or.inl ⟨by omega, Or.inl ⟨b, c⟩⟩)))
      · exact Or.inr (Or.inr (Or.inr (Or.inl ⟨by omega, Or.inr ⟨b, c⟩⟩)))
  have q := hS v ((e v).mpr rfl)
  intro j
  rw [fX_one (by omega) (by omega), e]
theorem s38_18 {f : Nat → Int → Int} {i : Int} (o : f 2 i = 18) : ∀ j, fX (Int64.ofNat 0) j ↔ Sc f i j := by
  intro j
  refine ⟨fun z => absurd z fX_no, ?_⟩
  rintro (⟨z, _⟩ | ⟨z, _⟩ | ⟨z, _⟩ | ⟨z, _⟩ | ⟨_, _, _, _, z, _⟩)
  · omega
  · omega
  · omega
  · omega
  · exact absurd o z
theorem s38_p {f : Nat → Int → Int} {i : Int} (o : ¬ f 2 i = 9 ∧ ¬ f 2 i = 10 ∧ ¬ f 2 i = 11 ∧ ¬ f 2 i = 12 ∧ ¬ f 2 i = 18) (i0 : 0 ≤ i) (i1 : i ≤ 31) : ∀ j, fX (Int64.ofNat 1 <<< ((Int32.ofInt (i + 1)).toInt64 &&& 63)) j ↔ Sc f i j := by
  intro j
  rw [fX_one (by omega) (by omega)]
  constructor
  · exact fun z => Or.inr (Or.inr (Or.inr (Or.inr ⟨o.1, o.2.1, o.2.2.1, o.2.2.2.1, o.2.2.2.2, z⟩)))
  · rintro (⟨z, _⟩ | ⟨z, _⟩ | ⟨z, _⟩ | ⟨z, _⟩ | ⟨_, _, _, _, _, z⟩)
    · exact absurd z o.1
    · exact absurd z o.2.2.1
    · exact absurd z o.2.1
    · exact absurd z o.2.2.2.1
    · exact z

set_option maxHeartbeats 8000000 in
set_option maxRecDepth 20000 in
theorem k38x {Z : sm_Z} (hZ : Z.2.2.2 = tb_N) (m : wk_M) (i : Int) (i0 : 0 ≤ i) (i1 : i ≤ 31) (hc : i < m.1 1 (4 : Nat)) (hE : cEn m.1) (hS : ∀ j, Sc m.1 i j → 0 ≤ j ∧ j ≤ 32) : wC Z 2 38 [] [.inr (.inl 19), .inl i] m (fun r m' => ∃ y : Int64, r = some (.inr (.inr y)) ∧ m' = m ∧ ∀ j, fX y j ↔ Sc m.1 i j) := by
  refine wC.gen fun Q hQ => wk_E hZ (by exact rfl) [] rfl (fun _ _ => trivial) fun hr hs => ?_
  have e1 : ab_lo = -2147483648 := rfl
  have e2 : ab_hi = 2147483647 := rfl
  have he := hE i i0 hc
  repeat' first | refine And.intro ?_ ?_ | intro _ | refine Or.inl ⟨by omega, by omega, ?_⟩ | refine Or.inr ?_ | exact trivial | (refine wk_use (k39 hZ _ _ (by omega) (by omega)) rfl rfl ?_; rintro - _ _ - - - ⟨v, rfl, hm, hv⟩; refine Or.inl ⟨[], hm, ?_⟩; clear hm) | (refine wk_use (k40 hZ _ _ (by omega) (by omega) (by omega)) rfl rfl ?_; rintro - _ _ - - - ⟨v, rfl, hm, hv⟩; refine Or.inl ⟨[], hm, ?_⟩; clear hm)
  all_goals first
    | omega
    | (have o : m.1 2 i = 9 := by omega
       exact hQ _ _ ⟨_, rfl, rfl, s38_9 o hv i0 i1 hS⟩)
    | (have o : m.1 2 i = 11 := by omega
       exact hQ _ _ ⟨_, rfl, rfl, s38_11 o i0 i1 hS⟩)
    | (have o : m.1 2 i = 18 := by omega
       exact hQ _ _ ⟨_, rfl, rfl, s38_18 o⟩)
    | (have o : m.1 2 i = 10 ∨ m.1 2 i = 12 := by omega
       exact hQ _ _ ⟨_, rfl, rfl, s38_m o hv hS⟩)
    | exact hQ _ _ ⟨_, rfl, rfl, s38_p (by omega) i0 i1⟩


