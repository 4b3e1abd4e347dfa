/-! the reference: levels, check -/
def bP (f : Nat → Int → Int) : Prop := ∃ l, 0 ≤ l ∧ l < f 46 (34 : Nat) ∧ ∀ k, 0 ≤ k → k < f 46 (34 : Nat) → ¬ f 72 (5 * l + k) = 0
set_option maxHeartbeats 8000000 in
set_option maxRecDepth 20000 in
theorem k197 {Z : sm_Z} (hZ : Z.2.2.2 = tb_N) (m : wk_M) (x : Int) : wC Z 1 197 [] [.inr (.inl 46), .inl x] m (fun r m' => ∃ v : Int, r = some (.inl v) ∧ m' = m ∧ ((v = 1 ∧ 0 ≤ x ∧ x < m.1 46 (34 : Nat) ∧ m.1 46 (34 : Nat) ≤ 5) ∨ (v = 0 ∧ (x < 0 ∨ m.1 46 (34 : Nat) ≤ x)))) := by
  refine wC.gen fun Q hQ => wk_E hZ (by exact rfl) [] rfl (fun _ _ => trivial) fun hr hs => ?_
  have e1 : ab_lo = -2147483648 := rfl
  have e2 : ab_hi = 2147483647 := rfl
  repeat' first | refine And.intro ?_ ?_ | intro _ | refine Or.inl ⟨by omega, by omega, ?_⟩ | refine Or.inr ?_ | exact trivial
  all_goals first | omega | exact hQ _ _ ⟨_, rfl, rfl, by omega⟩

set_option maxHeartbeats 8000000 in
set_option maxRecDepth 20000 in
theorem k200x {Z : sm_Z} (hZ : Z.2.2.2 = tb_N) (m : wk_M) (p q : Int) (p0 : 0 ≤ p) (p1 : p ≤ 4) (q0 : 0 ≤ q) (q1 : q ≤ 4) : wC Z 1 200 [] [.inr (.inl 46), .inl p, .inl q] m (fun r m' => ∃ v : Int, r = some (.inl v) ∧ m' = m ∧ v = m.1 72 (5 * p + q)) := by
  refine wC.gen fun Q hQ => wk_E hZ (by exact rfl) [] rfl (fun _ _ => trivial) fun hr hs => ?_
  have e1 : ab_lo = -2147483648 := rfl
  have e2 : ab_hi = 2147483647 := rfl
  repeat' first | refine And.intro ?_ ?_ | intro _ | refine Or.inl ⟨by omega, by omega, ?_⟩ | refine Or.inr ?_ | exact trivial
  all_goals first | omega | exact hQ _ _ ⟨_, rfl, rfl, by omega⟩

set_option maxHeartbeats 8000000 in
set_option maxRecDepth 20000 in
theorem k195 {Z : sm_Z} (hZ : Z.2.2.2 = tb_N) (m : wk_M) (n : Int) : wC Z 1 195 [46, 72, 73, 74] [.inr (.inl 46), .inl n] m (fun r m' => ∃ v : Int, r = some (.inl v) ∧ ((v = 1 ∧ 1 ≤ n ∧ n ≤ 5) ∨ (v = 0 ∧ (n < 1 ∨ 5 < n))) ∧ (m'.1 46 (0 : Nat) = m.1 46 (0 : Nat) ∧ m'.1 46 (5 : Nat) = m.1 46 (5 : Nat) ∧ m'.1 46 (6 : Nat) = m.1 46 (6 : Nat))) := by
  obtain ⟨J0, hJ0⟩ : ∃ J : Int →Int → wk_M → Prop, ∀ x k m', J x k m' ↔ ((x = n ∧ 1 ≤ n ∧ n ≤ 5 ∧ 0 ≤ k ∧ k ≤ 25) ∧ (m'.1 46 (0 : Nat) = m.1 46 (0 : Nat) ∧ m'.1 46 (5 : Nat) = m.1 46 (5 : Nat) ∧ m'.1 46 (6 : Nat) = m.1 46 (6 : Nat))) := ⟨_, fun _ _ _ => Iff.rfl⟩
  obtain ⟨J1, hJ1⟩ : ∃ J : Int →Int → wk_M → Prop, ∀ x k m', J x k m' ↔ ((x = n ∧ 1 ≤ n ∧ n ≤ 5 ∧ 0 ≤ k ∧ k ≤ 4) ∧ (m'.1 46 (0 : Nat) = m.1 46 (0 : Nat) ∧ m'.1 46 (5 : Nat) = m.1 46 (5 : Nat) ∧ m'.1 46 (6 : Nat) = m.1 46 (6 : Nat))) := ⟨_, fun _ _ _ => Iff.rfl⟩
  refine wC.gen fun Q hQ => wk_E hZ (by exact rfl) [(19, [(3, 46), (1, 0), (1, 0)], fun vs _ m' => (match vs with
    | [x, k] => J0 x k m'
    | _ => False), fun vs _ m' => (match vs with
    | [x, k] => (1000 - k : Int).toNat
    | _ => 0)), (53, [(3, 46), (1, 0), (1, 0)], fun vs _ m' => (match vs with
    | [x, k] => J1 x k m'
    | _ => False), fun vs _ m' => (match vs with
    | [x, k] => (900 - k : Int).toNat
    | _ => 0))] rfl (fun hr hs => ⟨?_, ⟨?_, trivial⟩⟩) (fun hr hs => ?_)
  · have e1 : ab_lo = -2147483648 := rfl
    have e2 : ab_hi = 2147483647 := rfl
    intro m2 hr2 hf2 x xl xh k kl kh hI
    have hI := (hJ0 _ _ _).mp hI
    obtain ⟨⟨ex, n0, n1, k0, k1⟩, e0, e5, e6⟩ := hI
    repeat' first | (intro h; exact absurd h (by decide)) | (intro h; exact absurd rfl h) | refine And.intro ?_ ?_ | intro _ | refine Or.inl ⟨by omega, by omega, ?_⟩ | refine Or.inr ?_ | exact trivial
    all_goals first
      | omega
      | (show (1000 - (_ : Int) : Int).toNat < (1000 - (_ : Int) : Int).toNat; omega)
      | (show J0 _ _ _; refine (hJ0 _ _ _).mpr ⟨⟨ex, n0, n1, by omega, by omega⟩, e0, e5, e6⟩)
      | (show J1 _ _ _; refine (hJ1 _ _ _).mpr ⟨⟨ex, n0, n1, by omega, by omega⟩, e0, e5, e6⟩)
      | (show (_ : Nat) < (_ : Nat); dsimp only; omega)
  · have e1 : ab_lo = -2147483648 := rfl
    have e2 : ab_hi = 2147483647 := rfl
    intro m2 hr2 hf2 x xl xh k kl kh hI
    have hI := (hJ1 _ _ _).mp hI
    obtain ⟨⟨ex, n0, n1, k0, k1⟩, e0, e5, e6⟩ := hI
    repeat' first | (intro h; exact absurd h (by decide)) | (intro h; exact absurd rfl h) | refine And.intro ?_ ?_ | intro _ | refine Or.inl ⟨by omega, by omega, ?_⟩ | refine Or.inr ?_ | exact trivial
    all_goals first
      | omega
      | (show (900 - (_ : Int) : Int).toNat < (900 - (_ : Int) : Int).toNat; omega)
      | exact hQ _ _ ⟨_, rfl, by omega, e0, e5, e6⟩
      | (show J1 _ _ _; refine (hJ1 _ _ _).mpr ⟨⟨ex, n0, n1, by omega, by omega⟩, e0, e5, e6⟩)
      | (show (_ : Nat) < (_ : Nat); dsimp only; omega)
  · have e1 : ab_lo = -2147483648 := rfl
    have e2 : ab_hi = 2147483647 := rfl
    repeat' first | (intro h; exact absurd h (by decide)) | (intro h; exact absurd rfl h) | refine And.intro ?_ ?_ | intro _ | refine Or.inl ⟨by omega, by omega, ?_⟩ | refine Or.inr ?_ | exact trivial
    all_goals first
      | omega
      | trivial
      | exact hQ _ _ ⟨_, rfl, by omega, rfl, rfl, rfl⟩
      | (show J0 _ _ _; refine (hJ0 _ _ _).mpr ⟨⟨rfl, by omega, by omega, by omega, by omega⟩, ⟨by simp (decide := true) only [wk_u_at, wk_ul_1, and_self, and_true, true_and, and_false, false_and, if_true, if_false], by simp (decide := true) only [wk_u_at, wk_ul_1, and_self, and_true, true_and, and_false, false_and, if_true, if_false], by simp (decide := true) only [wk_u_at, wk_ul_1, and_self, and_true, true_and, and_false, false_and, if_true, if_false]⟩⟩)

set_option maxHeartbeats 8000000 in
set_option maxRecDepth 20000 in
theorem k196 {Z : sm_Z} (hZ : Z.2.2.2 = tb_N) (m : wk_M) (a b : Int) : wC Z 2 196 [72] [.inr (.inl 46), .inl a, .inl b] m (fun r m' => ∃ v : Int, r = some (.inl v)) := by
  obtain ⟨J0, hJ0⟩ : ∃ J : Int → wk_M → Prop, ∀ k m', J k m' ↔ (0 ≤ k ∧ k ≤ 5) := ⟨_, fun _ _ => Iff.rfl⟩
  obtain ⟨J1, hJ1⟩ : ∃ J : Int →Int → wk_M → Prop, ∀ k p m', J k p m' ↔ ((0 ≤ k ∧ k < 5) ∧ 0 ≤ p ∧ p ≤ 5) := ⟨_, fun _ _ _ => Iff.rfl⟩
  obtain ⟨J2, hJ2⟩ : ∃ J : Int →Int →Int → wk_M → Prop, ∀ k p q m', J k p q m' ↔ ((0 ≤ k ∧ k < 5) ∧ (0 ≤ p ∧ p < 5) ∧ 0 ≤ q ∧ q ≤ 5) := ⟨_, fun _ _ _ _ => Iff.rfl⟩
  refine wC.gen fun Q hQ => wk_E hZ (by exact rfl) [(31, [(3, 46), (0, 0), (0, 0), (1, 0), (0, 0), (0, 0)], fun vs _ m' => (match vs with
    | [k] => J0 k m'
    | _ => False), fun vs _ m' => (match vs with
    | [k] => ((5 - k) * 1000 + 999 : Int).toNat
    | _ => 0)), (42, [(3, 46), (0, 0), (0, 0), (1, 0), (1, 0), (0, 0)], fun vs _ m' => (match vs with
    | [k, p] => J1 k p m'
    | _ => False), fun vs _ m' => (match vs with
    | [k, p] => ((5 - k) * 1000 + (5 - p) * 100 + 99 : Int).toNat
    | _ => 0)), (54, [(3, 46), (0, 0), (0, 0), (1, 0), (1, 0), (1, 0)], fun vs _ m' => (match vs with
    | [k, p, q] => J2 k p q m'
    | _ => False), fun vs _ m' => (match vs with
    | [k, p, q] => ((5 - k) * 1000 + (5 - p) * 100 + (5 - q) : Int).toNat
    | _ => 0))] rfl (fun hr hs => ⟨?_, ⟨?_, ⟨?_, trivial⟩⟩⟩) (fun hr hs => ?_)
  · have e1 : ab_lo = -2147483648 := rfl
    have e2 : ab_hi = 2147483647 := rfl
    intro m2 hr2 hf2 k kl kh hI
    have hI := (hJ0 _ _).mp hI
    obtain ⟨k0, k1⟩ := hI
    repeat' first | (intro h; exact absurd h (by decide)) | (intro h; exact absurd rfl h) | refine And.intro ?_ ?_ | intro _ | refine Or.inl ⟨by omega, by omega, ?_⟩ | refine Or.inr ?_ | exact trivial
    all_goals first
      | omega
      | (show ((5 - (_ : Int)) * 1000 + 999 : Int).toNat < ((5 - (_ : Int)) * 1000 + 999 : Int).toNat; omega)
      | exact hQ _ _ ⟨_, rfl⟩
      | (show J1 _ _ _; refine (hJ1 _ _ _).mpr ⟨⟨by omega, by omega⟩, by omega, by omega⟩)
      | (show (_ : Nat) < (_ : Nat); dsimp only; omega)
  · have e1 : ab_lo = -2147483648 := rfl
    have e2 : ab_hi = 2147483647 := rfl
    intro m2 hr2 hf2 k kl kh p pl ph hI
    have hI := (hJ1 _ _ _).mp hI
    obtain ⟨⟨k0, k1⟩, p0, p1⟩ := hI
    repeat' first | (intro h; exact absurd h (by decide)) | (intro h; exact absurd rfl h) | refine And.intro ?_ ?_ | intro _ | refine Or.inl ⟨by omega, by omega, ?_⟩ | refine Or.inr ?_ | exact trivial
    all_goals first
      | omega
      | (show ((5 - (_ : Int)) * 1000 + (5 - (_ : Int)) * 100 + 99 : Int).toNat < ((5 - (_ : Int)) * 1000 + (5 - (_ : Int)) * 100 + 99 : Int).toNat; omega)
      | (show J0 _ _; refine (hJ0 _ _).mpr ⟨by omega, by omega⟩)
      | (show J2 _ _ _ _; refine (hJ2 _ _ _ _).mpr ⟨⟨by omega, by omega⟩, ⟨by omega, by omega⟩, by omega, by omega⟩)
      | (show (_ : Nat) < (_ : Nat); dsimp only; omega)
  · have e1 : ab_lo = -2147483648 := rfl
    have e2 : ab_hi = 2147483647 := rfl
    intro m2 hr2 hf2 k kl kh p pl ph q ql qh hI
    have hI := (hJ2 _ _ _ _).mp hI
    obtain ⟨⟨k0, k1⟩, ⟨p0, p1⟩, q0, q1⟩ := hI
    repeat' first | (intro h; exact absurd h (by decide)) | (intro h; exact absurd rfl h) | refine And.intro ?_ ?_ | intro _ | refine Or.inl ⟨by omega, by omega, ?_⟩ | refine Or.inr ?_ | exact trivial
    all_goals first
      | omega
      | (show ((5 - (_ : Int)) * 1000 + (5 - (_ : Int)) * 100 + (5 - (_ : Int)) : Int).toNat < ((5 - (_ : Int)) * 1000 + (5 - (_ : Int)) * 100 + (5 - (_ : Int)) : Int).toNat; omega)
      | (show J1 _ _ _; refine (hJ1 _ _ _).mpr ⟨⟨by omega, by omega⟩, by omega, by omega⟩)
      | (show J2 _ _ _ _; refine (hJ2 _ _ _ _).mpr ⟨⟨by omega, by omega⟩, ⟨by omega, by omega⟩, by omega, by omega⟩)
      | (show (_ : Nat) < (_ : Nat); dsimp only; omega)
  · have e1 : ab_lo = -2147483648 := rfl
    have e2 : ab_hi = 2147483647 := rfl
    repeat' first | (intro h; exact absurd h (by decide)) | (intro h; exact absurd rfl h) | refine And.intro ?_ ?_ | intro _ | refine Or.inl ⟨by omega, by omega, ?_⟩ | refine Or.inr ?_ | exact trivial | (refine wk_use (k197 hZ _ _) rfl rfl ?_; rintro - _ _ - - - ⟨_, rfl, rfl, ⟨rfl, _⟩ | ⟨rfl, _⟩⟩; refine Or.inl ⟨[], rfl, ?_⟩)
    all_goals first
      | omega
      | trivial
      | exact hQ _ _ ⟨_, rfl⟩
      | (show J0 _ _; refine (hJ0 _ _).mpr ⟨by omega, by omega⟩)

set_option maxHeartbeats 8000000 in
set_option maxRecDepth 20000 in
theorem k198 {Z : sm_Z} (hZ : Z.2.2.2 = tb_N) (m : wk_M) (b k l : Int) : wC Z 2 198 [73, 74] [.inr (.inl 46), .inl b, .inl k, .inl l] m (fun r m' => ∃ v : Int, r = some (.inl v)) := by
  refine wC.gen fun Q hQ => wk_E hZ (by exact rfl) [] rfl (fun _ _ => trivial) fun hr hs => ?_
  have e1 : ab_lo = -2147483648 := rfl
  have e2 : ab_hi = 2147483647 := rfl
  repeat' first | (intro h; exact absurd h (by decide)) | (intro h; exact absurd rfl h) | refine And.intro ?_ ?_ | intro _ | refine Or.inl ⟨by omega, by omega, ?_⟩ | refine Or.inr ?_ | exact trivial | (refine wk_use (k144 hZ _ _) rfl rfl ?_; rintro - _ _ - - - ⟨_, rfl, rfl, ⟨rfl, _⟩ | ⟨rfl, _⟩⟩; refine Or.inl ⟨[], rfl, ?_⟩) | (refine wk_use (k197 hZ _ _) rfl rfl ?_; rintro - _ _ - - - ⟨_, rfl, rfl, ⟨rfl, _⟩ | ⟨rfl, _⟩⟩; refine Or.inl ⟨[], rfl, ?_⟩)
  all_goals first | omega | exact hQ _ _ ⟨_, rfl⟩

set_option maxHeartbeats 8000000 in
set_option maxRecDepth 20000 in
theorem k202x {Z : sm_Z} (hZ : Z.2.2.2 = tb_N) (m : wk_M)  : wC Z 2 202 [] [.inr (.inl 46)] m (fun r m' => ∃ v : Int, r = some (.inl v) ∧ m' = m ∧ ((v = -1 ∧ ¬ bP m.1) ∨ ((0 ≤ v ∧ v ≤ 4) ∧ bP m.1))) := by
  obtain ⟨J0, hJ0⟩ : ∃ J : Int → wk_M → Prop, ∀ l m', J l m' ↔ (m' = m ∧ (0 ≤ l ∧ l ≤ m.1 46 (34 : Nat)) ∧ (∀ l', 0 ≤ l' → l' < l → ∃ k, 0 ≤ k ∧ k < m.1 46 (34 : Nat) ∧ m.1 72 (5 * l' + k) = 0)) := ⟨_, fun _ _ => Iff.rfl⟩
  obtain ⟨J1, hJ1⟩ : ∃ J : Int →Int →Int → wk_M → Prop, ∀ l g k m', J l g k m' ↔ (m' = m ∧ ((0 ≤ l ∧ l < m.1 46 (34 : Nat)) ∧ (0 ≤ g ∧ g ≤ 1) ∧ 0 ≤ k ∧ k ≤ m.1 46 (34 : Nat)) ∧ (∀ l', 0 ≤ l' → l' < l → ∃ k, 0 ≤ k ∧ k < m.1 46 (34 : Nat) ∧ m.1 72 (5 * l' + k) = 0) ∧ (g = 1 → ∀ k', 0 ≤ k' → k' < k → ¬ m.1 72 (5 * l + k') = 0) ∧ (g = 0 → ∃ k', 0 ≤ k' ∧ k' < m.1 46 (34 : Nat) ∧ m.1 72 (5 * l + k') = 0)) := ⟨_, fun _ _ _ _ => Iff.rfl⟩
  refine wC.gen fun Q hQ => wk_E hZ (by exact rfl) [(2, [(3, 46), (1, 0), (0, 0), (0, 0)], fun vs _ m' => (match vs with
    | [l] => J0 l m'
    | _ => False), fun vs _ m' => (match vs with
    | [l] => ((5 - l) * 100 + 99 : Int).toNat
    | _ => 0)), (14, [(3, 46), (1, 0), (1, 0), (1, 0)], fun vs _ m' => (match vs with
    | [l, g, k] => J1 l g k m'
    | _ => False), fun vs _ m' => (match vs with
    | [l, g, k] => ((5 - l) * 100 + (5 - k) : Int).toNat
    | _ => 0))] rfl (fun hr hs => ⟨?_, ⟨?_, trivial⟩⟩) (fun hr hs => ?_)
  · have e1 : ab_lo = -2147483648 := rfl
    have e2 : ab_hi = 2147483647 := rfl
    intro m2 hr2 hf2 l ll lh hI
    have hI := (hJ0 _ _).mp hI
    obtain ⟨rfl, ⟨l0, l1⟩, hn⟩ := hI
    have hv : 1 ≤ m2.1 46 (34 : Nat) ∧ m2.1 46 (34 : Nat) ≤ 5 := hr2.1 46 34
    repeat' first | (intro h; exact absurd h (by decide)) | (intro h; exact absurd rfl h) | (intro _; exfalso; omega) | refine And.intro ?_ ?_ | intro _ | refine Or.inl ⟨by omega, by omega, ?_⟩ | refine Or.inr ?_ | exact trivial | (refine wk_use (k200x hZ _ _ _ (by omega) (by omega) (by omega) (by omega)) rfl rfl ?_; rintro - _ _ - - - ⟨_, rfl, rfl, hz⟩; refine Or.inl ⟨[], rfl, ?_⟩)
    all_goals first
      | omega
      | (show ((5 - (_ : Int)) * 100 + 99 : Int).toNat < ((5 - (_ : Int)) * 100 + 99 : Int).toNat; omega)
      | exact hQ _ _ ⟨_, rfl, rfl, Or.inl ⟨rfl, fun ⟨l', a, b, c⟩ => by obtain ⟨k, k0, k1, k2⟩ := hn l' a (by omega); exact c k k0 k1 k2⟩⟩
      | (show J1 _ _ _ _; refine (hJ1 _ _ _ _).mpr ⟨rfl, ⟨⟨by omega, by omega⟩, ⟨by omega, by omega⟩, by omega, by omega⟩, hn, fun _ k' a b => by omega, fun z => by omega⟩)
      | (show (_ : Nat) < (_ : Nat); dsimp only; omega)
  · have e1 : ab_lo = -2147483648 := rfl
    have e2 : ab_hi = 2147483647 := rfl
    intro m2 hr2 hf2 l ll lh g gl gh k kl kh hI
    have hI := (hJ1 _ _ _ _).mp hI
    obtain ⟨rfl, ⟨⟨l0, l1⟩, ⟨g0, g1⟩, k0, k1⟩, hn, h1, h0⟩ := hI
    have hv : 1 ≤ m2.1 46 (34 : Nat) ∧ m2.1 46 (34 : Nat) ≤ 5 := hr2.1 46 34
    repeat' first | (intro h; exact absurd h (by decide)) | (intro h; exact absurd rfl h) | (intro _; exfalso; omega) | refine And.intro ?_ ?_ | intro _ | refine Or.inl ⟨by omega, by omega, ?_⟩ | refine Or.inr ?_ | exact trivial | (refine wk_use (k200x hZ _ _ _ (by omega) (by omega) (by omega) (by omega)) rfl rfl ?_; rintro - _ _ - - - ⟨_, rfl, rfl, hz⟩; refine Or.inl ⟨[], rfl, ?_⟩)
    all_goals first
      | omega
      | (show ((5 - (_ : Int)) * 100 + (5 - (_ : Int)) : Int).toNat < ((5 - (_ : Int)) * 100 + (5 - (_ : Int)) : Int).toNat; omega)
      | exact hQ _ _ ⟨_, rfl, rfl, Or.inr ⟨⟨by omega, by omega⟩, _, l0, l1, fun k' a b => h1 (by omega) k' a (by omega)⟩⟩
      | (show J0 _ _; refine (hJ0 _ _).mpr ⟨rfl, ⟨by omega, by omega⟩, fun l' a b => by by_cases e : l' = l; (rw [e]; exact h0 (by omega)); exact hn l' a (by omega)⟩)
      | (show J1 _ _ _ _; refine (hJ1 _ _ _ _).mpr ⟨rfl, ⟨⟨by omega, by omega⟩, ⟨by omega, by omega⟩, by omega, by omega⟩, hn, fun _ k' a b => by by_cases e : k' = k; (clear h0 h1 hn; rw [e]; omega); exact h1 (by clear h0; omega) k' a (by clear h0; omega), fun z => by clear h0; omega⟩)
      | (show J1 _ _ _ _; refine (hJ1 _ _ _ _).mpr ⟨rfl, ⟨⟨by omega, by omega⟩, ⟨by omega, by omega⟩, by omega, by omega⟩, hn, fun z => by omega, fun _ => h0 (by omega)⟩)
      | (show J1 _ _ _ _; refine (hJ1 _ _ _ _).mpr ⟨rfl, ⟨⟨by omega, by omega⟩, ⟨by omega, by omega⟩, by omega, by omega⟩, hn, fun z => by omega, fun _ => ⟨k, by omega, by omega, by omega⟩⟩)
      | (show (_ : Nat) < (_ : Nat); dsimp only; omega)
  · have e1 : ab_lo = -2147483648 := rfl
    have e2 : ab_hi = 2147483647 := rfl
    repeat' first | (intro h; exact absurd h (by decide)) | (intro h; exact absurd rfl h) | (intro _; exfalso; omega) | refine And.intro ?_ ?_ | intro _ | refine Or.inl ⟨by omega, by omega, ?_⟩ | refine Or.inr ?_ | exact trivial
    all_goals first
      | omega
      | trivial
      | (show J0 _ _; refine (hJ0 _ _).mpr ⟨rfl, ⟨by omega, by have hv : 1 ≤ m.1 46 (34 : Nat) ∧ m.1 46 (34 : Nat) ≤ 5 := hr.1 46 34; omega⟩, fun l' a b => by omega⟩)

set_option maxHeartbeats 8000000 in
set_option maxRecDepth 20000 in
theorem k199x {Z : sm_Z} (hZ : Z.2.2.2 = tb_N) (m : wk_M)  : wC Z 3 199 [] [.inr (.inl 46)] m (fun r m' => ∃ v : Int, r = some (.inl v) ∧ m' = m ∧ ((0 ≤ v ∧ v ≤ 3) ∧ (v = 0 → bP m.1))) := by
  obtain ⟨J0, hJ0⟩ : ∃ J : Int →Int → wk_M → Prop, ∀ g p m', J g p m' ↔ (m' = m ∧ 0 ≤ p ∧ p ≤ 5) := ⟨_, fun _ _ _ => Iff.rfl⟩
  obtain ⟨J1, hJ1⟩ : ∃ J : Int →Int →Int → wk_M → Prop, ∀ g p q m', J g p q m' ↔ (m' = m ∧ (0 ≤ p ∧ p < 5) ∧ 0 ≤ q ∧ q ≤ 5) := ⟨_, fun _ _ _ _ => Iff.rfl⟩
  obtain ⟨J2, hJ2⟩ : ∃ J : Int →Int →Int →Int →Int → wk_M → Prop, ∀ g p q a c m', J g p q a c m' ↔ (m' = m ∧ (0 ≤ p ∧ p < 5) ∧ (0 ≤ q ∧ q < 5) ∧ 0 ≤ c ∧ c ≤ 5) := ⟨_, fun _ _ _ _ _ _ => Iff.rfl⟩
  refine wC.gen fun Q hQ => wk_E hZ (by exact rfl) [(4, [(3, 46), (1, 0), (1, 0), (0, 0), (0, 0), (0, 0)], fun vs _ m' => (match vs with
    | [g, p] => J0 g p m'
    | _ => False), fun vs _ m' => (match vs with
    | [g, p] => ((5 - p) * 10000 + 9999 : Int).toNat
    | _ => 0)), (14, [(3, 46), (1, 0), (1, 0), (1, 0), (0, 0), (0, 0)], fun vs _ m' => (match vs with
    | [g, p, q] => J1 g p q m'
    | _ => False), fun vs _ m' => (match vs with
    | [g, p, q] => ((5 - p) * 10000 + (5 - q) * 100 + 99 : Int).toNat
    | _ => 0)), (53, [(3, 46), (1, 0), (1, 0), (1, 0), (1, 0), (1, 0)], fun vs _ m' => (match vs with
    | [g, p, q, a, c] => J2 g p q a c m'
    | _ => False), fun vs _ m' => (match vs with
    | [g, p, q, a, c] => ((5 - p) * 10000 + (5 - q) * 100 + (5 - c) : Int).toNat
    | _ => 0))] rfl (fun hr hs => ⟨?_, ⟨?_, ⟨?_, trivial⟩⟩⟩) (fun hr hs => ?_)
  · have e1 : ab_lo = -2147483648 := rfl
    have e2 : ab_hi = 2147483647 := rfl
    intro m2 hr2 hf2 g gl gh p pl ph hI
    have hI := (hJ0 _ _ _).mp hI
    obtain ⟨rfl, p0, p1⟩ := hI
    repeat' first | (intro h; exact absurd h (by decide)) | (intro h; exact absurd rfl h) | refine And.intro ?_ ?_ | intro _ | refine Or.inl ⟨by omega, by omega, ?_⟩ | refine Or.inr ?_ | exact trivial | (refine wk_use (k200x hZ _ _ _ (by omega) (by omega) (by omega) (by omega)) rfl rfl ?_; rintro - _ _ - - - ⟨_, rfl, rfl, hz⟩; refine Or.inl ⟨[], rfl, ?_⟩) | (refine wk_use (k201 hZ _ _ (by omega) (by omega) _ (by omega) (by omega) _ (by omega) (by omega)) rfl rfl ?_; rintro - _ _ - - - ⟨_, rfl, rfl, _, _⟩; refine Or.inl ⟨[], rfl, ?_⟩) | (refine wk_use (k202x hZ _) rfl rfl ?_; rintro - _ _ - - - ⟨_, rfl, rfl, ⟨rfl, hb⟩ | ⟨_, hb⟩⟩; refine Or.inl ⟨[], rfl, ?_⟩)
    all_goals first
      | omega
      | (show ((5 - (_ : Int)) * 10000 + 9999 : Int).toNat < ((5 - (_ : Int)) * 10000 + 9999 : Int).toNat; omega)
      | exact hQ _ _ ⟨_, rfl, rfl, ⟨by omega, by omega⟩, fun _ => hb⟩
      | exact hQ _ _ ⟨_, rfl, rfl, ⟨by omega, by omega⟩, fun z => by omega⟩
      | (show J1 _ _ _ _; refine (hJ1 _ _ _ _).mpr ⟨rfl, ⟨by omega, by omega⟩, by omega, by omega⟩)
      | (show (_ : Nat) < (_ : Nat); dsimp only; omega)
  · have e1 : ab_lo = -2147483648 := rfl
    have e2 : ab_hi = 2147483647 := rfl
    intro m2 hr2 hf2 g gl gh p pl ph q ql qh hI
    have hI := (hJ1 _ _ _ _).mp hI
    obtain ⟨rfl, ⟨p0, p1⟩, q0, q1⟩ := hI
    repeat' first | (intro h; exact absurd h (by decide)) | (intro h; exact absurd rfl h) | refine And.intro ?_ ?_ | intro _ | refine Or.inl ⟨by omega, by omega, ?_⟩ | refine Or.inr ?_ | exact trivial | (refine wk_use (k200x hZ _ _ _ (by omega) (by omega) (by omega) (by omega)) rfl rfl ?_; rintro - _ _ - - - ⟨_, rfl, rfl, hz⟩; refine Or.inl ⟨[], rfl, ?_⟩) | (refine wk_use (k201 hZ _ _ (by omega) (by omega) _ (by omega) (by omega) _ (by omega) (by omega)) rfl rfl ?_; rintro - _ _ - - - ⟨_, rfl, rfl, _, _⟩; refine Or.inl ⟨[], rfl, ?_⟩) | (refine wk_use (k202x hZ _) rfl rfl ?_; rintro - _ _ - - - ⟨_, rfl, rfl, ⟨rfl, hb⟩ | ⟨_, hb⟩⟩; refine Or.inl ⟨[], rfl, ?_⟩)
    all_goals first
      | omega
      | (show ((5 - (_ : Int)) * 10000 + (5 - (_ : Int)) * 100 + 99 : Int).toNat < ((5 - (_ : Int)) * 10000 + (5 - (_ : Int)) * 100 + 99 : Int).toNat; omega)
      | exact hQ _ _ ⟨_, rfl, rfl, ⟨by omega, by omega⟩, fun z => by omega⟩
      | (show J0 _ _ _; refine (hJ0 _ _ _).mpr ⟨rfl, by omega, by omega⟩)
      | (show J2 _ _ _ _ _ _; refine (hJ2 _ _ _ _ _ _).mpr ⟨rfl, ⟨by omega, by omega⟩, ⟨by omega, by omega⟩, by omega, by omega⟩)
      | (show (_ : Nat) < (_ : Nat); dsimp only; omega)
  · have e1 : ab_lo = -2147483648 := rfl
    have e2 : ab_hi = 2147483647 := rfl
    intro m2 hr2 hf2 g gl gh p pl ph q ql qh a al ah c cl ch hI
    have hI := (hJ2 _ _ _ _ _ _).mp hI
    obtain ⟨rfl, ⟨p0, p1⟩, ⟨q0, q1⟩, c0, c1⟩ := hI
    repeat' first | (intro h; exact absurd h (by decide)) | (intro h; exact absurd rfl h) | refine And.intro ?_ ?_ | intro _ | refine Or.inl ⟨by omega, by omega, ?_⟩ | refine Or.inr ?_ | exact trivial | (refine wk_use (k200x hZ _ _ _ (by omega) (by omega) (by omega) (by omega)) rfl rfl ?_; rintro - _ _ - - - ⟨_, rfl, rfl, hz⟩; refine Or.inl ⟨[], rfl, ?_⟩) | (refine wk_use (k201 hZ _ _ (by omega) (by omega) _ (by omega) (by omega) _ (by omega) (by omega)) rfl rfl ?_; rintro - _ _ - - - ⟨_, rfl, rfl, _, _⟩; refine Or.inl ⟨[], rfl, ?_⟩) | (refine wk_use (k202x hZ _) rfl rfl ?_; rintro - _ _ - - - ⟨_, rfl, rfl, ⟨rfl, hb⟩ | ⟨_, hb⟩⟩; refine Or.inl ⟨[], rfl, ?_⟩)
    all_goals first
      | omega
      | (show ((5 - (_ : Int)) * 10000 + (5 - (_ : Int)) * 100 + (5 - (_ : Int)) : Int).toNat < ((5 - (_ : Int)) * 10000 + (5 - (_ : Int)) * 100 + (5 - (_ : Int)) : Int).toNat; omega)
      | (show J1 _ _ _ _; refine (hJ1 _ _ _ _).mpr ⟨rfl, ⟨by omega, by omega⟩, by omega, by omega⟩)
      | (show J2 _ _ _ _ _ _; refine (hJ2 _ _ _ _ _ _).mpr ⟨rfl, ⟨by omega, by omega⟩, ⟨by omega, by omega⟩, by omega, by omega⟩)
      | (show (_ : Nat) < (_ : Nat); dsimp only; omega)
  · have e1 : ab_lo = -2147483648 := rfl
    have e2 : ab_hi = 2147483647 := rfl
    repeat' first | (intro h; exact absurd h (by decide)) | (intro h; exact absurd rfl h) | refine And.intro ?_ ?_ | intro _ | refine Or.inl ⟨by omega, by omega, ?_⟩ | refine Or.inr ?_ | exact trivial
    all_goals first
      | omega
      | trivial
      | (show J0 _ _ _; refine (hJ0 _ _ _).mpr ⟨rfl, by omega, by omega⟩)

theorem bP_fr {m' m : wk_M} (h : wk_fr [63] m' m) (hb : bP m.1) : bP m'.1 := by
  unfold bP
  rw [(h 46 (by decide)).1, (h 72 (by decide)).1]
  exact hb

set_option maxHeartbeats 8000000 in
set_option maxRecDepth 20000 in
theorem k204 {Z : sm_Z} (hZ : Z.2.2.2 = tb_N) (m : wk_M) (j : Int) (hO : rOps m.1) (hb : bP m.1) : wC Z 4 204 [63] [.inr (.inl 46), .inl j] m (fun r m' => ∃ v : Int, r = some (.inl v) ∧ -1025 ≤ v ∧ v ≤ 1023) := by
  obtain ⟨J0, hJ0⟩ : ∃ J : Int →Int →Int → wk_M → Prop, ∀ j n s m', J j n s m' ↔ ((0 ≤ n ∧ n ≤ 32 * s) ∧ 0 ≤ s ∧ s ≤ 32) := ⟨_, fun _ _ _ _ => Iff.rfl⟩
  obtain ⟨J1, hJ1⟩ : ∃ J : Int →Int →Int →Int →Int → wk_M → Prop, ∀ j n s l i m', J j n s l i m' ↔ ((0 ≤ n ∧ n ≤ 32 * s + i) ∧ (0 ≤ s ∧ s < 32) ∧ (0 ≤ l ∧ l ≤ 4) ∧ 0 ≤ i ∧ i ≤ 32) := ⟨_, fun _ _ _ _ _ _ => Iff.rfl⟩
  refine wC.gen fun Q hQ => wk_E hZ (by exact rfl) [(4, [(3, 46), (1, 0), (1, 0), (1, 0), (0, 0), (0, 0)], fun vs _ m' => (match vs with
    | [j, n, s] => J0 j n s m'
    | _ => False), fun vs _ m' => (match vs with
    | [j, n, s] => ((32 - s) * 100 + 99 : Int).toNat
    | _ => 0)), (71, [(3, 46), (1, 0), (1, 0), (1, 0), (1, 0), (1, 0)], fun vs _ m' => (match vs with
    | [j, n, s, l, i] => J1 j n s l i m'
    | _ => False), fun vs _ m' => (match vs with
    | [j, n, s, l, i] => ((32 - s) * 100 + (32 - i) : Int).toNat
    | _ => 0))] rfl (fun hr hs => ⟨?_, ⟨?_, trivial⟩⟩) (fun hr hs => ?_)
  · have e1 : ab_lo = -2147483648 := rfl
    have e2 : ab_hi = 2147483647 := rfl
    intro m2 hr2 hf2 j jl jh n nl nh s sl sh hI
    have hI := (hJ0 _ _ _ _).mp hI
    obtain ⟨⟨n0, n1⟩, s0, s1⟩ := hI
    have e46 := (hf2 46 (by decide)).1
    have hb2 := bP_fr hf2 hb
    have hO2 := rOps_fr (congrFun e46 _) (fr_57 hf2 rfl) hO
    have hc : 0 ≤ m2.1 46 (0 : Nat) ∧ m2.1 46 (0 : Nat) ≤ 32 := hr2.1 46 0
    have qd : s < m2.1 46 (0 : Nat) → m2.1 47 s = 17 → 0 ≤ m2.1 48 s ∧ m2.1 48 s ≤ 3 := fun h e => (hO2 s s0 h).1 (by unfold nD; omega)
    repeat' first | (intro h; exact absurd h (by decide)) | (intro h; exact absurd rfl h) | refine And.intro ?_ ?_ | intro _ | refine Or.inl ⟨by omega, by omega, ?_⟩ | refine Or.inr ?_ | exact trivial | (refine wk_use (k202x hZ _) rfl rfl ?_; rintro - _ _ - - - ⟨_, rfl, rfl, ⟨rfl, hbb⟩ | ⟨_, hbb⟩⟩; refine Or.inl ⟨[], rfl, ?_⟩) | (refine wk_use (k178 hZ _ _ (by omega) (by omega)) rfl rfl ?_; rintro - _ _ - hfr - rfl; refine Or.inr ?_)
    all_goals first
      | omega
      | (show ((32 - (_ : Int)) * 100 + 99 : Int).toNat < ((32 - (_ : Int)) * 100 + 99 : Int).toNat; omega)
      | exact absurd hb2 hbb
      | exact hQ _ _ ⟨_, rfl, by omega, by omega⟩
      | (show J0 _ _ _ _; refine (hJ0 _ _ _ _).mpr ⟨⟨by omega, by omega⟩, by omega, by omega⟩)
      | (show J1 _ _ _ _ _ _; refine (hJ1 _ _ _ _ _ _).mpr ⟨⟨by omega, by omega⟩, ⟨by omega, by omega⟩, ⟨by omega, by omega⟩, by omega, by omega⟩)
      | (show (_ : Nat) < (_ : Nat); dsimp only; omega)
  · have e1 : ab_lo = -2147483648 := rfl
    have e2 : ab_hi = 2147483647 := rfl
    intro m2 hr2 hf2 j jl jh n nl nh s sl sh l ll lh i il ih hI
    have hI := (hJ1 _ _ _ _ _ _).mp hI
    obtain ⟨⟨n0, n1⟩, ⟨s0, s1⟩, ⟨l0, l1⟩, i0, i1⟩ := hI
    have e46 := (hf2 46 (by decide)).1
    have hb2 := bP_fr hf2 hb
    have hO2 := rOps_fr (congrFun e46 _) (fr_57 hf2 rfl) hO
    have hc : 0 ≤ m2.1 46 (0 : Nat) ∧ m2.1 46 (0 : Nat) ≤ 32 := hr2.1 46 0
    have qa : i < m2.1 46 (0 : Nat) → m2.1 47 i = 6 → 0 ≤ m2.1 49 i ∧ m2.1 49 i ≤ 3 := fun h e => (hO2 i i0 h).2.1 (by unfold nA; omega)
    repeat' first | (intro h; exact absurd h (by decide)) | (intro h; exact absurd rfl h) | refine And.intro ?_ ?_ | intro _ | refine Or.inl ⟨by omega, by omega, ?_⟩ | refine Or.inr ?_ | exact trivial | (refine wk_use (k173s hZ _ _ (by decide) (by decide) _ (by omega) (by omega)) rfl rfl ?_; rintro - _ _ - - - ⟨_, rfl, rfl, _, _⟩; refine Or.inl ⟨[], rfl, ?_⟩) | (refine wk_use (k200x hZ _ _ _ (by omega) (by omega) (by omega) (by omega)) rfl rfl ?_; rintro - _ _ - - - ⟨_, rfl, rfl, _⟩; refine Or.inl ⟨[], rfl, ?_⟩)
    all_goals first
      | omega
      | (show ((32 - (_ : Int)) * 100 + (32 - (_ : Int)) : Int).toNat < ((32 - (_ : Int)) * 100 + (32 - (_ : Int)) : Int).toNat; omega)
      | exact hQ _ _ ⟨_, rfl, by omega, by omega⟩
      | (show J0 _ _ _ _; refine (hJ0 _ _ _ _).mpr ⟨⟨by omega, by omega⟩, by omega, by omega⟩)
      | (show J1 _ _ _ _ _ _; refine (hJ1 _ _ _ _ _ _).mpr ⟨⟨by omega, by omega⟩, ⟨by omega, by omega⟩, ⟨by omega, by omega⟩, by omega, by omega⟩)
      | (show (_ : Nat) < (_ : Nat); dsimp only; omega)
  · have e1 : ab_lo = -2147483648 := rfl
    have e2 : ab_hi = 2147483647 := rfl
    repeat' first | (intro h; exact absurd h (by decide)) | (intro h; exact absurd rfl h) | refine And.intro ?_ ?_ | intro _ | refine Or.inl ⟨by omega, by omega, ?_⟩ | refine Or.inr ?_ | exact trivial
    all_goals first
      | omega
      | trivial
      | (show J0 _ _ _ _; refine (hJ0 _ _ _ _).mpr ⟨⟨by omega, by omega⟩, by omega, by omega⟩)

set_option maxHeartbeats 8000000 in
set_option maxRecDepth 20000 in
theorem k203 {Z : sm_Z} (hZ : Z.2.2.2 = tb_N) (m : wk_M) (hO : rOps m.1) : wC Z 5 203 [63] [.inr (.inl 46)] m (fun r m' => ∃ v : Int, r = some (.inl v)) := by
  refine wC.gen fun Q hQ => wk_E hZ (by exact rfl) [] rfl (fun _ _ => trivial) fun hr hs => ?_
  have e1 : ab_lo = -2147483648 := rfl
  have e2 : ab_hi = 2147483647 := rfl
  repeat' first | (intro h; exact absurd h (by decide)) | (intro h; exact absurd rfl h) | refine And.intro ?_ ?_ | intro _ | refine Or.inl ⟨by omega, by omega, ?_⟩ | refine Or.inr ?_ | exact trivial | (refine wk_use (k199x hZ _) rfl rfl ?_; rintro - _ _ - - - ⟨v, rfl, rfl, ⟨_, _⟩, hb⟩; refine Or.inl ⟨[], rfl, ?_⟩) | (refine wk_use (k204 hZ _ _ hO (hb (by omega))) rfl rfl ?_; rintro - _ _ - hfr - ⟨_, rfl, _, _⟩; refine Or.inr ?_)
  all_goals first | omega | exact hQ _ _ ⟨_, rfl⟩

set_option maxHeartbeats 8000000 in
set_option maxRecDepth 20000 in
theorem k205 {Z : sm_Z} (hZ : Z.2.2.2 = tb_N) (m : wk_M) (j : Int) (hO : rOps m.1) : wC Z 5 205 [63] [.inr (.inl 46), .inl j] m (fun r m' => ∃ v : Int, r = some (.inl v)) := by
  refine wC.gen fun Q hQ => wk_E hZ (by exact rfl) [] rfl (fun _ _ => trivial) fun hr hs => ?_
  have e1 : ab_lo = -2147483648 := rfl
  have e2 : ab_hi = 2147483647 := rfl
  repeat' first | (intro h; exact absurd h (by decide)) | (intro h; exact absurd rfl h) | refine And.intro ?_ ?_ | intro _ | refine Or.inl ⟨by omega, by omega, ?_⟩ | refine Or.inr ?_ | exact trivial | (refine wk_use (k199x hZ _) rfl rfl ?_; rintro - _ _ - - - ⟨v, rfl, rfl, ⟨_, _⟩, hb⟩; refine Or.inl ⟨[], rfl, ?_⟩) | (refine wk_use (k204 hZ _ _ hO (hb (by omega))) rfl rfl ?_; rintro - _ _ - hfr - ⟨_, rfl, _, _⟩; refine Or.inr ?_)
  all_goals first | omega | exact hQ _ _ ⟨_, rfl⟩
