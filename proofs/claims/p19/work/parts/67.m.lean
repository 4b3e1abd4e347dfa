/-! the reference: what depends on what -/
set_option maxHeartbeats 8000000 in
set_option maxRecDepth 20000 in
theorem k144 {Z : sm_Z} (hZ : Z.2.2.2 = tb_N) (m : wk_M) (x : Int) : wC Z 1 144 [] [.inl x] m (fun r m' => ∃ v : Int, r = some (.inl v) ∧ m' = m ∧ ((v = 1 ∧ 0 ≤ x ∧ x ≤ 3) ∨ (v = 0 ∧ (x < 0 ∨ 3 < x)))) := by
  refine wC.gen fun Q hQ => wk_E hZ (by exact rfl) [] rfl (fun _ _ => trivial) fun hr hs => ?_
  have e1 : ab_lo = -2147483648 := rfl
  have e2 : ab_hi = 2147483647 := rfl
  repeat' first | refine And.intro ?_ ?_ | intro _ | refine Or.inl ⟨by omega, by omega, ?_⟩ | refine Or.inr ?_ | exact trivial
  all_goals first | omega | exact hQ _ _ ⟨_, rfl, rfl, by omega⟩

/-! the reference: floods -/
set_option maxHeartbeats 8000000 in
set_option maxRecDepth 20000 in
theorem k174u {Z : sm_Z} (hZ : Z.2.2.2 = tb_N) (m : wk_M) (n : Int) (n0 : 0 ≤ n) (n1 : n ≤ 251) : wC Z 1 174 [] [.inr (.inl 46), .inr (.inl 60), .inr (.inl 61), .inl n] m (fun r m' => ∃ v : Int, r = some (.inl v) ∧ m' = m ∧ (0 ≤ v ∧ v ≤ 1)) := by
  obtain ⟨J0, hJ0⟩ : ∃ J : Int →Int → wk_M → Prop, ∀ n k m', J n k m' ↔ (m' = m ∧ (0 ≤ n ∧ n ≤ 251) ∧ 0 ≤ k ∧ k ≤ 4) := ⟨_, fun _ _ _ => Iff.rfl⟩
  refine wC.gen fun Q hQ => wk_E hZ (by exact rfl) [(6, [(3, 46), (3, 60), (3, 61), (1, 0), (2, 0), (0, 0), (1, 0)], fun vs _ m' => (match vs with
    | [n, k] => J0 n k m'
    | _ => False), fun vs _ m' => (match vs with
    | [n, k] => (4 - k : Int).toNat
    | _ => 0))] rfl (fun hr hs => ⟨?_, trivial⟩) (fun hr hs => ?_)
  · have e1 : ab_lo = -2147483648 := rfl
    have e2 : ab_hi = 2147483647 := rfl
    intro m2 hr2 hf2 n nl nh yy0 k kl kh hI
    have hI := (hJ0 _ _ _).mp hI
    obtain ⟨rfl, ⟨n0, n1⟩, k0, k1⟩ := hI
    repeat' first | (intro h; exact absurd h (by decide)) | (intro h; exact absurd rfl h) | refine And.intro ?_ ?_ | intro _ | refine Or.inl ⟨by omega, by omega, ?_⟩ | refine Or.inr ?_ | exact trivial
    all_goals first
      | omega
      | (show (4 - (_ : Int) : Int).toNat < (4 - (_ : Int) : Int).toNat; omega)
      | exact hQ _ _ ⟨_, rfl, rfl, by omega, by omega⟩
      | (show J0 _ _ _; refine (hJ0 _ _ _).mpr ⟨rfl, ⟨by omega, by omega⟩, by omega, by omega⟩)
  · have e1 : ab_lo = -2147483648 := rfl
    have e2 : ab_hi = 2147483647 := rfl
    repeat' first | (intro h; exact absurd h (by decide)) | (intro h; exact absurd rfl h) | refine And.intro ?_ ?_ | intro _ | refine Or.inl ⟨by omega, by omega, ?_⟩ | refine Or.inr ?_ | exact trivial
    all_goals first
      | omega
      | trivial
      | (show J0 _ _ _; refine (hJ0 _ _ _).mpr ⟨rfl, ⟨by omega, by omega⟩, by omega, by omega⟩)

set_option maxHeartbeats 8000000 in
set_option maxRecDepth 20000 in
theorem k172u {Z : sm_Z} (hZ : Z.2.2.2 = tb_N) (m : wk_M) (b : Int) : wC Z 2 172 [63] [.inr (.inl 46), .inr (.inl 60), .inr (.inl 61), .inl b] m (fun r m' => r = none) := by
  obtain ⟨J0, hJ0⟩ : ∃ J : Int →Int →Int → wk_M → Prop, ∀ b g rd m', J b g rd m' ↔ (0 ≤ rd ∧ rd ≤ 300) := ⟨_, fun _ _ _ _ => Iff.rfl⟩
  obtain ⟨J1, hJ1⟩ : ∃ J : Int →Int →Int →Int → wk_M → Prop, ∀ b g rd n m', J b g rd n m' ↔ ((0 ≤ rd ∧ rd < 300) ∧ 0 ≤ n ∧ n ≤ 252) := ⟨_, fun _ _ _ _ _ => Iff.rfl⟩
  obtain ⟨J2, hJ2⟩ : ∃ J : Int →Int →Int →Int →Int → wk_M → Prop, ∀ b g rd n k m', J b g rd n k m' ↔ ((0 ≤ rd ∧ rd < 300) ∧ (0 ≤ n ∧ n < 252) ∧ 0 ≤ k ∧ k ≤ 4) := ⟨_, fun _ _ _ _ _ _ => Iff.rfl⟩
  refine wC.gen fun Q hQ => wk_E hZ (by exact rfl) [(6, [(3, 46), (3, 60), (3, 61), (1, 0), (1, 0), (1, 0), (0, 0), (0, 0), (0, 0), (0, 0)], fun vs _ m' => (match vs with
    | [b, g, rd] => J0 b g rd m'
    | _ => False), fun vs _ m' => (match vs with
    | [b, g, rd] => ((300 - rd) * 10000 + 9999 : Int).toNat
    | _ => 0)), (25, [(3, 46), (3, 60), (3, 61), (1, 0), (1, 0), (1, 0), (1, 0), (0, 0), (0, 0), (0, 0)], fun vs _ m' => (match vs with
    | [b, g, rd, n] => J1 b g rd n m'
    | _ => False), fun vs _ m' => (match vs with
    | [b, g, rd, n] => ((300 - rd) * 10000 + (252 - n) * 10 + 9 : Int).toNat
    | _ => 0)), (80, [(3, 46), (3, 60), (3, 61), (1, 0), (1, 0), (1, 0), (1, 0), (1, 0), (0, 0), (0, 0)], fun vs _ m' => (match vs with
    | [b, g, rd, n, k] => J2 b g rd n k m'
    | _ => False), fun vs _ m' => (match vs with
    | [b, g, rd, n, k] => ((300 - rd) * 10000 + (252 - n) * 10 + (4 - k) : Int).toNat
    | _ => 0))] rfl (fun hr hs => ⟨?_, ⟨?_, ⟨?_, trivial⟩⟩⟩) (fun hr hs => ?_)
  · have e1 : ab_lo = -2147483648 := rfl
    have e2 : ab_hi = 2147483647 := rfl
    intro m2 hr2 hf2 b bl bh g gl gh rd rdl rdh hI
    have hI := (hJ0 _ _ _ _).mp hI
    obtain ⟨r0, r1⟩ := hI
    repeat' first | (intro h; exact absurd h (by decide)) | (intro h; exact absurd rfl h) | refine And.intro ?_ ?_ | intro _ | refine Or.inl ⟨by omega, by omega, ?_⟩ | refine Or.inr ?_ | exact trivial | (refine wk_use (k173s hZ _ _ (by decide) (by decide) _ (by omega) (by omega)) rfl rfl ?_; rintro - _ _ - - - ⟨_, rfl, rfl, _, _⟩; refine Or.inl ⟨[], rfl, ?_⟩) | (refine wk_use (k174u hZ _ _ (by omega) (by omega)) rfl rfl ?_; rintro - _ _ - - - ⟨_, rfl, rfl, _, _⟩; refine Or.inl ⟨[], rfl, ?_⟩)
    all_goals first
      | omega
      | (show ((300 - (_ : Int)) * 10000 + 9999 : Int).toNat < ((300 - (_ : Int)) * 10000 + 9999 : Int).toNat; omega)
      | exact hQ _ _ rfl
      | (show J1 _ _ _ _ _; refine (hJ1 _ _ _ _ _).mpr ⟨⟨by omega, by omega⟩, by omega, by omega⟩)
      | (show (_ : Nat) < (_ : Nat); dsimp only; omega)
  · have e1 : ab_lo = -2147483648 := rfl
    have e2 : ab_hi = 2147483647 := rfl
    intro m2 hr2 hf2 b bl bh g gl gh rd rdl rdh n nl nh hI
    have hI := (hJ1 _ _ _ _ _).mp hI
    obtain ⟨⟨r0, r1⟩, n0, n1⟩ := hI
    repeat' first | (intro h; exact absurd h (by decide)) | (intro h; exact absurd rfl h) | refine And.intro ?_ ?_ | intro _ | refine Or.inl ⟨by omega, by omega, ?_⟩ | refine Or.inr ?_ | exact trivial | (refine wk_use (k173s hZ _ _ (by decide) (by decide) _ (by omega) (by omega)) rfl rfl ?_; rintro - _ _ - - - ⟨_, rfl, rfl, _, _⟩; refine Or.inl ⟨[], rfl, ?_⟩) | (refine wk_use (k174u hZ _ _ (by omega) (by omega)) rfl rfl ?_; rintro - _ _ - - - ⟨_, rfl, rfl, _, _⟩; refine Or.inl ⟨[], rfl, ?_⟩)
    all_goals first
      | omega
      | (show ((300 - (_ : Int)) * 10000 + (252 - (_ : Int)) * 10 + 9 : Int).toNat < ((300 - (_ : Int)) * 10000 + (252 - (_ : Int)) * 10 + 9 : Int).toNat; omega)
      | (show J0 _ _ _ _; refine (hJ0 _ _ _ _).mpr ⟨by omega, by omega⟩)
      | (show J1 _ _ _ _ _; refine (hJ1 _ _ _ _ _).mpr ⟨⟨by omega, by omega⟩, by omega, by omega⟩)
      | (show J2 _ _ _ _ _ _; refine (hJ2 _ _ _ _ _ _).mpr ⟨⟨by omega, by omega⟩, ⟨by omega, by omega⟩, by omega, by omega⟩)
      | (show (_ : Nat) < (_ : Nat); dsimp only; omega)
  · have e1 : ab_lo = -2147483648 := rfl
    have e2 : ab_hi = 2147483647 := rfl
    intro m2 hr2 hf2 b bl bh g gl gh rd rdl rdh n nl nh k kl kh hI
    have hI := (hJ2 _ _ _ _ _ _).mp hI
    obtain ⟨⟨r0, r1⟩, ⟨n0, n1⟩, k0, k1⟩ := hI
    repeat' first | (intro h; exact absurd h (by decide)) | (intro h; exact absurd rfl h) | refine And.intro ?_ ?_ | intro _ | refine Or.inl ⟨by omega, by omega, ?_⟩ | refine Or.inr ?_ | exact trivial | (refine wk_use (k173s hZ _ _ (by decide) (by decide) _ (by omega) (by omega)) rfl rfl ?_; rintro - _ _ - - - ⟨_, rfl, rfl, _, _⟩; refine Or.inl ⟨[], rfl, ?_⟩) | (refine wk_use (k174u hZ _ _ (by omega) (by omega)) rfl rfl ?_; rintro - _ _ - - - ⟨_, rfl, rfl, _, _⟩; refine Or.inl ⟨[], rfl, ?_⟩)
    all_goals first
      | omega
      | (show ((300 - (_ : Int)) * 10000 + (252 - (_ : Int)) * 10 + (4 - (_ : Int)) : Int).toNat < ((300 - (_ : Int)) * 10000 + (252 - (_ : Int)) * 10 + (4 - (_ : Int)) : Int).toNat; omega)
      | (show J1 _ _ _ _ _; refine (hJ1 _ _ _ _ _).mpr ⟨⟨by omega, by omega⟩, by omega, by omega⟩)
      | (show J2 _ _ _ _ _ _; refine (hJ2 _ _ _ _ _ _).mpr ⟨⟨by omega, by omega⟩, ⟨by omega, by omega⟩, by omega, by omega⟩)
      | (show (_ : Nat) < (_ : Nat); dsimp only; omega)
  · have e1 : ab_lo = -2147483648 := rfl
    have e2 : ab_hi = 2147483647 := rfl
    repeat' first | (intro h; exact absurd h (by decide)) | (intro h; exact absurd rfl h) | refine And.intro ?_ ?_ | intro _ | refine Or.inl ⟨by omega, by omega, ?_⟩ | refine Or.inr ?_ | exact trivial
    all_goals first
      | omega
      | trivial
      | (show J0 _ _ _ _; refine (hJ0 _ _ _ _).mpr ⟨by omega, by omega⟩)

set_option maxHeartbeats 8000000 in
set_option maxRecDepth 20000 in
theorem k174d {Z : sm_Z} (hZ : Z.2.2.2 = tb_N) (m : wk_M) (n : Int) (n0 : 0 ≤ n) (n1 : n ≤ 251) : wC Z 1 174 [] [.inr (.inl 46), .inr (.inl 60), .inr (.inl 62), .inl n] m (fun r m' => ∃ v : Int, r = some (.inl v) ∧ m' = m ∧ (0 ≤ v ∧ v ≤ 1)) := by
  obtain ⟨J0, hJ0⟩ : ∃ J : Int →Int → wk_M → Prop, ∀ n k m', J n k m' ↔ (m' = m ∧ (0 ≤ n ∧ n ≤ 251) ∧ 0 ≤ k ∧ k ≤ 4) := ⟨_, fun _ _ _ => Iff.rfl⟩
  refine wC.gen fun Q hQ => wk_E hZ (by exact rfl) [(6, [(3, 46), (3, 60), (3, 62), (1, 0), (2, 0), (0, 0), (1, 0)], fun vs _ m' => (match vs with
    | [n, k] => J0 n k m'
    | _ => False), fun vs _ m' => (match vs with
    | [n, k] => (4 - k : Int).toNat
    | _ => 0))] rfl (fun hr hs => ⟨?_, trivial⟩) (fun hr hs => ?_)
  · have e1 : ab_lo = -2147483648 := rfl
    have e2 : ab_hi = 2147483647 := rfl
    intro m2 hr2 hf2 n nl nh yy0 k kl kh hI
    have hI := (hJ0 _ _ _).mp hI
    obtain ⟨rfl, ⟨n0, n1⟩, k0, k1⟩ := hI
    repeat' first | (intro h; exact absurd h (by decide)) | (intro h; exact absurd rfl h) | refine And.intro ?_ ?_ | intro _ | refine Or.inl ⟨by omega, by omega, ?_⟩ | refine Or.inr ?_ | exact trivial
    all_goals first
      | omega
      | (show (4 - (_ : Int) : Int).toNat < (4 - (_ : Int) : Int).toNat; omega)
      | exact hQ _ _ ⟨_, rfl, rfl, by omega, by omega⟩
      | (show J0 _ _ _; refine (hJ0 _ _ _).mpr ⟨rfl, ⟨by omega, by omega⟩, by omega, by omega⟩)
  · have e1 : ab_lo = -2147483648 := rfl
    have e2 : ab_hi = 2147483647 := rfl
    repeat' first | (intro h; exact absurd h (by decide)) | (intro h; exact absurd rfl h) | refine And.intro ?_ ?_ | intro _ | refine Or.inl ⟨by omega, by omega, ?_⟩ | refine Or.inr ?_ | exact trivial
    all_goals first
      | omega
      | trivial
      | (show J0 _ _ _; refine (hJ0 _ _ _).mpr ⟨rfl, ⟨by omega, by omega⟩, by omega, by omega⟩)

set_option maxHeartbeats 8000000 in
set_option maxRecDepth 20000 in
theorem k172d {Z : sm_Z} (hZ : Z.2.2.2 = tb_N) (m : wk_M) (b : Int) : wC Z 2 172 [63] [.inr (.inl 46), .inr (.inl 60), .inr (.inl 62), .inl b] m (fun r m' => r = none) := by
  obtain ⟨J0, hJ0⟩ : ∃ J : Int →Int →Int → wk_M → Prop, ∀ b g rd m', J b g rd m' ↔ (0 ≤ rd ∧ rd ≤ 300) := ⟨_, fun _ _ _ _ => Iff.rfl⟩
  obtain ⟨J1, hJ1⟩ : ∃ J : Int →Int →Int →Int → wk_M → Prop, ∀ b g rd n m', J b g rd n m' ↔ ((0 ≤ rd ∧ rd < 300) ∧ 0 ≤ n ∧ n ≤ 252) := ⟨_, fun _ _ _ _ _ => Iff.rfl⟩
  obtain ⟨J2, hJ2⟩ : ∃ J : Int →Int →Int →Int →Int → wk_M → Prop, ∀ b g rd n k m', J b g rd n k m' ↔ ((0 ≤ rd ∧ rd < 300) ∧ (0 ≤ n ∧ n < 252) ∧ 0 ≤ k ∧ k ≤ 4) := ⟨_, fun _ _ _ _ _ _ => Iff.rfl⟩
  refine wC.gen fun Q hQ => wk_E hZ (by exact rfl) [(6, [(3, 46), (3, 60), (3, 62), (1, 0), (1, 0), (1, 0), (0, 0), (0, 0), (0, 0), (0, 0)], fun vs _ m' => (match vs with
    | [b, g, rd] => J0 b g rd m'
    | _ => False), fun vs _ m' => (match vs with
    | [b, g, rd] => ((300 - rd) * 10000 + 9999 : Int).toNat
    | _ => 0)), (25, [(3, 46), (3, 60), (3, 62), (1, 0), (1, 0), (1, 0), (1, 0), (0, 0), (0, 0), (0, 0)], fun vs _ m' => (match vs with
    | [b, g, rd, n] => J1 b g rd n m'
    | _ => False), fun vs _ m' => (match vs with
    | [b, g, rd, n] => ((300 - rd) * 10000 + (252 - n) * 10 + 9 : Int).toNat
    | _ => 0)), (80, [(3, 46), (3, 60), (3, 62), (1, 0), (1, 0), (1, 0), (1, 0), (1, 0), (0, 0), (0, 0)], fun vs _ m' => (match vs with
    | [b, g, rd, n, k] => J2 b g rd n k m'
    | _ => False), fun vs _ m' => (match vs with
    | [b, g, rd, n, k] => ((300 - rd) * 10000 + (252 - n) * 10 + (4 - k) : Int).toNat
    | _ => 0))] rfl (fun hr hs => ⟨?_, ⟨?_, ⟨?_, trivial⟩⟩⟩) (fun hr hs => ?_)
  · have e1 : ab_lo = -2147483648 := rfl
    have e2 : ab_hi = 2147483647 := rfl
    intro m2 hr2 hf2 b bl bh g gl gh rd rdl rdh hI
    have hI := (hJ0 _ _ _ _).mp hI
    obtain ⟨r0, r1⟩ := hI
    repeat' first | (intro h; exact absurd h (by decide)) | (intro h; exact absurd rfl h) | refine And.intro ?_ ?_ | intro _ | refine Or.inl ⟨by omega, by omega, ?_⟩ | refine Or.inr ?_ | exact trivial | (refine wk_use (k173s hZ _ _ (by decide) (by decide) _ (by omega) (by omega)) rfl rfl ?_; rintro - _ _ - - - ⟨_, rfl, rfl, _, _⟩; refine Or.inl ⟨[], rfl, ?_⟩) | (refine wk_use (k174d hZ _ _ (by omega) (by omega)) rfl rfl ?_; rintro - _ _ - - - ⟨_, rfl, rfl, _, _⟩; refine Or.inl ⟨[], rfl, ?_⟩)
    all_goals first
      | omega
      | (show ((300 - (_ : Int)) * 10000 + 9999 : Int).toNat < ((300 - (_ : Int)) * 10000 + 9999 : Int).toNat; omega)
      | exact hQ _ _ rfl
      | (show J1 _ _ _ _ _; refine (hJ1 _ _ _ _ _).mpr ⟨⟨by omega, by omega⟩, by omega, by omega⟩)
      | (show (_ : Nat) < (_ : Nat); dsimp only; omega)
  · have e1 : ab_lo = -2147483648 := rfl
    have e2 : ab_hi = 2147483647 := rfl
    intro m2 hr2 hf2 b bl bh g gl gh rd rdl rdh n nl nh hI
    have hI := (hJ1 _ _ _ _ _).mp hI
    obtain ⟨⟨r0, r1⟩, n0, n1⟩ := hI
    repeat' first | (intro h; exact absurd h (by decide)) | (intro h; exact absurd rfl h) | refine And.intro ?_ ?_ | intro _ | refine Or.inl ⟨by omega, by omega, ?_⟩ | refine Or.inr ?_ | exact trivial | (refine wk_use (k173s hZ _ _ (by decide) (by decide) _ (by omega) (by omega)) rfl rfl ?_; rintro - _ _ - - - ⟨_, rfl, rfl, _, _⟩; refine Or.inl ⟨[], rfl, ?_⟩) | (refine wk_use (k174d hZ _ _ (by omega) (by omega)) rfl rfl ?_; rintro - _ _ - - - ⟨_, rfl, rfl, _, _⟩; refine Or.inl ⟨[], rfl, ?_⟩)
    all_goals first
      | omega
      | (show ((300 - (_ : Int)) * 10000 + (252 - (_ : Int)) * 10 + 9 : Int).toNat < ((300 - (_ : Int)) * 10000 + (252 - (_ : Int)) * 10 + 9 : Int).toNat; omega)
      | (show J0 _ _ _ _; refine (hJ0 _ _ _ _).mpr ⟨by omega, by omega⟩)
      | (show J1 _ _ _ _ _; refine (hJ1 _ _ _ _ _).mpr ⟨⟨by omega, by omega⟩, by omega, by omega⟩)
      | (show J2 _ _ _ _ _ _; refine (hJ2 _ _ _ _ _ _).mpr ⟨⟨by omega, by omega⟩, ⟨by omega, by omega⟩, by omega, by omega⟩)
      | (show (_ : Nat) < (_ : Nat); dsimp only; omega)
  · have e1 : ab_lo = -2147483648 := rfl
    have e2 : ab_hi = 2147483647 := rfl
    intro m2 hr2 hf2 b bl bh g gl gh rd rdl rdh n nl nh k kl kh hI
    have hI := (hJ2 _ _ _ _ _ _).mp hI
    obtain ⟨⟨r0, r1⟩, ⟨n0, n1⟩, k0, k1⟩ := hI
    repeat' first | (intro h; exact absurd h (by decide)) | (intro h; exact absurd rfl h) | refine And.intro ?_ ?_ | intro _ | refine Or.inl ⟨by omega, by omega, ?_⟩ | refine Or.inr ?_ | exact trivial | (refine wk_use (k173s hZ _ _ (by decide) (by decide) _ (by omega) (by omega)) rfl rfl ?_; rintro - _ _ - - - ⟨_, rfl, rfl, _, _⟩; refine Or.inl ⟨[], rfl, ?_⟩) | (refine wk_use (k174d hZ _ _ (by omega) (by omega)) rfl rfl ?_; rintro - _ _ - - - ⟨_, rfl, rfl, _, _⟩; refine Or.inl ⟨[], rfl, ?_⟩)
    all_goals first
      | omega
      | (show ((300 - (_ : Int)) * 10000 + (252 - (_ : Int)) * 10 + (4 - (_ : Int)) : Int).toNat < ((300 - (_ : Int)) * 10000 + (252 - (_ : Int)) * 10 + (4 - (_ : Int)) : Int).toNat; omega)
      | (show J1 _ _ _ _ _; refine (hJ1 _ _ _ _ _).mpr ⟨⟨by omega, by omega⟩, by omega, by omega⟩)
      | (show J2 _ _ _ _ _ _; refine (hJ2 _ _ _ _ _ _).mpr ⟨⟨by omega, by omega⟩, ⟨by omega, by omega⟩, by omega, by omega⟩)
      | (show (_ : Nat) < (_ : Nat); dsimp only; omega)
  · have e1 : ab_lo = -2147483648 := rfl
    have e2 : ab_hi = 2147483647 := rfl
    repeat' first | (intro h; exact absurd h (by decide)) | (intro h; exact absurd rfl h) | refine And.intro ?_ ?_ | intro _ | refine Or.inl ⟨by omega, by omega, ?_⟩ | refine Or.inr ?_ | exact trivial
    all_goals first
      | omega
      | trivial
      | (show J0 _ _ _ _; refine (hJ0 _ _ _ _).mpr ⟨by omega, by omega⟩)

set_option maxHeartbeats 8000000 in
set_option maxRecDepth 20000 in
theorem k178 {Z : sm_Z} (hZ : Z.2.2.2 = tb_N) (m : wk_M) (n : Int) (n0 : 0 ≤ n) (n1 : n ≤ 251) : wC Z 3 178 [63] [.inr (.inl 46), .inl n] m (fun r m' => r = none) := by
  refine wC.gen fun Q hQ => wk_E hZ (by exact rfl) [] rfl (fun _ _ => trivial) fun hr hs => ?_
  have e1 : ab_lo = -2147483648 := rfl
  have e2 : ab_hi = 2147483647 := rfl
  repeat' first | refine And.intro ?_ ?_ | intro _ | refine Or.inl ⟨by omega, by omega, ?_⟩ | refine Or.inr ?_ | exact trivial | (refine wk_use (k171 hZ _ _ (by omega) (by omega)) rfl rfl ?_; rintro - _ _ - hfr - rfl; refine Or.inr ?_) | (refine wk_use (k172u hZ _ _) rfl rfl ?_; rintro - _ _ - hfr - rfl; refine Or.inr ?_) | (refine wk_use (k172d hZ _ _) rfl rfl ?_; rintro - _ _ - hfr - rfl; refine Or.inr ?_)
  all_goals first | omega | exact hQ _ _ rfl

/-! the reference: ways, dependences -/
