/-! the reference: what depends on what -/
set_option maxHeartbeats 8000000 in
set_option maxRecDepth 20000 in
theorem k144 {Z : sm_Z} (hZ : Z.2.2.2 = tb_N) (m : wk_M) (x : Int) : wC Z 1 144 [] [.inl x] m (fun r m' => ∃ v : Int, r = some (.inl v) ∧ m' = m ∧ ((v = 1 ∧ 0 ≤ x ∧ x ≤ 3) ∨ (v = 0 ∧ (x < 0 ∨ 3 < x)))) := by
  refine wC.gen fun Q hQ => wk_E hZ (by exact rfl) [] rfl (fun _ _ => trivial) fun hr hs => ?_
  have e1 : ab_lo = -2147483648 := rfl
  have e2 : ab_hi = 2147483647 := rfl
  repeat' first | refine And.intro ?_ ?_ | intro _ | refine Or.inl ⟨by omega, by omega, ?_⟩ | refine Or.inr ?_ | exact trivial
  all_goals first | omega | exact hQ _ _ ⟨_, rfl, rfl, by omega⟩

set_option maxHeartbeats 8000000 in
set_option maxRecDepth 20000 in
theorem k156 {Z : sm_Z} (hZ : Z.2.2.2 = tb_N) (m : wk_M) (n : Int) (n0 : 0 ≤ n) (n1 : n ≤ 251) : wC Z 1 156 [] [.inl n] m (fun r m' => ∃ v : Int, r = some (.inl v) ∧ m' = m ∧ ((n < 32 ∧ v = n) ∨ (32 ≤ n ∧ n < 224 ∧ 0 ≤ v ∧ v ≤ 31) ∨ (224 ≤ n ∧ 32 ≤ v ∧ v ≤ 35))) := by
  refine wC.gen fun Q hQ => wk_E hZ (by exact rfl) [] rfl (fun _ _ => trivial) fun hr hs => ?_
  have e1 : ab_lo = -2147483648 := rfl
  have e2 : ab_hi = 2147483647 := rfl
  repeat' first | refine And.intro ?_ ?_ | intro _ | refine Or.inl ⟨by omega, by omega, ?_⟩ | refine Or.inr ?_ | exact trivial
  all_goals first | omega | exact hQ _ _ ⟨_, rfl, rfl, by omega⟩

set_option maxHeartbeats 8000000 in
set_option maxRecDepth 20000 in
theorem k159 {Z : sm_Z} (hZ : Z.2.2.2 = tb_N) (m : wk_M) (n : Int) (n0 : 0 ≤ n) (n1 : n ≤ 251) : wC Z 1 159 [] [.inl n] m (fun r m' => ∃ v : Int, r = some (.inl v) ∧ m' = m ∧ ((n < 224 ∧ v = -1) ∨ (224 ≤ n ∧ 0 ≤ v ∧ v ≤ 6))) := by
  refine wC.gen fun Q hQ => wk_E hZ (by exact rfl) [] rfl (fun _ _ => trivial) fun hr hs => ?_
  have e1 : ab_lo = -2147483648 := rfl
  have e2 : ab_hi = 2147483647 := rfl
  repeat' first | refine And.intro ?_ ?_ | intro _ | refine Or.inl ⟨by omega, by omega, ?_⟩ | refine Or.inr ?_ | exact trivial
  all_goals first | omega | exact hQ _ _ ⟨_, rfl, rfl, by omega⟩

set_option maxHeartbeats 8000000 in
set_option maxRecDepth 20000 in
theorem k160 {Z : sm_Z} (hZ : Z.2.2.2 = tb_N) (m : wk_M) (n : Int) (n0 : 0 ≤ n) (n1 : n ≤ 251) : wC Z 1 160 [] [.inl n] m (fun r m' => ∃ v : Int, r = some (.inl v) ∧ m' = m ∧ ((32 ≤ n ∧ n < 224 ∧ 0 ≤ v ∧ v ≤ 5) ∨ ((n < 32 ∨ 224 ≤ n) ∧ v = -1))) := by
  refine wC.gen fun Q hQ => wk_E hZ (by exact rfl) [] rfl (fun _ _ => trivial) fun hr hs => ?_
  have e1 : ab_lo = -2147483648 := rfl
  have e2 : ab_hi = 2147483647 := rfl
  repeat' first | refine And.intro ?_ ?_ | intro _ | refine Or.inl ⟨by omega, by omega, ?_⟩ | refine Or.inr ?_ | exact trivial
  all_goals first | omega | exact hQ _ _ ⟨_, rfl, rfl, by omega⟩

set_option maxHeartbeats 8000000 in
set_option maxRecDepth 20000 in
theorem k158 {Z : sm_Z} (hZ : Z.2.2.2 = tb_N) (m : wk_M) (n x : Int) (n0 : 0 ≤ n) (n1 : n ≤ 251) (x0 : 0 ≤ x) (x1 : x ≤ 251) : wC Z 5 158 [] [.inr (.inl 46), .inl n, .inl x] m (fun r m' => ∃ v : Int, r = some (.inl v) ∧ m' = m ∧ (0 ≤ v ∧ v ≤ 1)) := by
  refine wC.gen fun Q hQ => wk_E hZ (by exact rfl) [] rfl (fun _ _ => trivial) fun hr hs => ?_
  have e1 : ab_lo = -2147483648 := rfl
  have e2 : ab_hi = 2147483647 := rfl
  repeat' first | (intro h; exact absurd h (by decide)) | (intro h; exact absurd rfl h) | (intro _; exfalso; omega) | refine And.intro ?_ ?_ | intro _ | refine Or.inl ⟨by omega, by omega, ?_⟩ | refine Or.inr ?_ | exact trivial | (refine wk_use (k156 hZ _ _ (by omega) (by omega)) rfl rfl ?_; rintro - _ _ - - - ⟨_, rfl, rfl, _⟩; refine Or.inl ⟨[], rfl, ?_⟩) | (refine wk_use (k159 hZ _ _ (by omega) (by omega)) rfl rfl ?_; rintro - _ _ - - - ⟨_, rfl, rfl, _⟩; refine Or.inl ⟨[], rfl, ?_⟩) | (refine wk_use (k160 hZ _ _ (by omega) (by omega)) rfl rfl ?_; rintro - _ _ - - - ⟨_, rfl, rfl, _⟩; refine Or.inl ⟨[], rfl, ?_⟩) | (refine wk_use (k161 hZ _ _ (by omega) (by omega) _ (by omega) (by omega)) rfl rfl ?_; rintro - _ _ - - - ⟨_, rfl, rfl, _, _⟩; refine Or.inl ⟨[], rfl, ?_⟩) | (refine wk_use (k155 hZ _ _ (by omega) (by omega)) rfl rfl ?_; rintro - _ _ - - - ⟨_, rfl, rfl, _, _⟩; refine Or.inl ⟨[], rfl, ?_⟩) | (refine wk_use (k162 hZ _ _ (by omega) (by omega) _ (by omega) (by omega) _ (by omega) (by omega)) rfl rfl ?_; rintro - _ _ - - - ⟨_, rfl, rfl, _, _⟩; refine Or.inl ⟨[], rfl, ?_⟩) | (refine wk_use (k165 hZ _ _ (by omega) (by omega) _ (by omega) (by omega) _ (by omega) (by omega)) rfl rfl ?_; rintro - _ _ - - - ⟨_, rfl, rfl, _, _⟩; refine Or.inl ⟨[], rfl, ?_⟩)
  all_goals first | omega | exact hQ _ _ ⟨_, rfl, rfl, by omega, by omega⟩

set_option maxHeartbeats 8000000 in
set_option maxRecDepth 20000 in
theorem k153 {Z : sm_Z} (hZ : Z.2.2.2 = tb_N) (m : wk_M) (n x : Int) (n0 : 0 ≤ n) (n1 : n ≤ 251) (x0 : 0 ≤ x) (x1 : x ≤ 251) : wC Z 6 153 [] [.inr (.inl 46), .inl n, .inl x] m (fun r m' => ∃ v : Int, r = some (.inl v) ∧ m' = m ∧ (0 ≤ v ∧ v ≤ 15)) := by
  refine wC.gen fun Q hQ => wk_E hZ (by exact rfl) [] rfl (fun _ _ => trivial) fun hr hs => ?_
  have e1 : ab_lo = -2147483648 := rfl
  have e2 : ab_hi = 2147483647 := rfl
  repeat' first | refine And.intro ?_ ?_ | intro _ | refine Or.inl ⟨by omega, by omega, ?_⟩ | refine Or.inr ?_ | exact trivial | (refine wk_use (k154 hZ _ _ (by omega) (by omega)) rfl rfl ?_; rintro - _ _ - - - ⟨_, rfl, rfl, _, _⟩; refine Or.inl ⟨[], rfl, ?_⟩) | (refine wk_use (k155 hZ _ _ (by omega) (by omega)) rfl rfl ?_; rintro - _ _ - - - ⟨_, rfl, rfl, _, _⟩; refine Or.inl ⟨[], rfl, ?_⟩) | (refine wk_use (k157 hZ _ _ (by omega) (by omega) _ (by omega) (by omega)) rfl rfl ?_; rintro - _ _ - - - ⟨_, rfl, rfl, _, _⟩; refine Or.inl ⟨[], rfl, ?_⟩) | (refine wk_use (k158 hZ _ _ _ (by omega) (by omega) (by omega) (by omega)) rfl rfl ?_; rintro - _ _ - - - ⟨_, rfl, rfl, _, _⟩; refine Or.inl ⟨[], rfl, ?_⟩) | (refine wk_use (k166 hZ _ _ (by omega) (by omega) _ (by omega) (by omega)) rfl rfl ?_; rintro - _ _ - - - ⟨_, rfl, rfl, _, _⟩; refine Or.inl ⟨[], rfl, ?_⟩) | (refine wk_use (k168 hZ _ _ (by omega) (by omega) _ (by omega) (by omega)) rfl rfl ?_; rintro - _ _ - - - ⟨_, rfl, rfl, _, _⟩; refine Or.inl ⟨[], rfl, ?_⟩)
  all_goals first | omega | exact hQ _ _ ⟨_, rfl, rfl, by omega, by omega⟩

/-! the reference: floods -/
set_option maxHeartbeats 8000000 in
set_option maxRecDepth 20000 in
theorem k174a {Z : sm_Z} (hZ : Z.2.2.2 = tb_N) (m : wk_M) (n : Int) (n0 : 0 ≤ n) (n1 : n ≤ 251) : wC Z 1 174 [] [.inr (.inl 46), .inr (.inl 60), .inr (.inl 60), .inl n] m (fun r m' => ∃ v : Int, r = some (.inl v) ∧ m' = m ∧ (0 ≤ v ∧ v ≤ 1)) := by
  obtain ⟨J0, hJ0⟩ : ∃ J : Int →Int → wk_M → Prop, ∀ n k m', J n k m' ↔ (m' = m ∧ (0 ≤ n ∧ n ≤ 251) ∧ 0 ≤ k ∧ k ≤ 4) := ⟨_, fun _ _ _ => Iff.rfl⟩
  refine wC.gen fun Q hQ => wk_E hZ (by exact rfl) [(6, [(3, 46), (3, 60), (3, 60), (1, 0), (2, 0), (0, 0), (1, 0)], fun vs _ m' => (match vs with
    | [n, k] => J0 n k m'
    | _ => False), fun vs _ m' => (match vs with
    | [n, k] => (4 - k : Int).toNat
    | _ => 0))] rfl (fun hr hs => ⟨?_, trivial⟩) (fun hr hs => ?_)
  · have e1 : ab_lo = -2147483648 := rfl
    have e2 : ab_hi = 2147483647 := rfl
    intro m2 hr2 hf2 n nl nh yy0 k kl kh hI
    have hI := (hJ0 _ _ _).mp hI
    obtain ⟨rfl, ⟨n0, n1⟩, k0, k1⟩ := hI
    repeat' first | (intro h; exact absurd h (by decide)) | (intro h; exact absurd rfl h) | refine And.intro ?_ ?_ | intro _ | refine Or.inl ⟨by omega, by omega, ?_⟩ | refine Or.inr ?_ | exact trivial
    all_goals first
      | omega
      | (show (4 - (_ : Int) : Int).toNat < (4 - (_ : Int) : Int).toNat; omega)
      | exact hQ _ _ ⟨_, rfl, rfl, by omega, by omega⟩
      | (show J0 _ _ _; refine (hJ0 _ _ _).mpr ⟨rfl, ⟨by omega, by omega⟩, by omega, by omega⟩)
  · have e1 : ab_lo = -2147483648 := rfl
    have e2 : ab_hi = 2147483647 := rfl
    repeat' first | (intro h; exact absurd h (by decide)) | (intro h; exact absurd rfl h) | refine And.intro ?_ ?_ | intro _ | refine Or.inl ⟨by omega, by omega, ?_⟩ | refine Or.inr ?_ | exact trivial
    all_goals first
      | omega
      | trivial
      | (show J0 _ _ _; refine (hJ0 _ _ _).mpr ⟨rfl, ⟨by omega, by omega⟩, by omega, by omega⟩)

set_option maxHeartbeats 8000000 in
set_option maxRecDepth 20000 in
theorem k172a {Z : sm_Z} (hZ : Z.2.2.2 = tb_N) (m : wk_M) (b : Int) : wC Z 2 172 [63] [.inr (.inl 46), .inr (.inl 60), .inr (.inl 60), .inl b] m (fun r m' => r = none) := by
  obtain ⟨J0, hJ0⟩ : ∃ J : Int →Int →Int → wk_M → Prop, ∀ b g rd m', J b g rd m' ↔ (0 ≤ rd ∧ rd ≤ 300) := ⟨_, fun _ _ _ _ => Iff.rfl⟩
  obtain ⟨J1, hJ1⟩ : ∃ J : Int →Int →Int →Int → wk_M → Prop, ∀ b g rd n m', J b g rd n m' ↔ ((0 ≤ rd ∧ rd < 300) ∧ 0 ≤ n ∧ n ≤ 252) := ⟨_, fun _ _ _ _ _ => Iff.rfl⟩
  obtain ⟨J2, hJ2⟩ : ∃ J : Int →Int →Int →Int →Int → wk_M → Prop, ∀ b g rd n k m', J b g rd n k m' ↔ ((0 ≤ rd ∧ rd < 300) ∧ (0 ≤ n ∧ n < 252) ∧ 0 ≤ k ∧ k ≤ 4) := ⟨_, fun _ _ _ _ _ _ => Iff.rfl⟩
  refine wC.gen fun Q hQ => wk_E hZ (by exact rfl) [(6, [(3, 46), (3, 60), (3, 60), (1, 0), (1, 0), (1, 0), (0, 0), (0, 0), (0, 0), (0, 0)], fun vs _ m' => (match vs with
    | [b, g, rd] => J0 b g rd m'
    | _ => False), fun vs _ m' => (match vs with
    | [b, g, rd] => ((300 - rd) * 10000 + 9999 : Int).toNat
    | _ => 0)), (25, [(3, 46), (3, 60), (3, 60), (1, 0), (1, 0), (1, 0), (1, 0), (0, 0), (0, 0), (0, 0)], fun vs _ m' => (match vs with
    | [b, g, rd, n] => J1 b g rd n m'
    | _ => False), fun vs _ m' => (match vs with
    | [b, g, rd, n] => ((300 - rd) * 10000 + (252 - n) * 10 + 9 : Int).toNat
    | _ => 0)), (80, [(3, 46), (3, 60), (3, 60), (1, 0), (1, 0), (1, 0), (1, 0), (1, 0), (0, 0), (0, 0)], fun vs _ m' => (match vs with
    | [b, g, rd, n, k] => J2 b g rd n k m'
    | _ => False), fun vs _ m' => (match vs with
    | [b, g, rd, n, k] => ((300 - rd) * 10000 + (252 - n) * 10 + (4 - k) : Int).toNat
    | _ => 0))] rfl (fun hr hs => ⟨?_, ⟨?_, ⟨?_, trivial⟩⟩⟩) (fun hr hs => ?_)
  · have e1 : ab_lo = -2147483648 := rfl
    have e2 : ab_hi = 2147483647 := rfl
    intro m2 hr2 hf2 b bl bh g gl gh rd rdl rdh hI
    have hI := (hJ0 _ _ _ _).mp hI
    obtain ⟨r0, r1⟩ := hI
    repeat' first | (intro h; exact absurd h (by decide)) | (intro h; exact absurd rfl h) | refine And.intro ?_ ?_ | intro _ | refine Or.inl ⟨by omega, by omega, ?_⟩ | refine Or.inr ?_ | exact trivial | (refine wk_use (k173s hZ _ _ (by decide) (by decide) _ (by omega) (by omega)) rfl rfl ?_; rintro - _ _ - - - ⟨_, rfl, rfl, _, _⟩; refine Or.inl ⟨[], rfl, ?_⟩) | (refine wk_use (k174a hZ _ _ (by omega) (by omega)) rfl rfl ?_; rintro - _ _ - - - ⟨_, rfl, rfl, _, _⟩; refine Or.inl ⟨[], rfl, ?_⟩)
    all_goals first
      | omega
      | (show ((300 - (_ : Int)) * 10000 + 9999 : Int).toNat < ((300 - (_ : Int)) * 10000 + 9999 : Int).toNat; omega)
      | exact hQ _ _ rfl
      | (show J1 _ _ _ _ _; refine (hJ1 _ _ _ _ _).mpr ⟨⟨by omega, by omega⟩, by omega, by omega⟩)
      | (show (_ : Nat) < (_ : Nat); dsimp only; omega)
  · have e1 : ab_lo = -2147483648 := rfl
    have e2 : ab_hi = 2147483647 := rfl
    intro m2 hr2 hf2 b bl bh g gl gh rd rdl rdh n nl nh hI
    have hI := (hJ1 _ _ _ _ _).mp hI
    obtain ⟨⟨r0, r1⟩, n0, n1⟩ := hI
    repeat' first | (intro h; exact absurd h (by decide)) | (intro h; exact absurd rfl h) | refine And.intro ?_ ?_ | intro _ | refine Or.inl ⟨by omega, by omega, ?_⟩ | refine Or.inr ?_ | exact trivial | (refine wk_use (k173s hZ _ _ (by decide) (by decide) _ (by omega) (by omega)) rfl rfl ?_; rintro - _ _ - - - ⟨_, rfl, rfl, _, _⟩; refine Or.inl ⟨[], rfl, ?_⟩) | (refine wk_use (k174a hZ _ _ (by omega) (by omega)) rfl rfl ?_; rintro - _ _ - - - ⟨_, rfl, rfl, _, _⟩; refine Or.inl ⟨[], rfl, ?_⟩)
    all_goals first
      | omega
      | (show ((300 - (_ : Int)) * 10000 + (252 - (_ : Int)) * 10 + 9 : Int).toNat < ((300 - (_ : Int)) * 10000 + (252 - (_ : Int)) * 10 + 9 : Int).toNat; omega)
      | (show J0 _ _ _ _; refine (hJ0 _ _ _ _).mpr ⟨by omega, by omega⟩)
      | (show J1 _ _ _ _ _; refine (hJ1 _ _ _ _ _).mpr ⟨⟨by omega, by omega⟩, by omega, by omega⟩)
      | (show J2 _ _ _ _ _ _; refine (hJ2 _ _ _ _ _ _).mpr ⟨⟨by omega, by omega⟩, ⟨by omega, by omega⟩, by omega, by omega⟩)
      | (show (_ : Nat) < (_ : Nat); dsimp only; omega)
  · have e1 : ab_lo = -2147483648 := rfl
    have e2 : ab_hi = 2147483647 := rfl
    intro m2 hr2 hf2 b bl bh g gl gh rd rdl rdh n nl nh k kl kh hI
    have hI := (hJ2 _ _ _ _ _ _).mp hI
    obtain ⟨⟨r0, r1⟩, ⟨n0, n1⟩, k0, k1⟩ := hI
    repeat' first | (intro h; exact absurd h (by decide)) | (intro h; exact absurd rfl h) | refine And.intro ?_ ?_ | intro _ | refine Or.inl ⟨by omega, by omega, ?_⟩ | refine Or.inr ?_ | exact trivial | (refine wk_use (k173s hZ _ _ (by decide) (by decide) _ (by omega) (by omega)) rfl rfl ?_; rintro - _ _ - - - ⟨_, rfl, rfl, _, _⟩; refine Or.inl ⟨[], rfl, ?_⟩) | (refine wk_use (k174a hZ _ _ (by omega) (by omega)) rfl rfl ?_; rintro - _ _ - - - ⟨_, rfl, rfl, _, _⟩; refine Or.inl ⟨[], rfl, ?_⟩)
    all_goals first
      | omega
      | (show ((300 - (_ : Int)) * 10000 + (252 - (_ : Int)) * 10 + (4 - (_ : Int)) : Int).toNat < ((300 - (_ : Int)) * 10000 + (252 - (_ : Int)) * 10 + (4 - (_ : Int)) : Int).toNat; omega)
      | (show J1 _ _ _ _ _; refine (hJ1 _ _ _ _ _).mpr ⟨⟨by omega, by omega⟩, by omega, by omega⟩)
      | (show J2 _ _ _ _ _ _; refine (hJ2 _ _ _ _ _ _).mpr ⟨⟨by omega, by omega⟩, ⟨by omega, by omega⟩, by omega, by omega⟩)
      | (show (_ : Nat) < (_ : Nat); dsimp only; omega)
  · have e1 : ab_lo = -2147483648 := rfl
    have e2 : ab_hi = 2147483647 := rfl
    repeat' first | (intro h; exact absurd h (by decide)) | (intro h; exact absurd rfl h) | refine And.intro ?_ ?_ | intro _ | refine Or.inl ⟨by omega, by omega, ?_⟩ | refine Or.inr ?_ | exact trivial
    all_goals first
      | omega
      | trivial
      | (show J0 _ _ _ _; refine (hJ0 _ _ _ _).mpr ⟨by omega, by omega⟩)

set_option maxHeartbeats 8000000 in
set_option maxRecDepth 20000 in
theorem k174u {Z : sm_Z} (hZ : Z.2.2.2 = tb_N) (m : wk_M) (n : Int) (n0 : 0 ≤ n) (n1 : n ≤ 251) : wC Z 1 174 [] [.inr (.inl 46), .inr (.inl 60), .inr (.inl 61), .inl n] m (fun r m' => ∃ v : Int, r = some (.inl v) ∧ m' = m ∧ (0 ≤ v ∧ v ≤ 1)) := by
  obtain ⟨J0, hJ0⟩ : ∃ J : Int →Int → wk_M → Prop, ∀ n k m', J n k m' ↔ (m' = m ∧ (0 ≤ n ∧ n ≤ 251) ∧ 0 ≤ k ∧ k ≤ 4) := ⟨_, fun _ _ _ => Iff.rfl⟩
  refine wC.gen fun Q hQ => wk_E hZ (by exact rfl) [(6, [(3, 46), (3, 60), (3, 61), (1, 0), (2, 0), (0, 0), (1, 0)], fun vs _ m' => (match vs with
    | [n, k] => J0 n k m'
    | _ => False), fun vs _ m' => (match vs with
    | [n, k] => (4 - k : Int).toNat
    | _ => 0))] rfl (fun hr hs => ⟨?_, trivial⟩) (fun hr hs => ?_)
  · have e1 : ab_lo = -2147483648 := rfl
    have e2 : ab_hi = 2147483647 := rfl
    intro m2 hr2 hf2 n nl nh yy0 k kl kh hI
    have hI := (hJ0 _ _ _).mp hI
    obtain ⟨rfl, ⟨n0, n1⟩, k0, k1⟩ := hI
    repeat' first | (intro h; exact absurd h (by decide)) | (intro h; exact absurd rfl h) | refine And.intro ?_ ?_ | intro _ | refine Or.inl ⟨by omega, by omega, ?_⟩ | refine Or.inr ?_ | exact trivial
    all_goals first
      | omega
      | (show (4 - (_ : Int) : Int).toNat < (4 - (_ : Int) : Int).toNat; omega)
      | exact hQ _ _ ⟨_, rfl, rfl, by omega, by omega⟩
      | (show J0 _ _ _; refine (hJ0 _ _ _).mpr ⟨rfl, ⟨by omega, by omega⟩, by omega, by omega⟩)
  · have e1 : ab_lo = -2147483648 := rfl
    have e2 : ab_hi = 2147483647 := rfl
    repeat' first | (intro h; exact absurd h (by decide)) | (intro h; exact absurd rfl h) | refine And.intro ?_ ?_ | intro _ | refine Or.inl ⟨by omega, by omega, ?_⟩ | refine Or.inr ?_ | exact trivial
    all_goals first
      | omega
      | trivial
      | (show J0 _ _ _; refine (hJ0 _ _ _).mpr ⟨rfl, ⟨by omega, by omega⟩, by omega, by omega⟩)

set_option maxHeartbeats 8000000 in
set_option maxRecDepth 20000 in
theorem k172u {Z : sm_Z} (hZ : Z.2.2.2 = tb_N) (m : wk_M) (b : Int) : wC Z 2 172 [63] [.inr (.inl 46), .inr (.inl 60), .inr (.inl 61), .inl b] m (fun r m' => r = none) := by
  obtain ⟨J0, hJ0⟩ : ∃ J : Int →Int →Int → wk_M → Prop, ∀ b g rd m', J b g rd m' ↔ (0 ≤ rd ∧ rd ≤ 300) := ⟨_, fun _ _ _ _ => Iff.rfl⟩
  obtain ⟨J1, hJ1⟩ : ∃ J : Int →Int →Int →Int → wk_M → Prop, ∀ b g rd n m', J b g rd n m' ↔ ((0 ≤ rd ∧ rd < 300) ∧ 0 ≤ n ∧ n ≤ 252) := ⟨_, fun _ _ _ _ _ => Iff.rfl⟩
  obtain ⟨J2, hJ2⟩ : ∃ J : Int →Int →Int →Int →Int → wk_M → Prop, ∀ b g rd n k m', J b g rd n k m' ↔ ((0 ≤ rd ∧ rd < 300) ∧ (0 ≤ n ∧ n < 252) ∧ 0 ≤ k ∧ k ≤ 4) := ⟨_, fun _ _ _ _ _ _ => Iff.rfl⟩
  refine wC.gen fun Q hQ => wk_E hZ (by exact rfl) [(6, [(3, 46), (3, 60), (3, 61), (1, 0), (1, 0), (1, 0), (0, 0), (0, 0), (0, 0), (0, 0)], fun vs _ m' => (match vs with
    | [b, g, rd] => J0 b g rd m'
    | _ => False), fun vs _ m' => (match vs with
    | [b, g, rd] => ((300 - rd) * 10000 + 9999 : Int).toNat
    | _ => 0)), (25, [(3, 46), (3, 60), (3, 61), (1, 0), (1, 0), (1, 0), (1, 0), (0, 0), (0, 0), (0, 0)], fun vs _ m' => (match vs with
    | [b, g, rd, n] => J1 b g rd n m'
    | _ => False), fun vs _ m' => (match vs with
    | [b, g, rd, n] => ((300 - rd) * 10000 + (252 - n) * 10 + 9 : Int).toNat
    | _ => 0)), (80, [(3, 46), (3, 60), (3, 61), (1, 0), (1, 0), (1, 0), (1, 0), (1, 0), (0, 0), (0, 0)], fun vs _ m' => (match vs with
    | [b, g, rd, n, k] => J2 b g rd n k m'
    | _ => False), fun vs _ m' => (match vs with
    | [b, g, rd, n, k] => ((300 - rd) * 10000 + (252 - n) * 10 + (4 - k) : Int).toNat
    | _ => 0))] rfl (fun hr hs => ⟨?_, ⟨?_, ⟨?_, trivial⟩⟩⟩) (fun hr hs => ?_)
  · have e1 : ab_lo = -2147483648 := rfl
    have e2 : ab_hi = 2147483647 := rfl
    intro m2 hr2 hf2 b bl bh g gl gh rd rdl rdh hI
    have hI := (hJ0 _ _ _ _).mp hI
    obtain ⟨r0, r1⟩ := hI
    repeat' first | (intro h; exact absurd h (by decide)) | (intro h; exact absurd rfl h) | refine And.intro ?_ ?_ | intro _ | refine Or.inl ⟨by omega, by omega, ?_⟩ | refine Or.inr ?_ | exact trivial | (refine wk_use (k173s hZ _ _ (by decide) (by decide) _ (by omega) (by omega)) rfl rfl ?_; rintro - _ _ - - - ⟨_, rfl, rfl, _, _⟩; refine Or.inl ⟨[], rfl, ?_⟩) | (refine wk_use (k174u hZ _ _ (by omega) (by omega)) rfl rfl ?_; rintro - _ _ - - - ⟨_, rfl, rfl, _, _⟩; refine Or.inl ⟨[], rfl, ?_⟩)
    all_goals first
      | omega
      | (show ((300 - (_ : Int)) * 10000 + 9999 : Int).toNat < ((300 - (_ : Int)) * 10000 + 9999 : Int).toNat; omega)
      | exact hQ _ _ rfl
      | (show J1 _ _ _ _ _; refine (hJ1 _ _ _ _ _).mpr ⟨⟨by omega, by omega⟩, by omega, by omega⟩)
      | (show (_ : Nat) < (_ : Nat); dsimp only; omega)
  · have e1 : ab_lo = -2147483648 := rfl
    have e2 : ab_hi = 2147483647 := rfl
    intro m2 hr2 hf2 b bl bh g gl gh rd rdl rdh n nl nh hI
    have hI := (hJ1 _ _ _ _ _).mp hI
    obtain ⟨⟨r0, r1⟩, n0, n1⟩ := hI
    repeat' first | (intro h; exact absurd h (by decide)) | (intro h; exact absurd rfl h) | refine And.intro ?_ ?_ | intro _ | refine Or.inl ⟨by omega, by omega, ?_⟩ | refine Or.inr ?_ | exact trivial | (refine wk_use (k173s hZ _ _ (by decide) (by decide) _ (by omega) (by omega)) rfl rfl ?_; rintro - _ _ - - - ⟨_, rfl, rfl, _, _⟩; refine Or.inl ⟨[], rfl, ?_⟩) | (refine wk_use (k174u hZ _ _ (by omega) (by omega)) rfl rfl ?_; rintro - _ _ - - - ⟨_, rfl, rfl, _, _⟩; refine Or.inl ⟨[], rfl, ?_⟩)
    all_goals first
      | omega
      | (show ((300 - (_ : Int)) * 10000 + (252 - (_ : Int)) * 10 + 9 : Int).toNat < ((300 - (_ : Int)) * 10000 + (252 - (_ : Int)) * 10 + 9 : Int).toNat; omega)
      | (show J0 _ _ _ _; refine (hJ0 _ _ _ _).mpr ⟨by omega, by omega⟩)
      | (show J1 _ _ _ _ _; refine (hJ1 _ _ _ _ _).mpr ⟨⟨by omega, by omega⟩, by omega, by omega⟩)
      | (show J2 _ _ _ _ _ _; refine (hJ2 _ _ _ _ _ _).mpr ⟨⟨by omega, by omega⟩, ⟨by omega, by omega⟩, by omega, by omega⟩)
      | (show (_ : Nat) < (_ : Nat); dsimp only; omega)
  · have e1 : ab_lo = -2147483648 := rfl
    have e2 : ab_hi = 2147483647 := rfl
    intro m2 hr2 hf2 b bl bh g gl gh rd rdl rdh n nl nh k kl kh hI
    have hI := (hJ2 _ _ _ _ _ _).mp hI
    obtain ⟨⟨r0, r1⟩, ⟨n0, n1⟩, k0, k1⟩ := hI
    repeat' first | (intro h; exact absurd h (by decide)) | (intro h; exact absurd rfl h) | refine And.intro ?_ ?_ | intro _ | refine Or.inl ⟨by omega, by omega, ?_⟩ | refine Or.inr ?_ | exact trivial | (refine wk_use (k173s hZ _ _ (by decide) (by decide) _ (by omega) (by omega)) rfl rfl ?_; rintro - _ _ - - - ⟨_, rfl, rfl, _, _⟩; refine Or.inl ⟨[], rfl, ?_⟩) | (refine wk_use (k174u hZ _ _ (by omega) (by omega)) rfl rfl ?_; rintro - _ _ - - - ⟨_, rfl, rfl, _, _⟩; refine Or.inl ⟨[], rfl, ?_⟩)
    all_goals first
      | omega
      | (show ((300 - (_ : Int)) * 10000 + (252 - (_ : Int)) * 10 + (4 - (_ : Int)) : Int).toNat < ((300 - (_ : Int)) * 10000 + (252 - (_ : Int)) * 10 + (4 - (_ : Int)) : Int).toNat; omega)
      | (show J1 _ _ _ _ _; refine (hJ1 _ _ _ _ _).mpr ⟨⟨by omega, by omega⟩, by omega, by omega⟩)
      | (show J2 _ _ _ _ _ _; refine (hJ2 _ _ _ _ _ _).mpr ⟨⟨by omega, by omega⟩, ⟨by omega, by omega⟩, by omega, by omega⟩)
      | (show (_ : Nat) < (_ : Nat); dsimp only; omega)
  · have e1 : ab_lo = -2147483648 := rfl
    have e2 : ab_hi = 2147483647 := rfl
    repeat' first | (intro h; exact absurd h (by decide)) | (intro h; exact absurd rfl h) | refine And.intro ?_ ?_ | intro _ | refine Or.inl ⟨by omega, by omega, ?_⟩ | refine Or.inr ?_ | exact trivial
    all_goals first
      | omega
      | trivial
      | (show J0 _ _ _ _; refine (hJ0 _ _ _ _).mpr ⟨by omega, by omega⟩)

set_option maxHeartbeats 8000000 in
set_option maxRecDepth 20000 in
theorem k174d {Z : sm_Z} (hZ : Z.2.2.2 = tb_N) (m : wk_M) (n : Int) (n0 : 0 ≤ n) (n1 : n ≤ 251) : wC Z 1 174 [] [.inr (.inl 46), .inr (.inl 60), .inr (.inl 62), .inl n] m (fun r m' => ∃ v : Int, r = some (.inl v) ∧ m' = m ∧ (0 ≤ v ∧ v ≤ 1)) := by
  obtain ⟨J0, hJ0⟩ : ∃ J : Int →Int → wk_M → Prop, ∀ n k m', J n k m' ↔ (m' = m ∧ (0 ≤ n ∧ n ≤ 251) ∧ 0 ≤ k ∧ k ≤ 4) := ⟨_, fun _ _ _ => Iff.rfl⟩
  refine wC.gen fun Q hQ => wk_E hZ (by exact rfl) [(6, [(3, 46), (3, 60), (3, 62), (1, 0), (2, 0), (0, 0), (1, 0)], fun vs _ m' => (match vs with
    | [n, k] => J0 n k m'
    | _ => False), fun vs _ m' => (match vs with
    | [n, k] => (4 - k : Int).toNat
    | _ => 0))] rfl (fun hr hs => ⟨?_, trivial⟩) (fun hr hs => ?_)
  · have e1 : ab_lo = -2147483648 := rfl
    have e2 : ab_hi = 2147483647 := rfl
    intro m2 hr2 hf2 n nl nh yy0 k kl kh hI
    have hI := (hJ0 _ _ _).mp hI
    obtain ⟨rfl, ⟨n0, n1⟩, k0, k1⟩ := hI
    repeat' first | (intro h; exact absurd h (by decide)) | (intro h; exact absurd rfl h) | refine And.intro ?_ ?_ | intro _ | refine Or.inl ⟨by omega, by omega, ?_⟩ | refine Or.inr ?_ | exact trivial
    all_goals first
      | omega
      | (show (4 - (_ : Int) : Int).toNat < (4 - (_ : Int) : Int).toNat; omega)
      | exact hQ _ _ ⟨_, rfl, rfl, by omega, by omega⟩
      | (show J0 _ _ _; refine (hJ0 _ _ _).mpr ⟨rfl, ⟨by omega, by omega⟩, by omega, by omega⟩)
  · have e1 : ab_lo = -2147483648 := rfl
    have e2 : ab_hi = 2147483647 := rfl
    repeat' first | (intro h; exact absurd h (by decide)) | (intro h; exact absurd rfl h) | refine And.intro ?_ ?_ | intro _ | refine Or.inl ⟨by omega, by omega, ?_⟩ | refine Or.inr ?_ | exact trivial
    all_goals first
      | omega
      | trivial
      | (show J0 _ _ _; refine (hJ0 _ _ _).mpr ⟨rfl, ⟨by omega, by omega⟩, by omega, by omega⟩)

set_option maxHeartbeats 8000000 in
set_option maxRecDepth 20000 in
theorem k172d {Z : sm_Z} (hZ : Z.2.2.2 = tb_N) (m : wk_M) (b : Int) : wC Z 2 172 [63] [.inr (.inl 46), .inr (.inl 60), .inr (.inl 62), .inl b] m (fun r m' => r = none) := by
  obtain ⟨J0, hJ0⟩ : ∃ J : Int →Int →Int → wk_M → Prop, ∀ b g rd m', J b g rd m' ↔ (0 ≤ rd ∧ rd ≤ 300) := ⟨_, fun _ _ _ _ => Iff.rfl⟩
  obtain ⟨J1, hJ1⟩ : ∃ J : Int →Int →Int →Int → wk_M → Prop, ∀ b g rd n m', J b g rd n m' ↔ ((0 ≤ rd ∧ rd < 300) ∧ 0 ≤ n ∧ n ≤ 252) := ⟨_, fun _ _ _ _ _ => Iff.rfl⟩
  obtain ⟨J2, hJ2⟩ : ∃ J : Int →Int →Int →Int →Int → wk_M → Prop, ∀ b g rd n k m', J b g rd n k m' ↔ ((0 ≤ rd ∧ rd < 300) ∧ (0 ≤ n ∧ n < 252) ∧ 0 ≤ k ∧ k ≤ 4) := ⟨_, fun _ _ _ _ _ _ => Iff.rfl⟩
  refine wC.gen fun Q hQ => wk_E hZ (by exact rfl) [(6, [(3, 46), (3, 60), (3, 62), (1, 0), (1, 0), (1, 0), (0, 0), (0, 0), (0, 0), (0, 0)], fun vs _ m' => (match vs with
    | [b, g, rd] => J0 b g rd m'
    | _ => False), fun vs _ m' => (match vs with
    | [b, g, rd] => ((300 - rd) * 10000 + 9999 : Int).toNat
    | _ => 0)), (25, [(3, 46), (3, 60), (3, 62), (1, 0), (1, 0), (1, 0), (1, 0), (0, 0), (0, 0), (0, 0)], fun vs _ m' => (match vs with
    | [b, g, rd, n] => J1 b g rd n m'
    | _ => False), fun vs _ m' => (match vs with
    | [b, g, rd, n] => ((300 - rd) * 10000 + (252 - n) * 10 + 9 : Int).toNat
    | _ => 0)), (80, [(3, 46), (3, 60), (3, 62), (1, 0), (1, 0), (1, 0), (1, 0), (1, 0), (0, 0), (0, 0)], fun vs _ m' => (match vs with
    | [b, g, rd, n, k] => J2 b g rd n k m'
    | _ => False), fun vs _ m' => (match vs with
    | [b, g, rd, n, k] => ((300 - rd) * 10000 + (252 - n) * 10 + (4 - k) : Int).toNat
    | _ => 0))] rfl (fun hr hs => ⟨?_, ⟨?_, ⟨?_, trivial⟩⟩⟩) (fun hr hs => ?_)
  · have e1 : ab_lo = -2147483648 := rfl
    have e2 : ab_hi = 2147483647 := rfl
    intro m2 hr2 hf2 b bl bh g gl gh rd rdl rdh hI
    have hI := (hJ0 _ _ _ _).mp hI
    obtain ⟨r0, r1⟩ := hI
    repeat' first | (intro h; exact absurd h (by decide)) | (intro h; exact absurd rfl h) | refine And.intro ?_ ?_ | intro _ | refine Or.inl ⟨by omega, by omega, ?_⟩ | refine Or.inr ?_ | exact trivial | (refine wk_use (k173s hZ _ _ (by decide) (by decide) _ (by omega) (by omega)) rfl rfl ?_; rintro - _ _ - - - ⟨_, rfl, rfl, _, _⟩; refine Or.inl ⟨[], rfl, ?_⟩) | (refine wk_use (k174d hZ _ _ (by omega) (by omega)) rfl rfl ?_; rintro - _ _ - - - ⟨_, rfl, rfl, _, _⟩; refine Or.inl ⟨[], rfl, ?_⟩)
    all_goals first
      | omega
      | (show ((300 - (_ : Int)) * 10000 + 9999 : Int).toNat < ((300 - (_ : Int)) * 10000 + 9999 : Int).toNat; omega)
      | exact hQ _ _ rfl
      | (show J1 _ _ _ _ _; refine (hJ1 _ _ _ _ _).mpr ⟨⟨by omega, by omega⟩, by omega, by omega⟩)
      | (show (_ : Nat) < (_ : Nat); dsimp only; omega)
  · have e1 : ab_lo = -2147483648 := rfl
    have e2 : ab_hi = 2147483647 := rfl
    intro m2 hr2 hf2 b bl bh g gl gh rd rdl rdh n nl nh hI
    have hI := (hJ1 _ _ _ _ _).mp hI
    obtain ⟨⟨r0, r1⟩, n0, n1⟩ := hI
    repeat' first | (intro h; exact absurd h (by decide)) | (intro h; exact absurd rfl h) | refine And.intro ?_ ?_ | intro _ | refine Or.inl ⟨by omega, by omega, ?_⟩ | refine Or.inr ?_ | exact trivial | (refine wk_use (k173s hZ _ _ (by decide) (by decide) _ (by omega) (by omega)) rfl rfl ?_; rintro - _ _ - - - ⟨_, rfl, rfl, _, _⟩; refine Or.inl ⟨[], rfl, ?_⟩) | (refine wk_use (k174d hZ _ _ (by omega) (by omega)) rfl rfl ?_; rintro - _ _ - - - ⟨_, rfl, rfl, _, _⟩; refine Or.inl ⟨[], rfl, ?_⟩)
    all_goals first
      | omega
      | (show ((300 - (_ : Int)) * 10000 + (252 - (_ : Int)) * 10 + 9 : Int).toNat < ((300 - (_ : Int)) * 10000 + (252 - (_ : Int)) * 10 + 9 : Int).toNat; omega)
      | (show J0 _ _ _ _; refine (hJ0 _ _ _ _).mpr ⟨by omega, by omega⟩)
      | (show J1 _ _ _ _ _; refine (hJ1 _ _ _ _ _).mpr ⟨⟨by omega, by omega⟩, by omega, by omega⟩)
      | (show J2 _ _ _ _ _ _; refine (hJ2 _ _ _ _ _ _).mpr ⟨⟨by omega, by omega⟩, ⟨by omega, by omega⟩, by omega, by omega⟩)
      | (show (_ : Nat) < (_ : Nat); dsimp only; omega)
  · have e1 : ab_lo = -2147483648 := rfl
    have e2 : ab_hi = 2147483647 := rfl
    intro m2 hr2 hf2 b bl bh g gl gh rd rdl rdh n nl nh k kl kh hI
    have hI := (hJ2 _ _ _ _ _ _).mp hI
    obtain ⟨⟨r0, r1⟩, ⟨n0, n1⟩, k0, k1⟩ := hI
    repeat' first | (intro h; exact absurd h (by decide)) | (intro h; exact absurd rfl h) | refine And.intro ?_ ?_ | intro _ | refine Or.inl ⟨by omega, by omega, ?_⟩ | refine Or.inr ?_ | exact trivial | (refine wk_use (k173s hZ _ _ (by decide) (by decide) _ (by omega) (by omega)) rfl rfl ?_; rintro - _ _ - - - ⟨_, rfl, rfl, _, _⟩; refine Or.inl ⟨[], rfl, ?_⟩) | (refine wk_use (k174d hZ _ _ (by omega) (by omega)) rfl rfl ?_; rintro - _ _ - - - ⟨_, rfl, rfl, _, _⟩; refine Or.inl ⟨[], rfl, ?_⟩)
    all_goals first
      | omega
      | (show ((300 - (_ : Int)) * 10000 + (252 - (_ : Int)) * 10 + (4 - (_ : Int)) : Int).toNat < ((300 - (_ : Int)) * 10000 + (252 - (_ : Int)) * 10 + (4 - (_ : Int)) : Int).toNat; omega)
      | (show J1 _ _ _ _ _; refine (hJ1 _ _ _ _ _).mpr ⟨⟨by omega, by omega⟩, by omega, by omega⟩)
      | (show J2 _ _ _ _ _ _; refine (hJ2 _ _ _ _ _ _).mpr ⟨⟨by omega, by omega⟩, ⟨by omega, by omega⟩, by omega, by omega⟩)
      | (show (_ : Nat) < (_ : Nat); dsimp only; omega)
  · have e1 : ab_lo = -2147483648 := rfl
    have e2 : ab_hi = 2147483647 := rfl
    repeat' first | (intro h; exact absurd h (by decide)) | (intro h; exact absurd rfl h) | refine And.intro ?_ ?_ | intro _ | refine Or.inl ⟨by omega, by omega, ?_⟩ | refine Or.inr ?_ | exact trivial
    all_goals first
      | omega
      | trivial
      | (show J0 _ _ _ _; refine (hJ0 _ _ _ _).mpr ⟨by omega, by omega⟩)

set_option maxHeartbeats 8000000 in
set_option maxRecDepth 20000 in
theorem k178 {Z : sm_Z} (hZ : Z.2.2.2 = tb_N) (m : wk_M) (n : Int) (n0 : 0 ≤ n) (n1 : n ≤ 251) : wC Z 3 178 [63] [.inr (.inl 46), .inl n] m (fun r m' => r = none) := by
  refine wC.gen fun Q hQ => wk_E hZ (by exact rfl) [] rfl (fun _ _ => trivial) fun hr hs => ?_
  have e1 : ab_lo = -2147483648 := rfl
  have e2 : ab_hi = 2147483647 := rfl
  repeat' first | refine And.intro ?_ ?_ | intro _ | refine Or.inl ⟨by omega, by omega, ?_⟩ | refine Or.inr ?_ | exact trivial | (refine wk_use (k171 hZ _ _ (by omega) (by omega)) rfl rfl ?_; rintro - _ _ - hfr - rfl; refine Or.inr ?_) | (refine wk_use (k172u hZ _ _) rfl rfl ?_; rintro - _ _ - hfr - rfl; refine Or.inr ?_) | (refine wk_use (k172d hZ _ _) rfl rfl ?_; rintro - _ _ - hfr - rfl; refine Or.inr ?_)
  all_goals first | omega | exact hQ _ _ rfl

set_option maxHeartbeats 8000000 in
set_option maxRecDepth 20000 in
theorem k170 {Z : sm_Z} (hZ : Z.2.2.2 = tb_N) (m : wk_M) (i : Int) (i0 : 0 ≤ i) (i1 : i ≤ 31) (o : 13 ≤ m.1 47 i ∧ m.1 47 i ≤ 16) : wC Z 3 170 [60, 63] [.inr (.inl 46), .inl i] m (fun r m' => ∃ v : Int, r = some (.inl v) ∧ 0 ≤ v ∧ v ≤ 1) := by
  obtain ⟨J0, hJ0⟩ : ∃ J : Int →Int →Int →Int → wk_M → Prop, ∀ i q g t m', J i q g t m' ↔ ((0 ≤ i ∧ i ≤ 31) ∧ (224 ≤ q ∧ q ≤ 245) ∧ (0 ≤ g ∧ g ≤ 1) ∧ 0 ≤ t ∧ t ≤ 3) := ⟨_, fun _ _ _ _ _ => Iff.rfl⟩
  obtain ⟨J1, hJ1⟩ : ∃ J : Int →Int →Int →Int →Int → wk_M → Prop, ∀ i q g t o m', J i q g t o m' ↔ ((0 ≤ i ∧ i ≤ 31) ∧ (224 ≤ q ∧ q ≤ 245) ∧ (0 ≤ g ∧ g ≤ 1) ∧ (0 ≤ t ∧ t < 3) ∧ 0 ≤ o ∧ o ≤ 3) := ⟨_, fun _ _ _ _ _ _ => Iff.rfl⟩
  refine wC.gen fun Q hQ => wk_E hZ (by exact rfl) [(22, [(3, 46), (1, 0), (1, 0), (1, 0), (1, 0), (0, 0), (0, 0), (0, 0)], fun vs _ m' => (match vs with
    | [i, q, g, t] => J0 i q g t m'
    | _ => False), fun vs _ m' => (match vs with
    | [i, q, g, t] => ((3 - t) * 10 + 9 : Int).toNat
    | _ => 0)), (54, [(3, 46), (1, 0), (1, 0), (1, 0), (1, 0), (1, 0), (0, 0), (0, 0)], fun vs _ m' => (match vs with
    | [i, q, g, t, o] => J1 i q g t o m'
    | _ => False), fun vs _ m' => (match vs with
    | [i, q, g, t, o] => ((3 - t) * 10 + (3 - o) : Int).toNat
    | _ => 0))] rfl (fun hr hs => ⟨?_, ⟨?_, trivial⟩⟩) (fun hr hs => ?_)
  · have e1 : ab_lo = -2147483648 := rfl
    have e2 : ab_hi = 2147483647 := rfl
    intro m2 hr2 hf2 i il ih q ql qh g gl gh t tl th hI
    have hI := (hJ0 _ _ _ _ _).mp hI
    obtain ⟨⟨i0, i1⟩, ⟨q0, q1⟩, ⟨g0, g1⟩, t0, t1⟩ := hI
    repeat' first | (intro h; exact absurd h (by decide)) | (intro h; exact absurd rfl h) | refine And.intro ?_ ?_ | intro _ | refine Or.inl ⟨by omega, by omega, ?_⟩ | refine Or.inr ?_ | exact trivial | (refine wk_use (k171 hZ _ _ (by omega) (by omega)) rfl rfl ?_; rintro - _ _ - hfr - rfl; refine Or.inr ?_) | (refine wk_use (k172a hZ _ _) rfl rfl ?_; rintro - _ _ - hfr - rfl; refine Or.inr ?_)
    all_goals first
      | omega
      | (show ((3 - (_ : Int)) * 10 + 9 : Int).toNat < ((3 - (_ : Int)) * 10 + 9 : Int).toNat; omega)
      | exact hQ _ _ ⟨_, rfl, by omega, by omega⟩
      | (show J1 _ _ _ _ _ _; refine (hJ1 _ _ _ _ _ _).mpr ⟨⟨by omega, by omega⟩, ⟨by omega, by omega⟩, ⟨by omega, by omega⟩, ⟨by omega, by omega⟩, by omega, by omega⟩)
      | (show (_ : Nat) < (_ : Nat); dsimp only; omega)
  · have e1 : ab_lo = -2147483648 := rfl
    have e2 : ab_hi = 2147483647 := rfl
    intro m2 hr2 hf2 i il ih q ql qh g gl gh t tl th o ol oh hI
    have hI := (hJ1 _ _ _ _ _ _).mp hI
    obtain ⟨⟨i0, i1⟩, ⟨q0, q1⟩, ⟨g0, g1⟩, ⟨t0, t1⟩, o0, o1⟩ := hI
    repeat' first | (intro h; exact absurd h (by decide)) | (intro h; exact absurd rfl h) | refine And.intro ?_ ?_ | intro _ | refine Or.inl ⟨by omega, by omega, ?_⟩ | refine Or.inr ?_ | exact trivial | (refine wk_use (k173s hZ _ _ (by decide) (by decide) _ (by omega) (by omega)) rfl rfl ?_; rintro - _ _ - - - ⟨_, rfl, rfl, _, _⟩; refine Or.inl ⟨[], rfl, ?_⟩) | (refine wk_use (k173i hZ _ _ (by omega) (by omega) _ (by omega) (by omega)) rfl rfl ?_; rintro - _ _ - - - ⟨_, rfl, rfl, _, _⟩; refine Or.inl ⟨[], rfl, ?_⟩) | (refine wk_use (k169i hZ _ _ (by omega) (by omega) _ (by omega) (by omega)) rfl rfl ?_; rintro - _ _ - hfr - rfl; refine Or.inr ?_)
    all_goals first
      | omega
      | (show ((3 - (_ : Int)) * 10 + (3 - (_ : Int)) : Int).toNat < ((3 - (_ : Int)) * 10 + (3 - (_ : Int)) : Int).toNat; omega)
      | (show J0 _ _ _ _ _; refine (hJ0 _ _ _ _ _).mpr ⟨⟨by omega, by omega⟩, ⟨by omega, by omega⟩, ⟨by omega, by omega⟩, by omega, by omega⟩)
      | (show J1 _ _ _ _ _ _; refine (hJ1 _ _ _ _ _ _).mpr ⟨⟨by omega, by omega⟩, ⟨by omega, by omega⟩, ⟨by omega, by omega⟩, ⟨by omega, by omega⟩, by omega, by omega⟩)
      | (show (_ : Nat) < (_ : Nat); dsimp only; omega)
  · have e1 : ab_lo = -2147483648 := rfl
    have e2 : ab_hi = 2147483647 := rfl
    repeat' first | (intro h; exact absurd h (by decide)) | (intro h; exact absurd rfl h) | refine And.intro ?_ ?_ | intro _ | refine Or.inl ⟨by omega, by omega, ?_⟩ | refine Or.inr ?_ | exact trivial
    all_goals first
      | omega
      | trivial
      | (show J0 _ _ _ _ _; refine (hJ0 _ _ _ _ _).mpr ⟨⟨by omega, by omega⟩, ⟨by omega, by omega⟩, ⟨by omega, by omega⟩, by omega, by omega⟩)

/-! the reference: ways, dependences -/
set_option maxHeartbeats 8000000 in
set_option maxRecDepth 20000 in
theorem k149 {Z : sm_Z} (hZ : Z.2.2.2 = tb_N) (m : wk_M)  : wC Z 3 149 [59] [.inr (.inl 46)] m (fun r m' => r = none) := by
  obtain ⟨J0, hJ0⟩ : ∃ J : Int → wk_M → Prop, ∀ n m', J n m' ↔ (0 ≤ n ∧ n ≤ 36) := ⟨_, fun _ _ => Iff.rfl⟩
  obtain ⟨J1, hJ1⟩ : ∃ J : Int → wk_M → Prop, ∀ n m', J n m' ↔ (0 ≤ n ∧ n ≤ 32) := ⟨_, fun _ _ => Iff.rfl⟩
  obtain ⟨J2, hJ2⟩ : ∃ J : Int →Int → wk_M → Prop, ∀ n wy m', J n wy m' ↔ ((0 ≤ n ∧ n < 32) ∧ 0 ≤ wy ∧ wy ≤ 2) := ⟨_, fun _ _ _ => Iff.rfl⟩
  obtain ⟨J3, hJ3⟩ : ∃ J : Int → wk_M → Prop, ∀ k m', J k m' ↔ (0 ≤ k ∧ k ≤ 36) := ⟨_, fun _ _ => Iff.rfl⟩
  obtain ⟨J4, hJ4⟩ : ∃ J : Int →Int → wk_M → Prop, ∀ k n m', J k n m' ↔ ((0 ≤ k ∧ k < 36) ∧ 0 ≤ n ∧ n ≤ 36) := ⟨_, fun _ _ _ => Iff.rfl⟩
  refine wC.gen fun Q hQ => wk_E hZ (by exact rfl) [(2, [(3, 46), (1, 0), (0, 0), (0, 0)], fun vs _ m' => (match vs with
    | [n] => J0 n m'
    | _ => False), fun vs _ m' => (match vs with
    | [n] => (1000000 - n : Int).toNat
    | _ => 0)), (23, [(3, 46), (1, 0), (0, 0), (0, 0)], fun vs _ m' => (match vs with
    | [n] => J1 n m'
    | _ => False), fun vs _ m' => (match vs with
    | [n] => (500000 + (32 - n) * 10 + 9 : Int).toNat
    | _ => 0)), (33, [(3, 46), (1, 0), (1, 0), (0, 0)], fun vs _ m' => (match vs with
    | [n, wy] => J2 n wy m'
    | _ => False), fun vs _ m' => (match vs with
    | [n, wy] => (500000 + (32 - n) * 10 + (2 - wy) : Int).toNat
    | _ => 0)), (90, [(3, 46), (1, 0), (0, 0), (0, 0)], fun vs _ m' => (match vs with
    | [k] => J3 k m'
    | _ => False), fun vs _ m' => (match vs with
    | [k] => ((36 - k) * 100 + 99 : Int).toNat
    | _ => 0)), (98, [(3, 46), (1, 0), (1, 0), (0, 0)], fun vs _ m' => (match vs with
    | [k, n] => J4 k n m'
    | _ => False), fun vs _ m' => (match vs with
    | [k, n] => ((36 - k) * 100 + (36 - n) : Int).toNat
    | _ => 0))] rfl (fun hr hs => ⟨?_, ⟨?_, ⟨?_, ⟨?_, ⟨?_, trivial⟩⟩⟩⟩⟩) (fun hr hs => ?_)
  · have e1 : ab_lo = -2147483648 := rfl
    have e2 : ab_hi = 2147483647 := rfl
    intro m2 hr2 hf2 n nl nh hI
    have hI := (hJ0 _ _).mp hI
    obtain ⟨n0, n1⟩ := hI
    repeat' first | (intro h; exact absurd h (by decide)) | (intro h; exact absurd rfl h) | refine And.intro ?_ ?_ | intro _ | refine Or.inl ⟨by omega, by omega, ?_⟩ | refine Or.inr ?_ | exact trivial | (refine wk_use (k150 hZ _ _ (by omega) (by omega) _ (by omega) (by omega)) rfl rfl ?_; rintro - _ _ - - - ⟨_, rfl, rfl, _, _⟩; refine Or.inl ⟨[], rfl, ?_⟩)
    all_goals first
      | omega
      | (show (1000000 - (_ : Int) : Int).toNat < (1000000 - (_ : Int) : Int).toNat; omega)
      | (show J0 _ _; refine (hJ0 _ _).mpr ⟨by omega, by omega⟩)
      | (show J1 _ _; refine (hJ1 _ _).mpr ⟨by omega, by omega⟩)
      | (show (_ : Nat) < (_ : Nat); dsimp only; omega)
  · have e1 : ab_lo = -2147483648 := rfl
    have e2 : ab_hi = 2147483647 := rfl
    intro m2 hr2 hf2 n nl nh hI
    have hI := (hJ1 _ _).mp hI
    obtain ⟨n0, n1⟩ := hI
    repeat' first | (intro h; exact absurd h (by decide)) | (intro h; exact absurd rfl h) | refine And.intro ?_ ?_ | intro _ | refine Or.inl ⟨by omega, by omega, ?_⟩ | refine Or.inr ?_ | exact trivial | (refine wk_use (k150 hZ _ _ (by omega) (by omega) _ (by omega) (by omega)) rfl rfl ?_; rintro - _ _ - - - ⟨_, rfl, rfl, _, _⟩; refine Or.inl ⟨[], rfl, ?_⟩)
    all_goals first
      | omega
      | (show (500000 + (32 - (_ : Int)) * 10 + 9 : Int).toNat < (500000 + (32 - (_ : Int)) * 10 + 9 : Int).toNat; omega)
      | (show J1 _ _; refine (hJ1 _ _).mpr ⟨by omega, by omega⟩)
      | (show J2 _ _ _; refine (hJ2 _ _ _).mpr ⟨⟨by omega, by omega⟩, by omega, by omega⟩)
      | (show J3 _ _; refine (hJ3 _ _).mpr ⟨by omega, by omega⟩)
      | (show (_ : Nat) < (_ : Nat); dsimp only; omega)
  · have e1 : ab_lo = -2147483648 := rfl
    have e2 : ab_hi = 2147483647 := rfl
    intro m2 hr2 hf2 n nl nh wy wyl wyh hI
    have hI := (hJ2 _ _ _).mp hI
    obtain ⟨⟨n0, n1⟩, w0, w1⟩ := hI
    repeat' first | (intro h; exact absurd h (by decide)) | (intro h; exact absurd rfl h) | refine And.intro ?_ ?_ | intro _ | refine Or.inl ⟨by omega, by omega, ?_⟩ | refine Or.inr ?_ | exact trivial | (refine wk_use (k150 hZ _ _ (by omega) (by omega) _ (by omega) (by omega)) rfl rfl ?_; rintro - _ _ - - - ⟨_, rfl, rfl, _, _⟩; refine Or.inl ⟨[], rfl, ?_⟩)
    all_goals first
      | omega
      | (show (500000 + (32 - (_ : Int)) * 10 + (2 - (_ : Int)) : Int).toNat < (500000 + (32 - (_ : Int)) * 10 + (2 - (_ : Int)) : Int).toNat; omega)
      | (show J1 _ _; refine (hJ1 _ _).mpr ⟨by omega, by omega⟩)
      | (show J2 _ _ _; refine (hJ2 _ _ _).mpr ⟨⟨by omega, by omega⟩, by omega, by omega⟩)
      | (show (_ : Nat) < (_ : Nat); dsimp only; omega)
  · have e1 : ab_lo = -2147483648 := rfl
    have e2 : ab_hi = 2147483647 := rfl
    intro m2 hr2 hf2 k kl kh hI
    have hI := (hJ3 _ _).mp hI
    obtain ⟨k0, k1⟩ := hI
    repeat' first | (intro h; exact absurd h (by decide)) | (intro h; exact absurd rfl h) | refine And.intro ?_ ?_ | intro _ | refine Or.inl ⟨by omega, by omega, ?_⟩ | refine Or.inr ?_ | exact trivial | (refine wk_use (k150 hZ _ _ (by omega) (by omega) _ (by omega) (by omega)) rfl rfl ?_; rintro - _ _ - - - ⟨_, rfl, rfl, _, _⟩; refine Or.inl ⟨[], rfl, ?_⟩)
    all_goals first
      | omega
      | (show ((36 - (_ : Int)) * 100 + 99 : Int).toNat < ((36 - (_ : Int)) * 100 + 99 : Int).toNat; omega)
      | exact hQ _ _ rfl
      | (show J4 _ _ _; refine (hJ4 _ _ _).mpr ⟨⟨by omega, by omega⟩, by omega, by omega⟩)
      | (show (_ : Nat) < (_ : Nat); dsimp only; omega)
  · have e1 : ab_lo = -2147483648 := rfl
    have e2 : ab_hi = 2147483647 := rfl
    intro m2 hr2 hf2 k kl kh n nl nh hI
    have hI := (hJ4 _ _ _).mp hI
    obtain ⟨⟨k0, k1⟩, n0, n1⟩ := hI
    repeat' first | (intro h; exact absurd h (by decide)) | (intro h; exact absurd rfl h) | refine And.intro ?_ ?_ | intro _ | refine Or.inl ⟨by omega, by omega, ?_⟩ | refine Or.inr ?_ | exact trivial | (refine wk_use (k150 hZ _ _ (by omega) (by omega) _ (by omega) (by omega)) rfl rfl ?_; rintro - _ _ - - - ⟨_, rfl, rfl, _, _⟩; refine Or.inl ⟨[], rfl, ?_⟩)
    all_goals first
      | omega
      | (show ((36 - (_ : Int)) * 100 + (36 - (_ : Int)) : Int).toNat < ((36 - (_ : Int)) * 100 + (36 - (_ : Int)) : Int).toNat; omega)
      | (show J3 _ _; refine (hJ3 _ _).mpr ⟨by omega, by omega⟩)
      | (show J4 _ _ _; refine (hJ4 _ _ _).mpr ⟨⟨by omega, by omega⟩, by omega, by omega⟩)
      | (show (_ : Nat) < (_ : Nat); dsimp only; omega)
  · have e1 : ab_lo = -2147483648 := rfl
    have e2 : ab_hi = 2147483647 := rfl
    repeat' first | (intro h; exact absurd h (by decide)) | (intro h; exact absurd rfl h) | refine And.intro ?_ ?_ | intro _ | refine Or.inl ⟨by omega, by omega, ?_⟩ | refine Or.inr ?_ | exact trivial
    all_goals first
      | omega
      | trivial
      | (show J0 _ _; refine (hJ0 _ _).mpr ⟨by omega, by omega⟩)

set_option maxHeartbeats 8000000 in
set_option maxRecDepth 20000 in
theorem k152 {Z : sm_Z} (hZ : Z.2.2.2 = tb_N) (m : wk_M)  : wC Z 7 152 [60, 61, 62, 63] [.inr (.inl 46)] m (fun r m' => r = none) := by
  obtain ⟨J0, hJ0⟩ : ∃ J : Int → wk_M → Prop, ∀ k m', J k m' ↔ (0 ≤ k ∧ k ≤ 1008) := ⟨_, fun _ _ => Iff.rfl⟩
  obtain ⟨J1, hJ1⟩ : ∃ J : Int → wk_M → Prop, ∀ n m', J n m' ↔ (0 ≤ n ∧ n ≤ 252) := ⟨_, fun _ _ => Iff.rfl⟩
  obtain ⟨J2, hJ2⟩ : ∃ J : Int →Int → wk_M → Prop, ∀ n x m', J n x m' ↔ ((0 ≤ n ∧ n < 252) ∧ 0 ≤ x ∧ x ≤ 252) := ⟨_, fun _ _ _ => Iff.rfl⟩
  obtain ⟨J3, hJ3⟩ : ∃ J : Int → wk_M → Prop, ∀ i m', J i m' ↔ (0 ≤ i ∧ i ≤ 32) := ⟨_, fun _ _ => Iff.rfl⟩
  obtain ⟨J4, hJ4⟩ : ∃ J : Int →Int →Int → wk_M → Prop, ∀ i q j m', J i q j m' ↔ ((0 ≤ i ∧ i < 32) ∧ (224 ≤ q ∧ q ≤ 245) ∧ 0 ≤ j ∧ j ≤ 3) := ⟨_, fun _ _ _ _ => Iff.rfl⟩
  obtain ⟨J5, hJ5⟩ : ∃ J : Int →Int → wk_M → Prop, ∀ g rd m', J g rd m' ↔ (0 ≤ rd ∧ rd ≤ 1000) := ⟨_, fun _ _ _ => Iff.rfl⟩
  obtain ⟨J6, hJ6⟩ : ∃ J : Int →Int →Int → wk_M → Prop, ∀ g rd i m', J g rd i m' ↔ ((0 ≤ rd ∧ rd < 1000) ∧ 0 ≤ i ∧ i ≤ 32) := ⟨_, fun _ _ _ _ => Iff.rfl⟩
  refine wC.gen fun Q hQ => wk_E hZ (by exact rfl) [(2, [(3, 46), (1, 0), (0, 0), (0, 0)], fun vs _ m' => (match vs with
    | [k] => J0 k m'
    | _ => False), fun vs _ m' => (match vs with
    | [k] => (100000000 - k : Int).toNat
    | _ => 0)), (38, [(3, 46), (1, 0), (0, 0), (0, 0)], fun vs _ m' => (match vs with
    | [n] => J1 n m'
    | _ => False), fun vs _ m' => (match vs with
    | [n] => (50000000 + (252 - n) * 1000 + 999 : Int).toNat
    | _ => 0)), (47, [(3, 46), (1, 0), (1, 0), (0, 0)], fun vs _ m' => (match vs with
    | [n, x] => J2 n x m'
    | _ => False), fun vs _ m' => (match vs with
    | [n, x] => (50000000 + (252 - n) * 1000 + (252 - x) : Int).toNat
    | _ => 0)), (86, [(3, 46), (1, 0), (0, 0), (0, 0)], fun vs _ m' => (match vs with
    | [i] => J3 i m'
    | _ => False), fun vs _ m' => (match vs with
    | [i] => (10000000 + (32 - i) * 10 + 9 : Int).toNat
    | _ => 0)), (130, [(3, 46), (1, 0), (1, 0), (1, 0)], fun vs _ m' => (match vs with
    | [i, q, j] => J4 i q j m'
    | _ => False), fun vs _ m' => (match vs with
    | [i, q, j] => (10000000 + (32 - i) * 10 + (3 - j) : Int).toNat
    | _ => 0)), (195, [(3, 46), (1, 0), (1, 0), (0, 0)], fun vs _ m' => (match vs with
    | [g, rd] => J5 g rd m'
    | _ => False), fun vs _ m' => (match vs with
    | [g, rd] => ((1000 - rd) * 100 + 99 : Int).toNat
    | _ => 0)), (210, [(3, 46), (1, 0), (1, 0), (1, 0)], fun vs _ m' => (match vs with
    | [g, rd, i] => J6 g rd i m'
    | _ => False), fun vs _ m' => (match vs with
    | [g, rd, i] => ((1000 - rd) * 100 + (32 - i) : Int).toNat
    | _ => 0))] rfl (fun hr hs => ⟨?_, ⟨?_, ⟨?_, ⟨?_, ⟨?_, ⟨?_, ⟨?_, trivial⟩⟩⟩⟩⟩⟩⟩) (fun hr hs => ?_)
  · have e1 : ab_lo = -2147483648 := rfl
    have e2 : ab_hi = 2147483647 := rfl
    intro m2 hr2 hf2 k kl kh hI
    have hI := (hJ0 _ _).mp hI
    obtain ⟨n0, n1⟩ := hI
    repeat' first | (intro h; exact absurd h (by decide)) | (intro h; exact absurd rfl h) | refine And.intro ?_ ?_ | intro _ | refine Or.inl ⟨by omega, by omega, ?_⟩ | refine Or.inr ?_ | exact trivial | (refine wk_use (k153 hZ _ _ _ (by omega) (by omega) (by omega) (by omega)) rfl rfl ?_; rintro - _ _ - - - ⟨_, rfl, rfl, _, _⟩; refine Or.inl ⟨[], rfl, ?_⟩) | (refine wk_use (k169i hZ _ _ (by omega) (by omega) _ (by omega) (by omega)) rfl rfl ?_; rintro - _ _ - hfr - rfl; refine Or.inr ?_) | (refine wk_use (k169u hZ _ _ (by omega) (by omega) _ (by omega) (by omega)) rfl rfl ?_; rintro - _ _ - hfr - rfl; refine Or.inr ?_) | (refine wk_use (k169d hZ _ _ (by omega) (by omega) _ (by omega) (by omega)) rfl rfl ?_; rintro - _ _ - hfr - rfl; refine Or.inr ?_) | (refine wk_use (k148 hZ _ _ (by omega) (by omega)) rfl rfl ?_; rintro - _ _ - - - ⟨_, rfl, rfl, ⟨rfl, hcl⟩ | ⟨rfl, _⟩⟩; refine Or.inl ⟨[], rfl, ?_⟩) | (refine wk_use (k170 hZ _ _ (by omega) (by omega) (by omega)) rfl rfl ?_; rintro - _ _ - hfr - ⟨_, rfl, _, _⟩; refine Or.inr ?_)
    all_goals first
      | omega
      | (show (100000000 - (_ : Int) : Int).toNat < (100000000 - (_ : Int) : Int).toNat; omega)
      | (show J0 _ _; refine (hJ0 _ _).mpr ⟨by omega, by omega⟩)
      | (show J1 _ _; refine (hJ1 _ _).mpr ⟨by omega, by omega⟩)
      | (show (_ : Nat) < (_ : Nat); dsimp only; omega)
  · have e1 : ab_lo = -2147483648 := rfl
    have e2 : ab_hi = 2147483647 := rfl
    intro m2 hr2 hf2 n nl nh hI
    have hI := (hJ1 _ _).mp hI
    obtain ⟨n0, n1⟩ := hI
    repeat' first | (intro h; exact absurd h (by decide)) | (intro h; exact absurd rfl h) | refine And.intro ?_ ?_ | intro _ | refine Or.inl ⟨by omega, by omega, ?_⟩ | refine Or.inr ?_ | exact trivial | (refine wk_use (k153 hZ _ _ _ (by omega) (by omega) (by omega) (by omega)) rfl rfl ?_; rintro - _ _ - - - ⟨_, rfl, rfl, _, _⟩; refine Or.inl ⟨[], rfl, ?_⟩) | (refine wk_use (k169i hZ _ _ (by omega) (by omega) _ (by omega) (by omega)) rfl rfl ?_; rintro - _ _ - hfr - rfl; refine Or.inr ?_) | (refine wk_use (k169u hZ _ _ (by omega) (by omega) _ (by omega) (by omega)) rfl rfl ?_; rintro - _ _ - hfr - rfl; refine Or.inr ?_) | (refine wk_use (k169d hZ _ _ (by omega) (by omega) _ (by omega) (by omega)) rfl rfl ?_; rintro - _ _ - hfr - rfl; refine Or.inr ?_) | (refine wk_use (k148 hZ _ _ (by omega) (by omega)) rfl rfl ?_; rintro - _ _ - - - ⟨_, rfl, rfl, ⟨rfl, hcl⟩ | ⟨rfl, _⟩⟩; refine Or.inl ⟨[], rfl, ?_⟩) | (refine wk_use (k170 hZ _ _ (by omega) (by omega) (by omega)) rfl rfl ?_; rintro - _ _ - hfr - ⟨_, rfl, _, _⟩; refine Or.inr ?_)
    all_goals first
      | omega
      | (show (50000000 + (252 - (_ : Int)) * 1000 + 999 : Int).toNat < (50000000 + (252 - (_ : Int)) * 1000 + 999 : Int).toNat; omega)
      | (show J1 _ _; refine (hJ1 _ _).mpr ⟨by omega, by omega⟩)
      | (show J2 _ _ _; refine (hJ2 _ _ _).mpr ⟨⟨by omega, by omega⟩, by omega, by omega⟩)
      | (show J3 _ _; refine (hJ3 _ _).mpr ⟨by omega, by omega⟩)
      | (show (_ : Nat) < (_ : Nat); dsimp only; omega)
  · have e1 : ab_lo = -2147483648 := rfl
    have e2 : ab_hi = 2147483647 := rfl
    intro m2 hr2 hf2 n nl nh x xl xh hI
    have hI := (hJ2 _ _ _).mp hI
    obtain ⟨⟨n0, n1⟩, x0, x1⟩ := hI
    repeat' first | (intro h; exact absurd h (by decide)) | (intro h; exact absurd rfl h) | refine And.intro ?_ ?_ | intro _ | refine Or.inl ⟨by omega, by omega, ?_⟩ | refine Or.inr ?_ | exact trivial | (refine wk_use (k153 hZ _ _ _ (by omega) (by omega) (by omega) (by omega)) rfl rfl ?_; rintro - _ _ - - - ⟨_, rfl, rfl, _, _⟩; refine Or.inl ⟨[], rfl, ?_⟩) | (refine wk_use (k169i hZ _ _ (by omega) (by omega) _ (by omega) (by omega)) rfl rfl ?_; rintro - _ _ - hfr - rfl; refine Or.inr ?_) | (refine wk_use (k169u hZ _ _ (by omega) (by omega) _ (by omega) (by omega)) rfl rfl ?_; rintro - _ _ - hfr - rfl; refine Or.inr ?_) | (refine wk_use (k169d hZ _ _ (by omega) (by omega) _ (by omega) (by omega)) rfl rfl ?_; rintro - _ _ - hfr - rfl; refine Or.inr ?_) | (refine wk_use (k148 hZ _ _ (by omega) (by omega)) rfl rfl ?_; rintro - _ _ - - - ⟨_, rfl, rfl, ⟨rfl, hcl⟩ | ⟨rfl, _⟩⟩; refine Or.inl ⟨[], rfl, ?_⟩) | (refine wk_use (k170 hZ _ _ (by omega) (by omega) (by omega)) rfl rfl ?_; rintro - _ _ - hfr - ⟨_, rfl, _, _⟩; refine Or.inr ?_)
    all_goals first
      | omega
      | (show (50000000 + (252 - (_ : Int)) * 1000 + (252 - (_ : Int)) : Int).toNat < (50000000 + (252 - (_ : Int)) * 1000 + (252 - (_ : Int)) : Int).toNat; omega)
      | (show J1 _ _; refine (hJ1 _ _).mpr ⟨by omega, by omega⟩)
      | (show J2 _ _ _; refine (hJ2 _ _ _).mpr ⟨⟨by omega, by omega⟩, by omega, by omega⟩)
      | (show (_ : Nat) < (_ : Nat); dsimp only; omega)
  · have e1 : ab_lo = -2147483648 := rfl
    have e2 : ab_hi = 2147483647 := rfl
    intro m2 hr2 hf2 i il ih hI
    have hI := (hJ3 _ _).mp hI
    obtain ⟨n0, n1⟩ := hI
    repeat' first | (intro h; exact absurd h (by decide)) | (intro h; exact absurd rfl h) | refine And.intro ?_ ?_ | intro _ | refine Or.inl ⟨by omega, by omega, ?_⟩ | refine Or.inr ?_ | exact trivial | (refine wk_use (k153 hZ _ _ _ (by omega) (by omega) (by omega) (by omega)) rfl rfl ?_; rintro - _ _ - - - ⟨_, rfl, rfl, _, _⟩; refine Or.inl ⟨[], rfl, ?_⟩) | (refine wk_use (k169i hZ _ _ (by omega) (by omega) _ (by omega) (by omega)) rfl rfl ?_; rintro - _ _ - hfr - rfl; refine Or.inr ?_) | (refine wk_use (k169u hZ _ _ (by omega) (by omega) _ (by omega) (by omega)) rfl rfl ?_; rintro - _ _ - hfr - rfl; refine Or.inr ?_) | (refine wk_use (k169d hZ _ _ (by omega) (by omega) _ (by omega) (by omega)) rfl rfl ?_; rintro - _ _ - hfr - rfl; refine Or.inr ?_) | (refine wk_use (k148 hZ _ _ (by omega) (by omega)) rfl rfl ?_; rintro - _ _ - - - ⟨_, rfl, rfl, ⟨rfl, hcl⟩ | ⟨rfl, _⟩⟩; refine Or.inl ⟨[], rfl, ?_⟩) | (refine wk_use (k170 hZ _ _ (by omega) (by omega) (by omega)) rfl rfl ?_; rintro - _ _ - hfr - ⟨_, rfl, _, _⟩; refine Or.inr ?_)
    all_goals first
      | omega
      | (show (10000000 + (32 - (_ : Int)) * 10 + 9 : Int).toNat < (10000000 + (32 - (_ : Int)) * 10 + 9 : Int).toNat; omega)
      | (show J3 _ _; refine (hJ3 _ _).mpr ⟨by omega, by omega⟩)
      | (show J4 _ _ _ _; refine (hJ4 _ _ _ _).mpr ⟨⟨by omega, by omega⟩, ⟨by omega, by omega⟩, by omega, by omega⟩)
      | (show J5 _ _ _; refine (hJ5 _ _ _).mpr ⟨by omega, by omega⟩)
      | (show (_ : Nat) < (_ : Nat); dsimp only; omega)
  · have e1 : ab_lo = -2147483648 := rfl
    have e2 : ab_hi = 2147483647 := rfl
    intro m2 hr2 hf2 i il ih q ql qh j jl jh hI
    have hI := (hJ4 _ _ _ _).mp hI
    obtain ⟨⟨n0, n1⟩, ⟨q0, q1⟩, j0, j1⟩ := hI
    repeat' first | (intro h; exact absurd h (by decide)) | (intro h; exact absurd rfl h) | refine And.intro ?_ ?_ | intro _ | refine Or.inl ⟨by omega, by omega, ?_⟩ | refine Or.inr ?_ | exact trivial | (refine wk_use (k153 hZ _ _ _ (by omega) (by omega) (by omega) (by omega)) rfl rfl ?_; rintro - _ _ - - - ⟨_, rfl, rfl, _, _⟩; refine Or.inl ⟨[], rfl, ?_⟩) | (refine wk_use (k169i hZ _ _ (by omega) (by omega) _ (by omega) (by omega)) rfl rfl ?_; rintro - _ _ - hfr - rfl; refine Or.inr ?_) | (refine wk_use (k169u hZ _ _ (by omega) (by omega) _ (by omega) (by omega)) rfl rfl ?_; rintro - _ _ - hfr - rfl; refine Or.inr ?_) | (refine wk_use (k169d hZ _ _ (by omega) (by omega) _ (by omega) (by omega)) rfl rfl ?_; rintro - _ _ - hfr - rfl; refine Or.inr ?_) | (refine wk_use (k148 hZ _ _ (by omega) (by omega)) rfl rfl ?_; rintro - _ _ - - - ⟨_, rfl, rfl, ⟨rfl, hcl⟩ | ⟨rfl, _⟩⟩; refine Or.inl ⟨[], rfl, ?_⟩) | (refine wk_use (k170 hZ _ _ (by omega) (by omega) (by omega)) rfl rfl ?_; rintro - _ _ - hfr - ⟨_, rfl, _, _⟩; refine Or.inr ?_)
    all_goals first
      | omega
      | (show (10000000 + (32 - (_ : Int)) * 10 + (3 - (_ : Int)) : Int).toNat < (10000000 + (32 - (_ : Int)) * 10 + (3 - (_ : Int)) : Int).toNat; omega)
      | (show J3 _ _; refine (hJ3 _ _).mpr ⟨by omega, by omega⟩)
      | (show J4 _ _ _ _; refine (hJ4 _ _ _ _).mpr ⟨⟨by omega, by omega⟩, ⟨by omega, by omega⟩, by omega, by omega⟩)
      | (show (_ : Nat) < (_ : Nat); dsimp only; omega)
  · have e1 : ab_lo = -2147483648 := rfl
    have e2 : ab_hi = 2147483647 := rfl
    intro m2 hr2 hf2 g gl gh rd rdl rdh hI
    have hI := (hJ5 _ _ _).mp hI
    obtain ⟨r0, r1⟩ := hI
    repeat' first | (intro h; exact absurd h (by decide)) | (intro h; exact absurd rfl h) | refine And.intro ?_ ?_ | intro _ | refine Or.inl ⟨by omega, by omega, ?_⟩ | refine Or.inr ?_ | exact trivial | (refine wk_use (k153 hZ _ _ _ (by omega) (by omega) (by omega) (by omega)) rfl rfl ?_; rintro - _ _ - - - ⟨_, rfl, rfl, _, _⟩; refine Or.inl ⟨[], rfl, ?_⟩) | (refine wk_use (k169i hZ _ _ (by omega) (by omega) _ (by omega) (by omega)) rfl rfl ?_; rintro - _ _ - hfr - rfl; refine Or.inr ?_) | (refine wk_use (k169u hZ _ _ (by omega) (by omega) _ (by omega) (by omega)) rfl rfl ?_; rintro - _ _ - hfr - rfl; refine Or.inr ?_) | (refine wk_use (k169d hZ _ _ (by omega) (by omega) _ (by omega) (by omega)) rfl rfl ?_; rintro - _ _ - hfr - rfl; refine Or.inr ?_) | (refine wk_use (k148 hZ _ _ (by omega) (by omega)) rfl rfl ?_; rintro - _ _ - - - ⟨_, rfl, rfl, ⟨rfl, hcl⟩ | ⟨rfl, _⟩⟩; refine Or.inl ⟨[], rfl, ?_⟩) | (refine wk_use (k170 hZ _ _ (by omega) (by omega) (by omega)) rfl rfl ?_; rintro - _ _ - hfr - ⟨_, rfl, _, _⟩; refine Or.inr ?_)
    all_goals first
      | omega
      | (show ((1000 - (_ : Int)) * 100 + 99 : Int).toNat < ((1000 - (_ : Int)) * 100 + 99 : Int).toNat; omega)
      | exact hQ _ _ rfl
      | (show J6 _ _ _ _; refine (hJ6 _ _ _ _).mpr ⟨⟨by omega, by omega⟩, by omega, by omega⟩)
      | (show (_ : Nat) < (_ : Nat); dsimp only; omega)
  · have e1 : ab_lo = -2147483648 := rfl
    have e2 : ab_hi = 2147483647 := rfl
    intro m2 hr2 hf2 g gl gh rd rdl rdh i il ih hI
    have hI := (hJ6 _ _ _ _).mp hI
    obtain ⟨⟨r0, r1⟩, i0, i1⟩ := hI
    repeat' first | (intro h; exact absurd h (by decide)) | (intro h; exact absurd rfl h) | refine And.intro ?_ ?_ | intro _ | refine Or.inl ⟨by omega, by omega, ?_⟩ | refine Or.inr ?_ | exact trivial | (refine wk_use (k153 hZ _ _ _ (by omega) (by omega) (by omega) (by omega)) rfl rfl ?_; rintro - _ _ - - - ⟨_, rfl, rfl, _, _⟩; refine Or.inl ⟨[], rfl, ?_⟩) | (refine wk_use (k169i hZ _ _ (by omega) (by omega) _ (by omega) (by omega)) rfl rfl ?_; rintro - _ _ - hfr - rfl; refine Or.inr ?_) | (refine wk_use (k169u hZ _ _ (by omega) (by omega) _ (by omega) (by omega)) rfl rfl ?_; rintro - _ _ - hfr - rfl; refine Or.inr ?_) | (refine wk_use (k169d hZ _ _ (by omega) (by omega) _ (by omega) (by omega)) rfl rfl ?_; rintro - _ _ - hfr - rfl; refine Or.inr ?_) | (refine wk_use (k148 hZ _ _ (by omega) (by omega)) rfl rfl ?_; rintro - _ _ - - - ⟨_, rfl, rfl, ⟨rfl, hcl⟩ | ⟨rfl, _⟩⟩; refine Or.inl ⟨[], rfl, ?_⟩) | (refine wk_use (k170 hZ _ _ (by omega) (by omega) (by omega)) rfl rfl ?_; rintro - _ _ - hfr - ⟨_, rfl, _, _⟩; refine Or.inr ?_)
    all_goals first
      | omega
      | (show ((1000 - (_ : Int)) * 100 + (32 - (_ : Int)) : Int).toNat < ((1000 - (_ : Int)) * 100 + (32 - (_ : Int)) : Int).toNat; omega)
      | (show J5 _ _ _; refine (hJ5 _ _ _).mpr ⟨by omega, by omega⟩)
      | (show J6 _ _ _ _; refine (hJ6 _ _ _ _).mpr ⟨⟨by omega, by omega⟩, by omega, by omega⟩)
      | (show (_ : Nat) < (_ : Nat); dsimp only; omega)
  · have e1 : ab_lo = -2147483648 := rfl
    have e2 : ab_hi = 2147483647 := rfl
    repeat' first | (intro h; exact absurd h (by decide)) | (intro h; exact absurd rfl h) | refine And.intro ?_ ?_ | intro _ | refine Or.inl ⟨by omega, by omega, ?_⟩ | refine Or.inr ?_ | exact trivial
    all_goals first
      | omega
      | trivial
      | (show J0 _ _; refine (hJ0 _ _).mpr ⟨by omega, by omega⟩)
