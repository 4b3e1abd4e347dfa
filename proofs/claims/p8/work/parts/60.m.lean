/-! the class's Slice, Flows, Order, Log -/
set_option maxHeartbeats 8000000 in
set_option maxRecDepth 20000 in
theorem k21 {Z : sm_Z} (hZ : Z.2.2.2 = tb_N) (m : wk_M)  : wC Z 1 21 [44] [.inr (.inl 44)] m (fun r m' => r = none ∧ m'.1 44 (1 : Nat) = 0) := by
  refine wC.gen fun Q hQ => wk_E hZ (by exact rfl) [] rfl (fun _ _ => trivial) fun hr hs => ?_
  have e1 : ab_lo = -2147483648 := rfl
  have e2 : ab_hi = 2147483647 := rfl
  repeat' first | refine And.intro ?_ ?_ | intro _ | refine Or.inl ⟨by omega, by omega, ?_⟩ | refine Or.inr ?_ | exact trivial
  all_goals first | omega | exact hQ _ _ ⟨rfl, by simp (decide := true) only [wk_u_at, wk_ul_1, and_self, and_true, true_and, and_false, false_and, if_true, if_false]⟩

set_option maxHeartbeats 8000000 in
set_option maxRecDepth 20000 in
theorem k100 {Z : sm_Z} (hZ : Z.2.2.2 = tb_N) (m : wk_M)  : wC Z 1 100 [] [.inr (.inl 44)] m (fun r m' => ∃ v : Int, r = some (.inl v) ∧ m' = m) := by
  refine wC.gen fun Q hQ => wk_E hZ (by exact rfl) [] rfl (fun _ _ => trivial) fun hr hs => ?_
  have e1 : ab_lo = -2147483648 := rfl
  have e2 : ab_hi = 2147483647 := rfl
  repeat' first | refine And.intro ?_ ?_ | intro _ | refine Or.inl ⟨by omega, by omega, ?_⟩ | refine Or.inr ?_ | exact trivial | (refine wk_use (k206 _ _) rfl rfl ?_; rintro - _ _ - - - ⟨_, rfl, rfl, _, _⟩; refine Or.inl ⟨[], rfl, ?_⟩)
  all_goals first | omega | exact hQ _ _ ⟨_, rfl, rfl⟩

set_option maxHeartbeats 8000000 in
set_option maxRecDepth 20000 in
theorem k102 {Z : sm_Z} (hZ : Z.2.2.2 = tb_N) (m : wk_M)  : wC Z 1 102 [] [.inr (.inl 44)] m (fun r m' => ∃ v : Int, r = some (.inl v) ∧ m' = m ∧ ((v = 1 ∧ m.1 44 (1 : Nat) = 1) ∨ v = 0)) := by
  refine wC.gen fun Q hQ => wk_E hZ (by exact rfl) [] rfl (fun _ _ => trivial) fun hr hs => ?_
  have e1 : ab_lo = -2147483648 := rfl
  have e2 : ab_hi = 2147483647 := rfl
  repeat' first | refine And.intro ?_ ?_ | intro _ | refine Or.inl ⟨by omega, by omega, ?_⟩ | refine Or.inr ?_ | exact trivial
  all_goals first | omega | exact hQ _ _ ⟨_, rfl, rfl, by omega⟩

set_option maxHeartbeats 8000000 in
set_option maxRecDepth 20000 in
theorem k107 {Z : sm_Z} (hZ : Z.2.2.2 = tb_N) (m : wk_M)  : wC Z 1 107 [] [.inr (.inl 44)] m (fun r m' => ∃ v : Int, r = some (.inl v) ∧ m' = m ∧ (v = m.1 44 (1 : Nat) ∧ 0 ≤ v ∧ v ≤ 1)) := by
  refine wC.gen fun Q hQ => wk_E hZ (by exact rfl) [] rfl (fun _ _ => trivial) fun hr hs => ?_
  have e1 : ab_lo = -2147483648 := rfl
  have e2 : ab_hi = 2147483647 := rfl
  repeat' first | refine And.intro ?_ ?_ | intro _ | refine Or.inl ⟨by omega, by omega, ?_⟩ | refine Or.inr ?_ | exact trivial
  all_goals first | omega | exact hQ _ _ ⟨_, rfl, rfl, by omega⟩

set_option maxHeartbeats 8000000 in
set_option maxRecDepth 20000 in
theorem k108 {Z : sm_Z} (hZ : Z.2.2.2 = tb_N) (m : wk_M)  : wC Z 1 108 [] [.inr (.inl 44)] m (fun r m' => ∃ v : Int, r = some (.inl v) ∧ m' = m) := by
  refine wC.gen fun Q hQ => wk_E hZ (by exact rfl) [] rfl (fun _ _ => trivial) fun hr hs => ?_
  have e1 : ab_lo = -2147483648 := rfl
  have e2 : ab_hi = 2147483647 := rfl
  repeat' first | refine And.intro ?_ ?_ | intro _ | refine Or.inl ⟨by omega, by omega, ?_⟩ | refine Or.inr ?_ | exact trivial
  all_goals first | omega | exact hQ _ _ ⟨_, rfl, rfl⟩

set_option maxHeartbeats 8000000 in
set_option maxRecDepth 20000 in
theorem k112 {Z : sm_Z} (hZ : Z.2.2.2 = tb_N) (m : wk_M)  : wC Z 1 112 [] [.inr (.inl 44)] m (fun r m' => ∃ v : Int, r = some (.inl v) ∧ m' = m ∧ (0 ≤ v ∧ v ≤ 31)) := by
  refine wC.gen fun Q hQ => wk_E hZ (by exact rfl) [] rfl (fun _ _ => trivial) fun hr hs => ?_
  have e1 : ab_lo = -2147483648 := rfl
  have e2 : ab_hi = 2147483647 := rfl
  repeat' first | refine And.intro ?_ ?_ | intro _ | refine Or.inl ⟨by omega, by omega, ?_⟩ | refine Or.inr ?_ | exact trivial
  all_goals first | omega | exact hQ _ _ ⟨_, rfl, rfl, by omega⟩

set_option maxHeartbeats 8000000 in
set_option maxRecDepth 20000 in
theorem k99 {Z : sm_Z} (hZ : Z.2.2.2 = tb_N) (m : wk_M)  : wC Z 2 99 [45] [.inr (.inl 44), .inr (.inl 25)] m (fun r m' => r = none) := by
  obtain ⟨J0, hJ0⟩ : ∃ J : Int → wk_M → Prop, ∀ t m', J t m' ↔ (0 ≤ t ∧ t ≤ 8) := ⟨_, fun _ _ => Iff.rfl⟩
  refine wC.gen fun Q hQ => wk_E hZ (by exact rfl) [(2, [(3, 44), (3, 25), (1, 0)], fun vs _ m' => (match vs with
    | [t] => J0 t m'
    | _ => False), fun vs _ m' => (match vs with
    | [t] => (8 - t : Int).toNat
    | _ => 0))] rfl (fun hr hs => ⟨?_, trivial⟩) (fun hr hs => ?_)
  · have e1 : ab_lo = -2147483648 := rfl
    have e2 : ab_hi = 2147483647 := rfl
    intro m2 hr2 hf2 t tl th hI
    have hI := (hJ0 _ _).mp hI
    obtain ⟨t0, t1⟩ := hI
    repeat' first | (intro h; exact absurd h (by decide)) | (intro h; exact absurd rfl h) | refine And.intro ?_ ?_ | intro _ | refine Or.inl ⟨by omega, by omega, ?_⟩ | refine Or.inr ?_ | exact trivial | (refine wk_use (k79 hZ _ _ (by omega) (by omega)) rfl rfl ?_; rintro - _ _ - - - ⟨_, rfl, rfl, _⟩; refine Or.inl ⟨[], rfl, ?_⟩)
    all_goals first
      | omega
      | (show (8 - (_ : Int) : Int).toNat < (8 - (_ : Int) : Int).toNat; omega)
      | exact hQ _ _ rfl
      | (show J0 _ _; refine (hJ0 _ _).mpr ⟨by omega, by omega⟩)
  · have e1 : ab_lo = -2147483648 := rfl
    have e2 : ab_hi = 2147483647 := rfl
    repeat' first | (intro h; exact absurd h (by decide)) | (intro h; exact absurd rfl h) | refine And.intro ?_ ?_ | intro _ | refine Or.inl ⟨by omega, by omega, ?_⟩ | refine Or.inr ?_ | exact trivial | (refine wk_use (k79 hZ _ _ (by omega) (by omega)) rfl rfl ?_; rintro - _ _ - - - ⟨_, rfl, rfl, _⟩; refine Or.inl ⟨[], rfl, ?_⟩)
    all_goals first
      | omega
      | trivial
      | (show J0 _ _; refine (hJ0 _ _).mpr ⟨by omega, by omega⟩)

set_option maxHeartbeats 8000000 in
set_option maxRecDepth 20000 in
theorem k98 {Z : sm_Z} (hZ : Z.2.2.2 = tb_N) (m : wk_M) (i : Int) (i0 : 0 ≤ i) (i1 : i ≤ 31) (b : Int) (b0 : 0 ≤ b) (b1 : b ≤ 1) : wC Z 3 98 [44, 45] [.inr (.inl 44), .inl i, .inl b, .inr (.inl 25)] m (fun r m' => r = none ∧ m'.1 44 (1 : Nat) = 1) := by
  refine wC.gen fun Q hQ => wk_E hZ (by exact rfl) [] rfl (fun _ _ => trivial) fun hr hs => ?_
  have e1 : ab_lo = -2147483648 := rfl
  have e2 : ab_hi = 2147483647 := rfl
  repeat' first | refine And.intro ?_ ?_ | intro _ | refine Or.inl ⟨by omega, by omega, ?_⟩ | refine Or.inr ?_ | exact trivial | (refine wk_use (wfI 45 8 0 _ rfl rfl (by decide) (by decide)) rfl rfl ?_; rintro - _ _ - hfr - ⟨rfl, -⟩; refine Or.inr ?_) | (refine wk_use (k99 hZ _) rfl rfl ?_; rintro - _ _ - hfr - rfl; refine Or.inr ?_)
  all_goals first | omega | exact hQ _ _ ⟨rfl, by simp (decide := true) only [wk_u_at, wk_ul_1, and_self, and_true, true_and, and_false, false_and, if_true, if_false]⟩

set_option maxHeartbeats 8000000 in
set_option maxRecDepth 20000 in
theorem k105 {Z : sm_Z} (hZ : Z.2.2.2 = tb_N) (m : wk_M) (i : Int) (i0 : 0 ≤ i) (i1 : i ≤ 31) (p t : Int) (p0 : 0 ≤ p) (p1 : p ≤ 3) (t0 : 0 ≤ t) (t1 : t ≤ 6) : wC Z 2 105 [] [.inr (.inl 44), .inl i, .inl p, .inl t] m (fun r m' => ∃ v : Int, r = some (.inl v) ∧ m' = m ∧ (0 ≤ v ∧ v ≤ 1)) := by
  refine wC.gen fun Q hQ => wk_E hZ (by exact rfl) [] rfl (fun _ _ => trivial) fun hr hs => ?_
  have e1 : ab_lo = -2147483648 := rfl
  have e2 : ab_hi = 2147483647 := rfl
  repeat' first | refine And.intro ?_ ?_ | intro _ | refine Or.inl ⟨by omega, by omega, ?_⟩ | refine Or.inr ?_ | exact trivial | (refine wk_use (k67 hZ _ _ _) rfl rfl ?_; rintro - _ _ - - - ⟨_, rfl, rfl, rfl | rfl⟩; refine Or.inl ⟨[], rfl, ?_⟩)
  all_goals first | omega | exact hQ _ _ ⟨_, rfl, rfl, by omega⟩

set_option maxHeartbeats 8000000 in
set_option maxRecDepth 20000 in
theorem k104 {Z : sm_Z} (hZ : Z.2.2.2 = tb_N) (m : wk_M) (i : Int) (i0 : 0 ≤ i) (i1 : i ≤ 31) (p : Int) (p0 : 0 ≤ p) (p1 : p ≤ 3) (h : dM m.1) : wC Z 5 104 [25, 26, 27, 45] [.inr (.inl 44), .inr (.inl 25), .inl i, .inl p] m (fun r m' => ∃ v : Int, r = some (.inl v) ∧ 0 ≤ v ∧ v ≤ 1) := by
  obtain ⟨J0, hJ0⟩ : ∃ J : Int →Int →Int →Int → wk_M → Prop, ∀ i p g t m', J i p g t m' ↔ ((0 ≤ i ∧ i ≤ 31) ∧ (0 ≤ p ∧ p ≤ 3) ∧ (0 ≤ g ∧ g ≤ 1) ∧ 1 ≤ t ∧ t ≤ 4) := ⟨_, fun _ _ _ _ _ => Iff.rfl⟩
  refine wC.gen fun Q hQ => wk_E hZ (by exact rfl) [(6, [(3, 44), (3, 25), (1, 0), (1, 0), (1, 0), (1, 0)], fun vs _ m' => (match vs with
    | [i, p, g, t] => J0 i p g t m'
    | _ => False), fun vs _ m' => (match vs with
    | [i, p, g, t] => (4 - t : Int).toNat
    | _ => 0))] rfl (fun hr hs => ⟨?_, trivial⟩) (fun hr hs => ?_)
  · have e1 : ab_lo = -2147483648 := rfl
    have e2 : ab_hi = 2147483647 := rfl
    intro m2 hr2 hf2 i il ih p pl ph g gl gh t tl th hI
    have hI := (hJ0 _ _ _ _ _).mp hI
    obtain ⟨⟨i0, i1⟩, ⟨p0, p1⟩, ⟨g0, g1⟩, t0, t1⟩ := hI
    have hd := dM_fr hf2 (by decide) (by decide) h
    repeat' first | (intro h; exact absurd h (by decide)) | (intro h; exact absurd rfl h) | refine And.intro ?_ ?_ | intro _ | refine Or.inl ⟨by omega, by omega, ?_⟩ | refine Or.inr ?_ | exact trivial | (refine wk_use (k105 hZ _ _ (by omega) (by omega) _ _ (by omega) (by omega) (by omega) (by omega)) rfl rfl ?_; rintro - _ _ - - - ⟨_, rfl, rfl, _, _⟩; refine Or.inl ⟨[], rfl, ?_⟩) | (refine wk_use (k50 hZ _ _ _ (by omega) (by omega) (by omega) (by omega)) rfl rfl ?_; rintro - _ _ - - - ⟨_, rfl, rfl, rfl⟩; refine Or.inl ⟨[], rfl, ?_⟩) | (refine wk_use (k78 hZ _ _ _ (by omega) (by omega) hd) rfl rfl ?_; rintro - _ _ - hfr - rfl; refine Or.inr ?_) | (refine wk_use (k99 hZ _) rfl rfl ?_; rintro - _ _ - hfr - rfl; refine Or.inr ?_)
    all_goals first
      | omega
      | (show (4 - (_ : Int) : Int).toNat < (4 - (_ : Int) : Int).toNat; omega)
      | exact hQ _ _ ⟨_, rfl, by omega, by omega⟩
      | (show J0 _ _ _ _ _; refine (hJ0 _ _ _ _ _).mpr ⟨⟨by omega, by omega⟩, ⟨by omega, by omega⟩, ⟨by omega, by omega⟩, by omega, by omega⟩)
  · have e1 : ab_lo = -2147483648 := rfl
    have e2 : ab_hi = 2147483647 := rfl
    repeat' first | (intro h; exact absurd h (by decide)) | (intro h; exact absurd rfl h) | refine And.intro ?_ ?_ | intro _ | refine Or.inl ⟨by omega, by omega, ?_⟩ | refine Or.inr ?_ | exact trivial
    all_goals first
      | omega
      | trivial
      | (show J0 _ _ _ _ _; refine (hJ0 _ _ _ _ _).mpr ⟨⟨by omega, by omega⟩, ⟨by omega, by omega⟩, ⟨by omega, by omega⟩, by omega, by omega⟩)

set_option maxHeartbeats 8000000 in
set_option maxRecDepth 20000 in
theorem k103 {Z : sm_Z} (hZ : Z.2.2.2 = tb_N) (m : wk_M) (h : dM m.1) : wC Z 6 103 [25, 26, 27, 45] [.inr (.inl 44), .inr (.inl 25), .inr (.inl 1)] m (fun r m' => r = none) := by
  obtain ⟨J0, hJ0⟩ : ∃ J : Int →Int → wk_M → Prop, ∀ g rd m', J g rd m' ↔ (0 ≤ rd ∧ rd ≤ 252) := ⟨_, fun _ _ _ => Iff.rfl⟩
  obtain ⟨J1, hJ1⟩ : ∃ J : Int →Int →Int → wk_M → Prop, ∀ g rd i m', J g rd i m' ↔ ((0 ≤ rd ∧ rd < 252) ∧ 0 ≤ i ∧ i ≤ 32) := ⟨_, fun _ _ _ _ => Iff.rfl⟩
  refine wC.gen fun Q hQ => wk_E hZ (by exact rfl) [(5, [(3, 44), (3, 25), (3, 1), (1, 0), (1, 0), (0, 0)], fun vs _ m' => (match vs with
    | [g, rd] => J0 g rd m'
    | _ => False), fun vs _ m' => (match vs with
    | [g, rd] => ((252 - rd) * 100 + 99 : Int).toNat
    | _ => 0)), (22, [(3, 44), (3, 25), (3, 1), (1, 0), (1, 0), (1, 0)], fun vs _ m' => (match vs with
    | [g, rd, i] => J1 g rd i m'
    | _ => False), fun vs _ m' => (match vs with
    | [g, rd, i] => ((252 - rd) * 100 + (32 - i) : Int).toNat
    | _ => 0))] rfl (fun hr hs => ⟨?_, ⟨?_, trivial⟩⟩) (fun hr hs => ?_)
  · have e1 : ab_lo = -2147483648 := rfl
    have e2 : ab_hi = 2147483647 := rfl
    intro m2 hr2 hf2 g gl gh rd rdl rdh hI
    have hI := (hJ0 _ _ _).mp hI
    obtain ⟨r0, r1⟩ := hI
    repeat' first | (intro h; exact absurd h (by decide)) | (intro h; exact absurd rfl h) | refine And.intro ?_ ?_ | intro _ | refine Or.inl ⟨by omega, by omega, ?_⟩ | refine Or.inr ?_ | exact trivial
    all_goals first
      | omega
      | (show ((252 - (_ : Int)) * 100 + 99 : Int).toNat < ((252 - (_ : Int)) * 100 + 99 : Int).toNat; omega)
      | exact hQ _ _ rfl
      | (show J1 _ _ _ _; refine (hJ1 _ _ _ _).mpr ⟨⟨by omega, by omega⟩, by omega, by omega⟩)
      | (show (_ : Nat) < (_ : Nat); dsimp only; omega)
  · have e1 : ab_lo = -2147483648 := rfl
    have e2 : ab_hi = 2147483647 := rfl
    intro m2 hr2 hf2 g gl gh rd rdl rdh i il ih hI
    have hI := (hJ1 _ _ _ _).mp hI
    obtain ⟨⟨r0, r1⟩, i0, i1⟩ := hI
    have hd := dM_fr hf2 (by decide) (by decide) h
    repeat' first | (intro h; exact absurd h (by decide)) | (intro h; exact absurd rfl h) | refine And.intro ?_ ?_ | intro _ | refine Or.inl ⟨by omega, by omega, ?_⟩ | refine Or.inr ?_ | exact trivial | (refine wk_use (k33 hZ _ _) rfl rfl ?_; rintro - _ _ - - - ⟨_, rfl, rfl, ⟨rfl, _⟩ | ⟨rfl, _⟩⟩; refine Or.inl ⟨[], rfl, ?_⟩) | (refine wk_use (k34 hZ _ _ (by omega) (by omega)) rfl rfl ?_; rintro - _ _ - - - ⟨_, rfl, rfl, _⟩; refine Or.inl ⟨[], rfl, ?_⟩) | (refine wk_use (k104 hZ _ _ (by omega) (by omega) _ (by omega) (by omega) hd) rfl rfl ?_; rintro - _ _ - hfr - ⟨_, rfl, _, _⟩; refine Or.inr ?_)
    all_goals first
      | omega
      | (show ((252 - (_ : Int)) * 100 + (32 - (_ : Int)) : Int).toNat < ((252 - (_ : Int)) * 100 + (32 - (_ : Int)) : Int).toNat; omega)
      | (show J0 _ _ _; refine (hJ0 _ _ _).mpr ⟨by omega, by omega⟩)
      | (show J1 _ _ _ _; refine (hJ1 _ _ _ _).mpr ⟨⟨by omega, by omega⟩, by omega, by omega⟩)
      | (show (_ : Nat) < (_ : Nat); dsimp only; omega)
  · have e1 : ab_lo = -2147483648 := rfl
    have e2 : ab_hi = 2147483647 := rfl
    repeat' first | (intro h; exact absurd h (by decide)) | (intro h; exact absurd rfl h) | refine And.intro ?_ ?_ | intro _ | refine Or.inl ⟨by omega, by omega, ?_⟩ | refine Or.inr ?_ | exact trivial
    all_goals first
      | omega
      | trivial
      | (show J0 _ _ _; refine (hJ0 _ _ _).mpr ⟨by omega, by omega⟩)

/-! Flows, Order -/
set_option maxHeartbeats 8000000 in
set_option maxRecDepth 20000 in
theorem k77 {Z : sm_Z} (hZ : Z.2.2.2 = tb_N) (m : wk_M) (i : Int) (i0 : 0 ≤ i) (i1 : i ≤ 31) : wC Z 1 77 [] [.inr (.inl 42), .inl i] m (fun r m' => ∃ v : Int, r = some (.inl v) ∧ m' = m ∧ ((v = 1 ∧ (m.1 2 i = 17 ∨ m.1 2 i = 5)) ∨ v = 0)) := by
  refine wC.gen fun Q hQ => wk_E hZ (by exact rfl) [] rfl (fun _ _ => trivial) fun hr hs => ?_
  have e1 : ab_lo = -2147483648 := rfl
  have e2 : ab_hi = 2147483647 := rfl
  repeat' first | refine And.intro ?_ ?_ | intro _ | refine Or.inl ⟨by omega, by omega, ?_⟩ | refine Or.inr ?_ | exact trivial
  all_goals first | omega | exact hQ _ _ ⟨_, rfl, rfl, by omega⟩

set_option maxHeartbeats 8000000 in
set_option maxRecDepth 20000 in
theorem k76 {Z : sm_Z} (hZ : Z.2.2.2 = tb_N) (m : wk_M) (h : dM m.1) : wC Z 5 76 [25, 26, 27, 43] [.inr (.inl 42), .inr (.inl 25)] m (fun r m' => r = none) := by
  obtain ⟨J0, hJ0⟩ : ∃ J : Int → wk_M → Prop, ∀ i m', J i m' ↔ (0 ≤ i ∧ i ≤ 32) := ⟨_, fun _ _ => Iff.rfl⟩
  refine wC.gen fun Q hQ => wk_E hZ (by exact rfl) [(2, [(3, 42), (3, 25), (1, 0)], fun vs _ m' => (match vs with
    | [i] => J0 i m'
    | _ => False), fun vs _ m' => (match vs with
    | [i] => (32 - i : Int).toNat
    | _ => 0))] rfl (fun hr hs => ⟨?_, trivial⟩) (fun hr hs => ?_)
  · have e1 : ab_lo = -2147483648 := rfl
    have e2 : ab_hi = 2147483647 := rfl
    intro m2 hr2 hf2 i il ih hI
    have hI := (hJ0 _ _).mp hI
    obtain ⟨i0, i1⟩ := hI
    have hd := dM_fr hf2 (by decide) (by decide) h
    repeat' first | (intro h; exact absurd h (by decide)) | (intro h; exact absurd rfl h) | refine And.intro ?_ ?_ | intro _ | refine Or.inl ⟨by omega, by omega, ?_⟩ | refine Or.inr ?_ | exact trivial | (refine wk_use (k77 hZ _ _ (by omega) (by omega)) rfl rfl ?_; rintro - _ _ - - - ⟨_, rfl, rfl, ⟨rfl, _⟩ | rfl⟩; refine Or.inl ⟨[], rfl, ?_⟩) | (refine wk_use (k78 hZ _ _ _ (by omega) (by omega) hd) rfl rfl ?_; rintro - _ _ - hfr - rfl; refine Or.inr ?_) | (refine wk_use (k79 hZ _ _ (by omega) (by omega)) rfl rfl ?_; rintro - _ _ - - ho ⟨_, rfl, rfl, _⟩; have := ho.1; have := ho.2; clear ho; refine Or.inl ⟨[], rfl, ?_⟩)
    all_goals first
      | omega
      | (show (32 - (_ : Int) : Int).toNat < (32 - (_ : Int) : Int).toNat; omega)
      | exact hQ _ _ rfl
      | (show J0 _ _; refine (hJ0 _ _).mpr ⟨by omega, by omega⟩)
  · have e1 : ab_lo = -2147483648 := rfl
    have e2 : ab_hi = 2147483647 := rfl
    repeat' first | (intro h; exact absurd h (by decide)) | (intro h; exact absurd rfl h) | refine And.intro ?_ ?_ | intro _ | refine Or.inl ⟨by omega, by omega, ?_⟩ | refine Or.inr ?_ | exact trivial
    all_goals first
      | omega
      | trivial
      | (show J0 _ _; refine (hJ0 _ _).mpr ⟨by omega, by omega⟩)

set_option maxHeartbeats 8000000 in
set_option maxRecDepth 20000 in
theorem k83 {Z : sm_Z} (hZ : Z.2.2.2 = tb_N) (m : wk_M) (x : Int) : wC Z 1 83 [] [.inr (.inl 38), .inl x] m (fun r m' => ∃ v : Int, r = some (.inl v) ∧ m' = m ∧ ((v = 1 ∧ 0 ≤ x ∧ x < m.1 38 (0 : Nat) ∧ m.1 38 (0 : Nat) ≤ 5) ∨ (v = 0 ∧ (x < 0 ∨ m.1 38 (0 : Nat) ≤ x)))) := by
  refine wC.gen fun Q hQ => wk_E hZ (by exact rfl) [] rfl (fun _ _ => trivial) fun hr hs => ?_
  have e1 : ab_lo = -2147483648 := rfl
  have e2 : ab_hi = 2147483647 := rfl
  repeat' first | refine And.intro ?_ ?_ | intro _ | refine Or.inl ⟨by omega, by omega, ?_⟩ | refine Or.inr ?_ | exact trivial
  all_goals first | omega | exact hQ _ _ ⟨_, rfl, rfl, by omega⟩

set_option maxHeartbeats 8000000 in
set_option maxRecDepth 20000 in
theorem k85 {Z : sm_Z} (hZ : Z.2.2.2 = tb_N) (m : wk_M) (x y : Int) (x0 : 0 ≤ x) (x1 : x ≤ 4) : wC Z 2 85 [] [.inr (.inl 38), .inl x, .inl y] m (fun r m' => ∃ v : Int, r = some (.inl v) ∧ m' = m ∧ (v = 1 ∨ v = 0)) := by
  refine wC.gen fun Q hQ => wk_E hZ (by exact rfl) [] rfl (fun _ _ => trivial) fun hr hs => ?_
  have e1 : ab_lo = -2147483648 := rfl
  have e2 : ab_hi = 2147483647 := rfl
  repeat' first | refine And.intro ?_ ?_ | intro _ | refine Or.inl ⟨by omega, by omega, ?_⟩ | refine Or.inr ?_ | exact trivial | (refine wk_use (k67 hZ _ _ _) rfl rfl ?_; rintro - _ _ - - - ⟨_, rfl, rfl, rfl | rfl⟩; refine Or.inl ⟨[], rfl, ?_⟩)
  all_goals first | omega | exact hQ _ _ ⟨_, rfl, rfl, by omega⟩

set_option maxHeartbeats 8000000 in
set_option maxRecDepth 20000 in
theorem k87 {Z : sm_Z} (hZ : Z.2.2.2 = tb_N) (m : wk_M) (b k l : Int) (k0 : 0 ≤ k) (k1 : k ≤ 3) (l0 : 0 ≤ l) (l1 : l ≤ 4) : wC Z 1 87 [40, 41] [.inr (.inl 38), .inl b, .inl k, .inl l] m (fun r m' => r = none ∧ ((¬ b = 0 ∧ m' = wk_u m 41 k l) ∨ (b = 0 ∧ m' = wk_u m 40 k l))) := by
  refine wC.gen fun Q hQ => wk_E hZ (by exact rfl) [] rfl (fun _ _ => trivial) fun hr hs => ?_
  have e1 : ab_lo = -2147483648 := rfl
  have e2 : ab_hi = 2147483647 := rfl
  repeat' first | refine And.intro ?_ ?_ | intro _ | refine Or.inl ⟨by omega, by omega, ?_⟩ | refine Or.inr ?_ | exact trivial
  all_goals first | omega | exact hQ _ _ ⟨rfl, Or.inl ⟨by omega, rfl⟩⟩ | exact hQ _ _ ⟨rfl, Or.inr ⟨by omega, rfl⟩⟩

set_option maxHeartbeats 8000000 in
set_option maxRecDepth 20000 in
theorem k138 {Z : sm_Z} (hZ : Z.2.2.2 = tb_N) (m : wk_M) (k : Int) (k0 : 0 ≤ k) (k1 : k ≤ 3) : wC Z 1 138 [] [.inr (.inl 38), .inl k] m (fun r m' => ∃ v : Int, r = some (.inl v) ∧ m' = m ∧ (0 ≤ v ∧ v ≤ 4)) := by
  refine wC.gen fun Q hQ => wk_E hZ (by exact rfl) [] rfl (fun _ _ => trivial) fun hr hs => ?_
  have e1 : ab_lo = -2147483648 := rfl
  have e2 : ab_hi = 2147483647 := rfl
  repeat' first | refine And.intro ?_ ?_ | intro _ | refine Or.inl ⟨by omega, by omega, ?_⟩ | refine Or.inr ?_ | exact trivial
  all_goals first | omega | exact hQ _ _ ⟨_, rfl, rfl, by omega⟩

set_option maxHeartbeats 8000000 in
set_option maxRecDepth 20000 in
theorem k139 {Z : sm_Z} (hZ : Z.2.2.2 = tb_N) (m : wk_M) (k : Int) (k0 : 0 ≤ k) (k1 : k ≤ 3) : wC Z 1 139 [] [.inr (.inl 38), .inl k] m (fun r m' => ∃ v : Int, r = some (.inl v) ∧ m' = m ∧ (0 ≤ v ∧ v ≤ 4)) := by
  refine wC.gen fun Q hQ => wk_E hZ (by exact rfl) [] rfl (fun _ _ => trivial) fun hr hs => ?_
  have e1 : ab_lo = -2147483648 := rfl
  have e2 : ab_hi = 2147483647 := rfl
  repeat' first | refine And.intro ?_ ?_ | intro _ | refine Or.inl ⟨by omega, by omega, ?_⟩ | refine Or.inr ?_ | exact trivial
  all_goals first | omega | exact hQ _ _ ⟨_, rfl, rfl, by omega⟩

set_option maxHeartbeats 8000000 in
set_option maxRecDepth 20000 in
theorem k137 {Z : sm_Z} (hZ : Z.2.2.2 = tb_N) (m : wk_M) (i : Int) (i0 : 0 ≤ i) (i1 : i ≤ 31) (hc : i < m.1 1 (4 : Nat)) (hO : cOps m.1) : wC Z 3 137 [] [.inr (.inl 42), .inl i] m (fun r m' => ∃ v : Int, r = some (.inl v) ∧ m' = m) := by
  obtain ⟨J0, hJ0⟩ : ∃ J : Int →Int →Int →Int → wk_M → Prop, ∀ s l p i m', J s l p i m' ↔ (m' = m ∧ (0 ≤ s ∧ s ≤ 31) ∧ 0 ≤ i ∧ i ≤ 32) := ⟨_, fun _ _ _ _ _ => Iff.rfl⟩
  refine wC.gen fun Q hQ => wk_E hZ (by exact rfl) [(55, [(3, 42), (1, 0), (1, 0), (1, 0), (1, 0)], fun vs _ m' => (match vs with
    | [s, l, p, i] => J0 s l p i m'
    | _ => False), fun vs _ m' => (match vs with
    | [s, l, p, i] => (32 - i : Int).toNat
    | _ => 0))] rfl (fun hr hs => ⟨?_, trivial⟩) (fun hr hs => ?_)
  · have e1 : ab_lo = -2147483648 := rfl
    have e2 : ab_hi = 2147483647 := rfl
    intro m2 hr2 hf2 s sl sh l ll lh p pl ph i il ih hI
    have hI := (hJ0 _ _ _ _ _).mp hI
    obtain ⟨rfl, ⟨s0, s1⟩, i0, i1⟩ := hI
    have hcc := cnt32 hr2
    have qa : i < m2.1 1 (4 : Nat) → m2.1 2 i = 6 → 0 ≤ m2.1 4 i ∧ m2.1 4 i ≤ 3 := fun h e => (hO i i0 h).2.1 (by unfold nA; omega)
    repeat' first | (intro h; exact absurd h (by decide)) | (intro h; exact absurd rfl h) | refine And.intro ?_ ?_ | intro _ | refine Or.inl ⟨by omega, by omega, ?_⟩ | refine Or.inr ?_ | exact trivial | (refine wk_use (k67 hZ _ _ _) rfl rfl ?_; rintro - _ _ - - - ⟨_, rfl, rfl, rfl | rfl⟩; refine Or.inl ⟨[], rfl, ?_⟩) | (refine wk_use (k139 hZ _ _ (by omega) (by omega)) rfl rfl ?_; rintro - _ _ - - - ⟨_, rfl, rfl, _, _⟩; refine Or.inl ⟨[], rfl, ?_⟩) | (refine wk_use (k85 hZ _ _ _ (by omega) (by omega)) rfl rfl ?_; rintro - _ _ - - - ⟨_, rfl, rfl, rfl | rfl⟩; refine Or.inl ⟨[], rfl, ?_⟩)
    all_goals first
      | omega
      | (show (32 - (_ : Int) : Int).toNat < (32 - (_ : Int) : Int).toNat; omega)
      | exact hQ _ _ ⟨_, rfl, rfl⟩
      | (show J0 _ _ _ _ _; refine (hJ0 _ _ _ _ _).mpr ⟨rfl, ⟨by omega, by omega⟩, by omega, by omega⟩)
  · have e1 : ab_lo = -2147483648 := rfl
    have e2 : ab_hi = 2147483647 := rfl
    have qd : m.1 2 i = 17 → 0 ≤ m.1 3 i ∧ m.1 3 i ≤ 3 := fun e => (hO i i0 hc).1 (by unfold nD; omega)
    repeat' first | (intro h; exact absurd h (by decide)) | (intro h; exact absurd rfl h) | refine And.intro ?_ ?_ | intro _ | refine Or.inl ⟨by omega, by omega, ?_⟩ | refine Or.inr ?_ | exact trivial | (refine wk_use (k77 hZ _ _ (by omega) (by omega)) rfl rfl ?_; rintro - _ _ - - - ⟨_, rfl, rfl, ⟨rfl, _⟩ | rfl⟩; refine Or.inl ⟨[], rfl, ?_⟩) | (refine wk_use (k93 hZ _) rfl rfl ?_; rintro - _ _ - - - ⟨_, rfl, rfl, _⟩; refine Or.inl ⟨[], rfl, ?_⟩) | (refine wk_use (k138 hZ _ _ (by omega) (by omega)) rfl rfl ?_; rintro - _ _ - - - ⟨_, rfl, rfl, _, _⟩; refine Or.inl ⟨[], rfl, ?_⟩)
    all_goals first
      | omega
      | trivial
      | exact hQ _ _ ⟨_, rfl, rfl⟩
      | (show J0 _ _ _ _ _; refine (hJ0 _ _ _ _ _).mpr ⟨rfl, ⟨by omega, by omega⟩, by omega, by omega⟩)

set_option maxHeartbeats 8000000 in
set_option maxRecDepth 20000 in
theorem k136 {Z : sm_Z} (hZ : Z.2.2.2 = tb_N) (m : wk_M) (hO : cOps m.1) : wC Z 4 136 [] [.inr (.inl 42)] m (fun r m' => ∃ v : Int, r = some (.inl v) ∧ m' = m) := by
  obtain ⟨J0, hJ0⟩ : ∃ J : Int →Int → wk_M → Prop, ∀ s i m', J s i m' ↔ (m' = m ∧ (0 ≤ s ∧ s ≤ 63 * i) ∧ 0 ≤ i ∧ i ≤ 32) := ⟨_, fun _ _ _ => Iff.rfl⟩
  refine wC.gen fun Q hQ => wk_E hZ (by exact rfl) [(4, [(3, 42), (1, 0), (1, 0)], fun vs _ m' => (match vs with
    | [s, i] => J0 s i m'
    | _ => False), fun vs _ m' => (match vs with
    | [s, i] => (32 - i : Int).toNat
    | _ => 0))] rfl (fun hr hs => ⟨?_, trivial⟩) (fun hr hs => ?_)
  · have e1 : ab_lo = -2147483648 := rfl
    have e2 : ab_hi = 2147483647 := rfl
    intro m2 hr2 hf2 s sl sh i il ih hI
    have hI := (hJ0 _ _ _).mp hI
    obtain ⟨rfl, ⟨s0, s1⟩, i0, i1⟩ := hI
    repeat' first | (intro h; exact absurd h (by decide)) | (intro h; exact absurd rfl h) | refine And.intro ?_ ?_ | intro _ | refine Or.inl ⟨by omega, by omega, ?_⟩ | refine Or.inr ?_ | exact trivial | (refine wk_use (k137 hZ _ _ (by omega) (by omega) (by omega) hO) rfl rfl ?_; rintro - _ _ - - - ⟨_, rfl, rfl⟩; refine Or.inl ⟨[], rfl, ?_⟩) | (refine wk_use (k206 _ _) rfl rfl ?_; rintro - _ _ - - - ⟨_, rfl, rfl, _, _⟩; refine Or.inl ⟨[], rfl, ?_⟩)
    all_goals first
      | omega
      | (show (32 - (_ : Int) : Int).toNat < (32 - (_ : Int) : Int).toNat; omega)
      | exact hQ _ _ ⟨_, rfl, rfl⟩
      | (show J0 _ _ _; refine (hJ0 _ _ _).mpr ⟨rfl, ⟨by omega, by omega⟩, by omega, by omega⟩)
  · have e1 : ab_lo = -2147483648 := rfl
    have e2 : ab_hi = 2147483647 := rfl
    repeat' first | (intro h; exact absurd h (by decide)) | (intro h; exact absurd rfl h) | refine And.intro ?_ ?_ | intro _ | refine Or.inl ⟨by omega, by omega, ?_⟩ | refine Or.inr ?_ | exact trivial
    all_goals first
      | omega
      | trivial
      | (show J0 _ _ _; refine (hJ0 _ _ _).mpr ⟨rfl, ⟨by omega, by omega⟩, by omega, by omega⟩)

set_option maxHeartbeats 8000000 in
set_option maxRecDepth 20000 in
theorem k141 {Z : sm_Z} (hZ : Z.2.2.2 = tb_N) (m : wk_M) (x : Int) (hO : cOps m.1) : wC Z 4 141 [] [.inr (.inl 42), .inl x] m (fun r m' => ∃ v : Int, r = some (.inl v) ∧ m' = m) := by
  obtain ⟨J0, hJ0⟩ : ∃ J : Int →Int →Int → wk_M → Prop, ∀ x b s m', J x b s m' ↔ (m' = m ∧ (0 ≤ b ∧ b ≤ 32 * s) ∧ 0 ≤ s ∧ s ≤ 32) := ⟨_, fun _ _ _ _ => Iff.rfl⟩
  obtain ⟨J1, hJ1⟩ : ∃ J : Int →Int →Int →Int →Int → wk_M → Prop, ∀ x b s p i m', J x b s p i m' ↔ (m' = m ∧ (0 ≤ b ∧ b ≤ 32 * s + i) ∧ (0 ≤ s ∧ s < 32) ∧ 0 ≤ i ∧ i ≤ 32) := ⟨_, fun _ _ _ _ _ _ => Iff.rfl⟩
  refine wC.gen fun Q hQ => wk_E hZ (by exact rfl) [(4, [(3, 42), (1, 0), (1, 0), (1, 0), (0, 0), (0, 0)], fun vs _ m' => (match vs with
    | [x, b, s] => J0 x b s m'
    | _ => False), fun vs _ m' => (match vs with
    | [x, b, s] => ((32 - s) * 100 + 99 : Int).toNat
    | _ => 0)), (25, [(3, 42), (1, 0), (1, 0), (1, 0), (1, 0), (1, 0)], fun vs _ m' => (match vs with
    | [x, b, s, p, i] => J1 x b s p i m'
    | _ => False), fun vs _ m' => (match vs with
    | [x, b, s, p, i] => ((32 - s) * 100 + (32 - i) : Int).toNat
    | _ => 0))] rfl (fun hr hs => ⟨?_, ⟨?_, trivial⟩⟩) (fun hr hs => ?_)
  · have e1 : ab_lo = -2147483648 := rfl
    have e2 : ab_hi = 2147483647 := rfl
    intro m2 hr2 hf2 x xl xh b bl bh s sl sh hI
    have hI := (hJ0 _ _ _ _).mp hI
    obtain ⟨rfl, ⟨b0, b1⟩, s0, s1⟩ := hI
    repeat' first | (intro h; exact absurd h (by decide)) | (intro h; exact absurd rfl h) | refine And.intro ?_ ?_ | intro _ | refine Or.inl ⟨by omega, by omega, ?_⟩ | refine Or.inr ?_ | exact trivial | (refine wk_use (k137 hZ _ _ (by omega) (by omega) (by omega) hO) rfl rfl ?_; rintro - _ _ - - - ⟨_, rfl, rfl⟩; refine Or.inl ⟨[], rfl, ?_⟩) | (refine wk_use (k67 hZ _ _ _) rfl rfl ?_; rintro - _ _ - - - ⟨_, rfl, rfl, rfl | rfl⟩; refine Or.inl ⟨[], rfl, ?_⟩)
    all_goals first
      | omega
      | (show ((32 - (_ : Int)) * 100 + 99 : Int).toNat < ((32 - (_ : Int)) * 100 + 99 : Int).toNat; omega)
      | exact hQ _ _ ⟨_, rfl, rfl⟩
      | (show J1 _ _ _ _ _ _; refine (hJ1 _ _ _ _ _ _).mpr ⟨rfl, ⟨by omega, by omega⟩, ⟨by omega, by omega⟩, by omega, by omega⟩)
      | (show (_ : Nat) < (_ : Nat); dsimp only; omega)
  · have e1 : ab_lo = -2147483648 := rfl
    have e2 : ab_hi = 2147483647 := rfl
    intro m2 hr2 hf2 x xl xh b bl bh s sl sh p pl ph i il ih hI
    have hI := (hJ1 _ _ _ _ _ _).mp hI
    obtain ⟨rfl, ⟨b0, b1⟩, ⟨s0, s1⟩, i0, i1⟩ := hI
    have hcc := cnt32 hr2
    repeat' first | (intro h; exact absurd h (by decide)) | (intro h; exact absurd rfl h) | refine And.intro ?_ ?_ | intro _ | refine Or.inl ⟨by omega, by omega, ?_⟩ | refine Or.inr ?_ | exact trivial | (refine wk_use (k137 hZ _ _ (by omega) (by omega) (by omega) hO) rfl rfl ?_; rintro - _ _ - - - ⟨_, rfl, rfl⟩; refine Or.inl ⟨[], rfl, ?_⟩) | (refine wk_use (k67 hZ _ _ _) rfl rfl ?_; rintro - _ _ - - - ⟨_, rfl, rfl, rfl | rfl⟩; refine Or.inl ⟨[], rfl, ?_⟩)
    all_goals first
      | omega
      | (show ((32 - (_ : Int)) * 100 + (32 - (_ : Int)) : Int).toNat < ((32 - (_ : Int)) * 100 + (32 - (_ : Int)) : Int).toNat; omega)
      | exact hQ _ _ ⟨_, rfl, rfl⟩
      | (show J0 _ _ _ _; refine (hJ0 _ _ _ _).mpr ⟨rfl, ⟨by omega, by omega⟩, by omega, by omega⟩)
      | (show J1 _ _ _ _ _ _; refine (hJ1 _ _ _ _ _ _).mpr ⟨rfl, ⟨by omega, by omega⟩, ⟨by omega, by omega⟩, by omega, by omega⟩)
      | (show (_ : Nat) < (_ : Nat); dsimp only; omega)
  · have e1 : ab_lo = -2147483648 := rfl
    have e2 : ab_hi = 2147483647 := rfl
    repeat' first | (intro h; exact absurd h (by decide)) | (intro h; exact absurd rfl h) | refine And.intro ?_ ?_ | intro _ | refine Or.inl ⟨by omega, by omega, ?_⟩ | refine Or.inr ?_ | exact trivial
    all_goals first
      | omega
      | trivial
      | (show J0 _ _ _ _; refine (hJ0 _ _ _ _).mpr ⟨rfl, ⟨by omega, by omega⟩, by omega, by omega⟩)

/-! Machine and Log: what is asked of them -/
set_option maxHeartbeats 8000000 in
set_option maxRecDepth 20000 in
theorem k22 {Z : sm_Z} (hZ : Z.2.2.2 = tb_N) (m : wk_M)  : wC Z 2 22 [28, 29, 32] [.inr (.inl 28)] m (fun r m' => r = none) := by
  refine wC.gen fun Q hQ => wk_E hZ (by exact rfl) [] rfl (fun _ _ => trivial) fun hr hs => ?_
  have e1 : ab_lo = -2147483648 := rfl
  have e2 : ab_hi = 2147483647 := rfl
  repeat' first | refine And.intro ?_ ?_ | intro _ | refine Or.inl ⟨by omega, by omega, ?_⟩ | refine Or.inr ?_ | exact trivial | (refine wk_use (k23 hZ _) rfl rfl ?_; rintro - _ _ - hfr - ⟨rfl, _, _, _, _, _⟩; refine Or.inr ?_)
  all_goals first | omega | exact hQ _ _ rfl

set_option maxHeartbeats 8000000 in
set_option maxRecDepth 20000 in
theorem k110 {Z : sm_Z} (hZ : Z.2.2.2 = tb_N) (m : wk_M) (k x : Int) (k0 : 0 ≤ k) (k1 : k ≤ 3) : wC Z 1 110 [33] [.inr (.inl 28), .inl k, .inl x] m (fun r m' => r = none) := by
  refine wC.gen fun Q hQ => wk_E hZ (by exact rfl) [] rfl (fun _ _ => trivial) fun hr hs => ?_
  have e1 : ab_lo = -2147483648 := rfl
  have e2 : ab_hi = 2147483647 := rfl
  obtain ⟨-, -, ⟨y0, y1⟩, -⟩ := hs
  repeat' first | refine And.intro ?_ ?_ | intro _ | refine Or.inl ⟨by omega, by omega, ?_⟩ | refine Or.inr ?_ | exact trivial
  all_goals first | omega | exact hQ _ _ rfl

set_option maxHeartbeats 8000000 in
set_option maxRecDepth 20000 in
theorem k129 {Z : sm_Z} (hZ : Z.2.2.2 = tb_N) (m : wk_M)  : wC Z 1 129 [] [.inr (.inl 28)] m (fun r m' => ∃ v : Int, r = some (.inl v) ∧ m' = m) := by
  refine wC.gen fun Q hQ => wk_E hZ (by exact rfl) [] rfl (fun _ _ => trivial) fun hr hs => ?_
  have e1 : ab_lo = -2147483648 := rfl
  have e2 : ab_hi = 2147483647 := rfl
  repeat' first | refine And.intro ?_ ?_ | intro _ | refine Or.inl ⟨by omega, by omega, ?_⟩ | refine Or.inr ?_ | exact trivial
  all_goals first | omega | exact hQ _ _ ⟨_, rfl, rfl⟩

set_option maxHeartbeats 8000000 in
set_option maxRecDepth 20000 in
theorem k131 {Z : sm_Z} (hZ : Z.2.2.2 = tb_N) (m : wk_M) (k : Int) : wC Z 1 131 [] [.inr (.inl 29), .inl k] m (fun r m' => ∃ v : Int, r = some (.inl v) ∧ m' = m) := by
  refine wC.gen fun Q hQ => wk_E hZ (by exact rfl) [] rfl (fun _ _ => trivial) fun hr hs => ?_
  have e1 : ab_lo = -2147483648 := rfl
  have e2 : ab_hi = 2147483647 := rfl
  repeat' first | refine And.intro ?_ ?_ | intro _ | refine Or.inl ⟨by omega, by omega, ?_⟩ | refine Or.inr ?_ | exact trivial
  all_goals first | omega | exact hQ _ _ ⟨_, rfl, rfl⟩

set_option maxHeartbeats 8000000 in
set_option maxRecDepth 20000 in
theorem k133 {Z : sm_Z} (hZ : Z.2.2.2 = tb_N) (m : wk_M) (c k : Int) (c0 : 0 ≤ c) (c1 : c ≤ 3) : wC Z 1 133 [] [.inr (.inl 29), .inl c, .inl k] m (fun r m' => ∃ v : Int, r = some (.inl v) ∧ m' = m) := by
  refine wC.gen fun Q hQ => wk_E hZ (by exact rfl) [] rfl (fun _ _ => trivial) fun hr hs => ?_
  have e1 : ab_lo = -2147483648 := rfl
  have e2 : ab_hi = 2147483647 := rfl
  repeat' first | refine And.intro ?_ ?_ | intro _ | refine Or.inl ⟨by omega, by omega, ?_⟩ | refine Or.inr ?_ | exact trivial
  all_goals first | omega | exact hQ _ _ ⟨_, rfl, rfl⟩
