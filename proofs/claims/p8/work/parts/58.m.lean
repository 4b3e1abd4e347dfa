/-! the class's Ways -/
set_option maxRecDepth 20000 in
theorem k43 {Z : sm_Z} (hZ : Z.2.2.2 = tb_N) (m : wk_M) (y : Int64) (x : Int) : wC Z 1 43 [] [.inr (.inr y), .inl x] m (fun r m' => ∃ v : Int, r = some (.inl v) ∧ m' = m ∧ (v = 1 ∨ v = 0)) := by
  refine wC.gen fun Q hQ => wk_E hZ (by exact rfl) [] rfl (fun _ _ => trivial) fun hr hs => ?_
  have e1 : ab_lo = -2147483648 := rfl
  have e2 : ab_hi = 2147483647 := rfl
  repeat' first | refine And.intro ?_ ?_ | intro _ | refine Or.inl ⟨by omega, by omega, ?_⟩ | refine Or.inr ?_ | exact trivial
  all_goals first | omega | exact hQ _ _ ⟨_, rfl, rfl, by omega⟩

set_option maxRecDepth 20000 in
theorem k41 {Z : sm_Z} (hZ : Z.2.2.2 = tb_N) (m : wk_M) (i : Int) (i0 : 0 ≤ i) (i1 : i ≤ 31) : wC Z 2 41 [] [.inr (.inl 1), .inl i] m (fun r m' => ∃ v : Int, r = some (.inl v) ∧ m' = m ∧ ((v = 1 ∧ (m.1 2 i ≤ 7 ∨ (13 ≤ m.1 2 i ∧ m.1 2 i ≤ 16))) ∨ v = 0)) := by
  refine wC.gen fun Q hQ => wk_E hZ (by exact rfl) [] rfl (fun _ _ => trivial) fun hr hs => ?_
  have e1 : ab_lo = -2147483648 := rfl
  have e2 : ab_hi = 2147483647 := rfl
  repeat' first | (intro h; exact absurd h (by decide)) | (intro h; exact absurd rfl h) | refine And.intro ?_ ?_ | intro _ | refine Or.inl ⟨by omega, by omega, ?_⟩ | refine Or.inr ?_ | exact trivial | (refine wk_use (k14 hZ _ _) rfl rfl ?_; rintro - _ _ - - - ⟨_, rfl, rfl, ⟨rfl, _⟩ | ⟨rfl, _⟩⟩; refine Or.inl ⟨[], rfl, ?_⟩)
  all_goals first | omega | exact hQ _ _ ⟨_, rfl, rfl, by omega⟩

set_option maxRecDepth 20000 in
theorem k38 {Z : sm_Z} (hZ : Z.2.2.2 = tb_N) (m : wk_M) (i : Int) (i0 : 0 ≤ i) (i1 : i ≤ 31) (hc : i < m.1 1 (4 : Nat)) (hE : cEn m.1) : wC Z 2 38 [] [.inr (.inl 19), .inl i] m (fun r m' => ∃ y : Int64, r = some (.inr (.inr y)) ∧ m' = m) := by
  refine wC.gen fun Q hQ => wk_E hZ (by exact rfl) [] rfl (fun _ _ => trivial) fun hr hs => ?_
  have e1 : ab_lo = -2147483648 := rfl
  have e2 : ab_hi = 2147483647 := rfl
  have he := hE i i0 hc
  repeat' first | refine And.intro ?_ ?_ | intro _ | refine Or.inl ⟨by omega, by omega, ?_⟩ | refine Or.inr ?_ | exact trivial | (refine wk_use (k39 hZ _ _ (by omega) (by omega)) rfl rfl ?_; rintro - _ _ - - - ⟨_, rfl, rfl, _⟩; refine Or.inl ⟨[], rfl, ?_⟩) | (refine wk_use (k40 hZ _ _ (by omega) (by omega) (by omega)) rfl rfl ?_; rintro - _ _ - - - ⟨_, rfl, rfl, _⟩; refine Or.inl ⟨[], rfl, ?_⟩)
  all_goals first | omega | exact hQ _ _ ⟨_, rfl, rfl⟩

set_option maxRecDepth 20000 in
theorem k42 {Z : sm_Z} (hZ : Z.2.2.2 = tb_N) (m : wk_M) (x y : Int64) : wC Z 2 42 [] [.inr (.inl 19), .inr (.inr x), .inr (.inr y)] m (fun r m' => ∃ y : Int64, r = some (.inr (.inr y)) ∧ m' = m) := by
  obtain ⟨J0, hJ0⟩ : ∃ J : Int →Int → wk_M → Prop, ∀ g rd m', J g rd m' ↔ (m' = m ∧ 0 ≤ rd ∧ rd ≤ 33) := ⟨_, fun _ _ _ => Iff.rfl⟩
  obtain ⟨J1, hJ1⟩ : ∃ J : Int →Int →Int → wk_M → Prop, ∀ g rd i m', J g rd i m' ↔ (m' = m ∧ (0 ≤ rd ∧ rd ≤ 32) ∧ 0 ≤ i ∧ i ≤ 32) := ⟨_, fun _ _ _ _ => Iff.rfl⟩
  refine wC.gen fun Q hQ => wk_E hZ (by exact rfl) [(9, [(3, 19), (2, 0), (0, 0), (2, 0), (0, 0), (2, 0), (0, 0), (1, 0), (1, 0), (0, 0), (0, 0), (0, 0)], fun vs _ m' => (match vs with
    | [g, rd] => J0 g rd m'
    | _ => False), fun vs _ m' => (match vs with
    | [g, rd] => ((33 - rd) * 100 + 99 : Int).toNat
    | _ => 0)), (28, [(3, 19), (2, 0), (0, 0), (2, 0), (0, 0), (2, 0), (0, 0), (1, 0), (1, 0), (2, 0), (0, 0), (1, 0)], fun vs _ m' => (match vs with
    | [g, rd, i] => J1 g rd i m'
    | _ => False), fun vs _ m' => (match vs with
    | [g, rd, i] => ((33 - rd) * 100 + (32 - i) : Int).toNat
    | _ => 0))] rfl (fun hr hs => ⟨?_, ⟨?_, trivial⟩⟩) (fun hr hs => ?_)
  · have e1 : ab_lo = -2147483648 := rfl
    have e2 : ab_hi = 2147483647 := rfl
    intro m2 hr2 hf2 yy0 yy1 yy2 g gl gh rd rdl rdh hI
    have hI := (hJ0 _ _ _).mp hI
    obtain ⟨rfl, r0, r1⟩ := hI
    repeat' first | (intro h; exact absurd h (by decide)) | (intro h; exact absurd rfl h) | refine And.intro ?_ ?_ | intro _ | refine Or.inl ⟨by omega, by omega, ?_⟩ | refine Or.inr ?_ | exact trivial | (refine wk_use (k43 hZ _ _ _) rfl rfl ?_; rintro - _ _ - - - ⟨_, rfl, rfl, rfl | rfl⟩; refine Or.inl ⟨[], rfl, ?_⟩)
    all_goals first
      | omega
      | (show ((33 - (_ : Int)) * 100 + 99 : Int).toNat < ((33 - (_ : Int)) * 100 + 99 : Int).toNat; omega)
      | exact hQ _ _ ⟨_, rfl, rfl⟩
      | (show J1 _ _ _ _; refine (hJ1 _ _ _ _).mpr ⟨rfl, ⟨by omega, by omega⟩, by omega, by omega⟩)
      | (show (_ : Nat) < (_ : Nat); dsimp only; omega)
  · have e1 : ab_lo = -2147483648 := rfl
    have e2 : ab_hi = 2147483647 := rfl
    intro m2 hr2 hf2 yy0 yy1 yy2 g gl gh rd rdl rdh yy3 i il ih hI
    have hI := (hJ1 _ _ _ _).mp hI
    obtain ⟨rfl, ⟨r0, r1⟩, i0, i1⟩ := hI
    repeat' first | (intro h; exact absurd h (by decide)) | (intro h; exact absurd rfl h) | refine And.intro ?_ ?_ | intro _ | refine Or.inl ⟨by omega, by omega, ?_⟩ | refine Or.inr ?_ | exact trivial | (refine wk_use (k43 hZ _ _ _) rfl rfl ?_; rintro - _ _ - - - ⟨_, rfl, rfl, rfl | rfl⟩; refine Or.inl ⟨[], rfl, ?_⟩)
    all_goals first
      | omega
      | (show ((33 - (_ : Int)) * 100 + (32 - (_ : Int)) : Int).toNat < ((33 - (_ : Int)) * 100 + (32 - (_ : Int)) : Int).toNat; omega)
      | (show J0 _ _ _; refine (hJ0 _ _ _).mpr ⟨rfl, by omega, by omega⟩)
      | (show J1 _ _ _ _; refine (hJ1 _ _ _ _).mpr ⟨rfl, ⟨by omega, by omega⟩, by omega, by omega⟩)
      | (show (_ : Nat) < (_ : Nat); dsimp only; omega)
  · have e1 : ab_lo = -2147483648 := rfl
    have e2 : ab_hi = 2147483647 := rfl
    repeat' first | (intro h; exact absurd h (by decide)) | (intro h; exact absurd rfl h) | refine And.intro ?_ ?_ | intro _ | refine Or.inl ⟨by omega, by omega, ?_⟩ | refine Or.inr ?_ | exact trivial | (refine wk_use (k43 hZ _ _ _) rfl rfl ?_; rintro - _ _ - - - ⟨_, rfl, rfl, rfl | rfl⟩; refine Or.inl ⟨[], rfl, ?_⟩)
    all_goals first
      | omega
      | trivial
      | (show J0 _ _ _; refine (hJ0 _ _ _).mpr ⟨rfl, by omega, by omega⟩)

set_option maxRecDepth 20000 in
theorem k53 {Z : sm_Z} (hZ : Z.2.2.2 = tb_N) (m : wk_M) (i : Int) (i0 : 0 ≤ i) (i1 : i ≤ 31) (x : Int) : wC Z 2 53 [] [.inr (.inl 19), .inl i, .inl x] m (fun r m' => ∃ v : Int, r = some (.inl v) ∧ m' = m ∧ (v = 1 ∨ v = 0)) := by
  refine wC.gen fun Q hQ => wk_E hZ (by exact rfl) [] rfl (fun _ _ => trivial) fun hr hs => ?_
  have e1 : ab_lo = -2147483648 := rfl
  have e2 : ab_hi = 2147483647 := rfl
  repeat' first | refine And.intro ?_ ?_ | intro _ | refine Or.inl ⟨by omega, by omega, ?_⟩ | refine Or.inr ?_ | exact trivial | (refine wk_use (k43 hZ _ _ _) rfl rfl ?_; rintro - _ _ - - - ⟨_, rfl, rfl, rfl | rfl⟩; refine Or.inl ⟨[], rfl, ?_⟩)
  all_goals first | omega | exact hQ _ _ ⟨_, rfl, rfl, by omega⟩

set_option maxRecDepth 20000 in
theorem k56 {Z : sm_Z} (hZ : Z.2.2.2 = tb_N) (m : wk_M) (i : Int) (i0 : 0 ≤ i) (i1 : i ≤ 31) (x : Int) : wC Z 2 56 [] [.inr (.inl 19), .inl i, .inl x] m (fun r m' => ∃ v : Int, r = some (.inl v) ∧ m' = m ∧ (v = 1 ∨ v = 0)) := by
  refine wC.gen fun Q hQ => wk_E hZ (by exact rfl) [] rfl (fun _ _ => trivial) fun hr hs => ?_
  have e1 : ab_lo = -2147483648 := rfl
  have e2 : ab_hi = 2147483647 := rfl
  repeat' first | refine And.intro ?_ ?_ | intro _ | refine Or.inl ⟨by omega, by omega, ?_⟩ | refine Or.inr ?_ | exact trivial | (refine wk_use (k43 hZ _ _ _) rfl rfl ?_; rintro - _ _ - - - ⟨_, rfl, rfl, rfl | rfl⟩; refine Or.inl ⟨[], rfl, ?_⟩)
  all_goals first | omega | exact hQ _ _ ⟨_, rfl, rfl, by omega⟩

set_option maxRecDepth 20000 in
theorem k54 {Z : sm_Z} (hZ : Z.2.2.2 = tb_N) (m : wk_M) (p t x : Int) (p0 : 0 ≤ p) (p1 : p ≤ 3) (t0 : 0 ≤ t) (t1 : t ≤ 1) : wC Z 2 54 [] [.inr (.inl 19), .inl p, .inl t, .inl x] m (fun r m' => ∃ v : Int, r = some (.inl v) ∧ m' = m ∧ (v = 1 ∨ v = 0)) := by
  refine wC.gen fun Q hQ => wk_E hZ (by exact rfl) [] rfl (fun _ _ => trivial) fun hr hs => ?_
  have e1 : ab_lo = -2147483648 := rfl
  have e2 : ab_hi = 2147483647 := rfl
  repeat' first | refine And.intro ?_ ?_ | intro _ | refine Or.inl ⟨by omega, by omega, ?_⟩ | refine Or.inr ?_ | exact trivial | (refine wk_use (k43 hZ _ _ _) rfl rfl ?_; rintro - _ _ - - - ⟨_, rfl, rfl, rfl | rfl⟩; refine Or.inl ⟨[], rfl, ?_⟩)
  all_goals first | omega | exact hQ _ _ ⟨_, rfl, rfl, by omega⟩

set_option maxRecDepth 20000 in
theorem k36 {Z : sm_Z} (hZ : Z.2.2.2 = tb_N) (m : wk_M) (hO : cOps m.1) (hE : cEn m.1) : wC Z 3 36 [20, 21, 22, 23, 24] [.inr (.inl 19)] m (fun r m' => r = none) := by
  obtain ⟨J0, hJ0⟩ : ∃ J : Int → wk_M → Prop, ∀ i m', J i m' ↔ (0 ≤ i ∧ i ≤ 32) := ⟨_, fun _ _ => Iff.rfl⟩
  obtain ⟨J1, hJ1⟩ : ∃ J : Int → wk_M → Prop, ∀ i m', J i m' ↔ (0 ≤ i ∧ i ≤ 32) := ⟨_, fun _ _ => Iff.rfl⟩
  obtain ⟨J2, hJ2⟩ : ∃ J : Int → wk_M → Prop, ∀ i m', J i m' ↔ (0 ≤ i ∧ i ≤ 4) := ⟨_, fun _ _ => Iff.rfl⟩
  refine wC.gen fun Q hQ => wk_E hZ (by exact rfl) [(10, [(3, 19), (1, 0)], fun vs _ m' => (match vs with
    | [i] => J0 i m'
    | _ => False), fun vs _ m' => (match vs with
    | [i] => (100000 - i : Int).toNat
    | _ => 0)), (71, [(3, 19), (1, 0)], fun vs _ m' => (match vs with
    | [i] => J1 i m'
    | _ => False), fun vs _ m' => (match vs with
    | [i] => (90000 - i : Int).toNat
    | _ => 0)), (152, [(3, 19), (1, 0)], fun vs _ m' => (match vs with
    | [i] => J2 i m'
    | _ => False), fun vs _ m' => (match vs with
    | [i] => (80000 - i : Int).toNat
    | _ => 0))] rfl (fun hr hs => ⟨?_, ⟨?_, ⟨?_, trivial⟩⟩⟩) (fun hr hs => ?_)
  · have e1 : ab_lo = -2147483648 := rfl
    have e2 : ab_hi = 2147483647 := rfl
    intro m2 hr2 hf2 i il ih hI
    have hI := (hJ0 _ _).mp hI
    obtain ⟨i0, i1⟩ := hI
    have hO2 := cOps_fr hf2 rfl hO
    have hE2 := cEn_same (congrFun (hf2 1 (by decide)).1 _) (hf2 2 (by decide)).1 (hf2 6 (by decide)).1 hE
    have hc := cnt32 hr2
    have q1 : i < m2.1 1 (4 : Nat) → (m2.1 2 i ≤ 7 ∨ (13 ≤ m2.1 2 i ∧ m2.1 2 i ≤ 16)) → 0 ≤ m2.1 3 i ∧ m2.1 3 i ≤ 3 := fun h z => (hO2 i i0 h).1 (by unfold nD; omega)
    repeat' first | (intro h; exact absurd h (by decide)) | (intro h; exact absurd rfl h) | refine And.intro ?_ ?_ | intro _ | refine Or.inl ⟨by omega, by omega, ?_⟩ | refine Or.inr ?_ | exact trivial | (refine wk_use (k38 hZ _ _ (by omega) (by omega) (by omega) hE2) rfl rfl ?_; rintro - _ _ - - - ⟨_, rfl, rfl⟩; refine Or.inl ⟨[], rfl, ?_⟩) | (refine wk_use (k41 hZ _ _ (by omega) (by omega)) rfl rfl ?_; rintro - _ _ - - - ⟨_, rfl, rfl, ⟨rfl, ho⟩ | rfl⟩; refine Or.inl ⟨[], rfl, ?_⟩) | (refine wk_use (k41 hZ _ _ (by omega) (by omega)) rfl rfl ?_; rintro - _ _ - - - ⟨_, rfl, rfl, ⟨rfl, ho⟩ | rfl⟩; refine Or.inl ⟨[], rfl, ?_⟩) | (refine wk_use (k42 hZ _ _ _) rfl rfl ?_; rintro - _ _ - - - ⟨_, rfl, rfl⟩; refine Or.inl ⟨[], rfl, ?_⟩)
    all_goals first
      | omega
      | (show (100000 - (_ : Int) : Int).toNat < (100000 - (_ : Int) : Int).toNat; omega)
      | (simp only [wk_ul_1] at ho; omega)
      | (show J0 _ _; refine (hJ0 _ _).mpr ⟨by omega, by omega⟩)
      | (show J1 _ _; refine (hJ1 _ _).mpr ⟨by omega, by omega⟩)
      | (show (_ : Nat) < (_ : Nat); dsimp only; omega)
  · have e1 : ab_lo = -2147483648 := rfl
    have e2 : ab_hi = 2147483647 := rfl
    intro m2 hr2 hf2 i il ih hI
    have hI := (hJ1 _ _).mp hI
    obtain ⟨i0, i1⟩ := hI
    have hO2 := cOps_fr hf2 rfl hO
    have hE2 := cEn_same (congrFun (hf2 1 (by decide)).1 _) (hf2 2 (by decide)).1 (hf2 6 (by decide)).1 hE
    have hc := cnt32 hr2
    have q1 : i < m2.1 1 (4 : Nat) → (m2.1 2 i ≤ 7 ∨ (13 ≤ m2.1 2 i ∧ m2.1 2 i ≤ 16)) → 0 ≤ m2.1 3 i ∧ m2.1 3 i ≤ 3 := fun h z => (hO2 i i0 h).1 (by unfold nD; omega)
    repeat' first | (intro h; exact absurd h (by decide)) | (intro h; exact absurd rfl h) | refine And.intro ?_ ?_ | intro _ | refine Or.inl ⟨by omega, by omega, ?_⟩ | refine Or.inr ?_ | exact trivial | (refine wk_use (k38 hZ _ _ (by omega) (by omega) (by omega) hE2) rfl rfl ?_; rintro - _ _ - - - ⟨_, rfl, rfl⟩; refine Or.inl ⟨[], rfl, ?_⟩) | (refine wk_use (k41 hZ _ _ (by omega) (by omega)) rfl rfl ?_; rintro - _ _ - - - ⟨_, rfl, rfl, ⟨rfl, ho⟩ | rfl⟩; refine Or.inl ⟨[], rfl, ?_⟩) | (refine wk_use (k41 hZ _ _ (by omega) (by omega)) rfl rfl ?_; rintro - _ _ - - - ⟨_, rfl, rfl, ⟨rfl, ho⟩ | rfl⟩; refine Or.inl ⟨[], rfl, ?_⟩) | (refine wk_use (k42 hZ _ _ _) rfl rfl ?_; rintro - _ _ - - - ⟨_, rfl, rfl⟩; refine Or.inl ⟨[], rfl, ?_⟩)
    all_goals first
      | omega
      | (show (90000 - (_ : Int) : Int).toNat < (90000 - (_ : Int) : Int).toNat; omega)
      | (simp only [wk_ul_1] at ho; omega)
      | (show J1 _ _; refine (hJ1 _ _).mpr ⟨by omega, by omega⟩)
      | (show J2 _ _; refine (hJ2 _ _).mpr ⟨by omega, by omega⟩)
      | (show (_ : Nat) < (_ : Nat); dsimp only; omega)
  · have e1 : ab_lo = -2147483648 := rfl
    have e2 : ab_hi = 2147483647 := rfl
    intro m2 hr2 hf2 i il ih hI
    have hI := (hJ2 _ _).mp hI
    obtain ⟨i0, i1⟩ := hI
    repeat' first | (intro h; exact absurd h (by decide)) | (intro h; exact absurd rfl h) | refine And.intro ?_ ?_ | intro _ | refine Or.inl ⟨by omega, by omega, ?_⟩ | refine Or.inr ?_ | exact trivial | (refine wk_use (k38 hZ _ _ (by omega) (by omega) (by omega) hE2) rfl rfl ?_; rintro - _ _ - - - ⟨_, rfl, rfl⟩; refine Or.inl ⟨[], rfl, ?_⟩) | (refine wk_use (k41 hZ _ _ (by omega) (by omega)) rfl rfl ?_; rintro - _ _ - - - ⟨_, rfl, rfl, ⟨rfl, ho⟩ | rfl⟩; refine Or.inl ⟨[], rfl, ?_⟩) | (refine wk_use (k41 hZ _ _ (by omega) (by omega)) rfl rfl ?_; rintro - _ _ - - - ⟨_, rfl, rfl, ⟨rfl, ho⟩ | rfl⟩; refine Or.inl ⟨[], rfl, ?_⟩) | (refine wk_use (k42 hZ _ _ _) rfl rfl ?_; rintro - _ _ - - - ⟨_, rfl, rfl⟩; refine Or.inl ⟨[], rfl, ?_⟩)
    all_goals first
      | omega
      | (show (80000 - (_ : Int) : Int).toNat < (80000 - (_ : Int) : Int).toNat; omega)
      | exact hQ _ _ rfl
      | (show J2 _ _; refine (hJ2 _ _).mpr ⟨by omega, by omega⟩)
      | (show (_ : Nat) < (_ : Nat); dsimp only; omega)
  · have e1 : ab_lo = -2147483648 := rfl
    have e2 : ab_hi = 2147483647 := rfl
    repeat' first | (intro h; exact absurd h (by decide)) | (intro h; exact absurd rfl h) | refine And.intro ?_ ?_ | intro _ | refine Or.inl ⟨by omega, by omega, ?_⟩ | refine Or.inr ?_ | exact trivial | (refine wk_use (wfL 21 4 _ _ rfl rfl) rfl rfl ?_; rintro - _ _ - hfr - ⟨rfl, -, -⟩; refine Or.inr ?_)
    all_goals first
      | omega
      | trivial
      | (show J0 _ _; refine (hJ0 _ _).mpr ⟨by omega, by omega⟩)
