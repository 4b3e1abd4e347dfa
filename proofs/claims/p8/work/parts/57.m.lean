/-! Walk: begin, the summaries, a slice -/
set_option maxRecDepth 20000 in
theorem k62 {Z : sm_Z} (hZ : Z.2.2.2 = tb_N) (m : wk_M) (x : Int) (x0 : 0 ≤ x) (x1 : x ≤ 251) : wC Z 2 62 [25, 26, 27] [.inr (.inl 25), .inl x] m (fun r m' => r = none ∧ qI m'.1) := by
  refine wC.gen fun Q hQ => wk_E hZ (by exact rfl) [] rfl (fun _ _ => trivial) fun hr hs => ?_
  have e1 : ab_lo = -2147483648 := rfl
  have e2 : ab_hi = 2147483647 := rfl
  repeat' first | refine And.intro ?_ ?_ | intro _ | refine Or.inl ⟨by omega, by omega, ?_⟩ | refine Or.inr ?_ | exact trivial | (refine wk_use (wfI 26 8 0 _ rfl rfl (by decide) (by decide)) rfl rfl ?_; rintro - _ _ - hfr - ⟨rfl, -⟩; refine Or.inr ?_) | (refine wk_use (k63 hZ _ _ x0 x1 (qI_zero (by simp (decide := true) only [wk_u_at, wk_ul_1, and_self, and_true, true_and, and_false, false_and, if_true, if_false]))) rfl rfl ?_; rintro - _ _ - hfr - ⟨rfl, hq⟩; refine Or.inr ?_)
  all_goals first | omega | exact hQ _ _ ⟨rfl, hq⟩

set_option maxRecDepth 20000 in
theorem k74 {Z : sm_Z} (hZ : Z.2.2.2 = tb_N) (m : wk_M) (t o : Int) (t0 : 4 ≤ t) (t1 : t ≤ 6) (o0 : 1 ≤ o) (o1 : o ≤ 3) : wC Z 1 74 [] [.inl t, .inl o] m (fun r m' => ∃ v : Int, r = some (.inl v) ∧ m' = m ∧ (0 ≤ v ∧ v ≤ 8)) := by
  refine wC.gen fun Q hQ => wk_E hZ (by exact rfl) [] rfl (fun _ _ => trivial) fun hr hs => ?_
  have e1 : ab_lo = -2147483648 := rfl
  have e2 : ab_hi = 2147483647 := rfl
  repeat' first | refine And.intro ?_ ?_ | intro _ | refine Or.inl ⟨by omega, by omega, ?_⟩ | refine Or.inr ?_ | exact trivial
  all_goals first | omega | exact hQ _ _ ⟨_, rfl, rfl, by omega⟩

set_option maxRecDepth 20000 in
theorem k73 {Z : sm_Z} (hZ : Z.2.2.2 = tb_N) (m : wk_M) (p t o : Int) (p0 : 0 ≤ p) (p1 : p ≤ 3) (t0 : 4 ≤ t) (t1 : t ≤ 6) (o0 : 1 ≤ o) (o1 : o ≤ 3) : wC Z 2 73 [] [.inr (.inl 13), .inl p, .inl t, .inl o] m (fun r m' => ∃ v : Int, r = some (.inl v) ∧ m' = m ∧ (0 ≤ v ∧ v ≤ 1)) := by
  refine wC.gen fun Q hQ => wk_E hZ (by exact rfl) [] rfl (fun _ _ => trivial) fun hr hs => ?_
  have e1 : ab_lo = -2147483648 := rfl
  have e2 : ab_hi = 2147483647 := rfl
  repeat' first | refine And.intro ?_ ?_ | intro _ | refine Or.inl ⟨by omega, by omega, ?_⟩ | refine Or.inr ?_ | exact trivial | (refine wk_use (k74 hZ _ _ _ (by omega) (by omega) (by omega) (by omega)) rfl rfl ?_; rintro - _ _ - - - ⟨_, rfl, rfl, _, _⟩; refine Or.inl ⟨[], rfl, ?_⟩) | (refine wk_use (k67 hZ _ _ _) rfl rfl ?_; rintro - _ _ - - - ⟨_, rfl, rfl, _⟩; refine Or.inl ⟨[], rfl, ?_⟩)
  all_goals first | omega | exact hQ _ _ ⟨_, rfl, rfl, by omega⟩

set_option maxRecDepth 20000 in
theorem k75 {Z : sm_Z} (hZ : Z.2.2.2 = tb_N) (m : wk_M) (p t o : Int) (p0 : 0 ≤ p) (p1 : p ≤ 3) (t0 : 4 ≤ t) (t1 : t ≤ 6) (o0 : 1 ≤ o) (o1 : o ≤ 3) (h : dM m.1) : wC Z 2 75 [14, 15, 18] [.inr (.inl 13), .inl p, .inl t, .inl o] m (fun r m' => r = none ∧ dM m'.1) := by
  obtain ⟨J0, hJ0⟩ : ∃ J : Int →Int →Int →Int → wk_M → Prop, ∀ p t o i m', J p t o i m' ↔ (((0 ≤ p ∧ p ≤ 3) ∧ (4 ≤ t ∧ t ≤ 6) ∧ (1 ≤ o ∧ o ≤ 3) ∧ 0 ≤ i ∧ i ≤ 32) ∧ dM m'.1) := ⟨_, fun _ _ _ _ _ => Iff.rfl⟩
  refine wC.gen fun Q hQ => wk_E hZ (by exact rfl) [(19, [(3, 13), (1, 0), (1, 0), (1, 0), (1, 0)], fun vs _ m' => (match vs with
    | [p, t, o, i] => J0 p t o i m'
    | _ => False), fun vs _ m' => (match vs with
    | [p, t, o, i] => (32 - i : Int).toNat
    | _ => 0))] rfl (fun hr hs => ⟨?_, trivial⟩) (fun hr hs => ?_)
  · have e1 : ab_lo = -2147483648 := rfl
    have e2 : ab_hi = 2147483647 := rfl
    intro m2 hr2 hf2 p pl ph t tl th o ol oh i il ih hI
    have hI := (hJ0 _ _ _ _ _).mp hI
    obtain ⟨⟨⟨p0, p1⟩, ⟨t0, t1⟩, ⟨o0, o1⟩, i0, i1⟩, hd⟩ := hI
    repeat' first | (intro h; exact absurd h (by decide)) | (intro h; exact absurd rfl h) | refine And.intro ?_ ?_ | intro _ | refine Or.inl ⟨by omega, by omega, ?_⟩ | refine Or.inr ?_ | exact trivial | (refine wk_use (k67 hZ _ _ _) rfl rfl ?_; rintro - _ _ - - - ⟨_, rfl, rfl, rfl | rfl⟩; refine Or.inl ⟨[], rfl, ?_⟩) | (refine wk_use (k50 hZ _ _ _ (by omega) (by omega) (by omega) (by omega)) rfl rfl ?_; rintro - _ _ - - - ⟨_, rfl, rfl, rfl⟩; refine Or.inl ⟨[], rfl, ?_⟩) | (refine wk_use (k49 hZ _ _ _ (by omega) (by omega) (by omega) (by omega) hd) rfl rfl ?_; rintro - _ _ - hfr - ⟨rfl, hd2⟩; refine Or.inr ?_)
    all_goals first
      | omega
      | (show (32 - (_ : Int) : Int).toNat < (32 - (_ : Int) : Int).toNat; omega)
      | exact hQ _ _ ⟨rfl, hd⟩
      | (show J0 _ _ _ _ _; refine (hJ0 _ _ _ _ _).mpr ⟨⟨⟨by omega, by omega⟩, ⟨by omega, by omega⟩, ⟨by omega, by omega⟩, by omega, by omega⟩, hd2⟩)
      | (show J0 _ _ _ _ _; refine (hJ0 _ _ _ _ _).mpr ⟨⟨⟨by omega, by omega⟩, ⟨by omega, by omega⟩, ⟨by omega, by omega⟩, by omega, by omega⟩, hd⟩)
  · have e1 : ab_lo = -2147483648 := rfl
    have e2 : ab_hi = 2147483647 := rfl
    repeat' first | (intro h; exact absurd h (by decide)) | (intro h; exact absurd rfl h) | refine And.intro ?_ ?_ | intro _ | refine Or.inl ⟨by omega, by omega, ?_⟩ | refine Or.inr ?_ | exact trivial | (refine wk_use (k74 hZ _ _ _ (by omega) (by omega) (by omega) (by omega)) rfl rfl ?_; rintro - _ _ - - - ⟨_, rfl, rfl, _, _⟩; refine Or.inl ⟨[], rfl, ?_⟩)
    all_goals first
      | omega
      | trivial
      | (show J0 _ _ _ _ _; refine (hJ0 _ _ _ _ _).mpr ⟨⟨⟨by omega, by omega⟩, ⟨by omega, by omega⟩, ⟨by omega, by omega⟩, by omega, by omega⟩, h⟩)

set_option maxRecDepth 20000 in
theorem k61 {Z : sm_Z} (hZ : Z.2.2.2 = tb_N) (m : wk_M) (p t : Int) (p0 : 0 ≤ p) (p1 : p ≤ 3) (t0 : 4 ≤ t) (t1 : t ≤ 6) (h : dM m.1) : wC Z 4 61 [14, 15, 18, 25, 26, 27] [.inr (.inl 25), .inl p, .inl t] m (fun r m' => ∃ v : Int, r = some (.inl v) ∧ (0 ≤ v ∧ v ≤ 1) ∧ dM m'.1) := by
  obtain ⟨J0, hJ0⟩ : ∃ J : Int →Int →Int →Int → wk_M → Prop, ∀ p t g o m', J p t g o m' ↔ (((0 ≤ p ∧ p ≤ 3) ∧ (4 ≤ t ∧ t ≤ 6) ∧ (0 ≤ g ∧ g ≤ 1) ∧ 1 ≤ o ∧ o ≤ 4) ∧ dM m'.1) := ⟨_, fun _ _ _ _ _ => Iff.rfl⟩
  refine wC.gen fun Q hQ => wk_E hZ (by exact rfl) [(20, [(3, 25), (1, 0), (1, 0), (1, 0), (1, 0), (0, 0)], fun vs _ m' => (match vs with
    | [p, t, g, o] => J0 p t g o m'
    | _ => False), fun vs _ m' => (match vs with
    | [p, t, g, o] => (4 - o : Int).toNat
    | _ => 0))] rfl (fun hr hs => ⟨?_, trivial⟩) (fun hr hs => ?_)
  · have e1 : ab_lo = -2147483648 := rfl
    have e2 : ab_hi = 2147483647 := rfl
    intro m2 hr2 hf2 p pl ph t tl th g gl gh o ol oh hI
    have hI := (hJ0 _ _ _ _ _).mp hI
    obtain ⟨⟨⟨p0, p1⟩, ⟨t0, t1⟩, ⟨g0, g1⟩, i0, i1⟩, hd⟩ := hI
    repeat' first | (intro h; exact absurd h (by decide)) | (intro h; exact absurd rfl h) | refine And.intro ?_ ?_ | intro _ | refine Or.inl ⟨by omega, by omega, ?_⟩ | refine Or.inr ?_ | exact trivial | (refine wk_use (k67 hZ _ _ _) rfl rfl ?_; rintro - _ _ - - - ⟨_, rfl, rfl, rfl | rfl⟩; refine Or.inl ⟨[], rfl, ?_⟩) | (refine wk_use (k73 hZ _ _ _ _ (by omega) (by omega) (by omega) (by omega) (by omega) (by omega)) rfl rfl ?_; rintro - _ _ - - - ⟨_, rfl, rfl, _, _⟩; refine Or.inl ⟨[], rfl, ?_⟩) | (refine wk_use (k75 hZ _ _ _ _ (by omega) (by omega) (by omega) (by omega) (by omega) (by omega) hd) rfl rfl ?_; rintro - _ _ - hfr - ⟨rfl, hd2⟩; refine Or.inr ?_)
    all_goals first
      | omega
      | (show (4 - (_ : Int) : Int).toNat < (4 - (_ : Int) : Int).toNat; omega)
      | exact hQ _ _ ⟨_, rfl, ⟨by omega, by omega⟩, hd⟩
      | (show J0 _ _ _ _ _; refine (hJ0 _ _ _ _ _).mpr ⟨⟨⟨by omega, by omega⟩, ⟨by omega, by omega⟩, ⟨by omega, by omega⟩, by omega, by omega⟩, hd2⟩)
      | (show J0 _ _ _ _ _; refine (hJ0 _ _ _ _ _).mpr ⟨⟨⟨by omega, by omega⟩, ⟨by omega, by omega⟩, ⟨by omega, by omega⟩, by omega, by omega⟩, hd⟩)
  · have e1 : ab_lo = -2147483648 := rfl
    have e2 : ab_hi = 2147483647 := rfl
    repeat' first | (intro h; exact absurd h (by decide)) | (intro h; exact absurd rfl h) | refine And.intro ?_ ?_ | intro _ | refine Or.inl ⟨by omega, by omega, ?_⟩ | refine Or.inr ?_ | exact trivial | (refine wk_use (k47 hZ _ _ _ (by omega) (by omega) (by omega) (by omega)) rfl rfl ?_; rintro - _ _ - - - ⟨_, rfl, rfl, rfl⟩; refine Or.inl ⟨[], rfl, ?_⟩) | (refine wk_use (k62 hZ _ _ (by omega) (by omega)) rfl rfl ?_; rintro - _ _ - hfr - ⟨rfl, hq⟩; have hdd := dM_fr hfr (by decide) (by decide) h; refine Or.inr ?_) | (refine wk_use (k64 hZ _ _ _ (by decide) hq hdd) rfl rfl ?_; rintro - _ _ - hfr - ⟨rfl, hq2⟩; have hde := dM_fr hfr (by decide) (by decide) hdd; refine Or.inr ?_)
    all_goals first
      | omega
      | trivial
      | (show J0 _ _ _ _ _; refine (hJ0 _ _ _ _ _).mpr ⟨⟨⟨by omega, by omega⟩, ⟨by omega, by omega⟩, ⟨by omega, by omega⟩, by omega, by omega⟩, hde⟩)

set_option maxRecDepth 20000 in
theorem k60 {Z : sm_Z} (hZ : Z.2.2.2 = tb_N) (m : wk_M) (h : dM m.1) : wC Z 5 60 [14, 15, 18, 25, 26, 27] [.inr (.inl 25)] m (fun r m' => r = none ∧ dM m'.1) := by
  obtain ⟨J0, hJ0⟩ : ∃ J : Int →Int → wk_M → Prop, ∀ g rd m', J g rd m' ↔ ((0 ≤ rd ∧ rd ≤ 252) ∧ dM m'.1) := ⟨_, fun _ _ _ => Iff.rfl⟩
  obtain ⟨J1, hJ1⟩ : ∃ J : Int →Int →Int → wk_M → Prop, ∀ g rd p m', J g rd p m' ↔ (((0 ≤ rd ∧ rd < 252) ∧ 0 ≤ p ∧ p ≤ 4) ∧ dM m'.1) := ⟨_, fun _ _ _ _ => Iff.rfl⟩
  obtain ⟨J2, hJ2⟩ : ∃ J : Int →Int →Int →Int → wk_M → Prop, ∀ g rd p t m', J g rd p t m' ↔ (((0 ≤ rd ∧ rd < 252) ∧ (0 ≤ p ∧ p < 4) ∧ 4 ≤ t ∧ t ≤ 7) ∧ dM m'.1) := ⟨_, fun _ _ _ _ _ => Iff.rfl⟩
  refine wC.gen fun Q hQ => wk_E hZ (by exact rfl) [(4, [(3, 25), (1, 0), (1, 0), (0, 0), (0, 0)], fun vs _ m' => (match vs with
    | [g, rd] => J0 g rd m'
    | _ => False), fun vs _ m' => (match vs with
    | [g, rd] => ((252 - rd) * 100 + 99 : Int).toNat
    | _ => 0)), (19, [(3, 25), (1, 0), (1, 0), (1, 0), (0, 0)], fun vs _ m' => (match vs with
    | [g, rd, p] => J1 g rd p m'
    | _ => False), fun vs _ m' => (match vs with
    | [g, rd, p] => ((252 - rd) * 100 + (4 - p) * 10 + 9 : Int).toNat
    | _ => 0)), (33, [(3, 25), (1, 0), (1, 0), (1, 0), (1, 0)], fun vs _ m' => (match vs with
    | [g, rd, p, t] => J2 g rd p t m'
    | _ => False), fun vs _ m' => (match vs with
    | [g, rd, p, t] => ((252 - rd) * 100 + (4 - p) * 10 + (7 - t) : Int).toNat
    | _ => 0))] rfl (fun hr hs => ⟨?_, ⟨?_, ⟨?_, trivial⟩⟩⟩) (fun hr hs => ?_)
  · have e1 : ab_lo = -2147483648 := rfl
    have e2 : ab_hi = 2147483647 := rfl
    intro m2 hr2 hf2 g gl gh rd rdl rdh hI
    have hI := (hJ0 _ _ _).mp hI
    obtain ⟨⟨r0, r1⟩, hd⟩ := hI
    repeat' first | (intro h; exact absurd h (by decide)) | (intro h; exact absurd rfl h) | refine And.intro ?_ ?_ | intro _ | refine Or.inl ⟨by omega, by omega, ?_⟩ | refine Or.inr ?_ | exact trivial
    all_goals first
      | omega
      | (show ((252 - (_ : Int)) * 100 + 99 : Int).toNat < ((252 - (_ : Int)) * 100 + 99 : Int).toNat; omega)
      | exact hQ _ _ ⟨rfl, hd⟩
      | (show J1 _ _ _ _; refine (hJ1 _ _ _ _).mpr ⟨⟨⟨by omega, by omega⟩, by omega, by omega⟩, hd⟩)
      | (show (_ : Nat) < (_ : Nat); dsimp only; omega)
  · have e1 : ab_lo = -2147483648 := rfl
    have e2 : ab_hi = 2147483647 := rfl
    intro m2 hr2 hf2 g gl gh rd rdl rdh p pl ph hI
    have hI := (hJ1 _ _ _ _).mp hI
    obtain ⟨⟨⟨r0, r1⟩, p0, p1⟩, hd⟩ := hI
    repeat' first | (intro h; exact absurd h (by decide)) | (intro h; exact absurd rfl h) | refine And.intro ?_ ?_ | intro _ | refine Or.inl ⟨by omega, by omega, ?_⟩ | refine Or.inr ?_ | exact trivial
    all_goals first
      | omega
      | (show ((252 - (_ : Int)) * 100 + (4 - (_ : Int)) * 10 + 9 : Int).toNat < ((252 - (_ : Int)) * 100 + (4 - (_ : Int)) * 10 + 9 : Int).toNat; omega)
      | (show J0 _ _ _; refine (hJ0 _ _ _).mpr ⟨⟨by omega, by omega⟩, hd⟩)
      | (show J2 _ _ _ _ _; refine (hJ2 _ _ _ _ _).mpr ⟨⟨⟨by omega, by omega⟩, ⟨by omega, by omega⟩, by omega, by omega⟩, hd⟩)
      | (show (_ : Nat) < (_ : Nat); dsimp only; omega)
  · have e1 : ab_lo = -2147483648 := rfl
    have e2 : ab_hi = 2147483647 := rfl
    intro m2 hr2 hf2 g gl gh rd rdl rdh p pl ph t tl th hI
    have hI := (hJ2 _ _ _ _ _).mp hI
    obtain ⟨⟨⟨r0, r1⟩, ⟨p0, p1⟩, t0, t1⟩, hd⟩ := hI
    repeat' first | (intro h; exact absurd h (by decide)) | (intro h; exact absurd rfl h) | refine And.intro ?_ ?_ | intro _ | refine Or.inl ⟨by omega, by omega, ?_⟩ | refine Or.inr ?_ | exact trivial | (refine wk_use (k61 hZ _ _ _ (by omega) (by omega) (by omega) (by omega) hd) rfl rfl ?_; rintro - _ _ - hfr - ⟨_, rfl, ⟨_, _⟩, hd2⟩; refine Or.inr ?_)
    all_goals first
      | omega
      | (show ((252 - (_ : Int)) * 100 + (4 - (_ : Int)) * 10 + (7 - (_ : Int)) : Int).toNat < ((252 - (_ : Int)) * 100 + (4 - (_ : Int)) * 10 + (7 - (_ : Int)) : Int).toNat; omega)
      | (show J1 _ _ _ _; refine (hJ1 _ _ _ _).mpr ⟨⟨⟨by omega, by omega⟩, by omega, by omega⟩, hd⟩)
      | (show J2 _ _ _ _ _; refine (hJ2 _ _ _ _ _).mpr ⟨⟨⟨by omega, by omega⟩, ⟨by omega, by omega⟩, by omega, by omega⟩, hd2⟩)
      | (show (_ : Nat) < (_ : Nat); dsimp only; omega)
  · have e1 : ab_lo = -2147483648 := rfl
    have e2 : ab_hi = 2147483647 := rfl
    repeat' first | (intro h; exact absurd h (by decide)) | (intro h; exact absurd rfl h) | refine And.intro ?_ ?_ | intro _ | refine Or.inl ⟨by omega, by omega, ?_⟩ | refine Or.inr ?_ | exact trivial
    all_goals first
      | omega
      | trivial
      | (show J0 _ _ _; refine (hJ0 _ _ _).mpr ⟨⟨by omega, by omega⟩, h⟩)

set_option maxRecDepth 20000 in
theorem k78 {Z : sm_Z} (hZ : Z.2.2.2 = tb_N) (m : wk_M) (x b : Int) (x0 : 0 ≤ x) (x1 : x ≤ 251) (h : dM m.1) : wC Z 4 78 [25, 26, 27] [.inr (.inl 25), .inl x, .inl b] m (fun r m' => r = none) := by
  refine wC.gen fun Q hQ => wk_E hZ (by exact rfl) [] rfl (fun _ _ => trivial) fun hr hs => ?_
  have e1 : ab_lo = -2147483648 := rfl
  have e2 : ab_hi = 2147483647 := rfl
  repeat' first | refine And.intro ?_ ?_ | intro _ | refine Or.inl ⟨by omega, by omega, ?_⟩ | refine Or.inr ?_ | exact trivial | (refine wk_use (k62 hZ _ _ x0 x1) rfl rfl ?_; rintro - _ _ - hfr - ⟨rfl, hq⟩; have hdd := dM_fr hfr (by decide) (by decide) h; refine Or.inr ?_) | (refine wk_use (k64 hZ _ _ _ (by decide) hq hdd) rfl rfl ?_; rintro - _ _ - hfr - ⟨rfl, hq2⟩; have hde := dM_fr hfr (by decide) (by decide) hdd; refine Or.inr ?_) | (refine wk_use (k64 hZ _ _ _ (by decide) hq2 hde) rfl rfl ?_; rintro - _ _ - hfr - ⟨rfl, hq3⟩; refine Or.inr ?_)
  all_goals first | omega | exact hQ _ _ rfl

set_option maxRecDepth 20000 in
theorem k79 {Z : sm_Z} (hZ : Z.2.2.2 = tb_N) (m : wk_M) (x : Int) (x0 : 0 ≤ x) (x1 : x ≤ 7) : wC Z 1 79 [] [.inr (.inl 25), .inl x] m (fun r m' => ∃ v : Int, r = some (.inl v) ∧ m' = m ∧ v = m.1 26 x) := by
  refine wC.gen fun Q hQ => wk_E hZ (by exact rfl) [] rfl (fun _ _ => trivial) fun hr hs => ?_
  have e1 : ab_lo = -2147483648 := rfl
  have e2 : ab_hi = 2147483647 := rfl
  repeat' first | refine And.intro ?_ ?_ | intro _ | refine Or.inl ⟨by omega, by omega, ?_⟩ | refine Or.inr ?_ | exact trivial
  all_goals first | omega | exact hQ _ _ ⟨_, rfl, rfl, by omega⟩
