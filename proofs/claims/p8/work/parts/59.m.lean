/-! the class's Dependences -/
set_option maxRecDepth 20000 in
theorem k48 {Z : sm_Z} (hZ : Z.2.2.2 = tb_N) (m : wk_M) (k x y : Int) (k0 : 0 ≤ k) (k1 : k ≤ 3) (x0 : 0 ≤ x) (x1 : x ≤ 251) (y0 : 0 ≤ y) (y1 : y ≤ 251) (h : dM m.1) : wC Z 2 48 [14, 15, 16] [.inr (.inl 13), .inl k, .inl x, .inl y] m (fun r m' => r = none ∧ dM m'.1) := by
  refine wC.gen fun Q hQ => wk_E hZ (by exact rfl) [] rfl (fun _ _ => trivial) fun hr hs => ?_
  have e1 : ab_lo = -2147483648 := rfl
  have e2 : ab_hi = 2147483647 := rfl
  repeat' first | refine And.intro ?_ ?_ | intro _ | refine Or.inl ⟨by omega, by omega, ?_⟩ | refine Or.inr ?_ | exact trivial | (refine wk_use (k49 hZ _ _ _ x0 x1 y0 y1 h) rfl rfl ?_; rintro - _ _ - hfr - ⟨rfl, hd2⟩; refine Or.inr ?_)
  all_goals first | omega | exact hQ _ _ ⟨rfl, hd2⟩ | exact hQ _ _ ⟨rfl, h⟩ | exact hQ _ _ ⟨rfl, dM_fr (wk_fr_u (p := 16) (W := [16]) (by decide) (wk_fr_refl _ _)) (by decide) (by decide) hd2⟩

set_option maxRecDepth 20000 in
theorem k57 {Z : sm_Z} (hZ : Z.2.2.2 = tb_N) (m : wk_M) (k x n o p : Int) (k0 : 0 ≤ k) (k1 : k ≤ 3) (x0 : 0 ≤ x) (x1 : x ≤ 251) (n0 : 0 ≤ n) (n1 : n ≤ 31) (p0 : 0 ≤ p) (p1 : p ≤ 6) (h : dM m.1) : wC Z 3 57 [14, 15, 16] [.inr (.inl 13), .inl k, .inl x, .inl n, .inl o, .inl p] m (fun r m' => r = none ∧ dM m'.1) := by
  refine wC.gen fun Q hQ => wk_E hZ (by exact rfl) [] rfl (fun _ _ => trivial) fun hr hs => ?_
  have e1 : ab_lo = -2147483648 := rfl
  have e2 : ab_hi = 2147483647 := rfl
  repeat' first | (intro h; exact absurd h (by decide)) | (intro h; exact absurd rfl h) | refine And.intro ?_ ?_ | intro _ | refine Or.inl ⟨by omega, by omega, ?_⟩ | refine Or.inr ?_ | exact trivial | (refine wk_use (k33 hZ _ _) rfl rfl ?_; rintro - _ _ - - - ⟨_, rfl, rfl, ⟨rfl, _⟩ | ⟨rfl, _⟩⟩; refine Or.inl ⟨[], rfl, ?_⟩) | (refine wk_use (k50 hZ _ _ _ (by omega) (by omega) (by omega) (by omega)) rfl rfl ?_; rintro - _ _ - - - ⟨_, rfl, rfl, rfl⟩; refine Or.inl ⟨[], rfl, ?_⟩) | (refine wk_use (k48 hZ _ _ _ _ (by omega) (by omega) (by omega) (by omega) (by omega) (by omega) h) rfl rfl ?_; rintro - _ _ - hfr - ⟨rfl, hd2⟩; refine Or.inr ?_)
  all_goals first | omega | exact hQ _ _ ⟨rfl, hd2⟩ | exact hQ _ _ ⟨rfl, h⟩ | exact hQ _ _ ⟨rfl, dM_fr (wk_fr_u (p := 16) (W := [16]) (by decide) (wk_fr_refl _ _)) (by decide) (by decide) hd2⟩

set_option maxRecDepth 20000 in
theorem k52 {Z : sm_Z} (hZ : Z.2.2.2 = tb_N) (m : wk_M) (x y z p : Int) (x0 : 0 ≤ x) (x1 : x ≤ 251) (z0 : 0 ≤ z) (z1 : z ≤ 3) (p0 : 0 ≤ p) (p1 : p ≤ 3) (h : dM m.1) : wC Z 3 52 [14, 15, 16] [.inr (.inl 13), .inl x, .inl y, .inl z, .inl p] m (fun r m' => r = none ∧ dM m'.1) := by
  obtain ⟨J0, hJ0⟩ : ∃ J : Int →Int →Int →Int →Int → wk_M → Prop, ∀ x y z p n m', J x y z p n m' ↔ (((0 ≤ x ∧ x ≤ 251) ∧ (0 ≤ z ∧ z ≤ 3) ∧ (0 ≤ p ∧ p ≤ 3) ∧ 0 ≤ n ∧ n ≤ 32) ∧ dM m'.1) := ⟨_, fun _ _ _ _ _ _ => Iff.rfl⟩
  refine wC.gen fun Q hQ => wk_E hZ (by exact rfl) [(12, [(3, 13), (1, 0), (1, 0), (1, 0), (1, 0), (1, 0)], fun vs _ m' => (match vs with
    | [x, y, z, p, n] => J0 x y z p n m'
    | _ => False), fun vs _ m' => (match vs with
    | [x, y, z, p, n] => (32 - n : Int).toNat
    | _ => 0))] rfl (fun hr hs => ⟨?_, trivial⟩) (fun hr hs => ?_)
  · have e1 : ab_lo = -2147483648 := rfl
    have e2 : ab_hi = 2147483647 := rfl
    intro m2 hr2 hf2 x xl xh y yl yh z zl zh p pl ph n nl nh hI
    have hI := (hJ0 _ _ _ _ _ _).mp hI
    obtain ⟨⟨⟨x0, x1⟩, ⟨z0, z1⟩, ⟨p0, p1⟩, n0, n1⟩, hd⟩ := hI
    repeat' first | (intro h; exact absurd h (by decide)) | (intro h; exact absurd rfl h) | refine And.intro ?_ ?_ | intro _ | refine Or.inl ⟨by omega, by omega, ?_⟩ | refine Or.inr ?_ | exact trivial | (refine wk_use (k41 hZ _ _ (by omega) (by omega)) rfl rfl ?_; rintro - _ _ - - - ⟨_, rfl, rfl, ⟨rfl, _⟩ | rfl⟩; refine Or.inl ⟨[], rfl, ?_⟩) | (refine wk_use (k53 hZ _ _ (by omega) (by omega) _) rfl rfl ?_; rintro - _ _ - - - ⟨_, rfl, rfl, rfl | rfl⟩; refine Or.inl ⟨[], rfl, ?_⟩) | (refine wk_use (k54 hZ _ _ _ _ (by omega) (by omega) (by omega) (by omega)) rfl rfl ?_; rintro - _ _ - - - ⟨_, rfl, rfl, rfl | rfl⟩; refine Or.inl ⟨[], rfl, ?_⟩) | (refine wk_use (k33 hZ _ _) rfl rfl ?_; rintro - _ _ - - - ⟨_, rfl, rfl, ⟨rfl, _⟩ | ⟨rfl, _⟩⟩; refine Or.inl ⟨[], rfl, ?_⟩) | (refine wk_use (k50 hZ _ _ _ (by omega) (by omega) (by omega) (by omega)) rfl rfl ?_; rintro - _ _ - - - ⟨_, rfl, rfl, rfl⟩; refine Or.inl ⟨[], rfl, ?_⟩) | (refine wk_use (k47 hZ _ _ _ (by omega) (by omega) (by omega) (by omega)) rfl rfl ?_; rintro - _ _ - - - ⟨_, rfl, rfl, rfl⟩; refine Or.inl ⟨[], rfl, ?_⟩) | (refine wk_use (k48 hZ _ _ _ _ (by omega) (by omega) (by omega) (by omega) (by omega) (by omega) hd) rfl rfl ?_; rintro - _ _ - hfr - ⟨rfl, hd2⟩; refine Or.inr ?_)
    all_goals first
      | omega
      | (show (32 - (_ : Int) : Int).toNat < (32 - (_ : Int) : Int).toNat; omega)
      | exact hQ _ _ ⟨rfl, hd2⟩
      | exact hQ _ _ ⟨rfl, hd⟩
      | (show J0 _ _ _ _ _ _; refine (hJ0 _ _ _ _ _ _).mpr ⟨⟨⟨by omega, by omega⟩, ⟨by omega, by omega⟩, ⟨by omega, by omega⟩, by omega, by omega⟩, hd2⟩)
      | (show J0 _ _ _ _ _ _; refine (hJ0 _ _ _ _ _ _).mpr ⟨⟨⟨by omega, by omega⟩, ⟨by omega, by omega⟩, ⟨by omega, by omega⟩, by omega, by omega⟩, hd⟩)
  · have e1 : ab_lo = -2147483648 := rfl
    have e2 : ab_hi = 2147483647 := rfl
    repeat' first | (intro h; exact absurd h (by decide)) | (intro h; exact absurd rfl h) | refine And.intro ?_ ?_ | intro _ | refine Or.inl ⟨by omega, by omega, ?_⟩ | refine Or.inr ?_ | exact trivial
    all_goals first
      | omega
      | trivial
      | (show J0 _ _ _ _ _ _; refine (hJ0 _ _ _ _ _ _).mpr ⟨⟨⟨by omega, by omega⟩, ⟨by omega, by omega⟩, ⟨by omega, by omega⟩, by omega, by omega⟩, h⟩)

set_option maxRecDepth 20000 in
theorem k51 {Z : sm_Z} (hZ : Z.2.2.2 = tb_N) (m : wk_M) (i : Int) (i0 : 0 ≤ i) (i1 : i ≤ 31) (hc : i < m.1 1 (4 : Nat)) (hO : cOps m.1) (hn : ¬ m.1 2 i = 10 ∧ ¬ m.1 2 i = 12 ∧ ¬ m.1 2 i = 18) (h : dM m.1) : wC Z 4 51 [14, 15, 16] [.inr (.inl 13), .inl i] m (fun r m' => r = none ∧ dM m'.1) := by
  refine wC.gen fun Q hQ => wk_E hZ (by exact rfl) [] rfl (fun _ _ => trivial) fun hr hs => ?_
  have e1 : ab_lo = -2147483648 := rfl
  have e2 : ab_hi = 2147483647 := rfl
  obtain ⟨-, qa, qb⟩ := hO i i0 hc
  repeat' first | (intro h; exact absurd h (by decide)) | (intro h; exact absurd rfl h) | refine And.intro ?_ ?_ | intro _ | refine Or.inl ⟨by omega, by omega, ?_⟩ | refine Or.inr ?_ | exact trivial | (refine wk_use (k33 hZ _ _) rfl rfl ?_; rintro - _ _ - - - ⟨_, rfl, rfl, ⟨rfl, _⟩ | ⟨rfl, _⟩⟩; refine Or.inl ⟨[], rfl, ?_⟩) | (refine wk_use (k50 hZ _ _ _ (by omega) (by omega) (by omega) (by omega)) rfl rfl ?_; rintro - _ _ - - - ⟨_, rfl, rfl, rfl⟩; refine Or.inl ⟨[], rfl, ?_⟩) | (refine wk_use (k52 hZ _ _ _ _ _ (by omega) (by omega) (by have := qb (by unfold nB; omega); omega) (by have := qb (by unfold nB; omega); omega) (by omega) (by omega) hd2) rfl rfl ?_; rintro - _ _ - hfr - ⟨rfl, hd3⟩; have hp := congrFun (hfr 2 (by decide)).1 i; (try simp (decide := true) only [wk_u_at, wk_ul_1, and_self, and_true, true_and, and_false, false_and, if_true, if_false] at hp); have hp := congrFun (hfr 4 (by decide)).1 i; (try simp (decide := true) only [wk_u_at, wk_ul_1, and_self, and_true, true_and, and_false, false_and, if_true, if_false] at hp); have hp := congrFun (hfr 5 (by decide)).1 i; (try simp (decide := true) only [wk_u_at, wk_ul_1, and_self, and_true, true_and, and_false, false_and, if_true, if_false] at hp); have hp := congrFun (hfr 9 (by decide)).1 i; (try simp (decide := true) only [wk_u_at, wk_ul_1, and_self, and_true, true_and, and_false, false_and, if_true, if_false] at hp); refine Or.inr ?_) | (refine wk_use (k52 hZ _ _ _ _ _ (by omega) (by omega) (by have := qb (by unfold nB; omega); omega) (by have := qb (by unfold nB; omega); omega) (by omega) (by omega) h) rfl rfl ?_; rintro - _ _ - hfr - ⟨rfl, hd2⟩; have hp := congrFun (hfr 2 (by decide)).1 i; (try simp (decide := true) only [wk_u_at, wk_ul_1, and_self, and_true, true_and, and_false, false_and, if_true, if_false] at hp); have hp := congrFun (hfr 4 (by decide)).1 i; (try simp (decide := true) only [wk_u_at, wk_ul_1, and_self, and_true, true_and, and_false, false_and, if_true, if_false] at hp); have hp := congrFun (hfr 5 (by decide)).1 i; (try simp (decide := true) only [wk_u_at, wk_ul_1, and_self, and_true, true_and, and_false, false_and, if_true, if_false] at hp); have hp := congrFun (hfr 9 (by decide)).1 i; (try simp (decide := true) only [wk_u_at, wk_ul_1, and_self, and_true, true_and, and_false, false_and, if_true, if_false] at hp); refine Or.inr ?_) | (refine wk_use (k52 hZ _ _ _ _ _ (by omega) (by omega) (by have := qa (by unfold nA; omega); omega) (by have := qa (by unfold nA; omega); omega) (by omega) (by omega) h) rfl rfl ?_; rintro - _ _ - hfr - ⟨rfl, hd2⟩; have hp := congrFun (hfr 2 (by decide)).1 i; (try simp (decide := true) only [wk_u_at, wk_ul_1, and_self, and_true, true_and, and_false, false_and, if_true, if_false] at hp); have hp := congrFun (hfr 4 (by decide)).1 i; (try simp (decide := true) only [wk_u_at, wk_ul_1, and_self, and_true, true_and, and_false, false_and, if_true, if_false] at hp); have hp := congrFun (hfr 5 (by decide)).1 i; (try simp (decide := true) only [wk_u_at, wk_ul_1, and_self, and_true, true_and, and_false, false_and, if_true, if_false] at hp); have hp := congrFun (hfr 9 (by decide)).1 i; (try simp (decide := true) only [wk_u_at, wk_ul_1, and_self, and_true, true_and, and_false, false_and, if_true, if_false] at hp); refine Or.inr ?_)
  all_goals first | omega | exact hQ _ _ ⟨rfl, hd3⟩ | exact hQ _ _ ⟨rfl, hd2⟩ | exact hQ _ _ ⟨rfl, h⟩

set_option maxRecDepth 20000 in
theorem k46 {Z : sm_Z} (hZ : Z.2.2.2 = tb_N) (m : wk_M) (i : Int) (i0 : 0 ≤ i) (i1 : i ≤ 31) (h : dM m.1) : wC Z 3 46 [14, 15, 16, 17] [.inr (.inl 13), .inl i] m (fun r m' => r = none ∧ dM m'.1) := by
  obtain ⟨J0, hJ0⟩ : ∃ J : Int →Int → wk_M → Prop, ∀ i t m', J i t m' ↔ (((0 ≤ i ∧ i ≤ 31) ∧ 1 ≤ t ∧ t ≤ 7) ∧ dM m'.1) := ⟨_, fun _ _ _ => Iff.rfl⟩
  refine wC.gen fun Q hQ => wk_E hZ (by exact rfl) [(70, [(3, 13), (1, 0), (0, 0), (1, 0)], fun vs _ m' => (match vs with
    | [i, t] => J0 i t m'
    | _ => False), fun vs _ m' => (match vs with
    | [i, t] => (7 - t : Int).toNat
    | _ => 0))] rfl (fun hr hs => ⟨?_, trivial⟩) (fun hr hs => ?_)
  · have e1 : ab_lo = -2147483648 := rfl
    have e2 : ab_hi = 2147483647 := rfl
    intro m2 hr2 hf2 i il ih t tl th hI
    have hI := (hJ0 _ _ _).mp hI
    obtain ⟨⟨⟨i0, i1⟩, t0, t1⟩, hd⟩ := hI
    repeat' first | (intro h; exact absurd h (by decide)) | (intro h; exact absurd rfl h) | refine And.intro ?_ ?_ | intro _ | refine Or.inl ⟨by omega, by omega, ?_⟩ | refine Or.inr ?_ | exact trivial | (refine wk_use (k50 hZ _ _ _ (by omega) (by omega) (by omega) (by omega)) rfl rfl ?_; rintro - _ _ - - - ⟨_, rfl, rfl, rfl⟩; refine Or.inl ⟨[], rfl, ?_⟩) | (refine wk_use (k49 hZ _ _ _ (by omega) (by omega) (by omega) (by omega) hd) rfl rfl ?_; rintro - _ _ - hfr - ⟨rfl, hd2⟩; refine Or.inr ?_)
    all_goals first
      | omega
      | (show (7 - (_ : Int) : Int).toNat < (7 - (_ : Int) : Int).toNat; omega)
      | exact hQ _ _ ⟨rfl, hd⟩
      | (show J0 _ _ _; refine (hJ0 _ _ _).mpr ⟨⟨⟨by omega, by omega⟩, by omega, by omega⟩, hd2⟩)
  · have e1 : ab_lo = -2147483648 := rfl
    have e2 : ab_hi = 2147483647 := rfl
    repeat' first | (intro h; exact absurd h (by decide)) | (intro h; exact absurd rfl h) | refine And.intro ?_ ?_ | intro _ | refine Or.inl ⟨by omega, by omega, ?_⟩ | refine Or.inr ?_ | exact trivial | (refine wk_use (k47 hZ _ _ _ (by omega) (by omega) (by omega) (by omega)) rfl rfl ?_; rintro - _ _ - - - ⟨_, rfl, rfl, rfl⟩; refine Or.inl ⟨[], rfl, ?_⟩) | (refine wk_use (k48 hZ _ _ _ _ (by omega) (by omega) (by omega) (by omega) (by omega) (by omega) h) rfl rfl ?_; rintro - _ _ - hfr - ⟨rfl, hd2⟩; refine Or.inr ?_) | (refine wk_use (k33 hZ _ _) rfl rfl ?_; rintro - _ _ - - - ⟨_, rfl, rfl, ⟨rfl, _⟩ | ⟨rfl, _⟩⟩; refine Or.inl ⟨[], rfl, ?_⟩) | (refine wk_use (k34 hZ _ _ (by omega) (by omega)) rfl rfl ?_; rintro - _ _ - - - ⟨_, rfl, rfl, _⟩; refine Or.inl ⟨[], rfl, ?_⟩)
    all_goals first
      | omega
      | trivial
      | exact hQ _ _ ⟨rfl, hd2⟩
      | (show J0 _ _ _; refine (hJ0 _ _ _).mpr ⟨⟨⟨by omega, by omega⟩, by omega, by omega⟩, dM_fr (wk_fr_u (p := 17) (W := [17]) (by decide) (wk_fr_refl _ _)) (by decide) (by decide) hd2⟩)

set_option maxRecDepth 20000 in
theorem k55 {Z : sm_Z} (hZ : Z.2.2.2 = tb_N) (m : wk_M) (i : Int) (i0 : 0 ≤ i) (i1 : i ≤ 31) (h : dM m.1) : wC Z 4 55 [14, 15, 16] [.inr (.inl 13), .inl i] m (fun r m' => r = none ∧ dM m'.1) := by
  obtain ⟨J0, hJ0⟩ : ∃ J : Int →Int →Int →Int → wk_M → Prop, ∀ i p x n m', J i p x n m' ↔ (((0 ≤ i ∧ i ≤ 31) ∧ (0 ≤ p ∧ p ≤ 3) ∧ (0 ≤ x ∧ x ≤ 251) ∧ 0 ≤ n ∧ n ≤ 32) ∧ dM m'.1) := ⟨_, fun _ _ _ _ _ => Iff.rfl⟩
  refine wC.gen fun Q hQ => wk_E hZ (by exact rfl) [(79, [(3, 13), (1, 0), (1, 0), (1, 0), (1, 0)], fun vs _ m' => (match vs with
    | [i, p, x, n] => J0 i p x n m'
    | _ => False), fun vs _ m' => (match vs with
    | [i, p, x, n] => (32 - n : Int).toNat
    | _ => 0))] rfl (fun hr hs => ⟨?_, trivial⟩) (fun hr hs => ?_)
  · have e1 : ab_lo = -2147483648 := rfl
    have e2 : ab_hi = 2147483647 := rfl
    intro m2 hr2 hf2 i il ih p pl ph x xl xh n nl nh hI
    have hI := (hJ0 _ _ _ _ _).mp hI
    obtain ⟨⟨⟨i0, i1⟩, ⟨p0, p1⟩, ⟨x0, x1⟩, n0, n1⟩, hd⟩ := hI
    repeat' first | (intro h; exact absurd h (by decide)) | (intro h; exact absurd rfl h) | refine And.intro ?_ ?_ | intro _ | refine Or.inl ⟨by omega, by omega, ?_⟩ | refine Or.inr ?_ | exact trivial | (refine wk_use (k56 hZ _ _ (by omega) (by omega) _) rfl rfl ?_; rintro - _ _ - - - ⟨_, rfl, rfl, rfl | rfl⟩; refine Or.inl ⟨[], rfl, ?_⟩) | (refine wk_use (k57 hZ _ _ _ _ _ _ (by omega) (by omega) (by omega) (by omega) (by omega) (by omega) (by omega) (by omega) hd) rfl rfl ?_; rintro - _ _ - hfr - ⟨rfl, hd2⟩; refine Or.inr ?_)
    all_goals first
      | omega
      | (show (32 - (_ : Int) : Int).toNat < (32 - (_ : Int) : Int).toNat; omega)
      | exact hQ _ _ ⟨rfl, hd⟩
      | (show J0 _ _ _ _ _; refine (hJ0 _ _ _ _ _).mpr ⟨⟨⟨by omega, by omega⟩, ⟨by omega, by omega⟩, ⟨by omega, by omega⟩, by omega, by omega⟩, hd2⟩)
      | (show J0 _ _ _ _ _; refine (hJ0 _ _ _ _ _).mpr ⟨⟨⟨by omega, by omega⟩, ⟨by omega, by omega⟩, ⟨by omega, by omega⟩, by omega, by omega⟩, hd⟩)
  · have e1 : ab_lo = -2147483648 := rfl
    have e2 : ab_hi = 2147483647 := rfl
    repeat' first | (intro h; exact absurd h (by decide)) | (intro h; exact absurd rfl h) | refine And.intro ?_ ?_ | intro _ | refine Or.inl ⟨by omega, by omega, ?_⟩ | refine Or.inr ?_ | exact trivial | (refine wk_use (k33 hZ _ _) rfl rfl ?_; rintro - _ _ - - - ⟨_, rfl, rfl, ⟨rfl, _⟩ | ⟨rfl, _⟩⟩; refine Or.inl ⟨[], rfl, ?_⟩) | (refine wk_use (k50 hZ _ _ _ (by omega) (by omega) (by omega) (by omega)) rfl rfl ?_; rintro - _ _ - - - ⟨_, rfl, rfl, rfl⟩; refine Or.inl ⟨[], rfl, ?_⟩) | (refine wk_use (k47 hZ _ _ _ (by omega) (by omega) (by omega) (by omega)) rfl rfl ?_; rintro - _ _ - - - ⟨_, rfl, rfl, rfl⟩; refine Or.inl ⟨[], rfl, ?_⟩) | (refine wk_use (k48 hZ _ _ _ _ (by omega) (by omega) (by omega) (by omega) (by omega) (by omega) h) rfl rfl ?_; rintro - _ _ - hfr - ⟨rfl, hd2⟩; refine Or.inr ?_)
    all_goals first
      | omega
      | trivial
      | exact hQ _ _ ⟨rfl, h⟩
      | (show J0 _ _ _ _ _; refine (hJ0 _ _ _ _ _).mpr ⟨⟨⟨by omega, by omega⟩, ⟨by omega, by omega⟩, ⟨by omega, by omega⟩, by omega, by omega⟩, hd2⟩)

set_option maxRecDepth 20000 in
theorem k58 {Z : sm_Z} (hZ : Z.2.2.2 = tb_N) (m : wk_M) (i : Int) (i0 : 0 ≤ i) (i1 : i ≤ 31) (h : dM m.1) : wC Z 4 58 [14, 15, 16] [.inr (.inl 13), .inl i] m (fun r m' => r = none ∧ dM m'.1) := by
  obtain ⟨J0, hJ0⟩ : ∃ J : Int →Int →Int → wk_M → Prop, ∀ i p n m', J i p n m' ↔ (((0 ≤ i ∧ i ≤ 31) ∧ (0 ≤ p ∧ p ≤ 3) ∧ 0 ≤ n ∧ n ≤ 32) ∧ dM m'.1) := ⟨_, fun _ _ _ _ => Iff.rfl⟩
  refine wC.gen fun Q hQ => wk_E hZ (by exact rfl) [(20, [(3, 13), (1, 0), (1, 0), (1, 0)], fun vs _ m' => (match vs with
    | [i, p, n] => J0 i p n m'
    | _ => False), fun vs _ m' => (match vs with
    | [i, p, n] => (32 - n : Int).toNat
    | _ => 0))] rfl (fun hr hs => ⟨?_, trivial⟩) (fun hr hs => ?_)
  · have e1 : ab_lo = -2147483648 := rfl
    have e2 : ab_hi = 2147483647 := rfl
    intro m2 hr2 hf2 i il ih p pl ph n nl nh hI
    have hI := (hJ0 _ _ _ _).mp hI
    obtain ⟨⟨⟨i0, i1⟩, ⟨p0, p1⟩, n0, n1⟩, hd⟩ := hI
    repeat' first | (intro h; exact absurd h (by decide)) | (intro h; exact absurd rfl h) | refine And.intro ?_ ?_ | intro _ | refine Or.inl ⟨by omega, by omega, ?_⟩ | refine Or.inr ?_ | exact trivial | (refine wk_use (k56 hZ _ _ (by omega) (by omega) _) rfl rfl ?_; rintro - _ _ - - - ⟨_, rfl, rfl, rfl | rfl⟩; refine Or.inl ⟨[], rfl, ?_⟩) | (refine wk_use (k57 hZ _ _ _ _ _ _ (by omega) (by omega) (by omega) (by omega) (by omega) (by omega) (by omega) (by omega) hd) rfl rfl ?_; rintro - _ _ - hfr - ⟨rfl, hd2⟩; refine Or.inr ?_)
    all_goals first
      | omega
      | (show (32 - (_ : Int) : Int).toNat < (32 - (_ : Int) : Int).toNat; omega)
      | exact hQ _ _ ⟨rfl, hd⟩
      | (show J0 _ _ _ _; refine (hJ0 _ _ _ _).mpr ⟨⟨⟨by omega, by omega⟩, ⟨by omega, by omega⟩, by omega, by omega⟩, hd2⟩)
      | (show J0 _ _ _ _; refine (hJ0 _ _ _ _).mpr ⟨⟨⟨by omega, by omega⟩, ⟨by omega, by omega⟩, by omega, by omega⟩, hd⟩)
  · have e1 : ab_lo = -2147483648 := rfl
    have e2 : ab_hi = 2147483647 := rfl
    repeat' first | (intro h; exact absurd h (by decide)) | (intro h; exact absurd rfl h) | refine And.intro ?_ ?_ | intro _ | refine Or.inl ⟨by omega, by omega, ?_⟩ | refine Or.inr ?_ | exact trivial
    all_goals first
      | omega
      | trivial
      | (show J0 _ _ _ _; refine (hJ0 _ _ _ _).mpr ⟨⟨⟨by omega, by omega⟩, ⟨by omega, by omega⟩, by omega, by omega⟩, h⟩)

set_option maxRecDepth 20000 in
theorem k59 {Z : sm_Z} (hZ : Z.2.2.2 = tb_N) (m : wk_M) (p : Int) (p0 : 0 ≤ p) (p1 : p ≤ 3) (h : dM m.1) : wC Z 4 59 [14, 15, 16] [.inr (.inl 13), .inl p] m (fun r m' => r = none ∧ dM m'.1) := by
  obtain ⟨J0, hJ0⟩ : ∃ J : Int →Int → wk_M → Prop, ∀ p n m', J p n m' ↔ (((0 ≤ p ∧ p ≤ 3) ∧ 0 ≤ n ∧ n ≤ 32) ∧ dM m'.1) := ⟨_, fun _ _ _ => Iff.rfl⟩
  refine wC.gen fun Q hQ => wk_E hZ (by exact rfl) [(30, [(3, 13), (1, 0), (1, 0)], fun vs _ m' => (match vs with
    | [p, n] => J0 p n m'
    | _ => False), fun vs _ m' => (match vs with
    | [p, n] => (32 - n : Int).toNat
    | _ => 0))] rfl (fun hr hs => ⟨?_, trivial⟩) (fun hr hs => ?_)
  · have e1 : ab_lo = -2147483648 := rfl
    have e2 : ab_hi = 2147483647 := rfl
    intro m2 hr2 hf2 p pl ph n nl nh hI
    have hI := (hJ0 _ _ _).mp hI
    obtain ⟨⟨⟨p0, p1⟩, n0, n1⟩, hd⟩ := hI
    repeat' first | (intro h; exact absurd h (by decide)) | (intro h; exact absurd rfl h) | refine And.intro ?_ ?_ | intro _ | refine Or.inl ⟨by omega, by omega, ?_⟩ | refine Or.inr ?_ | exact trivial | (refine wk_use (k47 hZ _ _ _ (by omega) (by omega) (by omega) (by omega)) rfl rfl ?_; rintro - _ _ - - - ⟨_, rfl, rfl, rfl⟩; refine Or.inl ⟨[], rfl, ?_⟩) | (refine wk_use (k57 hZ _ _ _ _ _ _ (by omega) (by omega) (by omega) (by omega) (by omega) (by omega) (by omega) (by omega) hd) rfl rfl ?_; rintro - _ _ - hfr - ⟨rfl, hd2⟩; refine Or.inr ?_) | (refine wk_use (k57 hZ _ _ _ _ _ _ (by omega) (by omega) (by omega) (by omega) (by omega) (by omega) (by omega) (by omega) hd2) rfl rfl ?_; rintro - _ _ - hfr - ⟨rfl, hd3⟩; refine Or.inr ?_)
    all_goals first
      | omega
      | (show (32 - (_ : Int) : Int).toNat < (32 - (_ : Int) : Int).toNat; omega)
      | exact hQ _ _ ⟨rfl, hd⟩
      | (show J0 _ _ _; refine (hJ0 _ _ _).mpr ⟨⟨⟨by omega, by omega⟩, by omega, by omega⟩, hd3⟩)
  · have e1 : ab_lo = -2147483648 := rfl
    have e2 : ab_hi = 2147483647 := rfl
    repeat' first | (intro h; exact absurd h (by decide)) | (intro h; exact absurd rfl h) | refine And.intro ?_ ?_ | intro _ | refine Or.inl ⟨by omega, by omega, ?_⟩ | refine Or.inr ?_ | exact trivial | (refine wk_use (k47 hZ _ _ _ (by omega) (by omega) (by omega) (by omega)) rfl rfl ?_; rintro - _ _ - - - ⟨_, rfl, rfl, rfl⟩; refine Or.inl ⟨[], rfl, ?_⟩) | (refine wk_use (k52 hZ _ _ _ _ _ (by omega) (by omega) (by omega) (by omega) (by omega) (by omega) h) rfl rfl ?_; rintro - _ _ - hfr - ⟨rfl, hd2⟩; refine Or.inr ?_)
    all_goals first
      | omega
      | trivial
      | (show J0 _ _ _; refine (hJ0 _ _ _).mpr ⟨⟨⟨by omega, by omega⟩, by omega, by omega⟩, hd2⟩)

theorem dR_zero {f : Int → Int} (h : ∀ i : Int, 0 ≤ i → i < ((2016 : Nat) : Int) → f i = 0) : dR f := by
  intro n k n0 n1 k0 k1
  rw [h _ (by omega) (by omega)]
  exact bit_zero

set_option maxRecDepth 20000 in
theorem k35 {Z : sm_Z} (hZ : Z.2.2.2 = tb_N) (m : wk_M) (hO : cOps m.1) (hE : cEn m.1) : wC Z 5 35 [14, 15, 16, 17, 18, 20, 21, 22, 23, 24] [.inr (.inl 13)] m (fun r m' => r = none ∧ dM m'.1) := by
  obtain ⟨J0, hJ0⟩ : ∃ J : Int → wk_M → Prop, ∀ i m', J i m' ↔ ((0 ≤ i ∧ i ≤ 32) ∧ dM m'.1) := ⟨_, fun _ _ => Iff.rfl⟩
  obtain ⟨J1, hJ1⟩ : ∃ J : Int → wk_M → Prop, ∀ i m', J i m' ↔ ((0 ≤ i ∧ i ≤ 4) ∧ dM m'.1) := ⟨_, fun _ _ => Iff.rfl⟩
  refine wC.gen fun Q hQ => wk_E hZ (by exact rfl) [(49, [(3, 13), (1, 0)], fun vs _ m' => (match vs with
    | [i] => J0 i m'
    | _ => False), fun vs _ m' => (match vs with
    | [i] => (1000 - i : Int).toNat
    | _ => 0)), (99, [(3, 13), (1, 0)], fun vs _ m' => (match vs with
    | [i] => J1 i m'
    | _ => False), fun vs _ m' => (match vs with
    | [i] => (900 - i : Int).toNat
    | _ => 0))] rfl (fun hr hs => ⟨?_, ⟨?_, trivial⟩⟩) (fun hr hs => ?_)
  · have e1 : ab_lo = -2147483648 := rfl
    have e2 : ab_hi = 2147483647 := rfl
    intro m2 hr2 hf2 i il ih hI
    have hI := (hJ0 _ _).mp hI
    obtain ⟨⟨i0, i1⟩, hd⟩ := hI
    have hO2 := cOps_fr hf2 rfl hO
    have hc := cnt32 hr2
    repeat' first | (intro h; exact absurd h (by decide)) | (intro h; exact absurd rfl h) | refine And.intro ?_ ?_ | intro _ | refine Or.inl ⟨by omega, by omega, ?_⟩ | refine Or.inr ?_ | exact trivial | (refine wk_use (k44 hZ _ _) rfl rfl ?_; rintro - _ _ - - - ⟨_, rfl, rfl, ⟨rfl, hn⟩ | ⟨rfl, hn⟩⟩; refine Or.inl ⟨[], rfl, ?_⟩) | (refine wk_use (k46 hZ _ _ (by omega) (by omega) hd) rfl rfl ?_; rintro - _ _ - hfr - ⟨rfl, hd2⟩; have hp := congrFun (hfr 1 (by decide)).1 ((4 : Nat) : Int); (try simp (decide := true) only [wk_u_at, wk_ul_1, and_self, and_true, true_and, and_false, false_and, if_true, if_false] at hp); have hp := congrFun (hfr 2 (by decide)).1 i; (try simp (decide := true) only [wk_u_at, wk_ul_1, and_self, and_true, true_and, and_false, false_and, if_true, if_false] at hp); have hO3 := cOps_fr hfr rfl hO2; refine Or.inr ?_) | (refine wk_use (k51 hZ _ _ (by omega) (by omega) (by omega) hO3 (by omega) hd2) rfl rfl ?_; rintro - _ _ - hfr - ⟨rfl, hd3⟩; have hp := congrFun (hfr 1 (by decide)).1 ((4 : Nat) : Int); (try simp (decide := true) only [wk_u_at, wk_ul_1, and_self, and_true, true_and, and_false, false_and, if_true, if_false] at hp); have hp := congrFun (hfr 2 (by decide)).1 i; (try simp (decide := true) only [wk_u_at, wk_ul_1, and_self, and_true, true_and, and_false, false_and, if_true, if_false] at hp); refine Or.inr ?_) | (refine wk_use (k55 hZ _ _ (by omega) (by omega) hd3) rfl rfl ?_; rintro - _ _ - hfr - ⟨rfl, hd4⟩; have hp := congrFun (hfr 1 (by decide)).1 ((4 : Nat) : Int); (try simp (decide := true) only [wk_u_at, wk_ul_1, and_self, and_true, true_and, and_false, false_and, if_true, if_false] at hp); have hp := congrFun (hfr 2 (by decide)).1 i; (try simp (decide := true) only [wk_u_at, wk_ul_1, and_self, and_true, true_and, and_false, false_and, if_true, if_false] at hp); refine Or.inr ?_) | (refine wk_use (k58 hZ _ _ (by omega) (by omega) hd4) rfl rfl ?_; rintro - _ _ - hfr - ⟨rfl, hd5⟩; have hp := congrFun (hfr 1 (by decide)).1 ((4 : Nat) : Int); (try simp (decide := true) only [wk_u_at, wk_ul_1, and_self, and_true, true_and, and_false, false_and, if_true, if_false] at hp); have hp := congrFun (hfr 2 (by decide)).1 i; (try simp (decide := true) only [wk_u_at, wk_ul_1, and_self, and_true, true_and, and_false, false_and, if_true, if_false] at hp); refine Or.inr ?_)
    all_goals first
      | omega
      | (show (1000 - (_ : Int) : Int).toNat < (1000 - (_ : Int) : Int).toNat; omega)
      | (show J0 _ _; refine (hJ0 _ _).mpr ⟨⟨by omega, by omega⟩, hd5⟩)
      | (show J0 _ _; refine (hJ0 _ _).mpr ⟨⟨by omega, by omega⟩, hd⟩)
      | (show J1 _ _; refine (hJ1 _ _).mpr ⟨⟨by omega, by omega⟩, hd⟩)
      | (show (_ : Nat) < (_ : Nat); dsimp only; omega)
  · have e1 : ab_lo = -2147483648 := rfl
    have e2 : ab_hi = 2147483647 := rfl
    intro m2 hr2 hf2 i il ih hI
    have hI := (hJ1 _ _).mp hI
    obtain ⟨⟨i0, i1⟩, hd⟩ := hI
    repeat' first | (intro h; exact absurd h (by decide)) | (intro h; exact absurd rfl h) | refine And.intro ?_ ?_ | intro _ | refine Or.inl ⟨by omega, by omega, ?_⟩ | refine Or.inr ?_ | exact trivial | (refine wk_use (k59 hZ _ _ (by omega) (by omega) hd) rfl rfl ?_; rintro - _ _ - hfr - ⟨rfl, hd2⟩; refine Or.inr ?_)
    all_goals first
      | omega
      | (show (900 - (_ : Int) : Int).toNat < (900 - (_ : Int) : Int).toNat; omega)
      | exact hQ _ _ ⟨rfl, hd⟩
      | (show J1 _ _; refine (hJ1 _ _).mpr ⟨⟨by omega, by omega⟩, hd2⟩)
      | (show (_ : Nat) < (_ : Nat); dsimp only; omega)
  · have e1 : ab_lo = -2147483648 := rfl
    have e2 : ab_hi = 2147483647 := rfl
    repeat' first | (intro h; exact absurd h (by decide)) | (intro h; exact absurd rfl h) | refine And.intro ?_ ?_ | intro _ | refine Or.inl ⟨by omega, by omega, ?_⟩ | refine Or.inr ?_ | exact trivial | (refine wk_use (k36 hZ _ hO hE) rfl rfl ?_; rintro - _ _ - hfr - rfl; refine Or.inr ?_) | (refine wk_use (wfI 14 2016 0 _ rfl rfl (by decide) (by decide)) rfl rfl ?_; rintro - _ _ - hfr - ⟨rfl, z14⟩; refine Or.inr ?_) | (refine wk_use (wfI 15 2016 0 _ rfl rfl (by decide) (by decide)) rfl rfl ?_; rintro - _ _ - hfr - ⟨rfl, z15⟩; have e14 := (hfr 14 (by decide)).1; refine Or.inr ?_) | (refine wk_use (wfI 16 128 0 _ rfl rfl (by decide) (by decide)) rfl rfl ?_; rintro - _ _ - hfr - ⟨rfl, -⟩; have f16 := hfr; refine Or.inr ?_) | (refine wk_use (wfI 17 4 0 _ rfl rfl (by decide) (by decide)) rfl rfl ?_; rintro - _ _ - hfr - ⟨rfl, -⟩; have f17 := hfr; refine Or.inr ?_) | (refine wk_use (wfI 18 4 0 _ rfl rfl (by decide) (by decide)) rfl rfl ?_; rintro - _ _ - hfr - ⟨rfl, -⟩; have f18 := hfr; refine Or.inr ?_)
    all_goals first
      | omega
      | trivial
      | (show J0 _ _; refine (hJ0 _ _).mpr ⟨⟨by omega, by omega⟩, dM_fr f18 (by decide) (by decide) (dM_fr f17 (by decide) (by decide) (dM_fr f16 (by decide) (by decide) ⟨by rw [e14]; exact dR_zero z14, dR_zero z15⟩))⟩)
