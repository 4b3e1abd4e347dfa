/-! the class's Machine: a turn -/
theorem cnt32 {m : wk_M} (hr : wk_rg rG m) : 0 ≤ m.1 1 (4 : Nat) ∧ m.1 1 (4 : Nat) ≤ 32 := hr.1 1 4
theorem t4 {P : Int → Prop} (h0 : P 0) (h1 : P 1) (h2 : P 2) (h3 : P 3) (c : Int) (c0 : 0 ≤ c) (c1 : c ≤ 3) : P c := by
  rcases (by omega : c = 0 ∨ c = 1 ∨ c = 2 ∨ c = 3) with e | e | e | e <;> rw [e] <;> assumption
theorem mk_leave {m m' : wk_M} (hF : mF m.1) (fr : wk_fr [28, 35] m' m) (h : 1 ≤ m.1 28 (7 : Nat)) (e7 : m'.1 28 (7 : Nat) = m.1 28 (7 : Nat) - 1) (e8 : m'.1 28 (8 : Nat) = m.1 37 (m.1 28 (7 : Nat)) + 1) : mF m'.1 ∧ mA m'.1 := by
  have g1 := (fr 1 (by decide)).1
  have g2 := (fr 2 (by decide)).1
  have g10 := (fr 10 (by decide)).1
  have g11 := (fr 11 (by decide)).1
  have g36 := (fr 36 (by decide)).1
  have g37 := (fr 37 (by decide)).1
  obtain ⟨⟨a, b⟩, c, d⟩ := hF
  have q := d _ h (Int.le_refl _)
  constructor
  · unfold mF
    rw [e7, g1, g2, g10, g11, g36, g37]
    exact ⟨⟨by omega, by omega⟩, fun k k0 k1 => c k k0 (by omega), fun k k0 k1 => d k k0 (by omega)⟩
  · unfold mA
    rw [e7, e8, g10, g11, g36]
    omega
theorem mk_enter {m m' : wk_M} {g i : Int} (hF : mF m.1) (fr : wk_fr [28, 35, 36, 37] m' m) (hL : cWL m.1) (g0 : 0 ≤ g) (g1 : g < m.1 1 (11 : Nat)) (i0 : m.1 10 (m.1 36 (m.1 28 (7 : Nat))) ≤ i) (i1 : i < m.1 11 (m.1 36 (m.1 28 (7 : Nat)))) (o0 : 13 ≤ m.1 2 i) (o1 : m.1 2 i ≤ 16) (h : m.1 28 (7 : Nat) ≤ 5) (e7 : m'.1 28 (7 : Nat) = m.1 28 (7 : Nat) + 1) (e8 : m'.1 28 (8 : Nat) = m.1 10 g) (e36 : ∀ k, m'.1 36 k = if k = m.1 28 (7 : Nat) + 1 then g else m.1 36 k) (e37 : ∀ k, m'.1 37 k = if k = m.1 28 (7 : Nat) + 1 then i else m.1 37 k) : mF m'.1 ∧ mA m'.1 := by
  have f1 := (fr 1 (by decide)).1
  have f2 := (fr 2 (by decide)).1
  have f10 := (fr 10 (by decide)).1
  have f11 := (fr 11 (by decide)).1
  obtain ⟨⟨a, b⟩, c, d⟩ := hF
  have s := e36 (m.1 28 (7 : Nat) + 1)
  rw [if_pos rfl] at s
  constructor
  · unfold mF
    rw [e7, f1, f2, f10, f11]
    refine ⟨⟨by omega, by omega⟩, fun k k0 k1 => ?_, fun k k0 k1 => ?_⟩
    · rw [e36 k]
      split
      · exact ⟨g0, g1⟩
      · exact c k k0 (by omega)
    · rw [e36 (k - 1), e37 k, if_neg (by omega)]
      split
      · rename_i ek
        have e : k - 1 = m.1 28 (7 : Nat) := by omega
        rw [e]
        exact ⟨i0, i1, o0, o1⟩
      · exact d k k0 (by omega)
  · unfold mA
    rw [e7, e8, f10, f11, s]
    have := hL.2.1 g g0 g1
    omega

theorem mk_keep2 {m m' : wk_M} (hF : mF m.1) (fr : wk_fr [28, 29, 30, 31, 32, 34, 35] m' m) (e7 : m'.1 28 (7 : Nat) = m.1 28 (7 : Nat)) (a : m.1 10 (m.1 36 (m.1 28 (7 : Nat))) ≤ m'.1 28 (8 : Nat) ∧ m'.1 28 (8 : Nat) ≤ m.1 11 (m.1 36 (m.1 28 (7 : Nat)))) : mF m'.1 ∧ mA m'.1 := by
  have g1 := (fr 1 (by decide)).1
  have g2 := (fr 2 (by decide)).1
  have g10 := (fr 10 (by decide)).1
  have g11 := (fr 11 (by decide)).1
  have g36 := (fr 36 (by decide)).1
  have g37 := (fr 37 (by decide)).1
  refine ⟨?_, ?_⟩
  · unfold mF at *
    rw [e7, g1, g2, g10, g11, g36, g37]
    exact hF
  · unfold mA
    rw [e7, g10, g11, g36]
    exact a

set_option maxRecDepth 20000 in
theorem k117 {Z : sm_Z} (hZ : Z.2.2.2 = tb_N) (m : wk_M) (hF : mF m.1) (hA : mA m.1) (hO : cOps m.1) (hL : cWL m.1) : wC Z 2 117 [28, 35] [.inr (.inl 28)] m (fun r m' => r = none ∧ (mF m'.1 ∧ mA m'.1) ∧ m'.1 28 (9 : Nat) = m.1 28 (9 : Nat) ∧ m'.1 28 (10 : Nat) = m.1 28 (10 : Nat)) := by
  refine wC.gen fun Q hQ => wk_E hZ (by exact rfl) [] rfl (fun _ _ => trivial) fun hr hs => ?_
  have e1 : ab_lo = -2147483648 := rfl
  have e2 : ab_hi = 2147483647 := rfl
  have hc := cnt32 hr
  obtain ⟨⟨d0, d1⟩, c1, c2⟩ := id hF
  have q := c2 (m.1 28 (7 : Nat))
  have q2 := c1 (m.1 28 (7 : Nat) - 1)
  have q3 := hL.2.1 (m.1 36 (m.1 28 (7 : Nat) - 1))
  have q4 := (hO (m.1 37 (m.1 28 (7 : Nat))))
  unfold nD at q4
  repeat' first | refine And.intro ?_ ?_ | intro _ | refine Or.inl ⟨by omega, by omega, ?_⟩ | refine Or.inr ?_ | exact trivial | (refine wk_use (k118 hZ _ _ (by omega) (by omega) (by omega) (by omega)) rfl rfl ?_; rintro - _ _ - - - ⟨_, rfl, rfl, _⟩; refine Or.inl ⟨[], rfl, ?_⟩) | (refine wk_use (k115 hZ _ _ (by omega) (by omega) _ (by simp (decide := true) only [wk_u_at, wk_ul_1, and_self, and_true, true_and, and_false, false_and, if_true, if_false]; omega) (by simp (decide := true) only [wk_u_at, wk_ul_1, and_self, and_true, true_and, and_false, false_and, if_true, if_false]; omega)) rfl rfl ?_; rintro - _ _ - - - ⟨rfl, rfl⟩; refine Or.inl ⟨[(35, .inr _, _)], rfl, ?_⟩)
  all_goals first
    | omega
    | (refine hQ _ _ ⟨rfl, mk_leave hF ?_ (by omega) ?_ ?_, ?_, ?_⟩ <;> first | omega | ((repeat' first | exact wk_fr_refl _ _ | refine wk_fr_u (by decide) ?_ | refine wk_fr_ul (by decide) ?_ | refine wk_fr.tm (by assumption) rfl ?_); done) | (simp (decide := true) only [wk_u_at, wk_ul_1, and_self, and_true, true_and, and_false, false_and, if_true, if_false] <;> omega))
    | (refine hQ _ _ ⟨rfl, mk_keep2 hF ?_ ?_ (by unfold mA at hA; simp (decide := true) only [wk_u_at, wk_ul_1, and_self, and_true, true_and, and_false, false_and, if_true, if_false] <;> omega), ?_, ?_⟩ <;> first | omega | ((repeat' first | exact wk_fr_refl _ _ | refine wk_fr_u (by decide) ?_ | refine wk_fr_ul (by decide) ?_ | refine wk_fr.tm (by assumption) rfl ?_); done) | (simp (decide := true) only [wk_u_at, wk_ul_1, and_self, and_true, true_and, and_false, false_and, if_true, if_false] <;> omega))

set_option maxRecDepth 20000 in
theorem k121 {Z : sm_Z} (hZ : Z.2.2.2 = tb_N) (m : wk_M) (i : Int) (i0 : m.1 10 (m.1 36 (m.1 28 (7 : Nat))) ≤ i) (i1 : i < m.1 11 (m.1 36 (m.1 28 (7 : Nat)))) (o0 : 13 ≤ m.1 2 i) (o1 : m.1 2 i ≤ 16) (hF : mF m.1) (hA : mA m.1) (hO : cOps m.1) (hL : cWL m.1) : wC Z 3 121 [28, 35, 36, 37] [.inr (.inl 28), .inl i] m (fun r m' => r = none ∧ (mF m'.1 ∧ mA m'.1) ∧ m'.1 28 (9 : Nat) = m.1 28 (9 : Nat) ∧ m'.1 28 (10 : Nat) = m.1 28 (10 : Nat)) := by
  refine wC.gen fun Q hQ => wk_E hZ (by exact rfl) [] rfl (fun _ _ => trivial) fun hr hs => ?_
  have e1 : ab_lo = -2147483648 := rfl
  have e2 : ab_hi = 2147483647 := rfl
  have hc := cnt32 hr
  obtain ⟨⟨d0, d1⟩, c1, c2⟩ := id hF
  obtain ⟨⟨n0, n1⟩, n2, n3, n4⟩ := id hL
  obtain ⟨p0, p1⟩ := c1 (m.1 28 (7 : Nat)) d0 (Int.le_refl _)
  have q3 := n2 _ p0 p1
  have q4 := hO i (by omega) (by omega)
  have q5 := n3 _ i p0 p1 i0 i1
  unfold cAt at q5
  unfold nD nA nB at q4
  have q6 := n4 i (by omega) (by omega) o0 o1
  have qa := q4.2.1 (by omega)
  have qb := q4.2.2 (by omega)
  clear q4 q5
  repeat' first | refine And.intro ?_ ?_ | intro _ | refine Or.inl ⟨by omega, by omega, ?_⟩ | refine Or.inr ?_ | exact trivial | (refine wk_use (k118 hZ _ _ (by omega) (by omega) (by omega) (by omega)) rfl rfl ?_; rintro - _ _ - - - ⟨_, rfl, rfl, _⟩; refine Or.inl ⟨[], rfl, ?_⟩) | (refine wk_use (k34 hZ _ _ (by omega) (by omega)) rfl rfl ?_; rintro - _ _ - - - ⟨_, rfl, rfl, _⟩; refine Or.inl ⟨[], rfl, ?_⟩) | (refine wk_use (k114 hZ _ _ _ _ _ (by omega) (by omega) (by omega) (by omega) (by omega) (by omega)) rfl rfl ?_; rintro - _ _ - hfr - ⟨rfl, ⟨_, _, _, _, _⟩, ea, eb⟩; refine Or.inr ?_)
  all_goals first
    | omega
    | (refine hQ _ _ ⟨rfl, mk_enter hF (by assumption) hL (by omega) (by omega) i0 i1 o0 o1 (by omega) (by assumption) ?_ ea eb, ?_, ?_⟩ <;> first | omega | ((repeat' first | exact wk_fr_refl _ _ | refine wk_fr_u (by decide) ?_ | refine wk_fr_ul (by decide) ?_ | refine wk_fr.tm (by assumption) rfl ?_); done) | (simp (decide := true) only [wk_u_at, wk_ul_1, and_self, and_true, true_and, and_false, false_and, if_true, if_false] <;> omega))
    | (refine hQ _ _ ⟨rfl, mk_keep2 hF ?_ ?_ (by unfold mA at hA; simp (decide := true) only [wk_u_at, wk_ul_1, and_self, and_true, true_and, and_false, false_and, if_true, if_false] <;> omega), ?_, ?_⟩ <;> first | omega | ((repeat' first | exact wk_fr_refl _ _ | refine wk_fr_u (by decide) ?_ | refine wk_fr_ul (by decide) ?_ | refine wk_fr.tm (by assumption) rfl ?_); done) | (simp (decide := true) only [wk_u_at, wk_ul_1, and_self, and_true, true_and, and_false, false_and, if_true, if_false] <;> omega))

set_option maxRecDepth 20000 in
theorem k122 {Z : sm_Z} (hZ : Z.2.2.2 = tb_N) (m : wk_M) (i : Int) (i0 : m.1 10 (m.1 36 (m.1 28 (7 : Nat))) ≤ i) (i1 : i < m.1 11 (m.1 36 (m.1 28 (7 : Nat)))) (o : m.1 2 i = 9 ∨ m.1 2 i = 11) (h : m.1 29 (1 : Nat) < 1000000) (e8 : m.1 28 (8 : Nat) = i) (hF : mF m.1) (hA : mA m.1) (hO : cOps m.1) (hL : cWL m.1) : wC Z 3 122 [28, 29, 30] [.inr (.inl 28), .inl i] m (fun r m' => r = none ∧ m'.1 28 (7 : Nat) = m.1 28 (7 : Nat) ∧ (m'.1 28 (9 : Nat) = m.1 28 (9 : Nat) ∧ m'.1 28 (10 : Nat) = m.1 28 (10 : Nat)) ∧ (m.1 10 (m.1 36 (m.1 28 (7 : Nat))) ≤ m'.1 28 (8 : Nat) ∧ m'.1 28 (8 : Nat) ≤ m.1 11 (m.1 36 (m.1 28 (7 : Nat)))) ∧ m.1 29 (1 : Nat) ≤ m'.1 29 (1 : Nat) ∧ m'.1 29 (1 : Nat) ≤ m.1 29 (1 : Nat) + 1) := by
  refine wC.gen fun Q hQ => wk_E hZ (by exact rfl) [] rfl (fun _ _ => trivial) fun hr hs => ?_
  have e1 : ab_lo = -2147483648 := rfl
  have e2 : ab_hi = 2147483647 := rfl
  have hc := cnt32 hr
  obtain ⟨⟨d0, d1⟩, c1, c2⟩ := id hF
  obtain ⟨⟨n0, n1⟩, n2, n3, n4⟩ := id hL
  obtain ⟨p0, p1⟩ := c1 (m.1 28 (7 : Nat)) d0 (Int.le_refl _)
  have q3 := n2 _ p0 p1
  have q4 := hO i (by omega) (by omega)
  have q5 := n3 _ i p0 p1 i0 i1
  unfold cAt at q5
  unfold nD nA nB at q4
  have qa := q4.2.1 (by omega)
  have q9 := q5.2.2.2.1
  have q11 := q5.2.2.2.2
  clear q4 q5
  repeat' first | refine And.intro ?_ ?_ | intro _ | refine Or.inl ⟨by omega, by omega, ?_⟩ | refine Or.inr ?_ | exact trivial | (refine wk_use (k118 hZ _ _ (by omega) (by omega) (by omega) (by omega)) rfl rfl ?_; rintro - _ _ - - - ⟨_, rfl, rfl, _⟩; refine Or.inl ⟨[], rfl, ?_⟩) | (refine wk_use (k123 hZ _ _ _ (by omega)) rfl rfl ?_; rintro - _ _ - hfr - ⟨rfl, _, _⟩; have hp := congrFun (hfr 28 (by decide)).1 ((7 : Nat) : Int); (try simp (decide := true) only [wk_u_at, wk_ul_1, and_self, and_true, true_and, and_false, false_and, if_true, if_false] at hp); have hp := congrFun (hfr 28 (by decide)).1 ((8 : Nat) : Int); (try simp (decide := true) only [wk_u_at, wk_ul_1, and_self, and_true, true_and, and_false, false_and, if_true, if_false] at hp); have hp := congrFun (hfr 28 (by decide)).1 ((9 : Nat) : Int); (try simp (decide := true) only [wk_u_at, wk_ul_1, and_self, and_true, true_and, and_false, false_and, if_true, if_false] at hp); have hp := congrFun (hfr 28 (by decide)).1 ((10 : Nat) : Int); (try simp (decide := true) only [wk_u_at, wk_ul_1, and_self, and_true, true_and, and_false, false_and, if_true, if_false] at hp); have hp := congrFun (hfr 2 (by decide)).1 i; (try simp (decide := true) only [wk_u_at, wk_ul_1, and_self, and_true, true_and, and_false, false_and, if_true, if_false] at hp); have hp := congrFun (hfr 7 (by decide)).1 i; (try simp (decide := true) only [wk_u_at, wk_ul_1, and_self, and_true, true_and, and_false, false_and, if_true, if_false] at hp); have hp := congrFun (hfr 8 (by decide)).1 i; (try simp (decide := true) only [wk_u_at, wk_ul_1, and_self, and_true, true_and, and_false, false_and, if_true, if_false] at hp); refine Or.inr ?_) | (refine wk_use (k39 hZ _ _ (by omega) (by omega)) rfl rfl ?_; rintro - _ _ - - - ⟨_, rfl, rfl, _⟩; refine Or.inl ⟨[], rfl, ?_⟩)
  all_goals first
    | omega
    | (refine hQ _ _ ⟨rfl, ?_, ⟨?_, ?_⟩, ⟨?_, ?_⟩, ?_, ?_⟩ <;> first | omega | ((repeat' first | exact wk_fr_refl _ _ | refine wk_fr_u (by decide) ?_ | refine wk_fr_ul (by decide) ?_ | refine wk_fr.tm (by assumption) rfl ?_); done) | (simp (decide := true) only [wk_u_at, wk_ul_1, and_self, and_true, true_and, and_false, false_and, if_true, if_false] <;> omega))

set_option maxRecDepth 20000 in
theorem k120 {Z : sm_Z} (hZ : Z.2.2.2 = tb_N) (m : wk_M) (i : Int) (i0 : m.1 10 (m.1 36 (m.1 28 (7 : Nat))) ≤ i) (i1 : i < m.1 11 (m.1 36 (m.1 28 (7 : Nat)))) (e8 : m.1 28 (8 : Nat) = i) (hn : ¬ m.1 2 i = 10 ∧ ¬ m.1 2 i = 12 ∧ ¬ m.1 2 i = 18) (hC : mC m.1 1) (hF : mF m.1) (hA : mA m.1) (hO : cOps m.1) (hL : cWL m.1) : wC Z 4 120 [28, 29, 30, 31, 32, 34, 35, 36, 37] [.inr (.inl 28), .inl i] m (fun r m' => r = none ∧ (mF m'.1 ∧ mA m'.1) ∧ mC m'.1 0) := by
  refine wC.gen fun Q hQ => wk_E hZ (by exact rfl) [] rfl (fun _ _ => trivial) fun hr hs => ?_
  have e1 : ab_lo = -2147483648 := rfl
  have e2 : ab_hi = 2147483647 := rfl
  have hc := cnt32 hr
  obtain ⟨⟨d0, d1⟩, c1, c2⟩ := id hF
  obtain ⟨⟨n0, n1⟩, n2, n3, n4⟩ := id hL
  obtain ⟨p0, p1⟩ := c1 (m.1 28 (7 : Nat)) d0 (Int.le_refl _)
  have q3 := n2 _ p0 p1
  have q4 := hO i (by omega) (by omega)
  unfold mC at hC
  obtain ⟨qd, qa, qb⟩ := q4
  obtain ⟨hC1, ⟨hC2, hC3, hC4, hC5⟩, hC6, hC7⟩ := hC
  have hCa : ∀ c, 0 ≤ c → c ≤ 3 → m.1 32 c + 1 ≤ m.1 28 (9 : Nat) := t4 hC2 hC3 hC4 hC5
  repeat' first | (intro h; exact absurd h (by decide)) | (intro h; exact absurd rfl h) | refine And.intro ?_ ?_ | intro _ | refine Or.inl ⟨by omega, by omega, ?_⟩ | refine Or.inr ?_ | exact trivial | (refine wk_use (k33 hZ _ _) rfl rfl ?_; rintro - _ _ - - - ⟨_, rfl, rfl, ⟨rfl, _⟩ | ⟨rfl, _⟩⟩; refine Or.inl ⟨[], rfl, ?_⟩) | (refine wk_use (k121 hZ _ _ i0 i1 (by omega) (by omega) hF hA hO hL) rfl rfl ?_; rintro - _ _ - hfr - ⟨rfl, hFA, _, _⟩; have hp := congrFun (hfr 29 (by decide)).1 ((1 : Nat) : Int); (try simp (decide := true) only [wk_u_at, wk_ul_1, and_self, and_true, true_and, and_false, false_and, if_true, if_false] at hp); have hp := congrFun (hfr 32 (by decide)).1 0; (try simp (decide := true) only [wk_u_at, wk_ul_1, and_self, and_true, true_and, and_false, false_and, if_true, if_false] at hp); have hp := congrFun (hfr 32 (by decide)).1 1; (try simp (decide := true) only [wk_u_at, wk_ul_1, and_self, and_true, true_and, and_false, false_and, if_true, if_false] at hp); have hp := congrFun (hfr 32 (by decide)).1 2; (try simp (decide := true) only [wk_u_at, wk_ul_1, and_self, and_true, true_and, and_false, false_and, if_true, if_false] at hp); have hp := congrFun (hfr 32 (by decide)).1 3; (try simp (decide := true) only [wk_u_at, wk_ul_1, and_self, and_true, true_and, and_false, false_and, if_true, if_false] at hp); refine Or.inr ?_) | (refine wk_use (k119 hZ _ _ (by omega) (by omega)) rfl rfl ?_; rintro - _ _ - - - ⟨_, rfl, rfl, ⟨rfl, _⟩ | ⟨rfl, _⟩⟩; refine Or.inl ⟨[], rfl, ?_⟩) | (refine wk_use (k122 hZ _ _ i0 i1 (by omega) (by omega) e8 hF hA hO hL) rfl rfl ?_; rintro - _ _ - hfr - ⟨rfl, _, ⟨_, _⟩, ⟨_, _⟩, _, _⟩; have hp := congrFun (hfr 32 (by decide)).1 0; (try simp (decide := true) only [wk_u_at, wk_ul_1, and_self, and_true, true_and, and_false, false_and, if_true, if_false] at hp); have hp := congrFun (hfr 32 (by decide)).1 1; (try simp (decide := true) only [wk_u_at, wk_ul_1, and_self, and_true, true_and, and_false, false_and, if_true, if_false] at hp); have hp := congrFun (hfr 32 (by decide)).1 2; (try simp (decide := true) only [wk_u_at, wk_ul_1, and_self, and_true, true_and, and_false, false_and, if_true, if_false] at hp); have hp := congrFun (hfr 32 (by decide)).1 3; (try simp (decide := true) only [wk_u_at, wk_ul_1, and_self, and_true, true_and, and_false, false_and, if_true, if_false] at hp); refine Or.inr ?_) | (refine wk_use (k118 hZ _ _ (by have := qa (by unfold nA; omega); omega) (by have := qa (by unfold nA; omega); omega) (by first | omega | (simp (decide := true) only [wk_u_at, wk_ul_1, and_self, and_true, true_and, and_false, false_and, if_true, if_false] <;> omega)) (by first | omega | (simp (decide := true) only [wk_u_at, wk_ul_1, and_self, and_true, true_and, and_false, false_and, if_true, if_false] <;> omega))) rfl rfl ?_; rintro - _ _ - - ho ⟨_, rfl, rfl, _⟩; have := ho.1; have := ho.2; clear ho; refine Or.inl ⟨[], rfl, ?_⟩) | (refine wk_use (k118 hZ _ _ (by have := qb (by unfold nB; omega); omega) (by have := qb (by unfold nB; omega); omega) (by first | omega | (simp (decide := true) only [wk_u_at, wk_ul_1, and_self, and_true, true_and, and_false, false_and, if_true, if_false] <;> omega)) (by first | omega | (simp (decide := true) only [wk_u_at, wk_ul_1, and_self, and_true, true_and, and_false, false_and, if_true, if_false] <;> omega))) rfl rfl ?_; rintro - _ _ - - ho ⟨_, rfl, rfl, _⟩; have := ho.1; have := ho.2; clear ho; refine Or.inl ⟨[], rfl, ?_⟩) | (refine wk_use (k126 hZ _ _ (by omega) (by omega) (by omega) (by omega) qa qb) rfl rfl ?_; rintro - _ _ - - ho ⟨_, rfl, rfl⟩; have := ho.1; have := ho.2; clear ho; refine Or.inl ⟨[], rfl, ?_⟩) | (refine wk_use (k115 hZ _ _ (by have := qd (by unfold nD; omega); omega) (by have := qd (by unfold nD; omega); omega) _ (by first | omega | (simp (decide := true) only [wk_u_at, wk_ul_1, and_self, and_true, true_and, and_false, false_and, if_true, if_false] <;> omega)) (by first | omega | (simp (decide := true) only [wk_u_at, wk_ul_1, and_self, and_true, true_and, and_false, false_and, if_true, if_false] <;> omega))) rfl rfl ?_; rintro - _ _ - - - ⟨rfl, rfl⟩; refine Or.inl ⟨[(35, .inr _, _)], rfl, ?_⟩) | (refine wk_use (k123 hZ _ _ _ (by first | omega | (simp (decide := true) only [wk_u_at, wk_ul_1, and_self, and_true, true_and, and_false, false_and, if_true, if_false] <;> omega))) rfl rfl ?_; rintro - _ _ - hfr - ⟨rfl, hpa, hpb⟩; have hp := congrFun (hfr 28 (by decide)).1 ((7 : Nat) : Int); (try simp (decide := true) only [wk_u_at, wk_ul_1, and_self, and_true, true_and, and_false, false_and, if_true, if_false] at hp); have hp := congrFun (hfr 28 (by decide)).1 ((8 : Nat) : Int); (try simp (decide := true) only [wk_u_at, wk_ul_1, and_self, and_true, true_and, and_false, false_and, if_true, if_false] at hp); have hp := congrFun (hfr 28 (by decide)).1 ((9 : Nat) : Int); (try simp (decide := true) only [wk_u_at, wk_ul_1, and_self, and_true, true_and, and_false, false_and, if_true, if_false] at hp); have hp := congrFun (hfr 28 (by decide)).1 ((10 : Nat) : Int); (try simp (decide := true) only [wk_u_at, wk_ul_1, and_self, and_true, true_and, and_false, false_and, if_true, if_false] at hp); have hp := congrFun (hfr 32 (by decide)).1 0; (try simp (decide := true) only [wk_u_at, wk_ul_1, and_self, and_true, true_and, and_false, false_and, if_true, if_false] at hp); have hp := congrFun (hfr 32 (by decide)).1 1; (try simp (decide := true) only [wk_u_at, wk_ul_1, and_self, and_true, true_and, and_false, false_and, if_true, if_false] at hp); have hp := congrFun (hfr 32 (by decide)).1 2; (try simp (decide := true) only [wk_u_at, wk_ul_1, and_self, and_true, true_and, and_false, false_and, if_true, if_false] at hp); have hp := congrFun (hfr 32 (by decide)).1 3; (try simp (decide := true) only [wk_u_at, wk_ul_1, and_self, and_true, true_and, and_false, false_and, if_true, if_false] at hp); have hp := congrFun (hfr 2 (by decide)).1 i; (try simp (decide := true) only [wk_u_at, wk_ul_1, and_self, and_true, true_and, and_false, false_and, if_true, if_false] at hp); have hp := congrFun (hfr 3 (by decide)).1 i; (try simp (decide := true) only [wk_u_at, wk_ul_1, and_self, and_true, true_and, and_false, false_and, if_true, if_false] at hp); have hp := congrFun (hfr 4 (by decide)).1 i; (try simp (decide := true) only [wk_u_at, wk_ul_1, and_self, and_true, true_and, and_false, false_and, if_true, if_false] at hp); have hp := congrFun (hfr 5 (by decide)).1 i; (try simp (decide := true) only [wk_u_at, wk_ul_1, and_self, and_true, true_and, and_false, false_and, if_true, if_false] at hp); (try simp (decide := true) only [wk_u_at, wk_ul_1, and_self, and_true, true_and, and_false, false_and, if_true, if_false] at hpa); (try simp (decide := true) only [wk_u_at, wk_ul_1, and_self, and_true, true_and, and_false, false_and, if_true, if_false] at hpb); refine Or.inr ?_) | (refine wk_use (k125 hZ _ _ (by have := qd (by unfold nD; omega); omega) (by have := qd (by unfold nD; omega); omega) _ (by have q := qd (by unfold nD; omega); have := hCa _ q.1 q.2; omega)) rfl rfl ?_; rintro - _ _ - hfr - ⟨rfl, -, ej⟩; have hp := congrFun (hfr 28 (by decide)).1 ((7 : Nat) : Int); (try simp (decide := true) only [wk_u_at, wk_ul_1, and_self, and_true, true_and, and_false, false_and, if_true, if_false] at hp); have hp := congrFun (hfr 28 (by decide)).1 ((8 : Nat) : Int); (try simp (decide := true) only [wk_u_at, wk_ul_1, and_self, and_true, true_and, and_false, false_and, if_true, if_false] at hp); have hp := congrFun (hfr 28 (by decide)).1 ((9 : Nat) : Int); (try simp (decide := true) only [wk_u_at, wk_ul_1, and_self, and_true, true_and, and_false, false_and, if_true, if_false] at hp); have hp := congrFun (hfr 28 (by decide)).1 ((10 : Nat) : Int); (try simp (decide := true) only [wk_u_at, wk_ul_1, and_self, and_true, true_and, and_false, false_and, if_true, if_false] at hp); have hp := congrFun (hfr 29 (by decide)).1 ((1 : Nat) : Int); (try simp (decide := true) only [wk_u_at, wk_ul_1, and_self, and_true, true_and, and_false, false_and, if_true, if_false] at hp); have hp := congrFun (hfr 2 (by decide)).1 i; (try simp (decide := true) only [wk_u_at, wk_ul_1, and_self, and_true, true_and, and_false, false_and, if_true, if_false] at hp); have hp := congrFun (hfr 3 (by decide)).1 i; (try simp (decide := true) only [wk_u_at, wk_ul_1, and_self, and_true, true_and, and_false, false_and, if_true, if_false] at hp); have hp := congrFun (hfr 4 (by decide)).1 i; (try simp (decide := true) only [wk_u_at, wk_ul_1, and_self, and_true, true_and, and_false, false_and, if_true, if_false] at hp); have hp := congrFun (hfr 5 (by decide)).1 i; (try simp (decide := true) only [wk_u_at, wk_ul_1, and_self, and_true, true_and, and_false, false_and, if_true, if_false] at hp); have hp := ej 0; (try simp (decide := true) only [wk_u_at, wk_ul_1, and_self, and_true, true_and, and_false, false_and, if_true, if_false] at hp); have hp := ej 1; (try simp (decide := true) only [wk_u_at, wk_ul_1, and_self, and_true, true_and, and_false, false_and, if_true, if_false] at hp); have hp := ej 2; (try simp (decide := true) only [wk_u_at, wk_ul_1, and_self, and_true, true_and, and_false, false_and, if_true, if_false] at hp); have hp := ej 3; (try simp (decide := true) only [wk_u_at, wk_ul_1, and_self, and_true, true_and, and_false, false_and, if_true, if_false] at hp); refine Or.inr ?_)
  all_goals first
    | omega
    | (refine hQ _ _ ⟨rfl, hFA, ⟨?_, ⟨?_, ?_, ?_, ?_⟩, ?_, ?_⟩⟩ <;> omega)
    | (refine hQ _ _ ⟨rfl, mk_keep2 hF ?_ ?_ ⟨?_, ?_⟩, ⟨?_, ⟨?_, ?_, ?_, ?_⟩, ?_, ?_⟩⟩ <;> first | omega | ((repeat' first | exact wk_fr_refl _ _ | refine wk_fr_u (by decide) ?_ | refine wk_fr_ul (by decide) ?_ | refine wk_fr.tm (by assumption) rfl ?_); done) | (simp (decide := true) only [wk_u_at, wk_ul_1, and_self, and_true, true_and, and_false, false_and, if_true, if_false] <;> omega))
