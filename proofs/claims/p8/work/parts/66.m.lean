/-! the reference: run -/
theorem rWL_fr {m' m : wk_M} (e0 : m'.1 46 (0 : Nat) = m.1 46 (0 : Nat)) (e6 : m'.1 46 (6 : Nat) = m.1 46 (6 : Nat)) (h : ∀ p, 47 ≤ p → p ≤ 57 → m'.1 p = m.1 p) (hL : rWL m.1) : rWL m'.1 := by
  unfold rWL rAt
  rw [e0, e6, h 47 (by decide) (by decide), h 51 (by decide) (by decide), h 52 (by decide) (by decide), h 53 (by decide) (by decide), h 55 (by decide) (by decide), h 56 (by decide) (by decide), h 57 (by decide) (by decide)]
  exact hL
theorem rOps_fr {m' m : wk_M} (e0 : m'.1 46 (0 : Nat) = m.1 46 (0 : Nat)) (h : ∀ p, 47 ≤ p → p ≤ 57 → m'.1 p = m.1 p) (hO : rOps m.1) : rOps m'.1 := by
  unfold rOps
  rw [e0, h 47 (by decide) (by decide), h 48 (by decide) (by decide), h 49 (by decide) (by decide), h 50 (by decide) (by decide)]
  exact hO
theorem rCl_fr {m' m : wk_M} (e0 : m'.1 46 (0 : Nat) = m.1 46 (0 : Nat)) (e6 : m'.1 46 (6 : Nat) = m.1 46 (6 : Nat)) (h : ∀ p, 47 ≤ p → p ≤ 57 → m'.1 p = m.1 p) (hO : rCl m.1) : rCl m'.1 := by
  unfold rCl
  rw [e0, e6, h 47 (by decide) (by decide)]
  exact hO
theorem fr_57 {W : List Nat} {m' m : wk_M} (h : wk_fr W m' m) (hw : (W.all fun p => Nat.beq p 46 || Nat.ble 58 p) = true) : ∀ p, 47 ≤ p → p ≤ 57 → m'.1 p = m.1 p := by
  intro p p0 p1
  refine (h p (fun z => ?_)).1
  have := List.all_eq_true.mp hw p z
  rw [Bool.or_eq_true] at this
  rcases this with a | a
  · have := dp_beq a
    omega
  · have := Nat.le_of_ble_eq_true a
    omega
theorem rF_same {m' m : wk_M} (e26 : m'.1 46 (26 : Nat) = m.1 46 (26 : Nat)) (e6 : m'.1 46 (6 : Nat) = m.1 46 (6 : Nat)) (h : ∀ p, 47 ≤ p → p ≤ 57 → m'.1 p = m.1 p) (h67 : m'.1 67 = m.1 67) (hF : rF m.1) : rF m'.1 := by
  unfold rF
  rw [e26, e6, h67, h 47 (by decide) (by decide), h 51 (by decide) (by decide), h 52 (by decide) (by decide), h 53 (by decide) (by decide)]
  exact hF
theorem rF_leave {m' m : wk_M} (d : 2 ≤ m.1 46 (26 : Nat)) (e26 : m'.1 46 (26 : Nat) = m.1 46 (26 : Nat) - 1) (e6 : m'.1 46 (6 : Nat) = m.1 46 (6 : Nat)) (h : ∀ p, 47 ≤ p → p ≤ 57 → m'.1 p = m.1 p) (h67 : m'.1 67 = m.1 67) (hF : rF m.1) : rF m'.1 := by
  unfold rF at *
  rw [e26, e6, h67, h 47 (by decide) (by decide), h 51 (by decide) (by decide), h 52 (by decide) (by decide), h 53 (by decide) (by decide)]
  exact ⟨⟨by omega, by omega⟩, fun k k0 k1 => hF.2 k k0 (by omega)⟩
theorem rF_enter {m' m : wk_M} {i p : Int} (d : m.1 46 (26 : Nat) ≤ 6) (e26 : m'.1 46 (26 : Nat) = m.1 46 (26 : Nat) + 1) (e6 : m'.1 46 (6 : Nat) = m.1 46 (6 : Nat)) (h : ∀ p, 47 ≤ p → p ≤ 57 → m'.1 p = m.1 p) (h67 : ∀ k, m'.1 67 k = if k = m.1 46 (26 : Nat) then i else m.1 67 k) (hi : (0 ≤ i ∧ i ≤ 31) ∧ (0 ≤ p ∧ p < m.1 46 (6 : Nat)) ∧ (m.1 51 p ≤ i ∧ i < m.1 52 p) ∧ 13 ≤ m.1 47 i ∧ m.1 47 i ≤ 16) (ep : m.1 53 i = p) (hF : rF m.1) : rF m'.1 := by
  unfold rF at *
  rw [e26, e6, h 47 (by decide) (by decide), h 51 (by decide) (by decide), h 52 (by decide) (by decide), h 53 (by decide) (by decide)]
  refine ⟨⟨by omega, by omega⟩, fun k k0 k1 => ?_⟩
  rw [h67 k]
  split
  · rw [ep]
    exact hi
  · exact hF.2 k k0 (by omega)

set_option maxHeartbeats 8000000 in
set_option maxRecDepth 20000 in
theorem k184 {Z : sm_Z} (hZ : Z.2.2.2 = tb_N) (m : wk_M) (b f : Int) (hO : rOps m.1) (hB : m.1 46 (5 : Nat) = 1 → rWL m.1 ∧ rCl m.1) : wC Z 4 184 [46, 66, 67, 68, 69, 70, 71] [.inr (.inl 46), .inl b, .inl f] m (fun r m' => ∃ v : Int, r = some (.inl v) ∧ (m'.1 46 (0 : Nat) = m.1 46 (0 : Nat) ∧ m'.1 46 (5 : Nat) = m.1 46 (5 : Nat) ∧ m'.1 46 (6 : Nat) = m.1 46 (6 : Nat) ∧ m'.1 46 (34 : Nat) = m.1 46 (34 : Nat))) := by
  obtain ⟨J0, hJ0⟩ : ∃ J : Int →Int →Int → wk_M → Prop, ∀ wh fl k m', J wh fl k m' ↔ ((0 ≤ k ∧ k ≤ 4) ∧ (0 ≤ fl ∧ fl ≤ 600) ∧ m.1 46 (5 : Nat) = 1 ∧ (m'.1 46 (0 : Nat) = m.1 46 (0 : Nat) ∧ m'.1 46 (5 : Nat) = m.1 46 (5 : Nat) ∧ m'.1 46 (6 : Nat) = m.1 46 (6 : Nat) ∧ m'.1 46 (34 : Nat) = m.1 46 (34 : Nat)) ∧ (m'.1 46 (25 : Nat) = 0 ∧ m'.1 46 (26 : Nat) = 1 ∧ m'.1 46 (30 : Nat) = 0) ∧ (0 < k → m'.1 70 0 = 0) ∧ (1 < k → m'.1 70 1 = 0) ∧ (2 < k → m'.1 70 2 = 0) ∧ (3 < k → m'.1 70 3 = 0)) := ⟨_, fun _ _ _ _ => Iff.rfl⟩
  obtain ⟨J1, hJ1⟩ : ∃ J : Int →Int →Int →Int →Int → wk_M → Prop, ∀ wh fl x p t m', J wh fl x p t m' ↔ ((0 ≤ p ∧ p < m'.1 46 (6 : Nat)) ∧ (m'.1 51 p ≤ x ∧ x ≤ m'.1 52 p) ∧ (0 ≤ fl ∧ fl ≤ 600) ∧ (0 ≤ t ∧ m'.1 46 (25 : Nat) ≤ fl) ∧ m.1 46 (5 : Nat) = 1 ∧ (m'.1 46 (0 : Nat) = m.1 46 (0 : Nat) ∧ m'.1 46 (5 : Nat) = m.1 46 (5 : Nat) ∧ m'.1 46 (6 : Nat) = m.1 46 (6 : Nat) ∧ m'.1 46 (34 : Nat) = m.1 46 (34 : Nat)) ∧ rC m'.1 0 ∧ rF m'.1) := ⟨_, fun _ _ _ _ _ _ => Iff.rfl⟩
  refine wC.gen fun Q hQ => wk_E hZ (by exact rfl) [(54, [(3, 46), (1, 0), (1, 0), (1, 0), (0, 0), (0, 0)], fun vs _ m' => (match vs with
    | [wh, fl, k] => J0 wh fl k m'
    | _ => False), fun vs _ m' => (match vs with
    | [wh, fl, k] => (5000000000 - k : Int).toNat
    | _ => 0)), (99, [(3, 46), (1, 0), (1, 0), (1, 0), (1, 0), (1, 0)], fun vs _ m' => (match vs with
    | [wh, fl, x, p, t] => J1 wh fl x p t m'
    | _ => False), fun vs _ m' => (match vs with
    | [wh, fl, x, p, t] => (2147483647 - t : Int).toNat
    | _ => 0))] rfl (fun hr hs => ⟨?_, ⟨?_, trivial⟩⟩) (fun hr hs => ?_)
  · have e1 : ab_lo = -2147483648 := rfl
    have e2 : ab_hi = 2147483647 := rfl
    intro m2 hr2 hf2 wh whl whh fl fll flh k kl kh hI
    have hI := (hJ0 _ _ _ _).mp hI
    obtain ⟨⟨k0, k1⟩, ⟨f0, f1⟩, b5, ⟨ec, e5, ep, e34⟩, ⟨z25, z26, z30⟩, o0, o1, o2, o3⟩ := hI
    obtain ⟨hL, hK⟩ := hB b5
    have h57 := fr_57 hf2 rfl
    have hL2 := rWL_fr ec ep h57 hL
    have hpr := hL2.1
    have q3 := hL2.2.1 0 (by omega) (by omega)
    repeat' first | (intro h; exact absurd h (by decide)) | (intro h; exact absurd rfl h) | (intro _; exfalso; omega) | refine And.intro ?_ ?_ | intro _ | refine Or.inl ⟨by omega, by omega, ?_⟩ | refine Or.inr ?_ | exact trivial
    all_goals first
      | omega
      | (show (5000000000 - (_ : Int) : Int).toNat < (5000000000 - (_ : Int) : Int).toNat; omega)
      | exact hQ _ _ ⟨_, rfl, ec, e5, ep, e34⟩
      | (show J0 _ _ _ _; refine (hJ0 _ _ _ _).mpr ⟨⟨by omega, by omega⟩, ⟨by omega, by omega⟩, b5, ⟨by simp (decide := true) only [wk_u_at, wk_ul_1, and_self, and_true, true_and, and_false, false_and, if_true, if_false] <;> omega, by simp (decide := true) only [wk_u_at, wk_ul_1, and_self, and_true, true_and, and_false, false_and, if_true, if_false] <;> omega, by simp (decide := true) only [wk_u_at, wk_ul_1, and_self, and_true, true_and, and_false, false_and, if_true, if_false] <;> omega, by simp (decide := true) only [wk_u_at, wk_ul_1, and_self, and_true, true_and, and_false, false_and, if_true, if_false] <;> omega⟩, ⟨by simp (decide := true) only [wk_u_at, wk_ul_1, and_self, and_true, true_and, and_false, false_and, if_true, if_false] <;> omega, by simp (decide := true) only [wk_u_at, wk_ul_1, and_self, and_true, true_and, and_false, false_and, if_true, if_false] <;> omega, by simp (decide := true) only [wk_u_at, wk_ul_1, and_self, and_true, true_and, and_false, false_and, if_true, if_false] <;> omega⟩, fun z => by simp (decide := true) only [wk_u_at, wk_ul_1, and_self, and_true, true_and, and_false, false_and, if_true, if_false] <;> (repeat' split) <;> omega, fun z => by simp (decide := true) only [wk_u_at, wk_ul_1, and_self, and_true, true_and, and_false, false_and, if_true, if_false] <;> (repeat' split) <;> omega, fun z => by simp (decide := true) only [wk_u_at, wk_ul_1, and_self, and_true, true_and, and_false, false_and, if_true, if_false] <;> (repeat' split) <;> omega, fun z => by simp (decide := true) only [wk_u_at, wk_ul_1, and_self, and_true, true_and, and_false, false_and, if_true, if_false] <;> (repeat' split) <;> omega⟩)
      | (show J1 _ _ _ _ _ _; refine (hJ1 _ _ _ _ _ _).mpr ⟨⟨by omega, by omega⟩, ⟨by omega, by omega⟩, ⟨by omega, by omega⟩, ⟨by omega, by omega⟩, b5, ⟨ec, e5, ep, e34⟩, ⟨by omega, by omega, by omega, by omega, by omega⟩, ⟨⟨by omega, by omega⟩, fun k k0 k1 => by omega⟩⟩)
      | (show (_ : Nat) < (_ : Nat); dsimp only; omega)
  · have e1 : ab_lo = -2147483648 := rfl
    have e2 : ab_hi = 2147483647 := rfl
    intro m2 hr2 hf2 wh whl whh fl fll flh x xl xh p pl ph t tl th hI
    have hI := (hJ1 _ _ _ _ _ _).mp hI
    obtain ⟨⟨p0, p1⟩, ⟨x0, x1⟩, ⟨f0, f1⟩, ⟨t0, s0⟩, b5, ⟨ec, e5, ep, e34⟩, iC, iF⟩ := hI
    obtain ⟨hL, hK⟩ := hB b5
    have h57 := fr_57 hf2 rfl
    have hO2 := rOps_fr ec h57 hO
    have hL2 := rWL_fr ec ep h57 hL
    have hK2 := rCl_fr ec ep h57 hK
    have hc : 0 ≤ m2.1 46 (0 : Nat) ∧ m2.1 46 (0 : Nat) ≤ 32 := hr2.1 46 0
    have hpr := hL2.1
    have hd := iF.1
    have q3 := hL2.2.1 p p0 p1
    have q5 := fun z => hL2.2.2 p x p0 p1 x0 z
    have hC1 : m2.1 46 (30 : Nat) ≤ m2.1 46 (25 : Nat) := by have := iC.1; omega
    have hC2 : m2.1 70 0 ≤ m2.1 46 (25 : Nat) := by have := iC.2.1; omega
    have hC3 : m2.1 70 1 ≤ m2.1 46 (25 : Nat) := by have := iC.2.2.1; omega
    have hC4 : m2.1 70 2 ≤ m2.1 46 (25 : Nat) := by have := iC.2.2.2.1; omega
    have hC5 : m2.1 70 3 ≤ m2.1 46 (25 : Nat) := by have := iC.2.2.2.2; omega
    have q10 : Unit → x < m2.1 52 p → m2.1 47 x = 10 → m2.1 51 p ≤ m2.1 56 (m2.1 57 x) ∧ m2.1 56 (m2.1 57 x) ≤ m2.1 52 p := fun _ z => (q5 z).1.2.1
    have q12 : Unit → x < m2.1 52 p → m2.1 47 x = 12 → m2.1 51 p ≤ m2.1 57 x ∧ m2.1 57 x ≤ m2.1 52 p := fun _ z => (q5 z).1.2.2.1
    have q9 : Unit → x < m2.1 52 p → m2.1 47 x = 9 → m2.1 51 p ≤ m2.1 56 x ∧ m2.1 56 x < m2.1 52 p := fun _ z e => ⟨((q5 z).1.2.2.2.1 e).1, ((q5 z).1.2.2.2.1 e).2.1⟩
    have q11 : Unit → x < m2.1 52 p → m2.1 47 x = 11 → m2.1 51 p ≤ m2.1 56 x + 1 ∧ m2.1 56 x < m2.1 52 p := fun _ z => (q5 z).1.2.2.2.2
    have q18 : Unit → x < m2.1 52 p → ¬ m2.1 47 x = 18 := fun _ z => (q5 z).1.1
    have q53 : x < m2.1 52 p → m2.1 53 x = p := fun z => (q5 z).2
    have qK : Unit → x < m2.1 52 p → 13 ≤ m2.1 47 x → m2.1 47 x ≤ 16 → m2.1 47 x - 13 < m2.1 46 (6 : Nat) := fun _ z => hK2 x (by omega) (by omega)
    have qA : x < m2.1 52 p → 13 ≤ m2.1 47 x → m2.1 47 x ≤ 16 → (0 ≤ m2.1 49 x ∧ m2.1 49 x ≤ 3) ∧ (0 ≤ m2.1 50 x ∧ m2.1 50 x ≤ 3) := fun z a b => ⟨(hO2 x (by omega) (by omega)).2.1 (by unfold nA; omega), (hO2 x (by omega) (by omega)).2.2 (by unfold nB; omega)⟩
    have qB : Unit → ∀ q, 0 ≤ q → q < m2.1 46 (6 : Nat) → 0 ≤ m2.1 51 q ∧ m2.1 51 q ≤ m2.1 52 q ∧ m2.1 52 q ≤ m2.1 46 (0 : Nat) := fun _ => hL2.2.1
    have hOs : ∀ v, rOps (wk_u m2 46 (25 : Nat) v).1 := fun v => rOps_fr (m := m2) (by simp (decide := true) only [wk_u_at, wk_ul_1, and_self, and_true, true_and, and_false, false_and, if_true, if_false]) (fun p p0 p1 => wk_u_ne m2 46 _ _ (by omega)) hO2
    have hLs : ∀ v, rWL (wk_u m2 46 (25 : Nat) v).1 := fun v => rWL_fr (m := m2) (by simp (decide := true) only [wk_u_at, wk_ul_1, and_self, and_true, true_and, and_false, false_and, if_true, if_false]) (by simp (decide := true) only [wk_u_at, wk_ul_1, and_self, and_true, true_and, and_false, false_and, if_true, if_false]) (fun p p0 p1 => wk_u_ne m2 46 _ _ (by omega)) hL2
    have hFs : ∀ v, rF (wk_u m2 46 (25 : Nat) v).1 := fun v => rF_same (m := m2) (by simp (decide := true) only [wk_u_at, wk_ul_1, and_self, and_true, true_and, and_false, false_and, if_true, if_false]) (by simp (decide := true) only [wk_u_at, wk_ul_1, and_self, and_true, true_and, and_false, false_and, if_true, if_false]) (fun p p0 p1 => wk_u_ne m2 46 _ _ (by omega)) (wk_u_ne m2 46 _ _ (by decide)) iF
    have hCs : rC (wk_u m2 46 (25 : Nat) (m2.1 46 (25 : Nat) + 1)).1 1 := by unfold rC; simp (decide := true) only [wk_u_at, wk_ul_1, and_self, and_true, true_and, and_false, false_and, if_true, if_false]; omega
    have qL := fun z : 2 ≤ m2.1 46 (26 : Nat) => iF.2 (m2.1 46 (26 : Nat) - 1) (by omega) (by omega)
    repeat' first | (intro h; exact absurd h (by decide)) | (intro h; exact absurd rfl h) | (intro _; exfalso; omega) | refine And.intro ?_ ?_ | intro _ | refine Or.inl ⟨by omega, by omega, ?_⟩ | refine Or.inr ?_ | exact trivial | (refine wk_use (k173l hZ _ _ (by decide) (by decide) _ (by omega) (by omega)) rfl rfl ?_; rintro - _ _ - - - ⟨_, rfl, rfl, _, _⟩; refine Or.inl ⟨[], rfl, ?_⟩) | (refine wk_use (k148 hZ _ _ (by omega) (by omega)) rfl rfl ?_; rintro - _ _ - - - ⟨_, rfl, rfl, ⟨rfl, hcl⟩ | ⟨rfl, hcl⟩⟩; refine Or.inl ⟨[], rfl, ?_⟩) | (refine wk_use (k185 hZ _ iF (by omega) hO2 hL2) rfl rfl ?_; rintro - _ _ - hfr - ⟨v, rfl, rfl, h26, h46⟩; have hp := congrFun (hfr 70 (by decide)).1 0; (try simp (decide := true) only [wk_u_at, wk_ul_1, and_self, and_true, true_and, and_false, false_and, if_true, if_false] at hp); have hp := congrFun (hfr 70 (by decide)).1 1; (try simp (decide := true) only [wk_u_at, wk_ul_1, and_self, and_true, true_and, and_false, false_and, if_true, if_false] at hp); have hp := congrFun (hfr 70 (by decide)).1 2; (try simp (decide := true) only [wk_u_at, wk_ul_1, and_self, and_true, true_and, and_false, false_and, if_true, if_false] at hp); have hp := congrFun (hfr 70 (by decide)).1 3; (try simp (decide := true) only [wk_u_at, wk_ul_1, and_self, and_true, true_and, and_false, false_and, if_true, if_false] at hp); have h0 := h46 0 (by decide); have h5 := h46 5 (by decide); have h6 := h46 6 (by decide); have h25 := h46 25 (by decide); have h30 := h46 30 (by decide); have h34 := h46 34 (by decide); have f57 := fr_57 hfr rfl; have f67 := (hfr 67 (by decide)).1; have qq := qL (by omega); refine Or.inr ?_) | (refine wk_use (k188 hZ _ _ (by omega) (by omega) (by simp (decide := true) only [wk_u_at, wk_ul_1, and_self, and_true, true_and, and_false, false_and, if_true, if_false] <;> omega) (by simp (decide := true) only [wk_u_at, wk_ul_1, and_self, and_true, true_and, and_false, false_and, if_true, if_false] <;> omega) (qA (by omega) (by first | omega | (simp (decide := true) only [wk_u_at, wk_ul_1, and_self, and_true, true_and, and_false, false_and, if_true, if_false] at hcl; omega)) (by first | omega | (simp (decide := true) only [wk_u_at, wk_ul_1, and_self, and_true, true_and, and_false, false_and, if_true, if_false] at hcl; omega))).1 (qA (by omega) (by first | omega | (simp (decide := true) only [wk_u_at, wk_ul_1, and_self, and_true, true_and, and_false, false_and, if_true, if_false] at hcl; omega)) (by first | omega | (simp (decide := true) only [wk_u_at, wk_ul_1, and_self, and_true, true_and, and_false, false_and, if_true, if_false] at hcl; omega))).2) rfl rfl ?_; rintro - _ _ - hfr - ⟨rfl, h26, h46, h67⟩; have hp := congrFun (hfr 70 (by decide)).1 0; (try simp (decide := true) only [wk_u_at, wk_ul_1, and_self, and_true, true_and, and_false, false_and, if_true, if_false] at hp); have hp := congrFun (hfr 70 (by decide)).1 1; (try simp (decide := true) only [wk_u_at, wk_ul_1, and_self, and_true, true_and, and_false, false_and, if_true, if_false] at hp); have hp := congrFun (hfr 70 (by decide)).1 2; (try simp (decide := true) only [wk_u_at, wk_ul_1, and_self, and_true, true_and, and_false, false_and, if_true, if_false] at hp); have hp := congrFun (hfr 70 (by decide)).1 3; (try simp (decide := true) only [wk_u_at, wk_ul_1, and_self, and_true, true_and, and_false, false_and, if_true, if_false] at hp); have h0 := h46 0 (by decide); have h5 := h46 5 (by decide); have h6 := h46 6 (by decide); have h25 := h46 25 (by decide); have h30 := h46 30 (by decide); have h34 := h46 34 (by decide); (try simp (decide := true) only [wk_u_at, wk_ul_1, and_self, and_true, true_and, and_false, false_and, if_true, if_false] at h26); (try simp (decide := true) only [wk_u_at, wk_ul_1, and_self, and_true, true_and, and_false, false_and, if_true, if_false] at h0); (try simp (decide := true) only [wk_u_at, wk_ul_1, and_self, and_true, true_and, and_false, false_and, if_true, if_false] at h5); (try simp (decide := true) only [wk_u_at, wk_ul_1, and_self, and_true, true_and, and_false, false_and, if_true, if_false] at h6); (try simp (decide := true) only [wk_u_at, wk_ul_1, and_self, and_true, true_and, and_false, false_and, if_true, if_false] at h25); (try simp (decide := true) only [wk_u_at, wk_ul_1, and_self, and_true, true_and, and_false, false_and, if_true, if_false] at h30); (try simp (decide := true) only [wk_u_at, wk_ul_1, and_self, and_true, true_and, and_false, false_and, if_true, if_false] at h34); have f57 := fr_57 hfr rfl; (try simp (decide := true) only [wk_u_at, wk_ul_1, and_self, and_true, true_and, and_false, false_and, if_true, if_false] at hcl); have qk := qK () (by omega) (by first | omega | (simp (decide := true) only [wk_u_at, wk_ul_1, and_self, and_true, true_and, and_false, false_and, if_true, if_false] at hcl; omega)) (by first | omega | (simp (decide := true) only [wk_u_at, wk_ul_1, and_self, and_true, true_and, and_false, false_and, if_true, if_false] at hcl; omega)); have qq := qB () _ (by omega) qk; have q33 := q53 (by omega); have hp := congrFun (f57 47 (by decide) (by decide)) x; (try simp (decide := true) only [wk_u_at, wk_ul_1, and_self, and_true, true_and, and_false, false_and, if_true, if_false] at hp); refine Or.inr ?_) | (refine wk_use (k189 hZ _ _ p p0 (by simp (decide := true) only [wk_u_at, wk_ul_1, and_self, and_true, true_and, and_false, false_and, if_true, if_false] <;> omega) (by simp (decide := true) only [wk_u_at, wk_ul_1, and_self, and_true, true_and, and_false, false_and, if_true, if_false] <;> omega) (by simp (decide := true) only [wk_u_at, wk_ul_1, and_self, and_true, true_and, and_false, false_and, if_true, if_false] <;> omega) (by have := q18 (); simp (decide := true) only [wk_u_at, wk_ul_1, and_self, and_true, true_and, and_false, false_and, if_true, if_false] at hcl ⊢; omega) (by simp (decide := true) only [wk_u_at, wk_ul_1, and_self, and_true, true_and, and_false, false_and, if_true, if_false] <;> omega) (by simp (decide := true) only [wk_u_at, wk_ul_1, and_self, and_true, true_and, and_false, false_and, if_true, if_false] <;> omega) hCs (hOs _) (hLs _)) rfl rfl ?_; rintro - _ _ - hfr - ⟨v, rfl, hv, h46, hC'⟩; have h0 := h46 0 (by decide); have h5 := h46 5 (by decide); have h6 := h46 6 (by decide); have h25 := h46 25 (by decide); have h26 := h46 26 (by decide); have h34 := h46 34 (by decide); (try simp (decide := true) only [wk_u_at, wk_ul_1, and_self, and_true, true_and, and_false, false_and, if_true, if_false] at h0); (try simp (decide := true) only [wk_u_at, wk_ul_1, and_self, and_true, true_and, and_false, false_and, if_true, if_false] at h5); (try simp (decide := true) only [wk_u_at, wk_ul_1, and_self, and_true, true_and, and_false, false_and, if_true, if_false] at h6); (try simp (decide := true) only [wk_u_at, wk_ul_1, and_self, and_true, true_and, and_false, false_and, if_true, if_false] at h25); (try simp (decide := true) only [wk_u_at, wk_ul_1, and_self, and_true, true_and, and_false, false_and, if_true, if_false] at h26); (try simp (decide := true) only [wk_u_at, wk_ul_1, and_self, and_true, true_and, and_false, false_and, if_true, if_false] at h34); (try simp (decide := true) only [wk_u_at, wk_ul_1, and_self, and_true, true_and, and_false, false_and, if_true, if_false] at hv); have f57 := fr_57 hfr rfl; have f67 := (hfr 67 (by decide)).1; refine Or.inr ?_)
    all_goals first
      | omega
      | (show (2147483647 - (_ : Int) : Int).toNat < (2147483647 - (_ : Int) : Int).toNat; omega)
      | exact hQ _ _ ⟨_, rfl, ec, e5, ep, e34⟩
      | exact hQ _ _ ⟨_, rfl, by simp (decide := true) only [wk_u_at, wk_ul_1, and_self, and_true, true_and, and_false, false_and, if_true, if_false] <;> omega, by simp (decide := true) only [wk_u_at, wk_ul_1, and_self, and_true, true_and, and_false, false_and, if_true, if_false] <;> omega, by simp (decide := true) only [wk_u_at, wk_ul_1, and_self, and_true, true_and, and_false, false_and, if_true, if_false] <;> omega, by simp (decide := true) only [wk_u_at, wk_ul_1, and_self, and_true, true_and, and_false, false_and, if_true, if_false] <;> omega⟩
      | exact hQ _ _ ⟨_, rfl, by omega, by omega, by omega, by omega⟩
      | (show J1 _ _ _ _ _ _; refine (hJ1 _ _ _ _ _ _).mpr ⟨⟨by omega, by omega⟩, ⟨by first | omega | (have := q10 (); have := q12 (); have := q9 (); have := q11 (); omega), by first | omega | (have := q10 (); have := q12 (); have := q9 (); have := q11 (); omega)⟩, ⟨by omega, by omega⟩, ⟨by omega, by omega⟩, b5, ⟨ec, e5, ep, e34⟩, iC, iF⟩)
      | (show J1 _ _ _ _ _ _; refine (hJ1 _ _ _ _ _ _).mpr ⟨⟨by (simp only [f57 47 (by decide) (by decide), f57 51 (by decide) (by decide), f57 52 (by decide) (by decide), f57 53 (by decide) (by decide)]; omega), by (simp only [f57 47 (by decide) (by decide), f57 51 (by decide) (by decide), f57 52 (by decide) (by decide), f57 53 (by decide) (by decide)]; omega)⟩, ⟨by (simp only [f57 47 (by decide) (by decide), f57 51 (by decide) (by decide), f57 52 (by decide) (by decide), f57 53 (by decide) (by decide)]; omega), by (simp only [f57 47 (by decide) (by decide), f57 51 (by decide) (by decide), f57 52 (by decide) (by decide), f57 53 (by decide) (by decide)]; omega)⟩, ⟨by omega, by omega⟩, ⟨by omega, by omega⟩, b5, ⟨by omega, by omega, by omega, by omega⟩, ⟨by omega, by omega, by omega, by omega, by omega⟩, rF_leave (by omega) h26 h6 f57 f67 iF⟩)
      | (show J1 _ _ _ _ _ _; refine (hJ1 _ _ _ _ _ _).mpr ⟨⟨by (simp only [(f57 47 (by decide) (by decide)).trans (wk_u_ne _ 46 _ _ (by decide)), (f57 51 (by decide) (by decide)).trans (wk_u_ne _ 46 _ _ (by decide)), (f57 52 (by decide) (by decide)).trans (wk_u_ne _ 46 _ _ (by decide)), (f57 53 (by decide) (by decide)).trans (wk_u_ne _ 46 _ _ (by decide))]; omega), by (simp only [(f57 47 (by decide) (by decide)).trans (wk_u_ne _ 46 _ _ (by decide)), (f57 51 (by decide) (by decide)).trans (wk_u_ne _ 46 _ _ (by decide)), (f57 52 (by decide) (by decide)).trans (wk_u_ne _ 46 _ _ (by decide)), (f57 53 (by decide) (by decide)).trans (wk_u_ne _ 46 _ _ (by decide))]; omega)⟩, ⟨by (simp only [(f57 47 (by decide) (by decide)).trans (wk_u_ne _ 46 _ _ (by decide)), (f57 51 (by decide) (by decide)).trans (wk_u_ne _ 46 _ _ (by decide)), (f57 52 (by decide) (by decide)).trans (wk_u_ne _ 46 _ _ (by decide)), (f57 53 (by decide) (by decide)).trans (wk_u_ne _ 46 _ _ (by decide))]; omega), by (simp only [(f57 47 (by decide) (by decide)).trans (wk_u_ne _ 46 _ _ (by decide)), (f57 51 (by decide) (by decide)).trans (wk_u_ne _ 46 _ _ (by decide)), (f57 52 (by decide) (by decide)).trans (wk_u_ne _ 46 _ _ (by decide)), (f57 53 (by decide) (by decide)).trans (wk_u_ne _ 46 _ _ (by decide))]; omega)⟩, ⟨by omega, by omega⟩, ⟨by omega, by omega⟩, b5, ⟨by omega, by omega, by omega, by omega⟩, ⟨by omega, by omega, by omega, by omega, by omega⟩, rF_enter (by omega) (by omega) (by omega) (fun q q0 q1 => (f57 q q0 q1).trans (wk_u_ne _ 46 _ _ (by omega))) (fun k => by have z := h67 k; simp (decide := true) only [wk_u_at, wk_ul_1, and_self, and_true, true_and, and_false, false_and, if_true, if_false] at z; exact z) ⟨⟨by omega, by omega⟩, ⟨p0, by omega⟩, ⟨x0, by omega⟩, by omega, by omega⟩ q33 iF⟩)
      | (show J1 _ _ _ _ _ _; refine (hJ1 _ _ _ _ _ _).mpr ⟨⟨by omega, by omega⟩, ⟨by (simp only [(f57 47 (by decide) (by decide)).trans (wk_u_ne _ 46 _ _ (by decide)), (f57 51 (by decide) (by decide)).trans (wk_u_ne _ 46 _ _ (by decide)), (f57 52 (by decide) (by decide)).trans (wk_u_ne _ 46 _ _ (by decide)), (f57 53 (by decide) (by decide)).trans (wk_u_ne _ 46 _ _ (by decide))]; omega), by (simp only [(f57 47 (by decide) (by decide)).trans (wk_u_ne _ 46 _ _ (by decide)), (f57 51 (by decide) (by decide)).trans (wk_u_ne _ 46 _ _ (by decide)), (f57 52 (by decide) (by decide)).trans (wk_u_ne _ 46 _ _ (by decide)), (f57 53 (by decide) (by decide)).trans (wk_u_ne _ 46 _ _ (by decide))]; omega)⟩, ⟨by omega, by omega⟩, ⟨by omega, by omega⟩, b5, ⟨by omega, by omega, by omega, by omega⟩, hC', rF_same (by omega) (by omega) (fun q q0 q1 => (f57 q q0 q1).trans (wk_u_ne _ 46 _ _ (by omega))) (f67.trans (wk_u_ne _ 46 _ _ (by decide))) iF⟩)
      | (show (_ : Nat) < (_ : Nat); dsimp only; omega)
      | (have := q10 (); have := q12 (); have := q9 (); have := q11 (); omega)
  · have e1 : ab_lo = -2147483648 := rfl
    have e2 : ab_hi = 2147483647 := rfl
    repeat' first | (intro h; exact absurd h (by decide)) | (intro h; exact absurd rfl h) | (intro _; exfalso; omega) | refine And.intro ?_ ?_ | intro _ | refine Or.inl ⟨by omega, by omega, ?_⟩ | refine Or.inr ?_ | exact trivial
    all_goals first
      | omega
      | trivial
      | exact hQ _ _ ⟨_, rfl, rfl, rfl, rfl, rfl⟩
      | (show J0 _ _ _ _; refine (hJ0 _ _ _ _).mpr ⟨⟨by omega, by omega⟩, ⟨by omega, by omega⟩, by omega, ⟨by simp (decide := true) only [wk_u_at, wk_ul_1, and_self, and_true, true_and, and_false, false_and, if_true, if_false], by simp (decide := true) only [wk_u_at, wk_ul_1, and_self, and_true, true_and, and_false, false_and, if_true, if_false], by simp (decide := true) only [wk_u_at, wk_ul_1, and_self, and_true, true_and, and_false, false_and, if_true, if_false], by simp (decide := true) only [wk_u_at, wk_ul_1, and_self, and_true, true_and, and_false, false_and, if_true, if_false]⟩, ⟨by simp (decide := true) only [wk_u_at, wk_ul_1, and_self, and_true, true_and, and_false, false_and, if_true, if_false], by simp (decide := true) only [wk_u_at, wk_ul_1, and_self, and_true, true_and, and_false, false_and, if_true, if_false], by simp (decide := true) only [wk_u_at, wk_ul_1, and_self, and_true, true_and, and_false, false_and, if_true, if_false]⟩, fun z => by omega, fun z => by omega, fun z => by omega, fun z => by omega⟩)
