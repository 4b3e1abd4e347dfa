set_option maxHeartbeats 8000000 in
set_option maxRecDepth 20000 in
theorem k152x {Z : sm_Z} (hZ : Z.2.2.2 = tb_N) (m : wk_M) (hq : ∀ j, 0 ≤ j → j < m.1 46 (0 : Nat) → 13 ≤ m.1 47 j → m.1 47 j ≤ 16 → m.1 47 j - 13 < m.1 46 (6 : Nat)) : wC Z 7 152 [60, 61, 62, 63] [.inr (.inl 46)] m (fun r m' => r = none ∧ rS (rvF m.1) (rE m) m'.2 ∧ uD m'.2 (uP m.1 (m.1 46 (0 : Nat))) (dP m.1 (m.1 46 (0 : Nat))) ∧ (∀ k, 0 ≤ k → k < m.1 46 (0 : Nat) → clR m.1 k → rC1 m'.2 (m.1 47 k - 13) k 3)) := by
  obtain ⟨J0, hJ0⟩ : ∃ J : Int → wk_M → Prop, ∀ k m', J k m' ↔ ((0 ≤ k ∧ k ≤ 1008) ∧ Zr m'.2 60 k ∧ Zr m'.2 61 k ∧ Zr m'.2 62 k) := ⟨_, fun _ _ => Iff.rfl⟩
  obtain ⟨J1, hJ1⟩ : ∃ J : Int → wk_M → Prop, ∀ n m', J n m' ↔ ((0 ≤ n ∧ n ≤ 252) ∧ Zr m'.2 61 1008 ∧ Zr m'.2 62 1008 ∧ pRr m m'.2 n 0) := ⟨_, fun _ _ => Iff.rfl⟩
  obtain ⟨J2, hJ2⟩ : ∃ J : Int →Int → wk_M → Prop, ∀ n x m', J n x m' ↔ (((0 ≤ n ∧ n < 252) ∧ 0 ≤ x ∧ x ≤ 252) ∧ Zr m'.2 61 1008 ∧ Zr m'.2 62 1008 ∧ pRr m m'.2 n x) := ⟨_, fun _ _ _ => Iff.rfl⟩
  obtain ⟨J3, hJ3⟩ : ∃ J : Int → wk_M → Prop, ∀ i m', J i m' ↔ ((0 ≤ i ∧ i ≤ m.1 46 (0 : Nat)) ∧ pRr m m'.2 252 0 ∧ uD m'.2 (uP m.1 i) (dP m.1 i)) := ⟨_, fun _ _ => Iff.rfl⟩
  obtain ⟨J4, hJ4⟩ : ∃ J : Int →Int →Int → wk_M → Prop, ∀ i q j m', J i q j m' ↔ (((0 ≤ i ∧ i < m.1 46 (0 : Nat)) ∧ q = 224 + 7 * (m.1 47 i - 13) ∧ 0 ≤ j ∧ j ≤ 3) ∧ clR m.1 i ∧ pRr m m'.2 252 0 ∧ uD m'.2 (fun a b => uP m.1 i a b ∨ uJ m.1 i j a b) (fun a b => dP m.1 i a b ∨ dJ m.1 i j a b)) := ⟨_, fun _ _ _ _ => Iff.rfl⟩
  obtain ⟨J5, hJ5⟩ : ∃ J : Int →Int → wk_M → Prop, ∀ g rd m', J g rd m' ↔ (((0 ≤ rd ∧ rd ≤ 1000) ∧ 0 ≤ g ∧ g ≤ 1) ∧ rS (rvF m.1) (rE m) m'.2 ∧ uD m'.2 (uP m.1 (m.1 46 (0 : Nat))) (dP m.1 (m.1 46 (0 : Nat))) ∧ (g = 1 → rd.toNat ≤ cnJ m'.2) ∧ (g = 0 → (∀ k, 0 ≤ k → k < m.1 46 (0 : Nat) → clR m.1 k → rC1 m'.2 (m.1 47 k - 13) k 3))) := ⟨_, fun _ _ _ => Iff.rfl⟩
  obtain ⟨J6, hJ6⟩ : ∃ J : Int →Int →Int → wk_M → Prop, ∀ g rd i m', J g rd i m' ↔ (((0 ≤ rd ∧ rd < 1000) ∧ (0 ≤ g ∧ g ≤ 1) ∧ 0 ≤ i ∧ i ≤ m.1 46 (0 : Nat)) ∧ uD m'.2 (uP m.1 (m.1 46 (0 : Nat))) (dP m.1 (m.1 46 (0 : Nat))) ∧ rG6 m m'.2 g rd i) := ⟨_, fun _ _ _ _ => Iff.rfl⟩
  refine wC.gen fun Q hQ => wk_E hZ (by exact rfl) [(2, [(3, 46), (1, 0), (0, 0), (0, 0)], fun vs _ m' => (match vs with
    | [k] => J0 k m'
    | _ => False), fun vs _ m' => (match vs with
    | [k] => (100000000 - k : Int).toNat
    | _ => 0)), (38, [(3, 46), (1, 0), (0, 0), (0, 0)], fun vs _ m' => (match vs with
    | [n] => J1 n m'
    | _ => False), fun vs _ m' => (match vs with
    | [n] => (50000000 + (252 - n) * 1000 + 999 : Int).toNat
    | _ => 0)), (47, [(3, 46), (1, 0), (1, 0), (0, 0)], fun vs _ m' => (match vs with
    | [n, x] => J2 n x m'
    | _ => False), fun vs _ m' => (match vs with
    | [n, x] => (50000000 + (252 - n) * 1000 + (252 - x) : Int).toNat
    | _ => 0)), (86, [(3, 46), (1, 0), (0, 0), (0, 0)], fun vs _ m' => (match vs with
    | [i] => J3 i m'
    | _ => False), fun vs _ m' => (match vs with
    | [i] => (10000000 + (32 - i) * 10 + 9 : Int).toNat
    | _ => 0)), (130, [(3, 46), (1, 0), (1, 0), (1, 0)], fun vs _ m' => (match vs with
    | [i, q, j] => J4 i q j m'
    | _ => False), fun vs _ m' => (match vs with
    | [i, q, j] => (10000000 + (32 - i) * 10 + (3 - j) : Int).toNat
    | _ => 0)), (195, [(3, 46), (1, 0), (1, 0), (0, 0)], fun vs _ m' => (match vs with
    | [g, rd] => J5 g rd m'
    | _ => False), fun vs _ m' => (match vs with
    | [g, rd] => ((1000 - rd) * 100 + 99 : Int).toNat
    | _ => 0)), (210, [(3, 46), (1, 0), (1, 0), (1, 0)], fun vs _ m' => (match vs with
    | [g, rd, i] => J6 g rd i m'
    | _ => False), fun vs _ m' => (match vs with
    | [g, rd, i] => ((1000 - rd) * 100 + (32 - i) : Int).toNat
    | _ => 0))] rfl (fun hr hs => ⟨?_, ⟨?_, ⟨?_, ⟨?_, ⟨?_, ⟨?_, ⟨?_, trivial⟩⟩⟩⟩⟩⟩⟩) (fun hr hs => ?_)
  · have e1 : ab_lo = -2147483648 := rfl
    have e2 : ab_hi = 2147483647 := rfl
    intro m2 hr2 hf2 k kl kh hI
    have hI := (hJ0 _ _).mp hI
    obtain ⟨⟨n0, n1⟩, h60, h61, h62⟩ := hI
    repeat' first | (intro h; exact absurd h (by decide)) | (intro h; exact absurd rfl h) | refine And.intro ?_ ?_ | intro _ | refine Or.inl ⟨by omega, by omega, ?_⟩ | refine Or.inr ?_ | exact trivial
    all_goals first
      | omega
      | (show (100000000 - (_ : Int) : Int).toNat < (100000000 - (_ : Int) : Int).toNat; omega)
      | (show J0 _ _; refine (hJ0 _ _).mpr ⟨⟨by omega, by omega⟩, Zr_s h60 (fun _ => by simp (decide := true) only [wk_ul_at, wk_u_2, wk_ul_1, and_self, and_true, true_and, and_false, false_and, if_true, if_false] <;> rfl), Zr_s h61 (fun _ => by simp (decide := true) only [wk_ul_at, wk_u_2, wk_ul_1, and_self, and_true, true_and, and_false, false_and, if_true, if_false] <;> rfl), Zr_s h62 (fun _ => by simp (decide := true) only [wk_ul_at, wk_u_2, wk_ul_1, and_self, and_true, true_and, and_false, false_and, if_true, if_false] <;> rfl)⟩)
      | (show J1 _ _; refine (hJ1 _ _).mpr ⟨⟨by omega, by omega⟩, Zr_e h61 (by omega), Zr_e h62 (by omega), pR_0 (Zr_e h60 (by omega))⟩)
      | (show (_ : Nat) < (_ : Nat); dsimp only; omega)
  · have e1 : ab_lo = -2147483648 := rfl
    have e2 : ab_hi = 2147483647 := rfl
    intro m2 hr2 hf2 n nl nh hI
    have hI := (hJ1 _ _).mp hI
    obtain ⟨⟨n0, n1⟩, h61, h62, hp0⟩ := hI
    have e47 : m2.1 47 = m.1 47 := (hf2 47 (by decide)).1
    have e0 : m2.1 46 (0 : Nat) = m.1 46 (0 : Nat) := congrFun (hf2 46 (by decide)).1 _
    have hc : 0 ≤ m2.1 46 (0 : Nat) ∧ m2.1 46 (0 : Nat) ≤ 32 := hr2.1 46 0
    repeat' first | (intro h; exact absurd h (by decide)) | (intro h; exact absurd rfl h) | refine And.intro ?_ ?_ | intro _ | refine Or.inl ⟨by omega, by omega, ?_⟩ | refine Or.inr ?_ | exact trivial
    all_goals first
      | omega
      | (show (50000000 + (252 - (_ : Int)) * 1000 + 999 : Int).toNat < (50000000 + (252 - (_ : Int)) * 1000 + 999 : Int).toNat; omega)
      | (show J2 _ _ _; refine (hJ2 _ _ _).mpr ⟨⟨⟨by omega, by omega⟩, by omega, by omega⟩, h61, h62, hp0⟩)
      | (show J3 _ _; refine (hJ3 _ _).mpr ⟨⟨by omega, by omega⟩, pR_e hp0 (by omega), uD_0 h61 h62⟩)
      | (show (_ : Nat) < (_ : Nat); dsimp only; omega)
  · have e1 : ab_lo = -2147483648 := rfl
    have e2 : ab_hi = 2147483647 := rfl
    intro m2 hr2 hf2 n nl nh x xl xh hI
    have hI := (hJ2 _ _ _).mp hI
    obtain ⟨⟨⟨n0, n1⟩, x0, x1⟩, h61, h62, hp0⟩ := hI
    repeat' first | (intro h; exact absurd h (by decide)) | (intro h; exact absurd rfl h) | refine And.intro ?_ ?_ | intro _ | refine Or.inl ⟨by omega, by omega, ?_⟩ | refine Or.inr ?_ | exact trivial | (refine wk_use (k153x hZ _ _ _ (by omega) (by omega) (by omega) (by omega)) rfl rfl ?_; rintro - _ _ - - - ⟨v, rfl, hm, ⟨v0, v1⟩, hb⟩; refine Or.inl ⟨[], hm, ?_⟩; clear hm) | (refine wk_use (k169x60 hZ _ _ _ (by omega) (by omega) (by omega) (by omega)) rfl rfl ?_; rintro - _ _ - hfr - ⟨rfl, h11, hp⟩; have f60 := hfr; refine Or.inr ?_)
    all_goals first
      | omega
      | (show (50000000 + (252 - (_ : Int)) * 1000 + (252 - (_ : Int)) : Int).toNat < (50000000 + (252 - (_ : Int)) * 1000 + (252 - (_ : Int)) : Int).toNat; omega)
      | (show J1 _ _; refine (hJ1 _ _).mpr ⟨⟨by omega, by omega⟩, h61, h62, pR_nx hp0 (by omega)⟩)
      | (show J2 _ _ _; refine (hJ2 _ _ _).mpr ⟨⟨⟨by omega, by omega⟩, by omega, by omega⟩, Zr_sm h61 (f60 61 (by decide)).2, Zr_sm h62 (f60 62 (by decide)).2, pR_put (by omega) hp0 hp (by have z := (hE_v v0 v1 hb).mp (by omega); rw [hE_sm (fr_58 hf2 rfl) (hf2 59 (by decide)).2] at z; exact z)⟩)
      | (show J2 _ _ _; refine (hJ2 _ _ _).mpr ⟨⟨⟨by omega, by omega⟩, by omega, by omega⟩, h61, h62, pR_no hp0 (fun z => absurd ((hE_v v0 v1 hb).mpr (by rw [hE_sm (fr_58 hf2 rfl) (hf2 59 (by decide)).2]; exact z)) (by omega))⟩)
      | (show (_ : Nat) < (_ : Nat); dsimp only; omega)
  · have e1 : ab_lo = -2147483648 := rfl
    have e2 : ab_hi = 2147483647 := rfl
    intro m2 hr2 hf2 i il ih hI
    have hI := (hJ3 _ _).mp hI
    obtain ⟨⟨i0, i1⟩, hp0, hu⟩ := hI
    have e47 : m2.1 47 = m.1 47 := (hf2 47 (by decide)).1
    have e0 : m2.1 46 (0 : Nat) = m.1 46 (0 : Nat) := congrFun (hf2 46 (by decide)).1 _
    have hc : 0 ≤ m2.1 46 (0 : Nat) ∧ m2.1 46 (0 : Nat) ≤ 32 := hr2.1 46 0
    have e47i : m2.1 47 i = m.1 47 i := congrFun e47 i
    repeat' first | (intro h; exact absurd h (by decide)) | (intro h; exact absurd rfl h) | refine And.intro ?_ ?_ | intro _ | refine Or.inl ⟨by omega, by omega, ?_⟩ | refine Or.inr ?_ | exact trivial | (refine wk_use (k148 hZ _ _ (by omega) (by omega)) rfl rfl ?_; rintro - _ _ - - - ⟨_, rfl, hm, ⟨rfl, hcl⟩ | ⟨rfl, hcl⟩⟩ <;> refine Or.inl ⟨[], hm, ?_⟩ <;> clear hm) | (refine wk_use (k169x61 hZ _ _ _ (by omega) (by omega) (by omega) (by omega)) rfl rfl ?_; rintro - _ _ - hfr - ⟨rfl, h11, hp⟩; have f61 := hfr; refine Or.inr ?_)
    all_goals first
      | omega
      | (show (10000000 + (32 - (_ : Int)) * 10 + 9 : Int).toNat < (10000000 + (32 - (_ : Int)) * 10 + 9 : Int).toNat; omega)
      | (show J5 _ _ _; refine (hJ5 _ _ _).mpr ⟨⟨⟨by omega, by omega⟩, by omega, by omega⟩, pR_S hp0, uD_e hu (by omega), (fun _ => Nat.zero_le _), fun z => absurd z (by decide)⟩)
      | (show J3 _ _; refine (hJ3 _ _).mpr ⟨⟨by omega, by omega⟩, hp0, uD_no (by unfold clR; omega) hu⟩)
      | (show J4 _ _ _ _; refine (hJ4 _ _ _ _).mpr ⟨⟨⟨by omega, by omega⟩, by omega, by omega, by omega⟩, (by unfold clR; omega), pR_sm hp0 (f61 60 (by decide)).2, uD_if (uD_p1 hu hp (f61 62 (by decide)).2) (fun a b => uJ_0 (by omega) rfl) (fun a b => dJ_0)⟩)
      | (show (_ : Nat) < (_ : Nat); dsimp only; omega)
  · have e1 : ab_lo = -2147483648 := rfl
    have e2 : ab_hi = 2147483647 := rfl
    intro m2 hr2 hf2 i il ih q ql qh j jl jh hI
    have hI := (hJ4 _ _ _ _).mp hI
    obtain ⟨⟨⟨i0, i1⟩, eq, j0, j1⟩, hk0, hp0, hu⟩ := hI
    have e47 : m2.1 47 = m.1 47 := (hf2 47 (by decide)).1
    have e0 : m2.1 46 (0 : Nat) = m.1 46 (0 : Nat) := congrFun (hf2 46 (by decide)).1 _
    have hc : 0 ≤ m2.1 46 (0 : Nat) ∧ m2.1 46 (0 : Nat) ≤ 32 := hr2.1 46 0
    have hk := hk0
    unfold clR at hk
    repeat' first | (intro h; exact absurd h (by decide)) | (intro h; exact absurd rfl h) | refine And.intro ?_ ?_ | intro _ | refine Or.inl ⟨by omega, by omega, ?_⟩ | refine Or.inr ?_ | exact trivial | (refine wk_use (k169x61 hZ _ _ _ (by omega) (by omega) (by omega) (by omega)) rfl rfl ?_; rintro - _ _ - hfr - ⟨rfl, h11, hp⟩; have f61 := hfr; refine Or.inr ?_) | (refine wk_use (k169x62 hZ _ _ _ (by omega) (by omega) (by omega) (by omega)) rfl rfl ?_; rintro - _ _ - hfr - ⟨rfl, h12, hp2⟩; have f62 := hfr; refine Or.inr ?_)
    all_goals first
      | omega
      | (show (10000000 + (32 - (_ : Int)) * 10 + (3 - (_ : Int)) : Int).toNat < (10000000 + (32 - (_ : Int)) * 10 + (3 - (_ : Int)) : Int).toNat; omega)
      | (show J3 _ _; refine (hJ3 _ _).mpr ⟨⟨by omega, by omega⟩, hp0, uD_yes i0 hk0 (by omega) hu⟩)
      | (show J4 _ _ _ _; refine (hJ4 _ _ _ _).mpr ⟨⟨⟨by omega, by omega⟩, by omega, by omega, by omega⟩, hk0, pR_sm hp0 ((f62 60 (by decide)).2.trans (f61 60 (by decide)).2), uD_if (uD_p2 (uD_p1 hu hp (f61 62 (by decide)).2) hp2 (f62 61 (by decide)).2) (fun a b => uJ_s j0 (by omega) (by omega)) (fun a b => dJ_s j0 (by omega) (by omega))⟩)
      | (show (_ : Nat) < (_ : Nat); dsimp only; omega)
  · have e1 : ab_lo = -2147483648 := rfl
    have e2 : ab_hi = 2147483647 := rfl
    intro m2 hr2 hf2 g gl gh rd rdl rdh hI
    have hI := (hJ5 _ _ _).mp hI
    obtain ⟨⟨⟨r0, r1⟩, g0, g1⟩, hS, hu, hct, hfi⟩ := hI
    have hle := cnJ_le (l := m2.2)
    have e47 : m2.1 47 = m.1 47 := (hf2 47 (by decide)).1
    have e0 : m2.1 46 (0 : Nat) = m.1 46 (0 : Nat) := congrFun (hf2 46 (by decide)).1 _
    have hc : 0 ≤ m2.1 46 (0 : Nat) ∧ m2.1 46 (0 : Nat) ≤ 32 := hr2.1 46 0
    repeat' first | (intro h; exact absurd h (by decide)) | (intro h; exact absurd rfl h) | refine And.intro ?_ ?_ | intro _ | refine Or.inl ⟨by omega, by omega, ?_⟩ | refine Or.inr ?_ | exact trivial
    all_goals first
      | omega
      | (show ((1000 - (_ : Int)) * 100 + 99 : Int).toNat < ((1000 - (_ : Int)) * 100 + 99 : Int).toNat; omega)
      | exact hQ _ _ ⟨rfl, hS, hu, (by by_cases z : g = 0; exact hfi z; (exfalso; have := hct (by omega); omega))⟩
      | exact hQ _ _ ⟨rfl, hS, hu, hfi (by omega)⟩
      | (show J6 _ _ _ _; refine (hJ6 _ _ _ _).mpr ⟨⟨⟨by omega, by omega⟩, ⟨by omega, by omega⟩, by omega, by omega⟩, hu, hS, hct (by omega), (fun z => absurd z (by decide)), fun _ k a b => by omega⟩)
      | (show (_ : Nat) < (_ : Nat); dsimp only; omega)
  · have e1 : ab_lo = -2147483648 := rfl
    have e2 : ab_hi = 2147483647 := rfl
    intro m2 hr2 hf2 g gl gh rd rdl rdh i il ih hI
    have hI := (hJ6 _ _ _ _).mp hI
    obtain ⟨⟨⟨r0, r1⟩, ⟨g0, g1⟩, i0, i1⟩, hu, hG⟩ := hI
    have e47 : m2.1 47 = m.1 47 := (hf2 47 (by decide)).1
    have e0 : m2.1 46 (0 : Nat) = m.1 46 (0 : Nat) := congrFun (hf2 46 (by decide)).1 _
    have hc : 0 ≤ m2.1 46 (0 : Nat) ∧ m2.1 46 (0 : Nat) ≤ 32 := hr2.1 46 0
    have e47i : m2.1 47 i = m.1 47 i := congrFun e47 i
    have ev : rvF m2.1 = rvF m.1 := rvF_sm (fr_58 hf2 rfl)
    have e6 : m2.1 46 (6 : Nat) = m.1 46 (6 : Nat) := congrFun (hf2 46 (by decide)).1 _
    repeat' first | (intro h; exact absurd h (by decide)) | (intro h; exact absurd rfl h) | refine And.intro ?_ ?_ | intro _ | refine Or.inl ⟨by omega, by omega, ?_⟩ | refine Or.inr ?_ | exact trivial | (refine wk_use (k148 hZ _ _ (by omega) (by omega)) rfl rfl ?_; rintro - _ _ - - - ⟨_, rfl, hm, ⟨rfl, hcl⟩ | ⟨rfl, hcl⟩⟩ <;> refine Or.inl ⟨[], hm, ?_⟩ <;> clear hm) | (refine wk_use (k170x hZ _ (rE m) _ (by omega) (by omega) (rvF_c.mpr ⟨⟨i0, by omega⟩, hcl⟩) (by have := hq i i0 (by omega) (by omega) (by omega); omega) (by rw [ev]; exact hG.1)) rfl rfl ?_; rintro - _ _ - hfr - ⟨v, rfl, hv, hS2, hM, hv0, hv1⟩; rw [ev] at hS2; have f170 := hfr; refine Or.inr ?_)
    all_goals first
      | omega
      | (show ((1000 - (_ : Int)) * 100 + (32 - (_ : Int)) : Int).toNat < ((1000 - (_ : Int)) * 100 + (32 - (_ : Int)) : Int).toNat; omega)
      | (show J5 _ _ _; refine (hJ5 _ _ _).mpr ⟨⟨⟨by omega, by omega⟩, by omega, by omega⟩, hG.1, hu, hG.2.2.1, fun z k a b c => hG.2.2.2 z k a (by omega) c⟩)
      | (show J6 _ _ _ _; refine (hJ6 _ _ _ _).mpr ⟨⟨⟨by omega, by omega⟩, ⟨by omega, by omega⟩, by omega, by omega⟩, uD_sm (f170 61 (by decide)).2 (f170 62 (by decide)).2 hu, rG6_c r0 i0 (by omega) (by omega) hG hS2 hM hv0 hv1 (by omega)⟩)
      | (show J6 _ _ _ _; refine (hJ6 _ _ _ _).mpr ⟨⟨⟨by omega, by omega⟩, ⟨by omega, by omega⟩, by omega, by omega⟩, hu, rG6_n (by omega) hG (by unfold clR; omega)⟩)
      | (show (_ : Nat) < (_ : Nat); dsimp only; omega)
  · have e1 : ab_lo = -2147483648 := rfl
    have e2 : ab_hi = 2147483647 := rfl
    repeat' first | (intro h; exact absurd h (by decide)) | (intro h; exact absurd rfl h) | refine And.intro ?_ ?_ | intro _ | refine Or.inl ⟨by omega, by omega, ?_⟩ | refine Or.inr ?_ | exact trivial
    all_goals first
      | omega
      | trivial
      | (show J0 _ _; refine (hJ0 _ _).mpr ⟨⟨by omega, by omega⟩, (fun i a b => by omega), (fun i a b => by omega), fun i a b => by omega⟩)
