/-! slice, of the reference -/
theorem cnP_1 {P : Nat → Prop} {n i : Int} (i0 : 0 ≤ i) (hn : n = ((cnP P i.toNat : Nat) : Int)) : (P i.toNat → n + 1 = ((cnP P (i + 1).toNat : Nat) : Int)) ∧ (¬ P i.toNat → n = ((cnP P (i + 1).toNat : Nat) : Int)) := by
  have e : (i + 1).toNat = i.toNat + 1 := by omega
  rw [e]
  rcases cnP_s (P := P) i.toNat with ⟨x, e'⟩ | ⟨x, e'⟩
  · exact ⟨fun _ => by omega, fun z => absurd x z⟩
  · exact ⟨fun z => absurd z x, fun _ => by omega⟩
theorem rw_nat {l : Nat → Int → Int64} {P : Nat} {i : Int} (i0 : 0 ≤ i) : rwB l P 0 ((i.toNat : Nat) : Int) ↔ rwB l P 0 i := by
  rw [Int.toNat_of_nonneg i0]

set_option maxHeartbeats 8000000 in
set_option maxRecDepth 20000 in
theorem k179x {Z : sm_Z} (hZ : Z.2.2.2 = tb_N) (m : wk_M)  : wC Z 2 179 [] [.inr (.inl 46), .inr (.inl 64)] m (fun r m' => ∃ v : Int, r = some (.inl v) ∧ m' = m ∧ v = ((cnP (fun k => rwB m.2 64 0 (k : Int)) 32 : Nat) : Int)) := by
  obtain ⟨J0, hJ0⟩ : ∃ J : Int →Int → wk_M → Prop, ∀ n i m', J n i m' ↔ (m' = m ∧ (0 ≤ i ∧ i ≤ 32) ∧ (0 ≤ n ∧ n ≤ i) ∧ n = ((cnP (fun k => rwB m.2 64 0 (k : Int)) i.toNat : Nat) : Int)) := ⟨_, fun _ _ _ => Iff.rfl⟩
  refine wC.gen fun Q hQ => wk_E hZ (by exact rfl) [(4, [(3, 46), (3, 64), (1, 0), (1, 0)], fun vs _ m' => (match vs with
    | [n, i] => J0 n i m'
    | _ => False), fun vs _ m' => (match vs with
    | [n, i] => (32 - i : Int).toNat
    | _ => 0))] rfl (fun hr hs => ⟨?_, trivial⟩) (fun hr hs => ?_)
  · have e1 : ab_lo = -2147483648 := rfl
    have e2 : ab_hi = 2147483647 := rfl
    intro m2 hr2 hf2 n nl nh i il ih hI
    have hI := (hJ0 _ _ _).mp hI
    obtain ⟨rfl, ⟨i0, i1⟩, ⟨n0, n1⟩, hn⟩ := hI
    have hc := cnP_1 i0 hn
    repeat' first | (intro h; exact absurd h (by decide)) | (intro h; exact absurd rfl h) | refine And.intro ?_ ?_ | intro _ | refine Or.inl ⟨by omega, by omega, ?_⟩ | refine Or.inr ?_ | exact trivial | (refine wk_use (k173x64 hZ _ _ (by omega) (by omega)) rfl rfl ?_; rintro - _ _ - - - ⟨_, rfl, hm, ⟨rfl, hs⟩ | ⟨rfl, hs⟩⟩ <;> refine Or.inl ⟨[], hm, ?_⟩ <;> clear hm)
    all_goals first
      | omega
      | (show (32 - (_ : Int) : Int).toNat < (32 - (_ : Int) : Int).toNat; omega)
      | exact hQ _ _ ⟨_, rfl, rfl, (by have e : i = 32 := (by omega); rw [e] at hn; exact hn)⟩
      | (show J0 _ _ _; refine (hJ0 _ _ _).mpr ⟨rfl, ⟨by omega, by omega⟩, ⟨by omega, by omega⟩, hc.1 ((rw_nat i0).mpr hs)⟩)
      | (show J0 _ _ _; refine (hJ0 _ _ _).mpr ⟨rfl, ⟨by omega, by omega⟩, ⟨by omega, by omega⟩, (by have q := hc.2 (fun z => hs ((rw_nat i0).mp z)); omega)⟩)
  · have e1 : ab_lo = -2147483648 := rfl
    have e2 : ab_hi = 2147483647 := rfl
    repeat' first | (intro h; exact absurd h (by decide)) | (intro h; exact absurd rfl h) | refine And.intro ?_ ?_ | intro _ | refine Or.inl ⟨by omega, by omega, ?_⟩ | refine Or.inr ?_ | exact trivial
    all_goals first
      | omega
      | trivial
      | (show J0 _ _ _; refine (hJ0 _ _ _).mpr ⟨rfl, ⟨by omega, by omega⟩, ⟨by omega, by omega⟩, rfl⟩)

def slR (f : Nat → Int → Int) (l : Nat → Int → Int64) (i b v : Int) : Prop := ((f 46 (5 : Nat) = 1 ∧ ndR f i) ∧ v = ((cnP (fun k => rSl l b i (k : Int)) 32 : Nat) : Int)) ∨ (¬ (f 46 (5 : Nat) = 1 ∧ ndR f i) ∧ v = -1)
theorem cp_f {m2 : wk_M} {k : Int} {x : Int64} : flX (wk_ul m2 64 k x).2 = flX m2.2 := by
  funext c
  unfold flX rwB
  rw [wk_ul_ne m2 64 k x (q := 63) (by decide)]
theorem cp_n {m2 : wk_M} {k : Int} {x : Int64} (ex : x = m2.2 63 k) (h : ∀ j, 0 ≤ j → j < k → m2.2 64 j = m2.2 63 j) : ∀ j, 0 ≤ j → j < k + 1 → (wk_ul m2 64 k x).2 64 j = (wk_ul m2 64 k x).2 63 j := by
  intro j j0 j1
  rw [wk_ul_ne m2 64 k x (q := 63) (by decide)]
  have g : (wk_ul m2 64 k x).2 64 j = if j = k then x else m2.2 64 j := by simp (decide := true) only [wk_ul_at, wk_u_2, wk_ul_1, and_self, and_true, true_and, and_false, false_and, if_true, if_false]
  rw [g]
  by_cases e : j = k
  · rw [if_pos e, ex, e]
  · rw [if_neg e]
    exact h j j0 (by omega)
theorem sz_r {l2 l : Nat → Int → Int64} {i b k : Int} (hk : 4 ≤ k) (hfl : ∀ c, flX l2 c ↔ rSl l b i c) (hc : ∀ j, 0 ≤ j → j < k → l2 64 j = l2 63 j) : ((cnP (fun k => rwB l2 64 0 (k : Int)) 32 : Nat) : Int) = ((cnP (fun k => rSl l b i (k : Int)) 32 : Nat) : Int) := by
  have e := cnP_if (P := fun k => rwB l2 64 0 (k : Int)) (Q := fun k => rSl l b i (k : Int)) 32 (fun k hk => by
    show rwB l2 64 0 (k : Int) ↔ rSl l b i (k : Int)
    rw [← hfl]
    unfold flX rwB
    rw [hc _ (by omega) (by omega)]
    exact ⟨fun q => ⟨⟨by omega, by omega⟩, q⟩, fun q => q.2⟩)
  rw [e]

set_option maxHeartbeats 8000000 in
set_option maxRecDepth 20000 in
theorem k177x {Z : sm_Z} (hZ : Z.2.2.2 = tb_N) (m : wk_M) (i b : Int) (b0 : 0 ≤ b) (b1 : b ≤ 1) (hw : m.1 46 (5 : Nat) = 1 → rWs m.2) : wC Z 4 177 [46, 63, 64] [.inr (.inl 46), .inl i, .inl b] m (fun r m' => ∃ v : Int, r = some (.inl v) ∧ (m'.1 46 (0 : Nat) = m.1 46 (0 : Nat) ∧ m'.1 46 (5 : Nat) = m.1 46 (5 : Nat) ∧ m'.1 46 (6 : Nat) = m.1 46 (6 : Nat) ∧ m'.1 46 (34 : Nat) = m.1 46 (34 : Nat)) ∧ slR m.1 m.2 i b v) := by
  obtain ⟨J0, hJ0⟩ : ∃ J : Int →Int →Int → wk_M → Prop, ∀ ia ba k m', J ia ba k m' ↔ (((ia = i ∧ ba = b) ∧ 0 ≤ k ∧ k ≤ 4) ∧ (m'.1 46 (0 : Nat) = m.1 46 (0 : Nat) ∧ m'.1 46 (5 : Nat) = m.1 46 (5 : Nat) ∧ m'.1 46 (6 : Nat) = m.1 46 (6 : Nat) ∧ m'.1 46 (34 : Nat) = m.1 46 (34 : Nat)) ∧ (m.1 46 (5 : Nat) = 1 ∧ ndR m.1 i) ∧ (∀ c, flX m'.2 c ↔ rSl m.2 b i c) ∧ ∀ j, 0 ≤ j → j < k → m'.2 64 j = m'.2 63 j) := ⟨_, fun _ _ _ _ => Iff.rfl⟩
  refine wC.gen fun Q hQ => wk_E hZ (by exact rfl) [(72, [(3, 46), (1, 0), (1, 0), (1, 0)], fun vs _ m' => (match vs with
    | [ia, ba, k] => J0 ia ba k m'
    | _ => False), fun vs _ m' => (match vs with
    | [ia, ba, k] => (4 - k : Int).toNat
    | _ => 0))] rfl (fun hr hs => ⟨?_, trivial⟩) (fun hr hs => ?_)
  · have e1 : ab_lo = -2147483648 := rfl
    have e2 : ab_hi = 2147483647 := rfl
    intro m2 hr2 hf2 ia ial iah ba bal bah k kl kh hI
    have hI := (hJ0 _ _ _ _).mp hI
    obtain ⟨⟨⟨rfl, rfl⟩, k0, k1⟩, ⟨e0, e5, e6, e34⟩, hnd, hfl, hcp⟩ := hI
    have hni := hnd.2.1
    repeat' first | (intro h; exact absurd h (by decide)) | (intro h; exact absurd rfl h) | refine And.intro ?_ ?_ | intro _ | refine Or.inl ⟨by omega, by omega, ?_⟩ | refine Or.inr ?_ | exact trivial | (refine wk_use (k179x hZ _) rfl rfl ?_; rintro - _ _ - - - ⟨_, rfl, hm, hv⟩; refine Or.inl ⟨[], hm, ?_⟩; clear hm)
    all_goals first
      | omega
      | (show (4 - (_ : Int) : Int).toNat < (4 - (_ : Int) : Int).toNat; omega)
      | exact hQ _ _ ⟨_, rfl, ⟨by simp (decide := true) only [wk_u_at, wk_ul_1, and_self, and_true, true_and, and_false, false_and, if_true, if_false] <;> omega, by simp (decide := true) only [wk_u_at, wk_ul_1, and_self, and_true, true_and, and_false, false_and, if_true, if_false] <;> omega, by simp (decide := true) only [wk_u_at, wk_ul_1, and_self, and_true, true_and, and_false, false_and, if_true, if_false] <;> omega, by simp (decide := true) only [wk_u_at, wk_ul_1, and_self, and_true, true_and, and_false, false_and, if_true, if_false] <;> omega⟩, Or.inl ⟨hnd, hv.trans (sz_r (by omega) hfl hcp)⟩⟩
      | (show J0 _ _ _ _; refine (hJ0 _ _ _ _).mpr ⟨⟨⟨rfl, rfl⟩, by omega, by omega⟩, ⟨e0, e5, e6, e34⟩, hnd, (fun c => by rw [cp_f]; exact hfl c), cp_n rfl hcp⟩)
  · have e1 : ab_lo = -2147483648 := rfl
    have e2 : ab_hi = 2147483647 := rfl
    obtain ⟨-, ⟨n0, n1⟩, ⟨x0, x1⟩, -⟩ := hs
    have hb5 : 0 ≤ m.1 46 (5 : Nat) ∧ m.1 46 (5 : Nat) ≤ 1 := hr.1 46 5
    repeat' first | (intro h; exact absurd h (by decide)) | (intro h; exact absurd rfl h) | refine And.intro ?_ ?_ | intro _ | refine Or.inl ⟨by omega, by omega, ?_⟩ | refine Or.inr ?_ | exact trivial | (refine wk_use (k154x hZ _ _) rfl rfl ?_; rintro - _ _ - - - ⟨_, rfl, hm, ⟨rfl, -, hxs⟩ | ⟨rfl, hxs⟩⟩ <;> refine Or.inl ⟨[], hm, ?_⟩ <;> clear hm) | (refine wk_use (k171x hZ _ _ (by omega) (by omega)) rfl rfl ?_; rintro - _ _ - hfr - ⟨rfl, h11, hX⟩; have f171 := hfr; have hw1 := rWs_sm (f171 60 (by decide)).2 (f171 61 (by decide)).2 (f171 62 (by decide)).2 (hw (by omega)); refine Or.inr ?_) | (refine wk_use (k172xd hZ _ _ (by decide) (by decide) ⟨hw1.1, hw1.2.2⟩ (fun b b0 b1 z => by have := (hX b (by omega) b1).mp z; omega)) rfl rfl ?_; rintro - _ _ - hfr - ⟨rfl, h00, hfl⟩; have f172 := hfr; have hw2 := rWs_sm (f172 60 (by decide)).2 (f172 61 (by decide)).2 (f172 62 (by decide)).2 hw1; refine Or.inr ?_) | (refine wk_use (k172xu hZ _ _ (by decide) (by decide) ⟨hw2.1, hw2.2.1⟩ h00) rfl rfl ?_; rintro - _ _ - hfr - ⟨rfl, h01, hfl2⟩; have f173 := hfr; refine Or.inr ?_) | (refine wk_use (k178x hZ _ _ (by omega) (by omega) (hw (by omega))) rfl rfl ?_; rintro - _ _ - hfr - ⟨rfl, hfl⟩; have f178 := hfr; refine Or.inr ?_)
    all_goals first
      | omega
      | trivial
      | exact hQ _ _ ⟨_, rfl, ⟨rfl, rfl, rfl, rfl⟩, Or.inr ⟨(fun q => by have := q.1; omega), rfl⟩⟩
      | exact hQ _ _ ⟨_, rfl, ⟨rfl, rfl, rfl, rfl⟩, Or.inr ⟨(fun q => by have := q.2.1; omega), rfl⟩⟩
      | exact hQ _ _ ⟨_, rfl, ⟨rfl, rfl, rfl, rfl⟩, Or.inr ⟨(fun q => by rcases hxs with z | z; (have := q.2.1; omega); exact z q.2.2), rfl⟩⟩
      | (show J0 _ _ _ _; refine (hJ0 _ _ _ _).mpr (by have e46 := (f173 46 (by decide)).1.trans ((f172 46 (by decide)).1.trans (f171 46 (by decide)).1); exact ⟨⟨⟨rfl, rfl⟩, by omega, by omega⟩, ⟨congrFun e46 _, congrFun e46 _, congrFun e46 _, congrFun e46 _⟩, ⟨by omega, ⟨⟨by omega, by omega⟩, hxs⟩⟩, rsl_fin (P := 62) (Q := 61) ⟨fun z => absurd z (by decide), fun z => by omega⟩ ⟨fun z => absurd z (by decide), fun z => by omega⟩ (by unfold rQ; rw [if_neg (by omega)]) (by unfold rQ'; rw [if_neg (by omega)]) (fun p hp => by simp only [List.mem_cons, List.not_mem_nil, or_false] at hp; rcases hp with e | e | e <;> subst e <;> exact (f171 _ (by decide)).2) (fun p hp => by simp only [List.mem_cons, List.not_mem_nil, or_false] at hp; rcases hp with e | e | e <;> subst e <;> exact (f172 _ (by decide)).2) hX hfl hfl2, fun j j0 j1 => by omega⟩))
      | (show J0 _ _ _ _; refine (hJ0 _ _ _ _).mpr (by have e46 := (f178 46 (by decide)).1; exact ⟨⟨⟨rfl, rfl⟩, by omega, by omega⟩, ⟨congrFun e46 _, congrFun e46 _, congrFun e46 _, congrFun e46 _⟩, ⟨by omega, ⟨⟨by omega, by omega⟩, hxs⟩⟩, (by have e : b = 0 := (by omega); rw [e]; exact hfl), fun j j0 j1 => by omega⟩))
