/-! depends, of the class -/
def bq (v k : Int) : Prop := (k = 0 ∧ v % 2 = 1) ∨ (k = 1 ∧ v / 2 % 2 = 1) ∨ (k = 2 ∧ v / 4 % 2 = 1) ∨ (k = 3 ∧ v / 8 % 2 = 1)
theorem bq_0 (v : Int) : bq v 0 ↔ v % 2 = 1 := by
  unfold bq
  omega
theorem bq_1 (v : Int) : bq v 1 ↔ v / 2 % 2 = 1 := by
  unfold bq
  omega
theorem bq_2 (v : Int) : bq v 2 ↔ v / 4 % 2 = 1 := by
  unfold bq
  omega
theorem bq_3 (v : Int) : bq v 3 ↔ v / 8 % 2 = 1 := by
  unfold bq
  omega
theorem bq_eq {u v : Int} {P : Int → Prop} (u0 : 0 ≤ u ∧ u ≤ 15) (v0 : 0 ≤ v ∧ v ≤ 15) (hu : ∀ k, 0 ≤ k → k ≤ 3 → (bq u k ↔ P k)) (hv : ∀ k, 0 ≤ k → k ≤ 3 → (bq v k ↔ P k)) : u = v := by
  have h0 := (hu 0 (by decide) (by decide)).trans (hv 0 (by decide) (by decide)).symm
  have h1 := (hu 1 (by decide) (by decide)).trans (hv 1 (by decide) (by decide)).symm
  have h2 := (hu 2 (by decide) (by decide)).trans (hv 2 (by decide) (by decide)).symm
  have h3 := (hu 3 (by decide) (by decide)).trans (hv 3 (by decide) (by decide)).symm
  rw [bq_0, bq_0] at h0
  rw [bq_1, bq_1] at h1
  rw [bq_2, bq_2] at h2
  rw [bq_3, bq_3] at h3
  clear hu hv
  have a0 : u % 2 = v % 2 := by clear h1 h2 h3; omega
  have a1 : u / 2 % 2 = v / 2 % 2 := by clear h0 h2 h3; omega
  have a2 : u / 4 % 2 = v / 4 % 2 := by clear h0 h1 h3; omega
  have a3 : u / 8 % 2 = v / 8 % 2 := by clear h0 h1 h2; omega
  clear h0 h1 h2 h3
  omega
def sq (t s : Int) : Prop := (t = 0 ∧ s = 0) ∨ (t = 1 ∧ s ≤ 1) ∨ (t = 2 ∧ s ≤ 3) ∨ (t = 3 ∧ s ≤ 7) ∨ (t = 4 ∧ s ≤ 15)
theorem shl3 {t z : Int} (t0 : 0 ≤ t) (t1 : t ≤ 3) (h : z = (Int32.ofInt 1 <<< (Int32.ofInt t &&& 31)).toInt) : (t = 0 ∧ z = 1) ∨ (t = 1 ∧ z = 2) ∨ (t = 2 ∧ z = 4) ∨ (t = 3 ∧ z = 8) := by
  have e : t = 0 ∨ t = 1 ∨ t = 2 ∨ t = 3 := by omega
  rcases e with e | e | e | e
  · subst e
    exact Or.inl ⟨rfl, h.trans (by decide)⟩
  · subst e
    exact Or.inr (Or.inl ⟨rfl, h.trans (by decide)⟩)
  · subst e
    exact Or.inr (Or.inr (Or.inl ⟨rfl, h.trans (by decide)⟩))
  · subst e
    exact Or.inr (Or.inr (Or.inr ⟨rfl, h.trans (by decide)⟩))
theorem bq_put {P : Int → Prop} {t s z : Int} (s0 : 0 ≤ s) (hs : sq t s) (h : ∀ k, 0 ≤ k → k < t → (bq s k ↔ P k)) (hz : (t = 0 ∧ z = 1) ∨ (t = 1 ∧ z = 2) ∨ (t = 2 ∧ z = 4) ∨ (t = 3 ∧ z = 8)) (hp : P t) : sq (t + 1) (s + z) ∧ ∀ k, 0 ≤ k → k < t + 1 → (bq (s + z) k ↔ P k) := by
  unfold sq at hs ⊢
  refine ⟨by clear h; omega, fun k k0 k1 => ?_⟩
  by_cases e : k = t
  · subst e
    exact ⟨fun _ => hp, fun _ => by clear h; unfold bq; omega⟩
  · rw [← h k k0 (by omega)]
    clear h
    unfold bq
    omega
theorem bq_skip {P : Int → Prop} {t s : Int} (s0 : 0 ≤ s) (t4 : t ≤ 3) (hs : sq t s) (h : ∀ k, 0 ≤ k → k < t → (bq s k ↔ P k)) (hp : ¬ P t) : sq (t + 1) s ∧ ∀ k, 0 ≤ k → k < t + 1 → (bq s k ↔ P k) := by
  unfold sq at hs ⊢
  refine ⟨by clear h; omega, fun k k0 k1 => ?_⟩
  by_cases e : k = t
  · subst e
    exact ⟨fun q => by clear h; unfold bq at q; omega, fun q => absurd q hp⟩
  · exact h k k0 (by omega)

set_option maxHeartbeats 8000000 in
set_option maxRecDepth 20000 in
theorem k95x {Z : sm_Z} (hZ : Z.2.2.2 = tb_N) (m : wk_M) (n x : Int) (n0 : 0 ≤ n) (n1 : n ≤ 31) (x0 : 0 ≤ x) (x1 : x ≤ 31) : wC Z 2 95 [] [.inr (.inl 13), .inl n, .inl x] m (fun r m' => ∃ v : Int, r = some (.inl v) ∧ m' = m ∧ ((0 ≤ v ∧ v ≤ 15) ∧ ∀ k, 0 ≤ k → k ≤ 3 → (bq v k ↔ nK m.1 k n x))) := by
  obtain ⟨J0, hJ0⟩ : ∃ J : Int →Int →Int →Int → wk_M → Prop, ∀ na xa s t m', J na xa s t m' ↔ (m' = m ∧ (n = na ∧ x = xa) ∧ (0 ≤ t ∧ t ≤ 4) ∧ (0 ≤ s ∧ sq t s) ∧ ∀ k, 0 ≤ k → k < t → (bq s k ↔ nK m.1 k n x)) := ⟨_, fun _ _ _ _ _ => Iff.rfl⟩
  refine wC.gen fun Q hQ => wk_E hZ (by exact rfl) [(5, [(3, 13), (1, 0), (1, 0), (1, 0), (1, 0)], fun vs _ m' => (match vs with
    | [na, xa, s, t] => J0 na xa s t m'
    | _ => False), fun vs _ m' => (match vs with
    | [na, xa, s, t] => (4 - t : Int).toNat
    | _ => 0))] rfl (fun hr hs => ⟨?_, trivial⟩) (fun hr hs => ?_)
  · have e1 : ab_lo = -2147483648 := rfl
    have e2 : ab_hi = 2147483647 := rfl
    intro m2 hr2 hf2 na nal nah xa xal xah s sl sh t tl th hI
    have hI := (hJ0 _ _ _ _ _).mp hI
    obtain ⟨rfl, ⟨rfl, rfl⟩, ⟨t0, t1⟩, ⟨s0, hs⟩, hk⟩ := hI
    have hs15 : s ≤ 15 := by unfold sq at hs; omega
    repeat' first | (intro z hz zl zh; have hq := shl3 (by omega) (by omega) hz) | (intro h; exact absurd h (by decide)) | (intro h; exact absurd rfl h) | refine And.intro ?_ ?_ | intro _ | refine Or.inl ⟨by omega, by omega, ?_⟩ | refine Or.inr ?_ | exact trivial | (refine wk_use (k67b hZ _ _ _ (by omega) (by omega)) rfl rfl ?_; rintro - _ _ - - - ⟨_, rfl, hm, ⟨rfl, hb⟩ | ⟨rfl, hb⟩⟩ <;> refine Or.inl ⟨[], hm, ?_⟩ <;> clear hm)
    all_goals first
      | omega
      | (show (4 - (_ : Int) : Int).toNat < (4 - (_ : Int) : Int).toNat; omega)
      | exact hQ _ _ ⟨_, rfl, rfl, ⟨s0, hs15⟩, fun k k0 k1 => hk k k0 (by omega)⟩
      | (show J0 _ _ _ _ _; refine (hJ0 _ _ _ _ _).mpr ⟨rfl, ⟨rfl, rfl⟩, ⟨by omega, by omega⟩, ⟨by omega, (bq_put s0 hs hk hq hb).1⟩, (bq_put s0 hs hk hq hb).2⟩)
      | (show J0 _ _ _ _ _; refine (hJ0 _ _ _ _ _).mpr ⟨rfl, ⟨rfl, rfl⟩, ⟨by omega, by omega⟩, ⟨by omega, (bq_skip s0 (by omega) hs hk (fun q => by rw [nK, hb] at q; cases q)).1⟩, (bq_skip s0 (by omega) hs hk (fun q => by rw [nK, hb] at q; cases q)).2⟩)
  · have e1 : ab_lo = -2147483648 := rfl
    have e2 : ab_hi = 2147483647 := rfl
    repeat' first | (intro z hz zl zh; have hq := shl3 (by omega) (by omega) hz) | (intro h; exact absurd h (by decide)) | (intro h; exact absurd rfl h) | refine And.intro ?_ ?_ | intro _ | refine Or.inl ⟨by omega, by omega, ?_⟩ | refine Or.inr ?_ | exact trivial
    all_goals first
      | omega
      | trivial
      | (show J0 _ _ _ _ _; refine (hJ0 _ _ _ _ _).mpr ⟨rfl, ⟨rfl, rfl⟩, ⟨by omega, by omega⟩, ⟨by omega, Or.inl ⟨rfl, rfl⟩⟩, fun k k0 k1 => by omega⟩)

def ndT (f : Nat → Int → Int) (i : Int) : Prop := (0 ≤ i ∧ i < f 1 (4 : Nat)) ∧ ndE f i
def dpC (f : Nat → Int → Int) (n x v : Int) : Prop := (v = 0 ∧ (¬ f 0 (7 : Nat) = 1 ∨ ¬ ndT f n ∨ ¬ ndT f x)) ∨ ((f 0 (7 : Nat) = 1 ∧ ndT f n ∧ ndT f x) ∧ (0 ≤ v ∧ v ≤ 15) ∧ ∀ k, 0 ≤ k → k ≤ 3 → (bq v k ↔ nK f k n x))

set_option maxHeartbeats 8000000 in
set_option maxRecDepth 20000 in
theorem k94x {Z : sm_Z} (hZ : Z.2.2.2 = tb_N) (m : wk_M) (n x : Int) : wC Z 3 94 [] [.inr (.inl 0), .inl n, .inl x] m (fun r m' => ∃ v : Int, r = some (.inl v) ∧ m' = m ∧ dpC m.1 n x v) := by
  refine wC.gen fun Q hQ => wk_E hZ (by exact rfl) [] rfl (fun _ _ => trivial) fun hr hs => ?_
  have e1 : ab_lo = -2147483648 := rfl
  have e2 : ab_hi = 2147483647 := rfl
  have hb7 : 0 ≤ m.1 0 (7 : Nat) ∧ m.1 0 (7 : Nat) ≤ 1 := hr.1 0 7
  repeat' first | (intro h; exact absurd h (by decide)) | (intro h; exact absurd rfl h) | refine And.intro ?_ ?_ | intro _ | refine Or.inl ⟨by omega, by omega, ?_⟩ | refine Or.inr ?_ | exact trivial | (refine wk_use (k44 hZ _ _) rfl rfl ?_; rintro - _ _ - - - ⟨_, rfl, hm, ⟨rfl, _⟩ | ⟨rfl, _⟩⟩ <;> refine Or.inl ⟨[], hm, ?_⟩ <;> clear hm) | (refine wk_use (k95x hZ _ _ _ (by omega) (by omega) (by omega) (by omega)) rfl rfl ?_; rintro - _ _ - - - ⟨_, rfl, hm, hv, hk⟩; refine Or.inl ⟨[], hm, ?_⟩; clear hm)
  all_goals first | omega | exact hQ _ _ ⟨_, rfl, rfl, Or.inr ⟨by unfold ndT ndE; omega, hv, hk⟩⟩ | exact hQ _ _ ⟨_, rfl, rfl, Or.inl ⟨rfl, by unfold ndT ndE; omega⟩⟩
