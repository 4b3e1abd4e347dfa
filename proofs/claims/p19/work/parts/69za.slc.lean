/-! slice, of the class -/
def jn0 (f g : Nat → Int → Int) : Prop := ∀ k, 0 ≤ k → k ≤ 31 → (bitI (g 45 0) k = true ↔ bitI (f 45 0) k = true ∨ bitI (f 26 0) k = true)
theorem jn_s {m m2 : wk_M} {t v z : Int} (t0 : 0 ≤ t) (e26 : m2.1 26 = m.1 26) (h0 : t = 0 → m2.1 45 0 = m.1 45 0) (h1 : 1 ≤ t → jn0 m.1 m2.1) (hv : v = m2.1 26 t) (ez : z = (Int32.ofInt (m2.1 45 t) ||| Int32.ofInt v).toInt) : jn0 m.1 (wk_u m2 45 t z).1 := by
  have g : (wk_u m2 45 t z).1 45 0 = if 0 = t then z else m2.1 45 0 := by simp (decide := true) only [wk_u_at, wk_ul_1, and_self, and_true, true_and, and_false, false_and, if_true, if_false]
  unfold jn0
  rw [g]
  by_cases e : 0 = t
  · rw [if_pos e]
    intro k k0 k1
    rw [ez, bitI_or, Bool.or_eq_true, hv, ← e, h0 e.symm, e26]
  · rw [if_neg e]
    exact h1 (by omega)

set_option maxHeartbeats 8000000 in
set_option maxRecDepth 20000 in
theorem k99x {Z : sm_Z} (hZ : Z.2.2.2 = tb_N) (m : wk_M)  : wC Z 2 99 [45] [.inr (.inl 44), .inr (.inl 25)] m (fun r m' => r = none ∧ jn0 m.1 m'.1) := by
  obtain ⟨J0, hJ0⟩ : ∃ J : Int → wk_M → Prop, ∀ t m', J t m' ↔ ((0 ≤ t ∧ t ≤ 8) ∧ (t = 0 → m'.1 45 0 = m.1 45 0) ∧ (1 ≤ t → jn0 m.1 m'.1)) := ⟨_, fun _ _ => Iff.rfl⟩
  refine wC.gen fun Q hQ => wk_E hZ (by exact rfl) [(2, [(3, 44), (3, 25), (1, 0)], fun vs _ m' => (match vs with
    | [t] => J0 t m'
    | _ => False), fun vs _ m' => (match vs with
    | [t] => (8 - t : Int).toNat
    | _ => 0))] rfl (fun hr hs => ⟨?_, trivial⟩) (fun hr hs => ?_)
  · have e1 : ab_lo = -2147483648 := rfl
    have e2 : ab_hi = 2147483647 := rfl
    intro m2 hr2 hf2 t tl th hI
    have hI := (hJ0 _ _).mp hI
    obtain ⟨⟨t0, t1⟩, h0, h1⟩ := hI
    have e26 : m2.1 26 = m.1 26 := (hf2 26 (by decide)).1
    repeat' first | (intro h; exact absurd h (by decide)) | (intro h; exact absurd rfl h) | refine And.intro ?_ ?_ | intro _ | refine Or.inl ⟨by omega, by omega, ?_⟩ | refine Or.inr ?_ | exact trivial | (refine wk_use (k79 hZ _ _ (by omega) (by omega)) rfl rfl ?_; rintro - _ _ - - ho ⟨v, rfl, hm, hv⟩; have := ho.1; have := ho.2; clear ho; refine Or.inl ⟨[], hm, ?_⟩; clear hm)
    all_goals first
      | omega
      | (show (8 - (_ : Int) : Int).toNat < (8 - (_ : Int) : Int).toNat; omega)
      | exact hQ _ _ ⟨rfl, h1 (by omega)⟩
      | (show J0 _ _; refine (hJ0 _ _).mpr ⟨⟨by omega, by omega⟩, (fun z => by omega), fun _ => jn_s t0 e26 h0 h1 hv (by assumption)⟩)
  · have e1 : ab_lo = -2147483648 := rfl
    have e2 : ab_hi = 2147483647 := rfl
    repeat' first | (intro h; exact absurd h (by decide)) | (intro h; exact absurd rfl h) | refine And.intro ?_ ?_ | intro _ | refine Or.inl ⟨by omega, by omega, ?_⟩ | refine Or.inr ?_ | exact trivial
    all_goals first
      | omega
      | trivial
      | (show J0 _ _; refine (hJ0 _ _).mpr ⟨⟨by omega, by omega⟩, (fun _ => rfl), fun z => by omega⟩)

theorem jn_z {f g h : Nat → Int → Int} (hz : ∀ i : Int, 0 ≤ i → i < ((8 : Nat) : Int) → f 45 i = 0) (e26 : f 26 = h 26) (hj : jn0 f g) : ∀ k, 0 ≤ k → k ≤ 31 → (bitI (g 45 0) k = true ↔ bitI (h 26 0) k = true) := by
  intro k k0 k1
  rw [hj k k0 k1, hz 0 (by decide) (by decide), bit_0, e26]
  exact ⟨fun q => q.elim (fun z => by cases z) id, Or.inr⟩

set_option maxHeartbeats 8000000 in
set_option maxRecDepth 20000 in
theorem k98x {Z : sm_Z} (hZ : Z.2.2.2 = tb_N) (m : wk_M) (i : Int) (i0 : 0 ≤ i) (i1 : i ≤ 31) (b : Int) (b0 : 0 ≤ b) (b1 : b ≤ 1) : wC Z 3 98 [44, 45] [.inr (.inl 44), .inl i, .inl b, .inr (.inl 25)] m (fun r m' => r = none ∧ m'.1 44 (1 : Nat) = 1 ∧ ∀ k, 0 ≤ k → k ≤ 31 → (bitI (m'.1 45 0) k = true ↔ bitI (m.1 26 0) k = true)) := by
  refine wC.gen fun Q hQ => wk_E hZ (by exact rfl) [] rfl (fun _ _ => trivial) fun hr hs => ?_
  have e1 : ab_lo = -2147483648 := rfl
  have e2 : ab_hi = 2147483647 := rfl
  repeat' first | refine And.intro ?_ ?_ | intro _ | refine Or.inl ⟨by omega, by omega, ?_⟩ | refine Or.inr ?_ | exact trivial | (refine wk_use (wfI 45 8 0 _ rfl rfl (by decide) (by decide)) rfl rfl ?_; rintro - _ _ - hfr - ⟨rfl, hz⟩; have f45 := hfr; refine Or.inr ?_) | (refine wk_use (k99x hZ _) rfl rfl ?_; rintro - _ _ - hfr - ⟨rfl, hj⟩; refine Or.inr ?_)
  all_goals first | omega | exact hQ _ _ ⟨rfl, by simp (decide := true) only [wk_u_at, wk_ul_1, and_self, and_true, true_and, and_false, false_and, if_true, if_false], jn_z hz (f45 26 (by decide)).1 hj⟩

set_option maxHeartbeats 8000000 in
set_option maxRecDepth 20000 in
theorem k100x {Z : sm_Z} (hZ : Z.2.2.2 = tb_N) (m : wk_M)  : wC Z 1 100 [] [.inr (.inl 44)] m (fun r m' => ∃ v : Int, r = some (.inl v) ∧ m' = m ∧ v = ((cnP (fun k => bitI (m.1 45 0) (k : Int) = true) 32 : Nat) : Int)) := by
  refine wC.gen fun Q hQ => wk_E hZ (by exact rfl) [] rfl (fun _ _ => trivial) fun hr hs => ?_
  have e1 : ab_lo = -2147483648 := rfl
  have e2 : ab_hi = 2147483647 := rfl
  repeat' first | refine And.intro ?_ ?_ | intro _ | refine Or.inl ⟨by omega, by omega, ?_⟩ | refine Or.inr ?_ | exact trivial | (refine wk_use (k206x _ _) rfl rfl ?_; rintro - _ _ - - - ⟨_, rfl, hm, hv⟩; refine Or.inl ⟨[], hm, ?_⟩; clear hm)
  all_goals first | omega | exact hQ _ _ ⟨_, rfl, rfl, hv⟩

def slC (f : Nat → Int → Int) (i b v : Int) : Prop := ((f 0 (7 : Nat) = 1 ∧ ndT f i) ∧ v = ((cnP (fun k => cS f b i (k : Int)) 32 : Nat) : Int)) ∨ (¬ (f 0 (7 : Nat) = 1 ∧ ndT f i) ∧ v = -1)
theorem sz_c {m m1 m2 m3 : wk_M} {i b : Int} (hq : ∀ a, 0 ≤ a → a ≤ 251 → (qF m1.1 a ↔ cS m.1 b i a)) (h45 : ∀ k, 0 ≤ k → k ≤ 31 → (bitI (m2.1 45 0) k = true ↔ bitI (m1.1 26 0) k = true)) (e : m3.1 45 = m2.1 45) : cnP (fun k => bitI (m3.1 45 0) (k : Int) = true) 32 = cnP (fun k => cS m.1 b i (k : Int)) 32 := by
  refine cnP_if 32 (fun k hk => ?_)
  show bitI (m3.1 45 0) (k : Int) = true ↔ cS m.1 b i (k : Int)
  rw [e, h45 (k : Int) (by omega) (by omega), ← hq (k : Int) (by omega) (by omega)]
  unfold qF
  have e1 : (k : Int) / 32 = 0 := by omega
  have e2 : (k : Int) % 32 = (k : Int) := by omega
  rw [e1, e2]

set_option maxHeartbeats 8000000 in
set_option maxRecDepth 20000 in
theorem k97x {Z : sm_Z} (hZ : Z.2.2.2 = tb_N) (m : wk_M) (i b : Int) (b0 : 0 ≤ b) (b1 : b ≤ 1) (hC : CI m.1) : wC Z 5 97 [25, 26, 27, 28, 29, 32, 44, 45] [.inr (.inl 0), .inl i, .inl b] m (fun r m' => ∃ v : Int, r = some (.inl v) ∧ CI m'.1 ∧ slC m.1 i b v) := by
  refine wC.gen fun Q hQ => wk_E hZ (by exact rfl) [] rfl (fun _ _ => trivial) fun hr hs => ?_
  have e1 : ab_lo = -2147483648 := rfl
  have e2 : ab_hi = 2147483647 := rfl
  have cB := hC.2.1
  have hb7 : 0 ≤ m.1 0 (7 : Nat) ∧ m.1 0 (7 : Nat) ≤ 1 := hr.1 0 7
  repeat' first | (intro h; exact absurd h (by decide)) | (intro h; exact absurd rfl h) | refine And.intro ?_ ?_ | intro _ | refine Or.inl ⟨by omega, by omega, ?_⟩ | refine Or.inr ?_ | exact trivial | (refine wk_use (k44 hZ _ _) rfl rfl ?_; rintro - _ _ - - - ⟨_, rfl, hm, ⟨rfl, hn⟩ | ⟨rfl, hn⟩⟩ <;> refine Or.inl ⟨[], hm, ?_⟩ <;> clear hm) | (refine wk_use (k78x hZ _ _ _ (by omega) (by omega) b0 b1 (cB (by omega)).2.2) rfl rfl ?_; rintro - _ _ - hfr - ⟨rfl, hq⟩; have hp := congrFun (hfr 0 (by decide)).1 ((7 : Nat) : Int); (try simp (decide := true) only [wk_u_at, wk_ul_1, and_self, and_true, true_and, and_false, false_and, if_true, if_false] at hp); have hp := congrFun (hfr 44 (by decide)).1 ((1 : Nat) : Int); (try simp (decide := true) only [wk_u_at, wk_ul_1, and_self, and_true, true_and, and_false, false_and, if_true, if_false] at hp); have f1 := hfr; refine Or.inr ?_) | (refine wk_use (k98x hZ _ _ (by omega) (by omega) _ b0 b1) rfl rfl ?_; rintro - _ _ - hfr - ⟨rfl, h44, h45⟩; have hp := congrFun (hfr 0 (by decide)).1 ((7 : Nat) : Int); (try simp (decide := true) only [wk_u_at, wk_ul_1, and_self, and_true, true_and, and_false, false_and, if_true, if_false] at hp); have f2 := hfr; refine Or.inr ?_) | (refine wk_use (k22 hZ _) rfl rfl ?_; rintro - _ _ - hfr - rfl; have hp := congrFun (hfr 0 (by decide)).1 ((7 : Nat) : Int); (try simp (decide := true) only [wk_u_at, wk_ul_1, and_self, and_true, true_and, and_false, false_and, if_true, if_false] at hp); have hp := congrFun (hfr 44 (by decide)).1 ((1 : Nat) : Int); (try simp (decide := true) only [wk_u_at, wk_ul_1, and_self, and_true, true_and, and_false, false_and, if_true, if_false] at hp); have f3 := hfr; refine Or.inr ?_) | (refine wk_use (k100x hZ _) rfl rfl ?_; rintro - _ _ - - - ⟨_, rfl, hm, hv⟩; refine Or.inl ⟨[], hm, ?_⟩; clear hm)
  all_goals first
    | omega
    | exact hQ _ _ ⟨_, rfl, hC, Or.inr ⟨by unfold ndT ndE; omega, rfl⟩⟩
    | exact hQ _ _ ⟨_, rfl, CI_of (W := [25, 26, 27, 28, 29, 32, 44, 45]) (((f3.mono rfl).trans (f2.mono rfl)).trans (f1.mono rfl)) rfl (by omega) hC (fun _ => by omega), Or.inl ⟨by unfold ndT ndE; omega, by rw [hv, sz_c hq h45 (f3 45 (by decide)).1]⟩⟩
