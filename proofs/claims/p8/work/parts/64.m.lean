/-! the reference: a run -/
def rOps (f : Nat → Int → Int) : Prop := ∀ i, 0 ≤ i → i < f 46 (0 : Nat) → (nD (f 47 i) → 0 ≤ f 48 i ∧ f 48 i ≤ 3) ∧ (nA (f 47 i) → 0 ≤ f 49 i ∧ f 49 i ≤ 3) ∧ (nB (f 47 i) → 0 ≤ f 50 i ∧ f 50 i ≤ 3)
def rCl (f : Nat → Int → Int) : Prop := ∀ i, 0 ≤ i → i < f 46 (0 : Nat) → 13 ≤ f 47 i → f 47 i ≤ 16 → f 47 i - 13 < f 46 (6 : Nat)
def rF (f : Nat → Int → Int) : Prop := (1 ≤ f 46 (26 : Nat) ∧ f 46 (26 : Nat) ≤ 7) ∧ ∀ k, 1 ≤ k → k < f 46 (26 : Nat) → (0 ≤ f 67 k ∧ f 67 k ≤ 31) ∧ (0 ≤ f 53 (f 67 k) ∧ f 53 (f 67 k) < f 46 (6 : Nat)) ∧ (f 51 (f 53 (f 67 k)) ≤ f 67 k ∧ f 67 k < f 52 (f 53 (f 67 k))) ∧ 13 ≤ f 47 (f 67 k) ∧ f 47 (f 67 k) ≤ 16
def rC (f : Nat → Int → Int) (s : Int) : Prop := f 46 (30 : Nat) + s ≤ f 46 (25 : Nat) ∧ f 70 0 + s ≤ f 46 (25 : Nat) ∧ f 70 1 + s ≤ f 46 (25 : Nat) ∧ f 70 2 + s ≤ f 46 (25 : Nat) ∧ f 70 3 + s ≤ f 46 (25 : Nat)
/-- all fields of the reference but one stay -/
def r46 (n : Nat) (m' m : wk_M) : Prop := ∀ k : Nat, ¬ k = n → m'.1 46 (k : Nat) = m.1 46 (k : Nat)
theorem r46_u {m : wk_M} {n : Nat} {v : Int} : r46 n (wk_u m 46 (n : Nat) v) m := fun k hk => if_neg (fun z => hk (by have := z.2; omega))
theorem r46_ne {m : wk_M} {n p : Nat} {i v : Int} (hp : ¬ 46 = p) : r46 n (wk_u m p i v) m := fun k _ => if_neg (fun z => hp z.1)
theorem r46.trans {n : Nat} {a b c : wk_M} (h1 : r46 n a b) (h2 : r46 n b c) : r46 n a c := fun k hk => (h1 k hk).trans (h2 k hk)
theorem r46_refl {n : Nat} {m : wk_M} : r46 n m m := fun _ _ => rfl
theorem r46_fr {n : Nat} {W : List Nat} {m' m : wk_M} (h : wk_fr W m' m) (hw : 46 ∉ W) : r46 n m' m := fun k _ => by rw [(h 46 hw).1]

set_option maxRecDepth 20000 in
theorem k186 {Z : sm_Z} (hZ : Z.2.2.2 = tb_N) (m : wk_M) (v : Int) (v0 : 0 ≤ v) (v1 : v ≤ 3) (h0 : 1 ≤ m.1 46 (26 : Nat)) (h1 : m.1 46 (26 : Nat) ≤ 7) : wC Z 1 186 [] [.inr (.inl 46), .inl v] m (fun r m' => ∃ v : Int, r = some (.inl v) ∧ m' = m) := by
  refine wC.gen fun Q hQ => wk_E hZ (by exact rfl) [] rfl (fun _ _ => trivial) fun hr hs => ?_
  have e1 : ab_lo = -2147483648 := rfl
  have e2 : ab_hi = 2147483647 := rfl
  repeat' first | refine And.intro ?_ ?_ | intro _ | refine Or.inl ⟨by omega, by omega, ?_⟩ | refine Or.inr ?_ | exact trivial
  all_goals first | omega | exact hQ _ _ ⟨_, rfl, rfl⟩

set_option maxRecDepth 20000 in
theorem k187 {Z : sm_Z} (hZ : Z.2.2.2 = tb_N) (m : wk_M) (v : Int) (v0 : 0 ≤ v) (v1 : v ≤ 3) (y : Int) (h0 : 1 ≤ m.1 46 (26 : Nat)) (h1 : m.1 46 (26 : Nat) ≤ 7) : wC Z 1 187 [66] [.inr (.inl 46), .inl v, .inl y] m (fun r m' => r = none ∧ m' = wk_u m 66 (4 * (m.1 46 (26 : Nat) - 1) + v) y) := by
  refine wC.gen fun Q hQ => wk_E hZ (by exact rfl) [] rfl (fun _ _ => trivial) fun hr hs => ?_
  have e1 : ab_lo = -2147483648 := rfl
  have e2 : ab_hi = 2147483647 := rfl
  obtain ⟨-, -, ⟨y0, y1⟩, -⟩ := hs
  repeat' first | refine And.intro ?_ ?_ | intro _ | refine Or.inl ⟨by omega, by omega, ?_⟩ | refine Or.inr ?_ | exact trivial
  all_goals first | omega | exact hQ _ _ ⟨rfl, rfl⟩

set_option maxRecDepth 20000 in
theorem k190 {Z : sm_Z} (hZ : Z.2.2.2 = tb_N) (m : wk_M) (o p q : Int) (h : o = 5 → ¬ q = 0) : wC Z 1 190 [] [.inr (.inl 46), .inl o, .inl p, .inl q] m (fun r m' => ∃ v : Int, r = some (.inl v) ∧ m' = m) := by
  refine wC.gen fun Q hQ => wk_E hZ (by exact rfl) [] rfl (fun _ _ => trivial) fun hr hs => ?_
  have e1 : ab_lo = -2147483648 := rfl
  have e2 : ab_hi = 2147483647 := rfl
  obtain ⟨-, ⟨o0, o1⟩, ⟨p0, p1⟩, ⟨q0, q1⟩, -⟩ := hs
  repeat' first | refine And.intro ?_ ?_ | intro _ | refine Or.inl ⟨by omega, by omega, ?_⟩ | refine Or.inr ⟨by omega, ?_⟩ | refine Or.inr ?_ | exact trivial
  all_goals first | omega | exact hQ _ _ ⟨_, rfl, rfl⟩

set_option maxRecDepth 20000 in
theorem k191 {Z : sm_Z} (hZ : Z.2.2.2 = tb_N) (m : wk_M) (i y : Int) (h : m.1 46 (30 : Nat) < 1000000) : wC Z 1 191 [46, 69] [.inr (.inl 46), .inl i, .inl y] m (fun r m' => r = none ∧ r46 30 m' m ∧ m.1 46 (30 : Nat) ≤ m'.1 46 (30 : Nat) ∧ m'.1 46 (30 : Nat) ≤ m.1 46 (30 : Nat) + 1) := by
  refine wC.gen fun Q hQ => wk_E hZ (by exact rfl) [] rfl (fun _ _ => trivial) fun hr hs => ?_
  have e1 : ab_lo = -2147483648 := rfl
  have e2 : ab_hi = 2147483647 := rfl
  obtain ⟨-, -, ⟨y0, y1⟩, -⟩ := hs
  repeat' first | refine And.intro ?_ ?_ | intro _ | refine Or.inl ⟨by omega, by omega, ?_⟩ | refine Or.inr ?_ | exact trivial
  all_goals first | omega | exact hQ _ _ ⟨rfl, r46_refl, by omega, by omega⟩ | exact hQ _ _ ⟨rfl, r46_u, by simp (decide := true) only [wk_u_at, wk_ul_1, and_self, and_true, true_and, and_false, false_and, if_true, if_false] <;> omega, by simp (decide := true) only [wk_u_at, wk_ul_1, and_self, and_true, true_and, and_false, false_and, if_true, if_false] <;> omega⟩ | exact hQ _ _ ⟨rfl, r46.trans r46_u (r46_ne (by decide)), by simp (decide := true) only [wk_u_at, wk_ul_1, and_self, and_true, true_and, and_false, false_and, if_true, if_false] <;> omega, by simp (decide := true) only [wk_u_at, wk_ul_1, and_self, and_true, true_and, and_false, false_and, if_true, if_false] <;> omega⟩

set_option maxRecDepth 20000 in
theorem k188 {Z : sm_Z} (hZ : Z.2.2.2 = tb_N) (m : wk_M) (i : Int) (i0 : 0 ≤ i) (i1 : i ≤ 31) (h0 : 1 ≤ m.1 46 (26 : Nat)) (h1 : m.1 46 (26 : Nat) ≤ 6) (a : 0 ≤ m.1 49 i ∧ m.1 49 i ≤ 3) (b : 0 ≤ m.1 50 i ∧ m.1 50 i ≤ 3) : wC Z 2 188 [46, 66, 67] [.inr (.inl 46), .inl i] m (fun r m' => r = none ∧ m'.1 46 (26 : Nat) = m.1 46 (26 : Nat) + 1 ∧ r46 26 m' m ∧ ∀ k, m'.1 67 k = if k = m.1 46 (26 : Nat) then i else m.1 67 k) := by
  refine wC.gen fun Q hQ => wk_E hZ (by exact rfl) [] rfl (fun _ _ => trivial) fun hr hs => ?_
  have e1 : ab_lo = -2147483648 := rfl
  have e2 : ab_hi = 2147483647 := rfl
  repeat' first | refine And.intro ?_ ?_ | intro _ | refine Or.inl ⟨by omega, by omega, ?_⟩ | refine Or.inr ?_ | exact trivial | (refine wk_use (k186 hZ _ _ (by first | omega | (simp (decide := true) only [wk_u_at, wk_ul_1, and_self, and_true, true_and, and_false, false_and, if_true, if_false] <;> omega)) (by first | omega | (simp (decide := true) only [wk_u_at, wk_ul_1, and_self, and_true, true_and, and_false, false_and, if_true, if_false] <;> omega)) (by first | omega | (simp (decide := true) only [wk_u_at, wk_ul_1, and_self, and_true, true_and, and_false, false_and, if_true, if_false] <;> omega)) (by first | omega | (simp (decide := true) only [wk_u_at, wk_ul_1, and_self, and_true, true_and, and_false, false_and, if_true, if_false] <;> omega))) rfl rfl ?_; rintro - _ _ - - ho ⟨_, rfl, rfl⟩; have := ho.1; have := ho.2; clear ho; refine Or.inl ⟨[], rfl, ?_⟩) | (refine wk_use (k187 hZ _ _ (by first | omega | (simp (decide := true) only [wk_u_at, wk_ul_1, and_self, and_true, true_and, and_false, false_and, if_true, if_false] <;> omega)) (by first | omega | (simp (decide := true) only [wk_u_at, wk_ul_1, and_self, and_true, true_and, and_false, false_and, if_true, if_false] <;> omega)) _ (by first | omega | (simp (decide := true) only [wk_u_at, wk_ul_1, and_self, and_true, true_and, and_false, false_and, if_true, if_false] <;> omega)) (by first | omega | (simp (decide := true) only [wk_u_at, wk_ul_1, and_self, and_true, true_and, and_false, false_and, if_true, if_false] <;> omega))) rfl rfl ?_; rintro - _ _ - - - ⟨rfl, rfl⟩; refine Or.inl ⟨[(66, .inr _, _)], rfl, ?_⟩)
  all_goals first | omega | (refine hQ _ _ ⟨rfl, ?_, fun k hk => ?_, fun k => ?_⟩; simp (decide := true) only [wk_u_at, wk_ul_1, and_self, and_true, true_and, and_false, false_and, if_true, if_false]; (have hk2 : ¬ ((k : Int) = ((26 : Nat) : Int)) := by omega); simp (decide := true) only [wk_u_at, hk2, and_false, false_and, if_false]; simp (decide := true) only [wk_u_at, wk_ul_1, and_self, and_true, true_and, and_false, false_and, if_true, if_false])

set_option maxRecDepth 20000 in
theorem k185 {Z : sm_Z} (hZ : Z.2.2.2 = tb_N) (m : wk_M) (hF : rF m.1) (h : 2 ≤ m.1 46 (26 : Nat)) (hO : rOps m.1) (hL : rWL m.1) : wC Z 2 185 [46, 66] [.inr (.inl 46)] m (fun r m' => ∃ v : Int, r = some (.inl v) ∧ v = m.1 67 (m.1 46 (26 : Nat) - 1) ∧ m'.1 46 (26 : Nat) = m.1 46 (26 : Nat) - 1 ∧ r46 26 m' m) := by
  refine wC.gen fun Q hQ => wk_E hZ (by exact rfl) [] rfl (fun _ _ => trivial) fun hr hs => ?_
  have e1 : ab_lo = -2147483648 := rfl
  have e2 : ab_hi = 2147483647 := rfl
  obtain ⟨⟨d0, d1⟩, c1⟩ := id hF
  obtain ⟨⟨a0, a1⟩, ⟨b0, b1⟩, ⟨g0, g1⟩, o0, o1⟩ := c1 (m.1 46 (26 : Nat) - 1) (by omega) (by omega)
  have q := hL.2.1 _ b0 b1
  have qd := (hO (m.1 67 (m.1 46 (26 : Nat) - 1)) a0 (by omega)).1 (by unfold nD; omega)
  repeat' first | refine And.intro ?_ ?_ | intro _ | refine Or.inl ⟨by omega, by omega, ?_⟩ | refine Or.inr ?_ | exact trivial | (refine wk_use (k186 hZ _ _ (by first | omega | (simp (decide := true) only [wk_u_at, wk_ul_1, and_self, and_true, true_and, and_false, false_and, if_true, if_false] <;> omega)) (by first | omega | (simp (decide := true) only [wk_u_at, wk_ul_1, and_self, and_true, true_and, and_false, false_and, if_true, if_false] <;> omega)) (by first | omega | (simp (decide := true) only [wk_u_at, wk_ul_1, and_self, and_true, true_and, and_false, false_and, if_true, if_false] <;> omega)) (by first | omega | (simp (decide := true) only [wk_u_at, wk_ul_1, and_self, and_true, true_and, and_false, false_and, if_true, if_false] <;> omega))) rfl rfl ?_; rintro - _ _ - - ho ⟨_, rfl, rfl⟩; have := ho.1; have := ho.2; clear ho; refine Or.inl ⟨[], rfl, ?_⟩) | (refine wk_use (k187 hZ _ _ (by first | omega | (simp (decide := true) only [wk_u_at, wk_ul_1, and_self, and_true, true_and, and_false, false_and, if_true, if_false] <;> omega)) (by first | omega | (simp (decide := true) only [wk_u_at, wk_ul_1, and_self, and_true, true_and, and_false, false_and, if_true, if_false] <;> omega)) _ (by first | omega | (simp (decide := true) only [wk_u_at, wk_ul_1, and_self, and_true, true_and, and_false, false_and, if_true, if_false] <;> omega)) (by first | omega | (simp (decide := true) only [wk_u_at, wk_ul_1, and_self, and_true, true_and, and_false, false_and, if_true, if_false] <;> omega))) rfl rfl ?_; rintro - _ _ - - - ⟨rfl, rfl⟩; refine Or.inl ⟨[(66, .inr _, _)], rfl, ?_⟩)
  all_goals first | omega | exact hQ _ _ ⟨_, rfl, rfl, by simp (decide := true) only [wk_u_at, wk_ul_1, and_self, and_true, true_and, and_false, false_and, if_true, if_false], r46.trans (r46_ne (by decide)) r46_u⟩
