theorem wk_fr_u {W : List Nat} {m' m : wk_M} {p : Nat} {i v : Int} (hp : p ∈ W) (h : wk_fr W m' m) : wk_fr W (wk_u m' p i v) m := fun q hq => ⟨(wk_u_ne m' p i v (q := q) (fun e => hq (by rw [e]; exact hp))).trans (h q hq).1, (h q hq).2⟩
theorem wk_fr_ul {W : List Nat} {m' m : wk_M} {p : Nat} {i : Int} {v : Int64} (hp : p ∈ W) (h : wk_fr W m' m) : wk_fr W (wk_ul m' p i v) m := fun q hq => ⟨(h q hq).1, (wk_ul_ne m' p i v (q := q) (fun e => hq (by rw [e]; exact hp))).trans (h q hq).2⟩
theorem wk_fr.tm {W1 W : List Nat} {a b c : wk_M} (h : wk_fr W1 a b) (hs : ab_sub' W1 W = true) (h2 : wk_fr W b c) : wk_fr W a c := (h.mono hs).trans h2
/-- the ops keep the document's bounds of what they name -/
def cOps (f : Nat → Int → Int) : Prop := ∀ i, 0 ≤ i → i < f 1 (4 : Nat) → (nD (f 2 i) → 0 ≤ f 3 i ∧ f 3 i ≤ 3) ∧ (nA (f 2 i) → 0 ≤ f 4 i ∧ f 4 i ≤ 3) ∧ (nB (f 2 i) → 0 ≤ f 5 i ∧ f 5 i ≤ 3)
/-- laid out well -/
def cAt (f : Nat → Int → Int) (lo hi i : Int) : Prop := ¬ f 2 i = 18 ∧ (f 2 i = 10 → (lo ≤ f 6 i ∧ f 6 i < hi) ∧ lo ≤ f 8 (f 6 i) ∧ f 8 (f 6 i) ≤ hi) ∧ (f 2 i = 12 → lo ≤ f 6 i ∧ f 6 i ≤ hi) ∧ (f 2 i = 9 → lo ≤ f 8 i ∧ f 8 i < hi ∧ (¬ f 7 i = -1 → lo ≤ f 7 i + 1 ∧ f 7 i + 1 ≤ hi)) ∧ (f 2 i = 11 → lo ≤ f 8 i + 1 ∧ f 8 i < hi)
def cWL (f : Nat → Int → Int) : Prop := (1 ≤ f 1 (11 : Nat) ∧ f 1 (11 : Nat) ≤ 4) ∧ (∀ p, 0 ≤ p → p < f 1 (11 : Nat) → 0 ≤ f 10 p ∧ f 10 p ≤ f 11 p ∧ f 11 p ≤ f 1 (4 : Nat)) ∧ (∀ p i, 0 ≤ p → p < f 1 (11 : Nat) → f 10 p ≤ i → i < f 11 p → cAt f (f 10 p) (f 11 p) i) ∧ (∀ i, 0 ≤ i → i < f 1 (4 : Nat) → 13 ≤ f 2 i → f 2 i ≤ 16 → f 2 i - 13 < f 1 (11 : Nat))
/-- the procedures under way -/
def mF (f : Nat → Int → Int) : Prop := (0 ≤ f 28 (7 : Nat) ∧ f 28 (7 : Nat) ≤ 6) ∧ (∀ k, 0 ≤ k → k ≤ f 28 (7 : Nat) → 0 ≤ f 36 k ∧ f 36 k < f 1 (11 : Nat)) ∧ (∀ k, 1 ≤ k → k ≤ f 28 (7 : Nat) → f 10 (f 36 (k - 1)) ≤ f 37 k ∧ f 37 k < f 11 (f 36 (k - 1)) ∧ 13 ≤ f 2 (f 37 k) ∧ f 2 (f 37 k) ≤ 16)
def mA (f : Nat → Int → Int) : Prop := f 10 (f 36 (f 28 (7 : Nat))) ≤ f 28 (8 : Nat) ∧ f 28 (8 : Nat) ≤ f 11 (f 36 (f 28 (7 : Nat)))
def mC (f : Nat → Int → Int) (s : Int) : Prop := f 29 (1 : Nat) + s ≤ f 28 (9 : Nat) ∧ (f 32 0 + s ≤ f 28 (9 : Nat) ∧ f 32 1 + s ≤ f 28 (9 : Nat) ∧ f 32 2 + s ≤ f 28 (9 : Nat) ∧ f 32 3 + s ≤ f 28 (9 : Nat)) ∧ f 28 (9 : Nat) ≤ f 28 (10 : Nat) ∧ f 28 (10 : Nat) ≤ 600
theorem mk_keep {m m' : wk_M} (hF : mF m.1) (fr : wk_fr [28, 29, 30, 31, 32, 34, 35] m' m) (e7 : m'.1 28 (7 : Nat) = m.1 28 (7 : Nat)) (a : m.1 10 (m.1 36 (m.1 28 (7 : Nat))) ≤ m'.1 28 (8 : Nat) ∧ m'.1 28 (8 : Nat) ≤ m.1 11 (m.1 36 (m.1 28 (7 : Nat)))) (c : mC m'.1 0) : mF m'.1 ∧ mA m'.1 ∧ mC m'.1 0 := by
  have g1 := (fr 1 (by decide)).1
  have g2 := (fr 2 (by decide)).1
  have g10 := (fr 10 (by decide)).1
  have g11 := (fr 11 (by decide)).1
  have g36 := (fr 36 (by decide)).1
  have g37 := (fr 37 (by decide)).1
  refine ⟨?_, ?_, c⟩
  · unfold mF at *
    rw [e7, g1, g2, g10, g11, g36, g37]
    exact hF
  · unfold mA
    rw [e7, g10, g11, g36]
    exact a

set_option maxRecDepth 20000 in
theorem k123 {Z : sm_Z} (hZ : Z.2.2.2 = tb_N) (m : wk_M) (i y : Int) (h : m.1 29 (1 : Nat) < 1000000) : wC Z 2 123 [29, 30] [.inr (.inl 28), .inl i, .inl y] m (fun r m' => r = none ∧ m.1 29 (1 : Nat) ≤ m'.1 29 (1 : Nat) ∧ m'.1 29 (1 : Nat) ≤ m.1 29 (1 : Nat) + 1) := by
  refine wC.gen fun Q hQ => wk_E hZ (by exact rfl) [] rfl (fun _ _ => trivial) fun hr hs => ?_
  have e1 : ab_lo = -2147483648 := rfl
  have e2 : ab_hi = 2147483647 := rfl
  repeat' first | refine And.intro ?_ ?_ | intro _ | refine Or.inl ⟨by omega, by omega, ?_⟩ | refine Or.inr ?_ | exact trivial | (refine wk_use (k124 hZ _ _ h) rfl rfl ?_; rintro - _ _ - hfr - ⟨rfl, _⟩; refine Or.inr ?_)
  all_goals first | omega | exact hQ _ _ ⟨rfl, by omega⟩

set_option maxRecDepth 20000 in
theorem k127 {Z : sm_Z} (hZ : Z.2.2.2 = tb_N) (m : wk_M) (x y : Int) : wC Z 1 127 [] [.inl x, .inl y] m (fun r m' => ∃ v : Int, r = some (.inl v) ∧ m' = m) := by
  refine wC.gen fun Q hQ => wk_E hZ (by exact rfl) [] rfl (fun _ _ => trivial) fun hr hs => ?_
  have e1 : ab_lo = -2147483648 := rfl
  have e2 : ab_hi = 2147483647 := rfl
  obtain ⟨⟨x0, x1⟩, ⟨y0, y1⟩, -⟩ := hs
  repeat' first | refine And.intro ?_ ?_ | intro _ | refine Or.inl ⟨by omega, by omega, ?_⟩ | refine Or.inr ?_ | exact trivial
  all_goals first | omega | exact hQ _ _ ⟨_, rfl, rfl⟩

set_option maxRecDepth 20000 in
theorem k126 {Z : sm_Z} (hZ : Z.2.2.2 = tb_N) (m : wk_M) (i : Int) (i0 : 0 ≤ i) (i1 : i ≤ 31) (h0 : 0 ≤ m.1 28 (7 : Nat)) (h1 : m.1 28 (7 : Nat) ≤ 6) (ha : nA (m.1 2 i) → 0 ≤ m.1 4 i ∧ m.1 4 i ≤ 3) (hb : nB (m.1 2 i) → 0 ≤ m.1 5 i ∧ m.1 5 i ≤ 3) : wC Z 2 126 [] [.inr (.inl 28), .inl i] m (fun r m' => ∃ v : Int, r = some (.inl v) ∧ m' = m) := by
  refine wC.gen fun Q hQ => wk_E hZ (by exact rfl) [] rfl (fun _ _ => trivial) fun hr hs => ?_
  have e1 : ab_lo = -2147483648 := rfl
  have e2 : ab_hi = 2147483647 := rfl
  unfold nA at ha
  unfold nB at hb
  repeat' first | refine And.intro ?_ ?_ | intro _ | refine Or.inl ⟨by omega, by omega, ?_⟩ | refine Or.inr ?_ | exact trivial | (refine wk_use (k118 hZ _ _ (by omega) (by omega) (by omega) (by omega)) rfl rfl ?_; rintro - _ _ - - - ⟨_, rfl, rfl, _⟩; refine Or.inl ⟨[], rfl, ?_⟩) | (refine wk_use (k127 hZ _ _ _) rfl rfl ?_; rintro - _ _ - - - ⟨_, rfl, rfl⟩; refine Or.inl ⟨[], rfl, ?_⟩)
  all_goals first | omega | exact hQ _ _ ⟨_, rfl, rfl⟩

set_option maxRecDepth 20000 in
theorem k114 {Z : sm_Z} (hZ : Z.2.2.2 = tb_N) (m : wk_M) (g c x y : Int) (g0 : 0 ≤ g) (g1 : g ≤ 3) (c0 : -1 ≤ c) (c1 : c ≤ 31) (h0 : -1 ≤ m.1 28 (7 : Nat)) (h1 : m.1 28 (7 : Nat) ≤ 5) : wC Z 2 114 [28, 35, 36, 37] [.inr (.inl 28), .inl g, .inl c, .inl x, .inl y] m (fun r m' => r = none ∧ (m'.1 28 (7 : Nat) = m.1 28 (7 : Nat) + 1 ∧ m'.1 28 (8 : Nat) = m.1 10 g ∧ m'.1 28 (9 : Nat) = m.1 28 (9 : Nat) ∧ m'.1 28 (10 : Nat) = m.1 28 (10 : Nat) ∧ m'.1 28 (13 : Nat) = m.1 28 (13 : Nat)) ∧ (∀ k, m'.1 36 k = if k = m.1 28 (7 : Nat) + 1 then g else m.1 36 k) ∧ (∀ k, m'.1 37 k = if k = m.1 28 (7 : Nat) + 1 then c else m.1 37 k)) := by
  refine wC.gen fun Q hQ => wk_E hZ (by exact rfl) [] rfl (fun _ _ => trivial) fun hr hs => ?_
  have e1 : ab_lo = -2147483648 := rfl
  have e2 : ab_hi = 2147483647 := rfl
  repeat' first | refine And.intro ?_ ?_ | intro _ | refine Or.inl ⟨by omega, by omega, ?_⟩ | refine Or.inr ?_ | exact trivial | (refine wk_use (k115 hZ _ _ (by omega) (by omega) _ (by simp (decide := true) only [wk_u_at, wk_ul_1, and_self, and_true, true_and, and_false, false_and, if_true, if_false]; omega) (by simp (decide := true) only [wk_u_at, wk_ul_1, and_self, and_true, true_and, and_false, false_and, if_true, if_false]; omega)) rfl rfl ?_; rintro - _ _ - - - ⟨rfl, rfl⟩; refine Or.inl ⟨[(35, .inr _, _)], rfl, ?_⟩)
  all_goals first | omega | (refine hQ _ _ ⟨rfl, ⟨?_, ?_, ?_, ?_, ?_⟩, fun k => ?_, fun k => ?_⟩ <;> simp (decide := true) only [wk_u_at, wk_ul_1, and_self, and_true, true_and, and_false, false_and, if_true, if_false])
