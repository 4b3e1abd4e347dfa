/-! the class's Code: what its small methods answer; its Machine -/
set_option maxRecDepth 20000 in
theorem k45 {Z : sm_Z} (hZ : Z.2.2.2 = tb_N) (m : wk_M) (i : Int) : wC Z 1 45 [] [.inr (.inl 1), .inl i] m (fun r m' => ∃ v : Int, r = some (.inl v) ∧ m' = m ∧ ((v = 1 ∧ (0 ≤ i ∧ i < m.1 1 (4 : Nat) ∧ m.1 1 (4 : Nat) ≤ 32)) ∨ (v = 0 ∧ (i < 0 ∨ m.1 1 (4 : Nat) ≤ i)))) := by
  refine wC.gen fun Q hQ => wk_E hZ (by exact rfl) [] rfl (fun _ _ => trivial) fun hr hs => ?_
  have e1 : ab_lo = -2147483648 := rfl
  have e2 : ab_hi = 2147483647 := rfl
  repeat' first | refine And.intro ?_ ?_ | intro _ | refine Or.inl ⟨by omega, by omega, ?_⟩ | refine Or.inr ?_ | exact trivial
  all_goals first | omega | exact hQ _ _ ⟨_, rfl, rfl, by omega⟩

set_option maxRecDepth 20000 in
theorem k44 {Z : sm_Z} (hZ : Z.2.2.2 = tb_N) (m : wk_M) (i : Int) : wC Z 2 44 [] [.inr (.inl 1), .inl i] m (fun r m' => ∃ v : Int, r = some (.inl v) ∧ m' = m ∧ ((v = 1 ∧ (0 ≤ i ∧ i < m.1 1 (4 : Nat) ∧ m.1 1 (4 : Nat) ≤ 32 ∧ ¬ m.1 2 i = 10 ∧ ¬ m.1 2 i = 12 ∧ ¬ m.1 2 i = 18)) ∨ (v = 0 ∧ (i < 0 ∨ m.1 1 (4 : Nat) ≤ i ∨ m.1 2 i = 10 ∨ m.1 2 i = 12 ∨ m.1 2 i = 18)))) := by
  refine wC.gen fun Q hQ => wk_E hZ (by exact rfl) [] rfl (fun _ _ => trivial) fun hr hs => ?_
  have e1 : ab_lo = -2147483648 := rfl
  have e2 : ab_hi = 2147483647 := rfl
  repeat' first | refine And.intro ?_ ?_ | intro _ | refine Or.inl ⟨by omega, by omega, ?_⟩ | refine Or.inr ?_ | exact trivial | (refine wk_use (k45 hZ _ _) rfl rfl ?_; rintro - _ _ - - - ⟨_, rfl, rfl, _⟩; refine Or.inl ⟨[], rfl, ?_⟩)
  all_goals first | omega | exact hQ _ _ ⟨_, rfl, rfl, by omega⟩

set_option maxRecDepth 20000 in
theorem k33 {Z : sm_Z} (hZ : Z.2.2.2 = tb_N) (m : wk_M) (i : Int) : wC Z 1 33 [] [.inr (.inl 1), .inl i] m (fun r m' => ∃ v : Int, r = some (.inl v) ∧ m' = m ∧ ((v = 1 ∧ (0 ≤ i ∧ i < m.1 1 (4 : Nat) ∧ m.1 1 (4 : Nat) ≤ 32 ∧ 13 ≤ m.1 2 i ∧ m.1 2 i ≤ 16)) ∨ (v = 0 ∧ (i < 0 ∨ m.1 1 (4 : Nat) ≤ i ∨ m.1 2 i < 13 ∨ 16 < m.1 2 i)))) := by
  refine wC.gen fun Q hQ => wk_E hZ (by exact rfl) [] rfl (fun _ _ => trivial) fun hr hs => ?_
  have e1 : ab_lo = -2147483648 := rfl
  have e2 : ab_hi = 2147483647 := rfl
  repeat' first | refine And.intro ?_ ?_ | intro _ | refine Or.inl ⟨by omega, by omega, ?_⟩ | refine Or.inr ?_ | exact trivial
  all_goals first | omega | exact hQ _ _ ⟨_, rfl, rfl, by omega⟩

set_option maxRecDepth 20000 in
theorem k34 {Z : sm_Z} (hZ : Z.2.2.2 = tb_N) (m : wk_M) (i : Int) (i0 : 0 ≤ i) (i1 : i ≤ 31) : wC Z 1 34 [] [.inr (.inl 1), .inl i] m (fun r m' => ∃ v : Int, r = some (.inl v) ∧ m' = m ∧ v = m.1 2 i - 13) := by
  refine wC.gen fun Q hQ => wk_E hZ (by exact rfl) [] rfl (fun _ _ => trivial) fun hr hs => ?_
  have e1 : ab_lo = -2147483648 := rfl
  have e2 : ab_hi = 2147483647 := rfl
  repeat' first | refine And.intro ?_ ?_ | intro _ | refine Or.inl ⟨by omega, by omega, ?_⟩ | refine Or.inr ?_ | exact trivial
  all_goals first | omega | exact hQ _ _ ⟨_, rfl, rfl, by omega⟩

set_option maxRecDepth 20000 in
theorem k119 {Z : sm_Z} (hZ : Z.2.2.2 = tb_N) (m : wk_M) (i : Int) (i0 : 0 ≤ i) (i1 : i ≤ 31) : wC Z 1 119 [] [.inr (.inl 28), .inl i] m (fun r m' => ∃ v : Int, r = some (.inl v) ∧ m' = m ∧ ((v = 1 ∧ (m.1 2 i = 9 ∨ m.1 2 i = 11)) ∨ (v = 0 ∧ (¬ m.1 2 i = 9 ∧ ¬ m.1 2 i = 11)))) := by
  refine wC.gen fun Q hQ => wk_E hZ (by exact rfl) [] rfl (fun _ _ => trivial) fun hr hs => ?_
  have e1 : ab_lo = -2147483648 := rfl
  have e2 : ab_hi = 2147483647 := rfl
  repeat' first | refine And.intro ?_ ?_ | intro _ | refine Or.inl ⟨by omega, by omega, ?_⟩ | refine Or.inr ?_ | exact trivial
  all_goals first | omega | exact hQ _ _ ⟨_, rfl, rfl, by omega⟩

set_option maxRecDepth 20000 in
theorem k39 {Z : sm_Z} (hZ : Z.2.2.2 = tb_N) (m : wk_M) (i : Int) (i0 : 0 ≤ i) (i1 : i ≤ 31) : wC Z 1 39 [] [.inr (.inl 1), .inl i] m (fun r m' => ∃ v : Int, r = some (.inl v) ∧ m' = m ∧ ((m.1 7 i = -1 ∧ v = m.1 8 i) ∨ (¬ m.1 7 i = -1 ∧ v = m.1 7 i + 1))) := by
  refine wC.gen fun Q hQ => wk_E hZ (by exact rfl) [] rfl (fun _ _ => trivial) fun hr hs => ?_
  have e1 : ab_lo = -2147483648 := rfl
  have e2 : ab_hi = 2147483647 := rfl
  repeat' first | refine And.intro ?_ ?_ | intro _ | refine Or.inl ⟨by omega, by omega, ?_⟩ | refine Or.inr ?_ | exact trivial
  all_goals first | omega | exact hQ _ _ ⟨_, rfl, rfl, by omega⟩

set_option maxRecDepth 20000 in
theorem k40 {Z : sm_Z} (hZ : Z.2.2.2 = tb_N) (m : wk_M) (i : Int) (i0 : 0 ≤ i) (i1 : i ≤ 31) (h : 0 ≤ m.1 6 i) : wC Z 1 40 [] [.inr (.inl 1), .inl i] m (fun r m' => ∃ v : Int, r = some (.inl v) ∧ m' = m ∧ ((m.1 2 i = 10 ∧ v = m.1 8 (m.1 6 i)) ∨ (¬ m.1 2 i = 10 ∧ m.1 2 (m.1 6 i) = 11 ∧ v = m.1 6 i) ∨ (¬ m.1 2 i = 10 ∧ ¬ m.1 2 (m.1 6 i) = 11 ∧ v = i + 1))) := by
  refine wC.gen fun Q hQ => wk_E hZ (by exact rfl) [] rfl (fun _ _ => trivial) fun hr hs => ?_
  have e1 : ab_lo = -2147483648 := rfl
  have e2 : ab_hi = 2147483647 := rfl
  repeat' first | refine And.intro ?_ ?_ | intro _ | refine Or.inl ⟨by omega, by omega, ?_⟩ | refine Or.inr ?_ | exact trivial
  all_goals first | omega | exact hQ _ _ ⟨_, rfl, rfl, by omega⟩

set_option maxRecDepth 20000 in
theorem k118 {Z : sm_Z} (hZ : Z.2.2.2 = tb_N) (m : wk_M) (x : Int) (x0 : 0 ≤ x) (x1 : x ≤ 3) (h0 : 0 ≤ m.1 28 (7 : Nat)) (h1 : m.1 28 (7 : Nat) ≤ 6) : wC Z 1 118 [] [.inr (.inl 28), .inl x] m (fun r m' => ∃ v : Int, r = some (.inl v) ∧ m' = m ∧ v = m.1 35 (m.1 28 (7 : Nat) * 4 + x)) := by
  refine wC.gen fun Q hQ => wk_E hZ (by exact rfl) [] rfl (fun _ _ => trivial) fun hr hs => ?_
  have e1 : ab_lo = -2147483648 := rfl
  have e2 : ab_hi = 2147483647 := rfl
  repeat' first | refine And.intro ?_ ?_ | intro _ | refine Or.inl ⟨by omega, by omega, ?_⟩ | refine Or.inr ?_ | exact trivial
  all_goals first | omega | exact hQ _ _ ⟨_, rfl, rfl, by omega⟩

set_option maxRecDepth 20000 in
theorem k115 {Z : sm_Z} (hZ : Z.2.2.2 = tb_N) (m : wk_M) (x : Int) (x0 : 0 ≤ x) (x1 : x ≤ 3) (y : Int) (h0 : 0 ≤ m.1 28 (7 : Nat)) (h1 : m.1 28 (7 : Nat) ≤ 6) : wC Z 1 115 [35] [.inr (.inl 28), .inl x, .inl y] m (fun r m' => r = none ∧ m' = wk_u m 35 (m.1 28 (7 : Nat) * 4 + x) y) := by
  refine wC.gen fun Q hQ => wk_E hZ (by exact rfl) [] rfl (fun _ _ => trivial) fun hr hs => ?_
  have e1 : ab_lo = -2147483648 := rfl
  have e2 : ab_hi = 2147483647 := rfl
  obtain ⟨-, -, ⟨y0, y1⟩, -⟩ := hs
  repeat' first | refine And.intro ?_ ?_ | intro _ | refine Or.inl ⟨by omega, by omega, ?_⟩ | refine Or.inr ?_ | exact trivial
  all_goals first | omega | exact hQ _ _ ⟨rfl, rfl⟩

set_option maxRecDepth 20000 in
theorem k124 {Z : sm_Z} (hZ : Z.2.2.2 = tb_N) (m : wk_M) (y : Int) (h : m.1 29 (1 : Nat) < 1000000) : wC Z 1 124 [29, 30] [.inr (.inl 29), .inl y] m (fun r m' => r = none ∧ m'.1 29 (1 : Nat) = m.1 29 (1 : Nat) + 1) := by
  refine wC.gen fun Q hQ => wk_E hZ (by exact rfl) [] rfl (fun _ _ => trivial) fun hr hs => ?_
  have e1 : ab_lo = -2147483648 := rfl
  have e2 : ab_hi = 2147483647 := rfl
  obtain ⟨-, ⟨y0, y1⟩, -⟩ := hs
  repeat' first | refine And.intro ?_ ?_ | intro _ | refine Or.inl ⟨by omega, by omega, ?_⟩ | refine Or.inr ?_ | exact trivial
  all_goals first | omega | (simp (decide := true) only [wk_u_at, wk_ul_1, and_self, and_true, true_and, and_false, false_and, if_true, if_false] <;> (repeat' split) <;> omega) | exact hQ _ _ ⟨rfl, by simp (decide := true) only [wk_u_at, wk_ul_1, and_self, and_true, true_and, and_false, false_and, if_true, if_false] <;> (repeat' split) <;> omega⟩

set_option maxRecDepth 20000 in
theorem k125 {Z : sm_Z} (hZ : Z.2.2.2 = tb_N) (m : wk_M) (c : Int) (c0 : 0 ≤ c) (c1 : c ≤ 3) (y : Int) (h : m.1 32 c < 1000000) : wC Z 1 125 [31, 32] [.inr (.inl 29), .inl c, .inl y] m (fun r m' => r = none ∧ (∀ j, m'.1 32 j = if j = c then m.1 32 c + 1 else m.1 32 j) ∧ ∀ j, m.1 32 j ≤ m'.1 32 j ∧ m'.1 32 j ≤ m.1 32 j + 1) := by
  refine wC.gen fun Q hQ => wk_E hZ (by exact rfl) [] rfl (fun _ _ => trivial) fun hr hs => ?_
  have e1 : ab_lo = -2147483648 := rfl
  have e2 : ab_hi = 2147483647 := rfl
  obtain ⟨-, -, ⟨y0, y1⟩, -⟩ := hs
  repeat' first | refine And.intro ?_ ?_ | intro _ | refine Or.inl ⟨by omega, by omega, ?_⟩ | refine Or.inr ?_ | exact trivial
  all_goals first | omega | (simp (decide := true) only [wk_u_at, wk_ul_1, and_self, and_true, true_and, and_false, false_and, if_true, if_false] <;> (repeat' split) <;> omega) | exact hQ _ _ ⟨rfl, fun j => by simp (decide := true) only [wk_u_at, wk_ul_1, and_self, and_true, true_and, and_false, false_and, if_true, if_false] <;> (repeat' split) <;> (try subst_vars) <;> omega, fun j => by simp (decide := true) only [wk_u_at, wk_ul_1, and_self, and_true, true_and, and_false, false_and, if_true, if_false] <;> (repeat' split) <;> (try subst_vars) <;> omega⟩
