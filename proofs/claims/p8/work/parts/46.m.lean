/-! what the small methods of the class answer -/
set_option maxHeartbeats 8000000 in
set_option maxRecDepth 20000 in
theorem k15 {Z : sm_Z} (hZ : Z.2.2.2 = tb_N) (m : wk_M) (x : Int) : wC Z 1 15 [] [.inl x] m (fun r m' => ∃ v : Int, r = some (.inl v) ∧ m' = m ∧ ((v = 1 ∧ (0 ≤ x ∧ x ≤ 3)) ∨ (v = 0 ∧ (x < 0 ∨ 3 < x)))) := by
  refine wC.gen fun Q hQ => wk_E hZ (by exact rfl) [] rfl (fun _ _ => trivial) fun hr hs => ?_
  have e1 : ab_lo = -2147483648 := rfl
  have e2 : ab_hi = 2147483647 := rfl
  repeat' first | refine And.intro ?_ ?_ | intro _ | refine Or.inl ⟨by omega, by omega, ?_⟩ | refine Or.inr ?_ | exact trivial
  all_goals first | omega | exact hQ _ _ ⟨_, rfl, rfl, by omega⟩

set_option maxHeartbeats 8000000 in
set_option maxRecDepth 20000 in
theorem k14 {Z : sm_Z} (hZ : Z.2.2.2 = tb_N) (m : wk_M) (x : Int) : wC Z 1 14 [] [.inl x] m (fun r m' => ∃ v : Int, r = some (.inl v) ∧ m' = m ∧ ((v = 1 ∧ (13 ≤ x ∧ x ≤ 16)) ∨ (v = 0 ∧ (x < 13 ∨ 16 < x)))) := by
  refine wC.gen fun Q hQ => wk_E hZ (by exact rfl) [] rfl (fun _ _ => trivial) fun hr hs => ?_
  have e1 : ab_lo = -2147483648 := rfl
  have e2 : ab_hi = 2147483647 := rfl
  repeat' first | refine And.intro ?_ ?_ | intro _ | refine Or.inl ⟨by omega, by omega, ?_⟩ | refine Or.inr ?_ | exact trivial
  all_goals first | omega | exact hQ _ _ ⟨_, rfl, rfl, by omega⟩

def nD (o : Int) : Prop := o ≤ 7 ∨ (13 ≤ o ∧ o ≤ 16) ∨ o = 17
def nA (o : Int) : Prop := (1 ≤ o ∧ o ≤ 9) ∨ o = 11 ∨ (13 ≤ o ∧ o ≤ 16) ∨ o = 17
def nB (o : Int) : Prop := (1 ≤ o ∧ o ≤ 5) ∨ o = 8 ∨ (13 ≤ o ∧ o ≤ 16)
set_option maxHeartbeats 8000000 in
set_option maxRecDepth 20000 in
theorem k13 {Z : sm_Z} (hZ : Z.2.2.2 = tb_N) (m : wk_M) (x : Int) : wC Z 2 13 [] [.inl x] m (fun r m' => ∃ v : Int, r = some (.inl v) ∧ m' = m ∧ ((v = 1 ∧ nD x) ∨ (v = 0 ∧ ¬ nD x))) := by
  refine wC.gen fun Q hQ => wk_E hZ (by exact rfl) [] rfl (fun _ _ => trivial) fun hr hs => ?_
  have e1 : ab_lo = -2147483648 := rfl
  have e2 : ab_hi = 2147483647 := rfl
  repeat' first | refine And.intro ?_ ?_ | intro _ | refine Or.inl ⟨by omega, by omega, ?_⟩ | refine Or.inr ?_ | exact trivial | (refine wk_use (k14 hZ _ _) rfl rfl ?_; rintro - _ _ - - - ⟨_, rfl, rfl, _⟩; refine Or.inl ⟨[], rfl, ?_⟩)
  all_goals first | omega | exact hQ _ _ ⟨_, rfl, rfl, by unfold nD; omega⟩

set_option maxHeartbeats 8000000 in
set_option maxRecDepth 20000 in
theorem k16 {Z : sm_Z} (hZ : Z.2.2.2 = tb_N) (m : wk_M) (x : Int) : wC Z 2 16 [] [.inl x] m (fun r m' => ∃ v : Int, r = some (.inl v) ∧ m' = m ∧ ((v = 1 ∧ nA x) ∨ (v = 0 ∧ ¬ nA x))) := by
  refine wC.gen fun Q hQ => wk_E hZ (by exact rfl) [] rfl (fun _ _ => trivial) fun hr hs => ?_
  have e1 : ab_lo = -2147483648 := rfl
  have e2 : ab_hi = 2147483647 := rfl
  repeat' first | refine And.intro ?_ ?_ | intro _ | refine Or.inl ⟨by omega, by omega, ?_⟩ | refine Or.inr ?_ | exact trivial | (refine wk_use (k14 hZ _ _) rfl rfl ?_; rintro - _ _ - - - ⟨_, rfl, rfl, _⟩; refine Or.inl ⟨[], rfl, ?_⟩)
  all_goals first | omega | exact hQ _ _ ⟨_, rfl, rfl, by unfold nA; omega⟩

set_option maxHeartbeats 8000000 in
set_option maxRecDepth 20000 in
theorem k17 {Z : sm_Z} (hZ : Z.2.2.2 = tb_N) (m : wk_M) (x : Int) : wC Z 2 17 [] [.inl x] m (fun r m' => ∃ v : Int, r = some (.inl v) ∧ m' = m ∧ ((v = 1 ∧ nB x) ∨ (v = 0 ∧ ¬ nB x))) := by
  refine wC.gen fun Q hQ => wk_E hZ (by exact rfl) [] rfl (fun _ _ => trivial) fun hr hs => ?_
  have e1 : ab_lo = -2147483648 := rfl
  have e2 : ab_hi = 2147483647 := rfl
  repeat' first | refine And.intro ?_ ?_ | intro _ | refine Or.inl ⟨by omega, by omega, ?_⟩ | refine Or.inr ?_ | exact trivial | (refine wk_use (k14 hZ _ _) rfl rfl ?_; rintro - _ _ - - - ⟨_, rfl, rfl, _⟩; refine Or.inl ⟨[], rfl, ?_⟩)
  all_goals first | omega | exact hQ _ _ ⟨_, rfl, rfl, by unfold nB; omega⟩

def okA (x d a b : Int) : Prop := (0 ≤ x ∧ x ≤ 18) ∧ (nD x → 0 ≤ d ∧ d ≤ 3) ∧ (nA x → 0 ≤ a ∧ a ≤ 3) ∧ (nB x → 0 ≤ b ∧ b ≤ 3)
set_option maxHeartbeats 8000000 in
set_option maxRecDepth 20000 in
theorem k12 {Z : sm_Z} (hZ : Z.2.2.2 = tb_N) (m : wk_M) (x d a b : Int) : wC Z 3 12 [] [.inr (.inl 1), .inl x, .inl d, .inl a, .inl b] m (fun r m' => ∃ v : Int, r = some (.inl v) ∧ m' = m ∧ ((v = 1 ∧ okA x d a b) ∨ (v = 0 ∧ ¬ okA x d a b))) := by
  refine wC.gen fun Q hQ => wk_E hZ (by exact rfl) [] rfl (fun _ _ => trivial) fun hr hs => ?_
  have e1 : ab_lo = -2147483648 := rfl
  have e2 : ab_hi = 2147483647 := rfl
  repeat' first | refine And.intro ?_ ?_ | intro _ | refine Or.inl ⟨by omega, by omega, ?_⟩ | refine Or.inr ?_ | exact trivial | (refine wk_use (k13 hZ _ _) rfl rfl ?_; rintro - _ _ - - - ⟨_, rfl, rfl, _⟩; refine Or.inl ⟨[], rfl, ?_⟩) | (refine wk_use (k15 hZ _ _) rfl rfl ?_; rintro - _ _ - - - ⟨_, rfl, rfl, _⟩; refine Or.inl ⟨[], rfl, ?_⟩) | (refine wk_use (k16 hZ _ _) rfl rfl ?_; rintro - _ _ - - - ⟨_, rfl, rfl, _⟩; refine Or.inl ⟨[], rfl, ?_⟩) | (refine wk_use (k17 hZ _ _) rfl rfl ?_; rintro - _ _ - - - ⟨_, rfl, rfl, _⟩; refine Or.inl ⟨[], rfl, ?_⟩)
  all_goals first | omega | exact hQ _ _ ⟨_, rfl, rfl, by unfold okA; unfold nD nA nB at *; omega⟩
