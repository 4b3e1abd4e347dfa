set_option maxHeartbeats 8000000 in
set_option maxRecDepth 20000 in
theorem k161x {Z : sm_Z} (hZ : Z.2.2.2 = tb_N) (m : wk_M) (n : Int) (n0 : 0 ≤ n) (n1 : n ≤ 251) (x : Int) : wC Z 2 161 [] [.inr (.inl 46), .inl n, .inl x] m (fun r m' => ∃ v : Int, r = some (.inl v) ∧ m' = m ∧ ((v = 1 ∧ rdr m.1 n x) ∨ (v = 0 ∧ ¬ rdr m.1 n x))) := by
  refine wC.gen fun Q hQ => wk_E hZ (by exact rfl) [] rfl (fun _ _ => trivial) fun hr hs => ?_
  have e1 : ab_lo = -2147483648 := rfl
  have e2 : ab_hi = 2147483647 := rfl
  have ha := aT_r n
  have hp := pT_r n
  have hl := rL_r n
  repeat' first | (intro h; exact absurd h (by decide)) | (intro h; exact absurd rfl h) | (intro _; exfalso; omega) | refine And.intro ?_ ?_ | intro _ | refine Or.inl ⟨by omega, by omega, ?_⟩ | refine Or.inr ?_ | exact trivial | (refine wk_use (k156x hZ _ _ (by omega) (by omega)) rfl rfl ?_; rintro - _ _ - - - ⟨_, rfl, hm, rfl⟩; refine Or.inl ⟨[], hm, ?_⟩; clear hm) | (refine wk_use (k159x hZ _ _ (by omega) (by omega)) rfl rfl ?_; rintro - _ _ - - - ⟨_, rfl, hm, rfl⟩; refine Or.inl ⟨[], hm, ?_⟩; clear hm) | (refine wk_use (k160x hZ _ _ (by omega) (by omega)) rfl rfl ?_; rintro - _ _ - - - ⟨_, rfl, hm, rfl⟩; refine Or.inl ⟨[], hm, ?_⟩; clear hm)
  all_goals first | omega | exact hQ _ _ ⟨_, rfl, rfl, by unfold rdr fs1 fs2; omega⟩

set_option maxHeartbeats 8000000 in
set_option maxRecDepth 20000 in
theorem k157x {Z : sm_Z} (hZ : Z.2.2.2 = tb_N) (m : wk_M) (n x : Int) (n0 : 0 ≤ n) (n1 : n ≤ 251) (x0 : 0 ≤ x) (x1 : x ≤ 251) : wC Z 2 157 [] [.inr (.inl 46), .inl n, .inl x] m (fun r m' => ∃ v : Int, r = some (.inl v) ∧ m' = m ∧ ((v = 1 ∧ ctl m.1 n x) ∨ (v = 0 ∧ ¬ ctl m.1 n x))) := by
  refine wC.gen fun Q hQ => wk_E hZ (by exact rfl) [] rfl (fun _ _ => trivial) fun hr hs => ?_
  have e1 : ab_lo = -2147483648 := rfl
  have e2 : ab_hi = 2147483647 := rfl
  have ha := aT_r n
  have hp := pT_r n
  have hl := rL_r n
  repeat' first | (intro h; exact absurd h (by decide)) | (intro h; exact absurd rfl h) | (intro _; exfalso; omega) | refine And.intro ?_ ?_ | intro _ | refine Or.inl ⟨by omega, by omega, ?_⟩ | refine Or.inr ?_ | exact trivial | (refine wk_use (k156x hZ _ _ (by omega) (by omega)) rfl rfl ?_; rintro - _ _ - - - ⟨_, rfl, hm, rfl⟩; refine Or.inl ⟨[], hm, ?_⟩; clear hm)
  all_goals first | omega | exact hQ _ _ ⟨_, rfl, rfl, by unfold ctl; omega⟩

