set_option maxHeartbeats 8000000 in
set_option maxRecDepth 20000 in
theorem k167x {Z : sm_Z} (hZ : Z.2.2.2 = tb_N) (m : wk_M) (n x : Int) (n0 : 0 ≤ n) (n1 : n ≤ 35) (x0 : 0 ≤ x) (x1 : x ≤ 35) : wC Z 1 167 [] [.inr (.inl 46), .inl n, .inl x] m (fun r m' => ∃ v : Int, r = some (.inl v) ∧ m' = m ∧ ((v = 1 ∧ fX (m.2 59 n) x) ∨ (v = 0 ∧ ¬ fX (m.2 59 n) x))) := by
  refine wC.gen fun Q hQ => wk_E hZ (by exact rfl) [] rfl (fun _ _ => trivial) fun hr hs => ?_
  have e1 : ab_lo = -2147483648 := rfl
  have e2 : ab_hi = 2147483647 := rfl
  repeat' first | refine And.intro ?_ ?_ | intro _ | refine Or.inl ⟨by omega, by omega, ?_⟩ | refine Or.inr ?_ | exact trivial
  all_goals first | omega | exact hQ _ _ ⟨_, rfl, rfl, Or.inl ⟨rfl, (fX_cmp x0 (by omega) (by assumption)).mp (by omega)⟩⟩ | exact hQ _ _ ⟨_, rfl, rfl, Or.inr ⟨rfl, fun q => absurd ((fX_cmp x0 (by omega) (by assumption)).mpr q) (by omega)⟩⟩

set_option maxHeartbeats 8000000 in
set_option maxRecDepth 20000 in
theorem k166x {Z : sm_Z} (hZ : Z.2.2.2 = tb_N) (m : wk_M) (n x : Int) (n0 : 0 ≤ n) (n1 : n ≤ 251) (x0 : 0 ≤ x) (x1 : x ≤ 251) : wC Z 2 166 [] [.inr (.inl 46), .inl n, .inl x] m (fun r m' => ∃ v : Int, r = some (.inl v) ∧ m' = m ∧ ((v = 1 ∧ hep m.1 m.2 n x) ∨ (v = 0 ∧ ¬ hep m.1 m.2 n x))) := by
  refine wC.gen fun Q hQ => wk_E hZ (by exact rfl) [] rfl (fun _ _ => trivial) fun hr hs => ?_
  have e1 : ab_lo = -2147483648 := rfl
  have e2 : ab_hi = 2147483647 := rfl
  have ha := aT_r n
  have hp := pT_r n
  have hl := rL_r n
  have hax := aT_r x
  have hpx := pT_r x
  have hlx := rL_r x
  obtain ⟨t, ht⟩ := prI (fX (m.2 59 (aT x)) (aT n))
  repeat' first | (intro h; exact absurd h (by decide)) | (intro h; exact absurd rfl h) | (intro _; exfalso; omega) | refine And.intro ?_ ?_ | intro _ | refine Or.inl ⟨by omega, by omega, ?_⟩ | refine Or.inr ?_ | exact trivial | (refine wk_use (k156x hZ _ _ (by omega) (by omega)) rfl rfl ?_; rintro - _ _ - - - ⟨_, rfl, hm, rfl⟩; refine Or.inl ⟨[], hm, ?_⟩; clear hm) | (refine wk_use (k159x hZ _ _ (by omega) (by omega)) rfl rfl ?_; rintro - _ _ - - - ⟨_, rfl, hm, rfl⟩; refine Or.inl ⟨[], hm, ?_⟩; clear hm) | (refine wk_use (k160x hZ _ _ (by omega) (by omega)) rfl rfl ?_; rintro - _ _ - - - ⟨_, rfl, hm, rfl⟩; refine Or.inl ⟨[], hm, ?_⟩; clear hm) | (refine wk_use (k167x hZ _ _ _ (by omega) (by omega) (by omega) (by omega)) rfl rfl ?_; rintro - _ _ - - - ⟨_, rfl, hm, ⟨rfl, hx⟩ | ⟨rfl, hx⟩⟩ <;> (rw [ht] at hx) <;> refine Or.inl ⟨[], hm, ?_⟩ <;> clear hm)
  all_goals first | omega | exact hQ _ _ ⟨_, rfl, rfl, by unfold hep wrt lks; rw [ht]; omega⟩

set_option maxHeartbeats 8000000 in
set_option maxRecDepth 20000 in
theorem k168x {Z : sm_Z} (hZ : Z.2.2.2 = tb_N) (m : wk_M) (n x : Int) (n0 : 0 ≤ n) (n1 : n ≤ 251) (x0 : 0 ≤ x) (x1 : x ≤ 251) : wC Z 2 168 [] [.inr (.inl 46), .inl n, .inl x] m (fun r m' => ∃ v : Int, r = some (.inl v) ∧ m' = m ∧ ((v = 1 ∧ hal m.1 m.2 n x) ∨ (v = 0 ∧ ¬ hal m.1 m.2 n x))) := by
  refine wC.gen fun Q hQ => wk_E hZ (by exact rfl) [] rfl (fun _ _ => trivial) fun hr hs => ?_
  have e1 : ab_lo = -2147483648 := rfl
  have e2 : ab_hi = 2147483647 := rfl
  have ha := aT_r n
  have hp := pT_r n
  have hl := rL_r n
  have hax := aT_r x
  have hpx := pT_r x
  have hlx := rL_r x
  obtain ⟨t, ht⟩ := prI (fX (m.2 59 (aT x)) (aT n))
  repeat' first | (intro h; exact absurd h (by decide)) | (intro h; exact absurd rfl h) | (intro _; exfalso; omega) | refine And.intro ?_ ?_ | intro _ | refine Or.inl ⟨by omega, by omega, ?_⟩ | refine Or.inr ?_ | exact trivial | (refine wk_use (k156x hZ _ _ (by omega) (by omega)) rfl rfl ?_; rintro - _ _ - - - ⟨_, rfl, hm, rfl⟩; refine Or.inl ⟨[], hm, ?_⟩; clear hm) | (refine wk_use (k159x hZ _ _ (by omega) (by omega)) rfl rfl ?_; rintro - _ _ - - - ⟨_, rfl, hm, rfl⟩; refine Or.inl ⟨[], hm, ?_⟩; clear hm) | (refine wk_use (k160x hZ _ _ (by omega) (by omega)) rfl rfl ?_; rintro - _ _ - - - ⟨_, rfl, hm, rfl⟩; refine Or.inl ⟨[], hm, ?_⟩; clear hm) | (refine wk_use (k167x hZ _ _ _ (by omega) (by omega) (by omega) (by omega)) rfl rfl ?_; rintro - _ _ - - - ⟨_, rfl, hm, ⟨rfl, hx⟩ | ⟨rfl, hx⟩⟩ <;> (rw [ht] at hx) <;> refine Or.inl ⟨[], hm, ?_⟩ <;> clear hm)
  all_goals first | omega | exact hQ _ _ ⟨_, rfl, rfl, by unfold hal stp; rw [ht]; omega⟩

