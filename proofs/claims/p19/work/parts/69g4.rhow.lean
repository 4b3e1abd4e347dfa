set_option maxHeartbeats 8000000 in
set_option maxRecDepth 20000 in
theorem k165x {Z : sm_Z} (hZ : Z.2.2.2 = tb_N) (m : wk_M) (x n : Int) (n0 : 0 ≤ n) (n1 : n ≤ 31) (ho : m.1 47 n ≤ 7 ∨ (13 ≤ m.1 47 n ∧ m.1 47 n ≤ 16)) (y : Int) (y0 : 0 ≤ y) (y1 : y ≤ 35) : wC Z 4 165 [] [.inr (.inl 46), .inl x, .inl n, .inl y] m (fun r m' => ∃ v : Int, r = some (.inl v) ∧ m' = m ∧ ((v = 1 ∧ arv m.1 x n y) ∨ (v = 0 ∧ ¬ arv m.1 x n y))) := by
  refine wC.gen fun Q hQ => wk_E hZ (by exact rfl) [] rfl (fun _ _ => trivial) fun hr hs => ?_
  have e1 : ab_lo = -2147483648 := rfl
  have e2 : ab_hi = 2147483647 := rfl
  have hp3 : 0 ≤ m.1 53 n := (rg_53 hr n0).1
  repeat' first | refine And.intro ?_ ?_ | intro _ | refine Or.inl ⟨by omega, by omega, ?_⟩ | refine Or.inr ?_ | exact trivial | (refine wk_use (k150x hZ _ _ 0 (by omega) (by omega) (by decide) (by decide)) rfl rfl ?_; rintro - _ _ - - - ⟨_, rfl, hm, hv1, hv⟩; refine Or.inl ⟨[], hm, ?_⟩; clear hm) | (refine wk_use (k163x hZ _ _ _ (fN_1 (wy0_pos hv n0 (by omega) ho hp3) hv1.2)) rfl rfl ?_; rintro - _ _ - - - ⟨_, rfl, hm, hz⟩; refine Or.inl ⟨[], hm, ?_⟩; clear hm)
  all_goals first | omega | exact hQ _ _ ⟨_, rfl, rfl, Or.inl ⟨rfl, ((hz y).trans (rs_iff (fun _ _ => Iff.rfl) (fun j => (fX_one (wy0_pos hv n0 (by omega) ho hp3) (by omega)).trans ⟨fun e => e ▸ hv, fun q => wy_fun q hv⟩) (fun _ => Iff.rfl) y)).mp ((fX_cmp y0 (by omega) (by assumption)).mp (by omega))⟩⟩ | exact hQ _ _ ⟨_, rfl, rfl, Or.inr ⟨rfl, fun q => absurd ((fX_cmp y0 (by omega) (by assumption)).mpr (((hz y).trans (rs_iff (fun _ _ => Iff.rfl) (fun j => (fX_one (wy0_pos hv n0 (by omega) ho hp3) (by omega)).trans ⟨fun e => e ▸ hv, fun q => wy_fun q hv⟩) (fun _ => Iff.rfl) y)).mpr q)) (by omega)⟩⟩

set_option maxHeartbeats 8000000 in
set_option maxRecDepth 20000 in
theorem k162x {Z : sm_Z} (hZ : Z.2.2.2 = tb_N) (m : wk_M) (x p : Int) (p0 : 0 ≤ p) (p1 : p ≤ 3) (y : Int) (y0 : 0 ≤ y) (y1 : y ≤ 35) : wC Z 4 162 [] [.inr (.inl 46), .inl x, .inl p, .inl y] m (fun r m' => ∃ v : Int, r = some (.inl v) ∧ m' = m ∧ ((v = 1 ∧ frb m.1 x p y) ∨ (v = 0 ∧ ¬ frb m.1 x p y))) := by
  refine wC.gen fun Q hQ => wk_E hZ (by exact rfl) [] rfl (fun _ _ => trivial) fun hr hs => ?_
  have e1 : ab_lo = -2147483648 := rfl
  have e2 : ab_hi = 2147483647 := rfl
  repeat' first | refine And.intro ?_ ?_ | intro _ | refine Or.inl ⟨by omega, by omega, ?_⟩ | refine Or.inr ?_ | exact trivial | (refine wk_use (k163x hZ _ _ _ (fN_1 (by omega) (by omega))) rfl rfl ?_; rintro - _ _ - - - ⟨_, rfl, hm, hz⟩; refine Or.inl ⟨[], hm, ?_⟩; clear hm)
  all_goals first | omega | exact hQ _ _ ⟨_, rfl, rfl, Or.inl ⟨rfl, ((hz y).trans (rs_iff (fun _ _ => Iff.rfl) (fun j => (fX_one (by omega) (by omega)).trans (by unfold bgS; omega)) (fun _ => Iff.rfl) y)).mp ((fX_cmp y0 (by omega) (by assumption)).mp (by omega))⟩⟩ | exact hQ _ _ ⟨_, rfl, rfl, Or.inr ⟨rfl, fun q => absurd ((fX_cmp y0 (by omega) (by assumption)).mpr (((hz y).trans (rs_iff (fun _ _ => Iff.rfl) (fun j => (fX_one (by omega) (by omega)).trans (by unfold bgS; omega)) (fun _ => Iff.rfl) y)).mpr q)) (by omega)⟩⟩

set_option maxHeartbeats 8000000 in
set_option maxRecDepth 20000 in
theorem k158x {Z : sm_Z} (hZ : Z.2.2.2 = tb_N) (m : wk_M) (n x : Int) (n0 : 0 ≤ n) (n1 : n ≤ 251) (x0 : 0 ≤ x) (x1 : x ≤ 251) (hxs : xsR m.1 x) : wC Z 5 158 [] [.inr (.inl 46), .inl n, .inl x] m (fun r m' => ∃ v : Int, r = some (.inl v) ∧ m' = m ∧ ((v = 1 ∧ dat m.1 n x) ∨ (v = 0 ∧ ¬ dat m.1 n x))) := by
  refine wC.gen fun Q hQ => wk_E hZ (by exact rfl) [] rfl (fun _ _ => trivial) fun hr hs => ?_
  have e1 : ab_lo = -2147483648 := rfl
  have e2 : ab_hi = 2147483647 := rfl
  have ha := aT_r n
  have hp := pT_r n
  have hl := rL_r n
  have hax := aT_r x
  have hpx := pT_r x
  have hlx := rL_r x
  have hpr := prR_r m.1 n
  obtain ⟨t1, h1⟩ := prI (rdr m.1 n (rL x - 1))
  obtain ⟨t2, h2⟩ := prI (rdr m.1 n (m.1 48 (aT x)))
  obtain ⟨t3, h3⟩ := prI (frb m.1 (rL x - 1) (prR m.1 n) (aT n))
  obtain ⟨t4, h4⟩ := prI (arv m.1 (m.1 48 (aT x)) (aT x) (aT n))
  repeat' first | (intro h; exact absurd h (by decide)) | (intro h; exact absurd rfl h) | (intro _; exfalso; omega) | refine And.intro ?_ ?_ | intro _ | refine Or.inl ⟨by omega, by omega, ?_⟩ | refine Or.inr ?_ | exact trivial | (refine wk_use (k156x hZ _ _ (by omega) (by omega)) rfl rfl ?_; rintro - _ _ - - - ⟨_, rfl, hm, rfl⟩; refine Or.inl ⟨[], hm, ?_⟩; clear hm) | (refine wk_use (k159x hZ _ _ (by omega) (by omega)) rfl rfl ?_; rintro - _ _ - - - ⟨_, rfl, hm, rfl⟩; refine Or.inl ⟨[], hm, ?_⟩; clear hm) | (refine wk_use (k160x hZ _ _ (by omega) (by omega)) rfl rfl ?_; rintro - _ _ - - - ⟨_, rfl, hm, rfl⟩; refine Or.inl ⟨[], hm, ?_⟩; clear hm) | (refine wk_use (k161x hZ _ _ (by omega) (by omega) _) rfl rfl ?_; rintro - _ _ - - - ⟨_, rfl, hm, ⟨rfl, hrd⟩ | ⟨rfl, hrd⟩⟩ <;> (first | rw [h1] at hrd | rw [h2] at hrd) <;> refine Or.inl ⟨[], hm, ?_⟩ <;> clear hm) | (refine wk_use (k155x hZ _ _ (by omega) (by omega)) rfl rfl ?_; rintro - _ _ - - - ⟨_, rfl, hm, rfl, _, _⟩; refine Or.inl ⟨[], hm, ?_⟩; clear hm) | (refine wk_use (k162x hZ _ _ _ (by omega) (by omega) _ (by omega) (by omega)) rfl rfl ?_; rintro - _ _ - - - ⟨_, rfl, hm, ⟨rfl, hq⟩ | ⟨rfl, hq⟩⟩ <;> (rw [h3] at hq) <;> refine Or.inl ⟨[], hm, ?_⟩ <;> clear hm) | (refine wk_use (k165x hZ _ _ _ (by omega) (by omega) (by unfold xsR clR at hxs; omega) _ (by omega) (by omega)) rfl rfl ?_; rintro - _ _ - - - ⟨_, rfl, hm, ⟨rfl, hq⟩ | ⟨rfl, hq⟩⟩ <;> (rw [h4] at hq) <;> refine Or.inl ⟨[], hm, ?_⟩ <;> clear hm)
  all_goals first | omega | exact hQ _ _ ⟨_, rfl, rfl, by unfold dat vlu; rw [h1, h2, h3, h4]; omega⟩

