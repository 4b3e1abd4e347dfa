/-! Walk: begin, the summaries, a slice -/
set_option maxRecDepth 20000 in
theorem k62 {Z : sm_Z} (hZ : Z.2.2.2 = tb_N) (m : wk_M) (x : Int) (x0 : 0 ≤ x) (x1 : x ≤ 251) : wC Z 2 62 [25, 26, 27] [.inr (.inl 25), .inl x] m (fun r m' => r = none ∧ qI m'.1) := by
  refine wC.gen fun Q hQ => wk_E hZ (by exact rfl) [] rfl (fun _ _ => trivial) fun hr hs => ?_
  have e1 : ab_lo = -2147483648 := rfl
  have e2 : ab_hi = 2147483647 := rfl
  repeat' first | refine And.intro ?_ ?_ | intro _ | refine Or.inl ⟨by omega, by omega, ?_⟩ | refine Or.inr ?_ | exact trivial | (refine wk_use (wfI 26 8 0 _ rfl rfl (by decide) (by decide)) rfl rfl ?_; rintro - _ _ - hfr - ⟨rfl, -⟩; refine Or.inr ?_) | (refine wk_use (k63 hZ _ _ x0 x1 (qI_zero (by simp (decide := true) only [wk_u_at, wk_ul_1, and_self, and_true, true_and, and_false, false_and, if_true, if_false]))) rfl rfl ?_; rintro - _ _ - hfr - ⟨rfl, hq⟩; refine Or.inr ?_)
  all_goals first | omega | exact hQ _ _ ⟨rfl, hq⟩

set_option maxRecDepth 20000 in
theorem k78 {Z : sm_Z} (hZ : Z.2.2.2 = tb_N) (m : wk_M) (x b : Int) (x0 : 0 ≤ x) (x1 : x ≤ 251) (h : dM m.1) : wC Z 4 78 [25, 26, 27] [.inr (.inl 25), .inl x, .inl b] m (fun r m' => r = none) := by
  refine wC.gen fun Q hQ => wk_E hZ (by exact rfl) [] rfl (fun _ _ => trivial) fun hr hs => ?_
  have e1 : ab_lo = -2147483648 := rfl
  have e2 : ab_hi = 2147483647 := rfl
  repeat' first | refine And.intro ?_ ?_ | intro _ | refine Or.inl ⟨by omega, by omega, ?_⟩ | refine Or.inr ?_ | exact trivial | (refine wk_use (k62 hZ _ _ x0 x1) rfl rfl ?_; rintro - _ _ - hfr - ⟨rfl, hq⟩; have hdd := dM_fr hfr (by decide) (by decide) h; refine Or.inr ?_) | (refine wk_use (k64 hZ _ _ _ (by decide) hq hdd) rfl rfl ?_; rintro - _ _ - hfr - ⟨rfl, hq2⟩; have hde := dM_fr hfr (by decide) (by decide) hdd; refine Or.inr ?_) | (refine wk_use (k64 hZ _ _ _ (by decide) hq2 hde) rfl rfl ?_; rintro - _ _ - hfr - ⟨rfl, hq3⟩; refine Or.inr ?_)
  all_goals first | omega | exact hQ _ _ rfl

set_option maxRecDepth 20000 in
theorem k79 {Z : sm_Z} (hZ : Z.2.2.2 = tb_N) (m : wk_M) (x : Int) (x0 : 0 ≤ x) (x1 : x ≤ 7) : wC Z 1 79 [] [.inr (.inl 25), .inl x] m (fun r m' => ∃ v : Int, r = some (.inl v) ∧ m' = m ∧ v = m.1 26 x) := by
  refine wC.gen fun Q hQ => wk_E hZ (by exact rfl) [] rfl (fun _ _ => trivial) fun hr hs => ?_
  have e1 : ab_lo = -2147483648 := rfl
  have e2 : ab_hi = 2147483647 := rfl
  repeat' first | refine And.intro ?_ ?_ | intro _ | refine Or.inl ⟨by omega, by omega, ?_⟩ | refine Or.inr ?_ | exact trivial
  all_goals first | omega | exact hQ _ _ ⟨_, rfl, rfl, by omega⟩
