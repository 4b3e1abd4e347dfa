def ev_Rb : Option dp_R := tb_cf 6 25 [.ref 0] ev_s2 ev_P2
theorem ev_Rb_ok : ev_okW ev_Rb (some (.int 0)) ev_s2 46 = true := by decide +kernel
theorem ev_cb {Z : sm_Z} (hZ : Z.2.2.2 = tb_N) (ad : Nat → Nat) (μ : sm_M) (h : dp_le ev_P2 μ) : sm_C tb_cl Z (tb_ys 25) (tb_ws 25) (dp_rm 6 192 ev_s2 ev_s2) [.ref 0] ad ev_s2 μ (fun r sh' μ' => r = some (.int 0) ∧ sh' = ev_s2 ∧ dp_le ev_Pm μ') := by
  obtain ⟨h1, h2, h3, h4⟩ := ev_okW_ok ev_Rb_ok
  have h5 := (tb_cfok hZ tb_prs 6 _ _ _ _ _ h1).2.2 ad μ h
  rw [h3] at h5
  exact h5.imp (fun r sh' μ' q => ⟨q.1.trans h2, q.2.1.trans h3, ev_Pm_le h q.2.2.2 h4⟩)
