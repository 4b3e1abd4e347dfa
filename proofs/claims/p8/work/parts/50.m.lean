/-! the class's Machine: a turn, a run -/
theorem wk_fr_lo {W : List Nat} {m' m : wk_M} (h : wk_fr W m' m) (hw : (W.all fun p => Nat.ble 13 p) = true) {p : Nat} (hp : p ≤ 12) : m'.1 p = m.1 p := by
  refine (h p (fun z => ?_)).1
  have := Nat.le_of_ble_eq_true (List.all_eq_true.mp hw p z)
  omega
theorem cOps_fr {W : List Nat} {m' m : wk_M} (h : wk_fr W m' m) (hw : (W.all fun p => Nat.ble 13 p) = true) (hO : cOps m.1) : cOps m'.1 := by
  unfold cOps
  rw [wk_fr_lo h hw (p := 1) (by decide), wk_fr_lo h hw (p := 2) (by decide), wk_fr_lo h hw (p := 3) (by decide), wk_fr_lo h hw (p := 4) (by decide), wk_fr_lo h hw (p := 5) (by decide)]
  exact hO
theorem cWL_fr {W : List Nat} {m' m : wk_M} (h : wk_fr W m' m) (hw : (W.all fun p => Nat.ble 13 p) = true) (hL : cWL m.1) : cWL m'.1 := by
  unfold cWL cAt
  rw [wk_fr_lo h hw (p := 1) (by decide), wk_fr_lo h hw (p := 2) (by decide), wk_fr_lo h hw (p := 6) (by decide), wk_fr_lo h hw (p := 7) (by decide), wk_fr_lo h hw (p := 8) (by decide), wk_fr_lo h hw (p := 10) (by decide), wk_fr_lo h hw (p := 11) (by decide)]
  exact hL
theorem mk_done {m : wk_M} (hC : mC m.1 0) (h : ¬ m.1 28 (9 : Nat) = m.1 28 (10 : Nat)) : mC (wk_u m 28 (9 : Nat) (m.1 28 (9 : Nat) + 1)).1 1 := by
  unfold mC at *
  simp (decide := true) only [wk_u_at, wk_ul_1, and_self, and_true, true_and, and_false, false_and, if_true, if_false]
  omega

set_option maxRecDepth 20000 in
theorem k67 {Z : sm_Z} (hZ : Z.2.2.2 = tb_N) (m : wk_M) (x y : Int) : wC Z 1 67 [] [.inl x, .inl y] m (fun r m' => ∃ v : Int, r = some (.inl v) ∧ m' = m ∧ (v = 1 ∨ v = 0)) := by
  refine wC.gen fun Q hQ => wk_E hZ (by exact rfl) [] rfl (fun _ _ => trivial) fun hr hs => ?_
  have e1 : ab_lo = -2147483648 := rfl
  have e2 : ab_hi = 2147483647 := rfl
  repeat' first | refine And.intro ?_ ?_ | intro _ | refine Or.inl ⟨by omega, by omega, ?_⟩ | refine Or.inr ?_ | exact trivial
  all_goals first | omega | exact hQ _ _ ⟨_, rfl, rfl, by omega⟩

set_option maxRecDepth 20000 in
theorem k116 {Z : sm_Z} (hZ : Z.2.2.2 = tb_N) (m : wk_M) (hC : mC m.1 0) (hF : mF m.1) (hA : mA m.1) (hO : cOps m.1) (hL : cWL m.1) : wC Z 5 116 [28, 29, 30, 31, 32, 34, 35, 36, 37] [.inr (.inl 28)] m (fun r m' => r = none ∧ (mF m'.1 ∧ mA m'.1) ∧ mC m'.1 0) := by
  refine wC.gen fun Q hQ => wk_E hZ (by exact rfl) [] rfl (fun _ _ => trivial) fun hr hs => ?_
  have e1 : ab_lo = -2147483648 := rfl
  have e2 : ab_hi = 2147483647 := rfl
  have hc := cnt32 hr
  obtain ⟨⟨d0, d1⟩, c1, c2⟩ := id hF
  obtain ⟨⟨n0, n1⟩, n2, n3, n4⟩ := id hL
  obtain ⟨p0, p1⟩ := c1 (m.1 28 (7 : Nat)) d0 (Int.le_refl _)
  have q3 := n2 _ p0 p1
  have q5 := n3 _ (m.1 28 (8 : Nat)) p0 p1
  have hA1 := hA.1
  have hA2 := hA.2
  have hC9 : m.1 28 (9 : Nat) ≤ m.1 28 (10 : Nat) := hC.2.2.1
  have hC10 : m.1 28 (10 : Nat) ≤ 600 := hC.2.2.2
  unfold cAt at q5
  repeat' first | (intro h; exact absurd h (by decide)) | (intro h; exact absurd rfl h) | refine And.intro ?_ ?_ | intro _ | refine Or.inl ⟨by omega, by omega, ?_⟩ | refine Or.inr ?_ | exact trivial | (refine wk_use (k117 hZ _ hF hA hO hL) rfl rfl ?_; rintro - _ _ - hfr - ⟨rfl, hFA, _, _⟩; have hp := congrFun (hfr 29 (by decide)).1 ((1 : Nat) : Int); (try simp (decide := true) only [wk_u_at, wk_ul_1, and_self, and_true, true_and, and_false, false_and, if_true, if_false] at hp); have hp := congrFun (hfr 32 (by decide)).1 0; (try simp (decide := true) only [wk_u_at, wk_ul_1, and_self, and_true, true_and, and_false, false_and, if_true, if_false] at hp); have hp := congrFun (hfr 32 (by decide)).1 1; (try simp (decide := true) only [wk_u_at, wk_ul_1, and_self, and_true, true_and, and_false, false_and, if_true, if_false] at hp); have hp := congrFun (hfr 32 (by decide)).1 2; (try simp (decide := true) only [wk_u_at, wk_ul_1, and_self, and_true, true_and, and_false, false_and, if_true, if_false] at hp); have hp := congrFun (hfr 32 (by decide)).1 3; (try simp (decide := true) only [wk_u_at, wk_ul_1, and_self, and_true, true_and, and_false, false_and, if_true, if_false] at hp); refine Or.inr ?_) | (refine wk_use (k44 hZ _ _) rfl rfl ?_; rintro - _ _ - - - ⟨_, rfl, rfl, ⟨rfl, _⟩ | ⟨rfl, _⟩⟩; refine Or.inl ⟨[], rfl, ?_⟩) | (refine wk_use (k40 hZ _ _ (by omega) (by omega) (by omega)) rfl rfl ?_; rintro - _ _ - - - ⟨_, rfl, rfl, _⟩; refine Or.inl ⟨[], rfl, ?_⟩) | (refine wk_use (k67 hZ _ _ _) rfl rfl ?_; rintro - _ _ - - - ⟨_, rfl, rfl, rfl | rfl⟩; refine Or.inl ⟨[], rfl, ?_⟩) | (refine wk_use (k119 hZ _ _ (by omega) (by omega)) rfl rfl ?_; rintro - _ _ - - - ⟨_, rfl, rfl, ⟨rfl, _⟩ | ⟨rfl, _⟩⟩; refine Or.inl ⟨[], rfl, ?_⟩) | (refine wk_use (k120 hZ _ _ (by simp (decide := true) only [wk_u_at, wk_ul_1, and_self, and_true, true_and, and_false, false_and, if_true, if_false]; omega) (by simp (decide := true) only [wk_u_at, wk_ul_1, and_self, and_true, true_and, and_false, false_and, if_true, if_false]; omega) (by simp (decide := true) only [wk_u_at, wk_ul_1, and_self, and_true, true_and, and_false, false_and, if_true, if_false]) (by simp (decide := true) only [wk_u_at, wk_ul_1, and_self, and_true, true_and, and_false, false_and, if_true, if_false]; omega) (mk_done hC (by omega)) (mk_keep2 hF (wk_fr_u (by decide) (wk_fr_refl _ _)) (by simp (decide := true) only [wk_u_at, wk_ul_1, and_self, and_true, true_and, and_false, false_and, if_true, if_false]) (by simp (decide := true) only [wk_u_at, wk_ul_1, and_self, and_true, true_and, and_false, false_and, if_true, if_false]; omega)).1 (mk_keep2 hF (wk_fr_u (by decide) (wk_fr_refl _ _)) (by simp (decide := true) only [wk_u_at, wk_ul_1, and_self, and_true, true_and, and_false, false_and, if_true, if_false]) (by simp (decide := true) only [wk_u_at, wk_ul_1, and_self, and_true, true_and, and_false, false_and, if_true, if_false]; omega)).2 (cOps_fr (W := [28]) (wk_fr_u (by decide) (wk_fr_refl _ _)) rfl hO) (cWL_fr (W := [28]) (wk_fr_u (by decide) (wk_fr_refl _ _)) rfl hL)) rfl rfl ?_; rintro - _ _ - hfr - ⟨rfl, hFA, hC2⟩; refine Or.inr ?_)
  all_goals first
    | omega
    | exact hQ _ _ ⟨rfl, hFA, hC2⟩
    | (unfold mC at hC; refine hQ _ _ ⟨rfl, hFA, ⟨?_, ⟨?_, ?_, ?_, ?_⟩, ?_, ?_⟩⟩ <;> omega)
    | (unfold mC at hC; refine hQ _ _ ⟨rfl, mk_keep2 hF ?_ ?_ ⟨?_, ?_⟩, ⟨?_, ⟨?_, ?_, ?_, ?_⟩, ?_, ?_⟩⟩ <;> first | omega | ((repeat' first | exact wk_fr_refl _ _ | refine wk_fr_u (by decide) ?_ | refine wk_fr_ul (by decide) ?_ | refine wk_fr.tm (by assumption) rfl ?_); done) | (simp (decide := true) only [wk_u_at, wk_ul_1, and_self, and_true, true_and, and_false, false_and, if_true, if_false] <;> omega))
