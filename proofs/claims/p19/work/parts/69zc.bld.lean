/-! build with the sinks' slices -/
def tX (f : Nat → Int → Int) : Prop := trS f f (f 1 (4 : Nat))
theorem trS_sm {f f' g g' : Nat → Int → Int} {n : Int} (e1 : f' 1 = f 1) (e2 : f' 2 = f 2) (e14 : f' 14 = f 14) (e15 : f' 15 = f 15) (e17 : f' 17 = f 17) (e43 : g' 43 = g 43) (h : trS f g n) : trS f' g' n := by
  unfold trS snk at h ⊢
  rw [cS_sm e1 e2 e14 e15 e17, e2, e43]
  exact h
theorem tX_sm {f f' : Nat → Int → Int} (e1 : f' 1 = f 1) (e2 : f' 2 = f 2) (e14 : f' 14 = f 14) (e15 : f' 15 = f 15) (e17 : f' 17 = f 17) (e43 : f' 43 = f 43) (h : tX f) : tX f' := by
  unfold tX
  rw [e1]
  exact trS_sm e1 e2 e14 e15 e17 e43 h
theorem built_t {m3 m4 : wk_M} (f3 : wk_fr [25, 26, 27, 43] m4 m3) (hT : trS m3.1 m4.1 (m3.1 1 (4 : Nat))) : tX (wk_u m4 0 (7 : Nat) 1).1 := by
  have e : ∀ p, p ≠ 0 → (wk_u m4 0 (7 : Nat) 1).1 p = m4.1 p := fun p hp => wk_u_ne m4 0 _ _ hp
  have g : ∀ p, p ≠ 0 → p ∉ ([25, 26, 27, 43] : List Nat) → (wk_u m4 0 (7 : Nat) 1).1 p = m3.1 p := fun p hp hq => (e p hp).trans (f3 p hq).1
  unfold tX
  rw [g 1 (by decide) (by decide)]
  exact trS_sm (g 1 (by decide) (by decide)) (g 2 (by decide) (by decide)) (g 14 (by decide) (by decide)) (g 15 (by decide) (by decide)) (g 17 (by decide) (by decide)) (e 43 (by decide)) hT
set_option maxHeartbeats 8000000 in
set_option maxRecDepth 20000 in
theorem k25z {Z : sm_Z} (hZ : Z.2.2.2 = tb_N) (m : wk_M) (hC : CI m.1) : wC Z 6 25 [0, 1, 6, 7, 8, 9, 10, 11, 12, 14, 15, 16, 17, 18, 20, 21, 22, 23, 24, 25, 26, 27, 43] [.inr (.inl 0)] m (fun r m' => ∃ v : Int, r = some (.inl v) ∧ CI m'.1 ∧ m'.1 1 (4 : Nat) = m.1 1 (4 : Nat) ∧ ((m.1 0 (7 : Nat) = 1 ∧ v = -2 ∧ m' = m) ∨ (¬ m.1 0 (7 : Nat) = 1 ∧ ∃ u, lyC (m.1 2) (m.1 1 (4 : Nat)) u ∧ ((u = -1 ∧ v = 0 ∧ m'.1 0 (7 : Nat) = 1 ∧ sZ (lyI (m.1 2) (m.1 1 (4 : Nat)).toNat) (m.1 1 (4 : Nat)) (m'.1 1 (11 : Nat)) (m'.1 6) (m'.1 7) (m'.1 8) (m'.1 9) (m'.1 10) (m'.1 11) ∧ (yWc m'.1 ∧ kX m'.1) ∧ cX m'.1 ∧ tX m'.1) ∨ (¬ u = -1 ∧ v = -3 - u ∧ m'.1 0 (7 : Nat) = m.1 0 (7 : Nat)))))) := by
  refine wC.gen fun Q hQ => wk_E hZ (by exact rfl) [] rfl (fun _ _ => trivial) fun hr hs => ?_
  have e1 : ab_lo = -2147483648 := rfl
  have e2 : ab_hi = 2147483647 := rfl
  obtain ⟨cO, cB, cT⟩ := hC
  have hb7 : 0 ≤ m.1 0 (7 : Nat) ∧ m.1 0 (7 : Nat) ≤ 1 := hr.1 0 7
  have hc0 := cnt32 hr
  repeat' first | refine And.intro ?_ ?_ | intro _ | refine Or.inl ⟨by omega, by omega, ?_⟩ | refine Or.inr ?_ | exact trivial | (refine wk_use (k26 hZ _) rfl rfl ?_; rintro - _ _ - hfr - ⟨v, rfl, hv, hw, hc, hly⟩; have hp := congrFun (hfr 0 (by decide)).1 ((7 : Nat) : Int); (try simp (decide := true) only [wk_u_at, wk_ul_1, and_self, and_true, true_and, and_false, false_and, if_true, if_false] at hp); have hp := congrFun (hfr 44 (by decide)).1 ((1 : Nat) : Int); (try simp (decide := true) only [wk_u_at, wk_ul_1, and_self, and_true, true_and, and_false, false_and, if_true, if_false] at hp); have f26 := hfr; refine Or.inr ?_) | (refine wk_use (k35x hZ _ (cOps_lay f26 hc cO) (hw (by omega)).2.1 (hw (by omega)).1 (yWc_of f26 hc hc0.1 hly (by omega) (hw (by omega)).2.2)) rfl rfl ?_; rintro - _ _ - hfr - ⟨rfl, hd, l, hW, hA, hCC, h18⟩; have hp := congrFun (hfr 0 (by decide)).1 ((7 : Nat) : Int); (try simp (decide := true) only [wk_u_at, wk_ul_1, and_self, and_true, true_and, and_false, false_and, if_true, if_false] at hp); have hp := congrFun (hfr 44 (by decide)).1 ((1 : Nat) : Int); (try simp (decide := true) only [wk_u_at, wk_ul_1, and_self, and_true, true_and, and_false, false_and, if_true, if_false] at hp); have f35 := hfr; refine Or.inr ?_) | (refine wk_use (k60x hZ _ _ _ (cF_35 f35) iR_rg (by omega) (hw (by omega)).1.1.2 (hw (by omega)).1.1.1 (sI_in hA (sB_0 h18 (hw (by omega)).1.1.2)) hCC hd (sB_0 h18 (hw (by omega)).1.1.2)) rfl rfl ?_; rintro - _ _ - hfr - ⟨rfl, hd2, hI2, hB2⟩; have hp := congrFun (hfr 0 (by decide)).1 ((7 : Nat) : Int); (try simp (decide := true) only [wk_u_at, wk_ul_1, and_self, and_true, true_and, and_false, false_and, if_true, if_false] at hp); have hp := congrFun (hfr 44 (by decide)).1 ((1 : Nat) : Int); (try simp (decide := true) only [wk_u_at, wk_ul_1, and_self, and_true, true_and, and_false, false_and, if_true, if_false] at hp); have f60 := hfr; refine Or.inr ?_) | (refine wk_use (k76x hZ _ hd2) rfl rfl ?_; rintro - _ _ - hfr - ⟨rfl, hT⟩; have hp := congrFun (hfr 0 (by decide)).1 ((7 : Nat) : Int); (try simp (decide := true) only [wk_u_at, wk_ul_1, and_self, and_true, true_and, and_false, false_and, if_true, if_false] at hp); have hp := congrFun (hfr 44 (by decide)).1 ((1 : Nat) : Int); (try simp (decide := true) only [wk_u_at, wk_ul_1, and_self, and_true, true_and, and_false, false_and, if_true, if_false] at hp); have f76 := hfr; refine Or.inr ?_)
  all_goals first
    | omega
    | exact hQ _ _ ⟨_, rfl, ⟨cO, cB, cT⟩, rfl, Or.inl ⟨by omega, rfl, rfl⟩⟩
    | exact hQ _ _ ⟨_, rfl, ⟨cOps_lay f26 hc cO, fun z => by omega, fun z => by omega⟩, hc, Or.inr ⟨by omega, _, hly, Or.inr ⟨by omega, by omega, by omega⟩⟩⟩
    | exact hQ _ _ ⟨_, rfl, CI_built (cOps_lay f26 hc cO) (hw (by omega)).1 (hw (by omega)).2.1 f35 f60 f76 hd2, built_4 f35 f60 f76 hc, Or.inr ⟨by omega, _, hly, Or.inl ⟨by omega, rfl, by simp (decide := true) only [wk_u_at, wk_ul_1, and_self, and_true, true_and, and_false, false_and, if_true, if_false], built_z f35 f60 f76 (hw (by omega)).2.2, built_x hW (hw (by omega)).1 (yWc_of f26 hc hc0.1 hly (by omega) (hw (by omega)).2.2) (by omega) hA f35 f60 f76, built_y hW hI2 hB2 hCC hd2 f35 f60 f76, built_t f76 hT⟩⟩⟩
