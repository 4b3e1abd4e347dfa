/-! the class: what holds between calls, and its methods -/
def CI (f : Nat → Int → Int) : Prop := cOps f ∧ (f 0 (7 : Nat) = 1 → cWL f ∧ cEn f ∧ dM f) ∧ (f 44 (1 : Nat) = 1 → f 0 (7 : Nat) = 1)
theorem CI_of {W : List Nat} {m' m : wk_M} (h : wk_fr W m' m) (hw : (W.all fun p => Nat.ble 13 p && (!(Nat.beq p 14) && !(Nat.beq p 15))) = true) (h0 : m'.1 0 (7 : Nat) = m.1 0 (7 : Nat)) (hc : CI m.1) (h44 : m'.1 44 (1 : Nat) = 1 → m'.1 0 (7 : Nat) = 1) : CI m'.1 := by
  have hw1 : (W.all fun p => Nat.ble 13 p) = true := List.all_eq_true.mpr (fun p hp => by have := List.all_eq_true.mp hw p hp; rw [Bool.and_eq_true] at this; exact this.1)
  have h14 : 14 ∉ W := fun z => by have := List.all_eq_true.mp hw 14 z; cases this
  have h15 : 15 ∉ W := fun z => by have := List.all_eq_true.mp hw 15 z; cases this
  refine ⟨cOps_fr h hw1 hc.1, fun z => ?_, h44⟩
  obtain ⟨a, b, c⟩ := hc.2.1 (by omega)
  exact ⟨cWL_fr h hw1 a, cEn_same (congrFun (wk_fr_lo h hw1 (p := 1) (by decide)) _) (wk_fr_lo h hw1 (p := 2) (by decide)) (wk_fr_lo h hw1 (p := 6) (by decide)) b, dM_fr h h14 h15 c⟩
/-- what touches neither the program nor the slice keeps it -/
theorem CI_fr {W : List Nat} {m' m : wk_M} (h : wk_fr W m' m) (hw : (W.all fun p => Nat.ble 13 p && (!(Nat.beq p 14) && !(Nat.beq p 15))) = true) (h44 : 44 ∉ W) (hc : CI m.1) : CI m'.1 := by
  have h0 : m'.1 0 = m.1 0 := (h 0 (fun z => by have := List.all_eq_true.mp hw 0 z; cases this)).1
  have e44 : m'.1 44 = m.1 44 := (h 44 h44).1
  exact CI_of h hw (by rw [h0]) hc (by rw [h0, e44]; exact hc.2.2)

set_option maxHeartbeats 8000000 in
set_option maxRecDepth 20000 in
theorem k11 {Z : sm_Z} (hZ : Z.2.2.2 = tb_N) (m : wk_M)  : wC Z 1 11 [] [.inr (.inl 1)] m (fun r m' => ∃ v : Int, r = some (.inl v) ∧ m' = m ∧ ((v = 1 ∧ m.1 1 (4 : Nat) < 32) ∨ (v = 0 ∧ 32 ≤ m.1 1 (4 : Nat)))) := by
  refine wC.gen fun Q hQ => wk_E hZ (by exact rfl) [] rfl (fun _ _ => trivial) fun hr hs => ?_
  have e1 : ab_lo = -2147483648 := rfl
  have e2 : ab_hi = 2147483647 := rfl
  repeat' first | refine And.intro ?_ ?_ | intro _ | refine Or.inl ⟨by omega, by omega, ?_⟩ | refine Or.inr ?_ | exact trivial
  all_goals first | omega | exact hQ _ _ ⟨_, rfl, rfl, by omega⟩

set_option maxHeartbeats 8000000 in
set_option maxRecDepth 20000 in
theorem k18 {Z : sm_Z} (hZ : Z.2.2.2 = tb_N) (m : wk_M) (o d a b : Int) (o0 : 0 ≤ o) (o1 : o ≤ 18) (h : m.1 1 (4 : Nat) < 32) : wC Z 1 18 [1, 2, 3, 4, 5] [.inr (.inl 1), .inl o, .inl d, .inl a, .inl b] m (fun r m' => ∃ v : Int, r = some (.inl v) ∧ v = m.1 1 (4 : Nat) ∧ m' = wk_u (wk_u (wk_u (wk_u (wk_u m 2 (m.1 1 (4 : Nat)) o) 3 (m.1 1 (4 : Nat)) d) 4 (m.1 1 (4 : Nat)) a) 5 (m.1 1 (4 : Nat)) b) 1 (4 : Nat) (m.1 1 (4 : Nat) + 1)) := by
  refine wC.gen fun Q hQ => wk_E hZ (by exact rfl) [] rfl (fun _ _ => trivial) fun hr hs => ?_
  have e1 : ab_lo = -2147483648 := rfl
  have e2 : ab_hi = 2147483647 := rfl
  obtain ⟨-, -, ⟨d0, d1⟩, ⟨a0, a1⟩, ⟨b0, b1⟩, -⟩ := hs
  repeat' first | refine And.intro ?_ ?_ | intro _ | refine Or.inl ⟨by omega, by omega, ?_⟩ | refine Or.inr ?_ | exact trivial
  all_goals first | omega | exact hQ _ _ ⟨_, rfl, by omega, rfl⟩

theorem cOps_add {m : wk_M} {o d a b : Int} (h : cOps m.1) (hd : nD o → 0 ≤ d ∧ d ≤ 3) (ha : nA o → 0 ≤ a ∧ a ≤ 3) (hb : nB o → 0 ≤ b ∧ b ≤ 3) : cOps (wk_u (wk_u (wk_u (wk_u (wk_u m 2 (m.1 1 (4 : Nat)) o) 3 (m.1 1 (4 : Nat)) d) 4 (m.1 1 (4 : Nat)) a) 5 (m.1 1 (4 : Nat)) b) 1 (4 : Nat) (m.1 1 (4 : Nat) + 1)).1 := by
  generalize hg : (wk_u (wk_u (wk_u (wk_u (wk_u m 2 (m.1 1 (4 : Nat)) o) 3 (m.1 1 (4 : Nat)) d) 4 (m.1 1 (4 : Nat)) a) 5 (m.1 1 (4 : Nat)) b) 1 (4 : Nat) (m.1 1 (4 : Nat) + 1)).1 = g
  have g1 : g 1 (4 : Nat) = m.1 1 (4 : Nat) + 1 := by rw [← hg]; simp (decide := true) only [wk_u_at, wk_ul_1, and_self, and_true, true_and, and_false, false_and, if_true, if_false]
  have g2 : ∀ i, g 2 i = if i = m.1 1 (4 : Nat) then o else m.1 2 i := by intro i; rw [← hg]; simp (decide := true) only [wk_u_at, wk_ul_1, and_self, and_true, true_and, and_false, false_and, if_true, if_false]
  have g3 : ∀ i, g 3 i = if i = m.1 1 (4 : Nat) then d else m.1 3 i := by intro i; rw [← hg]; simp (decide := true) only [wk_u_at, wk_ul_1, and_self, and_true, true_and, and_false, false_and, if_true, if_false]
  have g4 : ∀ i, g 4 i = if i = m.1 1 (4 : Nat) then a else m.1 4 i := by intro i; rw [← hg]; simp (decide := true) only [wk_u_at, wk_ul_1, and_self, and_true, true_and, and_false, false_and, if_true, if_false]
  have g5 : ∀ i, g 5 i = if i = m.1 1 (4 : Nat) then b else m.1 5 i := by intro i; rw [← hg]; simp (decide := true) only [wk_u_at, wk_ul_1, and_self, and_true, true_and, and_false, false_and, if_true, if_false]
  intro i i0 i1
  rw [g1] at i1
  rw [g2, g3, g4, g5]
  by_cases e : i = m.1 1 (4 : Nat)
  · rw [if_pos e, if_pos e, if_pos e, if_pos e]
    exact ⟨hd, ha, hb⟩
  · rw [if_neg e, if_neg e, if_neg e, if_neg e]
    exact h i i0 (by omega)

set_option maxHeartbeats 8000000 in
set_option maxRecDepth 20000 in
theorem k10 {Z : sm_Z} (hZ : Z.2.2.2 = tb_N) (m : wk_M) (o d a b : Int) (hC : CI m.1) : wC Z 4 10 [1, 2, 3, 4, 5] [.inr (.inl 0), .inl o, .inl d, .inl a, .inl b] m (fun r m' => ∃ v : Int, r = some (.inl v) ∧ CI m'.1 ∧ ((v = -1 ∧ m' = m ∧ (m.1 0 (7 : Nat) = 1 ∨ 32 ≤ m.1 1 (4 : Nat) ∨ ¬ okA o d a b)) ∨ (v = m.1 1 (4 : Nat) ∧ m' = wk_u (wk_u (wk_u (wk_u (wk_u m 2 (m.1 1 (4 : Nat)) o) 3 (m.1 1 (4 : Nat)) d) 4 (m.1 1 (4 : Nat)) a) 5 (m.1 1 (4 : Nat)) b) 1 (4 : Nat) (m.1 1 (4 : Nat) + 1) ∧ ¬ m.1 0 (7 : Nat) = 1 ∧ m.1 1 (4 : Nat) < 32 ∧ okA o d a b))) := by
  refine wC.gen fun Q hQ => wk_E hZ (by exact rfl) [] rfl (fun _ _ => trivial) fun hr hs => ?_
  have e1 : ab_lo = -2147483648 := rfl
  have e2 : ab_hi = 2147483647 := rfl
  have hb7 : 0 ≤ m.1 0 (7 : Nat) ∧ m.1 0 (7 : Nat) ≤ 1 := hr.1 0 7
  repeat' first | (intro h; exact absurd h (by decide)) | (intro h; exact absurd rfl h) | refine And.intro ?_ ?_ | intro _ | refine Or.inl ⟨by omega, by omega, ?_⟩ | refine Or.inr ?_ | exact trivial | (refine wk_use (k11 hZ _) rfl rfl ?_; rintro - _ _ - - - ⟨_, rfl, rfl, ⟨rfl, _⟩ | ⟨rfl, _⟩⟩; refine Or.inl ⟨[], rfl, ?_⟩) | (refine wk_use (k12 hZ _ _ _ _ _) rfl rfl ?_; rintro - _ _ - - - ⟨_, rfl, rfl, ⟨rfl, hok⟩ | ⟨rfl, hok⟩⟩; refine Or.inl ⟨[], rfl, ?_⟩) | (refine wk_use (k18 hZ _ _ _ _ _ hok.1.1 hok.1.2 (by omega)) rfl rfl ?_; rintro - _ _ - - - ⟨_, rfl, hv, rfl⟩; refine Or.inr ?_)
  all_goals first | omega | exact hQ _ _ ⟨_, rfl, hC, Or.inl ⟨rfl, rfl, Or.inl (by omega)⟩⟩ | exact hQ _ _ ⟨_, rfl, hC, Or.inl ⟨rfl, rfl, Or.inr (Or.inl (by omega))⟩⟩ | exact hQ _ _ ⟨_, rfl, hC, Or.inl ⟨rfl, rfl, Or.inr (Or.inr hok)⟩⟩ | exact hQ _ _ ⟨_, rfl, ⟨cOps_add hC.1 hok.2.1 hok.2.2.1 hok.2.2.2, fun z => by simp (decide := true) only [wk_u_at, wk_ul_1, and_self, and_true, true_and, and_false, false_and, if_true, if_false] at z <;> omega, hC.2.2⟩, Or.inr ⟨hv, rfl, by omega, by omega, hok⟩⟩

set_option maxHeartbeats 8000000 in
set_option maxRecDepth 20000 in
theorem k20 {Z : sm_Z} (hZ : Z.2.2.2 = tb_N) (m : wk_M)  : wC Z 1 20 [1] [.inr (.inl 1)] m (fun r m' => r = none ∧ m'.1 1 (4 : Nat) = 0) := by
  refine wC.gen fun Q hQ => wk_E hZ (by exact rfl) [] rfl (fun _ _ => trivial) fun hr hs => ?_
  have e1 : ab_lo = -2147483648 := rfl
  have e2 : ab_hi = 2147483647 := rfl
  repeat' first | refine And.intro ?_ ?_ | intro _ | refine Or.inl ⟨by omega, by omega, ?_⟩ | refine Or.inr ?_ | exact trivial
  all_goals first | omega | exact hQ _ _ ⟨rfl, by simp (decide := true) only [wk_u_at, wk_ul_1, and_self, and_true, true_and, and_false, false_and, if_true, if_false]⟩

set_option maxHeartbeats 8000000 in
set_option maxRecDepth 20000 in
theorem k19 {Z : sm_Z} (hZ : Z.2.2.2 = tb_N) (m : wk_M)  : wC Z 3 19 [0, 1, 28, 29, 32, 44] [.inr (.inl 0)] m (fun r m' => r = none ∧ CI m'.1 ∧ m'.1 1 (4 : Nat) = 0 ∧ m'.1 0 (7 : Nat) = 0) := by
  refine wC.gen fun Q hQ => wk_E hZ (by exact rfl) [] rfl (fun _ _ => trivial) fun hr hs => ?_
  have e1 : ab_lo = -2147483648 := rfl
  have e2 : ab_hi = 2147483647 := rfl
  repeat' first | refine And.intro ?_ ?_ | intro _ | refine Or.inl ⟨by omega, by omega, ?_⟩ | refine Or.inr ?_ | exact trivial | (refine wk_use (k20 hZ _) rfl rfl ?_; rintro - _ _ - hfr - ⟨rfl, h1⟩; refine Or.inr ?_) | (refine wk_use (k21 hZ _) rfl rfl ?_; rintro - _ _ - hfr - ⟨rfl, h2⟩; have hp := congrFun (hfr 1 (by decide)).1 ((4 : Nat) : Int); (try simp (decide := true) only [wk_u_at, wk_ul_1, and_self, and_true, true_and, and_false, false_and, if_true, if_false] at hp); refine Or.inr ?_) | (refine wk_use (k22 hZ _) rfl rfl ?_; rintro - _ _ - hfr - rfl; have hp := congrFun (hfr 1 (by decide)).1 ((4 : Nat) : Int); (try simp (decide := true) only [wk_u_at, wk_ul_1, and_self, and_true, true_and, and_false, false_and, if_true, if_false] at hp); have hp := congrFun (hfr 44 (by decide)).1 ((1 : Nat) : Int); (try simp (decide := true) only [wk_u_at, wk_ul_1, and_self, and_true, true_and, and_false, false_and, if_true, if_false] at hp); refine Or.inr ?_)
  all_goals first | omega | exact hQ _ _ ⟨rfl, ⟨fun i i0 i1 => by simp (decide := true) only [wk_u_at, wk_ul_1, and_self, and_true, true_and, and_false, false_and, if_true, if_false] at i1 <;> omega, fun z => by simp (decide := true) only [wk_u_at, wk_ul_1, and_self, and_true, true_and, and_false, false_and, if_true, if_false] at z <;> omega, fun z => by simp (decide := true) only [wk_u_at, wk_ul_1, and_self, and_true, true_and, and_false, false_and, if_true, if_false] at z <;> omega⟩, by simp (decide := true) only [wk_u_at, wk_ul_1, and_self, and_true, true_and, and_false, false_and, if_true, if_false] <;> omega, by simp (decide := true) only [wk_u_at, wk_ul_1, and_self, and_true, true_and, and_false, false_and, if_true, if_false]⟩

theorem cOps_lay {m' m : wk_M} (h : wk_fr [1, 6, 7, 8, 9, 10, 11, 12] m' m) (hc : m'.1 1 (4 : Nat) = m.1 1 (4 : Nat)) (hO : cOps m.1) : cOps m'.1 := by
  unfold cOps
  rw [hc, (h 2 (by decide)).1, (h 3 (by decide)).1, (h 4 (by decide)).1, (h 5 (by decide)).1]
  exact hO
theorem CI_built {m1 m2 m3 m4 : wk_M} (cO : cOps m1.1) (cW : cWL m1.1) (cE : cEn m1.1) (f1 : wk_fr [14, 15, 16, 17, 18, 20, 21, 22, 23, 24] m2 m1) (f2 : wk_fr [14, 15, 18, 25, 26, 27] m3 m2) (f3 : wk_fr [25, 26, 27, 43] m4 m3) (hd : dM m3.1) : CI (wk_u m4 0 (7 : Nat) 1).1 := by
  have g : wk_fr [14, 15, 16, 17, 18, 20, 21, 22, 23, 24, 25, 26, 27, 43] m4 m1 := ((f3.mono rfl).trans (f2.mono rfl)).trans (f1.mono rfl)
  have e : ∀ p, p ≠ 0 → (wk_u m4 0 (7 : Nat) 1).1 p = m4.1 p := fun p hp => wk_u_ne m4 0 _ _ hp
  have a := cOps_fr g rfl cO
  have b := cWL_fr g rfl cW
  have c := cEn_same (congrFun (wk_fr_lo g rfl (p := 1) (by decide)) _) (wk_fr_lo g rfl (p := 2) (by decide)) (wk_fr_lo g rfl (p := 6) (by decide)) cE
  have d := dM_fr f3 (by decide) (by decide) hd
  refine ⟨?_, fun _ => ⟨?_, ?_, ?_⟩, fun _ => by simp (decide := true) only [wk_u_at, wk_ul_1, and_self, and_true, true_and, and_false, false_and, if_true, if_false]⟩
  · unfold cOps
    rw [e 1 (by decide), e 2 (by decide), e 3 (by decide), e 4 (by decide), e 5 (by decide)]
    exact a
  · unfold cWL cAt
    rw [e 1 (by decide), e 2 (by decide), e 6 (by decide), e 7 (by decide), e 8 (by decide), e 10 (by decide), e 11 (by decide)]
    exact b
  · exact cEn_same (congrFun (e 1 (by decide)) _) (e 2 (by decide)) (e 6 (by decide)) c
  · unfold dM
    rw [e 14 (by decide), e 15 (by decide)]
    exact d
theorem built_fr {m1 m2 m3 m4 : wk_M} (f1 : wk_fr [14, 15, 16, 17, 18, 20, 21, 22, 23, 24] m2 m1) (f2 : wk_fr [14, 15, 18, 25, 26, 27] m3 m2) (f3 : wk_fr [25, 26, 27, 43] m4 m3) {p : Nat} (h : p ≤ 12) (h0 : p ≠ 0) : (wk_u m4 0 (7 : Nat) 1).1 p = m1.1 p := by
  have g : wk_fr [14, 15, 16, 17, 18, 20, 21, 22, 23, 24, 25, 26, 27, 43] m4 m1 := ((f3.mono rfl).trans (f2.mono rfl)).trans (f1.mono rfl)
  rw [wk_u_ne m4 0 _ _ h0]
  exact wk_fr_lo g rfl h
theorem built_4 {m m1 m2 m3 m4 : wk_M} (f1 : wk_fr [14, 15, 16, 17, 18, 20, 21, 22, 23, 24] m2 m1) (f2 : wk_fr [14, 15, 18, 25, 26, 27] m3 m2) (f3 : wk_fr [25, 26, 27, 43] m4 m3) (h : m1.1 1 (4 : Nat) = m.1 1 (4 : Nat)) : (wk_u m4 0 (7 : Nat) 1).1 1 (4 : Nat) = m.1 1 (4 : Nat) := by
  rw [built_fr f1 f2 f3 (p := 1) (by decide) (by decide)]
  exact h
theorem built_z {G : wk_M} {c : Int} {m1 m2 m3 m4 : wk_M} (f1 : wk_fr [14, 15, 16, 17, 18, 20, 21, 22, 23, 24] m2 m1) (f2 : wk_fr [14, 15, 18, 25, 26, 27] m3 m2) (f3 : wk_fr [25, 26, 27, 43] m4 m3) (h : sZ G c (m1.1 1 (11 : Nat)) (m1.1 6) (m1.1 7) (m1.1 8) (m1.1 9) (m1.1 10) (m1.1 11)) : sZ G c ((wk_u m4 0 (7 : Nat) 1).1 1 (11 : Nat)) ((wk_u m4 0 (7 : Nat) 1).1 6) ((wk_u m4 0 (7 : Nat) 1).1 7) ((wk_u m4 0 (7 : Nat) 1).1 8) ((wk_u m4 0 (7 : Nat) 1).1 9) ((wk_u m4 0 (7 : Nat) 1).1 10) ((wk_u m4 0 (7 : Nat) 1).1 11) := sZ_same h (congrFun (built_fr f1 f2 f3 (p := 1) (by decide) (by decide)) _) (built_fr f1 f2 f3 (by decide) (by decide)) (built_fr f1 f2 f3 (by decide) (by decide)) (built_fr f1 f2 f3 (by decide) (by decide)) (built_fr f1 f2 f3 (by decide) (by decide)) (built_fr f1 f2 f3 (by decide) (by decide)) (built_fr f1 f2 f3 (by decide) (by decide))

set_option maxHeartbeats 8000000 in
set_option maxRecDepth 20000 in
theorem k25 {Z : sm_Z} (hZ : Z.2.2.2 = tb_N) (m : wk_M) (hC : CI m.1) : wC Z 6 25 [0, 1, 6, 7, 8, 9, 10, 11, 12, 14, 15, 16, 17, 18, 20, 21, 22, 23, 24, 25, 26, 27, 43] [.inr (.inl 0)] m (fun r m' => ∃ v : Int, r = some (.inl v) ∧ CI m'.1 ∧ m'.1 1 (4 : Nat) = m.1 1 (4 : Nat) ∧ ((m.1 0 (7 : Nat) = 1 ∧ v = -2 ∧ m' = m) ∨ (¬ m.1 0 (7 : Nat) = 1 ∧ ∃ u, lyC (m.1 2) (m.1 1 (4 : Nat)) u ∧ ((u = -1 ∧ v = 0 ∧ m'.1 0 (7 : Nat) = 1 ∧ sZ (lyI (m.1 2) (m.1 1 (4 : Nat)).toNat) (m.1 1 (4 : Nat)) (m'.1 1 (11 : Nat)) (m'.1 6) (m'.1 7) (m'.1 8) (m'.1 9) (m'.1 10) (m'.1 11)) ∨ (¬ u = -1 ∧ v = -3 - u ∧ m'.1 0 (7 : Nat) = m.1 0 (7 : Nat)))))) := by
  refine wC.gen fun Q hQ => wk_E hZ (by exact rfl) [] rfl (fun _ _ => trivial) fun hr hs => ?_
  have e1 : ab_lo = -2147483648 := rfl
  have e2 : ab_hi = 2147483647 := rfl
  obtain ⟨cO, cB, cT⟩ := hC
  have hb7 : 0 ≤ m.1 0 (7 : Nat) ∧ m.1 0 (7 : Nat) ≤ 1 := hr.1 0 7
  repeat' first | refine And.intro ?_ ?_ | intro _ | refine Or.inl ⟨by omega, by omega, ?_⟩ | refine Or.inr ?_ | exact trivial | (refine wk_use (k26 hZ _) rfl rfl ?_; rintro - _ _ - hfr - ⟨v, rfl, hv, hw, hc, hly⟩; have hp := congrFun (hfr 0 (by decide)).1 ((7 : Nat) : Int); (try simp (decide := true) only [wk_u_at, wk_ul_1, and_self, and_true, true_and, and_false, false_and, if_true, if_false] at hp); have hp := congrFun (hfr 44 (by decide)).1 ((1 : Nat) : Int); (try simp (decide := true) only [wk_u_at, wk_ul_1, and_self, and_true, true_and, and_false, false_and, if_true, if_false] at hp); have f26 := hfr; refine Or.inr ?_) | (refine wk_use (k35 hZ _ (cOps_lay f26 hc cO) (hw (by omega)).2.1) rfl rfl ?_; rintro - _ _ - hfr - ⟨rfl, hd⟩; have hp := congrFun (hfr 0 (by decide)).1 ((7 : Nat) : Int); (try simp (decide := true) only [wk_u_at, wk_ul_1, and_self, and_true, true_and, and_false, false_and, if_true, if_false] at hp); have hp := congrFun (hfr 44 (by decide)).1 ((1 : Nat) : Int); (try simp (decide := true) only [wk_u_at, wk_ul_1, and_self, and_true, true_and, and_false, false_and, if_true, if_false] at hp); have f35 := hfr; refine Or.inr ?_) | (refine wk_use (k60 hZ _ hd) rfl rfl ?_; rintro - _ _ - hfr - ⟨rfl, hd2⟩; have hp := congrFun (hfr 0 (by decide)).1 ((7 : Nat) : Int); (try simp (decide := true) only [wk_u_at, wk_ul_1, and_self, and_true, true_and, and_false, false_and, if_true, if_false] at hp); have hp := congrFun (hfr 44 (by decide)).1 ((1 : Nat) : Int); (try simp (decide := true) only [wk_u_at, wk_ul_1, and_self, and_true, true_and, and_false, false_and, if_true, if_false] at hp); have f60 := hfr; refine Or.inr ?_) | (refine wk_use (k76 hZ _ hd2) rfl rfl ?_; rintro - _ _ - hfr - rfl; have hp := congrFun (hfr 0 (by decide)).1 ((7 : Nat) : Int); (try simp (decide := true) only [wk_u_at, wk_ul_1, and_self, and_true, true_and, and_false, false_and, if_true, if_false] at hp); have hp := congrFun (hfr 44 (by decide)).1 ((1 : Nat) : Int); (try simp (decide := true) only [wk_u_at, wk_ul_1, and_self, and_true, true_and, and_false, false_and, if_true, if_false] at hp); have f76 := hfr; refine Or.inr ?_)
  all_goals first
    | omega
    | exact hQ _ _ ⟨_, rfl, ⟨cO, cB, cT⟩, rfl, Or.inl ⟨by omega, rfl, rfl⟩⟩
    | exact hQ _ _ ⟨_, rfl, ⟨cOps_lay f26 hc cO, fun z => by omega, fun z => by omega⟩, hc, Or.inr ⟨by omega, _, hly, Or.inr ⟨by omega, by omega, by omega⟩⟩⟩
    | exact hQ _ _ ⟨_, rfl, CI_built (cOps_lay f26 hc cO) (hw (by omega)).1 (hw (by omega)).2.1 f35 f60 f76 hd2, built_4 f35 f60 f76 hc, Or.inr ⟨by omega, _, hly, Or.inl ⟨by omega, rfl, by simp (decide := true) only [wk_u_at, wk_ul_1, and_self, and_true, true_and, and_false, false_and, if_true, if_false], built_z f35 f60 f76 (hw (by omega)).2.2⟩⟩⟩

set_option maxHeartbeats 8000000 in
set_option maxRecDepth 20000 in
theorem k80 {Z : sm_Z} (hZ : Z.2.2.2 = tb_N) (m : wk_M) (n : Int) : wC Z 2 80 [38, 39, 40, 41] [.inr (.inl 0), .inl n] m (fun r m' => ∃ v : Int, r = some (.inl v) ∧ ((v = 1 ∧ 1 ≤ n ∧ n ≤ 5 ∧ m'.1 38 (0 : Nat) = n ∧ (oA m'.1 ∧ ∀ p q, 0 ≤ p → p < n → 0 ≤ q → q ≤ 4 → (oB m'.1 p q ↔ p = q)) ∧ ∀ k, 0 ≤ k → k ≤ 3 → m'.1 40 k = 0 ∧ m'.1 41 k = 0) ∨ (v = 0 ∧ (n < 1 ∨ 5 < n) ∧ m'.1 38 (0 : Nat) = m.1 38 (0 : Nat) ∧ m' = m))) := by
  refine wC.gen fun Q hQ => wk_E hZ (by exact rfl) [] rfl (fun _ _ => trivial) fun hr hs => ?_
  have e1 : ab_lo = -2147483648 := rfl
  have e2 : ab_hi = 2147483647 := rfl
  repeat' first | refine And.intro ?_ ?_ | intro _ | refine Or.inl ⟨by omega, by omega, ?_⟩ | refine Or.inr ?_ | exact trivial | (refine wk_use (k81 hZ _ _ (by omega) (by omega)) rfl rfl ?_; rintro - _ _ - hfr - ⟨rfl, h38, hO, hZe⟩; refine Or.inr ?_)
  all_goals first | omega | exact hQ _ _ ⟨_, rfl, Or.inl ⟨rfl, by omega, by omega, h38, hO, hZe⟩⟩ | exact hQ _ _ ⟨_, rfl, Or.inr ⟨rfl, by omega, rfl, rfl⟩⟩

set_option maxHeartbeats 8000000 in
set_option maxRecDepth 20000 in
theorem k82 {Z : sm_Z} (hZ : Z.2.2.2 = tb_N) (m : wk_M) (a b : Int) (hA : oA m.1) : wC Z 4 82 [39] [.inr (.inl 0), .inl a, .inl b] m (fun r m' => ∃ v : Int, r = some (.inl v) ∧ ((v = 1 ∧ 0 ≤ a ∧ a < m.1 38 (0 : Nat) ∧ 0 ≤ b ∧ b < m.1 38 (0 : Nat) ∧ oA m'.1 ∧ ∀ p q, 0 ≤ p → p < m.1 38 (0 : Nat) → 0 ≤ q → q ≤ 4 → (oB m'.1 p q ↔ oN m.1 a b p q)) ∨ (v = 0 ∧ (a < 0 ∨ m.1 38 (0 : Nat) ≤ a ∨ b < 0 ∨ m.1 38 (0 : Nat) ≤ b) ∧ m' = m))) := by
  refine wC.gen fun Q hQ => wk_E hZ (by exact rfl) [] rfl (fun _ _ => trivial) fun hr hs => ?_
  have e1 : ab_lo = -2147483648 := rfl
  have e2 : ab_hi = 2147483647 := rfl
  repeat' first | (intro h; exact absurd h (by decide)) | (intro h; exact absurd rfl h) | refine And.intro ?_ ?_ | intro _ | refine Or.inl ⟨by omega, by omega, ?_⟩ | refine Or.inr ?_ | exact trivial | (refine wk_use (k83 hZ _ _) rfl rfl ?_; rintro - _ _ - - - ⟨_, rfl, rfl, ⟨rfl, _⟩ | ⟨rfl, _⟩⟩; refine Or.inl ⟨[], rfl, ?_⟩) | (refine wk_use (k84b hZ _ _ _ (by omega) (by omega) (by omega) (by omega) hA) rfl rfl ?_; rintro - _ _ - hfr - ⟨rfl, hA', hN⟩; refine Or.inr ?_)
  all_goals first | omega | exact hQ _ _ ⟨_, rfl, Or.inl ⟨rfl, by omega, by omega, by omega, by omega, hA', hN⟩⟩ | exact hQ _ _ ⟨_, rfl, Or.inr ⟨rfl, by omega, rfl⟩⟩

set_option maxHeartbeats 8000000 in
set_option maxRecDepth 20000 in
theorem k86 {Z : sm_Z} (hZ : Z.2.2.2 = tb_N) (m : wk_M) (b k l : Int) : wC Z 2 86 [40, 41] [.inr (.inl 0), .inl b, .inl k, .inl l] m (fun r m' => ∃ v : Int, r = some (.inl v) ∧ ((v = 1 ∧ 0 ≤ k ∧ k ≤ 3 ∧ 0 ≤ l ∧ l < m.1 38 (0 : Nat) ∧ ((¬ b = 0 ∧ m' = wk_u m 41 k l) ∨ (b = 0 ∧ m' = wk_u m 40 k l))) ∨ (v = 0 ∧ (k < 0 ∨ 3 < k ∨ l < 0 ∨ m.1 38 (0 : Nat) ≤ l) ∧ m' = m))) := by
  refine wC.gen fun Q hQ => wk_E hZ (by exact rfl) [] rfl (fun _ _ => trivial) fun hr hs => ?_
  have e1 : ab_lo = -2147483648 := rfl
  have e2 : ab_hi = 2147483647 := rfl
  repeat' first | (intro h; exact absurd h (by decide)) | (intro h; exact absurd rfl h) | refine And.intro ?_ ?_ | intro _ | refine Or.inl ⟨by omega, by omega, ?_⟩ | refine Or.inr ?_ | exact trivial | (refine wk_use (k15 hZ _ _) rfl rfl ?_; rintro - _ _ - - - ⟨_, rfl, rfl, ⟨rfl, _⟩ | ⟨rfl, _⟩⟩; refine Or.inl ⟨[], rfl, ?_⟩) | (refine wk_use (k83 hZ _ _) rfl rfl ?_; rintro - _ _ - - - ⟨_, rfl, rfl, ⟨rfl, _⟩ | ⟨rfl, _⟩⟩; refine Or.inl ⟨[], rfl, ?_⟩) | (refine wk_use (k87 hZ _ _ _ _ (by omega) (by omega) (by omega) (by omega)) rfl rfl ?_; rintro - _ _ - hfr - ⟨rfl, hm⟩; refine Or.inr ?_)
  all_goals first | omega | exact hQ _ _ ⟨_, rfl, Or.inl ⟨rfl, by omega, by omega, by omega, by omega, hm⟩⟩ | exact hQ _ _ ⟨_, rfl, Or.inr ⟨rfl, by omega, rfl⟩⟩

set_option maxHeartbeats 8000000 in
set_option maxRecDepth 20000 in
theorem k88 {Z : sm_Z} (hZ : Z.2.2.2 = tb_N) (m : wk_M) (hA : oA m.1) (hr' : ∀ p, 0 ≤ p → p < m.1 38 (0 : Nat) → oB m.1 p p) : wC Z 5 88 [] [.inr (.inl 0)] m (fun r m' => ∃ v : Int, r = some (.inl v) ∧ m' = m ∧ ((0 ≤ v ∧ v ≤ 3) ∧ ltA (m.1 38 (0 : Nat)) (oB m.1) v)) := by
  refine wC.gen fun Q hQ => wk_E hZ (by exact rfl) [] rfl (fun _ _ => trivial) fun hr hs => ?_
  have e1 : ab_lo = -2147483648 := rfl
  have e2 : ab_hi = 2147483647 := rfl
  repeat' first | refine And.intro ?_ ?_ | intro _ | refine Or.inl ⟨by omega, by omega, ?_⟩ | refine Or.inr ?_ | exact trivial | (refine wk_use (k89b hZ _ hA hr') rfl rfl ?_; rintro - _ _ - - - ⟨_, rfl, rfl, ⟨_, _⟩, hlt⟩; refine Or.inl ⟨[], rfl, ?_⟩)
  all_goals first | omega | exact hQ _ _ ⟨_, rfl, rfl, ⟨by omega, by omega⟩, hlt⟩

set_option maxHeartbeats 8000000 in
set_option maxRecDepth 20000 in
theorem k95 {Z : sm_Z} (hZ : Z.2.2.2 = tb_N) (m : wk_M) (n x : Int) (n0 : 0 ≤ n) (n1 : n ≤ 31) : wC Z 2 95 [] [.inr (.inl 13), .inl n, .inl x] m (fun r m' => ∃ v : Int, r = some (.inl v) ∧ m' = m) := by
  obtain ⟨J0, hJ0⟩ : ∃ J : Int →Int →Int →Int → wk_M → Prop, ∀ n x s t m', J n x s t m' ↔ (m' = m ∧ (0 ≤ n ∧ n ≤ 31) ∧ 0 ≤ t ∧ t ≤ 4) := ⟨_, fun _ _ _ _ _ => Iff.rfl⟩
  refine wC.gen fun Q hQ => wk_E hZ (by exact rfl) [(5, [(3, 13), (1, 0), (1, 0), (1, 0), (1, 0)], fun vs _ m' => (match vs with
    | [n, x, s, t] => J0 n x s t m'
    | _ => False), fun vs _ m' => (match vs with
    | [n, x, s, t] => (4 - t : Int).toNat
    | _ => 0))] rfl (fun hr hs => ⟨?_, trivial⟩) (fun hr hs => ?_)
  · have e1 : ab_lo = -2147483648 := rfl
    have e2 : ab_hi = 2147483647 := rfl
    intro m2 hr2 hf2 n nl nh x xl xh s sl sh t tl th hI
    have hI := (hJ0 _ _ _ _ _).mp hI
    obtain ⟨rfl, ⟨n0, n1⟩, t0, t1⟩ := hI
    repeat' first | (intro h; exact absurd h (by decide)) | (intro h; exact absurd rfl h) | refine And.intro ?_ ?_ | intro _ | refine Or.inl ⟨by omega, by omega, ?_⟩ | refine Or.inr ?_ | exact trivial | (refine wk_use (k67 hZ _ _ _) rfl rfl ?_; rintro - _ _ - - - ⟨_, rfl, rfl, rfl | rfl⟩; refine Or.inl ⟨[], rfl, ?_⟩)
    all_goals first
      | omega
      | (show (4 - (_ : Int) : Int).toNat < (4 - (_ : Int) : Int).toNat; omega)
      | exact hQ _ _ ⟨_, rfl, rfl⟩
      | (show J0 _ _ _ _ _; refine (hJ0 _ _ _ _ _).mpr ⟨rfl, ⟨by omega, by omega⟩, by omega, by omega⟩)
  · have e1 : ab_lo = -2147483648 := rfl
    have e2 : ab_hi = 2147483647 := rfl
    repeat' first | (intro h; exact absurd h (by decide)) | (intro h; exact absurd rfl h) | refine And.intro ?_ ?_ | intro _ | refine Or.inl ⟨by omega, by omega, ?_⟩ | refine Or.inr ?_ | exact trivial
    all_goals first
      | omega
      | trivial
      | (show J0 _ _ _ _ _; refine (hJ0 _ _ _ _ _).mpr ⟨rfl, ⟨by omega, by omega⟩, by omega, by omega⟩)

set_option maxHeartbeats 8000000 in
set_option maxRecDepth 20000 in
theorem k94 {Z : sm_Z} (hZ : Z.2.2.2 = tb_N) (m : wk_M) (n x : Int) : wC Z 3 94 [] [.inr (.inl 0), .inl n, .inl x] m (fun r m' => ∃ v : Int, r = some (.inl v) ∧ m' = m) := by
  refine wC.gen fun Q hQ => wk_E hZ (by exact rfl) [] rfl (fun _ _ => trivial) fun hr hs => ?_
  have e1 : ab_lo = -2147483648 := rfl
  have e2 : ab_hi = 2147483647 := rfl
  repeat' first | (intro h; exact absurd h (by decide)) | (intro h; exact absurd rfl h) | refine And.intro ?_ ?_ | intro _ | refine Or.inl ⟨by omega, by omega, ?_⟩ | refine Or.inr ?_ | exact trivial | (refine wk_use (k44 hZ _ _) rfl rfl ?_; rintro - _ _ - - - ⟨_, rfl, rfl, ⟨rfl, _⟩ | ⟨rfl, _⟩⟩; refine Or.inl ⟨[], rfl, ?_⟩) | (refine wk_use (k95 hZ _ _ _ (by omega) (by omega)) rfl rfl ?_; rintro - _ _ - - - ⟨_, rfl, rfl⟩; refine Or.inl ⟨[], rfl, ?_⟩)
  all_goals first | omega | exact hQ _ _ ⟨_, rfl, rfl⟩

set_option maxHeartbeats 8000000 in
set_option maxRecDepth 20000 in
theorem k96 {Z : sm_Z} (hZ : Z.2.2.2 = tb_N) (m : wk_M) (i t o : Int) : wC Z 3 96 [] [.inr (.inl 0), .inl i, .inl t, .inl o] m (fun r m' => ∃ v : Int, r = some (.inl v) ∧ m' = m) := by
  refine wC.gen fun Q hQ => wk_E hZ (by exact rfl) [] rfl (fun _ _ => trivial) fun hr hs => ?_
  have e1 : ab_lo = -2147483648 := rfl
  have e2 : ab_hi = 2147483647 := rfl
  repeat' first | (intro h; exact absurd h (by decide)) | (intro h; exact absurd rfl h) | refine And.intro ?_ ?_ | intro _ | refine Or.inl ⟨by omega, by omega, ?_⟩ | refine Or.inr ?_ | exact trivial | (refine wk_use (k33 hZ _ _) rfl rfl ?_; rintro - _ _ - - - ⟨_, rfl, rfl, ⟨rfl, _⟩ | ⟨rfl, _⟩⟩; refine Or.inl ⟨[], rfl, ?_⟩) | (refine wk_use (k34 hZ _ _ (by omega) (by omega)) rfl rfl ?_; rintro - _ _ - - - ⟨_, rfl, rfl, _⟩; refine Or.inl ⟨[], rfl, ?_⟩) | (refine wk_use (k73 hZ _ _ _ _ (by omega) (by omega) (by omega) (by omega) (by omega) (by omega)) rfl rfl ?_; rintro - _ _ - - - ⟨_, rfl, rfl, _, _⟩; refine Or.inl ⟨[], rfl, ?_⟩)
  all_goals first | omega | exact hQ _ _ ⟨_, rfl, rfl⟩

set_option maxHeartbeats 8000000 in
set_option maxRecDepth 20000 in
theorem k97 {Z : sm_Z} (hZ : Z.2.2.2 = tb_N) (m : wk_M) (i b : Int) (b0 : 0 ≤ b) (b1 : b ≤ 1) (hC : CI m.1) : wC Z 5 97 [25, 26, 27, 28, 29, 32, 44, 45] [.inr (.inl 0), .inl i, .inl b] m (fun r m' => ∃ v : Int, r = some (.inl v) ∧ CI m'.1) := by
  refine wC.gen fun Q hQ => wk_E hZ (by exact rfl) [] rfl (fun _ _ => trivial) fun hr hs => ?_
  have e1 : ab_lo = -2147483648 := rfl
  have e2 : ab_hi = 2147483647 := rfl
  have cB := hC.2.1
  repeat' first | (intro h; exact absurd h (by decide)) | (intro h; exact absurd rfl h) | refine And.intro ?_ ?_ | intro _ | refine Or.inl ⟨by omega, by omega, ?_⟩ | refine Or.inr ?_ | exact trivial | (refine wk_use (k44 hZ _ _) rfl rfl ?_; rintro - _ _ - - - ⟨_, rfl, rfl, ⟨rfl, _⟩ | ⟨rfl, _⟩⟩; refine Or.inl ⟨[], rfl, ?_⟩) | (refine wk_use (k78 hZ _ _ _ (by omega) (by omega) (cB (by omega)).2.2) rfl rfl ?_; rintro - _ _ - hfr - rfl; have hp := congrFun (hfr 0 (by decide)).1 ((7 : Nat) : Int); (try simp (decide := true) only [wk_u_at, wk_ul_1, and_self, and_true, true_and, and_false, false_and, if_true, if_false] at hp); have hp := congrFun (hfr 44 (by decide)).1 ((1 : Nat) : Int); (try simp (decide := true) only [wk_u_at, wk_ul_1, and_self, and_true, true_and, and_false, false_and, if_true, if_false] at hp); have f1 := hfr; refine Or.inr ?_) | (refine wk_use (k98 hZ _ _ (by omega) (by omega) _ b0 b1) rfl rfl ?_; rintro - _ _ - hfr - ⟨rfl, h44⟩; have hp := congrFun (hfr 0 (by decide)).1 ((7 : Nat) : Int); (try simp (decide := true) only [wk_u_at, wk_ul_1, and_self, and_true, true_and, and_false, false_and, if_true, if_false] at hp); have f2 := hfr; refine Or.inr ?_) | (refine wk_use (k22 hZ _) rfl rfl ?_; rintro - _ _ - hfr - rfl; have hp := congrFun (hfr 0 (by decide)).1 ((7 : Nat) : Int); (try simp (decide := true) only [wk_u_at, wk_ul_1, and_self, and_true, true_and, and_false, false_and, if_true, if_false] at hp); have hp := congrFun (hfr 44 (by decide)).1 ((1 : Nat) : Int); (try simp (decide := true) only [wk_u_at, wk_ul_1, and_self, and_true, true_and, and_false, false_and, if_true, if_false] at hp); have f3 := hfr; refine Or.inr ?_) | (refine wk_use (k100 hZ _) rfl rfl ?_; rintro - _ _ - - - ⟨_, rfl, rfl⟩; refine Or.inl ⟨[], rfl, ?_⟩)
  all_goals first | omega | exact hQ _ _ ⟨_, rfl, hC⟩ | exact hQ _ _ ⟨_, rfl, CI_of (W := [25, 26, 27, 28, 29, 32, 44, 45]) (((f3.mono rfl).trans (f2.mono rfl)).trans (f1.mono rfl)) rfl (by omega) hC (fun _ => by omega)⟩

set_option maxHeartbeats 8000000 in
set_option maxRecDepth 20000 in
theorem k101 {Z : sm_Z} (hZ : Z.2.2.2 = tb_N) (m : wk_M) (hC : CI m.1) : wC Z 7 101 [25, 26, 27, 28, 29, 32, 44, 45] [.inr (.inl 0)] m (fun r m' => ∃ v : Int, r = some (.inl v) ∧ CI m'.1) := by
  refine wC.gen fun Q hQ => wk_E hZ (by exact rfl) [] rfl (fun _ _ => trivial) fun hr hs => ?_
  have e1 : ab_lo = -2147483648 := rfl
  have e2 : ab_hi = 2147483647 := rfl
  have cB := hC.2.1
  have cT := hC.2.2
  repeat' first | (intro h; exact absurd h (by decide)) | (intro h; exact absurd rfl h) | refine And.intro ?_ ?_ | intro _ | refine Or.inl ⟨by omega, by omega, ?_⟩ | refine Or.inr ?_ | exact trivial | (refine wk_use (k102 hZ _) rfl rfl ?_; rintro - _ _ - - - ⟨_, rfl, rfl, ⟨rfl, _⟩ | rfl⟩; refine Or.inl ⟨[], rfl, ?_⟩) | (refine wk_use (k103 hZ _ (cB (cT (by omega))).2.2) rfl rfl ?_; rintro - _ _ - hfr - rfl; have hp := congrFun (hfr 0 (by decide)).1 ((7 : Nat) : Int); (try simp (decide := true) only [wk_u_at, wk_ul_1, and_self, and_true, true_and, and_false, false_and, if_true, if_false] at hp); have hp := congrFun (hfr 44 (by decide)).1 ((1 : Nat) : Int); (try simp (decide := true) only [wk_u_at, wk_ul_1, and_self, and_true, true_and, and_false, false_and, if_true, if_false] at hp); have f1 := hfr; refine Or.inr ?_) | (refine wk_use (k22 hZ _) rfl rfl ?_; rintro - _ _ - hfr - rfl; have hp := congrFun (hfr 0 (by decide)).1 ((7 : Nat) : Int); (try simp (decide := true) only [wk_u_at, wk_ul_1, and_self, and_true, true_and, and_false, false_and, if_true, if_false] at hp); have hp := congrFun (hfr 44 (by decide)).1 ((1 : Nat) : Int); (try simp (decide := true) only [wk_u_at, wk_ul_1, and_self, and_true, true_and, and_false, false_and, if_true, if_false] at hp); have f3 := hfr; refine Or.inr ?_) | (refine wk_use (k100 hZ _) rfl rfl ?_; rintro - _ _ - - - ⟨_, rfl, rfl⟩; refine Or.inl ⟨[], rfl, ?_⟩)
  all_goals first | omega | exact hQ _ _ ⟨_, rfl, hC⟩ | exact hQ _ _ ⟨_, rfl, CI_of (W := [25, 26, 27, 28, 29, 32, 44, 45]) ((f3.mono rfl).trans (f1.mono rfl)) rfl (by omega) hC (fun _ => by omega)⟩

set_option maxHeartbeats 8000000 in
set_option maxRecDepth 20000 in
theorem k106 {Z : sm_Z} (hZ : Z.2.2.2 = tb_N) (m : wk_M) (k : Int) : wC Z 2 106 [] [.inr (.inl 0), .inl k] m (fun r m' => ∃ v : Int, r = some (.inl v) ∧ m' = m) := by
  refine wC.gen fun Q hQ => wk_E hZ (by exact rfl) [] rfl (fun _ _ => trivial) fun hr hs => ?_
  have e1 : ab_lo = -2147483648 := rfl
  have e2 : ab_hi = 2147483647 := rfl
  repeat' first | (intro h; exact absurd h (by decide)) | (intro h; exact absurd rfl h) | refine And.intro ?_ ?_ | intro _ | refine Or.inl ⟨by omega, by omega, ?_⟩ | refine Or.inr ?_ | exact trivial | (refine wk_use (k107 hZ _) rfl rfl ?_; rintro - _ _ - - - ⟨_, rfl, rfl, _, _, _⟩; refine Or.inl ⟨[], rfl, ?_⟩) | (refine wk_use (k45 hZ _ _) rfl rfl ?_; rintro - _ _ - - - ⟨_, rfl, rfl, ⟨rfl, _⟩ | ⟨rfl, _⟩⟩; refine Or.inl ⟨[], rfl, ?_⟩) | (refine wk_use (k108 hZ _) rfl rfl ?_; rintro - _ _ - - - ⟨_, rfl, rfl⟩; refine Or.inl ⟨[], rfl, ?_⟩) | (refine wk_use (k67 hZ _ _ _) rfl rfl ?_; rintro - _ _ - - - ⟨_, rfl, rfl, rfl | rfl⟩; refine Or.inl ⟨[], rfl, ?_⟩)
  all_goals first | omega | exact hQ _ _ ⟨_, rfl, rfl⟩

set_option maxHeartbeats 8000000 in
set_option maxRecDepth 20000 in
theorem k109 {Z : sm_Z} (hZ : Z.2.2.2 = tb_N) (m : wk_M) (k x : Int) : wC Z 2 109 [33] [.inr (.inl 0), .inl k, .inl x] m (fun r m' => ∃ v : Int, r = some (.inl v) ∧ ((v = 1 ∧ 0 ≤ k ∧ k ≤ 3) ∨ (v = 0 ∧ (k < 0 ∨ 3 < k)))) := by
  refine wC.gen fun Q hQ => wk_E hZ (by exact rfl) [] rfl (fun _ _ => trivial) fun hr hs => ?_
  have e1 : ab_lo = -2147483648 := rfl
  have e2 : ab_hi = 2147483647 := rfl
  repeat' first | (intro h; exact absurd h (by decide)) | (intro h; exact absurd rfl h) | refine And.intro ?_ ?_ | intro _ | refine Or.inl ⟨by omega, by omega, ?_⟩ | refine Or.inr ?_ | exact trivial | (refine wk_use (k15 hZ _ _) rfl rfl ?_; rintro - _ _ - - - ⟨_, rfl, rfl, ⟨rfl, _⟩ | ⟨rfl, _⟩⟩; refine Or.inl ⟨[], rfl, ?_⟩) | (refine wk_use (k110 hZ _ _ _ (by omega) (by omega)) rfl rfl ?_; rintro - _ _ - hfr - rfl; refine Or.inr ?_)
  all_goals first | omega | exact hQ _ _ ⟨_, rfl, by omega⟩

set_option maxHeartbeats 8000000 in
set_option maxRecDepth 20000 in
theorem k111 {Z : sm_Z} (hZ : Z.2.2.2 = tb_N) (m : wk_M) (b f : Int) (hC : CI m.1) : wC Z 7 111 [28, 29, 30, 31, 32, 34, 35, 36, 37] [.inr (.inl 0), .inl b, .inl f] m (fun r m' => ∃ v : Int, r = some (.inl v)) := by
  refine wC.gen fun Q hQ => wk_E hZ (by exact rfl) [] rfl (fun _ _ => trivial) fun hr hs => ?_
  have e1 : ab_lo = -2147483648 := rfl
  have e2 : ab_hi = 2147483647 := rfl
  have cO := hC.1
  have cB := hC.2.1
  repeat' first | (intro h; exact absurd h (by decide)) | (intro h; exact absurd rfl h) | refine And.intro ?_ ?_ | intro _ | refine Or.inl ⟨by omega, by omega, ?_⟩ | refine Or.inr ?_ | exact trivial | (refine wk_use (k102 hZ _) rfl rfl ?_; rintro - _ _ - - - ⟨_, rfl, rfl, ⟨rfl, _⟩ | rfl⟩; refine Or.inl ⟨[], rfl, ?_⟩) | (refine wk_use (k107 hZ _) rfl rfl ?_; rintro - _ _ - - - ⟨_, rfl, rfl, _, _, _⟩; refine Or.inl ⟨[], rfl, ?_⟩) | (refine wk_use (k112 hZ _) rfl rfl ?_; rintro - _ _ - - - ⟨_, rfl, rfl, _, _⟩; refine Or.inl ⟨[], rfl, ?_⟩) | (refine wk_use (k108 hZ _) rfl rfl ?_; rintro - _ _ - - - ⟨_, rfl, rfl⟩; refine Or.inl ⟨[], rfl, ?_⟩) | (refine wk_use (k113 hZ _ _ _ _ (by omega) (by omega) (by omega) (by omega) cO (cB (by omega)).1) rfl rfl ?_; rintro - _ _ - hfr - ⟨_, rfl, _, _⟩; refine Or.inr ?_)
  all_goals first | omega | exact hQ _ _ ⟨_, rfl⟩

set_option maxHeartbeats 8000000 in
set_option maxRecDepth 20000 in
theorem k128 {Z : sm_Z} (hZ : Z.2.2.2 = tb_N) (m : wk_M)  : wC Z 2 128 [] [.inr (.inl 0)] m (fun r m' => ∃ v : Int, r = some (.inl v) ∧ m' = m) := by
  refine wC.gen fun Q hQ => wk_E hZ (by exact rfl) [] rfl (fun _ _ => trivial) fun hr hs => ?_
  have e1 : ab_lo = -2147483648 := rfl
  have e2 : ab_hi = 2147483647 := rfl
  repeat' first | (intro h; exact absurd h (by decide)) | (intro h; exact absurd rfl h) | refine And.intro ?_ ?_ | intro _ | refine Or.inl ⟨by omega, by omega, ?_⟩ | refine Or.inr ?_ | exact trivial | (refine wk_use (k129 hZ _) rfl rfl ?_; rintro - _ _ - - - ⟨_, rfl, rfl⟩; refine Or.inl ⟨[], rfl, ?_⟩)
  all_goals first | omega | exact hQ _ _ ⟨_, rfl, rfl⟩

set_option maxHeartbeats 8000000 in
set_option maxRecDepth 20000 in
theorem k130 {Z : sm_Z} (hZ : Z.2.2.2 = tb_N) (m : wk_M) (k : Int) : wC Z 2 130 [] [.inr (.inl 0), .inl k] m (fun r m' => ∃ v : Int, r = some (.inl v) ∧ m' = m) := by
  refine wC.gen fun Q hQ => wk_E hZ (by exact rfl) [] rfl (fun _ _ => trivial) fun hr hs => ?_
  have e1 : ab_lo = -2147483648 := rfl
  have e2 : ab_hi = 2147483647 := rfl
  repeat' first | (intro h; exact absurd h (by decide)) | (intro h; exact absurd rfl h) | refine And.intro ?_ ?_ | intro _ | refine Or.inl ⟨by omega, by omega, ?_⟩ | refine Or.inr ?_ | exact trivial | (refine wk_use (k107 hZ _) rfl rfl ?_; rintro - _ _ - - - ⟨_, rfl, rfl, _, _, _⟩; refine Or.inl ⟨[], rfl, ?_⟩) | (refine wk_use (k131 hZ _ _) rfl rfl ?_; rintro - _ _ - - - ⟨_, rfl, rfl⟩; refine Or.inl ⟨[], rfl, ?_⟩)
  all_goals first | omega | exact hQ _ _ ⟨_, rfl, rfl⟩

set_option maxHeartbeats 8000000 in
set_option maxRecDepth 20000 in
theorem k132 {Z : sm_Z} (hZ : Z.2.2.2 = tb_N) (m : wk_M) (c k : Int) : wC Z 2 132 [] [.inr (.inl 0), .inl c, .inl k] m (fun r m' => ∃ v : Int, r = some (.inl v) ∧ m' = m) := by
  refine wC.gen fun Q hQ => wk_E hZ (by exact rfl) [] rfl (fun _ _ => trivial) fun hr hs => ?_
  have e1 : ab_lo = -2147483648 := rfl
  have e2 : ab_hi = 2147483647 := rfl
  repeat' first | (intro h; exact absurd h (by decide)) | (intro h; exact absurd rfl h) | refine And.intro ?_ ?_ | intro _ | refine Or.inl ⟨by omega, by omega, ?_⟩ | refine Or.inr ?_ | exact trivial | (refine wk_use (k15 hZ _ _) rfl rfl ?_; rintro - _ _ - - - ⟨_, rfl, rfl, ⟨rfl, _⟩ | ⟨rfl, _⟩⟩; refine Or.inl ⟨[], rfl, ?_⟩) | (refine wk_use (k133 hZ _ _ _ (by omega) (by omega)) rfl rfl ?_; rintro - _ _ - - - ⟨_, rfl, rfl⟩; refine Or.inl ⟨[], rfl, ?_⟩)
  all_goals first | omega | exact hQ _ _ ⟨_, rfl, rfl⟩

set_option maxHeartbeats 8000000 in
set_option maxRecDepth 20000 in
theorem k135 {Z : sm_Z} (hZ : Z.2.2.2 = tb_N) (m : wk_M)  : wC Z 5 135 [] [.inr (.inl 0)] m (fun r m' => ∃ v : Int, r = some (.inl v) ∧ m' = m ∧ (0 ≤ v ∧ v ≤ 1)) := by
  refine wC.gen fun Q hQ => wk_E hZ (by exact rfl) [] rfl (fun _ _ => trivial) fun hr hs => ?_
  have e1 : ab_lo = -2147483648 := rfl
  have e2 : ab_hi = 2147483647 := rfl
  repeat' first | refine And.intro ?_ ?_ | intro _ | refine Or.inl ⟨by omega, by omega, ?_⟩ | refine Or.inr ?_ | exact trivial | (refine wk_use (k89 hZ _) rfl rfl ?_; rintro - _ _ - - - ⟨_, rfl, rfl, _, _⟩; refine Or.inl ⟨[], rfl, ?_⟩)
  all_goals first | omega | exact hQ _ _ ⟨_, rfl, rfl, by omega⟩

set_option maxHeartbeats 8000000 in
set_option maxRecDepth 20000 in
theorem k134 {Z : sm_Z} (hZ : Z.2.2.2 = tb_N) (m : wk_M) (hC : CI m.1) : wC Z 6 134 [] [.inr (.inl 0)] m (fun r m' => ∃ v : Int, r = some (.inl v) ∧ m' = m) := by
  refine wC.gen fun Q hQ => wk_E hZ (by exact rfl) [] rfl (fun _ _ => trivial) fun hr hs => ?_
  have e1 : ab_lo = -2147483648 := rfl
  have e2 : ab_hi = 2147483647 := rfl
  repeat' first | (intro h; exact absurd h (by decide)) | (intro h; exact absurd rfl h) | refine And.intro ?_ ?_ | intro _ | refine Or.inl ⟨by omega, by omega, ?_⟩ | refine Or.inr ?_ | exact trivial | (refine wk_use (k135 hZ _) rfl rfl ?_; rintro - _ _ - - - ⟨_, rfl, rfl, _, _⟩; refine Or.inl ⟨[], rfl, ?_⟩) | (refine wk_use (k136 hZ _ hC.1) rfl rfl ?_; rintro - _ _ - - - ⟨_, rfl, rfl⟩; refine Or.inl ⟨[], rfl, ?_⟩)
  all_goals first | omega | exact hQ _ _ ⟨_, rfl, rfl⟩

set_option maxHeartbeats 8000000 in
set_option maxRecDepth 20000 in
theorem k140 {Z : sm_Z} (hZ : Z.2.2.2 = tb_N) (m : wk_M) (j : Int) (hC : CI m.1) : wC Z 6 140 [] [.inr (.inl 0), .inl j] m (fun r m' => ∃ v : Int, r = some (.inl v) ∧ m' = m) := by
  refine wC.gen fun Q hQ => wk_E hZ (by exact rfl) [] rfl (fun _ _ => trivial) fun hr hs => ?_
  have e1 : ab_lo = -2147483648 := rfl
  have e2 : ab_hi = 2147483647 := rfl
  repeat' first | (intro h; exact absurd h (by decide)) | (intro h; exact absurd rfl h) | refine And.intro ?_ ?_ | intro _ | refine Or.inl ⟨by omega, by omega, ?_⟩ | refine Or.inr ?_ | exact trivial | (refine wk_use (k135 hZ _) rfl rfl ?_; rintro - _ _ - - - ⟨_, rfl, rfl, _, _⟩; refine Or.inl ⟨[], rfl, ?_⟩) | (refine wk_use (k141 hZ _ _ hC.1) rfl rfl ?_; rintro - _ _ - - - ⟨_, rfl, rfl⟩; refine Or.inl ⟨[], rfl, ?_⟩)
  all_goals first | omega | exact hQ _ _ ⟨_, rfl, rfl⟩
