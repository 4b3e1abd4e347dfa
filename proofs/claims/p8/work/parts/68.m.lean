/-! the reference: what holds between calls, and its methods -/
def RI (f : Nat → Int → Int) : Prop := rOps f ∧ (f 46 (5 : Nat) = 1 → rWL f ∧ rCl f)
theorem RI_of {m' m : wk_M} (e0 : m'.1 46 (0 : Nat) = m.1 46 (0 : Nat)) (e5 : m'.1 46 (5 : Nat) = m.1 46 (5 : Nat)) (e6 : m'.1 46 (6 : Nat) = m.1 46 (6 : Nat)) (h : ∀ p, 47 ≤ p → p ≤ 57 → m'.1 p = m.1 p) (hR : RI m.1) : RI m'.1 := ⟨rOps_fr e0 h hR.1, fun z => ⟨rWL_fr e0 e6 h (hR.2 (by omega)).1, rCl_fr e0 e6 h (hR.2 (by omega)).2⟩⟩
theorem RI_fr {W : List Nat} {m' m : wk_M} (h : wk_fr W m' m) (h46 : 46 ∉ W) (hw : (W.all fun p => Nat.beq p 46 || (Nat.ble 58 p || Nat.ble p 45)) = true) (hR : RI m.1) : RI m'.1 := by
  have e := (h 46 h46).1
  refine RI_of (by rw [e]) (by rw [e]) (by rw [e]) (fun p p0 p1 => (h p (fun z => ?_)).1) hR
  have := List.all_eq_true.mp hw p z
  rw [Bool.or_eq_true, Bool.or_eq_true] at this
  rcases this with a | a | a
  · have := dp_beq a
    omega
  · have := Nat.le_of_ble_eq_true a
    omega
  · have := Nat.le_of_ble_eq_true a
    omega
theorem rOps_add {m : wk_M} {o d a b : Int} (h : rOps m.1) (hd : nD o → 0 ≤ d ∧ d ≤ 3) (ha : nA o → 0 ≤ a ∧ a ≤ 3) (hb : nB o → 0 ≤ b ∧ b ≤ 3) : rOps (wk_u (wk_u (wk_u (wk_u (wk_u m 47 (m.1 46 (0 : Nat)) o) 48 (m.1 46 (0 : Nat)) d) 49 (m.1 46 (0 : Nat)) a) 50 (m.1 46 (0 : Nat)) b) 46 (0 : Nat) (m.1 46 (0 : Nat) + 1)).1 := by
  generalize hg : (wk_u (wk_u (wk_u (wk_u (wk_u m 47 (m.1 46 (0 : Nat)) o) 48 (m.1 46 (0 : Nat)) d) 49 (m.1 46 (0 : Nat)) a) 50 (m.1 46 (0 : Nat)) b) 46 (0 : Nat) (m.1 46 (0 : Nat) + 1)).1 = g
  have g1 : g 46 (0 : Nat) = m.1 46 (0 : Nat) + 1 := by rw [← hg]; simp (decide := true) only [wk_u_at, wk_ul_1, and_self, and_true, true_and, and_false, false_and, if_true, if_false]
  have g2 : ∀ i, g 47 i = if i = m.1 46 (0 : Nat) then o else m.1 47 i := by intro i; rw [← hg]; simp (decide := true) only [wk_u_at, wk_ul_1, and_self, and_true, true_and, and_false, false_and, if_true, if_false]
  have g3 : ∀ i, g 48 i = if i = m.1 46 (0 : Nat) then d else m.1 48 i := by intro i; rw [← hg]; simp (decide := true) only [wk_u_at, wk_ul_1, and_self, and_true, true_and, and_false, false_and, if_true, if_false]
  have g4 : ∀ i, g 49 i = if i = m.1 46 (0 : Nat) then a else m.1 49 i := by intro i; rw [← hg]; simp (decide := true) only [wk_u_at, wk_ul_1, and_self, and_true, true_and, and_false, false_and, if_true, if_false]
  have g5 : ∀ i, g 50 i = if i = m.1 46 (0 : Nat) then b else m.1 50 i := by intro i; rw [← hg]; simp (decide := true) only [wk_u_at, wk_ul_1, and_self, and_true, true_and, and_false, false_and, if_true, if_false]
  intro i i0 i1
  rw [g1] at i1
  rw [g2, g3, g4, g5]
  by_cases e : i = m.1 46 (0 : Nat)
  · rw [if_pos e, if_pos e, if_pos e, if_pos e]
    exact ⟨hd, ha, hb⟩
  · rw [if_neg e, if_neg e, if_neg e, if_neg e]
    exact h i i0 (by omega)

set_option maxHeartbeats 8000000 in
set_option maxRecDepth 20000 in
theorem k143 {Z : sm_Z} (hZ : Z.2.2.2 = tb_N) (m : wk_M) (o d a b : Int) (hR : RI m.1) : wC Z 2 143 [46, 47, 48, 49, 50] [.inr (.inl 46), .inl o, .inl d, .inl a, .inl b] m (fun r m' => ∃ v : Int, r = some (.inl v) ∧ RI m'.1 ∧ m'.1 46 (34 : Nat) = m.1 46 (34 : Nat) ∧ ((v = -1 ∧ m' = m ∧ (m.1 46 (5 : Nat) = 1 ∨ 32 ≤ m.1 46 (0 : Nat) ∨ ¬ okA o d a b)) ∨ (v = m.1 46 (0 : Nat) ∧ m' = wk_u (wk_u (wk_u (wk_u (wk_u m 47 (m.1 46 (0 : Nat)) o) 48 (m.1 46 (0 : Nat)) d) 49 (m.1 46 (0 : Nat)) a) 50 (m.1 46 (0 : Nat)) b) 46 (0 : Nat) (m.1 46 (0 : Nat) + 1) ∧ ¬ m.1 46 (5 : Nat) = 1 ∧ m.1 46 (0 : Nat) < 32 ∧ okA o d a b))) := by
  refine wC.gen fun Q hQ => wk_E hZ (by exact rfl) [] rfl (fun _ _ => trivial) fun hr hs => ?_
  have e1 : ab_lo = -2147483648 := rfl
  have e2 : ab_hi = 2147483647 := rfl
  obtain ⟨-, ⟨o0, o1⟩, ⟨d0, d1⟩, ⟨a0, a1⟩, ⟨b0, b1⟩, -⟩ := hs
  have hb5 : 0 ≤ m.1 46 (5 : Nat) ∧ m.1 46 (5 : Nat) ≤ 1 := hr.1 46 5
  have hc : 0 ≤ m.1 46 (0 : Nat) ∧ m.1 46 (0 : Nat) ≤ 32 := hr.1 46 0
  repeat' first | (intro h; exact absurd h (by decide)) | (intro h; exact absurd rfl h) | (intro _; exfalso; omega) | refine And.intro ?_ ?_ | intro _ | refine Or.inl ⟨by omega, by omega, ?_⟩ | refine Or.inr ?_ | exact trivial | (refine wk_use (k144 hZ _ _) rfl rfl ?_; rintro - _ _ - - - ⟨_, rfl, rfl, ⟨rfl, _⟩ | ⟨rfl, _⟩⟩; refine Or.inl ⟨[], rfl, ?_⟩)
  all_goals first | omega | exact hQ _ _ ⟨_, rfl, hR, rfl, Or.inl ⟨rfl, rfl, Or.inl (by omega)⟩⟩ | exact hQ _ _ ⟨_, rfl, hR, rfl, Or.inl ⟨rfl, rfl, Or.inr (Or.inl (by omega))⟩⟩ | exact hQ _ _ ⟨_, rfl, hR, rfl, Or.inl ⟨rfl, rfl, Or.inr (Or.inr (by unfold okA nD nA nB; omega))⟩⟩ | exact hQ _ _ ⟨_, rfl, ⟨rOps_add hR.1 (by unfold nD; omega) (by unfold nA; omega) (by unfold nB; omega), fun z => by simp (decide := true) only [wk_u_at, wk_ul_1, and_self, and_true, true_and, and_false, false_and, if_true, if_false] at z <;> omega⟩, by simp (decide := true) only [wk_u_at, wk_ul_1, and_self, and_true, true_and, and_false, false_and, if_true, if_false], Or.inr ⟨by omega, rfl, by omega, by omega, by unfold okA nD nA nB; omega⟩⟩

set_option maxHeartbeats 8000000 in
set_option maxRecDepth 20000 in
theorem k145 {Z : sm_Z} (hZ : Z.2.2.2 = tb_N) (m : wk_M)  : wC Z 1 145 [46] [.inr (.inl 46)] m (fun r m' => r = none ∧ RI m'.1 ∧ m'.1 46 (34 : Nat) = m.1 46 (34 : Nat) ∧ m'.1 46 (0 : Nat) = 0 ∧ m'.1 46 (5 : Nat) = 0) := by
  refine wC.gen fun Q hQ => wk_E hZ (by exact rfl) [] rfl (fun _ _ => trivial) fun hr hs => ?_
  have e1 : ab_lo = -2147483648 := rfl
  have e2 : ab_hi = 2147483647 := rfl
  repeat' first | refine And.intro ?_ ?_ | intro _ | refine Or.inl ⟨by omega, by omega, ?_⟩ | refine Or.inr ?_ | exact trivial
  all_goals first | omega | exact hQ _ _ ⟨rfl, ⟨fun i i0 i1 => by simp (decide := true) only [wk_u_at, wk_ul_1, and_self, and_true, true_and, and_false, false_and, if_true, if_false] at i1 <;> omega, fun z => by simp (decide := true) only [wk_u_at, wk_ul_1, and_self, and_true, true_and, and_false, false_and, if_true, if_false] at z <;> omega⟩, by simp (decide := true) only [wk_u_at, wk_ul_1, and_self, and_true, true_and, and_false, false_and, if_true, if_false], by simp (decide := true) only [wk_u_at, wk_ul_1, and_self, and_true, true_and, and_false, false_and, if_true, if_false], by simp (decide := true) only [wk_u_at, wk_ul_1, and_self, and_true, true_and, and_false, false_and, if_true, if_false]⟩

theorem RI_built {m1 m2 m3 : wk_M} (hO : rOps m1.1) (hL : rWL m1.1) (hK : rCl m1.1) (f1 : wk_fr [59] m2 (wk_u m1 46 (5 : Nat) 1)) (f2 : wk_fr [60, 61, 62, 63] m3 m2) : RI m3.1 := by
  have g : wk_fr [59, 60, 61, 62, 63] m3 (wk_u m1 46 (5 : Nat) 1) := (f2.mono rfl).trans (f1.mono rfl)
  have e46 := (g 46 (by decide)).1
  have h57 : ∀ p, 47 ≤ p → p ≤ 57 → m3.1 p = m1.1 p := fun p p0 p1 => (fr_57 g rfl p p0 p1).trans (wk_u_ne m1 46 _ _ (by omega))
  have e0 : m3.1 46 (0 : Nat) = m1.1 46 (0 : Nat) := by rw [e46]; simp (decide := true) only [wk_u_at, wk_ul_1, and_self, and_true, true_and, and_false, false_and, if_true, if_false]
  have e6 : m3.1 46 (6 : Nat) = m1.1 46 (6 : Nat) := by rw [e46]; simp (decide := true) only [wk_u_at, wk_ul_1, and_self, and_true, true_and, and_false, false_and, if_true, if_false]
  exact ⟨rOps_fr e0 h57 hO, fun _ => ⟨rWL_fr e0 e6 h57 hL, rCl_fr e0 e6 h57 hK⟩⟩
theorem rOps_lay {m' m : wk_M} (h : wk_fr [46, 51, 52, 53, 54, 55, 56, 57, 58] m' m) (hc : m'.1 46 (0 : Nat) = m.1 46 (0 : Nat)) (hO : rOps m.1) : rOps m'.1 := by
  unfold rOps
  rw [hc, (h 47 (by decide)).1, (h 48 (by decide)).1, (h 49 (by decide)).1, (h 50 (by decide)).1]
  exact hO

theorem rb_46 {m1 m2 m3 : wk_M} (f1 : wk_fr [59] m2 (wk_u m1 46 (5 : Nat) 1)) (f2 : wk_fr [60, 61, 62, 63] m3 m2) : m3.1 46 = (wk_u m1 46 (5 : Nat) 1).1 46 := ((f2 46 (by decide)).1).trans (f1 46 (by decide)).1
theorem rb_57 {m1 m2 m3 : wk_M} (f1 : wk_fr [59] m2 (wk_u m1 46 (5 : Nat) 1)) (f2 : wk_fr [60, 61, 62, 63] m3 m2) (p : Nat) (p0 : 47 ≤ p) (p1 : p ≤ 57) : m3.1 p = m1.1 p := by
  have g : wk_fr [59, 60, 61, 62, 63] m3 (wk_u m1 46 (5 : Nat) 1) := (f2.mono rfl).trans (f1.mono rfl)
  exact (fr_57 g rfl p p0 p1).trans (wk_u_ne m1 46 _ _ (by omega))
theorem rb_z {G : wk_M} {c : Int} {m1 m2 m3 : wk_M} (f1 : wk_fr [59] m2 (wk_u m1 46 (5 : Nat) 1)) (f2 : wk_fr [60, 61, 62, 63] m3 m2) (h : sZ G c (m1.1 46 (6 : Nat)) (m1.1 54) (m1.1 55) (m1.1 56) (m1.1 53) (m1.1 51) (m1.1 52)) : sZ G c (m3.1 46 (6 : Nat)) (m3.1 54) (m3.1 55) (m3.1 56) (m3.1 53) (m3.1 51) (m3.1 52) := sZ_same h (by rw [rb_46 f1 f2]; simp (decide := true) only [wk_u_at, wk_ul_1, and_self, and_true, true_and, and_false, false_and, if_true, if_false]) (rb_57 f1 f2 54 (by decide) (by decide)) (rb_57 f1 f2 55 (by decide) (by decide)) (rb_57 f1 f2 56 (by decide) (by decide)) (rb_57 f1 f2 53 (by decide) (by decide)) (rb_57 f1 f2 51 (by decide) (by decide)) (rb_57 f1 f2 52 (by decide) (by decide))

set_option maxHeartbeats 8000000 in
set_option maxRecDepth 20000 in
theorem k146 {Z : sm_Z} (hZ : Z.2.2.2 = tb_N) (m : wk_M) (hR : RI m.1) (op : Int → Int) (ho : ∀ j, 0 ≤ j → j < m.1 46 (0 : Nat) → op j = m.1 47 j) : wC Z 8 146 [46, 51, 52, 53, 54, 55, 56, 57, 58, 59, 60, 61, 62, 63] [.inr (.inl 46)] m (fun r m' => ∃ v : Int, r = some (.inl v) ∧ RI m'.1 ∧ m'.1 46 (34 : Nat) = m.1 46 (34 : Nat) ∧ m'.1 46 (0 : Nat) = m.1 46 (0 : Nat) ∧ ((m.1 46 (5 : Nat) = 1 ∧ v = -2 ∧ m' = m) ∨ (¬ m.1 46 (5 : Nat) = 1 ∧ ∃ u, lyC op (m.1 46 (0 : Nat)) u ∧ ((u = -1 ∧ v = 0 ∧ m'.1 46 (5 : Nat) = 1 ∧ sZ (lyI op (m.1 46 (0 : Nat)).toNat) (m.1 46 (0 : Nat)) (m'.1 46 (6 : Nat)) (m'.1 54) (m'.1 55) (m'.1 56) (m'.1 53) (m'.1 51) (m'.1 52)) ∨ (¬ u = -1 ∧ v = -3 - u ∧ m'.1 46 (5 : Nat) = m.1 46 (5 : Nat)))))) := by
  obtain ⟨J0, hJ0⟩ : ∃ J : Int →Int → wk_M → Prop, ∀ bad i m', J bad i m' ↔ ((0 ≤ i ∧ i ≤ 32) ∧ (-1 ≤ bad ∧ bad ≤ 32) ∧ rOps m'.1 ∧ (m'.1 46 (5 : Nat) = 0 ∧ m'.1 46 (34 : Nat) = m.1 46 (34 : Nat) ∧ m'.1 46 (0 : Nat) = m.1 46 (0 : Nat) ∧ m.1 46 (5 : Nat) = 0) ∧ (bad < 0 → rWL m'.1 ∧ cOK (m'.1 47) (m'.1 46 (6 : Nat)) i ∧ i ≤ m.1 46 (0 : Nat) ∧ sZ (lyI op (m.1 46 (0 : Nat)).toNat) (m.1 46 (0 : Nat)) (m'.1 46 (6 : Nat)) (m'.1 54) (m'.1 55) (m'.1 56) (m'.1 53) (m'.1 51) (m'.1 52)) ∧ ((0 ≤ bad ∧ lyC op (m.1 46 (0 : Nat)) bad) ∨ (bad = -1 ∧ lyS op (m.1 46 (0 : Nat)) (-1)))) := ⟨_, fun _ _ _ => Iff.rfl⟩
  refine wC.gen fun Q hQ => wk_E hZ (by exact rfl) [(17, [(3, 46), (1, 0), (1, 0)], fun vs _ m' => (match vs with
    | [bad, i] => J0 bad i m'
    | _ => False), fun vs _ m' => (match vs with
    | [bad, i] => (32 - i : Int).toNat
    | _ => 0))] rfl (fun hr hs => ⟨?_, trivial⟩) (fun hr hs => ?_)
  · have e1 : ab_lo = -2147483648 := rfl
    have e2 : ab_hi = 2147483647 := rfl
    intro m2 hr2 hf2 bad badl badh i il ih hI
    have hI := (hJ0 _ _ _).mp hI
    obtain ⟨⟨i0, i1⟩, ⟨b0, b1⟩, hO, ⟨h5, h34, h0, hn5⟩, hb, hly⟩ := hI
    have hc : 0 ≤ m2.1 46 (0 : Nat) ∧ m2.1 46 (0 : Nat) ≤ 32 := hr2.1 46 0
    have h47 : m2.1 47 = m.1 47 := (hf2 47 (by decide)).1
    have hob : ∀ j, 0 ≤ j → j < m.1 46 (0 : Nat) → op j = m2.1 47 j := fun j a b => by rw [h47]; exact ho j a b
    have hbi : bad < 0 → i ≤ m.1 46 (0 : Nat) := fun z => (hb z).2.2.1
    repeat' first | (intro h; exact absurd h (by decide)) | (intro h; exact absurd rfl h) | refine And.intro ?_ ?_ | intro _ | refine Or.inl ⟨by omega, by omega, ?_⟩ | refine Or.inr ?_ | exact trivial | (refine wk_use (k148 hZ _ _ (by omega) (by omega)) rfl rfl ?_; rintro - _ _ - - - ⟨_, rfl, rfl, ⟨rfl, hcl⟩ | ⟨rfl, hcl⟩⟩; refine Or.inl ⟨[], rfl, ?_⟩) | (refine wk_use (k149 hZ _) rfl rfl ?_; rintro - _ _ - hfr - rfl; have f1 := hfr; refine Or.inr ?_) | (refine wk_use (k152 hZ _) rfl rfl ?_; rintro - _ _ - hfr - rfl; have f2 := hfr; refine Or.inr ?_)
    all_goals first
      | omega
      | (show (32 - (_ : Int) : Int).toNat < (32 - (_ : Int) : Int).toNat; omega)
      | exact hQ _ _ ⟨_, rfl, ⟨hO, fun z => by omega⟩, h34, h0, Or.inr ⟨by omega, _, (by rcases hly with q | q; (exact q.2); (exfalso; omega) : lyC op (m.1 46 (0 : Nat)) bad), Or.inr ⟨by omega, by omega, by omega⟩⟩⟩
      | exact hQ _ _ ⟨_, rfl, RI_built hO (hb (by omega)).1 (fun j j0 j1 => (hb (by omega)).2.1 j j0 (by omega)) f1 f2, by rw [rb_46 f1 f2]; simp (decide := true) only [wk_u_at, wk_ul_1, and_self, and_true, true_and, and_false, false_and, if_true, if_false] <;> omega, by rw [rb_46 f1 f2]; simp (decide := true) only [wk_u_at, wk_ul_1, and_self, and_true, true_and, and_false, false_and, if_true, if_false] <;> omega, Or.inr ⟨by omega, -1, lyC_f (pc := m2.1 46 (6 : Nat)) (by rcases hly with q | q; (exfalso; omega); exact q.2) (hb (by omega)).2.2.2.1 (Or.inl ⟨rfl, cOK_op hob (Int.le_refl _) (fun j j0 j1 => (hb (by omega)).2.1 j j0 (by omega))⟩), Or.inl ⟨rfl, rfl, by rw [rb_46 f1 f2]; simp (decide := true) only [wk_u_at, wk_ul_1, and_self, and_true, true_and, and_false, false_and, if_true, if_false], rb_z f1 f2 (hb (by omega)).2.2.2⟩⟩⟩
      | (show J0 _ _ _; refine (hJ0 _ _ _).mpr ⟨⟨by omega, by omega⟩, ⟨by omega, by omega⟩, hO, ⟨h5, h34, h0, hn5⟩, fun z => ⟨(hb z).1, fun j j0 j1 a b => by by_cases e : j = i; (subst e; clear hb hly; omega); exact (hb z).2.1 j j0 (by omega) a b, by omega, (hb z).2.2.2⟩, hly⟩)
      | (show J0 _ _ _; refine (hJ0 _ _ _).mpr ⟨⟨by omega, by omega⟩, ⟨by omega, by omega⟩, hO, ⟨h5, h34, h0, hn5⟩, fun z => by omega, Or.inl ⟨by omega, lyC_f (by rcases hly with q | q; (exfalso; omega); exact q.2) (hb (by omega)).2.2.2.1 (Or.inr ⟨⟨i0, by omega, (by rw [hob i i0 (by omega)]; omega), (by rw [hob i i0 (by omega)]; omega), (by rw [hob i i0 (by omega)]; omega)⟩, cOK_op hob (by omega) (hb (by omega)).2.1⟩)⟩⟩)
  · have e1 : ab_lo = -2147483648 := rfl
    have e2 : ab_hi = 2147483647 := rfl
    have hb5 : 0 ≤ m.1 46 (5 : Nat) ∧ m.1 46 (5 : Nat) ≤ 1 := hr.1 46 5
    have hc9 : 0 ≤ m.1 46 (0 : Nat) ∧ m.1 46 (0 : Nat) ≤ 32 := hr.1 46 0
    repeat' first | (intro h; exact absurd h (by decide)) | (intro h; exact absurd rfl h) | refine And.intro ?_ ?_ | intro _ | refine Or.inl ⟨by omega, by omega, ?_⟩ | refine Or.inr ?_ | exact trivial | (refine wk_use (k147 hZ _ op ho) rfl rfl ?_; rintro - _ _ - hfr - ⟨v, rfl, hv, hw, ⟨hc, h5, h34⟩, hly⟩; have fs := hfr; refine Or.inr ?_)
    all_goals first
      | omega
      | trivial
      | exact hQ _ _ ⟨_, rfl, hR, rfl, rfl, Or.inl ⟨by omega, rfl, rfl⟩⟩
      | (show J0 _ _ _; refine (hJ0 _ _ _).mpr ⟨⟨by omega, by omega⟩, ⟨by omega, by omega⟩, rOps_lay fs hc hR.1, ⟨by omega, by omega, by omega, by omega⟩, fun z => ⟨(hw (by omega)).1, fun j j0 j1 => by omega, by omega, (hw (by omega)).2⟩, (by by_cases e : v = -1; (subst e; exact Or.inr ⟨rfl, hly⟩); exact Or.inl ⟨by omega, lyC_s hly e⟩)⟩)

/-! the reference: what only reads, slices -/
set_option maxHeartbeats 8000000 in
set_option maxRecDepth 20000 in
theorem k175 {Z : sm_Z} (hZ : Z.2.2.2 = tb_N) (m : wk_M) (n x : Int) : wC Z 7 175 [] [.inr (.inl 46), .inl n, .inl x] m (fun r m' => ∃ v : Int, r = some (.inl v) ∧ m' = m) := by
  obtain ⟨J0, hJ0⟩ : ∃ J : Int →Int →Int →Int → wk_M → Prop, ∀ n x g j m', J n x g j m' ↔ (m' = m ∧ (0 ≤ n ∧ n ≤ 31) ∧ (0 ≤ x ∧ x ≤ 31) ∧ -1 ≤ j ∧ j ≤ 6) := ⟨_, fun _ _ _ _ _ => Iff.rfl⟩
  obtain ⟨J1, hJ1⟩ : ∃ J : Int →Int →Int →Int →Int → wk_M → Prop, ∀ n x g j k m', J n x g j k m' ↔ (m' = m ∧ (0 ≤ n ∧ n ≤ 31) ∧ (0 ≤ x ∧ x ≤ 31) ∧ (-1 ≤ j ∧ j < 6) ∧ -1 ≤ k ∧ k ≤ 6) := ⟨_, fun _ _ _ _ _ _ => Iff.rfl⟩
  refine wC.gen fun Q hQ => wk_E hZ (by exact rfl) [(50, [(3, 46), (1, 0), (1, 0), (1, 0), (1, 0), (0, 0), (0, 0), (0, 0), (0, 0)], fun vs _ m' => (match vs with
    | [n, x, g, j] => J0 n x g j m'
    | _ => False), fun vs _ m' => (match vs with
    | [n, x, g, j] => ((6 - j) * 100 + 99 : Int).toNat
    | _ => 0)), (60, [(3, 46), (1, 0), (1, 0), (1, 0), (1, 0), (1, 0), (0, 0), (0, 0), (0, 0)], fun vs _ m' => (match vs with
    | [n, x, g, j, k] => J1 n x g j k m'
    | _ => False), fun vs _ m' => (match vs with
    | [n, x, g, j, k] => ((6 - j) * 100 + (6 - k) : Int).toNat
    | _ => 0))] rfl (fun hr hs => ⟨?_, ⟨?_, trivial⟩⟩) (fun hr hs => ?_)
  · have e1 : ab_lo = -2147483648 := rfl
    have e2 : ab_hi = 2147483647 := rfl
    intro m2 hr2 hf2 n nl nh x xl xh g gl gh j jl jh hI
    have hI := (hJ0 _ _ _ _ _).mp hI
    obtain ⟨rfl, ⟨n0, n1⟩, ⟨x0, x1⟩, j0, j1⟩ := hI
    repeat' first | (intro h; exact absurd h (by decide)) | (intro h; exact absurd rfl h) | refine And.intro ?_ ?_ | intro _ | refine Or.inl ⟨by omega, by omega, ?_⟩ | refine Or.inr ?_ | exact trivial | (refine wk_use (k153 hZ _ _ _ (by omega) (by omega) (by omega) (by omega)) rfl rfl ?_; rintro - _ _ - - - ⟨_, rfl, rfl, _, _⟩; refine Or.inl ⟨[], rfl, ?_⟩)
    all_goals first
      | omega
      | (show ((6 - (_ : Int)) * 100 + 99 : Int).toNat < ((6 - (_ : Int)) * 100 + 99 : Int).toNat; omega)
      | exact hQ _ _ ⟨_, rfl, rfl⟩
      | (show J1 _ _ _ _ _ _; refine (hJ1 _ _ _ _ _ _).mpr ⟨rfl, ⟨by omega, by omega⟩, ⟨by omega, by omega⟩, ⟨by omega, by omega⟩, by omega, by omega⟩)
      | (show (_ : Nat) < (_ : Nat); dsimp only; omega)
  · have e1 : ab_lo = -2147483648 := rfl
    have e2 : ab_hi = 2147483647 := rfl
    intro m2 hr2 hf2 n nl nh x xl xh g gl gh j jl jh k kl kh hI
    have hI := (hJ1 _ _ _ _ _ _).mp hI
    obtain ⟨rfl, ⟨n0, n1⟩, ⟨x0, x1⟩, ⟨j0, j1⟩, k0, k1⟩ := hI
    repeat' first | (intro h; exact absurd h (by decide)) | (intro h; exact absurd rfl h) | refine And.intro ?_ ?_ | intro _ | refine Or.inl ⟨by omega, by omega, ?_⟩ | refine Or.inr ?_ | exact trivial | (refine wk_use (k153 hZ _ _ _ (by omega) (by omega) (by omega) (by omega)) rfl rfl ?_; rintro - _ _ - - - ⟨_, rfl, rfl, _, _⟩; refine Or.inl ⟨[], rfl, ?_⟩)
    all_goals first
      | omega
      | (show ((6 - (_ : Int)) * 100 + (6 - (_ : Int)) : Int).toNat < ((6 - (_ : Int)) * 100 + (6 - (_ : Int)) : Int).toNat; omega)
      | (show J0 _ _ _ _ _; refine (hJ0 _ _ _ _ _).mpr ⟨rfl, ⟨by omega, by omega⟩, ⟨by omega, by omega⟩, by omega, by omega⟩)
      | (show J1 _ _ _ _ _ _; refine (hJ1 _ _ _ _ _ _).mpr ⟨rfl, ⟨by omega, by omega⟩, ⟨by omega, by omega⟩, ⟨by omega, by omega⟩, by omega, by omega⟩)
      | (show (_ : Nat) < (_ : Nat); dsimp only; omega)
  · have e1 : ab_lo = -2147483648 := rfl
    have e2 : ab_hi = 2147483647 := rfl
    obtain ⟨-, ⟨n0, n1⟩, ⟨x0, x1⟩, -⟩ := hs
    repeat' first | (intro h; exact absurd h (by decide)) | (intro h; exact absurd rfl h) | refine And.intro ?_ ?_ | intro _ | refine Or.inl ⟨by omega, by omega, ?_⟩ | refine Or.inr ?_ | exact trivial | (refine wk_use (k154 hZ _ _ (by omega) (by omega)) rfl rfl ?_; rintro - _ _ - - - ⟨_, rfl, rfl, _, _⟩; refine Or.inl ⟨[], rfl, ?_⟩)
    all_goals first
      | omega
      | trivial
      | exact hQ _ _ ⟨_, rfl, rfl⟩
      | (show J0 _ _ _ _ _; refine (hJ0 _ _ _ _ _).mpr ⟨rfl, ⟨by omega, by omega⟩, ⟨by omega, by omega⟩, by omega, by omega⟩)

set_option maxHeartbeats 8000000 in
set_option maxRecDepth 20000 in
theorem k176 {Z : sm_Z} (hZ : Z.2.2.2 = tb_N) (m : wk_M) (i t o : Int) : wC Z 2 176 [] [.inr (.inl 46), .inl i, .inl t, .inl o] m (fun r m' => ∃ v : Int, r = some (.inl v) ∧ m' = m) := by
  refine wC.gen fun Q hQ => wk_E hZ (by exact rfl) [] rfl (fun _ _ => trivial) fun hr hs => ?_
  have e1 : ab_lo = -2147483648 := rfl
  have e2 : ab_hi = 2147483647 := rfl
  repeat' first | (intro h; exact absurd h (by decide)) | (intro h; exact absurd rfl h) | refine And.intro ?_ ?_ | intro _ | refine Or.inl ⟨by omega, by omega, ?_⟩ | refine Or.inr ?_ | exact trivial | (refine wk_use (k148 hZ _ _ (by omega) (by omega)) rfl rfl ?_; rintro - _ _ - - - ⟨_, rfl, rfl, ⟨rfl, hcl⟩ | ⟨rfl, hcl⟩⟩; refine Or.inl ⟨[], rfl, ?_⟩) | (refine wk_use (k173i hZ _ _ (by omega) (by omega) _ (by omega) (by omega)) rfl rfl ?_; rintro - _ _ - - - ⟨_, rfl, rfl, _, _⟩; refine Or.inl ⟨[], rfl, ?_⟩)
  all_goals first | omega | exact hQ _ _ ⟨_, rfl, rfl⟩

set_option maxHeartbeats 8000000 in
set_option maxRecDepth 20000 in
theorem k181 {Z : sm_Z} (hZ : Z.2.2.2 = tb_N) (m : wk_M)  : wC Z 2 181 [] [.inr (.inl 46)] m (fun r m' => ∃ v : Int, r = some (.inl v) ∧ m' = m ∧ (v = -1 ∨ (32 ≤ v ∧ v ≤ 223))) := by
  obtain ⟨J0, hJ0⟩ : ∃ J : Int → wk_M → Prop, ∀ i m', J i m' ↔ (m' = m ∧ 0 ≤ i ∧ i ≤ 32) := ⟨_, fun _ _ => Iff.rfl⟩
  obtain ⟨J1, hJ1⟩ : ∃ J : Int →Int → wk_M → Prop, ∀ i j m', J i j m' ↔ (m' = m ∧ (0 ≤ i ∧ i < 32) ∧ 0 ≤ j ∧ j ≤ 3) := ⟨_, fun _ _ _ => Iff.rfl⟩
  refine wC.gen fun Q hQ => wk_E hZ (by exact rfl) [(2, [(3, 46), (1, 0), (0, 0), (0, 0)], fun vs _ m' => (match vs with
    | [i] => J0 i m'
    | _ => False), fun vs _ m' => (match vs with
    | [i] => ((32 - i) * 10 + 9 : Int).toNat
    | _ => 0)), (12, [(3, 46), (1, 0), (1, 0), (0, 0)], fun vs _ m' => (match vs with
    | [i, j] => J1 i j m'
    | _ => False), fun vs _ m' => (match vs with
    | [i, j] => ((32 - i) * 10 + (3 - j) : Int).toNat
    | _ => 0))] rfl (fun hr hs => ⟨?_, ⟨?_, trivial⟩⟩) (fun hr hs => ?_)
  · have e1 : ab_lo = -2147483648 := rfl
    have e2 : ab_hi = 2147483647 := rfl
    intro m2 hr2 hf2 i il ih hI
    have hI := (hJ0 _ _).mp hI
    obtain ⟨rfl, i0, i1⟩ := hI
    repeat' first | (intro h; exact absurd h (by decide)) | (intro h; exact absurd rfl h) | refine And.intro ?_ ?_ | intro _ | refine Or.inl ⟨by omega, by omega, ?_⟩ | refine Or.inr ?_ | exact trivial | (refine wk_use (k148 hZ _ _ (by omega) (by omega)) rfl rfl ?_; rintro - _ _ - - - ⟨_, rfl, rfl, ⟨rfl, hcl⟩ | ⟨rfl, hcl⟩⟩; refine Or.inl ⟨[], rfl, ?_⟩) | (refine wk_use (k173l hZ _ _ (by decide) (by decide) _ (by omega) (by omega)) rfl rfl ?_; rintro - _ _ - - - ⟨_, rfl, rfl, _, _⟩; refine Or.inl ⟨[], rfl, ?_⟩)
    all_goals first
      | omega
      | (show ((32 - (_ : Int)) * 10 + 9 : Int).toNat < ((32 - (_ : Int)) * 10 + 9 : Int).toNat; omega)
      | exact hQ _ _ ⟨_, rfl, rfl, by omega⟩
      | (show J1 _ _ _; refine (hJ1 _ _ _).mpr ⟨rfl, ⟨by omega, by omega⟩, by omega, by omega⟩)
      | (show (_ : Nat) < (_ : Nat); dsimp only; omega)
  · have e1 : ab_lo = -2147483648 := rfl
    have e2 : ab_hi = 2147483647 := rfl
    intro m2 hr2 hf2 i il ih j jl jh hI
    have hI := (hJ1 _ _ _).mp hI
    obtain ⟨rfl, ⟨i0, i1⟩, j0, j1⟩ := hI
    repeat' first | (intro h; exact absurd h (by decide)) | (intro h; exact absurd rfl h) | refine And.intro ?_ ?_ | intro _ | refine Or.inl ⟨by omega, by omega, ?_⟩ | refine Or.inr ?_ | exact trivial | (refine wk_use (k148 hZ _ _ (by omega) (by omega)) rfl rfl ?_; rintro - _ _ - - - ⟨_, rfl, rfl, ⟨rfl, hcl⟩ | ⟨rfl, hcl⟩⟩; refine Or.inl ⟨[], rfl, ?_⟩) | (refine wk_use (k173l hZ _ _ (by decide) (by decide) _ (by omega) (by omega)) rfl rfl ?_; rintro - _ _ - - - ⟨_, rfl, rfl, _, _⟩; refine Or.inl ⟨[], rfl, ?_⟩)
    all_goals first
      | omega
      | (show ((32 - (_ : Int)) * 10 + (3 - (_ : Int)) : Int).toNat < ((32 - (_ : Int)) * 10 + (3 - (_ : Int)) : Int).toNat; omega)
      | exact hQ _ _ ⟨_, rfl, rfl, by omega⟩
      | (show J0 _ _; refine (hJ0 _ _).mpr ⟨rfl, by omega, by omega⟩)
      | (show J1 _ _ _; refine (hJ1 _ _ _).mpr ⟨rfl, ⟨by omega, by omega⟩, by omega, by omega⟩)
      | (show (_ : Nat) < (_ : Nat); dsimp only; omega)
  · have e1 : ab_lo = -2147483648 := rfl
    have e2 : ab_hi = 2147483647 := rfl
    repeat' first | (intro h; exact absurd h (by decide)) | (intro h; exact absurd rfl h) | refine And.intro ?_ ?_ | intro _ | refine Or.inl ⟨by omega, by omega, ?_⟩ | refine Or.inr ?_ | exact trivial
    all_goals first
      | omega
      | trivial
      | (show J0 _ _; refine (hJ0 _ _).mpr ⟨rfl, by omega, by omega⟩)

set_option maxHeartbeats 8000000 in
set_option maxRecDepth 20000 in
theorem k177 {Z : sm_Z} (hZ : Z.2.2.2 = tb_N) (m : wk_M) (i b : Int) : wC Z 4 177 [46, 63, 64] [.inr (.inl 46), .inl i, .inl b] m (fun r m' => ∃ v : Int, r = some (.inl v) ∧ (m'.1 46 (0 : Nat) = m.1 46 (0 : Nat) ∧ m'.1 46 (5 : Nat) = m.1 46 (5 : Nat) ∧ m'.1 46 (6 : Nat) = m.1 46 (6 : Nat) ∧ m'.1 46 (34 : Nat) = m.1 46 (34 : Nat))) := by
  obtain ⟨J0, hJ0⟩ : ∃ J : Int →Int →Int → wk_M → Prop, ∀ i b k m', J i b k m' ↔ (((0 ≤ i ∧ i ≤ 31) ∧ 0 ≤ k ∧ k ≤ 4) ∧ (m'.1 46 (0 : Nat) = m.1 46 (0 : Nat) ∧ m'.1 46 (5 : Nat) = m.1 46 (5 : Nat) ∧ m'.1 46 (6 : Nat) = m.1 46 (6 : Nat) ∧ m'.1 46 (34 : Nat) = m.1 46 (34 : Nat))) := ⟨_, fun _ _ _ _ => Iff.rfl⟩
  refine wC.gen fun Q hQ => wk_E hZ (by exact rfl) [(72, [(3, 46), (1, 0), (1, 0), (1, 0)], fun vs _ m' => (match vs with
    | [i, b, k] => J0 i b k m'
    | _ => False), fun vs _ m' => (match vs with
    | [i, b, k] => (4 - k : Int).toNat
    | _ => 0))] rfl (fun hr hs => ⟨?_, trivial⟩) (fun hr hs => ?_)
  · have e1 : ab_lo = -2147483648 := rfl
    have e2 : ab_hi = 2147483647 := rfl
    intro m2 hr2 hf2 i il ih b bl bh k kl kh hI
    have hI := (hJ0 _ _ _ _).mp hI
    obtain ⟨⟨⟨i0, i1⟩, k0, k1⟩, e0, e5, e6, e34⟩ := hI
    repeat' first | (intro h; exact absurd h (by decide)) | (intro h; exact absurd rfl h) | refine And.intro ?_ ?_ | intro _ | refine Or.inl ⟨by omega, by omega, ?_⟩ | refine Or.inr ?_ | exact trivial | (refine wk_use (k179 hZ _) rfl rfl ?_; rintro - _ _ - - - ⟨_, rfl, rfl, _, _⟩; refine Or.inl ⟨[], rfl, ?_⟩)
    all_goals first
      | omega
      | (show (4 - (_ : Int) : Int).toNat < (4 - (_ : Int) : Int).toNat; omega)
      | exact hQ _ _ ⟨_, rfl, e0, e5, e6, e34⟩
      | exact hQ _ _ ⟨_, rfl, ⟨by simp (decide := true) only [wk_u_at, wk_ul_1, and_self, and_true, true_and, and_false, false_and, if_true, if_false] <;> omega, by simp (decide := true) only [wk_u_at, wk_ul_1, and_self, and_true, true_and, and_false, false_and, if_true, if_false] <;> omega, by simp (decide := true) only [wk_u_at, wk_ul_1, and_self, and_true, true_and, and_false, false_and, if_true, if_false] <;> omega, by simp (decide := true) only [wk_u_at, wk_ul_1, and_self, and_true, true_and, and_false, false_and, if_true, if_false] <;> omega⟩⟩
      | (show J0 _ _ _ _; refine (hJ0 _ _ _ _).mpr ⟨⟨⟨by omega, by omega⟩, by omega, by omega⟩, ⟨e0, e5, e6, e34⟩⟩)
  · have e1 : ab_lo = -2147483648 := rfl
    have e2 : ab_hi = 2147483647 := rfl
    obtain ⟨-, ⟨n0, n1⟩, ⟨x0, x1⟩, -⟩ := hs
    repeat' first | (intro h; exact absurd h (by decide)) | (intro h; exact absurd rfl h) | refine And.intro ?_ ?_ | intro _ | refine Or.inl ⟨by omega, by omega, ?_⟩ | refine Or.inr ?_ | exact trivial | (refine wk_use (k154 hZ _ _ (by omega) (by omega)) rfl rfl ?_; rintro - _ _ - - - ⟨_, rfl, rfl, _, _⟩; refine Or.inl ⟨[], rfl, ?_⟩) | (refine wk_use (k171 hZ _ _ (by omega) (by omega)) rfl rfl ?_; rintro - _ _ - hfr - rfl; have hp := congrFun (hfr 46 (by decide)).1 ((0 : Nat) : Int); (try simp (decide := true) only [wk_u_at, wk_ul_1, and_self, and_true, true_and, and_false, false_and, if_true, if_false] at hp); have hp := congrFun (hfr 46 (by decide)).1 ((5 : Nat) : Int); (try simp (decide := true) only [wk_u_at, wk_ul_1, and_self, and_true, true_and, and_false, false_and, if_true, if_false] at hp); have hp := congrFun (hfr 46 (by decide)).1 ((6 : Nat) : Int); (try simp (decide := true) only [wk_u_at, wk_ul_1, and_self, and_true, true_and, and_false, false_and, if_true, if_false] at hp); have hp := congrFun (hfr 46 (by decide)).1 ((34 : Nat) : Int); (try simp (decide := true) only [wk_u_at, wk_ul_1, and_self, and_true, true_and, and_false, false_and, if_true, if_false] at hp); refine Or.inr ?_) | (refine wk_use (k172d hZ _ _) rfl rfl ?_; rintro - _ _ - hfr - rfl; have hp := congrFun (hfr 46 (by decide)).1 ((0 : Nat) : Int); (try simp (decide := true) only [wk_u_at, wk_ul_1, and_self, and_true, true_and, and_false, false_and, if_true, if_false] at hp); have hp := congrFun (hfr 46 (by decide)).1 ((5 : Nat) : Int); (try simp (decide := true) only [wk_u_at, wk_ul_1, and_self, and_true, true_and, and_false, false_and, if_true, if_false] at hp); have hp := congrFun (hfr 46 (by decide)).1 ((6 : Nat) : Int); (try simp (decide := true) only [wk_u_at, wk_ul_1, and_self, and_true, true_and, and_false, false_and, if_true, if_false] at hp); have hp := congrFun (hfr 46 (by decide)).1 ((34 : Nat) : Int); (try simp (decide := true) only [wk_u_at, wk_ul_1, and_self, and_true, true_and, and_false, false_and, if_true, if_false] at hp); refine Or.inr ?_) | (refine wk_use (k172u hZ _ _) rfl rfl ?_; rintro - _ _ - hfr - rfl; have hp := congrFun (hfr 46 (by decide)).1 ((0 : Nat) : Int); (try simp (decide := true) only [wk_u_at, wk_ul_1, and_self, and_true, true_and, and_false, false_and, if_true, if_false] at hp); have hp := congrFun (hfr 46 (by decide)).1 ((5 : Nat) : Int); (try simp (decide := true) only [wk_u_at, wk_ul_1, and_self, and_true, true_and, and_false, false_and, if_true, if_false] at hp); have hp := congrFun (hfr 46 (by decide)).1 ((6 : Nat) : Int); (try simp (decide := true) only [wk_u_at, wk_ul_1, and_self, and_true, true_and, and_false, false_and, if_true, if_false] at hp); have hp := congrFun (hfr 46 (by decide)).1 ((34 : Nat) : Int); (try simp (decide := true) only [wk_u_at, wk_ul_1, and_self, and_true, true_and, and_false, false_and, if_true, if_false] at hp); refine Or.inr ?_) | (refine wk_use (k178 hZ _ _ (by omega) (by omega)) rfl rfl ?_; rintro - _ _ - hfr - rfl; have hp := congrFun (hfr 46 (by decide)).1 ((0 : Nat) : Int); (try simp (decide := true) only [wk_u_at, wk_ul_1, and_self, and_true, true_and, and_false, false_and, if_true, if_false] at hp); have hp := congrFun (hfr 46 (by decide)).1 ((5 : Nat) : Int); (try simp (decide := true) only [wk_u_at, wk_ul_1, and_self, and_true, true_and, and_false, false_and, if_true, if_false] at hp); have hp := congrFun (hfr 46 (by decide)).1 ((6 : Nat) : Int); (try simp (decide := true) only [wk_u_at, wk_ul_1, and_self, and_true, true_and, and_false, false_and, if_true, if_false] at hp); have hp := congrFun (hfr 46 (by decide)).1 ((34 : Nat) : Int); (try simp (decide := true) only [wk_u_at, wk_ul_1, and_self, and_true, true_and, and_false, false_and, if_true, if_false] at hp); refine Or.inr ?_)
    all_goals first
      | omega
      | trivial
      | exact hQ _ _ ⟨_, rfl, rfl, rfl, rfl, rfl⟩
      | (show J0 _ _ _ _; refine (hJ0 _ _ _ _).mpr ⟨⟨⟨by omega, by omega⟩, by omega, by omega⟩, by omega, by omega, by omega, by omega⟩)

set_option maxHeartbeats 8000000 in
set_option maxRecDepth 20000 in
theorem k180 {Z : sm_Z} (hZ : Z.2.2.2 = tb_N) (m : wk_M)  : wC Z 4 180 [46, 63, 64] [.inr (.inl 46)] m (fun r m' => ∃ v : Int, r = some (.inl v) ∧ (m'.1 46 (0 : Nat) = m.1 46 (0 : Nat) ∧ m'.1 46 (5 : Nat) = m.1 46 (5 : Nat) ∧ m'.1 46 (6 : Nat) = m.1 46 (6 : Nat) ∧ m'.1 46 (34 : Nat) = m.1 46 (34 : Nat))) := by
  obtain ⟨J0, hJ0⟩ : ∃ J : Int →Int → wk_M → Prop, ∀ n rd m', J n rd m' ↔ (((n = -1 ∨ (32 ≤ n ∧ n ≤ 223)) ∧ 0 ≤ rd ∧ rd ≤ 1000) ∧ (m'.1 46 (0 : Nat) = m.1 46 (0 : Nat) ∧ m'.1 46 (5 : Nat) = m.1 46 (5 : Nat) ∧ m'.1 46 (6 : Nat) = m.1 46 (6 : Nat) ∧ m'.1 46 (34 : Nat) = m.1 46 (34 : Nat))) := ⟨_, fun _ _ _ => Iff.rfl⟩
  obtain ⟨J1, hJ1⟩ : ∃ J : Int →Int →Int → wk_M → Prop, ∀ n rd k m', J n rd k m' ↔ (((0 ≤ rd ∧ rd < 1000) ∧ 0 ≤ k ∧ k ≤ 4) ∧ (m'.1 46 (0 : Nat) = m.1 46 (0 : Nat) ∧ m'.1 46 (5 : Nat) = m.1 46 (5 : Nat) ∧ m'.1 46 (6 : Nat) = m.1 46 (6 : Nat) ∧ m'.1 46 (34 : Nat) = m.1 46 (34 : Nat))) := ⟨_, fun _ _ _ _ => Iff.rfl⟩
  refine wC.gen fun Q hQ => wk_E hZ (by exact rfl) [(17, [(3, 46), (1, 0), (1, 0), (0, 0)], fun vs _ m' => (match vs with
    | [n, rd] => J0 n rd m'
    | _ => False), fun vs _ m' => (match vs with
    | [n, rd] => ((1000 - rd) * 10 + 9 : Int).toNat
    | _ => 0)), (35, [(3, 46), (1, 0), (1, 0), (1, 0)], fun vs _ m' => (match vs with
    | [n, rd, k] => J1 n rd k m'
    | _ => False), fun vs _ m' => (match vs with
    | [n, rd, k] => ((1000 - rd) * 10 + (4 - k) : Int).toNat
    | _ => 0))] rfl (fun hr hs => ⟨?_, ⟨?_, trivial⟩⟩) (fun hr hs => ?_)
  · have e1 : ab_lo = -2147483648 := rfl
    have e2 : ab_hi = 2147483647 := rfl
    intro m2 hr2 hf2 n nl nh rd rdl rdh hI
    have hI := (hJ0 _ _ _).mp hI
    obtain ⟨⟨hn, r0, r1⟩, e0, e5, e6, e34⟩ := hI
    repeat' first | (intro h; exact absurd h (by decide)) | (intro h; exact absurd rfl h) | refine And.intro ?_ ?_ | intro _ | refine Or.inl ⟨by omega, by omega, ?_⟩ | refine Or.inr ?_ | exact trivial | (refine wk_use (k178 hZ _ _ (by omega) (by omega)) rfl rfl ?_; rintro - _ _ - hfr - rfl; have hp := congrFun (hfr 46 (by decide)).1 ((0 : Nat) : Int); (try simp (decide := true) only [wk_u_at, wk_ul_1, and_self, and_true, true_and, and_false, false_and, if_true, if_false] at hp); have hp := congrFun (hfr 46 (by decide)).1 ((5 : Nat) : Int); (try simp (decide := true) only [wk_u_at, wk_ul_1, and_self, and_true, true_and, and_false, false_and, if_true, if_false] at hp); have hp := congrFun (hfr 46 (by decide)).1 ((6 : Nat) : Int); (try simp (decide := true) only [wk_u_at, wk_ul_1, and_self, and_true, true_and, and_false, false_and, if_true, if_false] at hp); have hp := congrFun (hfr 46 (by decide)).1 ((34 : Nat) : Int); (try simp (decide := true) only [wk_u_at, wk_ul_1, and_self, and_true, true_and, and_false, false_and, if_true, if_false] at hp); refine Or.inr ?_) | (refine wk_use (k179 hZ _) rfl rfl ?_; rintro - _ _ - - - ⟨_, rfl, rfl, _, _⟩; refine Or.inl ⟨[], rfl, ?_⟩)
    all_goals first
      | omega
      | (show ((1000 - (_ : Int)) * 10 + 9 : Int).toNat < ((1000 - (_ : Int)) * 10 + 9 : Int).toNat; omega)
      | exact hQ _ _ ⟨_, rfl, e0, e5, e6, e34⟩
      | exact hQ _ _ ⟨_, rfl, ⟨by simp (decide := true) only [wk_u_at, wk_ul_1, and_self, and_true, true_and, and_false, false_and, if_true, if_false] <;> omega, by simp (decide := true) only [wk_u_at, wk_ul_1, and_self, and_true, true_and, and_false, false_and, if_true, if_false] <;> omega, by simp (decide := true) only [wk_u_at, wk_ul_1, and_self, and_true, true_and, and_false, false_and, if_true, if_false] <;> omega, by simp (decide := true) only [wk_u_at, wk_ul_1, and_self, and_true, true_and, and_false, false_and, if_true, if_false] <;> omega⟩⟩
      | (show J1 _ _ _ _; refine (hJ1 _ _ _ _).mpr ⟨⟨⟨by omega, by omega⟩, by omega, by omega⟩, by omega, by omega, by omega, by omega⟩)
      | (show (_ : Nat) < (_ : Nat); dsimp only; omega)
  · have e1 : ab_lo = -2147483648 := rfl
    have e2 : ab_hi = 2147483647 := rfl
    intro m2 hr2 hf2 n nl nh rd rdl rdh k kl kh hI
    have hI := (hJ1 _ _ _ _).mp hI
    obtain ⟨⟨⟨r0, r1⟩, k0, k1⟩, e0, e5, e6, e34⟩ := hI
    repeat' first | (intro h; exact absurd h (by decide)) | (intro h; exact absurd rfl h) | refine And.intro ?_ ?_ | intro _ | refine Or.inl ⟨by omega, by omega, ?_⟩ | refine Or.inr ?_ | exact trivial | (refine wk_use (k181 hZ _) rfl rfl ?_; rintro - _ _ - - - ⟨_, rfl, rfl, _⟩; refine Or.inl ⟨[], rfl, ?_⟩)
    all_goals first
      | omega
      | (show ((1000 - (_ : Int)) * 10 + (4 - (_ : Int)) : Int).toNat < ((1000 - (_ : Int)) * 10 + (4 - (_ : Int)) : Int).toNat; omega)
      | (show J0 _ _ _; refine (hJ0 _ _ _).mpr ⟨⟨by omega, by omega, by omega⟩, e0, e5, e6, e34⟩)
      | (show J1 _ _ _ _; refine (hJ1 _ _ _ _).mpr ⟨⟨⟨by omega, by omega⟩, by omega, by omega⟩, e0, e5, e6, e34⟩)
      | (show (_ : Nat) < (_ : Nat); dsimp only; omega)
  · have e1 : ab_lo = -2147483648 := rfl
    have e2 : ab_hi = 2147483647 := rfl
    repeat' first | (intro h; exact absurd h (by decide)) | (intro h; exact absurd rfl h) | refine And.intro ?_ ?_ | intro _ | refine Or.inl ⟨by omega, by omega, ?_⟩ | refine Or.inr ?_ | exact trivial | (refine wk_use (k181 hZ _) rfl rfl ?_; rintro - _ _ - - - ⟨_, rfl, rfl, _⟩; refine Or.inl ⟨[], rfl, ?_⟩)
    all_goals first
      | omega
      | trivial
      | exact hQ _ _ ⟨_, rfl, rfl, rfl, rfl, rfl⟩
      | (show J0 _ _ _; refine (hJ0 _ _ _).mpr ⟨⟨by omega, by omega, by omega⟩, rfl, rfl, rfl, rfl⟩)

set_option maxHeartbeats 8000000 in
set_option maxRecDepth 20000 in
theorem k183 {Z : sm_Z} (hZ : Z.2.2.2 = tb_N) (m : wk_M) (k x : Int) : wC Z 2 183 [65] [.inr (.inl 46), .inl k, .inl x] m (fun r m' => ∃ v : Int, r = some (.inl v) ∧ ((v = 1 ∧ 0 ≤ k ∧ k ≤ 3) ∨ (v = 0 ∧ (k < 0 ∨ 3 < k)))) := by
  refine wC.gen fun Q hQ => wk_E hZ (by exact rfl) [] rfl (fun _ _ => trivial) fun hr hs => ?_
  have e1 : ab_lo = -2147483648 := rfl
  have e2 : ab_hi = 2147483647 := rfl
  obtain ⟨-, -, ⟨y0, y1⟩, -⟩ := hs
  repeat' first | (intro h; exact absurd h (by decide)) | (intro h; exact absurd rfl h) | refine And.intro ?_ ?_ | intro _ | refine Or.inl ⟨by omega, by omega, ?_⟩ | refine Or.inr ?_ | exact trivial | (refine wk_use (k144 hZ _ _) rfl rfl ?_; rintro - _ _ - - - ⟨_, rfl, rfl, ⟨rfl, _⟩ | ⟨rfl, _⟩⟩; refine Or.inl ⟨[], rfl, ?_⟩)
  all_goals first | omega | exact hQ _ _ ⟨_, rfl, by omega⟩

set_option maxHeartbeats 8000000 in
set_option maxRecDepth 20000 in
theorem k193 {Z : sm_Z} (hZ : Z.2.2.2 = tb_N) (m : wk_M) (k : Int) : wC Z 1 193 [] [.inr (.inl 46), .inl k] m (fun r m' => ∃ v : Int, r = some (.inl v) ∧ m' = m) := by
  refine wC.gen fun Q hQ => wk_E hZ (by exact rfl) [] rfl (fun _ _ => trivial) fun hr hs => ?_
  have e1 : ab_lo = -2147483648 := rfl
  have e2 : ab_hi = 2147483647 := rfl
  repeat' first | refine And.intro ?_ ?_ | intro _ | refine Or.inl ⟨by omega, by omega, ?_⟩ | refine Or.inr ?_ | exact trivial
  all_goals first | omega | exact hQ _ _ ⟨_, rfl, rfl⟩

set_option maxHeartbeats 8000000 in
set_option maxRecDepth 20000 in
theorem k194 {Z : sm_Z} (hZ : Z.2.2.2 = tb_N) (m : wk_M) (c k : Int) : wC Z 2 194 [] [.inr (.inl 46), .inl c, .inl k] m (fun r m' => ∃ v : Int, r = some (.inl v) ∧ m' = m) := by
  refine wC.gen fun Q hQ => wk_E hZ (by exact rfl) [] rfl (fun _ _ => trivial) fun hr hs => ?_
  have e1 : ab_lo = -2147483648 := rfl
  have e2 : ab_hi = 2147483647 := rfl
  repeat' first | (intro h; exact absurd h (by decide)) | (intro h; exact absurd rfl h) | refine And.intro ?_ ?_ | intro _ | refine Or.inl ⟨by omega, by omega, ?_⟩ | refine Or.inr ?_ | exact trivial | (refine wk_use (k144 hZ _ _) rfl rfl ?_; rintro - _ _ - - - ⟨_, rfl, rfl, ⟨rfl, _⟩ | ⟨rfl, _⟩⟩; refine Or.inl ⟨[], rfl, ?_⟩)
  all_goals first | omega | exact hQ _ _ ⟨_, rfl, rfl⟩
