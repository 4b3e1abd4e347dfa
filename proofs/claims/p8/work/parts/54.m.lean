/-! the class's layOut: the whole -/
set_option maxHeartbeats 8000000 in
set_option maxRecDepth 20000 in
theorem k32 {Z : sm_Z} (hZ : Z.2.2.2 = tb_N) (m : wk_M)  : wC Z 2 32 [] [.inr (.inl 1)] m (fun r m' => ∃ v : Int, r = some (.inl v) ∧ m' = m ∧ (-1 ≤ v ∧ v ≤ 31) ∧ lyF (m.1 2) (m.1 1 (4 : Nat)) (m.1 1 (11 : Nat)) v) := by
  obtain ⟨J0, hJ0⟩ : ∃ J : Int → wk_M → Prop, ∀ t m', J t m' ↔ (m' = m ∧ 0 ≤ t ∧ t ≤ m.1 1 (4 : Nat) ∧ cOK (m.1 2) (m.1 1 (11 : Nat)) t) := ⟨_, fun _ _ => Iff.rfl⟩
  refine wC.gen fun Q hQ => wk_E hZ (by exact rfl) [(2, [(3, 1), (1, 0)], fun vs _ m' => (match vs with
    | [t] => J0 t m'
    | _ => False), fun vs _ m' => (match vs with
    | [t] => (32 - t : Int).toNat
    | _ => 0))] rfl (fun hr hs => ⟨?_, trivial⟩) (fun hr hs => ?_)
  · have e1 : ab_lo = -2147483648 := rfl
    have e2 : ab_hi = 2147483647 := rfl
    intro m2 hr2 hf2 t tl th hI
    have hI := (hJ0 _ _).mp hI
    have hc := cnt32 hr
    obtain ⟨rfl, i0, i1, i2⟩ := hI
    repeat' first | (intro h; exact absurd h (by decide)) | (intro h; exact absurd rfl h) | refine And.intro ?_ ?_ | intro _ | refine Or.inl ⟨by omega, by omega, ?_⟩ | refine Or.inr ?_ | exact trivial | (refine wk_use (k33 hZ _ _) rfl rfl ?_; rintro - _ _ - - - ⟨_, rfl, rfl, ⟨rfl, _⟩ | ⟨rfl, _⟩⟩; refine Or.inl ⟨[], rfl, ?_⟩) | (refine wk_use (k34 hZ _ _ (by omega) (by omega)) rfl rfl ?_; rintro - _ _ - - - ⟨_, rfl, rfl, _⟩; refine Or.inl ⟨[], rfl, ?_⟩)
    all_goals first
      | omega
      | (show (32 - (_ : Int) : Int).toNat < (32 - (_ : Int) : Int).toNat; omega)
      | exact hQ _ _ ⟨_, rfl, rfl, ⟨by omega, by omega⟩, Or.inr ⟨⟨by omega, by omega, by omega, by omega, by omega⟩, i2⟩⟩
      | exact hQ _ _ ⟨_, rfl, rfl, ⟨by omega, by omega⟩, Or.inl ⟨rfl, fun j j0 j1 => i2 j j0 (by omega)⟩⟩
      | (show J0 _ _; refine (hJ0 _ _).mpr ⟨rfl, by omega, by omega, fun j j0 j1 a b => ?_⟩; by_cases e : j = t; (subst e; omega); (exact i2 j j0 (by omega) a b))
  · have e1 : ab_lo = -2147483648 := rfl
    have e2 : ab_hi = 2147483647 := rfl
    have hc := cnt32 hr
    repeat' first | (intro h; exact absurd h (by decide)) | (intro h; exact absurd rfl h) | refine And.intro ?_ ?_ | intro _ | refine Or.inl ⟨by omega, by omega, ?_⟩ | refine Or.inr ?_ | exact trivial | (refine wk_use (k33 hZ _ _) rfl rfl ?_; rintro - _ _ - - - ⟨_, rfl, rfl, ⟨rfl, _⟩ | ⟨rfl, _⟩⟩; refine Or.inl ⟨[], rfl, ?_⟩) | (refine wk_use (k34 hZ _ _ (by omega) (by omega)) rfl rfl ?_; rintro - _ _ - - - ⟨_, rfl, rfl, _⟩; refine Or.inl ⟨[], rfl, ?_⟩)
    all_goals first
      | omega
      | trivial
      | (show J0 _ _; refine (hJ0 _ _).mpr ⟨rfl, by omega, by omega, fun j j0 j1 => by omega⟩)

theorem LI_done {m : wk_M} {c : Int} (h : LI m.1 c) (d : m.1 1 (13 : Nat) = 0) (hc : c = m.1 1 (4 : Nat)) (hk : ∀ j, 0 ≤ j → j < m.1 1 (4 : Nat) → 13 ≤ m.1 2 j → m.1 2 j ≤ 16 → m.1 2 j - 13 < m.1 1 (11 : Nat)) : cWL (wk_u m 11 (m.1 1 (11 : Nat) - 1) c).1 := by
  have hF := LI_first h
  have hA := fun j j0 j1 => LI_at (j := j) h d j0 j1
  obtain ⟨⟨h1, h2⟩, h3, h4, h5, h6, h7⟩ := id h
  have g11 : ∀ p, (wk_u m 11 (m.1 1 (11 : Nat) - 1) c).1 11 p = if p = m.1 1 (11 : Nat) - 1 then c else m.1 11 p := by intro p; simp (decide := true) only [wk_u_at, wk_ul_1, and_self, and_true, true_and, and_false, false_and, if_true, if_false]
  refine ⟨h1, fun p p0 p1 => ?_, fun p j p0 p1 j0 j1 => ?_, hk⟩
  · have p1 : p < m.1 1 (11 : Nat) := p1
    show 0 ≤ m.1 10 p ∧ m.1 10 p ≤ _ ∧ _ ≤ m.1 1 (4 : Nat)
    rw [g11]
    have q := h3 p p0 p1
    split
    · omega
    · have := h4 p p0 (by omega)
      omega
  · have p1 : p < m.1 1 (11 : Nat) := p1
    have j0 : m.1 10 p ≤ j := j0
    show cAt m.1 (m.1 10 p) ((wk_u m 11 (m.1 1 (11 : Nat) - 1) c).1 11 p) j
    rw [g11] at j1 ⊢
    by_cases ep : p = m.1 1 (11 : Nat) - 1
    · rw [if_pos ep] at j1 ⊢
      have e2 : m.1 10 p = cFi m.1 := by rw [ep]; rfl
      rw [e2] at j0 ⊢
      exact hA j j0 j1
    · rw [if_neg ep] at j1 ⊢
      exact h5 p j p0 (by omega) j0 j1
theorem LI_zero {m : wk_M} : LI (wk_u (wk_u (wk_u m 1 (13 : Nat) 0) 1 (11 : Nat) 1) 10 0 0).1 0 := by
  generalize hg : (wk_u (wk_u (wk_u m 1 (13 : Nat) 0) 1 (11 : Nat) 1) 10 0 0).1 = g
  have e11 : g 1 (11 : Nat) = 1 := by rw [← hg]; simp (decide := true) only [wk_u_at, wk_ul_1, and_self, and_true, true_and, and_false, false_and, if_true, if_false]
  have e13 : g 1 (13 : Nat) = 0 := by rw [← hg]; simp (decide := true) only [wk_u_at, wk_ul_1, and_self, and_true, true_and, and_false, false_and, if_true, if_false]
  have e10 : g 10 0 = 0 := by rw [← hg]; simp (decide := true) only [wk_u_at, wk_ul_1, and_self, and_true, true_and, and_false, false_and, if_true, if_false]
  have eF : cFi g = 0 := by unfold cFi; rw [e11]; exact e10
  refine ⟨⟨by omega, by omega⟩, fun p p0 p1 => ?_, fun p p0 p1 => by omega, fun p j p0 p1 => by omega, ⟨by omega, fun k k0 k1 => by omega⟩, fun j j0 j1 => by omega⟩
  have : p = 0 := by omega
  subst this
  omega

set_option maxHeartbeats 8000000 in
set_option maxRecDepth 20000 in
theorem k26 {Z : sm_Z} (hZ : Z.2.2.2 = tb_N) (m : wk_M)  : wC Z 3 26 [1, 6, 7, 8, 9, 10, 11, 12] [.inr (.inl 1)] m (fun r m' => ∃ v : Int, r = some (.inl v) ∧ (-1 ≤ v ∧ v ≤ 32) ∧ (v = -1 → cWL m'.1 ∧ cEn m'.1 ∧ sZ (lyI (m.1 2) (m.1 1 (4 : Nat)).toNat) (m.1 1 (4 : Nat)) (m'.1 1 (11 : Nat)) (m'.1 6) (m'.1 7) (m'.1 8) (m'.1 9) (m'.1 10) (m'.1 11)) ∧ m'.1 1 (4 : Nat) = m.1 1 (4 : Nat) ∧ lyC (m.1 2) (m.1 1 (4 : Nat)) v) := by
  obtain ⟨J0, hJ0⟩ : ∃ J : Int → wk_M → Prop, ∀ t m', J t m' ↔ ((0 ≤ t ∧ t ≤ m.1 1 (4 : Nat) ∧ m'.1 1 (4 : Nat) = m.1 1 (4 : Nat)) ∧ LI m'.1 t ∧ LK m'.1 t ∧ sR (lyI (m.1 2) t.toNat) m'.1 t ∧ ∀ j, 0 ≤ j → j < t → ¬ lyB (m.1 2) (lyI (m.1 2) j.toNat) j) := ⟨_, fun _ _ => Iff.rfl⟩
  refine wC.gen fun Q hQ => wk_E hZ (by exact rfl) [(19, [(3, 1), (1, 0)], fun vs _ m' => (match vs with
    | [t] => J0 t m'
    | _ => False), fun vs _ m' => (match vs with
    | [t] => (32 - t : Int).toNat
    | _ => 0))] rfl (fun hr hs => ⟨?_, trivial⟩) (fun hr hs => ?_)
  · have e1 : ab_lo = -2147483648 := rfl
    have e2 : ab_hi = 2147483647 := rfl
    intro m2 hr2 hf2 t tl th hI
    have hI := (hJ0 _ _).mp hI
    have hc := cnt32 hr
    obtain ⟨⟨i0, i1, i2⟩, iL, iK, iS, iN⟩ := hI
    have hKK : t = m2.1 1 (4 : Nat) → cEn m2.1 := fun e => by unfold cEn; rw [← e]; exact iK
    have hd := iL.2.2.2.2.1.1
    have hp := iL.1.1
    have h2 : m2.1 2 = m.1 2 := (hf2 2 (by decide)).1
    repeat' first | (intro h; exact absurd h (by decide)) | (intro h; exact absurd rfl h) | refine And.intro ?_ ?_ | intro _ | refine Or.inl ⟨by omega, by omega, ?_⟩ | refine Or.inr ?_ | exact trivial | (refine wk_use (k27 hZ _ _ i0 (by omega) iL iK (m.1 2) (lyI (m.1 2) t.toNat) (by rw [h2]) (fun j _ _ => by rw [h2]) iS) rfl rfl ?_; rintro - _ _ - hfr - ⟨v, rfl, hv, hcc⟩; refine Or.inr ?_) | (refine wk_use (k32 hZ _) rfl rfl ?_; rintro - _ _ - - - ⟨v, rfl, rfl, ⟨_, _⟩, hF⟩; refine Or.inl ⟨[], rfl, ?_⟩)
    all_goals first
      | omega
      | (show (32 - (_ : Int) : Int).toNat < (32 - (_ : Int) : Int).toNat; omega)
      | (exact hQ _ _ ⟨_, rfl, ⟨by omega, by omega⟩, fun z => by omega, by omega, lyC_s (lyS_at i0 (by omega) iN (by rcases hv with hv | hv; (exact hv.2); (exfalso; omega)) rfl) (by omega)⟩)
      | (exact hQ _ _ ⟨_, rfl, ⟨by omega, by omega⟩, fun z => by omega, by omega, lyC_s (lyS_end iS iN (by omega) (Or.inl ⟨i2, by omega⟩)) (by omega)⟩)
      | (show J0 _ _; refine (hJ0 _ _).mpr ⟨⟨by omega, by omega, by omega⟩, (by rcases hv with hv | hv; (exfalso; omega); exact ⟨hv.2.2.2.1, hv.2.2.2.2, ly_next i0 iN ⟨hv.2.1, hv.2.2.1⟩⟩)⟩)
      | (refine hQ _ _ ⟨_, rfl, ⟨by omega, by omega⟩, fun z => ?_, by simp (decide := true) only [wk_u_at, wk_ul_1, and_self, and_true, true_and, and_false, false_and, if_true, if_false] <;> omega, ?_⟩; (rcases hF with hF | hF; (exact ⟨LI_done (by rw [i2, ← (by omega : t = m.1 1 (4 : Nat))]; exact iL) (by omega) rfl (fun j j0 j1 => hF.2 j j0 j1), cEn_same rfl rfl rfl (hKK (by omega)), sZ_of iS (by omega) rfl (fun _ => rfl) (fun _ => rfl) (fun _ => rfl) (fun _ => rfl) (fun _ => rfl) (fun _ => by rw [← i2]; simp (decide := true) only [wk_u_at, wk_ul_1, and_self, and_true, true_and, and_false, false_and, if_true, if_false])⟩); (exfalso; omega)); (exact lyC_f (pc := m2.1 1 (11 : Nat)) (lyS_end iS iN (by omega) (Or.inr ⟨rfl, by omega⟩)) (by rw [← (by omega : t = m.1 1 (4 : Nat))]; exact iS.1.1) (by rw [← i2, ← h2]; exact hF)))
  · have e1 : ab_lo = -2147483648 := rfl
    have e2 : ab_hi = 2147483647 := rfl
    have hc := cnt32 hr
    repeat' first | (intro h; exact absurd h (by decide)) | (intro h; exact absurd rfl h) | refine And.intro ?_ ?_ | intro _ | refine Or.inl ⟨by omega, by omega, ?_⟩ | refine Or.inr ?_ | exact trivial | (refine wk_use (k27 hZ _ _ i0 (by omega) iL iK (m.1 2) (lyI (m.1 2) t.toNat) (by rw [h2]) (fun j _ _ => by rw [h2]) iS) rfl rfl ?_; rintro - _ _ - hfr - ⟨v, rfl, hv, hcc⟩; refine Or.inr ?_) | (refine wk_use (k32 hZ _) rfl rfl ?_; rintro - _ _ - - - ⟨v, rfl, rfl, ⟨_, _⟩, hF⟩; refine Or.inl ⟨[], rfl, ?_⟩)
    all_goals first
      | omega
      | trivial
      | (show J0 _ _; refine (hJ0 _ _).mpr ⟨⟨by omega, by omega, by simp (decide := true) only [wk_u_at, wk_ul_1, and_self, and_true, true_and, and_false, false_and, if_true, if_false]⟩, LI_zero, fun j j0 j1 => by omega, sG_zero (by simp (decide := true) only [wk_u_at, wk_ul_1, and_self, and_true, true_and, and_false, false_and, if_true, if_false]) (by simp (decide := true) only [wk_u_at, wk_ul_1, and_self, and_true, true_and, and_false, false_and, if_true, if_false]) (by simp (decide := true) only [wk_u_at, wk_ul_1, and_self, and_true, true_and, and_false, false_and, if_true, if_false]), fun j j0 j1 => by omega⟩)
