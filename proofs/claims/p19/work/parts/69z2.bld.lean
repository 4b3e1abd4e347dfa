/-! build with summaries -/
set_option maxHeartbeats 8000000 in
set_option maxRecDepth 20000 in
theorem k146y {Z : sm_Z} (hZ : Z.2.2.2 = tb_N) (m : wk_M) (hR : RI m.1) (op : Int → Int) (ho : ∀ j, 0 ≤ j → j < m.1 46 (0 : Nat) → op j = m.1 47 j) : wC Z 8 146 [46, 51, 52, 53, 54, 55, 56, 57, 58, 59, 60, 61, 62, 63] [.inr (.inl 46)] m (fun r m' => ∃ v : Int, r = some (.inl v) ∧ RI m'.1 ∧ m'.1 46 (34 : Nat) = m.1 46 (34 : Nat) ∧ m'.1 46 (0 : Nat) = m.1 46 (0 : Nat) ∧ ((m.1 46 (5 : Nat) = 1 ∧ v = -2 ∧ m' = m) ∨ (¬ m.1 46 (5 : Nat) = 1 ∧ ∃ u, lyC op (m.1 46 (0 : Nat)) u ∧ ((u = -1 ∧ v = 0 ∧ m'.1 46 (5 : Nat) = 1 ∧ sZ (lyI op (m.1 46 (0 : Nat)).toNat) (m.1 46 (0 : Nat)) (m'.1 46 (6 : Nat)) (m'.1 54) (m'.1 55) (m'.1 56) (m'.1 53) (m'.1 51) (m'.1 52) ∧ rH m'.1 (m.1 46 (0 : Nat)) ∧ rEx m'.1 m'.2 ∧ rX m') ∨ (¬ u = -1 ∧ v = -3 - u ∧ m'.1 46 (5 : Nat) = m.1 46 (5 : Nat)))))) := by
  obtain ⟨J0, hJ0⟩ : ∃ J : Int →Int → wk_M → Prop, ∀ bad i m', J bad i m' ↔ ((0 ≤ i ∧ i ≤ 32) ∧ (-1 ≤ bad ∧ bad ≤ 32) ∧ rOps m'.1 ∧ (m'.1 46 (5 : Nat) = 0 ∧ m'.1 46 (34 : Nat) = m.1 46 (34 : Nat) ∧ m'.1 46 (0 : Nat) = m.1 46 (0 : Nat) ∧ m.1 46 (5 : Nat) = 0) ∧ (bad < 0 → rWL m'.1 ∧ cOK (m'.1 47) (m'.1 46 (6 : Nat)) i ∧ i ≤ m.1 46 (0 : Nat) ∧ sZ (lyI op (m.1 46 (0 : Nat)).toNat) (m.1 46 (0 : Nat)) (m'.1 46 (6 : Nat)) (m'.1 54) (m'.1 55) (m'.1 56) (m'.1 53) (m'.1 51) (m'.1 52) ∧ rH m'.1 (m.1 46 (0 : Nat))) ∧ ((0 ≤ bad ∧ lyC op (m.1 46 (0 : Nat)) bad) ∨ (bad = -1 ∧ lyS op (m.1 46 (0 : Nat)) (-1)))) := ⟨_, fun _ _ _ => Iff.rfl⟩
  refine wC.gen fun Q hQ => wk_E hZ (by exact rfl) [(17, [(3, 46), (1, 0), (1, 0)], fun vs _ m' => (match vs with
    | [bad, i] => J0 bad i m'
    | _ => False), fun vs _ m' => (match vs with
    | [bad, i] => (32 - i : Int).toNat
    | _ => 0))] rfl (fun hr hs => ⟨?_, trivial⟩) (fun hr hs => ?_)
  · have e1 : ab_lo = -2147483648 := rfl
    have e2 : ab_hi = 2147483647 := rfl
    intro m2 hr2 hf2 bad badl badh i il ih hI
    have hI := (hJ0 _ _ _).mp hI
    obtain ⟨⟨i0, i1⟩, ⟨b0, b1⟩, hO, ⟨h5, h34, h0, hn5⟩, hb, hly⟩ := hI
    have hc : 0 ≤ m2.1 46 (0 : Nat) ∧ m2.1 46 (0 : Nat) ≤ 32 := hr2.1 46 0
    have h47 : m2.1 47 = m.1 47 := (hf2 47 (by decide)).1
    have hob : ∀ j, 0 ≤ j → j < m.1 46 (0 : Nat) → op j = m2.1 47 j := fun j a b => by rw [h47]; exact ho j a b
    have hbi : bad < 0 → i ≤ m.1 46 (0 : Nat) := fun z => (hb z).2.2.1
    repeat' first | (intro h; exact absurd h (by decide)) | (intro h; exact absurd rfl h) | refine And.intro ?_ ?_ | intro _ | refine Or.inl ⟨by omega, by omega, ?_⟩ | refine Or.inr ?_ | exact trivial | (refine wk_use (k148 hZ _ _ (by omega) (by omega)) rfl rfl ?_; rintro - _ _ - - - ⟨_, rfl, rfl, ⟨rfl, hcl⟩ | ⟨rfl, hcl⟩⟩; refine Or.inl ⟨[], rfl, ?_⟩) | (refine wk_use (k149x hZ _) rfl rfl ?_; rintro - _ _ - hfr - ⟨rfl, hrx⟩; have f1 := hfr; refine Or.inr ?_) | (refine wk_use (k152x hZ _ (ck_149 f1 (fun j j0 j1 => (hb (by omega)).2.1 j j0 (by omega)))) rfl rfl ?_; rintro - _ _ - hfr - ⟨rfl, hx2⟩; have f2 := hfr; refine Or.inr ?_)
    all_goals first
      | omega
      | (show (32 - (_ : Int) : Int).toNat < (32 - (_ : Int) : Int).toNat; omega)
      | exact hQ _ _ ⟨_, rfl, ⟨hO, fun z => by omega⟩, h34, h0, Or.inr ⟨by omega, _, (by rcases hly with q | q; (exact q.2); (exfalso; omega) : lyC op (m.1 46 (0 : Nat)) bad), Or.inr ⟨by omega, by omega, by omega⟩⟩⟩
      | exact hQ _ _ ⟨_, rfl, RI_built hO (hb (by omega)).1 (fun j j0 j1 => (hb (by omega)).2.1 j j0 (by omega)) f1 f2, by rw [rb_46 f1 f2]; simp (decide := true) only [wk_u_at, wk_ul_1, and_self, and_true, true_and, and_false, false_and, if_true, if_false] <;> omega, by rw [rb_46 f1 f2]; simp (decide := true) only [wk_u_at, wk_ul_1, and_self, and_true, true_and, and_false, false_and, if_true, if_false] <;> omega, Or.inr ⟨by omega, -1, lyC_f (pc := m2.1 46 (6 : Nat)) (by rcases hly with q | q; (exfalso; omega); exact q.2) (hb (by omega)).2.2.2.1.1 (Or.inl ⟨rfl, cOK_op hob (Int.le_refl _) (fun j j0 j1 => (hb (by omega)).2.1 j j0 (by omega))⟩), Or.inl ⟨rfl, rfl, by rw [rb_46 f1 f2]; simp (decide := true) only [wk_u_at, wk_ul_1, and_self, and_true, true_and, and_false, false_and, if_true, if_false], rb_z f1 f2 (hb (by omega)).2.2.2.1, rH_sm (rb_57 f1 f2) (hb (by omega)).2.2.2.2, rb_x f1 f2 hrx, rX_of f2 hx2⟩⟩⟩
      | (show J0 _ _ _; refine (hJ0 _ _ _).mpr ⟨⟨by omega, by omega⟩, ⟨by omega, by omega⟩, hO, ⟨h5, h34, h0, hn5⟩, fun z => ⟨(hb z).1, fun j j0 j1 a b => by by_cases e : j = i; (subst e; clear hb hly; omega); exact (hb z).2.1 j j0 (by omega) a b, by omega, (hb z).2.2.2⟩, hly⟩)
      | (show J0 _ _ _; refine (hJ0 _ _ _).mpr ⟨⟨by omega, by omega⟩, ⟨by omega, by omega⟩, hO, ⟨h5, h34, h0, hn5⟩, fun z => by omega, Or.inl ⟨by omega, lyC_f (by rcases hly with q | q; (exfalso; omega); exact q.2) (hb (by omega)).2.2.2.1.1 (Or.inr ⟨⟨i0, by omega, (by rw [hob i i0 (by omega)]; omega), (by rw [hob i i0 (by omega)]; omega), (by rw [hob i i0 (by omega)]; omega)⟩, cOK_op hob (by omega) (hb (by omega)).2.1⟩)⟩⟩)
  · have e1 : ab_lo = -2147483648 := rfl
    have e2 : ab_hi = 2147483647 := rfl
    have hb5 : 0 ≤ m.1 46 (5 : Nat) ∧ m.1 46 (5 : Nat) ≤ 1 := hr.1 46 5
    have hc9 : 0 ≤ m.1 46 (0 : Nat) ∧ m.1 46 (0 : Nat) ≤ 32 := hr.1 46 0
    repeat' first | (intro h; exact absurd h (by decide)) | (intro h; exact absurd rfl h) | refine And.intro ?_ ?_ | intro _ | refine Or.inl ⟨by omega, by omega, ?_⟩ | refine Or.inr ?_ | exact trivial | (refine wk_use (k147x hZ _ op ho) rfl rfl ?_; rintro - _ _ - hfr - ⟨v, rfl, hv, hw, ⟨hc, h5, h34⟩, hly⟩; have fs := hfr; refine Or.inr ?_)
    all_goals first
      | omega
      | trivial
      | exact hQ _ _ ⟨_, rfl, hR, rfl, rfl, Or.inl ⟨by omega, rfl, rfl⟩⟩
      | (show J0 _ _ _; refine (hJ0 _ _ _).mpr ⟨⟨by omega, by omega⟩, ⟨by omega, by omega⟩, rOps_lay fs hc hR.1, ⟨by omega, by omega, by omega, by omega⟩, fun z => ⟨(hw (by omega)).1, fun j j0 j1 => by omega, by omega, (hw (by omega)).2⟩, (by by_cases e : v = -1; (subst e; exact Or.inr ⟨rfl, hly⟩); exact Or.inl ⟨by omega, lyC_s hly e⟩)⟩)
