/-! build, exactly -/
theorem rH_fin {m : wk_M} {t c a b : Int} (h : rH m.1 t) (e : t = c) : rH (wk_u m 52 a b).1 c := by
  subst e
  exact h

set_option maxHeartbeats 8000000 in
set_option maxRecDepth 20000 in
theorem k147x {Z : sm_Z} (hZ : Z.2.2.2 = tb_N) (m : wk_M) (op : Int → Int) (ho : ∀ j, 0 ≤ j → j < m.1 46 (0 : Nat) → op j = m.1 47 j) : wC Z 1 147 [46, 51, 52, 53, 54, 55, 56, 57, 58] [.inr (.inl 46)] m (fun r m' => ∃ v : Int, r = some (.inl v) ∧ (-1 ≤ v ∧ v ≤ 32) ∧ (v = -1 → rWL m'.1 ∧ sZ (lyI op (m.1 46 (0 : Nat)).toNat) (m.1 46 (0 : Nat)) (m'.1 46 (6 : Nat)) (m'.1 54) (m'.1 55) (m'.1 56) (m'.1 53) (m'.1 51) (m'.1 52) ∧ rH m'.1 (m.1 46 (0 : Nat))) ∧ (m'.1 46 (0 : Nat) = m.1 46 (0 : Nat) ∧ m'.1 46 (5 : Nat) = m.1 46 (5 : Nat) ∧ m'.1 46 (34 : Nat) = m.1 46 (34 : Nat)) ∧ lyS op (m.1 46 (0 : Nat)) v) := by
  obtain ⟨J0, hJ0⟩ : ∃ J : Int →Int → wk_M → Prop, ∀ o t m', J o t m' ↔ ((0 ≤ t ∧ t ≤ m.1 46 (0 : Nat) ∧ m.1 46 (0 : Nat) ≤ 32 ∧ m'.1 46 (0 : Nat) = m.1 46 (0 : Nat) ∧ m'.1 46 (5 : Nat) = m.1 46 (5 : Nat) ∧ m'.1 46 (34 : Nat) = m.1 46 (34 : Nat)) ∧ rLI m'.1 o t ∧ sG (lyI op t.toNat) (m'.1 46 (6 : Nat)) o (m'.1 54) (m'.1 55) (m'.1 56) (m'.1 53) (m'.1 51) (m'.1 52) (m'.1 58) t ∧ ∀ j, 0 ≤ j → j < t → ¬ lyB op (lyI op j.toNat) j) := ⟨_, fun _ _ _ => Iff.rfl⟩
  refine wC.gen fun Q hQ => wk_E hZ (by exact rfl) [(16, [(3, 46), (1, 0), (1, 0), (0, 0)], fun vs _ m' => (match vs with
    | [o, t] => J0 o t m'
    | _ => False), fun vs _ m' => (match vs with
    | [o, t] => (32 - t : Int).toNat
    | _ => 0))] rfl (fun hr hs => ⟨?_, trivial⟩) (fun hr hs => ?_)
  · have e1 : ab_lo = -2147483648 := rfl
    have e2 : ab_hi = 2147483647 := rfl
    intro m2 hr2 hf2 o ol oh t tl th hI
    have hI := (hJ0 _ _ _).mp hI
    obtain ⟨⟨i0, i1, i3, i2, i5, i34⟩, iL, iS, iN⟩ := hI
    have hd : 0 ≤ o ∧ o ≤ 4 := iL.1.2.2.2.2.1.1
    have hp : 1 ≤ m2.1 46 (6 : Nat) ∧ m2.1 46 (6 : Nat) ≤ 4 := iL.1.1.1
    have hF := rLI_first iL
    have hq := iL.1.2.2.2.2.1.2 (o - 1)
    have hq : 0 ≤ o - 1 → o - 1 < o → m2.1 51 (m2.1 46 (6 : Nat) - 1) ≤ m2.1 58 (o - 1) ∧ m2.1 58 (o - 1) < t := hq
    have h47 : m2.1 47 = m.1 47 := (hf2 47 (by decide)).1
    have hot : t < m.1 46 (0 : Nat) → op t = m2.1 47 t := fun q => by rw [h47]; exact ho t i0 q
    have hox : 0 ≤ m2.1 58 (o - 1) → m2.1 58 (o - 1) < m.1 46 (0 : Nat) → op (m2.1 58 (o - 1)) = m2.1 47 (m2.1 58 (o - 1)) := fun a b => by rw [h47]; exact ho _ a b
    repeat' first | (intro h; exact absurd h (by decide)) | (intro h; exact absurd rfl h) | refine And.intro ?_ ?_ | intro _ | refine Or.inl ⟨by omega, by omega, ?_⟩ | refine Or.inr ?_ | exact trivial
    all_goals first
      | omega
      | (show (32 - (_ : Int) : Int).toNat < (32 - (_ : Int) : Int).toNat; omega)
      | exact hQ _ _ ⟨_, rfl, ⟨by omega, by omega⟩, fun z => by omega, ⟨by simp (decide := true) only [wk_u_at, wk_ul_1, and_self, and_true, true_and, and_false, false_and, if_true, if_false] <;> omega, by simp (decide := true) only [wk_u_at, wk_ul_1, and_self, and_true, true_and, and_false, false_and, if_true, if_false] <;> omega, by simp (decide := true) only [wk_u_at, wk_ul_1, and_self, and_true, true_and, and_false, false_and, if_true, if_false] <;> omega⟩, lyS_at i0 (by omega) iN (lb_open iS (by omega) (by omega)) rfl⟩
      | exact hQ _ _ ⟨_, rfl, ⟨by omega, by omega⟩, fun z => by omega, ⟨by simp (decide := true) only [wk_u_at, wk_ul_1, and_self, and_true, true_and, and_false, false_and, if_true, if_false] <;> omega, by simp (decide := true) only [wk_u_at, wk_ul_1, and_self, and_true, true_and, and_false, false_and, if_true, if_false] <;> omega, by simp (decide := true) only [wk_u_at, wk_ul_1, and_self, and_true, true_and, and_false, false_and, if_true, if_false] <;> omega⟩, lyS_at i0 (by omega) iN (lb_else0 iS (by omega) (by omega)) rfl⟩
      | exact hQ _ _ ⟨_, rfl, ⟨by omega, by omega⟩, fun z => by omega, ⟨by simp (decide := true) only [wk_u_at, wk_ul_1, and_self, and_true, true_and, and_false, false_and, if_true, if_false] <;> omega, by simp (decide := true) only [wk_u_at, wk_ul_1, and_self, and_true, true_and, and_false, false_and, if_true, if_false] <;> omega, by simp (decide := true) only [wk_u_at, wk_ul_1, and_self, and_true, true_and, and_false, false_and, if_true, if_false] <;> omega⟩, lyS_at i0 (by omega) iN (lb_else1 iS (lyT_eq iS (x := m2.1 58 (o - 1)) (by omega)) (by omega) (by omega) (by omega) (by omega)) rfl⟩
      | exact hQ _ _ ⟨_, rfl, ⟨by omega, by omega⟩, fun z => by omega, ⟨by simp (decide := true) only [wk_u_at, wk_ul_1, and_self, and_true, true_and, and_false, false_and, if_true, if_false] <;> omega, by simp (decide := true) only [wk_u_at, wk_ul_1, and_self, and_true, true_and, and_false, false_and, if_true, if_false] <;> omega, by simp (decide := true) only [wk_u_at, wk_ul_1, and_self, and_true, true_and, and_false, false_and, if_true, if_false] <;> omega⟩, lyS_at i0 (by omega) iN (lb_end iS (by omega) (by omega)) rfl⟩
      | exact hQ _ _ ⟨_, rfl, ⟨by omega, by omega⟩, fun z => by omega, ⟨by simp (decide := true) only [wk_u_at, wk_ul_1, and_self, and_true, true_and, and_false, false_and, if_true, if_false] <;> omega, by simp (decide := true) only [wk_u_at, wk_ul_1, and_self, and_true, true_and, and_false, false_and, if_true, if_false] <;> omega, by simp (decide := true) only [wk_u_at, wk_ul_1, and_self, and_true, true_and, and_false, false_and, if_true, if_false] <;> omega⟩, lyS_at i0 (by omega) iN (lb_proc iS (by omega) (by omega)) rfl⟩
      | exact hQ _ _ ⟨_, rfl, ⟨by omega, by omega⟩, fun z => by omega, ⟨by simp (decide := true) only [wk_u_at, wk_ul_1, and_self, and_true, true_and, and_false, false_and, if_true, if_false] <;> omega, by simp (decide := true) only [wk_u_at, wk_ul_1, and_self, and_true, true_and, and_false, false_and, if_true, if_false] <;> omega, by simp (decide := true) only [wk_u_at, wk_ul_1, and_self, and_true, true_and, and_false, false_and, if_true, if_false] <;> omega⟩, lyS_end iS iN (by omega) (Or.inl ⟨by omega, by omega⟩)⟩
      | exact hQ _ _ ⟨_, rfl, ⟨by omega, by omega⟩, fun z => ⟨rLI_fin iL (by omega) (by omega), sZ_of iS (by omega) (by simp (decide := true) only [wk_u_at, wk_ul_1, and_self, and_true, true_and, and_false, false_and, if_true, if_false]) (fun _ => rfl) (fun _ => rfl) (fun _ => rfl) (fun _ => rfl) (fun _ => rfl) (fun _ => by rw [← i2]; simp (decide := true) only [wk_u_at, wk_ul_1, and_self, and_true, true_and, and_false, false_and, if_true, if_false]), rH_fin iL.2.1 (by omega)⟩, ⟨by simp (decide := true) only [wk_u_at, wk_ul_1, and_self, and_true, true_and, and_false, false_and, if_true, if_false] <;> omega, by simp (decide := true) only [wk_u_at, wk_ul_1, and_self, and_true, true_and, and_false, false_and, if_true, if_false] <;> omega, by simp (decide := true) only [wk_u_at, wk_ul_1, and_self, and_true, true_and, and_false, false_and, if_true, if_false] <;> omega⟩, lyS_end iS iN (by omega) (Or.inr ⟨by omega, by omega⟩)⟩
      | (show J0 _ _ _; refine (hJ0 _ _ _).mpr ⟨⟨by omega, by omega, i3, by simp (decide := true) only [wk_u_at, wk_ul_1, and_self, and_true, true_and, and_false, false_and, if_true, if_false] <;> omega, by simp (decide := true) only [wk_u_at, wk_ul_1, and_self, and_true, true_and, and_false, false_and, if_true, if_false] <;> omega, by simp (decide := true) only [wk_u_at, wk_ul_1, and_self, and_true, true_and, and_false, false_and, if_true, if_false] <;> omega⟩, rLI_plain (rLI_pre iL) (by simp (decide := true) only [wk_u_at, wk_ul_1, and_self, and_true, true_and, and_false, false_and, if_true, if_false]) (by simp (decide := true) only [wk_u_at, wk_ul_1, and_self, and_true, true_and, and_false, false_and, if_true, if_false] <;> omega), ly_next i0 iN (ly_plain iS (lyT_eq iS (x := -1) (by omega)) (by omega) (by simp (decide := true) only [wk_u_at, wk_ul_1, and_self, and_true, true_and, and_false, false_and, if_true, if_false]) (by omega) (fun _ => by simp (decide := true) only [wk_u_at, wk_ul_1, and_self, and_true, true_and, and_false, false_and, if_true, if_false]) (fun _ => by simp (decide := true) only [wk_u_at, wk_ul_1, and_self, and_true, true_and, and_false, false_and, if_true, if_false]) (fun _ => by simp (decide := true) only [wk_u_at, wk_ul_1, and_self, and_true, true_and, and_false, false_and, if_true, if_false]) (fun _ => by simp (decide := true) only [wk_u_at, wk_ul_1, and_self, and_true, true_and, and_false, false_and, if_true, if_false]) (fun _ => rfl) (fun _ => rfl) (fun _ => rfl))⟩)
      | (show J0 _ _ _; refine (hJ0 _ _ _).mpr ⟨⟨by omega, by omega, i3, by simp (decide := true) only [wk_u_at, wk_ul_1, and_self, and_true, true_and, and_false, false_and, if_true, if_false] <;> omega, by simp (decide := true) only [wk_u_at, wk_ul_1, and_self, and_true, true_and, and_false, false_and, if_true, if_false] <;> omega, by simp (decide := true) only [wk_u_at, wk_ul_1, and_self, and_true, true_and, and_false, false_and, if_true, if_false] <;> omega⟩, rLI_plain (rLI_pre iL) (by simp (decide := true) only [wk_u_at, wk_ul_1, and_self, and_true, true_and, and_false, false_and, if_true, if_false]) (by simp (decide := true) only [wk_u_at, wk_ul_1, and_self, and_true, true_and, and_false, false_and, if_true, if_false] <;> omega), ly_next i0 iN (ly_plain iS (lyT_eq iS (x := m2.1 58 (o - 1)) (by omega)) (by omega) (by simp (decide := true) only [wk_u_at, wk_ul_1, and_self, and_true, true_and, and_false, false_and, if_true, if_false]) (by omega) (fun _ => by simp (decide := true) only [wk_u_at, wk_ul_1, and_self, and_true, true_and, and_false, false_and, if_true, if_false]) (fun _ => by simp (decide := true) only [wk_u_at, wk_ul_1, and_self, and_true, true_and, and_false, false_and, if_true, if_false]) (fun _ => by simp (decide := true) only [wk_u_at, wk_ul_1, and_self, and_true, true_and, and_false, false_and, if_true, if_false]) (fun _ => by simp (decide := true) only [wk_u_at, wk_ul_1, and_self, and_true, true_and, and_false, false_and, if_true, if_false]) (fun _ => rfl) (fun _ => rfl) (fun _ => rfl))⟩)
      | (show J0 _ _ _; refine (hJ0 _ _ _).mpr ⟨⟨by omega, by omega, i3, by simp (decide := true) only [wk_u_at, wk_ul_1, and_self, and_true, true_and, and_false, false_and, if_true, if_false] <;> omega, by simp (decide := true) only [wk_u_at, wk_ul_1, and_self, and_true, true_and, and_false, false_and, if_true, if_false] <;> omega, by simp (decide := true) only [wk_u_at, wk_ul_1, and_self, and_true, true_and, and_false, false_and, if_true, if_false] <;> omega⟩, rLI_open (rLI_pre iL) (by simp (decide := true) only [wk_u_at, wk_ul_1, and_self, and_true, true_and, and_false, false_and, if_true, if_false]) (by simp (decide := true) only [wk_u_at, wk_ul_1, and_self, and_true, true_and, and_false, false_and, if_true, if_false] <;> omega) (by simp (decide := true) only [wk_u_at, wk_ul_1, and_self, and_true, true_and, and_false, false_and, if_true, if_false]) (by omega), ly_next i0 iN (ly_open iS (lyT_eq iS (x := -1) (by omega)) (by omega) (by omega) (by simp (decide := true) only [wk_u_at, wk_ul_1, and_self, and_true, true_and, and_false, false_and, if_true, if_false]) (by omega) (fun _ => by simp (decide := true) only [wk_u_at, wk_ul_1, and_self, and_true, true_and, and_false, false_and, if_true, if_false]) (fun _ => by simp (decide := true) only [wk_u_at, wk_ul_1, and_self, and_true, true_and, and_false, false_and, if_true, if_false]) (fun _ => by simp (decide := true) only [wk_u_at, wk_ul_1, and_self, and_true, true_and, and_false, false_and, if_true, if_false]) (fun _ => by simp (decide := true) only [wk_u_at, wk_ul_1, and_self, and_true, true_and, and_false, false_and, if_true, if_false]) (fun _ => rfl) (fun _ => rfl) (fun _ => by simp (decide := true) only [wk_u_at, wk_ul_1, and_self, and_true, true_and, and_false, false_and, if_true, if_false]))⟩)
      | (show J0 _ _ _; refine (hJ0 _ _ _).mpr ⟨⟨by omega, by omega, i3, by simp (decide := true) only [wk_u_at, wk_ul_1, and_self, and_true, true_and, and_false, false_and, if_true, if_false] <;> omega, by simp (decide := true) only [wk_u_at, wk_ul_1, and_self, and_true, true_and, and_false, false_and, if_true, if_false] <;> omega, by simp (decide := true) only [wk_u_at, wk_ul_1, and_self, and_true, true_and, and_false, false_and, if_true, if_false] <;> omega⟩, rLI_open (rLI_pre iL) (by simp (decide := true) only [wk_u_at, wk_ul_1, and_self, and_true, true_and, and_false, false_and, if_true, if_false]) (by simp (decide := true) only [wk_u_at, wk_ul_1, and_self, and_true, true_and, and_false, false_and, if_true, if_false] <;> omega) (by simp (decide := true) only [wk_u_at, wk_ul_1, and_self, and_true, true_and, and_false, false_and, if_true, if_false]) (by omega), ly_next i0 iN (ly_open iS (lyT_eq iS (x := m2.1 58 (o - 1)) (by omega)) (by omega) (by omega) (by simp (decide := true) only [wk_u_at, wk_ul_1, and_self, and_true, true_and, and_false, false_and, if_true, if_false]) (by omega) (fun _ => by simp (decide := true) only [wk_u_at, wk_ul_1, and_self, and_true, true_and, and_false, false_and, if_true, if_false]) (fun _ => by simp (decide := true) only [wk_u_at, wk_ul_1, and_self, and_true, true_and, and_false, false_and, if_true, if_false]) (fun _ => by simp (decide := true) only [wk_u_at, wk_ul_1, and_self, and_true, true_and, and_false, false_and, if_true, if_false]) (fun _ => by simp (decide := true) only [wk_u_at, wk_ul_1, and_self, and_true, true_and, and_false, false_and, if_true, if_false]) (fun _ => rfl) (fun _ => rfl) (fun _ => by simp (decide := true) only [wk_u_at, wk_ul_1, and_self, and_true, true_and, and_false, false_and, if_true, if_false]))⟩)
      | (show J0 _ _ _; refine (hJ0 _ _ _).mpr ⟨⟨by omega, by omega, i3, by simp (decide := true) only [wk_u_at, wk_ul_1, and_self, and_true, true_and, and_false, false_and, if_true, if_false] <;> omega, by simp (decide := true) only [wk_u_at, wk_ul_1, and_self, and_true, true_and, and_false, false_and, if_true, if_false] <;> omega, by simp (decide := true) only [wk_u_at, wk_ul_1, and_self, and_true, true_and, and_false, false_and, if_true, if_false] <;> omega⟩, rLI_else' (rLI_pre iL) (by simp (decide := true) only [wk_u_at, wk_ul_1, and_self, and_true, true_and, and_false, false_and, if_true, if_false]) (by simp (decide := true) only [wk_u_at, wk_ul_1, and_self, and_true, true_and, and_false, false_and, if_true, if_false] <;> omega) (by omega) (by simp (decide := true) only [wk_u_at, wk_ul_1, and_self, and_true, true_and, and_false, false_and, if_true, if_false]) (by simp (decide := true) only [wk_u_at, wk_ul_1, and_self, and_true, true_and, and_false, false_and, if_true, if_false]), ly_next i0 iN (ly_else iS (lyT_eq iS (x := m2.1 58 (o - 1)) (by omega)) (by omega) (by omega) (by omega) (by omega) (by omega) (by omega) (by simp (decide := true) only [wk_u_at, wk_ul_1, and_self, and_true, true_and, and_false, false_and, if_true, if_false]) (by omega) (fun _ => by simp (decide := true) only [wk_u_at, wk_ul_1, and_self, and_true, true_and, and_false, false_and, if_true, if_false]) (fun _ => by simp (decide := true) only [wk_u_at, wk_ul_1, and_self, and_true, true_and, and_false, false_and, if_true, if_false]) (fun _ => by simp (decide := true) only [wk_u_at, wk_ul_1, and_self, and_true, true_and, and_false, false_and, if_true, if_false]) (fun _ => by simp (decide := true) only [wk_u_at, wk_ul_1, and_self, and_true, true_and, and_false, false_and, if_true, if_false]) (fun _ => rfl) (fun _ => rfl) (fun _ => rfl))⟩)
      | (show J0 _ _ _; refine (hJ0 _ _ _).mpr ⟨⟨by omega, by omega, i3, by simp (decide := true) only [wk_u_at, wk_ul_1, and_self, and_true, true_and, and_false, false_and, if_true, if_false] <;> omega, by simp (decide := true) only [wk_u_at, wk_ul_1, and_self, and_true, true_and, and_false, false_and, if_true, if_false] <;> omega, by simp (decide := true) only [wk_u_at, wk_ul_1, and_self, and_true, true_and, and_false, false_and, if_true, if_false] <;> omega⟩, rLI_end' (rLI_pre iL) (by simp (decide := true) only [wk_u_at, wk_ul_1, and_self, and_true, true_and, and_false, false_and, if_true, if_false]) (by simp (decide := true) only [wk_u_at, wk_ul_1, and_self, and_true, true_and, and_false, false_and, if_true, if_false] <;> omega) (by omega) (by simp (decide := true) only [wk_u_at, wk_ul_1, and_self, and_true, true_and, and_false, false_and, if_true, if_false]) (by simp (decide := true) only [wk_u_at, wk_ul_1, and_self, and_true, true_and, and_false, false_and, if_true, if_false]), ly_next i0 iN (ly_end iS (lyT_eq iS (x := m2.1 58 (o - 1)) (by omega)) (by omega) (by omega) (by simp (decide := true) only [wk_u_at, wk_ul_1, and_self, and_true, true_and, and_false, false_and, if_true, if_false]) (by omega) (fun _ => by simp (decide := true) only [wk_u_at, wk_ul_1, and_self, and_true, true_and, and_false, false_and, if_true, if_false]) (fun _ => by simp (decide := true) only [wk_u_at, wk_ul_1, and_self, and_true, true_and, and_false, false_and, if_true, if_false]) (fun _ => by simp (decide := true) only [wk_u_at, wk_ul_1, and_self, and_true, true_and, and_false, false_and, if_true, if_false]) (fun _ => by simp (decide := true) only [wk_u_at, wk_ul_1, and_self, and_true, true_and, and_false, false_and, if_true, if_false]) (fun _ => rfl) (fun _ => rfl) (fun _ => rfl))⟩)
      | (show J0 _ _ _; refine (hJ0 _ _ _).mpr ⟨⟨by omega, by omega, i3, by simp (decide := true) only [wk_u_at, wk_ul_1, and_self, and_true, true_and, and_false, false_and, if_true, if_false] <;> omega, by simp (decide := true) only [wk_u_at, wk_ul_1, and_self, and_true, true_and, and_false, false_and, if_true, if_false] <;> omega, by simp (decide := true) only [wk_u_at, wk_ul_1, and_self, and_true, true_and, and_false, false_and, if_true, if_false] <;> omega⟩, rLI_proc' (rLI_pre iL) (by simp (decide := true) only [wk_u_at, wk_ul_1, and_self, and_true, true_and, and_false, false_and, if_true, if_false] <;> omega) (by omega) (by simp (decide := true) only [wk_u_at, wk_ul_1, and_self, and_true, true_and, and_false, false_and, if_true, if_false] <;> omega) (by simp (decide := true) only [wk_u_at, wk_ul_1, and_self, and_true, true_and, and_false, false_and, if_true, if_false]), ly_next i0 iN (ly_proc iS (lyT_eq iS (x := -1) (by omega)) (by omega) (by omega) (by omega) (by simp (decide := true) only [wk_u_at, wk_ul_1, and_self, and_true, true_and, and_false, false_and, if_true, if_false]) (by omega) (fun _ => by simp (decide := true) only [wk_u_at, wk_ul_1, and_self, and_true, true_and, and_false, false_and, if_true, if_false]) (fun _ => by simp (decide := true) only [wk_u_at, wk_ul_1, and_self, and_true, true_and, and_false, false_and, if_true, if_false]) (fun _ => by simp (decide := true) only [wk_u_at, wk_ul_1, and_self, and_true, true_and, and_false, false_and, if_true, if_false]) (fun _ => by simp (decide := true) only [wk_u_at, wk_ul_1, and_self, and_true, true_and, and_false, false_and, if_true, if_false]) (fun _ => by simp (decide := true) only [wk_u_at, wk_ul_1, and_self, and_true, true_and, and_false, false_and, if_true, if_false]) (fun _ => by simp (decide := true) only [wk_u_at, wk_ul_1, and_self, and_true, true_and, and_false, false_and, if_true, if_false]) (fun _ => rfl))⟩)
  · have e1 : ab_lo = -2147483648 := rfl
    have e2 : ab_hi = 2147483647 := rfl
    have hc := (hr.1 46 0).2
    have hc : m.1 46 (0 : Nat) ≤ 32 := hc
    have hc0 : 0 ≤ m.1 46 (0 : Nat) := (hr.1 46 0).1
    repeat' first | (intro h; exact absurd h (by decide)) | (intro h; exact absurd rfl h) | refine And.intro ?_ ?_ | intro _ | refine Or.inl ⟨by omega, by omega, ?_⟩ | refine Or.inr ?_ | exact trivial
    all_goals first
      | omega
      | trivial
      | (show J0 _ _ _; refine (hJ0 _ _ _).mpr ⟨⟨by omega, by omega, by omega, by simp (decide := true) only [wk_u_at, wk_ul_1, and_self, and_true, true_and, and_false, false_and, if_true, if_false], by simp (decide := true) only [wk_u_at, wk_ul_1, and_self, and_true, true_and, and_false, false_and, if_true, if_false], by simp (decide := true) only [wk_u_at, wk_ul_1, and_self, and_true, true_and, and_false, false_and, if_true, if_false]⟩, rLI_zero, sG_zero (by simp (decide := true) only [wk_u_at, wk_ul_1, and_self, and_true, true_and, and_false, false_and, if_true, if_false]) rfl (by simp (decide := true) only [wk_u_at, wk_ul_1, and_self, and_true, true_and, and_false, false_and, if_true, if_false]), fun j j0 j1 => by omega⟩)

theorem Sw_sm {f g : Nat → Int → Int} (e0 : g 46 (0 : Nat) = f 46 (0 : Nat)) (e : ∀ p, 47 ≤ p → p ≤ 57 → g p = f p) : Sw g = Sw f := by
  have ew : wy g = wy f := by
    funext i w v
    unfold wy rBh
    rw [e 47 (by decide) (by decide), e 52 (by decide) (by decide), e 53 (by decide) (by decide), e 55 (by decide) (by decide), e 56 (by decide) (by decide), e 57 (by decide) (by decide)]
  funext a b
  unfold Sw Sr
  rw [e0, e 47 (by decide) (by decide), ew]
theorem rEx_sm {f g : Nat → Int → Int} {l l' : Nat → Int → Int64} (e0 : g 46 (0 : Nat) = f 46 (0 : Nat)) (e : ∀ p, 47 ≤ p → p ≤ 57 → g p = f p) (e59 : l' 59 = l 59) (h : rEx f l) : rEx g l' := by
  unfold rEx at h ⊢
  rw [Sw_sm e0 e, e59]
  exact h
theorem rH_sm {f g : Nat → Int → Int} {c : Int} (e : ∀ p, 47 ≤ p → p ≤ 57 → g p = f p) (h : rH f c) : rH g c := by
  unfold rH at h ⊢
  rw [e 47 (by decide) (by decide), e 54 (by decide) (by decide), e 57 (by decide) (by decide)]
  exact h
theorem rb_x {m1 m2 m3 : wk_M} (f1 : wk_fr [59] m2 (wk_u m1 46 (5 : Nat) 1)) (f2 : wk_fr [60, 61, 62, 63] m3 m2) (h : rEx (wk_u m1 46 (5 : Nat) 1).1 m2.2) : rEx m3.1 m3.2 := rEx_sm (congrFun (rb_46 f1 f2) _) (fun p p0 p1 => (rb_57 f1 f2 p p0 p1).trans (wk_u_ne m1 46 _ _ (by omega)).symm) (f2 59 (by decide)).2 h

theorem lyC_S {op : Int → Int} {c v : Int} (h : lyC op c v) (e : v = -1) : lyS op c (-1) := by
  obtain ⟨u, hu, ⟨a, b⟩ | ⟨a, b⟩⟩ := h
  · exact absurd (b.symm.trans e) a
  · rw [a] at hu
    exact hu
theorem yWc_of {m1 m : wk_M} {v : Int} (f26 : wk_fr [1, 6, 7, 8, 9, 10, 11, 12] m1 m) (hc : m1.1 1 (4 : Nat) = m.1 1 (4 : Nat)) (c0 : 0 ≤ m.1 1 (4 : Nat)) (hly : lyC (m.1 2) (m.1 1 (4 : Nat)) v) (e : v = -1) (hz : sZ (lyI (m.1 2) (m.1 1 (4 : Nat)).toNat) (m.1 1 (4 : Nat)) (m1.1 1 (11 : Nat)) (m1.1 6) (m1.1 7) (m1.1 8) (m1.1 9) (m1.1 10) (m1.1 11)) : yWc m1.1 := by
  unfold yWc
  rw [hc, (f26 2 (by decide)).1]
  exact yW_of c0 (lyC_S hly e) hz
theorem Sc_sm {f g : Nat → Int → Int} (e : ∀ p, 1 ≤ p → p ≤ 12 → g p = f p) : Sc g = Sc f := by
  funext i j
  unfold Sc
  rw [e 2 (by decide) (by decide), e 6 (by decide) (by decide), e 7 (by decide) (by decide), e 8 (by decide) (by decide)]
theorem Scc_sm {f g : Nat → Int → Int} (e : ∀ p, 1 ≤ p → p ≤ 12 → g p = f p) : Scc g = Scc f := by
  funext i j
  unfold Scc
  rw [e 1 (by decide) (by decide), Sc_sm e]
theorem dfc_sm {f g : Nat → Int → Int} (e : ∀ p, 1 ≤ p → p ≤ 12 → g p = f p) (x : Int) : dfc g x = dfc f x := by
  funext i
  unfold dfc
  rw [e 1 (by decide) (by decide), e 2 (by decide) (by decide), e 3 (by decide) (by decide)]
theorem DK_sm {f g : Nat → Int → Int} (e : ∀ p, 1 ≤ p → p ≤ 12 → g p = f p) : DK g = DK f := by
  have ec : ∀ n, cLl g n = cLl f n := fun n => by
    unfold cLl
    rw [e 1 (by decide) (by decide), e 2 (by decide) (by decide)]
  have ea : ∀ j n, rcA g j n = rcA f j n := fun j n => by
    unfold rcA
    rw [Scc_sm e]
  have ed : ∀ j n, rcD g j n = rcD f j n := fun j n => by
    unfold rcD
    rw [Scc_sm e, e 3 (by decide) (by decide), dfc_sm e]
  have er : ∀ n z, rdc g n z = rdc f n z := fun n z => by
    unfold rdc
    rw [ec, e 2 (by decide) (by decide), e 4 (by decide) (by decide), e 5 (by decide) (by decide)]
  have en : ∀ n, ndT g n = ndT f n := fun n => by
    unfold ndT ndE
    rw [e 1 (by decide) (by decide), e 2 (by decide) (by decide)]
  have ei : ∀ n j, inP g n j = inP f n j := fun n j => by
    unfold inP
    rw [e 9 (by decide) (by decide), e 10 (by decide) (by decide), e 11 (by decide) (by decide)]
  funext k n j
  unfold DK
  rw [en, ei, er, ea, ed, ec, ec, dfc_sm e, e 2 (by decide) (by decide), e 3 (by decide) (by decide), e 6 (by decide) (by decide)]
def kX (f : Nat → Int → Int) : Prop := ∀ k n j, 0 ≤ k → k ≤ 3 → 0 ≤ n → n ≤ 31 → 0 ≤ j → j ≤ 31 → (nK f k n j ↔ DK f k n j)
theorem kX_sm {f g : Nat → Int → Int} (e : ∀ p, 1 ≤ p → p ≤ 12 → g p = f p) (e16 : g 16 = f 16) (h : kX f) : kX g := by
  unfold kX nK at h ⊢
  rw [DK_sm e, e16]
  exact h
theorem yWc_sm {f g : Nat → Int → Int} (e : ∀ p, 1 ≤ p → p ≤ 12 → g p = f p) (h : yWc f) : yWc g := by
  unfold yWc at h ⊢
  rw [e 1 (by decide) (by decide), e 2 (by decide) (by decide), e 6 (by decide) (by decide), e 7 (by decide) (by decide), e 8 (by decide) (by decide), e 9 (by decide) (by decide), e 10 (by decide) (by decide), e 11 (by decide) (by decide)]
  exact h
theorem built_x {m1 m2 m3 m4 : wk_M} {l : Nat → Int → Int64} {A : Int → Int → Prop} {P : Int} (hW : wyS m1.1 l) (hL : cWL m1.1) (hY : yWc m1.1) (c32 : m1.1 1 (4 : Nat) ≤ 32) (hA : dA A (fun k c j => (n3 k c j ∨ eX 0 (m1.1 1 (4 : Nat)) (fun i => inB m1.1 l i k c j)) ∨ eX 0 P (fun _ => n3 k c j)) lyZ.1 m2.1) (f1 : wk_fr [14, 15, 16, 17, 18, 20, 21, 22, 23, 24] m2 m1) (f2 : wk_fr [14, 15, 18, 25, 26, 27] m3 m2) (f3 : wk_fr [25, 26, 27, 43] m4 m3) : yWc (wk_u m4 0 (7 : Nat) 1).1 ∧ kX (wk_u m4 0 (7 : Nat) 1).1 := by
  have e : ∀ p, 1 ≤ p → p ≤ 12 → (wk_u m4 0 (7 : Nat) 1).1 p = m1.1 p := fun p p0 p1 => built_fr f1 f2 f3 p1 (by omega)
  have e16 : (wk_u m4 0 (7 : Nat) 1).1 16 = m2.1 16 := (wk_u_ne m4 0 _ _ (by decide)).trans ((f3 16 (by decide)).1.trans (f2 16 (by decide)).1)
  refine ⟨yWc_sm e hY, ?_⟩
  unfold kX nK
  rw [DK_sm e, e16]
  exact nK_DK hW hL hY c32 hA
