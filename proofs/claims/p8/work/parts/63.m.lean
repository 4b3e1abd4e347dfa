/-! the reference's structure -/
theorem rLI_zero {m : wk_M} : rLI (wk_u (wk_u m 46 (6 : Nat) 1) 51 0 0).1 0 0 := by
  generalize hg : (wk_u (wk_u m 46 (6 : Nat) 1) 51 0 0).1 = g
  have e11 : g 46 (6 : Nat) = 1 := by rw [← hg]; simp (decide := true) only [wk_u_at, wk_ul_1, and_self, and_true, true_and, and_false, false_and, if_true, if_false]
  have e10 : g 51 0 = 0 := by rw [← hg]; simp (decide := true) only [wk_u_at, wk_ul_1, and_self, and_true, true_and, and_false, false_and, if_true, if_false]
  have r11 : rv g 0 1 (11 : Nat) = 1 := e11
  have r13 : rv g 0 1 (13 : Nat) = 0 := rfl
  have r10 : rv g 0 10 0 = 0 := e10
  have eF : cFi (rv g 0) = 0 := by unfold cFi; rw [r11]; exact e10
  refine ⟨⟨⟨by omega, by omega⟩, fun p p0 p1 => ?_, fun p p0 p1 => by omega, fun p j p0 p1 => by omega, ⟨by omega, fun k k0 k1 => by omega⟩, fun j j0 j1 => by omega⟩, fun j j0 j1 => by omega, fun p j p0 p1 => by omega, fun j j0 j1 => ?_⟩
  · have : p = 0 := by omega
    subst this
    omega
  · rw [e11] at j0
    have j0 : g 51 0 ≤ j := j0
    omega
/-- laid out well, in the reference -/
def rAt (f : Nat → Int → Int) (lo hi i : Int) : Prop := ¬ f 47 i = 18 ∧ (f 47 i = 10 → lo ≤ f 56 (f 57 i) ∧ f 56 (f 57 i) ≤ hi) ∧ (f 47 i = 12 → lo ≤ f 57 i ∧ f 57 i ≤ hi) ∧ (f 47 i = 9 → lo ≤ f 56 i ∧ f 56 i < hi ∧ (0 ≤ f 55 i → lo ≤ f 55 i + 1 ∧ f 55 i + 1 ≤ hi)) ∧ (f 47 i = 11 → lo ≤ f 56 i + 1 ∧ f 56 i < hi)
def rWL (f : Nat → Int → Int) : Prop := (1 ≤ f 46 (6 : Nat) ∧ f 46 (6 : Nat) ≤ 4) ∧ (∀ p, 0 ≤ p → p < f 46 (6 : Nat) → 0 ≤ f 51 p ∧ f 51 p ≤ f 52 p ∧ f 52 p ≤ f 46 (0 : Nat)) ∧ (∀ p i, 0 ≤ p → p < f 46 (6 : Nat) → f 51 p ≤ i → i < f 52 p → rAt f (f 51 p) (f 52 p) i ∧ f 53 i = p)
theorem rLI_done {m : wk_M} {c : Int} (h : rLI m.1 0 c) (hc : c = m.1 46 (0 : Nat)) : rWL (wk_u m 52 (m.1 46 (6 : Nat) - 1) c).1 := by
  have hF := rLI_first h
  obtain ⟨hL, hH, hP⟩ := h
  have hA := fun j j0 j1 => LI_at (j := j) hL rfl j0 j1
  obtain ⟨⟨h1, h2⟩, h3, h4, h5, h6, h7⟩ := id hL
  have h1 : 1 ≤ m.1 46 (6 : Nat) ∧ m.1 46 (6 : Nat) ≤ 4 := h1
  have g52 : ∀ p, (wk_u m 52 (m.1 46 (6 : Nat) - 1) c).1 52 p = if p = m.1 46 (6 : Nat) - 1 then c else m.1 52 p := by intro p; simp (decide := true) only [wk_u_at, wk_ul_1, and_self, and_true, true_and, and_false, false_and, if_true, if_false]
  have conv : ∀ lo hi j, 0 ≤ j → j < c → 0 ≤ lo → cAt (rv m.1 0) lo hi j → rAt (wk_u m 52 (m.1 46 (6 : Nat) - 1) c).1 lo hi j := by
    intro lo hi j j0 j1 l0 q
    have hh := hH j j0 j1
    obtain ⟨q1, q2, q3, q4, q5⟩ := q
    have q1 : ¬ m.1 47 j = 18 := q1
    have q2 : m.1 47 j = 10 → (lo ≤ m.1 54 j ∧ m.1 54 j < hi) ∧ lo ≤ m.1 56 (m.1 54 j) ∧ m.1 56 (m.1 54 j) ≤ hi := q2
    have q3 : m.1 47 j = 12 → lo ≤ m.1 54 j ∧ m.1 54 j ≤ hi := q3
    have q4 : m.1 47 j = 9 → lo ≤ m.1 56 j ∧ m.1 56 j < hi ∧ (¬ m.1 55 j = -1 → lo ≤ m.1 55 j + 1 ∧ m.1 55 j + 1 ≤ hi) := q4
    have q5 : m.1 47 j = 11 → lo ≤ m.1 56 j + 1 ∧ m.1 56 j < hi := q5
    refine ⟨q1, fun z => ?_, fun z => ?_, fun z => ⟨(q4 z).1, (q4 z).2.1, fun y => (q4 z).2.2 (by have y : 0 ≤ m.1 55 j := y; omega)⟩, q5⟩
    · show lo ≤ m.1 56 (m.1 57 j) ∧ m.1 56 (m.1 57 j) ≤ hi
      rw [hh (Or.inl z)]
      exact (q2 z).2
    · show lo ≤ m.1 57 j ∧ m.1 57 j ≤ hi
      rw [hh (Or.inr z)]
      exact q3 z
  refine ⟨h1, fun p p0 p1 => ?_, fun p j p0 p1 j0 j1 => ?_⟩
  · have p1 : p < m.1 46 (6 : Nat) := p1
    show 0 ≤ m.1 51 p ∧ m.1 51 p ≤ _ ∧ _ ≤ m.1 46 (0 : Nat)
    rw [g52]
    have q : 0 ≤ m.1 51 p ∧ m.1 51 p ≤ c := h3 p p0 p1
    split
    · omega
    · have : m.1 51 p ≤ m.1 52 p ∧ m.1 52 p < m.1 51 (m.1 46 (6 : Nat) - 1) := h4 p p0 (by show p < m.1 46 (6 : Nat) - 1; omega)
      omega
  · have p1 : p < m.1 46 (6 : Nat) := p1
    have j0 : m.1 51 p ≤ j := j0
    have q : 0 ≤ m.1 51 p ∧ m.1 51 p ≤ c := h3 p p0 p1
    show rAt _ (m.1 51 p) ((wk_u m 52 (m.1 46 (6 : Nat) - 1) c).1 52 p) j ∧ m.1 53 j = p
    rw [g52] at j1 ⊢
    by_cases ep : p = m.1 46 (6 : Nat) - 1
    · rw [if_pos ep] at j1 ⊢
      have e2 : m.1 51 p = cFi (rv m.1 0) := by rw [ep]; rfl
      rw [e2] at j0 ⊢
      exact ⟨conv _ _ _ (by omega) j1 (by omega) (hA j j0 j1), by rw [ep]; exact hP.2 j j0 j1⟩
    · rw [if_neg ep] at j1 ⊢
      have p2 : p < m.1 46 (6 : Nat) - 1 := by omega
      have : m.1 51 p ≤ m.1 52 p ∧ m.1 52 p < m.1 51 (m.1 46 (6 : Nat) - 1) := h4 p p0 p2
      exact ⟨conv _ _ _ (by omega) (by omega) (by omega) (h5 p j p0 p2 j0 j1), hP.1 p j p0 p2 j0 j1⟩

theorem rLI_fin {m : wk_M} {o t : Int} (h : rLI m.1 o t) (e : o = 0) (e2 : t = m.1 46 (0 : Nat)) : rWL (wk_u m 52 (m.1 46 (6 : Nat) - 1) (m.1 46 (0 : Nat))).1 := by
  subst e
  rw [e2] at h
  exact rLI_done h rfl
theorem rLI_else' {m : wk_M} {o i x : Int} (h : rLI m.1 o i) (e : m.1 53 i = m.1 46 (6 : Nat) - 1) (q : m.1 47 i = 10) (d : 0 < o) (e6 : m.1 54 i = m.1 58 (o - 1)) (ex : x = m.1 54 i) : rLI (wk_u (wk_u m 55 x i) 57 i x).1 o (i + 1) := by
  subst ex
  exact rLI_else h e q d e6
theorem rLI_end' {m : wk_M} {o i x : Int} (h : rLI m.1 o i) (e : m.1 53 i = m.1 46 (6 : Nat) - 1) (q : m.1 47 i = 12) (d : 0 < o) (e6 : m.1 54 i = m.1 58 (o - 1)) (ex : x = m.1 54 i) : rLI (wk_u (wk_u m 56 x i) 57 i x).1 (o - 1) (i + 1) := by
  subst ex
  exact rLI_end h e q d e6
theorem rLI_proc' {m : wk_M} {o i x : Int} (h : rLI m.1 o i) (q : m.1 47 i = 18) (d : o = 0) (e4 : m.1 46 (6 : Nat) < 4) (ex : x = m.1 46 (6 : Nat)) : rLI (wk_u (wk_u (wk_u m 52 (x - 1) i) 51 x (i + 1)) 46 (6 : Nat) (x + 1)).1 o (i + 1) := by
  subst ex
  exact rLI_proc h q d e4

set_option maxHeartbeats 8000000 in
set_option maxRecDepth 20000 in
theorem k147 {Z : sm_Z} (hZ : Z.2.2.2 = tb_N) (m : wk_M) (op : Int → Int) (ho : ∀ j, 0 ≤ j → j < m.1 46 (0 : Nat) → op j = m.1 47 j) : wC Z 1 147 [46, 51, 52, 53, 54, 55, 56, 57, 58] [.inr (.inl 46)] m (fun r m' => ∃ v : Int, r = some (.inl v) ∧ (-1 ≤ v ∧ v ≤ 32) ∧ (v = -1 → rWL m'.1 ∧ sZ (lyI op (m.1 46 (0 : Nat)).toNat) (m.1 46 (0 : Nat)) (m'.1 46 (6 : Nat)) (m'.1 54) (m'.1 55) (m'.1 56) (m'.1 53) (m'.1 51) (m'.1 52)) ∧ (m'.1 46 (0 : Nat) = m.1 46 (0 : Nat) ∧ m'.1 46 (5 : Nat) = m.1 46 (5 : Nat) ∧ m'.1 46 (34 : Nat) = m.1 46 (34 : Nat)) ∧ lyS op (m.1 46 (0 : Nat)) v) := by
  obtain ⟨J0, hJ0⟩ : ∃ J : Int →Int → wk_M → Prop, ∀ o t m', J o t m' ↔ ((0 ≤ t ∧ t ≤ m.1 46 (0 : Nat) ∧ m.1 46 (0 : Nat) ≤ 32 ∧ m'.1 46 (0 : Nat) = m.1 46 (0 : Nat) ∧ m'.1 46 (5 : Nat) = m.1 46 (5 : Nat) ∧ m'.1 46 (34 : Nat) = m.1 46 (34 : Nat)) ∧ rLI m'.1 o t ∧ sG (lyI op t.toNat) (m'.1 46 (6 : Nat)) o (m'.1 54) (m'.1 55) (m'.1 56) (m'.1 53) (m'.1 51) (m'.1 52) (m'.1 58) t ∧ ∀ j, 0 ≤ j → j < t → ¬ lyB op (lyI op j.toNat) j) := ⟨_, fun _ _ _ => Iff.rfl⟩
  refine wC.gen fun Q hQ => wk_E hZ (by exact rfl) [(16, [(3, 46), (1, 0), (1, 0), (0, 0)], fun vs _ m' => (match vs with
    | [o, t] => J0 o t m'
    | _ => False), fun vs _ m' => (match vs with
    | [o, t] => (32 - t : Int).toNat
    | _ => 0))] rfl (fun hr hs => ⟨?_, trivial⟩) (fun hr hs => ?_)
  · have e1 : ab_lo = -2147483648 := rfl
    have e2 : ab_hi = 2147483647 := rfl
    intro m2 hr2 hf2 o ol oh t tl th hI
    have hI := (hJ0 _ _ _).mp hI
    obtain ⟨⟨i0, i1, i3, i2, i5, i34⟩, iL, iS, iN⟩ := hI
    have hd : 0 ≤ o ∧ o ≤ 4 := iL.1.2.2.2.2.1.1
    have hp : 1 ≤ m2.1 46 (6 : Nat) ∧ m2.1 46 (6 : Nat) ≤ 4 := iL.1.1.1
    have hF := rLI_first iL
    have hq := iL.1.2.2.2.2.1.2 (o - 1)
    have hq : 0 ≤ o - 1 → o - 1 < o → m2.1 51 (m2.1 46 (6 : Nat) - 1) ≤ m2.1 58 (o - 1) ∧ m2.1 58 (o - 1) < t := hq
    have h47 : m2.1 47 = m.1 47 := (hf2 47 (by decide)).1
    have hot : t < m.1 46 (0 : Nat) → op t = m2.1 47 t := fun q => by rw [h47]; exact ho t i0 q
    have hox : 0 ≤ m2.1 58 (o - 1) → m2.1 58 (o - 1) < m.1 46 (0 : Nat) → op (m2.1 58 (o - 1)) = m2.1 47 (m2.1 58 (o - 1)) := fun a b => by rw [h47]; exact ho _ a b
    repeat' first | (intro h; exact absurd h (by decide)) | (intro h; exact absurd rfl h) | refine And.intro ?_ ?_ | intro _ | refine Or.inl ⟨by omega, by omega, ?_⟩ | refine Or.inr ?_ | exact trivial
    all_goals first
      | omega
      | (show (32 - (_ : Int) : Int).toNat < (32 - (_ : Int) : Int).toNat; omega)
      | exact hQ _ _ ⟨_, rfl, ⟨by omega, by omega⟩, fun z => by omega, ⟨by simp (decide := true) only [wk_u_at, wk_ul_1, and_self, and_true, true_and, and_false, false_and, if_true, if_false] <;> omega, by simp (decide := true) only [wk_u_at, wk_ul_1, and_self, and_true, true_and, and_false, false_and, if_true, if_false] <;> omega, by simp (decide := true) only [wk_u_at, wk_ul_1, and_self, and_true, true_and, and_false, false_and, if_true, if_false] <;> omega⟩, lyS_at i0 (by omega) iN (lb_open iS (by omega) (by omega)) rfl⟩
      | exact hQ _ _ ⟨_, rfl, ⟨by omega, by omega⟩, fun z => by omega, ⟨by simp (decide := true) only [wk_u_at, wk_ul_1, and_self, and_true, true_and, and_false, false_and, if_true, if_false] <;> omega, by simp (decide := true) only [wk_u_at, wk_ul_1, and_self, and_true, true_and, and_false, false_and, if_true, if_false] <;> omega, by simp (decide := true) only [wk_u_at, wk_ul_1, and_self, and_true, true_and, and_false, false_and, if_true, if_false] <;> omega⟩, lyS_at i0 (by omega) iN (lb_else0 iS (by omega) (by omega)) rfl⟩
      | exact hQ _ _ ⟨_, rfl, ⟨by omega, by omega⟩, fun z => by omega, ⟨by simp (decide := true) only [wk_u_at, wk_ul_1, and_self, and_true, true_and, and_false, false_and, if_true, if_false] <;> omega, by simp (decide := true) only [wk_u_at, wk_ul_1, and_self, and_true, true_and, and_false, false_and, if_true, if_false] <;> omega, by simp (decide := true) only [wk_u_at, wk_ul_1, and_self, and_true, true_and, and_false, false_and, if_true, if_false] <;> omega⟩, lyS_at i0 (by omega) iN (lb_else1 iS (lyT_eq iS (x := m2.1 58 (o - 1)) (by omega)) (by omega) (by omega) (by omega) (by omega)) rfl⟩
      | exact hQ _ _ ⟨_, rfl, ⟨by omega, by omega⟩, fun z => by omega, ⟨by simp (decide := true) only [wk_u_at, wk_ul_1, and_self, and_true, true_and, and_false, false_and, if_true, if_false] <;> omega, by simp (decide := true) only [wk_u_at, wk_ul_1, and_self, and_true, true_and, and_false, false_and, if_true, if_false] <;> omega, by simp (decide := true) only [wk_u_at, wk_ul_1, and_self, and_true, true_and, and_false, false_and, if_true, if_false] <;> omega⟩, lyS_at i0 (by omega) iN (lb_end iS (by omega) (by omega)) rfl⟩
      | exact hQ _ _ ⟨_, rfl, ⟨by omega, by omega⟩, fun z => by omega, ⟨by simp (decide := true) only [wk_u_at, wk_ul_1, and_self, and_true, true_and, and_false, false_and, if_true, if_false] <;> omega, by simp (decide := true) only [wk_u_at, wk_ul_1, and_self, and_true, true_and, and_false, false_and, if_true, if_false] <;> omega, by simp (decide := true) only [wk_u_at, wk_ul_1, and_self, and_true, true_and, and_false, false_and, if_true, if_false] <;> omega⟩, lyS_at i0 (by omega) iN (lb_proc iS (by omega) (by omega)) rfl⟩
      | exact hQ _ _ ⟨_, rfl, ⟨by omega, by omega⟩, fun z => by omega, ⟨by simp (decide := true) only [wk_u_at, wk_ul_1, and_self, and_true, true_and, and_false, false_and, if_true, if_false] <;> omega, by simp (decide := true) only [wk_u_at, wk_ul_1, and_self, and_true, true_and, and_false, false_and, if_true, if_false] <;> omega, by simp (decide := true) only [wk_u_at, wk_ul_1, and_self, and_true, true_and, and_false, false_and, if_true, if_false] <;> omega⟩, lyS_end iS iN (by omega) (Or.inl ⟨by omega, by omega⟩)⟩
      | exact hQ _ _ ⟨_, rfl, ⟨by omega, by omega⟩, fun z => ⟨rLI_fin iL (by omega) (by omega), sZ_of iS (by omega) (by simp (decide := true) only [wk_u_at, wk_ul_1, and_self, and_true, true_and, and_false, false_and, if_true, if_false]) (fun _ => rfl) (fun _ => rfl) (fun _ => rfl) (fun _ => rfl) (fun _ => rfl) (fun _ => by rw [← i2]; simp (decide := true) only [wk_u_at, wk_ul_1, and_self, and_true, true_and, and_false, false_and, if_true, if_false])⟩, ⟨by simp (decide := true) only [wk_u_at, wk_ul_1, and_self, and_true, true_and, and_false, false_and, if_true, if_false] <;> omega, by simp (decide := true) only [wk_u_at, wk_ul_1, and_self, and_true, true_and, and_false, false_and, if_true, if_false] <;> omega, by simp (decide := true) only [wk_u_at, wk_ul_1, and_self, and_true, true_and, and_false, false_and, if_true, if_false] <;> omega⟩, lyS_end iS iN (by omega) (Or.inr ⟨by omega, by omega⟩)⟩
      | (show J0 _ _ _; refine (hJ0 _ _ _).mpr ⟨⟨by omega, by omega, i3, by simp (decide := true) only [wk_u_at, wk_ul_1, and_self, and_true, true_and, and_false, false_and, if_true, if_false] <;> omega, by simp (decide := true) only [wk_u_at, wk_ul_1, and_self, and_true, true_and, and_false, false_and, if_true, if_false] <;> omega, by simp (decide := true) only [wk_u_at, wk_ul_1, and_self, and_true, true_and, and_false, false_and, if_true, if_false] <;> omega⟩, rLI_plain (rLI_pre iL) (by simp (decide := true) only [wk_u_at, wk_ul_1, and_self, and_true, true_and, and_false, false_and, if_true, if_false]) (by simp (decide := true) only [wk_u_at, wk_ul_1, and_self, and_true, true_and, and_false, false_and, if_true, if_false] <;> omega), ly_next i0 iN (ly_plain iS (lyT_eq iS (x := -1) (by omega)) (by omega) (by simp (decide := true) only [wk_u_at, wk_ul_1, and_self, and_true, true_and, and_false, false_and, if_true, if_false]) (by omega) (fun _ => by simp (decide := true) only [wk_u_at, wk_ul_1, and_self, and_true, true_and, and_false, false_and, if_true, if_false]) (fun _ => by simp (decide := true) only [wk_u_at, wk_ul_1, and_self, and_true, true_and, and_false, false_and, if_true, if_false]) (fun _ => by simp (decide := true) only [wk_u_at, wk_ul_1, and_self, and_true, true_and, and_false, false_and, if_true, if_false]) (fun _ => by simp (decide := true) only [wk_u_at, wk_ul_1, and_self, and_true, true_and, and_false, false_and, if_true, if_false]) (fun _ => rfl) (fun _ => rfl) (fun _ => rfl))⟩)
      | (show J0 _ _ _; refine (hJ0 _ _ _).mpr ⟨⟨by omega, by omega, i3, by simp (decide := true) only [wk_u_at, wk_ul_1, and_self, and_true, true_and, and_false, false_and, if_true, if_false] <;> omega, by simp (decide := true) only [wk_u_at, wk_ul_1, and_self, and_true, true_and, and_false, false_and, if_true, if_false] <;> omega, by simp (decide := true) only [wk_u_at, wk_ul_1, and_self, and_true, true_and, and_false, false_and, if_true, if_false] <;> omega⟩, rLI_plain (rLI_pre iL) (by simp (decide := true) only [wk_u_at, wk_ul_1, and_self, and_true, true_and, and_false, false_and, if_true, if_false]) (by simp (decide := true) only [wk_u_at, wk_ul_1, and_self, and_true, true_and, and_false, false_and, if_true, if_false] <;> omega), ly_next i0 iN (ly_plain iS (lyT_eq iS (x := m2.1 58 (o - 1)) (by omega)) (by omega) (by simp (decide := true) only [wk_u_at, wk_ul_1, and_self, and_true, true_and, and_false, false_and, if_true, if_false]) (by omega) (fun _ => by simp (decide := true) only [wk_u_at, wk_ul_1, and_self, and_true, true_and, and_false, false_and, if_true, if_false]) (fun _ => by simp (decide := true) only [wk_u_at, wk_ul_1, and_self, and_true, true_and, and_false, false_and, if_true, if_false]) (fun _ => by simp (decide := true) only [wk_u_at, wk_ul_1, and_self, and_true, true_and, and_false, false_and, if_true, if_false]) (fun _ => by simp (decide := true) only [wk_u_at, wk_ul_1, and_self, and_true, true_and, and_false, false_and, if_true, if_false]) (fun _ => rfl) (fun _ => rfl) (fun _ => rfl))⟩)
      | (show J0 _ _ _; refine (hJ0 _ _ _).mpr ⟨⟨by omega, by omega, i3, by simp (decide := true) only [wk_u_at, wk_ul_1, and_self, and_true, true_and, and_false, false_and, if_true, if_false] <;> omega, by simp (decide := true) only [wk_u_at, wk_ul_1, and_self, and_true, true_and, and_false, false_and, if_true, if_false] <;> omega, by simp (decide := true) only [wk_u_at, wk_ul_1, and_self, and_true, true_and, and_false, false_and, if_true, if_false] <;> omega⟩, rLI_open (rLI_pre iL) (by simp (decide := true) only [wk_u_at, wk_ul_1, and_self, and_true, true_and, and_false, false_and, if_true, if_false]) (by simp (decide := true) only [wk_u_at, wk_ul_1, and_self, and_true, true_and, and_false, false_and, if_true, if_false] <;> omega) (by simp (decide := true) only [wk_u_at, wk_ul_1, and_self, and_true, true_and, and_false, false_and, if_true, if_false]) (by omega), ly_next i0 iN (ly_open iS (lyT_eq iS (x := -1) (by omega)) (by omega) (by omega) (by simp (decide := true) only [wk_u_at, wk_ul_1, and_self, and_true, true_and, and_false, false_and, if_true, if_false]) (by omega) (fun _ => by simp (decide := true) only [wk_u_at, wk_ul_1, and_self, and_true, true_and, and_false, false_and, if_true, if_false]) (fun _ => by simp (decide := true) only [wk_u_at, wk_ul_1, and_self, and_true, true_and, and_false, false_and, if_true, if_false]) (fun _ => by simp (decide := true) only [wk_u_at, wk_ul_1, and_self, and_true, true_and, and_false, false_and, if_true, if_false]) (fun _ => by simp (decide := true) only [wk_u_at, wk_ul_1, and_self, and_true, true_and, and_false, false_and, if_true, if_false]) (fun _ => rfl) (fun _ => rfl) (fun _ => by simp (decide := true) only [wk_u_at, wk_ul_1, and_self, and_true, true_and, and_false, false_and, if_true, if_false]))⟩)
      | (show J0 _ _ _; refine (hJ0 _ _ _).mpr ⟨⟨by omega, by omega, i3, by simp (decide := true) only [wk_u_at, wk_ul_1, and_self, and_true, true_and, and_false, false_and, if_true, if_false] <;> omega, by simp (decide := true) only [wk_u_at, wk_ul_1, and_self, and_true, true_and, and_false, false_and, if_true, if_false] <;> omega, by simp (decide := true) only [wk_u_at, wk_ul_1, and_self, and_true, true_and, and_false, false_and, if_true, if_false] <;> omega⟩, rLI_open (rLI_pre iL) (by simp (decide := true) only [wk_u_at, wk_ul_1, and_self, and_true, true_and, and_false, false_and, if_true, if_false]) (by simp (decide := true) only [wk_u_at, wk_ul_1, and_self, and_true, true_and, and_false, false_and, if_true, if_false] <;> omega) (by simp (decide := true) only [wk_u_at, wk_ul_1, and_self, and_true, true_and, and_false, false_and, if_true, if_false]) (by omega), ly_next i0 iN (ly_open iS (lyT_eq iS (x := m2.1 58 (o - 1)) (by omega)) (by omega) (by omega) (by simp (decide := true) only [wk_u_at, wk_ul_1, and_self, and_true, true_and, and_false, false_and, if_true, if_false]) (by omega) (fun _ => by simp (decide := true) only [wk_u_at, wk_ul_1, and_self, and_true, true_and, and_false, false_and, if_true, if_false]) (fun _ => by simp (decide := true) only [wk_u_at, wk_ul_1, and_self, and_true, true_and, and_false, false_and, if_true, if_false]) (fun _ => by simp (decide := true) only [wk_u_at, wk_ul_1, and_self, and_true, true_and, and_false, false_and, if_true, if_false]) (fun _ => by simp (decide := true) only [wk_u_at, wk_ul_1, and_self, and_true, true_and, and_false, false_and, if_true, if_false]) (fun _ => rfl) (fun _ => rfl) (fun _ => by simp (decide := true) only [wk_u_at, wk_ul_1, and_self, and_true, true_and, and_false, false_and, if_true, if_false]))⟩)
      | (show J0 _ _ _; refine (hJ0 _ _ _).mpr ⟨⟨by omega, by omega, i3, by simp (decide := true) only [wk_u_at, wk_ul_1, and_self, and_true, true_and, and_false, false_and, if_true, if_false] <;> omega, by simp (decide := true) only [wk_u_at, wk_ul_1, and_self, and_true, true_and, and_false, false_and, if_true, if_false] <;> omega, by simp (decide := true) only [wk_u_at, wk_ul_1, and_self, and_true, true_and, and_false, false_and, if_true, if_false] <;> omega⟩, rLI_else' (rLI_pre iL) (by simp (decide := true) only [wk_u_at, wk_ul_1, and_self, and_true, true_and, and_false, false_and, if_true, if_false]) (by simp (decide := true) only [wk_u_at, wk_ul_1, and_self, and_true, true_and, and_false, false_and, if_true, if_false] <;> omega) (by omega) (by simp (decide := true) only [wk_u_at, wk_ul_1, and_self, and_true, true_and, and_false, false_and, if_true, if_false]) (by simp (decide := true) only [wk_u_at, wk_ul_1, and_self, and_true, true_and, and_false, false_and, if_true, if_false]), ly_next i0 iN (ly_else iS (lyT_eq iS (x := m2.1 58 (o - 1)) (by omega)) (by omega) (by omega) (by omega) (by omega) (by omega) (by omega) (by simp (decide := true) only [wk_u_at, wk_ul_1, and_self, and_true, true_and, and_false, false_and, if_true, if_false]) (by omega) (fun _ => by simp (decide := true) only [wk_u_at, wk_ul_1, and_self, and_true, true_and, and_false, false_and, if_true, if_false]) (fun _ => by simp (decide := true) only [wk_u_at, wk_ul_1, and_self, and_true, true_and, and_false, false_and, if_true, if_false]) (fun _ => by simp (decide := true) only [wk_u_at, wk_ul_1, and_self, and_true, true_and, and_false, false_and, if_true, if_false]) (fun _ => by simp (decide := true) only [wk_u_at, wk_ul_1, and_self, and_true, true_and, and_false, false_and, if_true, if_false]) (fun _ => rfl) (fun _ => rfl) (fun _ => rfl))⟩)
      | (show J0 _ _ _; refine (hJ0 _ _ _).mpr ⟨⟨by omega, by omega, i3, by simp (decide := true) only [wk_u_at, wk_ul_1, and_self, and_true, true_and, and_false, false_and, if_true, if_false] <;> omega, by simp (decide := true) only [wk_u_at, wk_ul_1, and_self, and_true, true_and, and_false, false_and, if_true, if_false] <;> omega, by simp (decide := true) only [wk_u_at, wk_ul_1, and_self, and_true, true_and, and_false, false_and, if_true, if_false] <;> omega⟩, rLI_end' (rLI_pre iL) (by simp (decide := true) only [wk_u_at, wk_ul_1, and_self, and_true, true_and, and_false, false_and, if_true, if_false]) (by simp (decide := true) only [wk_u_at, wk_ul_1, and_self, and_true, true_and, and_false, false_and, if_true, if_false] <;> omega) (by omega) (by simp (decide := true) only [wk_u_at, wk_ul_1, and_self, and_true, true_and, and_false, false_and, if_true, if_false]) (by simp (decide := true) only [wk_u_at, wk_ul_1, and_self, and_true, true_and, and_false, false_and, if_true, if_false]), ly_next i0 iN (ly_end iS (lyT_eq iS (x := m2.1 58 (o - 1)) (by omega)) (by omega) (by omega) (by simp (decide := true) only [wk_u_at, wk_ul_1, and_self, and_true, true_and, and_false, false_and, if_true, if_false]) (by omega) (fun _ => by simp (decide := true) only [wk_u_at, wk_ul_1, and_self, and_true, true_and, and_false, false_and, if_true, if_false]) (fun _ => by simp (decide := true) only [wk_u_at, wk_ul_1, and_self, and_true, true_and, and_false, false_and, if_true, if_false]) (fun _ => by simp (decide := true) only [wk_u_at, wk_ul_1, and_self, and_true, true_and, and_false, false_and, if_true, if_false]) (fun _ => by simp (decide := true) only [wk_u_at, wk_ul_1, and_self, and_true, true_and, and_false, false_and, if_true, if_false]) (fun _ => rfl) (fun _ => rfl) (fun _ => rfl))⟩)
      | (show J0 _ _ _; refine (hJ0 _ _ _).mpr ⟨⟨by omega, by omega, i3, by simp (decide := true) only [wk_u_at, wk_ul_1, and_self, and_true, true_and, and_false, false_and, if_true, if_false] <;> omega, by simp (decide := true) only [wk_u_at, wk_ul_1, and_self, and_true, true_and, and_false, false_and, if_true, if_false] <;> omega, by simp (decide := true) only [wk_u_at, wk_ul_1, and_self, and_true, true_and, and_false, false_and, if_true, if_false] <;> omega⟩, rLI_proc' (rLI_pre iL) (by simp (decide := true) only [wk_u_at, wk_ul_1, and_self, and_true, true_and, and_false, false_and, if_true, if_false] <;> omega) (by omega) (by simp (decide := true) only [wk_u_at, wk_ul_1, and_self, and_true, true_and, and_false, false_and, if_true, if_false] <;> omega) (by simp (decide := true) only [wk_u_at, wk_ul_1, and_self, and_true, true_and, and_false, false_and, if_true, if_false]), ly_next i0 iN (ly_proc iS (lyT_eq iS (x := -1) (by omega)) (by omega) (by omega) (by omega) (by simp (decide := true) only [wk_u_at, wk_ul_1, and_self, and_true, true_and, and_false, false_and, if_true, if_false]) (by omega) (fun _ => by simp (decide := true) only [wk_u_at, wk_ul_1, and_self, and_true, true_and, and_false, false_and, if_true, if_false]) (fun _ => by simp (decide := true) only [wk_u_at, wk_ul_1, and_self, and_true, true_and, and_false, false_and, if_true, if_false]) (fun _ => by simp (decide := true) only [wk_u_at, wk_ul_1, and_self, and_true, true_and, and_false, false_and, if_true, if_false]) (fun _ => by simp (decide := true) only [wk_u_at, wk_ul_1, and_self, and_true, true_and, and_false, false_and, if_true, if_false]) (fun _ => by simp (decide := true) only [wk_u_at, wk_ul_1, and_self, and_true, true_and, and_false, false_and, if_true, if_false]) (fun _ => by simp (decide := true) only [wk_u_at, wk_ul_1, and_self, and_true, true_and, and_false, false_and, if_true, if_false]) (fun _ => rfl))⟩)
  · have e1 : ab_lo = -2147483648 := rfl
    have e2 : ab_hi = 2147483647 := rfl
    have hc := (hr.1 46 0).2
    have hc : m.1 46 (0 : Nat) ≤ 32 := hc
    have hc0 : 0 ≤ m.1 46 (0 : Nat) := (hr.1 46 0).1
    repeat' first | (intro h; exact absurd h (by decide)) | (intro h; exact absurd rfl h) | refine And.intro ?_ ?_ | intro _ | refine Or.inl ⟨by omega, by omega, ?_⟩ | refine Or.inr ?_ | exact trivial
    all_goals first
      | omega
      | trivial
      | (show J0 _ _ _; refine (hJ0 _ _ _).mpr ⟨⟨by omega, by omega, by omega, by simp (decide := true) only [wk_u_at, wk_ul_1, and_self, and_true, true_and, and_false, false_and, if_true, if_false], by simp (decide := true) only [wk_u_at, wk_ul_1, and_self, and_true, true_and, and_false, false_and, if_true, if_false], by simp (decide := true) only [wk_u_at, wk_ul_1, and_self, and_true, true_and, and_false, false_and, if_true, if_false]⟩, rLI_zero, sG_zero (by simp (decide := true) only [wk_u_at, wk_ul_1, and_self, and_true, true_and, and_false, false_and, if_true, if_false]) rfl (by simp (decide := true) only [wk_u_at, wk_ul_1, and_self, and_true, true_and, and_false, false_and, if_true, if_false]), fun j j0 j1 => by omega⟩)
