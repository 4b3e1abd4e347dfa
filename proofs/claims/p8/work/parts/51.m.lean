/-! the class's Machine: perform -/
set_option maxRecDepth 20000 in
theorem k23 {Z : sm_Z} (hZ : Z.2.2.2 = tb_N) (m : wk_M)  : wC Z 1 23 [29, 32] [.inr (.inl 29)] m (fun r m' => r = none ∧ m'.1 29 (1 : Nat) = 0 ∧ m'.1 32 0 = 0 ∧ m'.1 32 1 = 0 ∧ m'.1 32 2 = 0 ∧ m'.1 32 3 = 0) := by
  refine wC.gen fun Q hQ => wk_E hZ (by exact rfl) [] rfl (fun _ _ => trivial) fun hr hs => ?_
  have e1 : ab_lo = -2147483648 := rfl
  have e2 : ab_hi = 2147483647 := rfl
  repeat' first | refine And.intro ?_ ?_ | intro _ | refine Or.inl ⟨by omega, by omega, ?_⟩ | refine Or.inr ?_ | exact trivial | (refine wk_use (wfI 32 4 0 _ rfl rfl (by decide) (by decide)) rfl rfl ?_; rintro - _ _ - hfr - ⟨rfl, ej⟩; have hp := congrFun (hfr 29 (by decide)).1 ((1 : Nat) : Int); (try simp (decide := true) only [wk_u_at, wk_ul_1, and_self, and_true, true_and, and_false, false_and, if_true, if_false] at hp); refine Or.inr ?_)
  all_goals first | omega | exact hQ _ _ ⟨rfl, by omega, ej 0 (by decide) (by decide), ej 1 (by decide) (by decide), ej 2 (by decide) (by decide), ej 3 (by decide) (by decide)⟩

set_option maxRecDepth 20000 in
theorem k113 {Z : sm_Z} (hZ : Z.2.2.2 = tb_N) (m : wk_M) (x f g : Int) (f0 : 0 ≤ f) (f1 : f ≤ 600) (g0 : -1 ≤ g) (g1 : g ≤ 31) (hO : cOps m.1) (hL : cWL m.1) : wC Z 6 113 [28, 29, 30, 31, 32, 34, 35, 36, 37] [.inr (.inl 28), .inl x, .inl f, .inl g] m (fun r m' => ∃ v : Int, r = some (.inl v) ∧ 0 ≤ v ∧ v ≤ 3) := by
  obtain ⟨J, hJ⟩ : ∃ J : Int → wk_M → Prop, ∀ t m', J t m' ↔ (0 ≤ t ∧ (mF m'.1 ∧ mA m'.1) ∧ mC m'.1 0) := ⟨_, fun _ _ => Iff.rfl⟩
  refine wC.gen fun Q hQ => wk_E hZ (by exact rfl) [(61, [(3, 28), (0, 0), (0, 0), (0, 0), (1, 0)], fun vs _ m' => (match vs with
    | [t] => J t m'
    | _ => False), fun vs _ _ => (match vs with
    | [t] => (2147483647 - t).toNat
    | _ => 0))] rfl (fun hr hs => ⟨?_, trivial⟩) (fun hr hs => ?_)
  · have e1 : ab_lo = -2147483648 := rfl
    have e2 : ab_hi = 2147483647 := rfl
    intro m2 hr2 hf2 t t0 t1 hI
    obtain ⟨i0, ⟨iF, iA⟩, iC⟩ := (hJ _ _).mp hI
    have hO2 := cOps_fr hf2 rfl hO
    have hL2 := cWL_fr hf2 rfl hL
    repeat' first | refine And.intro ?_ ?_ | intro _ | refine Or.inl ⟨by omega, by omega, ?_⟩ | refine Or.inr ?_ | exact trivial | (refine wk_use (k116 hZ _ iC iF iA hO2 hL2) rfl rfl ?_; rintro - _ _ - hfr - ⟨rfl, hFA, jC⟩; refine Or.inr ?_)
    all_goals first | omega | exact hQ _ _ ⟨_, rfl, by omega, by omega⟩ | exact (hJ _ _).mpr ⟨by omega, hFA, jC⟩ | (show (2147483647 - (_ : Int)).toNat < (2147483647 - (_ : Int)).toNat; omega)
  · have e1 : ab_lo = -2147483648 := rfl
    have e2 : ab_hi = 2147483647 := rfl
    obtain ⟨-, ⟨x0, x1⟩, -⟩ := hs
    obtain ⟨⟨n0, n1⟩, n2, n3, n4⟩ := id hL
    have q3 := n2 0 (by omega) (by omega)
    repeat' first | refine And.intro ?_ ?_ | intro _ | refine Or.inl ⟨by omega, by omega, ?_⟩ | refine Or.inr ?_ | exact trivial | (refine wk_use (k23 hZ _) rfl rfl ?_; rintro - _ _ - hfr - ⟨rfl, _, _, _, _, _⟩; have hp := congrFun (hfr 1 (by decide)).1 ((11 : Nat) : Int); (try simp (decide := true) only [wk_u_at, wk_ul_1, and_self, and_true, true_and, and_false, false_and, if_true, if_false] at hp); have hp := congrFun (hfr 1 (by decide)).1 ((4 : Nat) : Int); (try simp (decide := true) only [wk_u_at, wk_ul_1, and_self, and_true, true_and, and_false, false_and, if_true, if_false] at hp); have hp := congrFun (hfr 11 (by decide)).1 0; (try simp (decide := true) only [wk_u_at, wk_ul_1, and_self, and_true, true_and, and_false, false_and, if_true, if_false] at hp); have hp := congrFun (hfr 10 (by decide)).1 0; (try simp (decide := true) only [wk_u_at, wk_ul_1, and_self, and_true, true_and, and_false, false_and, if_true, if_false] at hp); refine Or.inr ?_) | (refine wk_use (wfI 34 4 0 _ rfl rfl (by decide) (by decide)) rfl rfl ?_; rintro - _ _ - hfr - ⟨rfl, -⟩; have hp := congrFun (hfr 29 (by decide)).1 ((1 : Nat) : Int); (try simp (decide := true) only [wk_u_at, wk_ul_1, and_self, and_true, true_and, and_false, false_and, if_true, if_false] at hp); have hp := congrFun (hfr 32 (by decide)).1 0; (try simp (decide := true) only [wk_u_at, wk_ul_1, and_self, and_true, true_and, and_false, false_and, if_true, if_false] at hp); have hp := congrFun (hfr 32 (by decide)).1 1; (try simp (decide := true) only [wk_u_at, wk_ul_1, and_self, and_true, true_and, and_false, false_and, if_true, if_false] at hp); have hp := congrFun (hfr 32 (by decide)).1 2; (try simp (decide := true) only [wk_u_at, wk_ul_1, and_self, and_true, true_and, and_false, false_and, if_true, if_false] at hp); have hp := congrFun (hfr 32 (by decide)).1 3; (try simp (decide := true) only [wk_u_at, wk_ul_1, and_self, and_true, true_and, and_false, false_and, if_true, if_false] at hp); have hp := congrFun (hfr 1 (by decide)).1 ((11 : Nat) : Int); (try simp (decide := true) only [wk_u_at, wk_ul_1, and_self, and_true, true_and, and_false, false_and, if_true, if_false] at hp); have hp := congrFun (hfr 1 (by decide)).1 ((4 : Nat) : Int); (try simp (decide := true) only [wk_u_at, wk_ul_1, and_self, and_true, true_and, and_false, false_and, if_true, if_false] at hp); have hp := congrFun (hfr 11 (by decide)).1 0; (try simp (decide := true) only [wk_u_at, wk_ul_1, and_self, and_true, true_and, and_false, false_and, if_true, if_false] at hp); have hp := congrFun (hfr 10 (by decide)).1 0; (try simp (decide := true) only [wk_u_at, wk_ul_1, and_self, and_true, true_and, and_false, false_and, if_true, if_false] at hp); refine Or.inr ?_) | (refine wk_use (k114 hZ _ _ _ _ _ (by omega) (by omega) (by omega) (by omega) (by simp (decide := true) only [wk_u_at, wk_ul_1, and_self, and_true, true_and, and_false, false_and, if_true, if_false] <;> omega) (by simp (decide := true) only [wk_u_at, wk_ul_1, and_self, and_true, true_and, and_false, false_and, if_true, if_false] <;> omega)) rfl rfl ?_; rintro - _ _ - hfr - ⟨rfl, ⟨h7, h8, h9, h10, h13⟩, ea, eb⟩; have hp := congrFun (hfr 29 (by decide)).1 ((1 : Nat) : Int); (try simp (decide := true) only [wk_u_at, wk_ul_1, and_self, and_true, true_and, and_false, false_and, if_true, if_false] at hp); have hp := congrFun (hfr 32 (by decide)).1 0; (try simp (decide := true) only [wk_u_at, wk_ul_1, and_self, and_true, true_and, and_false, false_and, if_true, if_false] at hp); have hp := congrFun (hfr 32 (by decide)).1 1; (try simp (decide := true) only [wk_u_at, wk_ul_1, and_self, and_true, true_and, and_false, false_and, if_true, if_false] at hp); have hp := congrFun (hfr 32 (by decide)).1 2; (try simp (decide := true) only [wk_u_at, wk_ul_1, and_self, and_true, true_and, and_false, false_and, if_true, if_false] at hp); have hp := congrFun (hfr 32 (by decide)).1 3; (try simp (decide := true) only [wk_u_at, wk_ul_1, and_self, and_true, true_and, and_false, false_and, if_true, if_false] at hp); have hp := congrFun (hfr 1 (by decide)).1 ((11 : Nat) : Int); (try simp (decide := true) only [wk_u_at, wk_ul_1, and_self, and_true, true_and, and_false, false_and, if_true, if_false] at hp); have hp := congrFun (hfr 1 (by decide)).1 ((4 : Nat) : Int); (try simp (decide := true) only [wk_u_at, wk_ul_1, and_self, and_true, true_and, and_false, false_and, if_true, if_false] at hp); have hp := congrFun (hfr 11 (by decide)).1 0; (try simp (decide := true) only [wk_u_at, wk_ul_1, and_self, and_true, true_and, and_false, false_and, if_true, if_false] at hp); have hp := congrFun (hfr 10 (by decide)).1 0; (try simp (decide := true) only [wk_u_at, wk_ul_1, and_self, and_true, true_and, and_false, false_and, if_true, if_false] at hp); simp (decide := true) only [wk_u_at, wk_ul_1, and_self, and_true, true_and, and_false, false_and, if_true, if_false] at h7 h8 h9 h10 ea; refine Or.inr ?_)
    all_goals first
      | omega
      | trivial
      | (have z := ea 0
         rw [if_pos (by decide)] at z
         have z7 := h7
         rw [show ((-1 : Int) + 1) = 0 from rfl] at z7
         refine (hJ _ _).mpr ⟨by omega, ⟨⟨⟨by omega, by omega⟩, fun k k0 k1 => ?_, fun k k0 k1 => by omega⟩, ?_⟩, ⟨by omega, ⟨by omega, by omega, by omega, by omega⟩, by omega, by omega⟩⟩
         · have e : k = 0 := by omega
           subst e
           rw [z]
           omega
         · unfold mA
           rw [z7, z]
           omega)
