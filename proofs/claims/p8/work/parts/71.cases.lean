theorem dp_nok_of {cl : List vw_C} {own : String} {Ts : List Cond} {i ci N : Nat} {fs : List (Option (Option Nat))} {Cn : String} {T : u_T} {t : Nat → FieldType} (hl : fs.length = N) (h1 : cl[ci]? = some (Cn, T, N)) (h2 : ∀ w ∈ u_ws Cn T N, w ∈ Ts) (h3 : ∀ k, k < N → parseFieldDescriptor (T k).2.2.1 = some (t k)) (h4 : Cond.classLink own i Cn ∈ Ts) (h5 : Cond.instantiable Cn N ∈ Ts) (h6 : Cond.initialized Cn ∈ Ts) (h7 : ∀ j, j < N → ∀ ad : Nat → Nat, defaultValue (t j) = vp_V (fs.mapIdx (sm_f ad (fun _ => 0))) j) (h8 : ∀ ad ad' : Nat → Nat, fs.mapIdx (sm_f ad (fun _ => 0)) = fs.mapIdx (sm_f ad' (fun _ => 0))) : dp_nok cl own Ts i (ci, fs) := by
  subst hl
  exact ⟨Cn, T, t, h1, h2, h3, h4, h5, h6, h7, h8⟩
theorem tb_lit0 (ad : Nat → Nat) : List.mapIdx (sm_f ad (fun _ => 0)) ([some none, some none, some none, some none, some none, some none, some none, none] : List (Option (Option Nat))) = [.null, .null, .null, .null, .null, .null, .null, .int 0] := by
  simp only [List.mapIdx_cons, List.mapIdx_nil, sm_f]
theorem tb_dv0 : ∀ j, j < 8 → defaultValue (tb_t0 j) = vp_V [.null, .null, .null, .null, .null, .null, .null, .int 0] j := by decide +kernel
theorem tb_lit10 (ad : Nat → Nat) : List.mapIdx (sm_f ad (fun _ => 0)) ([none, some none, some none, some none, some none, none, none, some none, some none, some none, some none, some none, some none, some none, some none, some none, some none, some none, some none, some none, none, none, some none, some none, none, none, none, some none, some none, some none, none, some none, some none, some none, none, some none, some none, some none] : List (Option (Option Nat))) = [.int 0, .null, .null, .null, .null, .int 0, .int 0, .null, .null, .null, .null, .null, .null, .null, .null, .null, .null, .null, .null, .null, .int 0, .int 0, .null, .null, .int 0, .int 0, .int 0, .null, .null, .null, .int 0, .null, .null, .null, .int 0, .null, .null, .null] := by
  simp only [List.mapIdx_cons, List.mapIdx_nil, sm_f]
theorem tb_dv10 : ∀ j, j < 38 → defaultValue (tb_t10 j) = vp_V [.int 0, .null, .null, .null, .null, .int 0, .int 0, .null, .null, .null, .null, .null, .null, .null, .null, .null, .null, .null, .null, .null, .int 0, .int 0, .null, .null, .int 0, .int 0, .int 0, .null, .null, .null, .int 0, .null, .null, .null, .int 0, .null, .null, .null] j := by decide +kernel
def tb_eL : List (Nat × Nat × List (Option (Option Nat))) := [(7, 0, [some none, some none, some none, some none, some none, some none, some none, none]), (10, 10, [none, some none, some none, some none, some none, none, none, some none, some none, some none, some none, some none, some none, some none, some none, some none, some none, some none, some none, some none, none, none, some none, some none, none, none, none, some none, some none, some none, none, some none, some none, some none, none, some none, some none, some none])]
theorem tb_eL_0 : dp_nok tb_cl "ProgramSlicesLaw" tb_W 7 (0, [some none, some none, some none, some none, some none, some none, some none, none]) := dp_nok_of (N := 8) rfl rfl tb_u0 tb_y0 tb_w1006 tb_w1007 tb_w89 (fun j hj ad => by rw [tb_lit0]; exact tb_dv0 j hj) (fun ad ad' => (tb_lit0 ad).trans (tb_lit0 ad').symm)
theorem tb_eL_1 : dp_nok tb_cl "ProgramSlicesLaw" tb_W 10 (10, [none, some none, some none, some none, some none, none, none, some none, some none, some none, some none, some none, some none, some none, some none, some none, some none, some none, some none, some none, none, none, some none, some none, none, none, none, some none, some none, some none, none, some none, some none, some none, none, some none, some none, some none]) := dp_nok_of (N := 38) rfl rfl tb_u10 tb_y10 tb_w1008 tb_w1009 tb_w677 (fun j hj ad => by rw [tb_lit10]; exact tb_dv10 j hj) (fun ad ad' => (tb_lit10 ad).trans (tb_lit10 ad').symm)
theorem tb_eL_ok : ∀ e ∈ tb_eL, dp_nok tb_cl "ProgramSlicesLaw" tb_W e.1 e.2 := List.forall_mem_cons.mpr ⟨tb_eL_0, List.forall_mem_cons.mpr ⟨tb_eL_1, fun _ h => absurd h List.not_mem_nil⟩⟩
/-! the script -/
def sm_scr (X : sm_X) (b Ln : Nat) (xs : Nat → Int32) : Prop := match X with
  | ((l, D, cA, NW), p, e, R, s, m, args, below, meth, c, nL, A, H0, Q, n0, s0) => va_X b Ln xs s H0 ∧ b < H0.size ∧ ¬ A b
theorem sm_sld {cl : List vw_C} {X : sm_X} {cc : ByteArray} {n : Nat} {own : String} {Ts : List Cond} {ret : Option FieldType} {rm : Room} {N S : Nat} {ini : Bool} (hX : sm_ok cl X cc n own Ts ret rm N S ini) {pc : Nat} {L : List (Option Value)} {r : List Value} {ad : Nat → Nat} {sh : sm_S} {μ : sm_M} {Ln : Nat} {xs : Nat → Int32} (hS : sm_scr X (ad 1000) Ln xs) {i : Int32} (hi : vp_in i Ln) (d : decode cc pc = .ok (.iaload, 1)) (k : sm_E cl X (pc + 1) L (.int (xs i.toNatClampNeg) :: r) ad sh μ) : sm_E cl X pc L (.int i :: .ref 1000 :: r) ad sh μ := by
  obtain ⟨⟨l, D, cA, NW⟩, pr, e, R, s, m, args, below, meth, c, nL, A, H0, Q, n0, s0⟩ := X
  obtain ⟨hx, hb, hml, hn, hown, hts, hK, hlk, hrt, hR, hA, hc0, hs0, hin, hnw⟩ := hX
  exact fun ls H locs cells slots g1 g2 h1 h2 h3 h4 => va_sld hx hb hS.1 hS.2.1 hS.2.2 h4 hi d (k ls H locs cells slots g1 g2 h1 h2 h3 h4)
theorem sm_slen {cl : List vw_C} {X : sm_X} {cc : ByteArray} {n : Nat} {own : String} {Ts : List Cond} {ret : Option FieldType} {rm : Room} {N S : Nat} {ini : Bool} (hX : sm_ok cl X cc n own Ts ret rm N S ini) {pc : Nat} {L : List (Option Value)} {r : List Value} {ad : Nat → Nat} {sh : sm_S} {μ : sm_M} {Ln : Nat} {xs : Nat → Int32} (hS : sm_scr X (ad 1000) Ln xs) (d : decode cc pc = .ok (.arraylength, 1)) (k : sm_E cl X (pc + 1) L (.int (Int32.ofNat Ln) :: r) ad sh μ) : sm_E cl X pc L (.ref 1000 :: r) ad sh μ := by
  obtain ⟨⟨l, D, cA, NW⟩, pr, e, R, s, m, args, below, meth, c, nL, A, H0, Q, n0, s0⟩ := X
  obtain ⟨hx, hb, hml, hn, hown, hts, hK, hlk, hrt, hR, hA, hc0, hs0, hin, hnw⟩ := hX
  exact fun ls H locs cells slots g1 g2 h1 h2 h3 h4 => va_slen hx hb hS.1 hS.2.1 hS.2.2 h4 d (k ls H locs cells slots g1 g2 h1 h2 h3 h4)
/-! what holds between the law's calls -/
/-- class and reference hold the same program; built, they hold the same structure -/
def oE (f : Nat → Int → Int) : Prop := f 1 (4 : Nat) = f 46 (0 : Nat) ∧ f 0 (7 : Nat) = f 46 (5 : Nat) ∧ ∀ j, 0 ≤ j → j < f 1 (4 : Nat) → f 2 j = f 47 j ∧ f 3 j = f 48 j ∧ f 4 j = f 49 j ∧ f 5 j = f 50 j
def tE (f : Nat → Int → Int) : Prop := f 0 (7 : Nat) = 1 → f 1 (11 : Nat) = f 46 (6 : Nat) ∧ (∀ j, 0 ≤ j → j < f 1 (4 : Nat) → f 6 j = f 54 j ∧ f 7 j = f 55 j ∧ f 8 j = f 56 j ∧ f 9 j = f 53 j) ∧ ∀ p, 0 ≤ p → p < f 1 (11 : Nat) → f 10 p = f 51 p ∧ f 11 p = f 52 p
theorem fr_hi {W : List Nat} {m' m : wk_M} (h : wk_fr W m' m) (hw : (W.all fun p => Nat.beq p 46 || (Nat.ble 58 p || Nat.ble p 45)) = true) : ∀ p, 47 ≤ p → p ≤ 57 → m'.1 p = m.1 p := by
  intro p p0 p1
  refine (h p (fun z => ?_)).1
  have := List.all_eq_true.mp hw p z
  rw [Bool.or_eq_true, Bool.or_eq_true] at this
  rcases this with a | a | a
  · have := dp_beq a
    omega
  · have := Nat.le_of_ble_eq_true a
    omega
  · have := Nat.le_of_ble_eq_true a
    omega
theorem LR_keep {W1 W2 : List Nat} {m m1 m2 : wk_M} (f1 : wk_fr W1 m1 m) (f2 : wk_fr W2 m2 m1) (a1 : (W1.all fun p => Nat.ble 13 p) = true) (a2 : (W2.all fun p => Nat.ble 13 p) = true) (b1 : (W1.all fun p => Nat.beq p 46 || (Nat.ble 58 p || Nat.ble p 45)) = true) (b2 : (W2.all fun p => Nat.beq p 46 || (Nat.ble 58 p || Nat.ble p 45)) = true) (e0 : m2.1 46 (0 : Nat) = m.1 46 (0 : Nat)) (e5 : m2.1 46 (5 : Nat) = m.1 46 (5 : Nat)) (e6 : m2.1 46 (6 : Nat) = m.1 46 (6 : Nat)) (h : oE m.1 ∧ tE m.1) : oE m2.1 ∧ tE m2.1 := by
  have lo : ∀ p, p ≤ 12 → m2.1 p = m.1 p := fun p hp => (wk_fr_lo f2 a2 hp).trans (wk_fr_lo f1 a1 hp)
  have hi : ∀ p, 47 ≤ p → p ≤ 57 → m2.1 p = m.1 p := fun p x y => (fr_hi f2 b2 p x y).trans (fr_hi f1 b1 p x y)
  unfold oE tE at h ⊢
  rw [lo 0 (by decide), lo 1 (by decide), lo 2 (by decide), lo 3 (by decide), lo 4 (by decide), lo 5 (by decide), lo 6 (by decide), lo 7 (by decide), lo 8 (by decide), lo 9 (by decide), lo 10 (by decide), lo 11 (by decide), hi 47 (by decide) (by decide), hi 48 (by decide) (by decide), hi 49 (by decide) (by decide), hi 50 (by decide) (by decide), hi 51 (by decide) (by decide), hi 52 (by decide) (by decide), hi 53 (by decide) (by decide), hi 54 (by decide) (by decide), hi 55 (by decide) (by decide), hi 56 (by decide) (by decide), e0, e5, e6]
  exact h
theorem LR_ho {W1 : List Nat} {m m1 : wk_M} (f1 : wk_fr W1 m1 m) (h : oE m.1 ∧ tE m.1) (n46 : 46 ∉ W1 := by decide) (n47 : 47 ∉ W1 := by decide) : ∀ j, 0 ≤ j → j < m1.1 46 (0 : Nat) → m.1 2 j = m1.1 47 j := by
  intro j j0 j1
  rw [(f1 46 n46).1] at j1
  rw [(f1 47 n47).1]
  exact (h.1.2.2 j j0 (by have := h.1.1; omega)).1
theorem LR_add {m m1 m2 : wk_M} {o d a b v1 v2 : Int} (f1 : wk_fr [1, 2, 3, 4, 5] m1 m) (f2 : wk_fr [46, 47, 48, 49, 50] m2 m1) (P1 : (v1 = -1 ∧ m1 = m ∧ (m.1 0 (7 : Nat) = 1 ∨ 32 ≤ m.1 1 (4 : Nat) ∨ ¬ okA o d a b)) ∨ (v1 = m.1 1 (4 : Nat) ∧ m1 = wk_u (wk_u (wk_u (wk_u (wk_u m 2 (m.1 1 (4 : Nat)) o) 3 (m.1 1 (4 : Nat)) d) 4 (m.1 1 (4 : Nat)) a) 5 (m.1 1 (4 : Nat)) b) 1 (4 : Nat) (m.1 1 (4 : Nat) + 1) ∧ ¬ m.1 0 (7 : Nat) = 1 ∧ m.1 1 (4 : Nat) < 32 ∧ okA o d a b)) (P2 : (v2 = -1 ∧ m2 = m1 ∧ (m1.1 46 (5 : Nat) = 1 ∨ 32 ≤ m1.1 46 (0 : Nat) ∨ ¬ okA o d a b)) ∨ (v2 = m1.1 46 (0 : Nat) ∧ m2 = wk_u (wk_u (wk_u (wk_u (wk_u m1 47 (m1.1 46 (0 : Nat)) o) 48 (m1.1 46 (0 : Nat)) d) 49 (m1.1 46 (0 : Nat)) a) 50 (m1.1 46 (0 : Nat)) b) 46 (0 : Nat) (m1.1 46 (0 : Nat) + 1) ∧ ¬ m1.1 46 (5 : Nat) = 1 ∧ m1.1 46 (0 : Nat) < 32 ∧ okA o d a b)) (h : oE m.1 ∧ tE m.1) : (oE m2.1 ∧ tE m2.1) ∧ v1 = v2 := by
  have e46 := (f1 46 (by decide)).1
  have e0 := congrFun e46 ((0 : Nat) : Int)
  have e5 := congrFun e46 ((5 : Nat) : Int)
  have hc := h.1.1
  have hb := h.1.2.1
  rcases P1 with ⟨x1, x2, x3⟩ | ⟨x1, x2, x3, x4, x5⟩
  · rcases P2 with ⟨y1, y2, y3⟩ | ⟨y1, y2, y3, y4, y5⟩
    · rw [y2, x2]
      exact ⟨h, by omega⟩
    · exfalso
      rcases x3 with z | z | z
      · omega
      · omega
      · exact z y5
  · rcases P2 with ⟨y1, y2, y3⟩ | ⟨y1, y2, y3, y4, y5⟩
    · exfalso
      rcases y3 with z | z | z
      · omega
      · omega
      · exact z x5
    · refine ⟨⟨⟨?_, ?_, fun j j0 j1 => ?_⟩, fun z => ?_⟩, by omega⟩
      · have g1 : m1.1 1 (4 : Nat) = m.1 1 (4 : Nat) + 1 := by rw [x2]; simp (decide := true) only [wk_u_at, wk_ul_1, and_self, and_true, true_and, and_false, false_and, if_true, if_false]
        have h1 : m2.1 46 (0 : Nat) = m1.1 46 (0 : Nat) + 1 := by rw [y2]; simp (decide := true) only [wk_u_at, wk_ul_1, and_self, and_true, true_and, and_false, false_and, if_true, if_false]
        rw [(f2 1 (by decide)).1]
        omega
      · have h1 : m2.1 46 (5 : Nat) = m1.1 46 (5 : Nat) := by rw [y2]; simp (decide := true) only [wk_u_at, wk_ul_1, and_self, and_true, true_and, and_false, false_and, if_true, if_false]
        rw [(f2 0 (by decide)).1, (f1 0 (by decide)).1]
        omega
      · have g1 : m1.1 1 (4 : Nat) = m.1 1 (4 : Nat) + 1 := by rw [x2]; simp (decide := true) only [wk_u_at, wk_ul_1, and_self, and_true, true_and, and_false, false_and, if_true, if_false]
        rw [(f2 1 (by decide)).1, g1] at j1
        have k2 : m1.1 2 j = if j = m.1 1 (4 : Nat) then o else m.1 2 j := by rw [x2]; simp (decide := true) only [wk_u_at, wk_ul_1, and_self, and_true, true_and, and_false, false_and, if_true, if_false]
        have k3 : m1.1 3 j = if j = m.1 1 (4 : Nat) then d else m.1 3 j := by rw [x2]; simp (decide := true) only [wk_u_at, wk_ul_1, and_self, and_true, true_and, and_false, false_and, if_true, if_false]
        have k4 : m1.1 4 j = if j = m.1 1 (4 : Nat) then a else m.1 4 j := by rw [x2]; simp (decide := true) only [wk_u_at, wk_ul_1, and_self, and_true, true_and, and_false, false_and, if_true, if_false]
        have k5 : m1.1 5 j = if j = m.1 1 (4 : Nat) then b else m.1 5 j := by rw [x2]; simp (decide := true) only [wk_u_at, wk_ul_1, and_self, and_true, true_and, and_false, false_and, if_true, if_false]
        have n2 : m2.1 47 j = if j = m1.1 46 (0 : Nat) then o else m1.1 47 j := by rw [y2]; simp (decide := true) only [wk_u_at, wk_ul_1, and_self, and_true, true_and, and_false, false_and, if_true, if_false]
        have n3 : m2.1 48 j = if j = m1.1 46 (0 : Nat) then d else m1.1 48 j := by rw [y2]; simp (decide := true) only [wk_u_at, wk_ul_1, and_self, and_true, true_and, and_false, false_and, if_true, if_false]
        have n4 : m2.1 49 j = if j = m1.1 46 (0 : Nat) then a else m1.1 49 j := by rw [y2]; simp (decide := true) only [wk_u_at, wk_ul_1, and_self, and_true, true_and, and_false, false_and, if_true, if_false]
        have n5 : m2.1 50 j = if j = m1.1 46 (0 : Nat) then b else m1.1 50 j := by rw [y2]; simp (decide := true) only [wk_u_at, wk_ul_1, and_self, and_true, true_and, and_false, false_and, if_true, if_false]
        rw [(f2 2 (by decide)).1, (f2 3 (by decide)).1, (f2 4 (by decide)).1, (f2 5 (by decide)).1, k2, k3, k4, k5, n2, n3, n4, n5, (f1 47 (by decide)).1, (f1 48 (by decide)).1, (f1 49 (by decide)).1, (f1 50 (by decide)).1, e0, ← hc]
        by_cases e : j = m.1 1 (4 : Nat)
        · rw [if_pos e, if_pos e, if_pos e, if_pos e, if_pos e, if_pos e, if_pos e, if_pos e]
          exact ⟨rfl, rfl, rfl, rfl⟩
        · rw [if_neg e, if_neg e, if_neg e, if_neg e, if_neg e, if_neg e, if_neg e, if_neg e]
          exact h.1.2.2 j j0 (by omega)
      · rw [(f2 0 (by decide)).1, (f1 0 (by decide)).1] at z
        exact absurd z x3
theorem LR_clear {m1 m2 : wk_M} (f2 : wk_fr [46] m2 m1) (P1 : m1.1 1 (4 : Nat) = 0 ∧ m1.1 0 (7 : Nat) = 0) (P2 : m2.1 46 (0 : Nat) = 0 ∧ m2.1 46 (5 : Nat) = 0) : oE m2.1 ∧ tE m2.1 := by
  have a := congrFun (f2 1 (by decide)).1 ((4 : Nat) : Int)
  have b := congrFun (f2 0 (by decide)).1 ((7 : Nat) : Int)
  exact ⟨⟨by omega, by omega, fun j j0 j1 => by omega⟩, fun z => by omega⟩
theorem LR_build {m m1 m2 : wk_M} {v1 v2 : Int} (f1 : wk_fr [0, 1, 6, 7, 8, 9, 10, 11, 12, 14, 15, 16, 17, 18, 20, 21, 22, 23, 24, 25, 26, 27, 43] m1 m) (f2 : wk_fr [46, 51, 52, 53, 54, 55, 56, 57, 58, 59, 60, 61, 62, 63] m2 m1) (c1 : m1.1 1 (4 : Nat) = m.1 1 (4 : Nat)) (P1 : (m.1 0 (7 : Nat) = 1 ∧ v1 = -2 ∧ m1 = m) ∨ (¬ m.1 0 (7 : Nat) = 1 ∧ ∃ u, lyC (m.1 2) (m.1 1 (4 : Nat)) u ∧ ((u = -1 ∧ v1 = 0 ∧ m1.1 0 (7 : Nat) = 1 ∧ sZ (lyI (m.1 2) (m.1 1 (4 : Nat)).toNat) (m.1 1 (4 : Nat)) (m1.1 1 (11 : Nat)) (m1.1 6) (m1.1 7) (m1.1 8) (m1.1 9) (m1.1 10) (m1.1 11)) ∨ (¬ u = -1 ∧ v1 = -3 - u ∧ m1.1 0 (7 : Nat) = m.1 0 (7 : Nat))))) (c2 : m2.1 46 (0 : Nat) = m1.1 46 (0 : Nat)) (P2 : (m1.1 46 (5 : Nat) = 1 ∧ v2 = -2 ∧ m2 = m1) ∨ (¬ m1.1 46 (5 : Nat) = 1 ∧ ∃ u, lyC (m.1 2) (m1.1 46 (0 : Nat)) u ∧ ((u = -1 ∧ v2 = 0 ∧ m2.1 46 (5 : Nat) = 1 ∧ sZ (lyI (m.1 2) (m1.1 46 (0 : Nat)).toNat) (m1.1 46 (0 : Nat)) (m2.1 46 (6 : Nat)) (m2.1 54) (m2.1 55) (m2.1 56) (m2.1 53) (m2.1 51) (m2.1 52)) ∨ (¬ u = -1 ∧ v2 = -3 - u ∧ m2.1 46 (5 : Nat) = m1.1 46 (5 : Nat))))) (h : oE m.1 ∧ tE m.1) : (oE m2.1 ∧ tE m2.1) ∧ v1 = v2 := by
  have e46 := (f1 46 (by decide)).1
  have e0 := congrFun e46 ((0 : Nat) : Int)
  have e5 := congrFun e46 ((5 : Nat) : Int)
  have hc := h.1.1
  have hb := h.1.2.1
  have l0 := congrFun (f2 0 (by decide)).1 ((7 : Nat) : Int)
  have l1 := congrFun (f2 1 (by decide)).1 ((4 : Nat) : Int)
  have hops : ∀ j, 0 ≤ j → j < m2.1 1 (4 : Nat) → m2.1 2 j = m2.1 47 j ∧ m2.1 3 j = m2.1 48 j ∧ m2.1 4 j = m2.1 49 j ∧ m2.1 5 j = m2.1 50 j := by
    intro j j0 j1
    rw [l1, c1] at j1
    rw [(f2 2 (by decide)).1, (f2 3 (by decide)).1, (f2 4 (by decide)).1, (f2 5 (by decide)).1, (f2 47 (by decide)).1, (f2 48 (by decide)).1, (f2 49 (by decide)).1, (f2 50 (by decide)).1, (f1 2 (by decide)).1, (f1 3 (by decide)).1, (f1 4 (by decide)).1, (f1 5 (by decide)).1, (f1 47 (by decide)).1, (f1 48 (by decide)).1, (f1 49 (by decide)).1, (f1 50 (by decide)).1]
    exact h.1.2.2 j j0 j1
  rcases P1 with ⟨x1, x2, x3⟩ | ⟨x1, u, hu, x2⟩
  · rcases P2 with ⟨y1, y2, y3⟩ | ⟨y1, u', hu', y2⟩
    · rw [y3, x3]
      exact ⟨h, by omega⟩
    · exfalso
      exact y1 (by omega)
  · rcases P2 with ⟨y1, y2, y3⟩ | ⟨y1, u', hu', y2⟩
    · exfalso
      exact x1 (by omega)
    · rw [e0, ← hc] at hu' y2
      have eu := lyC_uniq hu hu'
      subst eu
      rcases x2 with ⟨a1, a2, a3, a4⟩ | ⟨a1, a2, a3⟩
      · rcases y2 with ⟨b1, b2, b3, b4⟩ | ⟨b1, b2, b3⟩
        · refine ⟨⟨⟨by omega, by omega, hops⟩, fun _ => ?_⟩, by omega⟩
          obtain ⟨t1, t2, t3⟩ := sZ_eq a4 b4
          rw [l1, c1, (f2 1 (by decide)).1, (f2 6 (by decide)).1, (f2 7 (by decide)).1, (f2 8 (by decide)).1, (f2 9 (by decide)).1, (f2 10 (by decide)).1, (f2 11 (by decide)).1]
          exact ⟨t1, t2, t3⟩
        · exact absurd a1 b1
      · rcases y2 with ⟨b1, b2, b3, b4⟩ | ⟨b1, b2, b3⟩
        · exact absurd b1 a1
        · refine ⟨⟨⟨by omega, by omega, hops⟩, fun z => ?_⟩, by omega⟩
          exfalso
          exact x1 (by omega)
/-- class and reference hold the same order and labels -/
def oX (f : Nat → Int → Int) : Prop := oA f ∧ lEq (f 38 (0 : Nat)) (oB f) (rB f) ∧ rRf (f 38 (0 : Nat)) (oB f) ∧ rTr (f 38 (0 : Nat)) (oB f) ∧ ∀ k, 0 ≤ k → k ≤ 3 → f 40 k = f 73 k ∧ f 41 k = f 74 k
theorem OX_keep {m2 m : wk_M} (e38 : m2.1 38 = m.1 38) (e39 : m2.1 39 = m.1 39) (e40 : m2.1 40 = m.1 40) (e41 : m2.1 41 = m.1 41) (e72 : m2.1 72 = m.1 72) (e73 : m2.1 73 = m.1 73) (e74 : m2.1 74 = m.1 74) (h : oX m.1) : oX m2.1 := by
  unfold oX oA lEq rRf rTr oB rB at h ⊢
  rw [e38, e39, e40, e41, e72, e73, e74]
  exact h
theorem OX_ref {W1 : List Nat} {m m1 : wk_M} (f1 : wk_fr W1 m1 m) (hL : m.1 38 (0 : Nat) = m.1 46 (34 : Nat)) (h : oX m.1) (n46 : 46 ∉ W1 := by decide) (n72 : 72 ∉ W1 := by decide) : rRf (m1.1 46 (34 : Nat)) (rB m1.1) ∧ rTr (m1.1 46 (34 : Nat)) (rB m1.1) := by
  have e : rB m1.1 = rB m.1 := by
    funext p q
    unfold rB
    rw [(f1 72 n72).1]
  rw [e, (f1 46 n46).1, ← hL]
  obtain ⟨-, h2, h3, h4, -⟩ := h
  exact ⟨fun p p0 p1 => (h2 p p p0 p1 p0 p1).mp (h3 p p0 p1), fun p q s p0 p1 q0 q1 s0 s1 x y => (h2 p s p0 p1 s0 s1).mp (h4 p q s p0 p1 q0 q1 s0 s1 ((h2 p q p0 p1 q0 q1).mpr x) ((h2 q s q0 q1 s0 s1).mpr y))⟩
theorem OX_lat {W1 : List Nat} {m m1 : wk_M} {v1 v2 : Int} (f1 : wk_fr W1 m1 m) (hL : m.1 38 (0 : Nat) = m.1 46 (34 : Nat)) (h : oX m.1) (h1 : ltA (m.1 38 (0 : Nat)) (oB m.1) v1) (h2 : ltA (m1.1 46 (34 : Nat)) (rB m1.1) v2) (n46 : 46 ∉ W1 := by decide) (n72 : 72 ∉ W1 := by decide) : v1 = v2 := by
  have e : rB m1.1 = rB m.1 := by
    funext p q
    unfold rB
    rw [(f1 72 n72).1]
  rw [e, (f1 46 n46).1, ← hL] at h2
  exact ltA_uniq (ltA_eq h.2.1 h1) h2
theorem OX_levels {m m1 m2 : wk_M} {n v1 v2 : Int} (f2 : wk_fr [46, 72, 73, 74] m2 m1) (P1 : (v1 = 1 ∧ 1 ≤ n ∧ n ≤ 5 ∧ m1.1 38 (0 : Nat) = n ∧ (oA m1.1 ∧ ∀ p q, 0 ≤ p → p < n → 0 ≤ q → q ≤ 4 → (oB m1.1 p q ↔ p = q)) ∧ ∀ k, 0 ≤ k → k ≤ 3 → m1.1 40 k = 0 ∧ m1.1 41 k = 0) ∨ (v1 = 0 ∧ (n < 1 ∨ 5 < n) ∧ m1.1 38 (0 : Nat) = m.1 38 (0 : Nat) ∧ m1 = m)) (P2 : (v2 = 1 ∧ 1 ≤ n ∧ n ≤ 5 ∧ m2.1 46 (34 : Nat) = n ∧ (∀ p q, 0 ≤ p → p ≤ 4 → 0 ≤ q → q ≤ 4 → (rB m2.1 p q ↔ p = q)) ∧ lZ m2.1 4) ∨ (v2 = 0 ∧ (n < 1 ∨ 5 < n) ∧ m2.1 46 (34 : Nat) = m1.1 46 (34 : Nat) ∧ m2 = m1)) (h : oX m.1) : oX m2.1 := by
  rcases P1 with ⟨-, n0, n1, x1, ⟨x2, x3⟩, x4⟩ | ⟨-, x1, -, x2⟩
  · rcases P2 with ⟨-, -, -, y1, y2, y3⟩ | ⟨-, y1, -, y2⟩
    · have e38 := (f2 38 (by decide)).1
      have e39 := (f2 39 (by decide)).1
      have eo : oB m2.1 = oB m1.1 := by
        funext p q
        unfold oB
        rw [e39]
      have ea : oA m2.1 := by
        unfold oA at x2 ⊢
        rw [e38, e39]
        exact x2
      have en : m2.1 38 (0 : Nat) = n := by
        rw [e38]
        exact x1
      unfold oX
      rw [en, eo]
      refine ⟨ea, fun p q p0 p1 q0 q1 => (x3 p q p0 p1 q0 (by omega)).trans (y2 p q p0 (by omega) q0 (by omega)).symm, fun p p0 p1 => (x3 p p p0 p1 p0 (by omega)).mpr rfl, fun p q s p0 p1 q0 q1 s0 s1 x y => (x3 p s p0 p1 s0 (by omega)).mpr (((x3 p q p0 p1 q0 (by omega)).mp x).trans ((x3 q s q0 q1 s0 (by omega)).mp y)), fun k k0 k1 => ?_⟩
      rw [(f2 40 (by decide)).1, (f2 41 (by decide)).1, (x4 k k0 k1).1, (x4 k k0 k1).2, (y3 k k0 (by omega)).1, (y3 k k0 (by omega)).2]
      exact ⟨rfl, rfl⟩
    · exfalso
      omega
  · rcases P2 with ⟨-, y0, y1, -⟩ | ⟨-, y1, -, y2⟩
    · exfalso
      omega
    · rw [y2, x2]
      exact h
theorem OX_below {m m1 m2 : wk_M} {a b v1 v2 : Int} (f1 : wk_fr [39] m1 m) (f2 : wk_fr [72] m2 m1) (P1 : (v1 = 1 ∧ 0 ≤ a ∧ a < m.1 38 (0 : Nat) ∧ 0 ≤ b ∧ b < m.1 38 (0 : Nat) ∧ oA m1.1 ∧ ∀ p q, 0 ≤ p → p < m.1 38 (0 : Nat) → 0 ≤ q → q ≤ 4 → (oB m1.1 p q ↔ oN m.1 a b p q)) ∨ (v1 = 0 ∧ (a < 0 ∨ m.1 38 (0 : Nat) ≤ a ∨ b < 0 ∨ m.1 38 (0 : Nat) ≤ b) ∧ m1 = m)) (P2 : (v2 = 1 ∧ 0 ≤ a ∧ a < m1.1 46 (34 : Nat) ∧ 0 ≤ b ∧ b < m1.1 46 (34 : Nat) ∧ ∀ p q, 0 ≤ p → p < m1.1 46 (34 : Nat) → 0 ≤ q → q < m1.1 46 (34 : Nat) → (rB m2.1 p q ↔ rN (rB m1.1) a b p q)) ∨ (v2 = 0 ∧ (a < 0 ∨ m1.1 46 (34 : Nat) ≤ a ∨ b < 0 ∨ m1.1 46 (34 : Nat) ≤ b) ∧ m2 = m1)) (hL : m.1 38 (0 : Nat) = m.1 46 (34 : Nat)) (hn : m.1 38 (0 : Nat) ≤ 5) (h : oX m.1) : oX m2.1 := by
  have e46 := congrFun (f1 46 (by decide)).1 ((34 : Nat) : Int)
  rcases P1 with ⟨-, a0, a1, b0, b1, x2, x3⟩ | ⟨-, x1, x2⟩
  · rcases P2 with ⟨-, -, -, -, -, y1⟩ | ⟨-, y1, y2⟩
    · obtain ⟨-, h2, h3, h4, h5⟩ := h
      have e38 : m2.1 38 = m.1 38 := (f2 38 (by decide)).1.trans (f1 38 (by decide)).1
      have e38' : m1.1 38 = m.1 38 := (f1 38 (by decide)).1
      have e39 := (f2 39 (by decide)).1
      have er : rB m1.1 = rB m.1 := by
        funext p q
        unfold rB
        rw [(f1 72 (by decide)).1]
      rw [e46, ← hL, er] at y1
      have eo : oB m2.1 = oB m1.1 := by
        funext p q
        unfold oB
        rw [e39]
      have ea : oA m2.1 := by
        unfold oA at x2 ⊢
        rw [e38, e39]
        rw [e38'] at x2
        exact x2
      have rn : ∀ p q, 0 ≤ p → p < m.1 38 (0 : Nat) → 0 ≤ q → q < m.1 38 (0 : Nat) → (oB m1.1 p q ↔ rN (oB m.1) a b p q) := fun p q p0 p1 q0 q1 => x3 p q p0 p1 q0 (by omega)
      unfold oX
      rw [e38, eo, (f2 40 (by decide)).1, (f2 41 (by decide)).1, (f2 73 (by decide)).1, (f2 74 (by decide)).1, (f1 40 (by decide)).1, (f1 41 (by decide)).1, (f1 73 (by decide)).1, (f1 74 (by decide)).1]
      refine ⟨ea, fun p q p0 p1 q0 q1 => ?_, fun p p0 p1 => (rn p p p0 p1 p0 p1).mpr (Or.inl (h3 p p0 p1)), fun p q s p0 p1 q0 q1 s0 s1 x y => (rn p s p0 p1 s0 s1).mpr (rN_tr h4 a0 a1 b0 b1 p0 p1 q0 q1 s0 s1 ((rn p q p0 p1 q0 q1).mp x) ((rn q s q0 q1 s0 s1).mp y)), h5⟩
      refine (rn p q p0 p1 q0 q1).trans (Iff.trans ?_ (y1 p q p0 p1 q0 q1).symm)
      unfold rN
      rw [h2 p q p0 p1 q0 q1, h2 p a p0 p1 a0 a1, h2 b q b0 b1 q0 q1]
    · exfalso
      omega
  · rcases P2 with ⟨-, y0, y1, y2, y3, -⟩ | ⟨-, y1, y2⟩
    · exfalso
      omega
    · rw [y2, x2]
      exact h
theorem OX_label {m m1 m2 : wk_M} {b k l v1 v2 : Int} (f1 : wk_fr [40, 41] m1 m) (f2 : wk_fr [73, 74] m2 m1) (P1 : (v1 = 1 ∧ 0 ≤ k ∧ k ≤ 3 ∧ 0 ≤ l ∧ l < m.1 38 (0 : Nat) ∧ ((¬ b = 0 ∧ m1 = wk_u m 41 k l) ∨ (b = 0 ∧ m1 = wk_u m 40 k l))) ∨ (v1 = 0 ∧ (k < 0 ∨ 3 < k ∨ l < 0 ∨ m.1 38 (0 : Nat) ≤ l) ∧ m1 = m)) (P2 : (v2 = 1 ∧ 0 ≤ k ∧ k ≤ 3 ∧ 0 ≤ l ∧ l < m1.1 46 (34 : Nat) ∧ ((¬ b = 0 ∧ m2 = wk_u m1 74 k l) ∨ (b = 0 ∧ m2 = wk_u m1 73 k l))) ∨ (v2 = 0 ∧ (k < 0 ∨ 3 < k ∨ l < 0 ∨ m1.1 46 (34 : Nat) ≤ l) ∧ m2 = m1)) (hL : m.1 38 (0 : Nat) = m.1 46 (34 : Nat)) (h : oX m.1) : oX m2.1 := by
  have e46 := congrFun (f1 46 (by decide)).1 ((34 : Nat) : Int)
  have e38 : m2.1 38 = m.1 38 := (f2 38 (by decide)).1.trans (f1 38 (by decide)).1
  have e39 : m2.1 39 = m.1 39 := (f2 39 (by decide)).1.trans (f1 39 (by decide)).1
  have e72 : m2.1 72 = m.1 72 := (f2 72 (by decide)).1.trans (f1 72 (by decide)).1
  have main : (∀ j, 0 ≤ j → j ≤ 3 → m2.1 40 j = m2.1 73 j ∧ m2.1 41 j = m2.1 74 j) → oX m2.1 := by
    intro hj
    have hh := h
    unfold oX oA lEq rRf rTr oB rB at hh ⊢
    rw [e38, e39, e72]
    exact ⟨hh.1, hh.2.1, hh.2.2.1, hh.2.2.2.1, hj⟩
  have h5 := h.2.2.2.2
  rcases P1 with ⟨-, a0, a1, b0, b1, x2⟩ | ⟨-, x1, x2⟩
  · rcases P2 with ⟨-, -, -, -, -, y1⟩ | ⟨-, y1, y2⟩
    · refine main (fun j j0 j1 => ?_)
      rw [(f2 40 (by decide)).1, (f2 41 (by decide)).1]
      obtain ⟨q1, q2⟩ := h5 j j0 j1
      rcases x2 with ⟨c, x2⟩ | ⟨c, x2⟩
      · rcases y1 with ⟨d, y1⟩ | ⟨d, y1⟩
        · have g1 : m1.1 40 j = m.1 40 j := by rw [x2]; simp (decide := true) only [wk_u_at, wk_ul_1, and_self, and_true, true_and, and_false, false_and, if_true, if_false]
          have g2 : m1.1 41 j = if j = k then l else m.1 41 j := by rw [x2]; simp (decide := true) only [wk_u_at, wk_ul_1, and_self, and_true, true_and, and_false, false_and, if_true, if_false]
          have g3 : m2.1 73 j = m1.1 73 j := by rw [y1]; simp (decide := true) only [wk_u_at, wk_ul_1, and_self, and_true, true_and, and_false, false_and, if_true, if_false]
          have g4 : m2.1 74 j = if j = k then l else m1.1 74 j := by rw [y1]; simp (decide := true) only [wk_u_at, wk_ul_1, and_self, and_true, true_and, and_false, false_and, if_true, if_false]
          rw [g1, g2, g3, g4, (f1 73 (by decide)).1, (f1 74 (by decide)).1]
          refine ⟨q1, ?_⟩
          by_cases e : j = k
          · rw [if_pos e, if_pos e]
          · rw [if_neg e, if_neg e]
            exact q2
        · exact absurd d c
      · rcases y1 with ⟨d, y1⟩ | ⟨d, y1⟩
        · exact absurd c d
        · have g1 : m1.1 41 j = m.1 41 j := by rw [x2]; simp (decide := true) only [wk_u_at, wk_ul_1, and_self, and_true, true_and, and_false, false_and, if_true, if_false]
          have g2 : m1.1 40 j = if j = k then l else m.1 40 j := by rw [x2]; simp (decide := true) only [wk_u_at, wk_ul_1, and_self, and_true, true_and, and_false, false_and, if_true, if_false]
          have g3 : m2.1 74 j = m1.1 74 j := by rw [y1]; simp (decide := true) only [wk_u_at, wk_ul_1, and_self, and_true, true_and, and_false, false_and, if_true, if_false]
          have g4 : m2.1 73 j = if j = k then l else m1.1 73 j := by rw [y1]; simp (decide := true) only [wk_u_at, wk_ul_1, and_self, and_true, true_and, and_false, false_and, if_true, if_false]
          rw [g1, g2, g3, g4, (f1 73 (by decide)).1, (f1 74 (by decide)).1]
          refine ⟨?_, q2⟩
          by_cases e : j = k
          · rw [if_pos e, if_pos e]
          · rw [if_neg e, if_neg e]
            exact q1
    · exfalso
      omega
  · rcases P2 with ⟨-, y0, y1, y2, y3, -⟩ | ⟨-, y1, y2⟩
    · exfalso
      omega
    · rw [y2, x2]
      exact h
theorem lw_n5 {μ : sm_M} (gm : ab_mu rG μ) : (wk_of μ).1 38 (0 : Nat) ≤ 5 := by
  rw [wk_rdN rfl 38 0]
  exact (gm 38 0).2
def lwI (μ : sm_M) : Prop := ab_mu rG μ ∧ CI (wk_of μ).1 ∧ RI (wk_of μ).1 ∧ (wk_of μ).1 38 (0 : Nat) = (wk_of μ).1 46 (34 : Nat) ∧ (oE (wk_of μ).1 ∧ tE (wk_of μ).1) ∧ oX (wk_of μ).1
theorem lw_i {Z : sm_Z} {l j : Nat} {W : List Nat} {As : List wk_V} {m : wk_M} {P : Int → wk_M → Prop} (h : wC Z l j W As m (fun r m' => ∃ v : Int, r = some (.inl v) ∧ P v m')) {μ : sm_M} (e : wk_of μ = m) (gm : ab_mu rG μ) (hs : wk_sv As) {ad : Nat → Nat} {av : List Value} (ha : As.map wk_c = av) : sm_C tb_cl Z (tb_ys j) (tb_ws j) (dp_rm l (32 * l) ev_s2 ev_s2) av ad ev_s2 μ (fun r sh' μ' => (∃ v : Int32, r = some (.int v) ∧ P v.toInt (wk_of μ')) ∧ sh' = ev_s2 ∧ ab_mu rG μ' ∧ wk_fr W (wk_of μ') m) := by
  subst ha
  refine sm_C.imp (h μ ad e gm hs) (fun r sh' μ' q => ?_)
  obtain ⟨q1, q2, q3, r', q4, q5, v, q6, q7⟩ := q
  subst q6 q4
  have q5 : ab_lo ≤ v ∧ v ≤ ab_hi := q5
  have f := wk_fr_of q3
  rw [e] at f
  refine ⟨⟨Int32.ofInt v, rfl, ?_⟩, q1, q2, f⟩
  rw [wk_ti q5]
  exact q7
theorem wk_t1 {Z : sm_Z} {l j : Nat} {W : List Nat} {As : List wk_V} {m : wk_M} (h : wC Z l j W As m (fun r _ => ∃ v : Int, r = some (.inl v))) : wC Z l j W As m (fun r _ => ∃ v : Int, r = some (.inl v) ∧ True) := h.imp (fun _ _ _ _ _ _ q => q.elim fun v e => ⟨v, e, trivial⟩)
theorem lw_n {Z : sm_Z} {l j : Nat} {W : List Nat} {As : List wk_V} {m : wk_M} {P : Option wk_V → wk_M → Prop} (h : wC Z l j W As m P) {μ : sm_M} (e : wk_of μ = m) (gm : ab_mu rG μ) (hs : wk_sv As) {ad : Nat → Nat} {av : List Value} (ha : As.map wk_c = av) : sm_C tb_cl Z (tb_ys j) (tb_ws j) (dp_rm l (32 * l) ev_s2 ev_s2) av ad ev_s2 μ (fun r sh' μ' => (∃ r', r = Option.map wk_c r' ∧ P r' (wk_of μ')) ∧ sh' = ev_s2 ∧ ab_mu rG μ' ∧ wk_fr W (wk_of μ') m) := by
  subst ha
  refine sm_C.imp (h μ ad e gm hs) (fun r sh' μ' q => ?_)
  obtain ⟨q1, q2, q3, r', q4, q5, q6⟩ := q
  have f := wk_fr_of q3
  rw [e] at f
  exact ⟨⟨r', q4, q6⟩, q1, q2, f⟩
theorem lw_in {i : Int} {Ln : Nat} (i0 : 0 ≤ i) (i1 : i + 5 ≤ (Ln : Int)) (hN : Ln ≤ 2560) (k : Int) (k0 : 0 ≤ k) (k1 : k ≤ 4) : vp_in (Int32.ofInt i + Int32.ofInt k) Ln := by
  rw [← Int32.ofInt_add]
  exact wk_vin ⟨by show (-2147483648 : Int) ≤ _; omega, by show _ ≤ (2147483647 : Int); omega⟩ (by omega) (by omega)
theorem lw_in0 {i : Int} {Ln : Nat} (i0 : 0 ≤ i) (i1 : i + 5 ≤ (Ln : Int)) (hN : Ln ≤ 2560) : vp_in (Int32.ofInt i) Ln := wk_vin ⟨by show (-2147483648 : Int) ≤ _; omega, by show _ ≤ (2147483647 : Int); omega⟩ i0 (by omega)

theorem lw_10 {Z : sm_Z} (hZ : Z.2.2.2 = tb_N) {μ : sm_M} (gm : ab_mu rG μ) (hC : CI (wk_of μ).1) (hX : oX (wk_of μ).1) (ad : Nat → Nat) (x0 x1 x2 x3 : Int32) : sm_C tb_cl Z (tb_ys 10) (tb_ws 10) (dp_rm 4 (32 * 4) ev_s2 ev_s2) [.ref 0, .int x0, .int x1, .int x2, .int x3] ad ev_s2 μ (fun r sh' μ' => (∃ v : Int32, r = some (.int v) ∧ CI (wk_of μ').1 ∧ ((v.toInt = -1 ∧ (wk_of μ') = (wk_of μ) ∧ ((wk_of μ).1 0 (7 : Nat) = 1 ∨ 32 ≤ (wk_of μ).1 1 (4 : Nat) ∨ ¬ okA x0.toInt x1.toInt x2.toInt x3.toInt)) ∨ (v.toInt = (wk_of μ).1 1 (4 : Nat) ∧ (wk_of μ') = wk_u (wk_u (wk_u (wk_u (wk_u (wk_of μ) 2 ((wk_of μ).1 1 (4 : Nat)) x0.toInt) 3 ((wk_of μ).1 1 (4 : Nat)) x1.toInt) 4 ((wk_of μ).1 1 (4 : Nat)) x2.toInt) 5 ((wk_of μ).1 1 (4 : Nat)) x3.toInt) 1 (4 : Nat) ((wk_of μ).1 1 (4 : Nat) + 1) ∧ ¬ (wk_of μ).1 0 (7 : Nat) = 1 ∧ (wk_of μ).1 1 (4 : Nat) < 32 ∧ okA x0.toInt x1.toInt x2.toInt x3.toInt))) ∧ sh' = ev_s2 ∧ ab_mu rG μ' ∧ wk_fr [1, 2, 3, 4, 5] (wk_of μ') (wk_of μ)) := by
  refine sm_C.imp (lw_i (k10 hZ _ x0.toInt x1.toInt x2.toInt x3.toInt hC) rfl gm (As := [.inr (.inl 0), .inl x0.toInt, .inl x1.toInt, .inl x2.toInt, .inl x3.toInt]) ⟨trivial, ⟨ab_min x0, ab_max x0⟩, ⟨ab_min x1, ab_max x1⟩, ⟨ab_min x2, ab_max x2⟩, ⟨ab_min x3, ab_max x3⟩, trivial⟩ (ad := ad) (by show [Value.ref 0, .int (Int32.ofInt x0.toInt), .int (Int32.ofInt x1.toInt), .int (Int32.ofInt x2.toInt), .int (Int32.ofInt x3.toInt)] = _; rw [wk_io x0, wk_io x1, wk_io x2, wk_io x3])) (fun r sh' μ' q => ?_)
  obtain ⟨⟨v, q0, q1⟩, q2, q3, hf⟩ := q
  exact ⟨⟨v, q0, q1⟩, q2, q3, hf⟩
theorem lw_19 {Z : sm_Z} (hZ : Z.2.2.2 = tb_N) {μ : sm_M} (gm : ab_mu rG μ) (hC : CI (wk_of μ).1) (hX : oX (wk_of μ).1) (ad : Nat → Nat)  : sm_C tb_cl Z (tb_ys 19) (tb_ws 19) (dp_rm 3 (32 * 3) ev_s2 ev_s2) [.ref 0] ad ev_s2 μ (fun r sh' μ' => (r = none ∧ CI (wk_of μ').1 ∧ (wk_of μ').1 1 (4 : Nat) = 0 ∧ (wk_of μ').1 0 (7 : Nat) = 0) ∧ sh' = ev_s2 ∧ ab_mu rG μ' ∧ wk_fr [0, 1, 28, 29, 32, 44] (wk_of μ') (wk_of μ)) := by
  refine sm_C.imp (lw_n (k19 hZ _ ) rfl gm (As := [.inr (.inl 0)]) ⟨trivial, trivial⟩ (ad := ad) (rfl)) (fun r sh' μ' q => ?_)
  obtain ⟨⟨r', q0, e6, q1⟩, q2, q3, hf⟩ := q
  subst e6
  exact ⟨⟨q0, q1⟩, q2, q3, hf⟩
theorem lw_25 {Z : sm_Z} (hZ : Z.2.2.2 = tb_N) {μ : sm_M} (gm : ab_mu rG μ) (hC : CI (wk_of μ).1) (hX : oX (wk_of μ).1) (ad : Nat → Nat)  : sm_C tb_cl Z (tb_ys 25) (tb_ws 25) (dp_rm 6 (32 * 6) ev_s2 ev_s2) [.ref 0] ad ev_s2 μ (fun r sh' μ' => (∃ v : Int32, r = some (.int v) ∧ CI (wk_of μ').1 ∧ (wk_of μ').1 1 (4 : Nat) = (wk_of μ).1 1 (4 : Nat) ∧ (((wk_of μ).1 0 (7 : Nat) = 1 ∧ v.toInt = -2 ∧ (wk_of μ') = (wk_of μ)) ∨ (¬ (wk_of μ).1 0 (7 : Nat) = 1 ∧ ∃ u, lyC ((wk_of μ).1 2) ((wk_of μ).1 1 (4 : Nat)) u ∧ ((u = -1 ∧ v.toInt = 0 ∧ (wk_of μ').1 0 (7 : Nat) = 1 ∧ sZ (lyI ((wk_of μ).1 2) ((wk_of μ).1 1 (4 : Nat)).toNat) ((wk_of μ).1 1 (4 : Nat)) ((wk_of μ').1 1 (11 : Nat)) ((wk_of μ').1 6) ((wk_of μ').1 7) ((wk_of μ').1 8) ((wk_of μ').1 9) ((wk_of μ').1 10) ((wk_of μ').1 11)) ∨ (¬ u = -1 ∧ v.toInt = -3 - u ∧ (wk_of μ').1 0 (7 : Nat) = (wk_of μ).1 0 (7 : Nat)))))) ∧ sh' = ev_s2 ∧ ab_mu rG μ' ∧ wk_fr [0, 1, 6, 7, 8, 9, 10, 11, 12, 14, 15, 16, 17, 18, 20, 21, 22, 23, 24, 25, 26, 27, 43] (wk_of μ') (wk_of μ)) := by
  refine sm_C.imp (lw_i (k25 hZ _ hC) rfl gm (As := [.inr (.inl 0)]) ⟨trivial, trivial⟩ (ad := ad) (rfl)) (fun r sh' μ' q => ?_)
  obtain ⟨⟨v, q0, q1⟩, q2, q3, hf⟩ := q
  exact ⟨⟨v, q0, q1⟩, q2, q3, hf⟩
theorem lw_80 {Z : sm_Z} (hZ : Z.2.2.2 = tb_N) {μ : sm_M} (gm : ab_mu rG μ) (hC : CI (wk_of μ).1) (hX : oX (wk_of μ).1) (ad : Nat → Nat) (x0 : Int32) : sm_C tb_cl Z (tb_ys 80) (tb_ws 80) (dp_rm 2 (32 * 2) ev_s2 ev_s2) [.ref 0, .int x0] ad ev_s2 μ (fun r sh' μ' => (∃ v : Int32, r = some (.int v) ∧ ((v.toInt = 1 ∧ 1 ≤ x0.toInt ∧ x0.toInt ≤ 5 ∧ (wk_of μ').1 38 (0 : Nat) = x0.toInt ∧ (oA (wk_of μ').1 ∧ ∀ p q, 0 ≤ p → p < x0.toInt → 0 ≤ q → q ≤ 4 → (oB (wk_of μ').1 p q ↔ p = q)) ∧ ∀ k, 0 ≤ k → k ≤ 3 → (wk_of μ').1 40 k = 0 ∧ (wk_of μ').1 41 k = 0) ∨ (v.toInt = 0 ∧ (x0.toInt < 1 ∨ 5 < x0.toInt) ∧ (wk_of μ').1 38 (0 : Nat) = (wk_of μ).1 38 (0 : Nat) ∧ (wk_of μ') = (wk_of μ)))) ∧ sh' = ev_s2 ∧ ab_mu rG μ' ∧ wk_fr [38, 39, 40, 41] (wk_of μ') (wk_of μ)) := by
  refine sm_C.imp (lw_i (k80 hZ _ x0.toInt ) rfl gm (As := [.inr (.inl 0), .inl x0.toInt]) ⟨trivial, ⟨ab_min x0, ab_max x0⟩, trivial⟩ (ad := ad) (by show [Value.ref 0, .int (Int32.ofInt x0.toInt)] = _; rw [wk_io x0])) (fun r sh' μ' q => ?_)
  obtain ⟨⟨v, q0, q1⟩, q2, q3, hf⟩ := q
  exact ⟨⟨v, q0, q1⟩, q2, q3, hf⟩
theorem lw_82 {Z : sm_Z} (hZ : Z.2.2.2 = tb_N) {μ : sm_M} (gm : ab_mu rG μ) (hC : CI (wk_of μ).1) (hX : oX (wk_of μ).1) (ad : Nat → Nat) (x0 x1 : Int32) : sm_C tb_cl Z (tb_ys 82) (tb_ws 82) (dp_rm 4 (32 * 4) ev_s2 ev_s2) [.ref 0, .int x0, .int x1] ad ev_s2 μ (fun r sh' μ' => (∃ v : Int32, r = some (.int v) ∧ ((v.toInt = 1 ∧ 0 ≤ x0.toInt ∧ x0.toInt < (wk_of μ).1 38 (0 : Nat) ∧ 0 ≤ x1.toInt ∧ x1.toInt < (wk_of μ).1 38 (0 : Nat) ∧ oA (wk_of μ').1 ∧ ∀ p q, 0 ≤ p → p < (wk_of μ).1 38 (0 : Nat) → 0 ≤ q → q ≤ 4 → (oB (wk_of μ').1 p q ↔ oN (wk_of μ).1 x0.toInt x1.toInt p q)) ∨ (v.toInt = 0 ∧ (x0.toInt < 0 ∨ (wk_of μ).1 38 (0 : Nat) ≤ x0.toInt ∨ x1.toInt < 0 ∨ (wk_of μ).1 38 (0 : Nat) ≤ x1.toInt) ∧ (wk_of μ') = (wk_of μ)))) ∧ sh' = ev_s2 ∧ ab_mu rG μ' ∧ wk_fr [39] (wk_of μ') (wk_of μ)) := by
  refine sm_C.imp (lw_i (k82 hZ _ x0.toInt x1.toInt hX.1) rfl gm (As := [.inr (.inl 0), .inl x0.toInt, .inl x1.toInt]) ⟨trivial, ⟨ab_min x0, ab_max x0⟩, ⟨ab_min x1, ab_max x1⟩, trivial⟩ (ad := ad) (by show [Value.ref 0, .int (Int32.ofInt x0.toInt), .int (Int32.ofInt x1.toInt)] = _; rw [wk_io x0, wk_io x1])) (fun r sh' μ' q => ?_)
  obtain ⟨⟨v, q0, q1⟩, q2, q3, hf⟩ := q
  exact ⟨⟨v, q0, q1⟩, q2, q3, hf⟩
theorem lw_86 {Z : sm_Z} (hZ : Z.2.2.2 = tb_N) {μ : sm_M} (gm : ab_mu rG μ) (hC : CI (wk_of μ).1) (hX : oX (wk_of μ).1) (ad : Nat → Nat) (x0 x1 x2 : Int32) : sm_C tb_cl Z (tb_ys 86) (tb_ws 86) (dp_rm 2 (32 * 2) ev_s2 ev_s2) [.ref 0, .int x0, .int x1, .int x2] ad ev_s2 μ (fun r sh' μ' => (∃ v : Int32, r = some (.int v) ∧ ((v.toInt = 1 ∧ 0 ≤ x1.toInt ∧ x1.toInt ≤ 3 ∧ 0 ≤ x2.toInt ∧ x2.toInt < (wk_of μ).1 38 (0 : Nat) ∧ ((¬ x0.toInt = 0 ∧ (wk_of μ') = wk_u (wk_of μ) 41 x1.toInt x2.toInt) ∨ (x0.toInt = 0 ∧ (wk_of μ') = wk_u (wk_of μ) 40 x1.toInt x2.toInt))) ∨ (v.toInt = 0 ∧ (x1.toInt < 0 ∨ 3 < x1.toInt ∨ x2.toInt < 0 ∨ (wk_of μ).1 38 (0 : Nat) ≤ x2.toInt) ∧ (wk_of μ') = (wk_of μ)))) ∧ sh' = ev_s2 ∧ ab_mu rG μ' ∧ wk_fr [40, 41] (wk_of μ') (wk_of μ)) := by
  refine sm_C.imp (lw_i (k86 hZ _ x0.toInt x1.toInt x2.toInt ) rfl gm (As := [.inr (.inl 0), .inl x0.toInt, .inl x1.toInt, .inl x2.toInt]) ⟨trivial, ⟨ab_min x0, ab_max x0⟩, ⟨ab_min x1, ab_max x1⟩, ⟨ab_min x2, ab_max x2⟩, trivial⟩ (ad := ad) (by show [Value.ref 0, .int (Int32.ofInt x0.toInt), .int (Int32.ofInt x1.toInt), .int (Int32.ofInt x2.toInt)] = _; rw [wk_io x0, wk_io x1, wk_io x2])) (fun r sh' μ' q => ?_)
  obtain ⟨⟨v, q0, q1⟩, q2, q3, hf⟩ := q
  exact ⟨⟨v, q0, q1⟩, q2, q3, hf⟩
theorem lw_88 {Z : sm_Z} (hZ : Z.2.2.2 = tb_N) {μ : sm_M} (gm : ab_mu rG μ) (hC : CI (wk_of μ).1) (hX : oX (wk_of μ).1) (ad : Nat → Nat)  : sm_C tb_cl Z (tb_ys 88) (tb_ws 88) (dp_rm 5 (32 * 5) ev_s2 ev_s2) [.ref 0] ad ev_s2 μ (fun r sh' μ' => (∃ v : Int32, r = some (.int v) ∧ (0 ≤ v.toInt ∧ v.toInt ≤ 3) ∧ ltA ((wk_of μ).1 38 (0 : Nat)) (oB (wk_of μ).1) v.toInt) ∧ sh' = ev_s2 ∧ ab_mu rG μ' ∧ wk_fr [] (wk_of μ') (wk_of μ)) := by
  refine sm_C.imp (lw_i (k88 hZ _ hX.1 hX.2.2.1) rfl gm (As := [.inr (.inl 0)]) ⟨trivial, trivial⟩ (ad := ad) (rfl)) (fun r sh' μ' q => ?_)
  obtain ⟨⟨v, q0, q1⟩, q2, q3, hf⟩ := q
  exact ⟨⟨v, q0, q1.2⟩, q2, q3, hf⟩
theorem lw_94 {Z : sm_Z} (hZ : Z.2.2.2 = tb_N) {μ : sm_M} (gm : ab_mu rG μ) (hC : CI (wk_of μ).1) (hX : oX (wk_of μ).1) (ad : Nat → Nat) (x0 x1 : Int32) : sm_C tb_cl Z (tb_ys 94) (tb_ws 94) (dp_rm 3 (32 * 3) ev_s2 ev_s2) [.ref 0, .int x0, .int x1] ad ev_s2 μ (fun r sh' μ' => (∃ v : Int32, r = some (.int v) ∧ True) ∧ sh' = ev_s2 ∧ ab_mu rG μ' ∧ wk_fr [] (wk_of μ') (wk_of μ)) := by
  refine sm_C.imp (lw_i (k94 hZ _ x0.toInt x1.toInt ) rfl gm (As := [.inr (.inl 0), .inl x0.toInt, .inl x1.toInt]) ⟨trivial, ⟨ab_min x0, ab_max x0⟩, ⟨ab_min x1, ab_max x1⟩, trivial⟩ (ad := ad) (by show [Value.ref 0, .int (Int32.ofInt x0.toInt), .int (Int32.ofInt x1.toInt)] = _; rw [wk_io x0, wk_io x1])) (fun r sh' μ' q => ?_)
  obtain ⟨⟨v, q0, q1⟩, q2, q3, hf⟩ := q
  exact ⟨⟨v, q0, trivial⟩, q2, q3, hf⟩
theorem lw_96 {Z : sm_Z} (hZ : Z.2.2.2 = tb_N) {μ : sm_M} (gm : ab_mu rG μ) (hC : CI (wk_of μ).1) (hX : oX (wk_of μ).1) (ad : Nat → Nat) (x0 x1 x2 : Int32) : sm_C tb_cl Z (tb_ys 96) (tb_ws 96) (dp_rm 3 (32 * 3) ev_s2 ev_s2) [.ref 0, .int x0, .int x1, .int x2] ad ev_s2 μ (fun r sh' μ' => (∃ v : Int32, r = some (.int v) ∧ True) ∧ sh' = ev_s2 ∧ ab_mu rG μ' ∧ wk_fr [] (wk_of μ') (wk_of μ)) := by
  refine sm_C.imp (lw_i (k96 hZ _ x0.toInt x1.toInt x2.toInt ) rfl gm (As := [.inr (.inl 0), .inl x0.toInt, .inl x1.toInt, .inl x2.toInt]) ⟨trivial, ⟨ab_min x0, ab_max x0⟩, ⟨ab_min x1, ab_max x1⟩, ⟨ab_min x2, ab_max x2⟩, trivial⟩ (ad := ad) (by show [Value.ref 0, .int (Int32.ofInt x0.toInt), .int (Int32.ofInt x1.toInt), .int (Int32.ofInt x2.toInt)] = _; rw [wk_io x0, wk_io x1, wk_io x2])) (fun r sh' μ' q => ?_)
  obtain ⟨⟨v, q0, q1⟩, q2, q3, hf⟩ := q
  exact ⟨⟨v, q0, trivial⟩, q2, q3, hf⟩
theorem lw_97 {Z : sm_Z} (hZ : Z.2.2.2 = tb_N) {μ : sm_M} (gm : ab_mu rG μ) (hC : CI (wk_of μ).1) (hX : oX (wk_of μ).1) (ad : Nat → Nat) (x0 x1 : Int32) (b0 : 0 ≤ x1.toInt) (b1 : x1.toInt ≤ 1) : sm_C tb_cl Z (tb_ys 97) (tb_ws 97) (dp_rm 5 (32 * 5) ev_s2 ev_s2) [.ref 0, .int x0, .int x1] ad ev_s2 μ (fun r sh' μ' => (∃ v : Int32, r = some (.int v) ∧ CI (wk_of μ').1) ∧ sh' = ev_s2 ∧ ab_mu rG μ' ∧ wk_fr [25, 26, 27, 28, 29, 32, 44, 45] (wk_of μ') (wk_of μ)) := by
  refine sm_C.imp (lw_i (k97 hZ _ x0.toInt x1.toInt b0 b1 hC) rfl gm (As := [.inr (.inl 0), .inl x0.toInt, .inl x1.toInt]) ⟨trivial, ⟨ab_min x0, ab_max x0⟩, ⟨ab_min x1, ab_max x1⟩, trivial⟩ (ad := ad) (by show [Value.ref 0, .int (Int32.ofInt x0.toInt), .int (Int32.ofInt x1.toInt)] = _; rw [wk_io x0, wk_io x1])) (fun r sh' μ' q => ?_)
  obtain ⟨⟨v, q0, q1⟩, q2, q3, hf⟩ := q
  exact ⟨⟨v, q0, q1⟩, q2, q3, hf⟩
theorem lw_101 {Z : sm_Z} (hZ : Z.2.2.2 = tb_N) {μ : sm_M} (gm : ab_mu rG μ) (hC : CI (wk_of μ).1) (hX : oX (wk_of μ).1) (ad : Nat → Nat)  : sm_C tb_cl Z (tb_ys 101) (tb_ws 101) (dp_rm 7 (32 * 7) ev_s2 ev_s2) [.ref 0] ad ev_s2 μ (fun r sh' μ' => (∃ v : Int32, r = some (.int v) ∧ CI (wk_of μ').1) ∧ sh' = ev_s2 ∧ ab_mu rG μ' ∧ wk_fr [25, 26, 27, 28, 29, 32, 44, 45] (wk_of μ') (wk_of μ)) := by
  refine sm_C.imp (lw_i (k101 hZ _ hC) rfl gm (As := [.inr (.inl 0)]) ⟨trivial, trivial⟩ (ad := ad) (rfl)) (fun r sh' μ' q => ?_)
  obtain ⟨⟨v, q0, q1⟩, q2, q3, hf⟩ := q
  exact ⟨⟨v, q0, q1⟩, q2, q3, hf⟩
theorem lw_106 {Z : sm_Z} (hZ : Z.2.2.2 = tb_N) {μ : sm_M} (gm : ab_mu rG μ) (hC : CI (wk_of μ).1) (hX : oX (wk_of μ).1) (ad : Nat → Nat) (x0 : Int32) : sm_C tb_cl Z (tb_ys 106) (tb_ws 106) (dp_rm 2 (32 * 2) ev_s2 ev_s2) [.ref 0, .int x0] ad ev_s2 μ (fun r sh' μ' => (∃ v : Int32, r = some (.int v) ∧ True) ∧ sh' = ev_s2 ∧ ab_mu rG μ' ∧ wk_fr [] (wk_of μ') (wk_of μ)) := by
  refine sm_C.imp (lw_i (k106 hZ _ x0.toInt ) rfl gm (As := [.inr (.inl 0), .inl x0.toInt]) ⟨trivial, ⟨ab_min x0, ab_max x0⟩, trivial⟩ (ad := ad) (by show [Value.ref 0, .int (Int32.ofInt x0.toInt)] = _; rw [wk_io x0])) (fun r sh' μ' q => ?_)
  obtain ⟨⟨v, q0, q1⟩, q2, q3, hf⟩ := q
  exact ⟨⟨v, q0, trivial⟩, q2, q3, hf⟩
theorem lw_109 {Z : sm_Z} (hZ : Z.2.2.2 = tb_N) {μ : sm_M} (gm : ab_mu rG μ) (hC : CI (wk_of μ).1) (hX : oX (wk_of μ).1) (ad : Nat → Nat) (x0 x1 : Int32) : sm_C tb_cl Z (tb_ys 109) (tb_ws 109) (dp_rm 2 (32 * 2) ev_s2 ev_s2) [.ref 0, .int x0, .int x1] ad ev_s2 μ (fun r sh' μ' => (∃ v : Int32, r = some (.int v) ∧ ((v.toInt = 1 ∧ 0 ≤ x0.toInt ∧ x0.toInt ≤ 3) ∨ (v.toInt = 0 ∧ (x0.toInt < 0 ∨ 3 < x0.toInt)))) ∧ sh' = ev_s2 ∧ ab_mu rG μ' ∧ wk_fr [33] (wk_of μ') (wk_of μ)) := by
  refine sm_C.imp (lw_i (k109 hZ _ x0.toInt x1.toInt ) rfl gm (As := [.inr (.inl 0), .inl x0.toInt, .inl x1.toInt]) ⟨trivial, ⟨ab_min x0, ab_max x0⟩, ⟨ab_min x1, ab_max x1⟩, trivial⟩ (ad := ad) (by show [Value.ref 0, .int (Int32.ofInt x0.toInt), .int (Int32.ofInt x1.toInt)] = _; rw [wk_io x0, wk_io x1])) (fun r sh' μ' q => ?_)
  obtain ⟨⟨v, q0, q1⟩, q2, q3, hf⟩ := q
  exact ⟨⟨v, q0, q1⟩, q2, q3, hf⟩
theorem lw_111 {Z : sm_Z} (hZ : Z.2.2.2 = tb_N) {μ : sm_M} (gm : ab_mu rG μ) (hC : CI (wk_of μ).1) (hX : oX (wk_of μ).1) (ad : Nat → Nat) (x0 x1 : Int32) : sm_C tb_cl Z (tb_ys 111) (tb_ws 111) (dp_rm 7 (32 * 7) ev_s2 ev_s2) [.ref 0, .int x0, .int x1] ad ev_s2 μ (fun r sh' μ' => (∃ v : Int32, r = some (.int v) ∧ True) ∧ sh' = ev_s2 ∧ ab_mu rG μ' ∧ wk_fr [28, 29, 30, 31, 32, 34, 35, 36, 37] (wk_of μ') (wk_of μ)) := by
  refine sm_C.imp (lw_i (wk_t1 (k111 hZ _ x0.toInt x1.toInt hC)) rfl gm (As := [.inr (.inl 0), .inl x0.toInt, .inl x1.toInt]) ⟨trivial, ⟨ab_min x0, ab_max x0⟩, ⟨ab_min x1, ab_max x1⟩, trivial⟩ (ad := ad) (by show [Value.ref 0, .int (Int32.ofInt x0.toInt), .int (Int32.ofInt x1.toInt)] = _; rw [wk_io x0, wk_io x1])) (fun r sh' μ' q => ?_)
  obtain ⟨⟨v, q0, q1⟩, q2, q3, hf⟩ := q
  exact ⟨⟨v, q0, trivial⟩, q2, q3, hf⟩
theorem lw_128 {Z : sm_Z} (hZ : Z.2.2.2 = tb_N) {μ : sm_M} (gm : ab_mu rG μ) (hC : CI (wk_of μ).1) (hX : oX (wk_of μ).1) (ad : Nat → Nat)  : sm_C tb_cl Z (tb_ys 128) (tb_ws 128) (dp_rm 2 (32 * 2) ev_s2 ev_s2) [.ref 0] ad ev_s2 μ (fun r sh' μ' => (∃ v : Int32, r = some (.int v) ∧ True) ∧ sh' = ev_s2 ∧ ab_mu rG μ' ∧ wk_fr [] (wk_of μ') (wk_of μ)) := by
  refine sm_C.imp (lw_i (k128 hZ _ ) rfl gm (As := [.inr (.inl 0)]) ⟨trivial, trivial⟩ (ad := ad) (rfl)) (fun r sh' μ' q => ?_)
  obtain ⟨⟨v, q0, q1⟩, q2, q3, hf⟩ := q
  exact ⟨⟨v, q0, trivial⟩, q2, q3, hf⟩
theorem lw_130 {Z : sm_Z} (hZ : Z.2.2.2 = tb_N) {μ : sm_M} (gm : ab_mu rG μ) (hC : CI (wk_of μ).1) (hX : oX (wk_of μ).1) (ad : Nat → Nat) (x0 : Int32) : sm_C tb_cl Z (tb_ys 130) (tb_ws 130) (dp_rm 2 (32 * 2) ev_s2 ev_s2) [.ref 0, .int x0] ad ev_s2 μ (fun r sh' μ' => (∃ v : Int32, r = some (.int v) ∧ True) ∧ sh' = ev_s2 ∧ ab_mu rG μ' ∧ wk_fr [] (wk_of μ') (wk_of μ)) := by
  refine sm_C.imp (lw_i (k130 hZ _ x0.toInt ) rfl gm (As := [.inr (.inl 0), .inl x0.toInt]) ⟨trivial, ⟨ab_min x0, ab_max x0⟩, trivial⟩ (ad := ad) (by show [Value.ref 0, .int (Int32.ofInt x0.toInt)] = _; rw [wk_io x0])) (fun r sh' μ' q => ?_)
  obtain ⟨⟨v, q0, q1⟩, q2, q3, hf⟩ := q
  exact ⟨⟨v, q0, trivial⟩, q2, q3, hf⟩
theorem lw_132 {Z : sm_Z} (hZ : Z.2.2.2 = tb_N) {μ : sm_M} (gm : ab_mu rG μ) (hC : CI (wk_of μ).1) (hX : oX (wk_of μ).1) (ad : Nat → Nat) (x0 x1 : Int32) : sm_C tb_cl Z (tb_ys 132) (tb_ws 132) (dp_rm 2 (32 * 2) ev_s2 ev_s2) [.ref 0, .int x0, .int x1] ad ev_s2 μ (fun r sh' μ' => (∃ v : Int32, r = some (.int v) ∧ True) ∧ sh' = ev_s2 ∧ ab_mu rG μ' ∧ wk_fr [] (wk_of μ') (wk_of μ)) := by
  refine sm_C.imp (lw_i (k132 hZ _ x0.toInt x1.toInt ) rfl gm (As := [.inr (.inl 0), .inl x0.toInt, .inl x1.toInt]) ⟨trivial, ⟨ab_min x0, ab_max x0⟩, ⟨ab_min x1, ab_max x1⟩, trivial⟩ (ad := ad) (by show [Value.ref 0, .int (Int32.ofInt x0.toInt), .int (Int32.ofInt x1.toInt)] = _; rw [wk_io x0, wk_io x1])) (fun r sh' μ' q => ?_)
  obtain ⟨⟨v, q0, q1⟩, q2, q3, hf⟩ := q
  exact ⟨⟨v, q0, trivial⟩, q2, q3, hf⟩
theorem lw_134 {Z : sm_Z} (hZ : Z.2.2.2 = tb_N) {μ : sm_M} (gm : ab_mu rG μ) (hC : CI (wk_of μ).1) (hX : oX (wk_of μ).1) (ad : Nat → Nat)  : sm_C tb_cl Z (tb_ys 134) (tb_ws 134) (dp_rm 6 (32 * 6) ev_s2 ev_s2) [.ref 0] ad ev_s2 μ (fun r sh' μ' => (∃ v : Int32, r = some (.int v) ∧ True) ∧ sh' = ev_s2 ∧ ab_mu rG μ' ∧ wk_fr [] (wk_of μ') (wk_of μ)) := by
  refine sm_C.imp (lw_i (k134 hZ _ hC) rfl gm (As := [.inr (.inl 0)]) ⟨trivial, trivial⟩ (ad := ad) (rfl)) (fun r sh' μ' q => ?_)
  obtain ⟨⟨v, q0, q1⟩, q2, q3, hf⟩ := q
  exact ⟨⟨v, q0, trivial⟩, q2, q3, hf⟩
theorem lw_140 {Z : sm_Z} (hZ : Z.2.2.2 = tb_N) {μ : sm_M} (gm : ab_mu rG μ) (hC : CI (wk_of μ).1) (hX : oX (wk_of μ).1) (ad : Nat → Nat) (x0 : Int32) : sm_C tb_cl Z (tb_ys 140) (tb_ws 140) (dp_rm 6 (32 * 6) ev_s2 ev_s2) [.ref 0, .int x0] ad ev_s2 μ (fun r sh' μ' => (∃ v : Int32, r = some (.int v) ∧ True) ∧ sh' = ev_s2 ∧ ab_mu rG μ' ∧ wk_fr [] (wk_of μ') (wk_of μ)) := by
  refine sm_C.imp (lw_i (k140 hZ _ x0.toInt hC) rfl gm (As := [.inr (.inl 0), .inl x0.toInt]) ⟨trivial, ⟨ab_min x0, ab_max x0⟩, trivial⟩ (ad := ad) (by show [Value.ref 0, .int (Int32.ofInt x0.toInt)] = _; rw [wk_io x0])) (fun r sh' μ' q => ?_)
  obtain ⟨⟨v, q0, q1⟩, q2, q3, hf⟩ := q
  exact ⟨⟨v, q0, trivial⟩, q2, q3, hf⟩
theorem lw_143 {Z : sm_Z} (hZ : Z.2.2.2 = tb_N) {μ : sm_M} (gm : ab_mu rG μ) (hR : RI (wk_of μ).1) (ad : Nat → Nat) (x0 x1 x2 x3 : Int32) : sm_C tb_cl Z (tb_ys 143) (tb_ws 143) (dp_rm 2 (32 * 2) ev_s2 ev_s2) [.ref 46, .int x0, .int x1, .int x2, .int x3] ad ev_s2 μ (fun r sh' μ' => (∃ v : Int32, r = some (.int v) ∧ RI (wk_of μ').1 ∧ (wk_of μ').1 46 (34 : Nat) = (wk_of μ).1 46 (34 : Nat) ∧ ((v.toInt = -1 ∧ (wk_of μ') = (wk_of μ) ∧ ((wk_of μ).1 46 (5 : Nat) = 1 ∨ 32 ≤ (wk_of μ).1 46 (0 : Nat) ∨ ¬ okA x0.toInt x1.toInt x2.toInt x3.toInt)) ∨ (v.toInt = (wk_of μ).1 46 (0 : Nat) ∧ (wk_of μ') = wk_u (wk_u (wk_u (wk_u (wk_u (wk_of μ) 47 ((wk_of μ).1 46 (0 : Nat)) x0.toInt) 48 ((wk_of μ).1 46 (0 : Nat)) x1.toInt) 49 ((wk_of μ).1 46 (0 : Nat)) x2.toInt) 50 ((wk_of μ).1 46 (0 : Nat)) x3.toInt) 46 (0 : Nat) ((wk_of μ).1 46 (0 : Nat) + 1) ∧ ¬ (wk_of μ).1 46 (5 : Nat) = 1 ∧ (wk_of μ).1 46 (0 : Nat) < 32 ∧ okA x0.toInt x1.toInt x2.toInt x3.toInt))) ∧ sh' = ev_s2 ∧ ab_mu rG μ' ∧ wk_fr [46, 47, 48, 49, 50] (wk_of μ') (wk_of μ)) := by
  refine sm_C.imp (lw_i (k143 hZ _ x0.toInt x1.toInt x2.toInt x3.toInt hR) rfl gm (As := [.inr (.inl 46), .inl x0.toInt, .inl x1.toInt, .inl x2.toInt, .inl x3.toInt]) ⟨trivial, ⟨ab_min x0, ab_max x0⟩, ⟨ab_min x1, ab_max x1⟩, ⟨ab_min x2, ab_max x2⟩, ⟨ab_min x3, ab_max x3⟩, trivial⟩ (ad := ad) (by show [Value.ref 46, .int (Int32.ofInt x0.toInt), .int (Int32.ofInt x1.toInt), .int (Int32.ofInt x2.toInt), .int (Int32.ofInt x3.toInt)] = _; rw [wk_io x0, wk_io x1, wk_io x2, wk_io x3])) (fun r sh' μ' q => ?_)
  obtain ⟨⟨v, q0, q1⟩, q2, q3, hf⟩ := q
  exact ⟨⟨v, q0, q1⟩, q2, q3, hf⟩
theorem lw_145 {Z : sm_Z} (hZ : Z.2.2.2 = tb_N) {μ : sm_M} (gm : ab_mu rG μ) (hR : RI (wk_of μ).1) (ad : Nat → Nat)  : sm_C tb_cl Z (tb_ys 145) (tb_ws 145) (dp_rm 1 (32 * 1) ev_s2 ev_s2) [.ref 46] ad ev_s2 μ (fun r sh' μ' => (r = none ∧ RI (wk_of μ').1 ∧ (wk_of μ').1 46 (34 : Nat) = (wk_of μ).1 46 (34 : Nat) ∧ (wk_of μ').1 46 (0 : Nat) = 0 ∧ (wk_of μ').1 46 (5 : Nat) = 0) ∧ sh' = ev_s2 ∧ ab_mu rG μ' ∧ wk_fr [46] (wk_of μ') (wk_of μ)) := by
  refine sm_C.imp (lw_n (k145 hZ _ ) rfl gm (As := [.inr (.inl 46)]) ⟨trivial, trivial⟩ (ad := ad) (rfl)) (fun r sh' μ' q => ?_)
  obtain ⟨⟨r', q0, e6, q1⟩, q2, q3, hf⟩ := q
  subst e6
  exact ⟨⟨q0, q1⟩, q2, q3, hf⟩
theorem lw_146 {Z : sm_Z} (hZ : Z.2.2.2 = tb_N) {μ : sm_M} (gm : ab_mu rG μ) (hR : RI (wk_of μ).1) {op : Int → Int} (ho : ∀ j, 0 ≤ j → j < (wk_of μ).1 46 (0 : Nat) → op j = (wk_of μ).1 47 j) (ad : Nat → Nat)  : sm_C tb_cl Z (tb_ys 146) (tb_ws 146) (dp_rm 8 (32 * 8) ev_s2 ev_s2) [.ref 46] ad ev_s2 μ (fun r sh' μ' => (∃ v : Int32, r = some (.int v) ∧ RI (wk_of μ').1 ∧ (wk_of μ').1 46 (34 : Nat) = (wk_of μ).1 46 (34 : Nat) ∧ (wk_of μ').1 46 (0 : Nat) = (wk_of μ).1 46 (0 : Nat) ∧ (((wk_of μ).1 46 (5 : Nat) = 1 ∧ v.toInt = -2 ∧ (wk_of μ') = (wk_of μ)) ∨ (¬ (wk_of μ).1 46 (5 : Nat) = 1 ∧ ∃ u, lyC op ((wk_of μ).1 46 (0 : Nat)) u ∧ ((u = -1 ∧ v.toInt = 0 ∧ (wk_of μ').1 46 (5 : Nat) = 1 ∧ sZ (lyI op ((wk_of μ).1 46 (0 : Nat)).toNat) ((wk_of μ).1 46 (0 : Nat)) ((wk_of μ').1 46 (6 : Nat)) ((wk_of μ').1 54) ((wk_of μ').1 55) ((wk_of μ').1 56) ((wk_of μ').1 53) ((wk_of μ').1 51) ((wk_of μ').1 52)) ∨ (¬ u = -1 ∧ v.toInt = -3 - u ∧ (wk_of μ').1 46 (5 : Nat) = (wk_of μ).1 46 (5 : Nat)))))) ∧ sh' = ev_s2 ∧ ab_mu rG μ' ∧ wk_fr [46, 51, 52, 53, 54, 55, 56, 57, 58, 59, 60, 61, 62, 63] (wk_of μ') (wk_of μ)) := by
  refine sm_C.imp (lw_i (k146 hZ _ hR op ho) rfl gm (As := [.inr (.inl 46)]) ⟨trivial, trivial⟩ (ad := ad) (rfl)) (fun r sh' μ' q => ?_)
  obtain ⟨⟨v, q0, q1⟩, q2, q3, hf⟩ := q
  exact ⟨⟨v, q0, q1⟩, q2, q3, hf⟩
theorem lw_195 {Z : sm_Z} (hZ : Z.2.2.2 = tb_N) {μ : sm_M} (gm : ab_mu rG μ) (hR : RI (wk_of μ).1) (ad : Nat → Nat) (x0 : Int32) : sm_C tb_cl Z (tb_ys 195) (tb_ws 195) (dp_rm 1 (32 * 1) ev_s2 ev_s2) [.ref 46, .int x0] ad ev_s2 μ (fun r sh' μ' => (∃ v : Int32, r = some (.int v) ∧ ((v.toInt = 1 ∧ 1 ≤ x0.toInt ∧ x0.toInt ≤ 5 ∧ (wk_of μ').1 46 (34 : Nat) = x0.toInt ∧ (∀ p q, 0 ≤ p → p ≤ 4 → 0 ≤ q → q ≤ 4 → (rB (wk_of μ').1 p q ↔ p = q)) ∧ lZ (wk_of μ').1 4) ∨ (v.toInt = 0 ∧ (x0.toInt < 1 ∨ 5 < x0.toInt) ∧ (wk_of μ').1 46 (34 : Nat) = (wk_of μ).1 46 (34 : Nat) ∧ (wk_of μ') = (wk_of μ))) ∧ ((wk_of μ').1 46 (0 : Nat) = (wk_of μ).1 46 (0 : Nat) ∧ (wk_of μ').1 46 (5 : Nat) = (wk_of μ).1 46 (5 : Nat) ∧ (wk_of μ').1 46 (6 : Nat) = (wk_of μ).1 46 (6 : Nat))) ∧ sh' = ev_s2 ∧ ab_mu rG μ' ∧ wk_fr [46, 72, 73, 74] (wk_of μ') (wk_of μ)) := by
  refine sm_C.imp (lw_i (k195 hZ _ x0.toInt ) rfl gm (As := [.inr (.inl 46), .inl x0.toInt]) ⟨trivial, ⟨ab_min x0, ab_max x0⟩, trivial⟩ (ad := ad) (by show [Value.ref 46, .int (Int32.ofInt x0.toInt)] = _; rw [wk_io x0])) (fun r sh' μ' q => ?_)
  obtain ⟨⟨v, q0, q1⟩, q2, q3, hf⟩ := q
  exact ⟨⟨v, q0, q1⟩, q2, q3, hf⟩
theorem lw_196 {Z : sm_Z} (hZ : Z.2.2.2 = tb_N) {μ : sm_M} (gm : ab_mu rG μ) (hR : RI (wk_of μ).1) (hRf : rRf ((wk_of μ).1 46 (34 : Nat)) (rB (wk_of μ).1)) (hTr : rTr ((wk_of μ).1 46 (34 : Nat)) (rB (wk_of μ).1)) (ad : Nat → Nat) (x0 x1 : Int32) : sm_C tb_cl Z (tb_ys 196) (tb_ws 196) (dp_rm 2 (32 * 2) ev_s2 ev_s2) [.ref 46, .int x0, .int x1] ad ev_s2 μ (fun r sh' μ' => (∃ v : Int32, r = some (.int v) ∧ ((v.toInt = 1 ∧ 0 ≤ x0.toInt ∧ x0.toInt < (wk_of μ).1 46 (34 : Nat) ∧ 0 ≤ x1.toInt ∧ x1.toInt < (wk_of μ).1 46 (34 : Nat) ∧ ∀ p q, 0 ≤ p → p < (wk_of μ).1 46 (34 : Nat) → 0 ≤ q → q < (wk_of μ).1 46 (34 : Nat) → (rB (wk_of μ').1 p q ↔ rN (rB (wk_of μ).1) x0.toInt x1.toInt p q)) ∨ (v.toInt = 0 ∧ (x0.toInt < 0 ∨ (wk_of μ).1 46 (34 : Nat) ≤ x0.toInt ∨ x1.toInt < 0 ∨ (wk_of μ).1 46 (34 : Nat) ≤ x1.toInt) ∧ (wk_of μ') = (wk_of μ)))) ∧ sh' = ev_s2 ∧ ab_mu rG μ' ∧ wk_fr [72] (wk_of μ') (wk_of μ)) := by
  refine sm_C.imp (lw_i (k196b hZ _ x0.toInt x1.toInt hRf hTr) rfl gm (As := [.inr (.inl 46), .inl x0.toInt, .inl x1.toInt]) ⟨trivial, ⟨ab_min x0, ab_max x0⟩, ⟨ab_min x1, ab_max x1⟩, trivial⟩ (ad := ad) (by show [Value.ref 46, .int (Int32.ofInt x0.toInt), .int (Int32.ofInt x1.toInt)] = _; rw [wk_io x0, wk_io x1])) (fun r sh' μ' q => ?_)
  obtain ⟨⟨v, q0, q1⟩, q2, q3, hf⟩ := q
  exact ⟨⟨v, q0, q1⟩, q2, q3, hf⟩
theorem lw_198 {Z : sm_Z} (hZ : Z.2.2.2 = tb_N) {μ : sm_M} (gm : ab_mu rG μ) (hR : RI (wk_of μ).1) (ad : Nat → Nat) (x0 x1 x2 : Int32) : sm_C tb_cl Z (tb_ys 198) (tb_ws 198) (dp_rm 2 (32 * 2) ev_s2 ev_s2) [.ref 46, .int x0, .int x1, .int x2] ad ev_s2 μ (fun r sh' μ' => (∃ v : Int32, r = some (.int v) ∧ ((v.toInt = 1 ∧ 0 ≤ x1.toInt ∧ x1.toInt ≤ 3 ∧ 0 ≤ x2.toInt ∧ x2.toInt < (wk_of μ).1 46 (34 : Nat) ∧ ((¬ x0.toInt = 0 ∧ (wk_of μ') = wk_u (wk_of μ) 74 x1.toInt x2.toInt) ∨ (x0.toInt = 0 ∧ (wk_of μ') = wk_u (wk_of μ) 73 x1.toInt x2.toInt))) ∨ (v.toInt = 0 ∧ (x1.toInt < 0 ∨ 3 < x1.toInt ∨ x2.toInt < 0 ∨ (wk_of μ).1 46 (34 : Nat) ≤ x2.toInt) ∧ (wk_of μ') = (wk_of μ)))) ∧ sh' = ev_s2 ∧ ab_mu rG μ' ∧ wk_fr [73, 74] (wk_of μ') (wk_of μ)) := by
  refine sm_C.imp (lw_i (k198 hZ _ x0.toInt x1.toInt x2.toInt ) rfl gm (As := [.inr (.inl 46), .inl x0.toInt, .inl x1.toInt, .inl x2.toInt]) ⟨trivial, ⟨ab_min x0, ab_max x0⟩, ⟨ab_min x1, ab_max x1⟩, ⟨ab_min x2, ab_max x2⟩, trivial⟩ (ad := ad) (by show [Value.ref 46, .int (Int32.ofInt x0.toInt), .int (Int32.ofInt x1.toInt), .int (Int32.ofInt x2.toInt)] = _; rw [wk_io x0, wk_io x1, wk_io x2])) (fun r sh' μ' q => ?_)
  obtain ⟨⟨v, q0, q1⟩, q2, q3, hf⟩ := q
  exact ⟨⟨v, q0, q1⟩, q2, q3, hf⟩
theorem lw_199 {Z : sm_Z} (hZ : Z.2.2.2 = tb_N) {μ : sm_M} (gm : ab_mu rG μ) (hR : RI (wk_of μ).1) (ad : Nat → Nat)  : sm_C tb_cl Z (tb_ys 199) (tb_ws 199) (dp_rm 3 (32 * 3) ev_s2 ev_s2) [.ref 46] ad ev_s2 μ (fun r sh' μ' => (∃ v : Int32, r = some (.int v) ∧ (0 ≤ v.toInt ∧ v.toInt ≤ 3) ∧ ltA ((wk_of μ).1 46 (34 : Nat)) (rB (wk_of μ).1) v.toInt) ∧ sh' = ev_s2 ∧ ab_mu rG μ' ∧ wk_fr [] (wk_of μ') (wk_of μ)) := by
  refine sm_C.imp (lw_i (k199x hZ _) rfl gm (As := [.inr (.inl 46)]) ⟨trivial, trivial⟩ (ad := ad) (rfl)) (fun r sh' μ' q => ?_)
  obtain ⟨⟨v, q0, q1⟩, q2, q3, hf⟩ := q
  exact ⟨⟨v, q0, ⟨q1.2.1, q1.2.2.1⟩⟩, q2, q3, hf⟩
theorem lw_175 {Z : sm_Z} (hZ : Z.2.2.2 = tb_N) {μ : sm_M} (gm : ab_mu rG μ) (hR : RI (wk_of μ).1) (ad : Nat → Nat) (x0 x1 : Int32) : sm_C tb_cl Z (tb_ys 175) (tb_ws 175) (dp_rm 7 (32 * 7) ev_s2 ev_s2) [.ref 46, .int x0, .int x1] ad ev_s2 μ (fun r sh' μ' => (∃ v : Int32, r = some (.int v) ∧ True) ∧ sh' = ev_s2 ∧ ab_mu rG μ' ∧ wk_fr [] (wk_of μ') (wk_of μ)) := by
  refine sm_C.imp (lw_i (k175 hZ _ x0.toInt x1.toInt ) rfl gm (As := [.inr (.inl 46), .inl x0.toInt, .inl x1.toInt]) ⟨trivial, ⟨ab_min x0, ab_max x0⟩, ⟨ab_min x1, ab_max x1⟩, trivial⟩ (ad := ad) (by show [Value.ref 46, .int (Int32.ofInt x0.toInt), .int (Int32.ofInt x1.toInt)] = _; rw [wk_io x0, wk_io x1])) (fun r sh' μ' q => ?_)
  obtain ⟨⟨v, q0, q1⟩, q2, q3, hf⟩ := q
  exact ⟨⟨v, q0, trivial⟩, q2, q3, hf⟩
theorem lw_176 {Z : sm_Z} (hZ : Z.2.2.2 = tb_N) {μ : sm_M} (gm : ab_mu rG μ) (hR : RI (wk_of μ).1) (ad : Nat → Nat) (x0 x1 x2 : Int32) : sm_C tb_cl Z (tb_ys 176) (tb_ws 176) (dp_rm 2 (32 * 2) ev_s2 ev_s2) [.ref 46, .int x0, .int x1, .int x2] ad ev_s2 μ (fun r sh' μ' => (∃ v : Int32, r = some (.int v) ∧ True) ∧ sh' = ev_s2 ∧ ab_mu rG μ' ∧ wk_fr [] (wk_of μ') (wk_of μ)) := by
  refine sm_C.imp (lw_i (k176 hZ _ x0.toInt x1.toInt x2.toInt ) rfl gm (As := [.inr (.inl 46), .inl x0.toInt, .inl x1.toInt, .inl x2.toInt]) ⟨trivial, ⟨ab_min x0, ab_max x0⟩, ⟨ab_min x1, ab_max x1⟩, ⟨ab_min x2, ab_max x2⟩, trivial⟩ (ad := ad) (by show [Value.ref 46, .int (Int32.ofInt x0.toInt), .int (Int32.ofInt x1.toInt), .int (Int32.ofInt x2.toInt)] = _; rw [wk_io x0, wk_io x1, wk_io x2])) (fun r sh' μ' q => ?_)
  obtain ⟨⟨v, q0, q1⟩, q2, q3, hf⟩ := q
  exact ⟨⟨v, q0, trivial⟩, q2, q3, hf⟩
theorem lw_177 {Z : sm_Z} (hZ : Z.2.2.2 = tb_N) {μ : sm_M} (gm : ab_mu rG μ) (hR : RI (wk_of μ).1) (ad : Nat → Nat) (x0 x1 : Int32) : sm_C tb_cl Z (tb_ys 177) (tb_ws 177) (dp_rm 4 (32 * 4) ev_s2 ev_s2) [.ref 46, .int x0, .int x1] ad ev_s2 μ (fun r sh' μ' => (∃ v : Int32, r = some (.int v) ∧ ((wk_of μ').1 46 (0 : Nat) = (wk_of μ).1 46 (0 : Nat) ∧ (wk_of μ').1 46 (5 : Nat) = (wk_of μ).1 46 (5 : Nat) ∧ (wk_of μ').1 46 (6 : Nat) = (wk_of μ).1 46 (6 : Nat) ∧ (wk_of μ').1 46 (34 : Nat) = (wk_of μ).1 46 (34 : Nat))) ∧ sh' = ev_s2 ∧ ab_mu rG μ' ∧ wk_fr [46, 63, 64] (wk_of μ') (wk_of μ)) := by
  refine sm_C.imp (lw_i (k177 hZ _ x0.toInt x1.toInt ) rfl gm (As := [.inr (.inl 46), .inl x0.toInt, .inl x1.toInt]) ⟨trivial, ⟨ab_min x0, ab_max x0⟩, ⟨ab_min x1, ab_max x1⟩, trivial⟩ (ad := ad) (by show [Value.ref 46, .int (Int32.ofInt x0.toInt), .int (Int32.ofInt x1.toInt)] = _; rw [wk_io x0, wk_io x1])) (fun r sh' μ' q => ?_)
  obtain ⟨⟨v, q0, q1⟩, q2, q3, hf⟩ := q
  exact ⟨⟨v, q0, q1⟩, q2, q3, hf⟩
theorem lw_180 {Z : sm_Z} (hZ : Z.2.2.2 = tb_N) {μ : sm_M} (gm : ab_mu rG μ) (hR : RI (wk_of μ).1) (ad : Nat → Nat)  : sm_C tb_cl Z (tb_ys 180) (tb_ws 180) (dp_rm 4 (32 * 4) ev_s2 ev_s2) [.ref 46] ad ev_s2 μ (fun r sh' μ' => (∃ v : Int32, r = some (.int v) ∧ ((wk_of μ').1 46 (0 : Nat) = (wk_of μ).1 46 (0 : Nat) ∧ (wk_of μ').1 46 (5 : Nat) = (wk_of μ).1 46 (5 : Nat) ∧ (wk_of μ').1 46 (6 : Nat) = (wk_of μ).1 46 (6 : Nat) ∧ (wk_of μ').1 46 (34 : Nat) = (wk_of μ).1 46 (34 : Nat))) ∧ sh' = ev_s2 ∧ ab_mu rG μ' ∧ wk_fr [46, 63, 64] (wk_of μ') (wk_of μ)) := by
  refine sm_C.imp (lw_i (k180 hZ _ ) rfl gm (As := [.inr (.inl 46)]) ⟨trivial, trivial⟩ (ad := ad) (rfl)) (fun r sh' μ' q => ?_)
  obtain ⟨⟨v, q0, q1⟩, q2, q3, hf⟩ := q
  exact ⟨⟨v, q0, q1⟩, q2, q3, hf⟩
theorem lw_182 {Z : sm_Z} (hZ : Z.2.2.2 = tb_N) {μ : sm_M} (gm : ab_mu rG μ) (hR : RI (wk_of μ).1) (ad : Nat → Nat) (x0 : Int32) : sm_C tb_cl Z (tb_ys 182) (tb_ws 182) (dp_rm 2 (32 * 2) ev_s2 ev_s2) [.ref 46, .int x0] ad ev_s2 μ (fun r sh' μ' => (∃ v : Int32, r = some (.int v) ∧ True) ∧ sh' = ev_s2 ∧ ab_mu rG μ' ∧ wk_fr [] (wk_of μ') (wk_of μ)) := by
  refine sm_C.imp (lw_i (k182 hZ _ x0.toInt (ab_min x0) (ab_max x0)) rfl gm (As := [.inr (.inl 46), .inl x0.toInt]) ⟨trivial, ⟨ab_min x0, ab_max x0⟩, trivial⟩ (ad := ad) (by show [Value.ref 46, .int (Int32.ofInt x0.toInt)] = _; rw [wk_io x0])) (fun r sh' μ' q => ?_)
  obtain ⟨⟨v, q0, q1⟩, q2, q3, hf⟩ := q
  exact ⟨⟨v, q0, trivial⟩, q2, q3, hf⟩
theorem lw_183 {Z : sm_Z} (hZ : Z.2.2.2 = tb_N) {μ : sm_M} (gm : ab_mu rG μ) (hR : RI (wk_of μ).1) (ad : Nat → Nat) (x0 x1 : Int32) : sm_C tb_cl Z (tb_ys 183) (tb_ws 183) (dp_rm 2 (32 * 2) ev_s2 ev_s2) [.ref 46, .int x0, .int x1] ad ev_s2 μ (fun r sh' μ' => (∃ v : Int32, r = some (.int v) ∧ ((v.toInt = 1 ∧ 0 ≤ x0.toInt ∧ x0.toInt ≤ 3) ∨ (v.toInt = 0 ∧ (x0.toInt < 0 ∨ 3 < x0.toInt)))) ∧ sh' = ev_s2 ∧ ab_mu rG μ' ∧ wk_fr [65] (wk_of μ') (wk_of μ)) := by
  refine sm_C.imp (lw_i (k183 hZ _ x0.toInt x1.toInt ) rfl gm (As := [.inr (.inl 46), .inl x0.toInt, .inl x1.toInt]) ⟨trivial, ⟨ab_min x0, ab_max x0⟩, ⟨ab_min x1, ab_max x1⟩, trivial⟩ (ad := ad) (by show [Value.ref 46, .int (Int32.ofInt x0.toInt), .int (Int32.ofInt x1.toInt)] = _; rw [wk_io x0, wk_io x1])) (fun r sh' μ' q => ?_)
  obtain ⟨⟨v, q0, q1⟩, q2, q3, hf⟩ := q
  exact ⟨⟨v, q0, q1⟩, q2, q3, hf⟩
theorem lw_184 {Z : sm_Z} (hZ : Z.2.2.2 = tb_N) {μ : sm_M} (gm : ab_mu rG μ) (hR : RI (wk_of μ).1) (ad : Nat → Nat) (x0 x1 : Int32) : sm_C tb_cl Z (tb_ys 184) (tb_ws 184) (dp_rm 4 (32 * 4) ev_s2 ev_s2) [.ref 46, .int x0, .int x1] ad ev_s2 μ (fun r sh' μ' => (∃ v : Int32, r = some (.int v) ∧ ((wk_of μ').1 46 (0 : Nat) = (wk_of μ).1 46 (0 : Nat) ∧ (wk_of μ').1 46 (5 : Nat) = (wk_of μ).1 46 (5 : Nat) ∧ (wk_of μ').1 46 (6 : Nat) = (wk_of μ).1 46 (6 : Nat) ∧ (wk_of μ').1 46 (34 : Nat) = (wk_of μ).1 46 (34 : Nat))) ∧ sh' = ev_s2 ∧ ab_mu rG μ' ∧ wk_fr [46, 66, 67, 68, 69, 70, 71] (wk_of μ') (wk_of μ)) := by
  refine sm_C.imp (lw_i (k184 hZ _ x0.toInt x1.toInt hR.1 hR.2) rfl gm (As := [.inr (.inl 46), .inl x0.toInt, .inl x1.toInt]) ⟨trivial, ⟨ab_min x0, ab_max x0⟩, ⟨ab_min x1, ab_max x1⟩, trivial⟩ (ad := ad) (by show [Value.ref 46, .int (Int32.ofInt x0.toInt), .int (Int32.ofInt x1.toInt)] = _; rw [wk_io x0, wk_io x1])) (fun r sh' μ' q => ?_)
  obtain ⟨⟨v, q0, q1⟩, q2, q3, hf⟩ := q
  exact ⟨⟨v, q0, q1⟩, q2, q3, hf⟩
theorem lw_192 {Z : sm_Z} (hZ : Z.2.2.2 = tb_N) {μ : sm_M} (gm : ab_mu rG μ) (hR : RI (wk_of μ).1) (ad : Nat → Nat)  : sm_C tb_cl Z (tb_ys 192) (tb_ws 192) (dp_rm 1 (32 * 1) ev_s2 ev_s2) [.ref 46] ad ev_s2 μ (fun r sh' μ' => (∃ v : Int32, r = some (.int v) ∧ True) ∧ sh' = ev_s2 ∧ ab_mu rG μ' ∧ wk_fr [] (wk_of μ') (wk_of μ)) := by
  refine sm_C.imp (lw_i (k192 hZ _ ) rfl gm (As := [.inr (.inl 46)]) ⟨trivial, trivial⟩ (ad := ad) (rfl)) (fun r sh' μ' q => ?_)
  obtain ⟨⟨v, q0, q1⟩, q2, q3, hf⟩ := q
  exact ⟨⟨v, q0, trivial⟩, q2, q3, hf⟩
theorem lw_193 {Z : sm_Z} (hZ : Z.2.2.2 = tb_N) {μ : sm_M} (gm : ab_mu rG μ) (hR : RI (wk_of μ).1) (ad : Nat → Nat) (x0 : Int32) : sm_C tb_cl Z (tb_ys 193) (tb_ws 193) (dp_rm 1 (32 * 1) ev_s2 ev_s2) [.ref 46, .int x0] ad ev_s2 μ (fun r sh' μ' => (∃ v : Int32, r = some (.int v) ∧ True) ∧ sh' = ev_s2 ∧ ab_mu rG μ' ∧ wk_fr [] (wk_of μ') (wk_of μ)) := by
  refine sm_C.imp (lw_i (k193 hZ _ x0.toInt ) rfl gm (As := [.inr (.inl 46), .inl x0.toInt]) ⟨trivial, ⟨ab_min x0, ab_max x0⟩, trivial⟩ (ad := ad) (by show [Value.ref 46, .int (Int32.ofInt x0.toInt)] = _; rw [wk_io x0])) (fun r sh' μ' q => ?_)
  obtain ⟨⟨v, q0, q1⟩, q2, q3, hf⟩ := q
  exact ⟨⟨v, q0, trivial⟩, q2, q3, hf⟩
theorem lw_194 {Z : sm_Z} (hZ : Z.2.2.2 = tb_N) {μ : sm_M} (gm : ab_mu rG μ) (hR : RI (wk_of μ).1) (ad : Nat → Nat) (x0 x1 : Int32) : sm_C tb_cl Z (tb_ys 194) (tb_ws 194) (dp_rm 2 (32 * 2) ev_s2 ev_s2) [.ref 46, .int x0, .int x1] ad ev_s2 μ (fun r sh' μ' => (∃ v : Int32, r = some (.int v) ∧ True) ∧ sh' = ev_s2 ∧ ab_mu rG μ' ∧ wk_fr [] (wk_of μ') (wk_of μ)) := by
  refine sm_C.imp (lw_i (k194 hZ _ x0.toInt x1.toInt ) rfl gm (As := [.inr (.inl 46), .inl x0.toInt, .inl x1.toInt]) ⟨trivial, ⟨ab_min x0, ab_max x0⟩, ⟨ab_min x1, ab_max x1⟩, trivial⟩ (ad := ad) (by show [Value.ref 46, .int (Int32.ofInt x0.toInt), .int (Int32.ofInt x1.toInt)] = _; rw [wk_io x0, wk_io x1])) (fun r sh' μ' q => ?_)
  obtain ⟨⟨v, q0, q1⟩, q2, q3, hf⟩ := q
  exact ⟨⟨v, q0, trivial⟩, q2, q3, hf⟩
theorem lw_203 {Z : sm_Z} (hZ : Z.2.2.2 = tb_N) {μ : sm_M} (gm : ab_mu rG μ) (hR : RI (wk_of μ).1) (ad : Nat → Nat)  : sm_C tb_cl Z (tb_ys 203) (tb_ws 203) (dp_rm 5 (32 * 5) ev_s2 ev_s2) [.ref 46] ad ev_s2 μ (fun r sh' μ' => (∃ v : Int32, r = some (.int v) ∧ True) ∧ sh' = ev_s2 ∧ ab_mu rG μ' ∧ wk_fr [63] (wk_of μ') (wk_of μ)) := by
  refine sm_C.imp (lw_i (wk_t1 (k203 hZ _ hR.1)) rfl gm (As := [.inr (.inl 46)]) ⟨trivial, trivial⟩ (ad := ad) (rfl)) (fun r sh' μ' q => ?_)
  obtain ⟨⟨v, q0, q1⟩, q2, q3, hf⟩ := q
  exact ⟨⟨v, q0, trivial⟩, q2, q3, hf⟩
theorem lw_205 {Z : sm_Z} (hZ : Z.2.2.2 = tb_N) {μ : sm_M} (gm : ab_mu rG μ) (hR : RI (wk_of μ).1) (ad : Nat → Nat) (x0 : Int32) : sm_C tb_cl Z (tb_ys 205) (tb_ws 205) (dp_rm 5 (32 * 5) ev_s2 ev_s2) [.ref 46, .int x0] ad ev_s2 μ (fun r sh' μ' => (∃ v : Int32, r = some (.int v) ∧ True) ∧ sh' = ev_s2 ∧ ab_mu rG μ' ∧ wk_fr [63] (wk_of μ') (wk_of μ)) := by
  refine sm_C.imp (lw_i (wk_t1 (k205 hZ _ x0.toInt hR.1)) rfl gm (As := [.inr (.inl 46), .inl x0.toInt]) ⟨trivial, ⟨ab_min x0, ab_max x0⟩, trivial⟩ (ad := ad) (by show [Value.ref 46, .int (Int32.ofInt x0.toInt)] = _; rw [wk_io x0])) (fun r sh' μ' q => ?_)
  obtain ⟨⟨v, q0, q1⟩, q2, q3, hf⟩ := q
  exact ⟨⟨v, q0, trivial⟩, q2, q3, hf⟩
theorem lc_0 {X : sm_X} (hX : sm_ok tb_cl X code 4 "ProgramSlicesLaw" tb_W ret room_1 75 8909 false) (hZ : X.1.2.2.2 = tb_N) {ad : Nat → Nat} {xs : Nat → Int32} {Ln : Nat} (hN : Ln ≤ 2560) (hS : sm_scr X (ad 1000) Ln xs) {i : Int} (i0 : 0 ≤ i) (i1 : i + 5 ≤ (Ln : Int)) (next : ∀ μ : sm_M, lwI μ → sm_E tb_cl X 677 [some (.ref 1000), some (.ref 0), some (.ref 46), some (.int (Int32.ofInt i))] [] ad ev_s2 μ) {μ : sm_M} (h : lwI μ) : sm_E tb_cl X 124 [some (.ref 1000), some (.ref 0), some (.ref 46), some (.int (Int32.ofInt i))] [] ad ev_s2 μ := by
  obtain ⟨gm0, hC0, hR0, hL, hE0, hX0⟩ := h
  refine sm_aloadN hX td_L_124 rfl ?_
  refine sm_aloadN hX td_L_125 rfl ?_
  refine sm_iloadN hX td_L_126 rfl ?_
  refine sm_iconst hX td_L_127 ?_
  refine sm_iadd hX td_L_128 ?_
  refine sm_sld hX hS (lw_in i0 i1 hN 1 (by decide) (by decide)) td_L_129 ?_
  refine sm_aloadN hX td_L_130 rfl ?_
  refine sm_iloadN hX td_L_131 rfl ?_
  refine sm_iconst hX td_L_132 ?_
  refine sm_iadd hX td_L_133 ?_
  refine sm_sld hX hS (lw_in i0 i1 hN 2 (by decide) (by decide)) td_L_134 ?_
  refine sm_aloadN hX td_L_135 rfl ?_
  refine sm_iloadN hX td_L_136 rfl ?_
  refine sm_iconst hX td_L_137 ?_
  refine sm_iadd hX td_L_138 ?_
  refine sm_sld hX hS (lw_in i0 i1 hN 3 (by decide) (by decide)) td_L_139 ?_
  refine sm_aloadN hX td_L_140 rfl ?_
  refine sm_iloadN hX td_L_141 rfl ?_
  refine sm_iconst hX td_L_142 ?_
  refine sm_iadd hX td_L_143 ?_
  refine sm_sld hX hS (lw_in i0 i1 hN 4 (by decide) (by decide)) td_L_144 ?_
  refine tb_vL_0 _ X _ _ _ _ _ _ hZ hX _ _ [] ad ev_s2 μ [.ref 0, .int (xs (Int32.ofInt i + Int32.ofInt (1)).toNatClampNeg), .int (xs (Int32.ofInt i + Int32.ofInt (2)).toNatClampNeg), .int (xs (Int32.ofInt i + Int32.ofInt (3)).toNatClampNeg), .int (xs (Int32.ofInt i + Int32.ofInt (4)).toNatClampNeg)] _ _ rfl ⟨0, _, _, rfl, rfl⟩ (lw_10 hZ gm0 hC0 hX0 ad _ _ _ _) (by decide) (by decide) (by decide) (by decide) (Nat.le_of_ble_eq_true rfl) td_L_145 (fun v ad' sh' μ1 e1 e2 hag hq => ?_)
  obtain ⟨⟨v1, rfl, p1⟩, rfl, gm1, f1⟩ := hq
  have hC1 : CI (wk_of μ1).1 := p1.1
  have hR1 : RI (wk_of μ1).1 := RI_fr f1 (by decide) rfl hR0
  have l1 := congrFun (f1 38 (by decide)).1 ((0 : Nat) : Int)
  have r1 := congrFun (f1 46 (by decide)).1 ((34 : Nat) : Int)
  have s1 := (f1 46 (by decide)).1
  rw [sm_ag_eq hag]
  refine ⟨Or.inl (by decide), ?_⟩
  refine sm_pop hX td_L_148 rfl ?_
  refine sm_aloadN hX td_L_149 rfl ?_
  refine sm_aloadN hX td_L_150 rfl ?_
  refine sm_iloadN hX td_L_151 rfl ?_
  refine sm_iconst hX td_L_152 ?_
  refine sm_iadd hX td_L_153 ?_
  refine sm_sld hX hS (lw_in i0 i1 hN 1 (by decide) (by decide)) td_L_154 ?_
  refine sm_aloadN hX td_L_155 rfl ?_
  refine sm_iloadN hX td_L_156 rfl ?_
  refine sm_iconst hX td_L_157 ?_
  refine sm_iadd hX td_L_158 ?_
  refine sm_sld hX hS (lw_in i0 i1 hN 2 (by decide) (by decide)) td_L_159 ?_
  refine sm_aloadN hX td_L_160 rfl ?_
  refine sm_iloadN hX td_L_161 rfl ?_
  refine sm_iconst hX td_L_162 ?_
  refine sm_iadd hX td_L_163 ?_
  refine sm_sld hX hS (lw_in i0 i1 hN 3 (by decide) (by decide)) td_L_164 ?_
  refine sm_aloadN hX td_L_165 rfl ?_
  refine sm_iloadN hX td_L_166 rfl ?_
  refine sm_iconst hX td_L_167 ?_
  refine sm_iadd hX td_L_168 ?_
  refine sm_sld hX hS (lw_in i0 i1 hN 4 (by decide) (by decide)) td_L_169 ?_
  refine tb_vL_19 _ X _ _ _ _ _ _ hZ hX _ _ [] ad ev_s2 μ1 [.ref 46, .int (xs (Int32.ofInt i + Int32.ofInt (1)).toNatClampNeg), .int (xs (Int32.ofInt i + Int32.ofInt (2)).toNatClampNeg), .int (xs (Int32.ofInt i + Int32.ofInt (3)).toNatClampNeg), .int (xs (Int32.ofInt i + Int32.ofInt (4)).toNatClampNeg)] _ _ rfl ⟨46, _, _, rfl, rfl⟩ (lw_143 hZ gm1 hR1 ad _ _ _ _) (by decide) (by decide) (by decide) (by decide) (Nat.le_of_ble_eq_true rfl) td_L_170 (fun v ad' sh' μ2 e1 e2 hag hq => ?_)
  obtain ⟨⟨v2, rfl, p2⟩, rfl, gm2, f2⟩ := hq
  have hC2 : CI (wk_of μ2).1 := CI_fr f2 rfl (by decide) hC1
  have hR2 : RI (wk_of μ2).1 := p2.1
  have l2 := congrFun (f2 38 (by decide)).1 ((0 : Nat) : Int)
  have r2 := p2.2.1
  have hE2 := LR_add f1 f2 p1.2 p2.2.2 hE0
  have hX2 := OX_keep ((f2 38 (by decide)).1.trans (f1 38 (by decide)).1) ((f2 39 (by decide)).1.trans (f1 39 (by decide)).1) ((f2 40 (by decide)).1.trans (f1 40 (by decide)).1) ((f2 41 (by decide)).1.trans (f1 41 (by decide)).1) ((f2 72 (by decide)).1.trans (f1 72 (by decide)).1) ((f2 73 (by decide)).1.trans (f1 73 (by decide)).1) ((f2 74 (by decide)).1.trans (f1 74 (by decide)).1) hX0
  have hL2 := (l2.trans (l1.trans hL)).trans (r2.trans r1).symm
  rw [sm_ag_eq hag]
  refine ⟨Or.inl (by decide), ?_⟩
  refine sm_pop hX td_L_173 rfl ?_
  refine sm_goto hX 677 td_L_174 (by decide) ?_
  exact next μ2 ⟨gm2, hC2, hR2, hL2, hE2.1, hX2⟩
theorem lc_1 {X : sm_X} (hX : sm_ok tb_cl X code 4 "ProgramSlicesLaw" tb_W ret room_1 75 8909 false) (hZ : X.1.2.2.2 = tb_N) {ad : Nat → Nat} {xs : Nat → Int32} {Ln : Nat} (hN : Ln ≤ 2560) (hS : sm_scr X (ad 1000) Ln xs) {i : Int} (i0 : 0 ≤ i) (i1 : i + 5 ≤ (Ln : Int)) (next : ∀ μ : sm_M, lwI μ → sm_E tb_cl X 677 [some (.ref 1000), some (.ref 0), some (.ref 46), some (.int (Int32.ofInt i))] [] ad ev_s2 μ) {μ : sm_M} (h : lwI μ) : sm_E tb_cl X 177 [some (.ref 1000), some (.ref 0), some (.ref 46), some (.int (Int32.ofInt i))] [] ad ev_s2 μ := by
  obtain ⟨gm0, hC0, hR0, hL, hE0, hX0⟩ := h
  refine sm_aloadN hX td_L_177 rfl ?_
  refine tb_vL_1 _ X _ _ _ _ _ _ hZ hX _ _ [] ad ev_s2 μ [.ref 0] _ _ rfl ⟨0, _, _, rfl, rfl⟩ (lw_19 hZ gm0 hC0 hX0 ad) (by decide) (by decide) (by decide) (by decide) (Nat.le_of_ble_eq_true rfl) td_L_178 (fun v ad' sh' μ1 e1 e2 hag hq => ?_)
  obtain ⟨⟨rfl, p1⟩, rfl, gm1, f1⟩ := hq
  have hC1 : CI (wk_of μ1).1 := p1.1
  have hR1 : RI (wk_of μ1).1 := RI_fr f1 (by decide) rfl hR0
  have l1 := congrFun (f1 38 (by decide)).1 ((0 : Nat) : Int)
  have r1 := congrFun (f1 46 (by decide)).1 ((34 : Nat) : Int)
  have s1 := (f1 46 (by decide)).1
  rw [sm_ag_eq hag]
  refine ⟨Or.inl (by decide), ?_⟩
  refine sm_aloadN hX td_L_181 rfl ?_
  refine tb_vL_20 _ X _ _ _ _ _ _ hZ hX _ _ [] ad ev_s2 μ1 [.ref 46] _ _ rfl ⟨46, _, _, rfl, rfl⟩ (lw_145 hZ gm1 hR1 ad) (by decide) (by decide) (by decide) (by decide) (Nat.le_of_ble_eq_true rfl) td_L_182 (fun v ad' sh' μ2 e1 e2 hag hq => ?_)
  obtain ⟨⟨rfl, p2⟩, rfl, gm2, f2⟩ := hq
  have hC2 : CI (wk_of μ2).1 := CI_fr f2 rfl (by decide) hC1
  have hR2 : RI (wk_of μ2).1 := p2.1
  have l2 := congrFun (f2 38 (by decide)).1 ((0 : Nat) : Int)
  have r2 := p2.2.1
  have hE2 := LR_clear f2 p1.2 p2.2.2
  have hX2 := OX_keep ((f2 38 (by decide)).1.trans (f1 38 (by decide)).1) ((f2 39 (by decide)).1.trans (f1 39 (by decide)).1) ((f2 40 (by decide)).1.trans (f1 40 (by decide)).1) ((f2 41 (by decide)).1.trans (f1 41 (by decide)).1) ((f2 72 (by decide)).1.trans (f1 72 (by decide)).1) ((f2 73 (by decide)).1.trans (f1 73 (by decide)).1) ((f2 74 (by decide)).1.trans (f1 74 (by decide)).1) hX0
  have hL2 := (l2.trans (l1.trans hL)).trans (r2.trans r1).symm
  rw [sm_ag_eq hag]
  refine ⟨Or.inl (by decide), ?_⟩
  refine sm_goto hX 677 td_L_185 (by decide) ?_
  exact next μ2 ⟨gm2, hC2, hR2, hL2, hE2, hX2⟩
theorem lc_2 {X : sm_X} (hX : sm_ok tb_cl X code 4 "ProgramSlicesLaw" tb_W ret room_1 75 8909 false) (hZ : X.1.2.2.2 = tb_N) {ad : Nat → Nat} {xs : Nat → Int32} {Ln : Nat} (hN : Ln ≤ 2560) (hS : sm_scr X (ad 1000) Ln xs) {i : Int} (i0 : 0 ≤ i) (i1 : i + 5 ≤ (Ln : Int)) (next : ∀ μ : sm_M, lwI μ → sm_E tb_cl X 677 [some (.ref 1000), some (.ref 0), some (.ref 46), some (.int (Int32.ofInt i))] [] ad ev_s2 μ) {μ : sm_M} (h : lwI μ) : sm_E tb_cl X 188 [some (.ref 1000), some (.ref 0), some (.ref 46), some (.int (Int32.ofInt i))] [] ad ev_s2 μ := by
  obtain ⟨gm0, hC0, hR0, hL, hE0, hX0⟩ := h
  refine sm_aloadN hX td_L_188 rfl ?_
  refine tb_vL_2 _ X _ _ _ _ _ _ hZ hX _ _ [] ad ev_s2 μ [.ref 0] _ _ rfl ⟨0, _, _, rfl, rfl⟩ (lw_25 hZ gm0 hC0 hX0 ad) (by decide) (by decide) (by decide) (by decide) (Nat.le_of_ble_eq_true rfl) td_L_189 (fun v ad' sh' μ1 e1 e2 hag hq => ?_)
  obtain ⟨⟨v1, rfl, p1⟩, rfl, gm1, f1⟩ := hq
  have hC1 : CI (wk_of μ1).1 := p1.1
  have hR1 : RI (wk_of μ1).1 := RI_fr f1 (by decide) rfl hR0
  have l1 := congrFun (f1 38 (by decide)).1 ((0 : Nat) : Int)
  have r1 := congrFun (f1 46 (by decide)).1 ((34 : Nat) : Int)
  have s1 := (f1 46 (by decide)).1
  have ho1 := LR_ho f1 hE0
  rw [sm_ag_eq hag]
  refine ⟨Or.inl (by decide), ?_⟩
  refine sm_pop hX td_L_192 rfl ?_
  refine sm_aloadN hX td_L_193 rfl ?_
  refine tb_vL_21 _ X _ _ _ _ _ _ hZ hX _ _ [] ad ev_s2 μ1 [.ref 46] _ _ rfl ⟨46, _, _, rfl, rfl⟩ (lw_146 hZ gm1 hR1 (op := (wk_of μ).1 2) ho1 ad) (by decide) (by decide) (by decide) (by decide) (Nat.le_of_ble_eq_true rfl) td_L_194 (fun v ad' sh' μ2 e1 e2 hag hq => ?_)
  obtain ⟨⟨v2, rfl, p2⟩, rfl, gm2, f2⟩ := hq
  have hC2 : CI (wk_of μ2).1 := CI_fr f2 rfl (by decide) hC1
  have hR2 : RI (wk_of μ2).1 := p2.1
  have l2 := congrFun (f2 38 (by decide)).1 ((0 : Nat) : Int)
  have r2 := p2.2.1
  have hE2 := LR_build f1 f2 p1.2.1 p1.2.2 p2.2.2.1 p2.2.2.2 hE0
  have hX2 := OX_keep ((f2 38 (by decide)).1.trans (f1 38 (by decide)).1) ((f2 39 (by decide)).1.trans (f1 39 (by decide)).1) ((f2 40 (by decide)).1.trans (f1 40 (by decide)).1) ((f2 41 (by decide)).1.trans (f1 41 (by decide)).1) ((f2 72 (by decide)).1.trans (f1 72 (by decide)).1) ((f2 73 (by decide)).1.trans (f1 73 (by decide)).1) ((f2 74 (by decide)).1.trans (f1 74 (by decide)).1) hX0
  have hL2 := (l2.trans (l1.trans hL)).trans (r2.trans r1).symm
  rw [sm_ag_eq hag]
  refine ⟨Or.inl (by decide), ?_⟩
  refine sm_pop hX td_L_197 rfl ?_
  refine sm_goto hX 677 td_L_198 (by decide) ?_
  exact next μ2 ⟨gm2, hC2, hR2, hL2, hE2.1, hX2⟩
theorem lc_3 {X : sm_X} (hX : sm_ok tb_cl X code 4 "ProgramSlicesLaw" tb_W ret room_1 75 8909 false) (hZ : X.1.2.2.2 = tb_N) {ad : Nat → Nat} {xs : Nat → Int32} {Ln : Nat} (hN : Ln ≤ 2560) (hS : sm_scr X (ad 1000) Ln xs) {i : Int} (i0 : 0 ≤ i) (i1 : i + 5 ≤ (Ln : Int)) (next : ∀ μ : sm_M, lwI μ → sm_E tb_cl X 677 [some (.ref 1000), some (.ref 0), some (.ref 46), some (.int (Int32.ofInt i))] [] ad ev_s2 μ) {μ : sm_M} (h : lwI μ) : sm_E tb_cl X 201 [some (.ref 1000), some (.ref 0), some (.ref 46), some (.int (Int32.ofInt i))] [] ad ev_s2 μ := by
  obtain ⟨gm0, hC0, hR0, hL, hE0, hX0⟩ := h
  refine sm_aloadN hX td_L_201 rfl ?_
  refine sm_aloadN hX td_L_202 rfl ?_
  refine sm_iloadN hX td_L_203 rfl ?_
  refine sm_iconst hX td_L_204 ?_
  refine sm_iadd hX td_L_205 ?_
  refine sm_sld hX hS (lw_in i0 i1 hN 1 (by decide) (by decide)) td_L_206 ?_
  refine tb_vL_3 _ X _ _ _ _ _ _ hZ hX _ _ [] ad ev_s2 μ [.ref 0, .int (xs (Int32.ofInt i + Int32.ofInt (1)).toNatClampNeg)] _ _ rfl ⟨0, _, _, rfl, rfl⟩ (lw_80 hZ gm0 hC0 hX0 ad _) (by decide) (by decide) (by decide) (by decide) (Nat.le_of_ble_eq_true rfl) td_L_207 (fun v ad' sh' μ1 e1 e2 hag hq => ?_)
  obtain ⟨⟨v1, rfl, p1⟩, rfl, gm1, f1⟩ := hq
  have hC1 : CI (wk_of μ1).1 := CI_fr f1 rfl (by decide) hC0
  have hR1 : RI (wk_of μ1).1 := RI_fr f1 (by decide) rfl hR0
  have r1 := congrFun (f1 46 (by decide)).1 ((34 : Nat) : Int)
  have s1 := (f1 46 (by decide)).1
  rw [sm_ag_eq hag]
  refine ⟨Or.inl (by decide), ?_⟩
  refine sm_pop hX td_L_210 rfl ?_
  refine sm_aloadN hX td_L_211 rfl ?_
  refine sm_aloadN hX td_L_212 rfl ?_
  refine sm_iloadN hX td_L_213 rfl ?_
  refine sm_iconst hX td_L_214 ?_
  refine sm_iadd hX td_L_215 ?_
  refine sm_sld hX hS (lw_in i0 i1 hN 1 (by decide) (by decide)) td_L_216 ?_
  refine tb_vL_32 _ X _ _ _ _ _ _ hZ hX _ _ [] ad ev_s2 μ1 [.ref 46, .int (xs (Int32.ofInt i + Int32.ofInt (1)).toNatClampNeg)] _ _ rfl ⟨46, _, _, rfl, rfl⟩ (lw_195 hZ gm1 hR1 ad _) (by decide) (by decide) (by decide) (by decide) (Nat.le_of_ble_eq_true rfl) td_L_217 (fun v ad' sh' μ2 e1 e2 hag hq => ?_)
  obtain ⟨⟨v2, rfl, p2⟩, rfl, gm2, f2⟩ := hq
  have hC2 : CI (wk_of μ2).1 := CI_fr f2 rfl (by decide) hC1
  have hR2 : RI (wk_of μ2).1 := RI_of p2.2.1 p2.2.2.1 p2.2.2.2 (fr_57 f2 rfl) hR1
  have l2 := congrFun (f2 38 (by decide)).1 ((0 : Nat) : Int)
  have r2 := p2.1
  have hE2 := LR_keep f1 f2 rfl rfl rfl rfl (p2.2.1.trans (congrFun s1 _)) (p2.2.2.1.trans (congrFun s1 _)) (p2.2.2.2.trans (congrFun s1 _)) hE0
  have hX2 := OX_levels f2 p1 p2.1 hX0
  have hL2 : (wk_of μ2).1 38 (0 : Nat) = (wk_of μ2).1 46 (34 : Nat) := by omega
  rw [sm_ag_eq hag]
  refine ⟨Or.inl (by decide), ?_⟩
  refine sm_pop hX td_L_220 rfl ?_
  refine sm_goto hX 677 td_L_221 (by decide) ?_
  exact next μ2 ⟨gm2, hC2, hR2, hL2, hE2, hX2⟩
theorem lc_4 {X : sm_X} (hX : sm_ok tb_cl X code 4 "ProgramSlicesLaw" tb_W ret room_1 75 8909 false) (hZ : X.1.2.2.2 = tb_N) {ad : Nat → Nat} {xs : Nat → Int32} {Ln : Nat} (hN : Ln ≤ 2560) (hS : sm_scr X (ad 1000) Ln xs) {i : Int} (i0 : 0 ≤ i) (i1 : i + 5 ≤ (Ln : Int)) (next : ∀ μ : sm_M, lwI μ → sm_E tb_cl X 677 [some (.ref 1000), some (.ref 0), some (.ref 46), some (.int (Int32.ofInt i))] [] ad ev_s2 μ) {μ : sm_M} (h : lwI μ) : sm_E tb_cl X 224 [some (.ref 1000), some (.ref 0), some (.ref 46), some (.int (Int32.ofInt i))] [] ad ev_s2 μ := by
  obtain ⟨gm0, hC0, hR0, hL, hE0, hX0⟩ := h
  refine sm_aloadN hX td_L_224 rfl ?_
  refine sm_aloadN hX td_L_225 rfl ?_
  refine sm_iloadN hX td_L_226 rfl ?_
  refine sm_iconst hX td_L_227 ?_
  refine sm_iadd hX td_L_228 ?_
  refine sm_sld hX hS (lw_in i0 i1 hN 1 (by decide) (by decide)) td_L_229 ?_
  refine sm_aloadN hX td_L_230 rfl ?_
  refine sm_iloadN hX td_L_231 rfl ?_
  refine sm_iconst hX td_L_232 ?_
  refine sm_iadd hX td_L_233 ?_
  refine sm_sld hX hS (lw_in i0 i1 hN 2 (by decide) (by decide)) td_L_234 ?_
  refine tb_vL_4 _ X _ _ _ _ _ _ hZ hX _ _ [] ad ev_s2 μ [.ref 0, .int (xs (Int32.ofInt i + Int32.ofInt (1)).toNatClampNeg), .int (xs (Int32.ofInt i + Int32.ofInt (2)).toNatClampNeg)] _ _ rfl ⟨0, _, _, rfl, rfl⟩ (lw_82 hZ gm0 hC0 hX0 ad _ _) (by decide) (by decide) (by decide) (by decide) (Nat.le_of_ble_eq_true rfl) td_L_235 (fun v ad' sh' μ1 e1 e2 hag hq => ?_)
  obtain ⟨⟨v1, rfl, p1⟩, rfl, gm1, f1⟩ := hq
  have hC1 : CI (wk_of μ1).1 := CI_fr f1 rfl (by decide) hC0
  have hR1 : RI (wk_of μ1).1 := RI_fr f1 (by decide) rfl hR0
  have l1 := congrFun (f1 38 (by decide)).1 ((0 : Nat) : Int)
  have r1 := congrFun (f1 46 (by decide)).1 ((34 : Nat) : Int)
  have s1 := (f1 46 (by decide)).1
  rw [sm_ag_eq hag]
  refine ⟨Or.inl (by decide), ?_⟩
  refine sm_pop hX td_L_238 rfl ?_
  refine sm_aloadN hX td_L_239 rfl ?_
  refine sm_aloadN hX td_L_240 rfl ?_
  refine sm_iloadN hX td_L_241 rfl ?_
  refine sm_iconst hX td_L_242 ?_
  refine sm_iadd hX td_L_243 ?_
  refine sm_sld hX hS (lw_in i0 i1 hN 1 (by decide) (by decide)) td_L_244 ?_
  refine sm_aloadN hX td_L_245 rfl ?_
  refine sm_iloadN hX td_L_246 rfl ?_
  refine sm_iconst hX td_L_247 ?_
  refine sm_iadd hX td_L_248 ?_
  refine sm_sld hX hS (lw_in i0 i1 hN 2 (by decide) (by decide)) td_L_249 ?_
  refine tb_vL_33 _ X _ _ _ _ _ _ hZ hX _ _ [] ad ev_s2 μ1 [.ref 46, .int (xs (Int32.ofInt i + Int32.ofInt (1)).toNatClampNeg), .int (xs (Int32.ofInt i + Int32.ofInt (2)).toNatClampNeg)] _ _ rfl ⟨46, _, _, rfl, rfl⟩ (lw_196 hZ gm1 hR1 (OX_ref f1 hL hX0).1 (OX_ref f1 hL hX0).2 ad _ _) (by decide) (by decide) (by decide) (by decide) (Nat.le_of_ble_eq_true rfl) td_L_250 (fun v ad' sh' μ2 e1 e2 hag hq => ?_)
  obtain ⟨⟨v2, rfl, p2⟩, rfl, gm2, f2⟩ := hq
  have hC2 : CI (wk_of μ2).1 := CI_fr f2 rfl (by decide) hC1
  have hR2 : RI (wk_of μ2).1 := RI_fr f2 (by decide) rfl hR1
  have l2 := congrFun (f2 38 (by decide)).1 ((0 : Nat) : Int)
  have r2 := congrFun (f2 46 (by decide)).1 ((34 : Nat) : Int)
  have hE2 := LR_keep f1 f2 rfl rfl rfl rfl (congrFun ((f2 46 (by decide)).1.trans s1) _) (congrFun ((f2 46 (by decide)).1.trans s1) _) (congrFun ((f2 46 (by decide)).1.trans s1) _) hE0
  have hX2 := OX_below f1 f2 p1 p2 hL (lw_n5 gm0) hX0
  have hL2 := (l2.trans (l1.trans hL)).trans (r2.trans r1).symm
  rw [sm_ag_eq hag]
  refine ⟨Or.inl (by decide), ?_⟩
  refine sm_pop hX td_L_253 rfl ?_
  refine sm_goto hX 677 td_L_254 (by decide) ?_
  exact next μ2 ⟨gm2, hC2, hR2, hL2, hE2, hX2⟩
theorem lc_5 {X : sm_X} (hX : sm_ok tb_cl X code 4 "ProgramSlicesLaw" tb_W ret room_1 75 8909 false) (hZ : X.1.2.2.2 = tb_N) {ad : Nat → Nat} {xs : Nat → Int32} {Ln : Nat} (hN : Ln ≤ 2560) (hS : sm_scr X (ad 1000) Ln xs) {i : Int} (i0 : 0 ≤ i) (i1 : i + 5 ≤ (Ln : Int)) (next : ∀ μ : sm_M, lwI μ → sm_E tb_cl X 677 [some (.ref 1000), some (.ref 0), some (.ref 46), some (.int (Int32.ofInt i))] [] ad ev_s2 μ) {μ : sm_M} (h : lwI μ) : sm_E tb_cl X 257 [some (.ref 1000), some (.ref 0), some (.ref 46), some (.int (Int32.ofInt i))] [] ad ev_s2 μ := by
  obtain ⟨gm0, hC0, hR0, hL, hE0, hX0⟩ := h
  refine sm_aloadN hX td_L_257 rfl ?_
  refine sm_aloadN hX td_L_258 rfl ?_
  refine sm_iloadN hX td_L_259 rfl ?_
  refine sm_iconst hX td_L_260 ?_
  refine sm_iadd hX td_L_261 ?_
  refine sm_sld hX hS (lw_in i0 i1 hN 1 (by decide) (by decide)) td_L_262 ?_
  refine sm_if_eq hX 270 td_L_263 (by decide) (fun z0 => ?_) (fun z0 => ?_)
  · refine sm_iconst hX td_L_270 ?_
    refine sm_aloadN hX td_L_271 rfl ?_
    refine sm_iloadN hX td_L_272 rfl ?_
    refine sm_iconst hX td_L_273 ?_
    refine sm_iadd hX td_L_274 ?_
    refine sm_sld hX hS (lw_in i0 i1 hN 2 (by decide) (by decide)) td_L_275 ?_
    refine sm_aloadN hX td_L_276 rfl ?_
    refine sm_iloadN hX td_L_277 rfl ?_
    refine sm_iconst hX td_L_278 ?_
    refine sm_iadd hX td_L_279 ?_
    refine sm_sld hX hS (lw_in i0 i1 hN 3 (by decide) (by decide)) td_L_280 ?_
    refine tb_vL_5 _ X _ _ _ _ _ _ hZ hX _ _ [] ad ev_s2 μ [.ref 0, .int (Int32.ofInt (0)), .int (xs (Int32.ofInt i + Int32.ofInt (2)).toNatClampNeg), .int (xs (Int32.ofInt i + Int32.ofInt (3)).toNatClampNeg)] _ _ rfl ⟨0, _, _, rfl, rfl⟩ (lw_86 hZ gm0 hC0 hX0 ad _ _ _) (by decide) (by decide) (by decide) (by decide) (Nat.le_of_ble_eq_true rfl) td_L_281 (fun v ad' sh' μ1 e1 e2 hag hq => ?_)
    obtain ⟨⟨v1, rfl, p1⟩, rfl, gm1, f1⟩ := hq
    have hC1 : CI (wk_of μ1).1 := CI_fr f1 rfl (by decide) hC0
    have hR1 : RI (wk_of μ1).1 := RI_fr f1 (by decide) rfl hR0
    have l1 := congrFun (f1 38 (by decide)).1 ((0 : Nat) : Int)
    have r1 := congrFun (f1 46 (by decide)).1 ((34 : Nat) : Int)
    have s1 := (f1 46 (by decide)).1
    rw [sm_ag_eq hag]
    refine ⟨Or.inl (by decide), ?_⟩
    refine sm_pop hX td_L_284 rfl ?_
    refine sm_aloadN hX td_L_285 rfl ?_
    refine sm_aloadN hX td_L_286 rfl ?_
    refine sm_iloadN hX td_L_287 rfl ?_
    refine sm_iconst hX td_L_288 ?_
    refine sm_iadd hX td_L_289 ?_
    refine sm_sld hX hS (lw_in i0 i1 hN 1 (by decide) (by decide)) td_L_290 ?_
    refine sm_if_eq hX 298 td_L_291 (by decide) (fun z1 => ?_) (fun z1 => ?_)
    · refine sm_iconst hX td_L_298 ?_
      refine sm_aloadN hX td_L_299 rfl ?_
      refine sm_iloadN hX td_L_300 rfl ?_
      refine sm_iconst hX td_L_301 ?_
      refine sm_iadd hX td_L_302 ?_
      refine sm_sld hX hS (lw_in i0 i1 hN 2 (by decide) (by decide)) td_L_303 ?_
      refine sm_aloadN hX td_L_304 rfl ?_
      refine sm_iloadN hX td_L_305 rfl ?_
      refine sm_iconst hX td_L_306 ?_
      refine sm_iadd hX td_L_307 ?_
      refine sm_sld hX hS (lw_in i0 i1 hN 3 (by decide) (by decide)) td_L_308 ?_
      refine tb_vL_34 _ X _ _ _ _ _ _ hZ hX _ _ [] ad ev_s2 μ1 [.ref 46, .int (Int32.ofInt (0)), .int (xs (Int32.ofInt i + Int32.ofInt (2)).toNatClampNeg), .int (xs (Int32.ofInt i + Int32.ofInt (3)).toNatClampNeg)] _ _ rfl ⟨46, _, _, rfl, rfl⟩ (lw_198 hZ gm1 hR1 ad _ _ _) (by decide) (by decide) (by decide) (by decide) (Nat.le_of_ble_eq_true rfl) td_L_309 (fun v ad' sh' μ2 e1 e2 hag hq => ?_)
      obtain ⟨⟨v2, rfl, p2⟩, rfl, gm2, f2⟩ := hq
      have hC2 : CI (wk_of μ2).1 := CI_fr f2 rfl (by decide) hC1
      have hR2 : RI (wk_of μ2).1 := RI_fr f2 (by decide) rfl hR1
      have l2 := congrFun (f2 38 (by decide)).1 ((0 : Nat) : Int)
      have r2 := congrFun (f2 46 (by decide)).1 ((34 : Nat) : Int)
      have hE2 := LR_keep f1 f2 rfl rfl rfl rfl (congrFun ((f2 46 (by decide)).1.trans s1) _) (congrFun ((f2 46 (by decide)).1.trans s1) _) (congrFun ((f2 46 (by decide)).1.trans s1) _) hE0
      have hX2 := OX_label f1 f2 p1 p2 hL hX0
      have hL2 := (l2.trans (l1.trans hL)).trans (r2.trans r1).symm
      rw [sm_ag_eq hag]
      refine ⟨Or.inl (by decide), ?_⟩
      refine sm_pop hX td_L_312 rfl ?_
      refine sm_goto hX 677 td_L_313 (by decide) ?_
      exact next μ2 ⟨gm2, hC2, hR2, hL2, hE2, hX2⟩
    · exact absurd z0 z1
  · refine sm_iconst hX td_L_266 ?_
    refine sm_goto hX 271 td_L_267 (by decide) ?_
    refine sm_aloadN hX td_L_271 rfl ?_
    refine sm_iloadN hX td_L_272 rfl ?_
    refine sm_iconst hX td_L_273 ?_
    refine sm_iadd hX td_L_274 ?_
    refine sm_sld hX hS (lw_in i0 i1 hN 2 (by decide) (by decide)) td_L_275 ?_
    refine sm_aloadN hX td_L_276 rfl ?_
    refine sm_iloadN hX td_L_277 rfl ?_
    refine sm_iconst hX td_L_278 ?_
    refine sm_iadd hX td_L_279 ?_
    refine sm_sld hX hS (lw_in i0 i1 hN 3 (by decide) (by decide)) td_L_280 ?_
    refine tb_vL_5 _ X _ _ _ _ _ _ hZ hX _ _ [] ad ev_s2 μ [.ref 0, .int (Int32.ofInt (1)), .int (xs (Int32.ofInt i + Int32.ofInt (2)).toNatClampNeg), .int (xs (Int32.ofInt i + Int32.ofInt (3)).toNatClampNeg)] _ _ rfl ⟨0, _, _, rfl, rfl⟩ (lw_86 hZ gm0 hC0 hX0 ad _ _ _) (by decide) (by decide) (by decide) (by decide) (Nat.le_of_ble_eq_true rfl) td_L_281 (fun v ad' sh' μ1 e1 e2 hag hq => ?_)
    obtain ⟨⟨v1, rfl, p1⟩, rfl, gm1, f1⟩ := hq
    have hC1 : CI (wk_of μ1).1 := CI_fr f1 rfl (by decide) hC0
    have hR1 : RI (wk_of μ1).1 := RI_fr f1 (by decide) rfl hR0
    have l1 := congrFun (f1 38 (by decide)).1 ((0 : Nat) : Int)
    have r1 := congrFun (f1 46 (by decide)).1 ((34 : Nat) : Int)
    have s1 := (f1 46 (by decide)).1
    rw [sm_ag_eq hag]
    refine ⟨Or.inl (by decide), ?_⟩
    refine sm_pop hX td_L_284 rfl ?_
    refine sm_aloadN hX td_L_285 rfl ?_
    refine sm_aloadN hX td_L_286 rfl ?_
    refine sm_iloadN hX td_L_287 rfl ?_
    refine sm_iconst hX td_L_288 ?_
    refine sm_iadd hX td_L_289 ?_
    refine sm_sld hX hS (lw_in i0 i1 hN 1 (by decide) (by decide)) td_L_290 ?_
    refine sm_if_eq hX 298 td_L_291 (by decide) (fun z1 => ?_) (fun z1 => ?_)
    · exact absurd z1 z0
    · refine sm_iconst hX td_L_294 ?_
      refine sm_goto hX 299 td_L_295 (by decide) ?_
      refine sm_aloadN hX td_L_299 rfl ?_
      refine sm_iloadN hX td_L_300 rfl ?_
      refine sm_iconst hX td_L_301 ?_
      refine sm_iadd hX td_L_302 ?_
      refine sm_sld hX hS (lw_in i0 i1 hN 2 (by decide) (by decide)) td_L_303 ?_
      refine sm_aloadN hX td_L_304 rfl ?_
      refine sm_iloadN hX td_L_305 rfl ?_
      refine sm_iconst hX td_L_306 ?_
      refine sm_iadd hX td_L_307 ?_
      refine sm_sld hX hS (lw_in i0 i1 hN 3 (by decide) (by decide)) td_L_308 ?_
      refine tb_vL_34 _ X _ _ _ _ _ _ hZ hX _ _ [] ad ev_s2 μ1 [.ref 46, .int (Int32.ofInt (1)), .int (xs (Int32.ofInt i + Int32.ofInt (2)).toNatClampNeg), .int (xs (Int32.ofInt i + Int32.ofInt (3)).toNatClampNeg)] _ _ rfl ⟨46, _, _, rfl, rfl⟩ (lw_198 hZ gm1 hR1 ad _ _ _) (by decide) (by decide) (by decide) (by decide) (Nat.le_of_ble_eq_true rfl) td_L_309 (fun v ad' sh' μ2 e1 e2 hag hq => ?_)
      obtain ⟨⟨v2, rfl, p2⟩, rfl, gm2, f2⟩ := hq
      have hC2 : CI (wk_of μ2).1 := CI_fr f2 rfl (by decide) hC1
      have hR2 : RI (wk_of μ2).1 := RI_fr f2 (by decide) rfl hR1
      have l2 := congrFun (f2 38 (by decide)).1 ((0 : Nat) : Int)
      have r2 := congrFun (f2 46 (by decide)).1 ((34 : Nat) : Int)
      have hE2 := LR_keep f1 f2 rfl rfl rfl rfl (congrFun ((f2 46 (by decide)).1.trans s1) _) (congrFun ((f2 46 (by decide)).1.trans s1) _) (congrFun ((f2 46 (by decide)).1.trans s1) _) hE0
      have hX2 := OX_label f1 f2 p1 p2 hL hX0
      have hL2 := (l2.trans (l1.trans hL)).trans (r2.trans r1).symm
      rw [sm_ag_eq hag]
      refine ⟨Or.inl (by decide), ?_⟩
      refine sm_pop hX td_L_312 rfl ?_
      refine sm_goto hX 677 td_L_313 (by decide) ?_
      exact next μ2 ⟨gm2, hC2, hR2, hL2, hE2, hX2⟩
theorem lc_6 {X : sm_X} (hX : sm_ok tb_cl X code 4 "ProgramSlicesLaw" tb_W ret room_1 75 8909 false) (hZ : X.1.2.2.2 = tb_N) {ad : Nat → Nat} {xs : Nat → Int32} {Ln : Nat} (hN : Ln ≤ 2560) (hS : sm_scr X (ad 1000) Ln xs) {i : Int} (i0 : 0 ≤ i) (i1 : i + 5 ≤ (Ln : Int)) (next : ∀ μ : sm_M, lwI μ → sm_E tb_cl X 677 [some (.ref 1000), some (.ref 0), some (.ref 46), some (.int (Int32.ofInt i))] [] ad ev_s2 μ) {μ : sm_M} (h : lwI μ) : sm_E tb_cl X 316 [some (.ref 1000), some (.ref 0), some (.ref 46), some (.int (Int32.ofInt i))] [] ad ev_s2 μ := by
  obtain ⟨gm0, hC0, hR0, hL, hE0, hX0⟩ := h
  refine sm_aloadN hX td_L_316 rfl ?_
  refine tb_vL_6 _ X _ _ _ _ _ _ hZ hX _ _ [] ad ev_s2 μ [.ref 0] _ _ rfl ⟨0, _, _, rfl, rfl⟩ (lw_88 hZ gm0 hC0 hX0 ad) (by decide) (by decide) (by decide) (by decide) (Nat.le_of_ble_eq_true rfl) td_L_317 (fun v ad' sh' μ1 e1 e2 hag hq => ?_)
  obtain ⟨⟨v1, rfl, p1⟩, rfl, gm1, f1⟩ := hq
  have hC1 : CI (wk_of μ1).1 := CI_fr f1 rfl (by decide) hC0
  have hR1 : RI (wk_of μ1).1 := RI_fr f1 (by decide) rfl hR0
  have l1 := congrFun (f1 38 (by decide)).1 ((0 : Nat) : Int)
  have r1 := congrFun (f1 46 (by decide)).1 ((34 : Nat) : Int)
  have s1 := (f1 46 (by decide)).1
  rw [sm_ag_eq hag]
  refine ⟨Or.inl (by decide), ?_⟩
  refine sm_aloadN hX td_L_320 rfl ?_
  refine tb_vL_35 _ X _ _ _ _ _ _ hZ hX _ _ [.int (v1)] ad ev_s2 μ1 [.ref 46] _ _ rfl ⟨46, _, _, rfl, rfl⟩ (lw_199 hZ gm1 hR1 ad) (by decide) (by decide) (by decide) (by decide) (Nat.le_of_ble_eq_true rfl) td_L_321 (fun v ad' sh' μ2 e1 e2 hag hq => ?_)
  obtain ⟨⟨v2, rfl, p2⟩, rfl, gm2, f2⟩ := hq
  have hC2 : CI (wk_of μ2).1 := CI_fr f2 rfl (by decide) hC1
  have hR2 : RI (wk_of μ2).1 := RI_fr f2 (by decide) rfl hR1
  have l2 := congrFun (f2 38 (by decide)).1 ((0 : Nat) : Int)
  have r2 := congrFun (f2 46 (by decide)).1 ((34 : Nat) : Int)
  have hE2 := LR_keep f1 f2 rfl rfl rfl rfl (congrFun ((f2 46 (by decide)).1.trans s1) _) (congrFun ((f2 46 (by decide)).1.trans s1) _) (congrFun ((f2 46 (by decide)).1.trans s1) _) hE0
  have hX2 := OX_keep ((f2 38 (by decide)).1.trans (f1 38 (by decide)).1) ((f2 39 (by decide)).1.trans (f1 39 (by decide)).1) ((f2 40 (by decide)).1.trans (f1 40 (by decide)).1) ((f2 41 (by decide)).1.trans (f1 41 (by decide)).1) ((f2 72 (by decide)).1.trans (f1 72 (by decide)).1) ((f2 73 (by decide)).1.trans (f1 73 (by decide)).1) ((f2 74 (by decide)).1.trans (f1 74 (by decide)).1) hX0
  have hL2 := (l2.trans (l1.trans hL)).trans (r2.trans r1).symm
  rw [sm_ag_eq hag]
  refine ⟨Or.inl (by decide), ?_⟩
  exact sm_icmp_eq hX 677 td_L_324 (by decide) (fun _ => next μ2 ⟨gm2, hC2, hR2, hL2, hE2, hX2⟩) (fun z => absurd (Int32.toInt_inj.mp (OX_lat f1 hL hX0 p1.2 p2.2)) z)
theorem lc_7 {X : sm_X} (hX : sm_ok tb_cl X code 4 "ProgramSlicesLaw" tb_W ret room_1 75 8909 false) (hZ : X.1.2.2.2 = tb_N) {ad : Nat → Nat} {xs : Nat → Int32} {Ln : Nat} (hN : Ln ≤ 2560) (hS : sm_scr X (ad 1000) Ln xs) {i : Int} (i0 : 0 ≤ i) (i1 : i + 5 ≤ (Ln : Int)) (next : ∀ μ : sm_M, lwI μ → sm_E tb_cl X 677 [some (.ref 1000), some (.ref 0), some (.ref 46), some (.int (Int32.ofInt i))] [] ad ev_s2 μ) {μ : sm_M} (h : lwI μ) : sm_E tb_cl X 329 [some (.ref 1000), some (.ref 0), some (.ref 46), some (.int (Int32.ofInt i))] [] ad ev_s2 μ := by
  obtain ⟨gm0, hC0, hR0, hL, hE0, hX0⟩ := h
  refine sm_aloadN hX td_L_329 rfl ?_
  refine sm_aloadN hX td_L_330 rfl ?_
  refine sm_iloadN hX td_L_331 rfl ?_
  refine sm_iconst hX td_L_332 ?_
  refine sm_iadd hX td_L_333 ?_
  refine sm_sld hX hS (lw_in i0 i1 hN 1 (by decide) (by decide)) td_L_334 ?_
  refine sm_aloadN hX td_L_335 rfl ?_
  refine sm_iloadN hX td_L_336 rfl ?_
  refine sm_iconst hX td_L_337 ?_
  refine sm_iadd hX td_L_338 ?_
  refine sm_sld hX hS (lw_in i0 i1 hN 2 (by decide) (by decide)) td_L_339 ?_
  refine tb_vL_7 _ X _ _ _ _ _ _ hZ hX _ _ [] ad ev_s2 μ [.ref 0, .int (xs (Int32.ofInt i + Int32.ofInt (1)).toNatClampNeg), .int (xs (Int32.ofInt i + Int32.ofInt (2)).toNatClampNeg)] _ _ rfl ⟨0, _, _, rfl, rfl⟩ (lw_94 hZ gm0 hC0 hX0 ad _ _) (by decide) (by decide) (by decide) (by decide) (Nat.le_of_ble_eq_true rfl) td_L_340 (fun v ad' sh' μ1 e1 e2 hag hq => ?_)
  obtain ⟨⟨v1, rfl, p1⟩, rfl, gm1, f1⟩ := hq
  have hC1 : CI (wk_of μ1).1 := CI_fr f1 rfl (by decide) hC0
  have hR1 : RI (wk_of μ1).1 := RI_fr f1 (by decide) rfl hR0
  have l1 := congrFun (f1 38 (by decide)).1 ((0 : Nat) : Int)
  have r1 := congrFun (f1 46 (by decide)).1 ((34 : Nat) : Int)
  have s1 := (f1 46 (by decide)).1
  rw [sm_ag_eq hag]
  refine ⟨Or.inl (by decide), ?_⟩
  refine sm_pop hX td_L_343 rfl ?_
  refine sm_aloadN hX td_L_344 rfl ?_
  refine sm_aloadN hX td_L_345 rfl ?_
  refine sm_iloadN hX td_L_346 rfl ?_
  refine sm_iconst hX td_L_347 ?_
  refine sm_iadd hX td_L_348 ?_
  refine sm_sld hX hS (lw_in i0 i1 hN 1 (by decide) (by decide)) td_L_349 ?_
  refine sm_aloadN hX td_L_350 rfl ?_
  refine sm_iloadN hX td_L_351 rfl ?_
  refine sm_iconst hX td_L_352 ?_
  refine sm_iadd hX td_L_353 ?_
  refine sm_sld hX hS (lw_in i0 i1 hN 2 (by decide) (by decide)) td_L_354 ?_
  refine tb_vL_22 _ X _ _ _ _ _ _ hZ hX _ _ [] ad ev_s2 μ1 [.ref 46, .int (xs (Int32.ofInt i + Int32.ofInt (1)).toNatClampNeg), .int (xs (Int32.ofInt i + Int32.ofInt (2)).toNatClampNeg)] _ _ rfl ⟨46, _, _, rfl, rfl⟩ (lw_175 hZ gm1 hR1 ad _ _) (by decide) (by decide) (by decide) (by decide) (Nat.le_of_ble_eq_true rfl) td_L_355 (fun v ad' sh' μ2 e1 e2 hag hq => ?_)
  obtain ⟨⟨v2, rfl, p2⟩, rfl, gm2, f2⟩ := hq
  have hC2 : CI (wk_of μ2).1 := CI_fr f2 rfl (by decide) hC1
  have hR2 : RI (wk_of μ2).1 := RI_fr f2 (by decide) rfl hR1
  have l2 := congrFun (f2 38 (by decide)).1 ((0 : Nat) : Int)
  have r2 := congrFun (f2 46 (by decide)).1 ((34 : Nat) : Int)
  have hE2 := LR_keep f1 f2 rfl rfl rfl rfl (congrFun ((f2 46 (by decide)).1.trans s1) _) (congrFun ((f2 46 (by decide)).1.trans s1) _) (congrFun ((f2 46 (by decide)).1.trans s1) _) hE0
  have hX2 := OX_keep ((f2 38 (by decide)).1.trans (f1 38 (by decide)).1) ((f2 39 (by decide)).1.trans (f1 39 (by decide)).1) ((f2 40 (by decide)).1.trans (f1 40 (by decide)).1) ((f2 41 (by decide)).1.trans (f1 41 (by decide)).1) ((f2 72 (by decide)).1.trans (f1 72 (by decide)).1) ((f2 73 (by decide)).1.trans (f1 73 (by decide)).1) ((f2 74 (by decide)).1.trans (f1 74 (by decide)).1) hX0
  have hL2 := (l2.trans (l1.trans hL)).trans (r2.trans r1).symm
  rw [sm_ag_eq hag]
  refine ⟨Or.inl (by decide), ?_⟩
  refine sm_pop hX td_L_358 rfl ?_
  refine sm_goto hX 677 td_L_359 (by decide) ?_
  exact next μ2 ⟨gm2, hC2, hR2, hL2, hE2, hX2⟩
theorem lc_8 {X : sm_X} (hX : sm_ok tb_cl X code 4 "ProgramSlicesLaw" tb_W ret room_1 75 8909 false) (hZ : X.1.2.2.2 = tb_N) {ad : Nat → Nat} {xs : Nat → Int32} {Ln : Nat} (hN : Ln ≤ 2560) (hS : sm_scr X (ad 1000) Ln xs) {i : Int} (i0 : 0 ≤ i) (i1 : i + 5 ≤ (Ln : Int)) (next : ∀ μ : sm_M, lwI μ → sm_E tb_cl X 677 [some (.ref 1000), some (.ref 0), some (.ref 46), some (.int (Int32.ofInt i))] [] ad ev_s2 μ) {μ : sm_M} (h : lwI μ) : sm_E tb_cl X 362 [some (.ref 1000), some (.ref 0), some (.ref 46), some (.int (Int32.ofInt i))] [] ad ev_s2 μ := by
  obtain ⟨gm0, hC0, hR0, hL, hE0, hX0⟩ := h
  refine sm_aloadN hX td_L_362 rfl ?_
  refine sm_aloadN hX td_L_363 rfl ?_
  refine sm_iloadN hX td_L_364 rfl ?_
  refine sm_iconst hX td_L_365 ?_
  refine sm_iadd hX td_L_366 ?_
  refine sm_sld hX hS (lw_in i0 i1 hN 1 (by decide) (by decide)) td_L_367 ?_
  refine sm_aloadN hX td_L_368 rfl ?_
  refine sm_iloadN hX td_L_369 rfl ?_
  refine sm_iconst hX td_L_370 ?_
  refine sm_iadd hX td_L_371 ?_
  refine sm_sld hX hS (lw_in i0 i1 hN 2 (by decide) (by decide)) td_L_372 ?_
  refine sm_aloadN hX td_L_373 rfl ?_
  refine sm_iloadN hX td_L_374 rfl ?_
  refine sm_iconst hX td_L_375 ?_
  refine sm_iadd hX td_L_376 ?_
  refine sm_sld hX hS (lw_in i0 i1 hN 3 (by decide) (by decide)) td_L_377 ?_
  refine tb_vL_8 _ X _ _ _ _ _ _ hZ hX _ _ [] ad ev_s2 μ [.ref 0, .int (xs (Int32.ofInt i + Int32.ofInt (1)).toNatClampNeg), .int (xs (Int32.ofInt i + Int32.ofInt (2)).toNatClampNeg), .int (xs (Int32.ofInt i + Int32.ofInt (3)).toNatClampNeg)] _ _ rfl ⟨0, _, _, rfl, rfl⟩ (lw_96 hZ gm0 hC0 hX0 ad _ _ _) (by decide) (by decide) (by decide) (by decide) (Nat.le_of_ble_eq_true rfl) td_L_378 (fun v ad' sh' μ1 e1 e2 hag hq => ?_)
  obtain ⟨⟨v1, rfl, p1⟩, rfl, gm1, f1⟩ := hq
  have hC1 : CI (wk_of μ1).1 := CI_fr f1 rfl (by decide) hC0
  have hR1 : RI (wk_of μ1).1 := RI_fr f1 (by decide) rfl hR0
  have l1 := congrFun (f1 38 (by decide)).1 ((0 : Nat) : Int)
  have r1 := congrFun (f1 46 (by decide)).1 ((34 : Nat) : Int)
  have s1 := (f1 46 (by decide)).1
  rw [sm_ag_eq hag]
  refine ⟨Or.inl (by decide), ?_⟩
  refine sm_pop hX td_L_381 rfl ?_
  refine sm_aloadN hX td_L_382 rfl ?_
  refine sm_aloadN hX td_L_383 rfl ?_
  refine sm_iloadN hX td_L_384 rfl ?_
  refine sm_iconst hX td_L_385 ?_
  refine sm_iadd hX td_L_386 ?_
  refine sm_sld hX hS (lw_in i0 i1 hN 1 (by decide) (by decide)) td_L_387 ?_
  refine sm_aloadN hX td_L_388 rfl ?_
  refine sm_iloadN hX td_L_389 rfl ?_
  refine sm_iconst hX td_L_390 ?_
  refine sm_iadd hX td_L_391 ?_
  refine sm_sld hX hS (lw_in i0 i1 hN 2 (by decide) (by decide)) td_L_392 ?_
  refine sm_aloadN hX td_L_393 rfl ?_
  refine sm_iloadN hX td_L_394 rfl ?_
  refine sm_iconst hX td_L_395 ?_
  refine sm_iadd hX td_L_396 ?_
  refine sm_sld hX hS (lw_in i0 i1 hN 3 (by decide) (by decide)) td_L_397 ?_
  refine tb_vL_23 _ X _ _ _ _ _ _ hZ hX _ _ [] ad ev_s2 μ1 [.ref 46, .int (xs (Int32.ofInt i + Int32.ofInt (1)).toNatClampNeg), .int (xs (Int32.ofInt i + Int32.ofInt (2)).toNatClampNeg), .int (xs (Int32.ofInt i + Int32.ofInt (3)).toNatClampNeg)] _ _ rfl ⟨46, _, _, rfl, rfl⟩ (lw_176 hZ gm1 hR1 ad _ _ _) (by decide) (by decide) (by decide) (by decide) (Nat.le_of_ble_eq_true rfl) td_L_398 (fun v ad' sh' μ2 e1 e2 hag hq => ?_)
  obtain ⟨⟨v2, rfl, p2⟩, rfl, gm2, f2⟩ := hq
  have hC2 : CI (wk_of μ2).1 := CI_fr f2 rfl (by decide) hC1
  have hR2 : RI (wk_of μ2).1 := RI_fr f2 (by decide) rfl hR1
  have l2 := congrFun (f2 38 (by decide)).1 ((0 : Nat) : Int)
  have r2 := congrFun (f2 46 (by decide)).1 ((34 : Nat) : Int)
  have hE2 := LR_keep f1 f2 rfl rfl rfl rfl (congrFun ((f2 46 (by decide)).1.trans s1) _) (congrFun ((f2 46 (by decide)).1.trans s1) _) (congrFun ((f2 46 (by decide)).1.trans s1) _) hE0
  have hX2 := OX_keep ((f2 38 (by decide)).1.trans (f1 38 (by decide)).1) ((f2 39 (by decide)).1.trans (f1 39 (by decide)).1) ((f2 40 (by decide)).1.trans (f1 40 (by decide)).1) ((f2 41 (by decide)).1.trans (f1 41 (by decide)).1) ((f2 72 (by decide)).1.trans (f1 72 (by decide)).1) ((f2 73 (by decide)).1.trans (f1 73 (by decide)).1) ((f2 74 (by decide)).1.trans (f1 74 (by decide)).1) hX0
  have hL2 := (l2.trans (l1.trans hL)).trans (r2.trans r1).symm
  rw [sm_ag_eq hag]
  refine ⟨Or.inl (by decide), ?_⟩
  refine sm_pop hX td_L_401 rfl ?_
  refine sm_goto hX 677 td_L_402 (by decide) ?_
  exact next μ2 ⟨gm2, hC2, hR2, hL2, hE2, hX2⟩
theorem lc_9 {X : sm_X} (hX : sm_ok tb_cl X code 4 "ProgramSlicesLaw" tb_W ret room_1 75 8909 false) (hZ : X.1.2.2.2 = tb_N) {ad : Nat → Nat} {xs : Nat → Int32} {Ln : Nat} (hN : Ln ≤ 2560) (hS : sm_scr X (ad 1000) Ln xs) {i : Int} (i0 : 0 ≤ i) (i1 : i + 5 ≤ (Ln : Int)) (next : ∀ μ : sm_M, lwI μ → sm_E tb_cl X 677 [some (.ref 1000), some (.ref 0), some (.ref 46), some (.int (Int32.ofInt i))] [] ad ev_s2 μ) {μ : sm_M} (h : lwI μ) : sm_E tb_cl X 405 [some (.ref 1000), some (.ref 0), some (.ref 46), some (.int (Int32.ofInt i))] [] ad ev_s2 μ := by
  obtain ⟨gm0, hC0, hR0, hL, hE0, hX0⟩ := h
  refine sm_aloadN hX td_L_405 rfl ?_
  refine sm_aloadN hX td_L_406 rfl ?_
  refine sm_iloadN hX td_L_407 rfl ?_
  refine sm_iconst hX td_L_408 ?_
  refine sm_iadd hX td_L_409 ?_
  refine sm_sld hX hS (lw_in i0 i1 hN 1 (by decide) (by decide)) td_L_410 ?_
  refine sm_aloadN hX td_L_411 rfl ?_
  refine sm_iloadN hX td_L_412 rfl ?_
  refine sm_iconst hX td_L_413 ?_
  refine sm_iadd hX td_L_414 ?_
  refine sm_sld hX hS (lw_in i0 i1 hN 2 (by decide) (by decide)) td_L_415 ?_
  refine sm_if_eq hX 423 td_L_416 (by decide) (fun z0 => ?_) (fun z0 => ?_)
  · refine sm_iconst hX td_L_423 ?_
    refine tb_vL_9 _ X _ _ _ _ _ _ hZ hX _ _ [] ad ev_s2 μ [.ref 0, .int (xs (Int32.ofInt i + Int32.ofInt (1)).toNatClampNeg), .int (Int32.ofInt (0))] _ _ rfl ⟨0, _, _, rfl, rfl⟩ (lw_97 hZ gm0 hC0 hX0 ad _ _ (by decide) (by decide)) (by decide) (by decide) (by decide) (by decide) (Nat.le_of_ble_eq_true rfl) td_L_424 (fun v ad' sh' μ1 e1 e2 hag hq => ?_)
    obtain ⟨⟨v1, rfl, p1⟩, rfl, gm1, f1⟩ := hq
    have hC1 : CI (wk_of μ1).1 := p1
    have hR1 : RI (wk_of μ1).1 := RI_fr f1 (by decide) rfl hR0
    have l1 := congrFun (f1 38 (by decide)).1 ((0 : Nat) : Int)
    have r1 := congrFun (f1 46 (by decide)).1 ((34 : Nat) : Int)
    have s1 := (f1 46 (by decide)).1
    rw [sm_ag_eq hag]
    refine ⟨Or.inl (by decide), ?_⟩
    refine sm_pop hX td_L_427 rfl ?_
    refine sm_aloadN hX td_L_428 rfl ?_
    refine sm_aloadN hX td_L_429 rfl ?_
    refine sm_iloadN hX td_L_430 rfl ?_
    refine sm_iconst hX td_L_431 ?_
    refine sm_iadd hX td_L_432 ?_
    refine sm_sld hX hS (lw_in i0 i1 hN 1 (by decide) (by decide)) td_L_433 ?_
    refine sm_aloadN hX td_L_434 rfl ?_
    refine sm_iloadN hX td_L_435 rfl ?_
    refine sm_iconst hX td_L_436 ?_
    refine sm_iadd hX td_L_437 ?_
    refine sm_sld hX hS (lw_in i0 i1 hN 2 (by decide) (by decide)) td_L_438 ?_
    refine sm_if_eq hX 446 td_L_439 (by decide) (fun z1 => ?_) (fun z1 => ?_)
    · refine sm_iconst hX td_L_446 ?_
      refine tb_vL_24 _ X _ _ _ _ _ _ hZ hX _ _ [] ad ev_s2 μ1 [.ref 46, .int (xs (Int32.ofInt i + Int32.ofInt (1)).toNatClampNeg), .int (Int32.ofInt (0))] _ _ rfl ⟨46, _, _, rfl, rfl⟩ (lw_177 hZ gm1 hR1 ad _ _) (by decide) (by decide) (by decide) (by decide) (Nat.le_of_ble_eq_true rfl) td_L_447 (fun v ad' sh' μ2 e1 e2 hag hq => ?_)
      obtain ⟨⟨v2, rfl, p2⟩, rfl, gm2, f2⟩ := hq
      have hC2 : CI (wk_of μ2).1 := CI_fr f2 rfl (by decide) hC1
      have hR2 : RI (wk_of μ2).1 := RI_of p2.1 p2.2.1 p2.2.2.1 (fr_57 f2 rfl) hR1
      have l2 := congrFun (f2 38 (by decide)).1 ((0 : Nat) : Int)
      have r2 := p2.2.2.2
      have hE2 := LR_keep f1 f2 rfl rfl rfl rfl (p2.1.trans (congrFun s1 _)) (p2.2.1.trans (congrFun s1 _)) (p2.2.2.1.trans (congrFun s1 _)) hE0
      have hX2 := OX_keep ((f2 38 (by decide)).1.trans (f1 38 (by decide)).1) ((f2 39 (by decide)).1.trans (f1 39 (by decide)).1) ((f2 40 (by decide)).1.trans (f1 40 (by decide)).1) ((f2 41 (by decide)).1.trans (f1 41 (by decide)).1) ((f2 72 (by decide)).1.trans (f1 72 (by decide)).1) ((f2 73 (by decide)).1.trans (f1 73 (by decide)).1) ((f2 74 (by decide)).1.trans (f1 74 (by decide)).1) hX0
      have hL2 := (l2.trans (l1.trans hL)).trans (r2.trans r1).symm
      rw [sm_ag_eq hag]
      refine ⟨Or.inl (by decide), ?_⟩
      refine sm_pop hX td_L_450 rfl ?_
      refine sm_goto hX 677 td_L_451 (by decide) ?_
      exact next μ2 ⟨gm2, hC2, hR2, hL2, hE2, hX2⟩
    · exact absurd z0 z1
  · refine sm_iconst hX td_L_419 ?_
    refine sm_goto hX 424 td_L_420 (by decide) ?_
    refine tb_vL_9 _ X _ _ _ _ _ _ hZ hX _ _ [] ad ev_s2 μ [.ref 0, .int (xs (Int32.ofInt i + Int32.ofInt (1)).toNatClampNeg), .int (Int32.ofInt (1))] _ _ rfl ⟨0, _, _, rfl, rfl⟩ (lw_97 hZ gm0 hC0 hX0 ad _ _ (by decide) (by decide)) (by decide) (by decide) (by decide) (by decide) (Nat.le_of_ble_eq_true rfl) td_L_424 (fun v ad' sh' μ1 e1 e2 hag hq => ?_)
    obtain ⟨⟨v1, rfl, p1⟩, rfl, gm1, f1⟩ := hq
    have hC1 : CI (wk_of μ1).1 := p1
    have hR1 : RI (wk_of μ1).1 := RI_fr f1 (by decide) rfl hR0
    have l1 := congrFun (f1 38 (by decide)).1 ((0 : Nat) : Int)
    have r1 := congrFun (f1 46 (by decide)).1 ((34 : Nat) : Int)
    have s1 := (f1 46 (by decide)).1
    rw [sm_ag_eq hag]
    refine ⟨Or.inl (by decide), ?_⟩
    refine sm_pop hX td_L_427 rfl ?_
    refine sm_aloadN hX td_L_428 rfl ?_
    refine sm_aloadN hX td_L_429 rfl ?_
    refine sm_iloadN hX td_L_430 rfl ?_
    refine sm_iconst hX td_L_431 ?_
    refine sm_iadd hX td_L_432 ?_
    refine sm_sld hX hS (lw_in i0 i1 hN 1 (by decide) (by decide)) td_L_433 ?_
    refine sm_aloadN hX td_L_434 rfl ?_
    refine sm_iloadN hX td_L_435 rfl ?_
    refine sm_iconst hX td_L_436 ?_
    refine sm_iadd hX td_L_437 ?_
    refine sm_sld hX hS (lw_in i0 i1 hN 2 (by decide) (by decide)) td_L_438 ?_
    refine sm_if_eq hX 446 td_L_439 (by decide) (fun z1 => ?_) (fun z1 => ?_)
    · exact absurd z1 z0
    · refine sm_iconst hX td_L_442 ?_
      refine sm_goto hX 447 td_L_443 (by decide) ?_
      refine tb_vL_24 _ X _ _ _ _ _ _ hZ hX _ _ [] ad ev_s2 μ1 [.ref 46, .int (xs (Int32.ofInt i + Int32.ofInt (1)).toNatClampNeg), .int (Int32.ofInt (1))] _ _ rfl ⟨46, _, _, rfl, rfl⟩ (lw_177 hZ gm1 hR1 ad _ _) (by decide) (by decide) (by decide) (by decide) (Nat.le_of_ble_eq_true rfl) td_L_447 (fun v ad' sh' μ2 e1 e2 hag hq => ?_)
      obtain ⟨⟨v2, rfl, p2⟩, rfl, gm2, f2⟩ := hq
      have hC2 : CI (wk_of μ2).1 := CI_fr f2 rfl (by decide) hC1
      have hR2 : RI (wk_of μ2).1 := RI_of p2.1 p2.2.1 p2.2.2.1 (fr_57 f2 rfl) hR1
      have l2 := congrFun (f2 38 (by decide)).1 ((0 : Nat) : Int)
      have r2 := p2.2.2.2
      have hE2 := LR_keep f1 f2 rfl rfl rfl rfl (p2.1.trans (congrFun s1 _)) (p2.2.1.trans (congrFun s1 _)) (p2.2.2.1.trans (congrFun s1 _)) hE0
      have hX2 := OX_keep ((f2 38 (by decide)).1.trans (f1 38 (by decide)).1) ((f2 39 (by decide)).1.trans (f1 39 (by decide)).1) ((f2 40 (by decide)).1.trans (f1 40 (by decide)).1) ((f2 41 (by decide)).1.trans (f1 41 (by decide)).1) ((f2 72 (by decide)).1.trans (f1 72 (by decide)).1) ((f2 73 (by decide)).1.trans (f1 73 (by decide)).1) ((f2 74 (by decide)).1.trans (f1 74 (by decide)).1) hX0
      have hL2 := (l2.trans (l1.trans hL)).trans (r2.trans r1).symm
      rw [sm_ag_eq hag]
      refine ⟨Or.inl (by decide), ?_⟩
      refine sm_pop hX td_L_450 rfl ?_
      refine sm_goto hX 677 td_L_451 (by decide) ?_
      exact next μ2 ⟨gm2, hC2, hR2, hL2, hE2, hX2⟩
theorem lc_10 {X : sm_X} (hX : sm_ok tb_cl X code 4 "ProgramSlicesLaw" tb_W ret room_1 75 8909 false) (hZ : X.1.2.2.2 = tb_N) {ad : Nat → Nat} {xs : Nat → Int32} {Ln : Nat} (hN : Ln ≤ 2560) (hS : sm_scr X (ad 1000) Ln xs) {i : Int} (i0 : 0 ≤ i) (i1 : i + 5 ≤ (Ln : Int)) (next : ∀ μ : sm_M, lwI μ → sm_E tb_cl X 677 [some (.ref 1000), some (.ref 0), some (.ref 46), some (.int (Int32.ofInt i))] [] ad ev_s2 μ) {μ : sm_M} (h : lwI μ) : sm_E tb_cl X 454 [some (.ref 1000), some (.ref 0), some (.ref 46), some (.int (Int32.ofInt i))] [] ad ev_s2 μ := by
  obtain ⟨gm0, hC0, hR0, hL, hE0, hX0⟩ := h
  refine sm_aloadN hX td_L_454 rfl ?_
  refine tb_vL_10 _ X _ _ _ _ _ _ hZ hX _ _ [] ad ev_s2 μ [.ref 0] _ _ rfl ⟨0, _, _, rfl, rfl⟩ (lw_101 hZ gm0 hC0 hX0 ad) (by decide) (by decide) (by decide) (by decide) (Nat.le_of_ble_eq_true rfl) td_L_455 (fun v ad' sh' μ1 e1 e2 hag hq => ?_)
  obtain ⟨⟨v1, rfl, p1⟩, rfl, gm1, f1⟩ := hq
  have hC1 : CI (wk_of μ1).1 := p1
  have hR1 : RI (wk_of μ1).1 := RI_fr f1 (by decide) rfl hR0
  have l1 := congrFun (f1 38 (by decide)).1 ((0 : Nat) : Int)
  have r1 := congrFun (f1 46 (by decide)).1 ((34 : Nat) : Int)
  have s1 := (f1 46 (by decide)).1
  rw [sm_ag_eq hag]
  refine ⟨Or.inl (by decide), ?_⟩
  refine sm_pop hX td_L_458 rfl ?_
  refine sm_aloadN hX td_L_459 rfl ?_
  refine tb_vL_25 _ X _ _ _ _ _ _ hZ hX _ _ [] ad ev_s2 μ1 [.ref 46] _ _ rfl ⟨46, _, _, rfl, rfl⟩ (lw_180 hZ gm1 hR1 ad) (by decide) (by decide) (by decide) (by decide) (Nat.le_of_ble_eq_true rfl) td_L_460 (fun v ad' sh' μ2 e1 e2 hag hq => ?_)
  obtain ⟨⟨v2, rfl, p2⟩, rfl, gm2, f2⟩ := hq
  have hC2 : CI (wk_of μ2).1 := CI_fr f2 rfl (by decide) hC1
  have hR2 : RI (wk_of μ2).1 := RI_of p2.1 p2.2.1 p2.2.2.1 (fr_57 f2 rfl) hR1
  have l2 := congrFun (f2 38 (by decide)).1 ((0 : Nat) : Int)
  have r2 := p2.2.2.2
  have hE2 := LR_keep f1 f2 rfl rfl rfl rfl (p2.1.trans (congrFun s1 _)) (p2.2.1.trans (congrFun s1 _)) (p2.2.2.1.trans (congrFun s1 _)) hE0
  have hX2 := OX_keep ((f2 38 (by decide)).1.trans (f1 38 (by decide)).1) ((f2 39 (by decide)).1.trans (f1 39 (by decide)).1) ((f2 40 (by decide)).1.trans (f1 40 (by decide)).1) ((f2 41 (by decide)).1.trans (f1 41 (by decide)).1) ((f2 72 (by decide)).1.trans (f1 72 (by decide)).1) ((f2 73 (by decide)).1.trans (f1 73 (by decide)).1) ((f2 74 (by decide)).1.trans (f1 74 (by decide)).1) hX0
  have hL2 := (l2.trans (l1.trans hL)).trans (r2.trans r1).symm
  rw [sm_ag_eq hag]
  refine ⟨Or.inl (by decide), ?_⟩
  refine sm_pop hX td_L_463 rfl ?_
  refine sm_goto hX 677 td_L_464 (by decide) ?_
  exact next μ2 ⟨gm2, hC2, hR2, hL2, hE2, hX2⟩
theorem lc_11 {X : sm_X} (hX : sm_ok tb_cl X code 4 "ProgramSlicesLaw" tb_W ret room_1 75 8909 false) (hZ : X.1.2.2.2 = tb_N) {ad : Nat → Nat} {xs : Nat → Int32} {Ln : Nat} (hN : Ln ≤ 2560) (hS : sm_scr X (ad 1000) Ln xs) {i : Int} (i0 : 0 ≤ i) (i1 : i + 5 ≤ (Ln : Int)) (next : ∀ μ : sm_M, lwI μ → sm_E tb_cl X 677 [some (.ref 1000), some (.ref 0), some (.ref 46), some (.int (Int32.ofInt i))] [] ad ev_s2 μ) {μ : sm_M} (h : lwI μ) : sm_E tb_cl X 467 [some (.ref 1000), some (.ref 0), some (.ref 46), some (.int (Int32.ofInt i))] [] ad ev_s2 μ := by
  obtain ⟨gm0, hC0, hR0, hL, hE0, hX0⟩ := h
  refine sm_aloadN hX td_L_467 rfl ?_
  refine sm_aloadN hX td_L_468 rfl ?_
  refine sm_iloadN hX td_L_469 rfl ?_
  refine sm_iconst hX td_L_470 ?_
  refine sm_iadd hX td_L_471 ?_
  refine sm_sld hX hS (lw_in i0 i1 hN 1 (by decide) (by decide)) td_L_472 ?_
  refine tb_vL_11 _ X _ _ _ _ _ _ hZ hX _ _ [] ad ev_s2 μ [.ref 0, .int (xs (Int32.ofInt i + Int32.ofInt (1)).toNatClampNeg)] _ _ rfl ⟨0, _, _, rfl, rfl⟩ (lw_106 hZ gm0 hC0 hX0 ad _) (by decide) (by decide) (by decide) (by decide) (Nat.le_of_ble_eq_true rfl) td_L_473 (fun v ad' sh' μ1 e1 e2 hag hq => ?_)
  obtain ⟨⟨v1, rfl, p1⟩, rfl, gm1, f1⟩ := hq
  have hC1 : CI (wk_of μ1).1 := CI_fr f1 rfl (by decide) hC0
  have hR1 : RI (wk_of μ1).1 := RI_fr f1 (by decide) rfl hR0
  have l1 := congrFun (f1 38 (by decide)).1 ((0 : Nat) : Int)
  have r1 := congrFun (f1 46 (by decide)).1 ((34 : Nat) : Int)
  have s1 := (f1 46 (by decide)).1
  rw [sm_ag_eq hag]
  refine ⟨Or.inl (by decide), ?_⟩
  refine sm_pop hX td_L_476 rfl ?_
  refine sm_aloadN hX td_L_477 rfl ?_
  refine sm_aloadN hX td_L_478 rfl ?_
  refine sm_iloadN hX td_L_479 rfl ?_
  refine sm_iconst hX td_L_480 ?_
  refine sm_iadd hX td_L_481 ?_
  refine sm_sld hX hS (lw_in i0 i1 hN 1 (by decide) (by decide)) td_L_482 ?_
  refine tb_vL_26 _ X _ _ _ _ _ _ hZ hX _ _ [] ad ev_s2 μ1 [.ref 46, .int (xs (Int32.ofInt i + Int32.ofInt (1)).toNatClampNeg)] _ _ rfl ⟨46, _, _, rfl, rfl⟩ (lw_182 hZ gm1 hR1 ad _) (by decide) (by decide) (by decide) (by decide) (Nat.le_of_ble_eq_true rfl) td_L_483 (fun v ad' sh' μ2 e1 e2 hag hq => ?_)
  obtain ⟨⟨v2, rfl, p2⟩, rfl, gm2, f2⟩ := hq
  have hC2 : CI (wk_of μ2).1 := CI_fr f2 rfl (by decide) hC1
  have hR2 : RI (wk_of μ2).1 := RI_fr f2 (by decide) rfl hR1
  have l2 := congrFun (f2 38 (by decide)).1 ((0 : Nat) : Int)
  have r2 := congrFun (f2 46 (by decide)).1 ((34 : Nat) : Int)
  have hE2 := LR_keep f1 f2 rfl rfl rfl rfl (congrFun ((f2 46 (by decide)).1.trans s1) _) (congrFun ((f2 46 (by decide)).1.trans s1) _) (congrFun ((f2 46 (by decide)).1.trans s1) _) hE0
  have hX2 := OX_keep ((f2 38 (by decide)).1.trans (f1 38 (by decide)).1) ((f2 39 (by decide)).1.trans (f1 39 (by decide)).1) ((f2 40 (by decide)).1.trans (f1 40 (by decide)).1) ((f2 41 (by decide)).1.trans (f1 41 (by decide)).1) ((f2 72 (by decide)).1.trans (f1 72 (by decide)).1) ((f2 73 (by decide)).1.trans (f1 73 (by decide)).1) ((f2 74 (by decide)).1.trans (f1 74 (by decide)).1) hX0
  have hL2 := (l2.trans (l1.trans hL)).trans (r2.trans r1).symm
  rw [sm_ag_eq hag]
  refine ⟨Or.inl (by decide), ?_⟩
  refine sm_pop hX td_L_486 rfl ?_
  refine sm_goto hX 677 td_L_487 (by decide) ?_
  exact next μ2 ⟨gm2, hC2, hR2, hL2, hE2, hX2⟩
theorem lc_12 {X : sm_X} (hX : sm_ok tb_cl X code 4 "ProgramSlicesLaw" tb_W ret room_1 75 8909 false) (hZ : X.1.2.2.2 = tb_N) {ad : Nat → Nat} {xs : Nat → Int32} {Ln : Nat} (hN : Ln ≤ 2560) (hS : sm_scr X (ad 1000) Ln xs) {i : Int} (i0 : 0 ≤ i) (i1 : i + 5 ≤ (Ln : Int)) (next : ∀ μ : sm_M, lwI μ → sm_E tb_cl X 677 [some (.ref 1000), some (.ref 0), some (.ref 46), some (.int (Int32.ofInt i))] [] ad ev_s2 μ) {μ : sm_M} (h : lwI μ) : sm_E tb_cl X 490 [some (.ref 1000), some (.ref 0), some (.ref 46), some (.int (Int32.ofInt i))] [] ad ev_s2 μ := by
  obtain ⟨gm0, hC0, hR0, hL, hE0, hX0⟩ := h
  refine sm_aloadN hX td_L_490 rfl ?_
  refine sm_aloadN hX td_L_491 rfl ?_
  refine sm_iloadN hX td_L_492 rfl ?_
  refine sm_iconst hX td_L_493 ?_
  refine sm_iadd hX td_L_494 ?_
  refine sm_sld hX hS (lw_in i0 i1 hN 1 (by decide) (by decide)) td_L_495 ?_
  refine sm_aloadN hX td_L_496 rfl ?_
  refine sm_iloadN hX td_L_497 rfl ?_
  refine sm_iconst hX td_L_498 ?_
  refine sm_iadd hX td_L_499 ?_
  refine sm_sld hX hS (lw_in i0 i1 hN 2 (by decide) (by decide)) td_L_500 ?_
  refine tb_vL_12 _ X _ _ _ _ _ _ hZ hX _ _ [] ad ev_s2 μ [.ref 0, .int (xs (Int32.ofInt i + Int32.ofInt (1)).toNatClampNeg), .int (xs (Int32.ofInt i + Int32.ofInt (2)).toNatClampNeg)] _ _ rfl ⟨0, _, _, rfl, rfl⟩ (lw_109 hZ gm0 hC0 hX0 ad _ _) (by decide) (by decide) (by decide) (by decide) (Nat.le_of_ble_eq_true rfl) td_L_501 (fun v ad' sh' μ1 e1 e2 hag hq => ?_)
  obtain ⟨⟨v1, rfl, p1⟩, rfl, gm1, f1⟩ := hq
  have hC1 : CI (wk_of μ1).1 := CI_fr f1 rfl (by decide) hC0
  have hR1 : RI (wk_of μ1).1 := RI_fr f1 (by decide) rfl hR0
  have l1 := congrFun (f1 38 (by decide)).1 ((0 : Nat) : Int)
  have r1 := congrFun (f1 46 (by decide)).1 ((34 : Nat) : Int)
  have s1 := (f1 46 (by decide)).1
  rw [sm_ag_eq hag]
  refine ⟨Or.inl (by decide), ?_⟩
  refine sm_pop hX td_L_504 rfl ?_
  refine sm_aloadN hX td_L_505 rfl ?_
  refine sm_aloadN hX td_L_506 rfl ?_
  refine sm_iloadN hX td_L_507 rfl ?_
  refine sm_iconst hX td_L_508 ?_
  refine sm_iadd hX td_L_509 ?_
  refine sm_sld hX hS (lw_in i0 i1 hN 1 (by decide) (by decide)) td_L_510 ?_
  refine sm_aloadN hX td_L_511 rfl ?_
  refine sm_iloadN hX td_L_512 rfl ?_
  refine sm_iconst hX td_L_513 ?_
  refine sm_iadd hX td_L_514 ?_
  refine sm_sld hX hS (lw_in i0 i1 hN 2 (by decide) (by decide)) td_L_515 ?_
  refine tb_vL_27 _ X _ _ _ _ _ _ hZ hX _ _ [] ad ev_s2 μ1 [.ref 46, .int (xs (Int32.ofInt i + Int32.ofInt (1)).toNatClampNeg), .int (xs (Int32.ofInt i + Int32.ofInt (2)).toNatClampNeg)] _ _ rfl ⟨46, _, _, rfl, rfl⟩ (lw_183 hZ gm1 hR1 ad _ _) (by decide) (by decide) (by decide) (by decide) (Nat.le_of_ble_eq_true rfl) td_L_516 (fun v ad' sh' μ2 e1 e2 hag hq => ?_)
  obtain ⟨⟨v2, rfl, p2⟩, rfl, gm2, f2⟩ := hq
  have hC2 : CI (wk_of μ2).1 := CI_fr f2 rfl (by decide) hC1
  have hR2 : RI (wk_of μ2).1 := RI_fr f2 (by decide) rfl hR1
  have l2 := congrFun (f2 38 (by decide)).1 ((0 : Nat) : Int)
  have r2 := congrFun (f2 46 (by decide)).1 ((34 : Nat) : Int)
  have hE2 := LR_keep f1 f2 rfl rfl rfl rfl (congrFun ((f2 46 (by decide)).1.trans s1) _) (congrFun ((f2 46 (by decide)).1.trans s1) _) (congrFun ((f2 46 (by decide)).1.trans s1) _) hE0
  have hX2 := OX_keep ((f2 38 (by decide)).1.trans (f1 38 (by decide)).1) ((f2 39 (by decide)).1.trans (f1 39 (by decide)).1) ((f2 40 (by decide)).1.trans (f1 40 (by decide)).1) ((f2 41 (by decide)).1.trans (f1 41 (by decide)).1) ((f2 72 (by decide)).1.trans (f1 72 (by decide)).1) ((f2 73 (by decide)).1.trans (f1 73 (by decide)).1) ((f2 74 (by decide)).1.trans (f1 74 (by decide)).1) hX0
  have hL2 := (l2.trans (l1.trans hL)).trans (r2.trans r1).symm
  rw [sm_ag_eq hag]
  refine ⟨Or.inl (by decide), ?_⟩
  refine sm_pop hX td_L_519 rfl ?_
  refine sm_goto hX 677 td_L_520 (by decide) ?_
  exact next μ2 ⟨gm2, hC2, hR2, hL2, hE2, hX2⟩
theorem lc_13 {X : sm_X} (hX : sm_ok tb_cl X code 4 "ProgramSlicesLaw" tb_W ret room_1 75 8909 false) (hZ : X.1.2.2.2 = tb_N) {ad : Nat → Nat} {xs : Nat → Int32} {Ln : Nat} (hN : Ln ≤ 2560) (hS : sm_scr X (ad 1000) Ln xs) {i : Int} (i0 : 0 ≤ i) (i1 : i + 5 ≤ (Ln : Int)) (next : ∀ μ : sm_M, lwI μ → sm_E tb_cl X 677 [some (.ref 1000), some (.ref 0), some (.ref 46), some (.int (Int32.ofInt i))] [] ad ev_s2 μ) {μ : sm_M} (h : lwI μ) : sm_E tb_cl X 523 [some (.ref 1000), some (.ref 0), some (.ref 46), some (.int (Int32.ofInt i))] [] ad ev_s2 μ := by
  obtain ⟨gm0, hC0, hR0, hL, hE0, hX0⟩ := h
  refine sm_aloadN hX td_L_523 rfl ?_
  refine sm_aloadN hX td_L_524 rfl ?_
  refine sm_iloadN hX td_L_525 rfl ?_
  refine sm_iconst hX td_L_526 ?_
  refine sm_iadd hX td_L_527 ?_
  refine sm_sld hX hS (lw_in i0 i1 hN 1 (by decide) (by decide)) td_L_528 ?_
  refine sm_if_eq hX 536 td_L_529 (by decide) (fun z0 => ?_) (fun z0 => ?_)
  · refine sm_iconst hX td_L_536 ?_
    refine sm_aloadN hX td_L_537 rfl ?_
    refine sm_iloadN hX td_L_538 rfl ?_
    refine sm_iconst hX td_L_539 ?_
    refine sm_iadd hX td_L_540 ?_
    refine sm_sld hX hS (lw_in i0 i1 hN 2 (by decide) (by decide)) td_L_541 ?_
    refine tb_vL_13 _ X _ _ _ _ _ _ hZ hX _ _ [] ad ev_s2 μ [.ref 0, .int (Int32.ofInt (0)), .int (xs (Int32.ofInt i + Int32.ofInt (2)).toNatClampNeg)] _ _ rfl ⟨0, _, _, rfl, rfl⟩ (lw_111 hZ gm0 hC0 hX0 ad _ _) (by decide) (by decide) (by decide) (by decide) (Nat.le_of_ble_eq_true rfl) td_L_542 (fun v ad' sh' μ1 e1 e2 hag hq => ?_)
    obtain ⟨⟨v1, rfl, p1⟩, rfl, gm1, f1⟩ := hq
    have hC1 : CI (wk_of μ1).1 := CI_fr f1 rfl (by decide) hC0
    have hR1 : RI (wk_of μ1).1 := RI_fr f1 (by decide) rfl hR0
    have l1 := congrFun (f1 38 (by decide)).1 ((0 : Nat) : Int)
    have r1 := congrFun (f1 46 (by decide)).1 ((34 : Nat) : Int)
    have s1 := (f1 46 (by decide)).1
    rw [sm_ag_eq hag]
    refine ⟨Or.inl (by decide), ?_⟩
    refine sm_pop hX td_L_545 rfl ?_
    refine sm_aloadN hX td_L_546 rfl ?_
    refine sm_aloadN hX td_L_547 rfl ?_
    refine sm_iloadN hX td_L_548 rfl ?_
    refine sm_iconst hX td_L_549 ?_
    refine sm_iadd hX td_L_550 ?_
    refine sm_sld hX hS (lw_in i0 i1 hN 1 (by decide) (by decide)) td_L_551 ?_
    refine sm_if_eq hX 559 td_L_552 (by decide) (fun z1 => ?_) (fun z1 => ?_)
    · refine sm_iconst hX td_L_559 ?_
      refine sm_aloadN hX td_L_560 rfl ?_
      refine sm_iloadN hX td_L_561 rfl ?_
      refine sm_iconst hX td_L_562 ?_
      refine sm_iadd hX td_L_563 ?_
      refine sm_sld hX hS (lw_in i0 i1 hN 2 (by decide) (by decide)) td_L_564 ?_
      refine tb_vL_28 _ X _ _ _ _ _ _ hZ hX _ _ [] ad ev_s2 μ1 [.ref 46, .int (Int32.ofInt (0)), .int (xs (Int32.ofInt i + Int32.ofInt (2)).toNatClampNeg)] _ _ rfl ⟨46, _, _, rfl, rfl⟩ (lw_184 hZ gm1 hR1 ad _ _) (by decide) (by decide) (by decide) (by decide) (Nat.le_of_ble_eq_true rfl) td_L_565 (fun v ad' sh' μ2 e1 e2 hag hq => ?_)
      obtain ⟨⟨v2, rfl, p2⟩, rfl, gm2, f2⟩ := hq
      have hC2 : CI (wk_of μ2).1 := CI_fr f2 rfl (by decide) hC1
      have hR2 : RI (wk_of μ2).1 := RI_of p2.1 p2.2.1 p2.2.2.1 (fr_57 f2 rfl) hR1
      have l2 := congrFun (f2 38 (by decide)).1 ((0 : Nat) : Int)
      have r2 := p2.2.2.2
      have hE2 := LR_keep f1 f2 rfl rfl rfl rfl (p2.1.trans (congrFun s1 _)) (p2.2.1.trans (congrFun s1 _)) (p2.2.2.1.trans (congrFun s1 _)) hE0
      have hX2 := OX_keep ((f2 38 (by decide)).1.trans (f1 38 (by decide)).1) ((f2 39 (by decide)).1.trans (f1 39 (by decide)).1) ((f2 40 (by decide)).1.trans (f1 40 (by decide)).1) ((f2 41 (by decide)).1.trans (f1 41 (by decide)).1) ((f2 72 (by decide)).1.trans (f1 72 (by decide)).1) ((f2 73 (by decide)).1.trans (f1 73 (by decide)).1) ((f2 74 (by decide)).1.trans (f1 74 (by decide)).1) hX0
      have hL2 := (l2.trans (l1.trans hL)).trans (r2.trans r1).symm
      rw [sm_ag_eq hag]
      refine ⟨Or.inl (by decide), ?_⟩
      refine sm_pop hX td_L_568 rfl ?_
      refine sm_goto hX 677 td_L_569 (by decide) ?_
      exact next μ2 ⟨gm2, hC2, hR2, hL2, hE2, hX2⟩
    · exact absurd z0 z1
  · refine sm_iconst hX td_L_532 ?_
    refine sm_goto hX 537 td_L_533 (by decide) ?_
    refine sm_aloadN hX td_L_537 rfl ?_
    refine sm_iloadN hX td_L_538 rfl ?_
    refine sm_iconst hX td_L_539 ?_
    refine sm_iadd hX td_L_540 ?_
    refine sm_sld hX hS (lw_in i0 i1 hN 2 (by decide) (by decide)) td_L_541 ?_
    refine tb_vL_13 _ X _ _ _ _ _ _ hZ hX _ _ [] ad ev_s2 μ [.ref 0, .int (Int32.ofInt (1)), .int (xs (Int32.ofInt i + Int32.ofInt (2)).toNatClampNeg)] _ _ rfl ⟨0, _, _, rfl, rfl⟩ (lw_111 hZ gm0 hC0 hX0 ad _ _) (by decide) (by decide) (by decide) (by decide) (Nat.le_of_ble_eq_true rfl) td_L_542 (fun v ad' sh' μ1 e1 e2 hag hq => ?_)
    obtain ⟨⟨v1, rfl, p1⟩, rfl, gm1, f1⟩ := hq
    have hC1 : CI (wk_of μ1).1 := CI_fr f1 rfl (by decide) hC0
    have hR1 : RI (wk_of μ1).1 := RI_fr f1 (by decide) rfl hR0
    have l1 := congrFun (f1 38 (by decide)).1 ((0 : Nat) : Int)
    have r1 := congrFun (f1 46 (by decide)).1 ((34 : Nat) : Int)
    have s1 := (f1 46 (by decide)).1
    rw [sm_ag_eq hag]
    refine ⟨Or.inl (by decide), ?_⟩
    refine sm_pop hX td_L_545 rfl ?_
    refine sm_aloadN hX td_L_546 rfl ?_
    refine sm_aloadN hX td_L_547 rfl ?_
    refine sm_iloadN hX td_L_548 rfl ?_
    refine sm_iconst hX td_L_549 ?_
    refine sm_iadd hX td_L_550 ?_
    refine sm_sld hX hS (lw_in i0 i1 hN 1 (by decide) (by decide)) td_L_551 ?_
    refine sm_if_eq hX 559 td_L_552 (by decide) (fun z1 => ?_) (fun z1 => ?_)
    · exact absurd z1 z0
    · refine sm_iconst hX td_L_555 ?_
      refine sm_goto hX 560 td_L_556 (by decide) ?_
      refine sm_aloadN hX td_L_560 rfl ?_
      refine sm_iloadN hX td_L_561 rfl ?_
      refine sm_iconst hX td_L_562 ?_
      refine sm_iadd hX td_L_563 ?_
      refine sm_sld hX hS (lw_in i0 i1 hN 2 (by decide) (by decide)) td_L_564 ?_
      refine tb_vL_28 _ X _ _ _ _ _ _ hZ hX _ _ [] ad ev_s2 μ1 [.ref 46, .int (Int32.ofInt (1)), .int (xs (Int32.ofInt i + Int32.ofInt (2)).toNatClampNeg)] _ _ rfl ⟨46, _, _, rfl, rfl⟩ (lw_184 hZ gm1 hR1 ad _ _) (by decide) (by decide) (by decide) (by decide) (Nat.le_of_ble_eq_true rfl) td_L_565 (fun v ad' sh' μ2 e1 e2 hag hq => ?_)
      obtain ⟨⟨v2, rfl, p2⟩, rfl, gm2, f2⟩ := hq
      have hC2 : CI (wk_of μ2).1 := CI_fr f2 rfl (by decide) hC1
      have hR2 : RI (wk_of μ2).1 := RI_of p2.1 p2.2.1 p2.2.2.1 (fr_57 f2 rfl) hR1
      have l2 := congrFun (f2 38 (by decide)).1 ((0 : Nat) : Int)
      have r2 := p2.2.2.2
      have hE2 := LR_keep f1 f2 rfl rfl rfl rfl (p2.1.trans (congrFun s1 _)) (p2.2.1.trans (congrFun s1 _)) (p2.2.2.1.trans (congrFun s1 _)) hE0
      have hX2 := OX_keep ((f2 38 (by decide)).1.trans (f1 38 (by decide)).1) ((f2 39 (by decide)).1.trans (f1 39 (by decide)).1) ((f2 40 (by decide)).1.trans (f1 40 (by decide)).1) ((f2 41 (by decide)).1.trans (f1 41 (by decide)).1) ((f2 72 (by decide)).1.trans (f1 72 (by decide)).1) ((f2 73 (by decide)).1.trans (f1 73 (by decide)).1) ((f2 74 (by decide)).1.trans (f1 74 (by decide)).1) hX0
      have hL2 := (l2.trans (l1.trans hL)).trans (r2.trans r1).symm
      rw [sm_ag_eq hag]
      refine ⟨Or.inl (by decide), ?_⟩
      refine sm_pop hX td_L_568 rfl ?_
      refine sm_goto hX 677 td_L_569 (by decide) ?_
      exact next μ2 ⟨gm2, hC2, hR2, hL2, hE2, hX2⟩
theorem lc_14 {X : sm_X} (hX : sm_ok tb_cl X code 4 "ProgramSlicesLaw" tb_W ret room_1 75 8909 false) (hZ : X.1.2.2.2 = tb_N) {ad : Nat → Nat} {xs : Nat → Int32} {Ln : Nat} (hN : Ln ≤ 2560) (hS : sm_scr X (ad 1000) Ln xs) {i : Int} (i0 : 0 ≤ i) (i1 : i + 5 ≤ (Ln : Int)) (next : ∀ μ : sm_M, lwI μ → sm_E tb_cl X 677 [some (.ref 1000), some (.ref 0), some (.ref 46), some (.int (Int32.ofInt i))] [] ad ev_s2 μ) {μ : sm_M} (h : lwI μ) : sm_E tb_cl X 572 [some (.ref 1000), some (.ref 0), some (.ref 46), some (.int (Int32.ofInt i))] [] ad ev_s2 μ := by
  obtain ⟨gm0, hC0, hR0, hL, hE0, hX0⟩ := h
  refine sm_aloadN hX td_L_572 rfl ?_
  refine tb_vL_14 _ X _ _ _ _ _ _ hZ hX _ _ [] ad ev_s2 μ [.ref 0] _ _ rfl ⟨0, _, _, rfl, rfl⟩ (lw_128 hZ gm0 hC0 hX0 ad) (by decide) (by decide) (by decide) (by decide) (Nat.le_of_ble_eq_true rfl) td_L_573 (fun v ad' sh' μ1 e1 e2 hag hq => ?_)
  obtain ⟨⟨v1, rfl, p1⟩, rfl, gm1, f1⟩ := hq
  have hC1 : CI (wk_of μ1).1 := CI_fr f1 rfl (by decide) hC0
  have hR1 : RI (wk_of μ1).1 := RI_fr f1 (by decide) rfl hR0
  have l1 := congrFun (f1 38 (by decide)).1 ((0 : Nat) : Int)
  have r1 := congrFun (f1 46 (by decide)).1 ((34 : Nat) : Int)
  have s1 := (f1 46 (by decide)).1
  rw [sm_ag_eq hag]
  refine ⟨Or.inl (by decide), ?_⟩
  refine sm_pop hX td_L_576 rfl ?_
  refine sm_aloadN hX td_L_577 rfl ?_
  refine tb_vL_29 _ X _ _ _ _ _ _ hZ hX _ _ [] ad ev_s2 μ1 [.ref 46] _ _ rfl ⟨46, _, _, rfl, rfl⟩ (lw_192 hZ gm1 hR1 ad) (by decide) (by decide) (by decide) (by decide) (Nat.le_of_ble_eq_true rfl) td_L_578 (fun v ad' sh' μ2 e1 e2 hag hq => ?_)
  obtain ⟨⟨v2, rfl, p2⟩, rfl, gm2, f2⟩ := hq
  have hC2 : CI (wk_of μ2).1 := CI_fr f2 rfl (by decide) hC1
  have hR2 : RI (wk_of μ2).1 := RI_fr f2 (by decide) rfl hR1
  have l2 := congrFun (f2 38 (by decide)).1 ((0 : Nat) : Int)
  have r2 := congrFun (f2 46 (by decide)).1 ((34 : Nat) : Int)
  have hE2 := LR_keep f1 f2 rfl rfl rfl rfl (congrFun ((f2 46 (by decide)).1.trans s1) _) (congrFun ((f2 46 (by decide)).1.trans s1) _) (congrFun ((f2 46 (by decide)).1.trans s1) _) hE0
  have hX2 := OX_keep ((f2 38 (by decide)).1.trans (f1 38 (by decide)).1) ((f2 39 (by decide)).1.trans (f1 39 (by decide)).1) ((f2 40 (by decide)).1.trans (f1 40 (by decide)).1) ((f2 41 (by decide)).1.trans (f1 41 (by decide)).1) ((f2 72 (by decide)).1.trans (f1 72 (by decide)).1) ((f2 73 (by decide)).1.trans (f1 73 (by decide)).1) ((f2 74 (by decide)).1.trans (f1 74 (by decide)).1) hX0
  have hL2 := (l2.trans (l1.trans hL)).trans (r2.trans r1).symm
  rw [sm_ag_eq hag]
  refine ⟨Or.inl (by decide), ?_⟩
  refine sm_pop hX td_L_581 rfl ?_
  refine sm_goto hX 677 td_L_582 (by decide) ?_
  exact next μ2 ⟨gm2, hC2, hR2, hL2, hE2, hX2⟩
theorem lc_15 {X : sm_X} (hX : sm_ok tb_cl X code 4 "ProgramSlicesLaw" tb_W ret room_1 75 8909 false) (hZ : X.1.2.2.2 = tb_N) {ad : Nat → Nat} {xs : Nat → Int32} {Ln : Nat} (hN : Ln ≤ 2560) (hS : sm_scr X (ad 1000) Ln xs) {i : Int} (i0 : 0 ≤ i) (i1 : i + 5 ≤ (Ln : Int)) (next : ∀ μ : sm_M, lwI μ → sm_E tb_cl X 677 [some (.ref 1000), some (.ref 0), some (.ref 46), some (.int (Int32.ofInt i))] [] ad ev_s2 μ) {μ : sm_M} (h : lwI μ) : sm_E tb_cl X 585 [some (.ref 1000), some (.ref 0), some (.ref 46), some (.int (Int32.ofInt i))] [] ad ev_s2 μ := by
  obtain ⟨gm0, hC0, hR0, hL, hE0, hX0⟩ := h
  refine sm_aloadN hX td_L_585 rfl ?_
  refine sm_aloadN hX td_L_586 rfl ?_
  refine sm_iloadN hX td_L_587 rfl ?_
  refine sm_iconst hX td_L_588 ?_
  refine sm_iadd hX td_L_589 ?_
  refine sm_sld hX hS (lw_in i0 i1 hN 1 (by decide) (by decide)) td_L_590 ?_
  refine tb_vL_15 _ X _ _ _ _ _ _ hZ hX _ _ [] ad ev_s2 μ [.ref 0, .int (xs (Int32.ofInt i + Int32.ofInt (1)).toNatClampNeg)] _ _ rfl ⟨0, _, _, rfl, rfl⟩ (lw_130 hZ gm0 hC0 hX0 ad _) (by decide) (by decide) (by decide) (by decide) (Nat.le_of_ble_eq_true rfl) td_L_591 (fun v ad' sh' μ1 e1 e2 hag hq => ?_)
  obtain ⟨⟨v1, rfl, p1⟩, rfl, gm1, f1⟩ := hq
  have hC1 : CI (wk_of μ1).1 := CI_fr f1 rfl (by decide) hC0
  have hR1 : RI (wk_of μ1).1 := RI_fr f1 (by decide) rfl hR0
  have l1 := congrFun (f1 38 (by decide)).1 ((0 : Nat) : Int)
  have r1 := congrFun (f1 46 (by decide)).1 ((34 : Nat) : Int)
  have s1 := (f1 46 (by decide)).1
  rw [sm_ag_eq hag]
  refine ⟨Or.inl (by decide), ?_⟩
  refine sm_pop hX td_L_594 rfl ?_
  refine sm_aloadN hX td_L_595 rfl ?_
  refine sm_aloadN hX td_L_596 rfl ?_
  refine sm_iloadN hX td_L_597 rfl ?_
  refine sm_iconst hX td_L_598 ?_
  refine sm_iadd hX td_L_599 ?_
  refine sm_sld hX hS (lw_in i0 i1 hN 1 (by decide) (by decide)) td_L_600 ?_
  refine tb_vL_30 _ X _ _ _ _ _ _ hZ hX _ _ [] ad ev_s2 μ1 [.ref 46, .int (xs (Int32.ofInt i + Int32.ofInt (1)).toNatClampNeg)] _ _ rfl ⟨46, _, _, rfl, rfl⟩ (lw_193 hZ gm1 hR1 ad _) (by decide) (by decide) (by decide) (by decide) (Nat.le_of_ble_eq_true rfl) td_L_601 (fun v ad' sh' μ2 e1 e2 hag hq => ?_)
  obtain ⟨⟨v2, rfl, p2⟩, rfl, gm2, f2⟩ := hq
  have hC2 : CI (wk_of μ2).1 := CI_fr f2 rfl (by decide) hC1
  have hR2 : RI (wk_of μ2).1 := RI_fr f2 (by decide) rfl hR1
  have l2 := congrFun (f2 38 (by decide)).1 ((0 : Nat) : Int)
  have r2 := congrFun (f2 46 (by decide)).1 ((34 : Nat) : Int)
  have hE2 := LR_keep f1 f2 rfl rfl rfl rfl (congrFun ((f2 46 (by decide)).1.trans s1) _) (congrFun ((f2 46 (by decide)).1.trans s1) _) (congrFun ((f2 46 (by decide)).1.trans s1) _) hE0
  have hX2 := OX_keep ((f2 38 (by decide)).1.trans (f1 38 (by decide)).1) ((f2 39 (by decide)).1.trans (f1 39 (by decide)).1) ((f2 40 (by decide)).1.trans (f1 40 (by decide)).1) ((f2 41 (by decide)).1.trans (f1 41 (by decide)).1) ((f2 72 (by decide)).1.trans (f1 72 (by decide)).1) ((f2 73 (by decide)).1.trans (f1 73 (by decide)).1) ((f2 74 (by decide)).1.trans (f1 74 (by decide)).1) hX0
  have hL2 := (l2.trans (l1.trans hL)).trans (r2.trans r1).symm
  rw [sm_ag_eq hag]
  refine ⟨Or.inl (by decide), ?_⟩
  refine sm_pop hX td_L_604 rfl ?_
  refine sm_goto hX 677 td_L_605 (by decide) ?_
  exact next μ2 ⟨gm2, hC2, hR2, hL2, hE2, hX2⟩
theorem lc_16 {X : sm_X} (hX : sm_ok tb_cl X code 4 "ProgramSlicesLaw" tb_W ret room_1 75 8909 false) (hZ : X.1.2.2.2 = tb_N) {ad : Nat → Nat} {xs : Nat → Int32} {Ln : Nat} (hN : Ln ≤ 2560) (hS : sm_scr X (ad 1000) Ln xs) {i : Int} (i0 : 0 ≤ i) (i1 : i + 5 ≤ (Ln : Int)) (next : ∀ μ : sm_M, lwI μ → sm_E tb_cl X 677 [some (.ref 1000), some (.ref 0), some (.ref 46), some (.int (Int32.ofInt i))] [] ad ev_s2 μ) {μ : sm_M} (h : lwI μ) : sm_E tb_cl X 608 [some (.ref 1000), some (.ref 0), some (.ref 46), some (.int (Int32.ofInt i))] [] ad ev_s2 μ := by
  obtain ⟨gm0, hC0, hR0, hL, hE0, hX0⟩ := h
  refine sm_aloadN hX td_L_608 rfl ?_
  refine sm_aloadN hX td_L_609 rfl ?_
  refine sm_iloadN hX td_L_610 rfl ?_
  refine sm_iconst hX td_L_611 ?_
  refine sm_iadd hX td_L_612 ?_
  refine sm_sld hX hS (lw_in i0 i1 hN 1 (by decide) (by decide)) td_L_613 ?_
  refine sm_aloadN hX td_L_614 rfl ?_
  refine sm_iloadN hX td_L_615 rfl ?_
  refine sm_iconst hX td_L_616 ?_
  refine sm_iadd hX td_L_617 ?_
  refine sm_sld hX hS (lw_in i0 i1 hN 2 (by decide) (by decide)) td_L_618 ?_
  refine tb_vL_16 _ X _ _ _ _ _ _ hZ hX _ _ [] ad ev_s2 μ [.ref 0, .int (xs (Int32.ofInt i + Int32.ofInt (1)).toNatClampNeg), .int (xs (Int32.ofInt i + Int32.ofInt (2)).toNatClampNeg)] _ _ rfl ⟨0, _, _, rfl, rfl⟩ (lw_132 hZ gm0 hC0 hX0 ad _ _) (by decide) (by decide) (by decide) (by decide) (Nat.le_of_ble_eq_true rfl) td_L_619 (fun v ad' sh' μ1 e1 e2 hag hq => ?_)
  obtain ⟨⟨v1, rfl, p1⟩, rfl, gm1, f1⟩ := hq
  have hC1 : CI (wk_of μ1).1 := CI_fr f1 rfl (by decide) hC0
  have hR1 : RI (wk_of μ1).1 := RI_fr f1 (by decide) rfl hR0
  have l1 := congrFun (f1 38 (by decide)).1 ((0 : Nat) : Int)
  have r1 := congrFun (f1 46 (by decide)).1 ((34 : Nat) : Int)
  have s1 := (f1 46 (by decide)).1
  rw [sm_ag_eq hag]
  refine ⟨Or.inl (by decide), ?_⟩
  refine sm_pop hX td_L_622 rfl ?_
  refine sm_aloadN hX td_L_623 rfl ?_
  refine sm_aloadN hX td_L_624 rfl ?_
  refine sm_iloadN hX td_L_625 rfl ?_
  refine sm_iconst hX td_L_626 ?_
  refine sm_iadd hX td_L_627 ?_
  refine sm_sld hX hS (lw_in i0 i1 hN 1 (by decide) (by decide)) td_L_628 ?_
  refine sm_aloadN hX td_L_629 rfl ?_
  refine sm_iloadN hX td_L_630 rfl ?_
  refine sm_iconst hX td_L_631 ?_
  refine sm_iadd hX td_L_632 ?_
  refine sm_sld hX hS (lw_in i0 i1 hN 2 (by decide) (by decide)) td_L_633 ?_
  refine tb_vL_31 _ X _ _ _ _ _ _ hZ hX _ _ [] ad ev_s2 μ1 [.ref 46, .int (xs (Int32.ofInt i + Int32.ofInt (1)).toNatClampNeg), .int (xs (Int32.ofInt i + Int32.ofInt (2)).toNatClampNeg)] _ _ rfl ⟨46, _, _, rfl, rfl⟩ (lw_194 hZ gm1 hR1 ad _ _) (by decide) (by decide) (by decide) (by decide) (Nat.le_of_ble_eq_true rfl) td_L_634 (fun v ad' sh' μ2 e1 e2 hag hq => ?_)
  obtain ⟨⟨v2, rfl, p2⟩, rfl, gm2, f2⟩ := hq
  have hC2 : CI (wk_of μ2).1 := CI_fr f2 rfl (by decide) hC1
  have hR2 : RI (wk_of μ2).1 := RI_fr f2 (by decide) rfl hR1
  have l2 := congrFun (f2 38 (by decide)).1 ((0 : Nat) : Int)
  have r2 := congrFun (f2 46 (by decide)).1 ((34 : Nat) : Int)
  have hE2 := LR_keep f1 f2 rfl rfl rfl rfl (congrFun ((f2 46 (by decide)).1.trans s1) _) (congrFun ((f2 46 (by decide)).1.trans s1) _) (congrFun ((f2 46 (by decide)).1.trans s1) _) hE0
  have hX2 := OX_keep ((f2 38 (by decide)).1.trans (f1 38 (by decide)).1) ((f2 39 (by decide)).1.trans (f1 39 (by decide)).1) ((f2 40 (by decide)).1.trans (f1 40 (by decide)).1) ((f2 41 (by decide)).1.trans (f1 41 (by decide)).1) ((f2 72 (by decide)).1.trans (f1 72 (by decide)).1) ((f2 73 (by decide)).1.trans (f1 73 (by decide)).1) ((f2 74 (by decide)).1.trans (f1 74 (by decide)).1) hX0
  have hL2 := (l2.trans (l1.trans hL)).trans (r2.trans r1).symm
  rw [sm_ag_eq hag]
  refine ⟨Or.inl (by decide), ?_⟩
  refine sm_pop hX td_L_637 rfl ?_
  refine sm_goto hX 677 td_L_638 (by decide) ?_
  exact next μ2 ⟨gm2, hC2, hR2, hL2, hE2, hX2⟩
theorem lc_17 {X : sm_X} (hX : sm_ok tb_cl X code 4 "ProgramSlicesLaw" tb_W ret room_1 75 8909 false) (hZ : X.1.2.2.2 = tb_N) {ad : Nat → Nat} {xs : Nat → Int32} {Ln : Nat} (hN : Ln ≤ 2560) (hS : sm_scr X (ad 1000) Ln xs) {i : Int} (i0 : 0 ≤ i) (i1 : i + 5 ≤ (Ln : Int)) (next : ∀ μ : sm_M, lwI μ → sm_E tb_cl X 677 [some (.ref 1000), some (.ref 0), some (.ref 46), some (.int (Int32.ofInt i))] [] ad ev_s2 μ) {μ : sm_M} (h : lwI μ) : sm_E tb_cl X 641 [some (.ref 1000), some (.ref 0), some (.ref 46), some (.int (Int32.ofInt i))] [] ad ev_s2 μ := by
  obtain ⟨gm0, hC0, hR0, hL, hE0, hX0⟩ := h
  refine sm_aloadN hX td_L_641 rfl ?_
  refine tb_vL_17 _ X _ _ _ _ _ _ hZ hX _ _ [] ad ev_s2 μ [.ref 0] _ _ rfl ⟨0, _, _, rfl, rfl⟩ (lw_134 hZ gm0 hC0 hX0 ad) (by decide) (by decide) (by decide) (by decide) (Nat.le_of_ble_eq_true rfl) td_L_642 (fun v ad' sh' μ1 e1 e2 hag hq => ?_)
  obtain ⟨⟨v1, rfl, p1⟩, rfl, gm1, f1⟩ := hq
  have hC1 : CI (wk_of μ1).1 := CI_fr f1 rfl (by decide) hC0
  have hR1 : RI (wk_of μ1).1 := RI_fr f1 (by decide) rfl hR0
  have l1 := congrFun (f1 38 (by decide)).1 ((0 : Nat) : Int)
  have r1 := congrFun (f1 46 (by decide)).1 ((34 : Nat) : Int)
  have s1 := (f1 46 (by decide)).1
  rw [sm_ag_eq hag]
  refine ⟨Or.inl (by decide), ?_⟩
  refine sm_pop hX td_L_645 rfl ?_
  refine sm_aloadN hX td_L_646 rfl ?_
  refine tb_vL_36 _ X _ _ _ _ _ _ hZ hX _ _ [] ad ev_s2 μ1 [.ref 46] _ _ rfl ⟨46, _, _, rfl, rfl⟩ (lw_203 hZ gm1 hR1 ad) (by decide) (by decide) (by decide) (by decide) (Nat.le_of_ble_eq_true rfl) td_L_647 (fun v ad' sh' μ2 e1 e2 hag hq => ?_)
  obtain ⟨⟨v2, rfl, p2⟩, rfl, gm2, f2⟩ := hq
  have hC2 : CI (wk_of μ2).1 := CI_fr f2 rfl (by decide) hC1
  have hR2 : RI (wk_of μ2).1 := RI_fr f2 (by decide) rfl hR1
  have l2 := congrFun (f2 38 (by decide)).1 ((0 : Nat) : Int)
  have r2 := congrFun (f2 46 (by decide)).1 ((34 : Nat) : Int)
  have hE2 := LR_keep f1 f2 rfl rfl rfl rfl (congrFun ((f2 46 (by decide)).1.trans s1) _) (congrFun ((f2 46 (by decide)).1.trans s1) _) (congrFun ((f2 46 (by decide)).1.trans s1) _) hE0
  have hX2 := OX_keep ((f2 38 (by decide)).1.trans (f1 38 (by decide)).1) ((f2 39 (by decide)).1.trans (f1 39 (by decide)).1) ((f2 40 (by decide)).1.trans (f1 40 (by decide)).1) ((f2 41 (by decide)).1.trans (f1 41 (by decide)).1) ((f2 72 (by decide)).1.trans (f1 72 (by decide)).1) ((f2 73 (by decide)).1.trans (f1 73 (by decide)).1) ((f2 74 (by decide)).1.trans (f1 74 (by decide)).1) hX0
  have hL2 := (l2.trans (l1.trans hL)).trans (r2.trans r1).symm
  rw [sm_ag_eq hag]
  refine ⟨Or.inl (by decide), ?_⟩
  refine sm_pop hX td_L_650 rfl ?_
  refine sm_goto hX 677 td_L_651 (by decide) ?_
  exact next μ2 ⟨gm2, hC2, hR2, hL2, hE2, hX2⟩
theorem lc_18 {X : sm_X} (hX : sm_ok tb_cl X code 4 "ProgramSlicesLaw" tb_W ret room_1 75 8909 false) (hZ : X.1.2.2.2 = tb_N) {ad : Nat → Nat} {xs : Nat → Int32} {Ln : Nat} (hN : Ln ≤ 2560) (hS : sm_scr X (ad 1000) Ln xs) {i : Int} (i0 : 0 ≤ i) (i1 : i + 5 ≤ (Ln : Int)) (next : ∀ μ : sm_M, lwI μ → sm_E tb_cl X 677 [some (.ref 1000), some (.ref 0), some (.ref 46), some (.int (Int32.ofInt i))] [] ad ev_s2 μ) {μ : sm_M} (h : lwI μ) : sm_E tb_cl X 654 [some (.ref 1000), some (.ref 0), some (.ref 46), some (.int (Int32.ofInt i))] [] ad ev_s2 μ := by
  obtain ⟨gm0, hC0, hR0, hL, hE0, hX0⟩ := h
  refine sm_aloadN hX td_L_654 rfl ?_
  refine sm_aloadN hX td_L_655 rfl ?_
  refine sm_iloadN hX td_L_656 rfl ?_
  refine sm_iconst hX td_L_657 ?_
  refine sm_iadd hX td_L_658 ?_
  refine sm_sld hX hS (lw_in i0 i1 hN 1 (by decide) (by decide)) td_L_659 ?_
  refine tb_vL_18 _ X _ _ _ _ _ _ hZ hX _ _ [] ad ev_s2 μ [.ref 0, .int (xs (Int32.ofInt i + Int32.ofInt (1)).toNatClampNeg)] _ _ rfl ⟨0, _, _, rfl, rfl⟩ (lw_140 hZ gm0 hC0 hX0 ad _) (by decide) (by decide) (by decide) (by decide) (Nat.le_of_ble_eq_true rfl) td_L_660 (fun v ad' sh' μ1 e1 e2 hag hq => ?_)
  obtain ⟨⟨v1, rfl, p1⟩, rfl, gm1, f1⟩ := hq
  have hC1 : CI (wk_of μ1).1 := CI_fr f1 rfl (by decide) hC0
  have hR1 : RI (wk_of μ1).1 := RI_fr f1 (by decide) rfl hR0
  have l1 := congrFun (f1 38 (by decide)).1 ((0 : Nat) : Int)
  have r1 := congrFun (f1 46 (by decide)).1 ((34 : Nat) : Int)
  have s1 := (f1 46 (by decide)).1
  rw [sm_ag_eq hag]
  refine ⟨Or.inl (by decide), ?_⟩
  refine sm_pop hX td_L_663 rfl ?_
  refine sm_aloadN hX td_L_664 rfl ?_
  refine sm_aloadN hX td_L_665 rfl ?_
  refine sm_iloadN hX td_L_666 rfl ?_
  refine sm_iconst hX td_L_667 ?_
  refine sm_iadd hX td_L_668 ?_
  refine sm_sld hX hS (lw_in i0 i1 hN 1 (by decide) (by decide)) td_L_669 ?_
  refine tb_vL_37 _ X _ _ _ _ _ _ hZ hX _ _ [] ad ev_s2 μ1 [.ref 46, .int (xs (Int32.ofInt i + Int32.ofInt (1)).toNatClampNeg)] _ _ rfl ⟨46, _, _, rfl, rfl⟩ (lw_205 hZ gm1 hR1 ad _) (by decide) (by decide) (by decide) (by decide) (Nat.le_of_ble_eq_true rfl) td_L_670 (fun v ad' sh' μ2 e1 e2 hag hq => ?_)
  obtain ⟨⟨v2, rfl, p2⟩, rfl, gm2, f2⟩ := hq
  have hC2 : CI (wk_of μ2).1 := CI_fr f2 rfl (by decide) hC1
  have hR2 : RI (wk_of μ2).1 := RI_fr f2 (by decide) rfl hR1
  have l2 := congrFun (f2 38 (by decide)).1 ((0 : Nat) : Int)
  have r2 := congrFun (f2 46 (by decide)).1 ((34 : Nat) : Int)
  have hE2 := LR_keep f1 f2 rfl rfl rfl rfl (congrFun ((f2 46 (by decide)).1.trans s1) _) (congrFun ((f2 46 (by decide)).1.trans s1) _) (congrFun ((f2 46 (by decide)).1.trans s1) _) hE0
  have hX2 := OX_keep ((f2 38 (by decide)).1.trans (f1 38 (by decide)).1) ((f2 39 (by decide)).1.trans (f1 39 (by decide)).1) ((f2 40 (by decide)).1.trans (f1 40 (by decide)).1) ((f2 41 (by decide)).1.trans (f1 41 (by decide)).1) ((f2 72 (by decide)).1.trans (f1 72 (by decide)).1) ((f2 73 (by decide)).1.trans (f1 73 (by decide)).1) ((f2 74 (by decide)).1.trans (f1 74 (by decide)).1) hX0
  have hL2 := (l2.trans (l1.trans hL)).trans (r2.trans r1).symm
  rw [sm_ag_eq hag]
  refine ⟨Or.inl (by decide), ?_⟩
  refine sm_pop hX td_L_673 rfl ?_
  refine sm_goto hX 677 td_L_674 (by decide) ?_
  exact next μ2 ⟨gm2, hC2, hR2, hL2, hE2, hX2⟩
theorem and31 (x : Int32) : ∃ t : Nat, t < 32 ∧ x &&& (Int8.ofInt (31)).toInt32 = nI t := by
  refine ⟨x.toBitVec.toNat &&& 31, Nat.lt_of_le_of_lt Nat.and_le_right (by decide), ?_⟩
  apply Int32.toBitVec_inj.mp
  apply BitVec.eq_of_toNat_eq
  have h1 : (x &&& (Int8.ofInt (31)).toInt32).toBitVec = x.toBitVec &&& (31#32) := rfl
  have h2 : (nI (x.toBitVec.toNat &&& 31)).toBitVec = BitVec.ofNat 32 (x.toBitVec.toNat &&& 31) := rfl
  rw [h1, h2, BitVec.toNat_and, BitVec.toNat_ofNat, BitVec.toNat_ofNat, Nat.mod_eq_of_lt (a := x.toBitVec.toNat &&& 31) (Nat.lt_of_le_of_lt Nat.and_le_right (by decide))]
theorem law_sw {X : sm_X} (hX : sm_ok tb_cl X code 4 "ProgramSlicesLaw" tb_W ret room_1 75 8909 false) (hZ : X.1.2.2.2 = tb_N) {ad : Nat → Nat} {xs : Nat → Int32} {Ln : Nat} (hN : Ln ≤ 2560) (hS : sm_scr X (ad 1000) Ln xs) {i : Int} (i0 : 0 ≤ i) (i1 : i + 5 ≤ (Ln : Int)) (next : ∀ μ : sm_M, lwI μ → sm_E tb_cl X 677 [some (.ref 1000), some (.ref 0), some (.ref 46), some (.int (Int32.ofInt i))] [] ad ev_s2 μ) {μ : sm_M} (h : lwI μ) : sm_E tb_cl X 26 [some (.ref 1000), some (.ref 0), some (.ref 46), some (.int (Int32.ofInt i))] [] ad ev_s2 μ := by
  refine sm_aloadN hX td_L_26 rfl ?_
  refine sm_iloadN hX td_L_27 rfl ?_
  refine sm_sld hX hS (lw_in0 i0 i1 hN) td_L_28 ?_
  refine sm_bipush hX td_L_29 ?_
  refine sm_iand hX td_L_31 ?_
  obtain ⟨t, ht, e⟩ := and31 (xs (Int32.ofInt i).toNatClampNeg)
  rw [e]
  by_cases h19 : t < 19
  · rcases (show t = 0 ∨ t = 1 ∨ t = 2 ∨ t = 3 ∨ t = 4 ∨ t = 5 ∨ t = 6 ∨ t = 7 ∨ t = 8 ∨ t = 9 ∨ t = 10 ∨ t = 11 ∨ t = 12 ∨ t = 13 ∨ t = 14 ∨ t = 15 ∨ t = 16 ∨ t = 17 ∨ t = 18 by omega) with rfl | rfl | rfl | rfl | rfl | rfl | rfl | rfl | rfl | rfl | rfl | rfl | rfl | rfl | rfl | rfl | rfl | rfl | rfl
    · exact sm_tableIn hX 124 td_L_32 (by decide) (by decide) rfl (by decide) (lc_0 hX hZ hN hS i0 i1 next h)
    · exact sm_tableIn hX 177 td_L_32 (by decide) (by decide) rfl (by decide) (lc_1 hX hZ hN hS i0 i1 next h)
    · exact sm_tableIn hX 188 td_L_32 (by decide) (by decide) rfl (by decide) (lc_2 hX hZ hN hS i0 i1 next h)
    · exact sm_tableIn hX 201 td_L_32 (by decide) (by decide) rfl (by decide) (lc_3 hX hZ hN hS i0 i1 next h)
    · exact sm_tableIn hX 224 td_L_32 (by decide) (by decide) rfl (by decide) (lc_4 hX hZ hN hS i0 i1 next h)
    · exact sm_tableIn hX 257 td_L_32 (by decide) (by decide) rfl (by decide) (lc_5 hX hZ hN hS i0 i1 next h)
    · exact sm_tableIn hX 316 td_L_32 (by decide) (by decide) rfl (by decide) (lc_6 hX hZ hN hS i0 i1 next h)
    · exact sm_tableIn hX 329 td_L_32 (by decide) (by decide) rfl (by decide) (lc_7 hX hZ hN hS i0 i1 next h)
    · exact sm_tableIn hX 362 td_L_32 (by decide) (by decide) rfl (by decide) (lc_8 hX hZ hN hS i0 i1 next h)
    · exact sm_tableIn hX 405 td_L_32 (by decide) (by decide) rfl (by decide) (lc_9 hX hZ hN hS i0 i1 next h)
    · exact sm_tableIn hX 454 td_L_32 (by decide) (by decide) rfl (by decide) (lc_10 hX hZ hN hS i0 i1 next h)
    · exact sm_tableIn hX 467 td_L_32 (by decide) (by decide) rfl (by decide) (lc_11 hX hZ hN hS i0 i1 next h)
    · exact sm_tableIn hX 490 td_L_32 (by decide) (by decide) rfl (by decide) (lc_12 hX hZ hN hS i0 i1 next h)
    · exact sm_tableIn hX 523 td_L_32 (by decide) (by decide) rfl (by decide) (lc_13 hX hZ hN hS i0 i1 next h)
    · exact sm_tableIn hX 572 td_L_32 (by decide) (by decide) rfl (by decide) (lc_14 hX hZ hN hS i0 i1 next h)
    · exact sm_tableIn hX 585 td_L_32 (by decide) (by decide) rfl (by decide) (lc_15 hX hZ hN hS i0 i1 next h)
    · exact sm_tableIn hX 608 td_L_32 (by decide) (by decide) rfl (by decide) (lc_16 hX hZ hN hS i0 i1 next h)
    · exact sm_tableIn hX 641 td_L_32 (by decide) (by decide) rfl (by decide) (lc_17 hX hZ hN hS i0 i1 next h)
    · exact sm_tableIn hX 654 td_L_32 (by decide) (by decide) rfl (by decide) (lc_18 hX hZ hN hS i0 i1 next h)
  · refine sm_tableOut hX 677 td_L_32 (Or.inr ?_) (by decide) (next μ h)
    rw [nI_toInt (show t < 2 ^ 31 by omega)]
    omega
