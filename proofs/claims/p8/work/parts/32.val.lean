/-! what a range says of a value -/
def ab_i (S : Nat → Int) (Lc : List (Option Value)) (x : ab_I) (v : Int32) : Prop := x.1 ≤ v.toInt ∧ v.toInt ≤ x.2.1 ∧ (∀ k c, x.2.2.1 = some (k, c) → v.toInt = S k + c) ∧ ∀ l, x.2.2.2 = some l → Lc[l]? = some (some (.int v))
def ab_v (S : Nat → Int) (Lc : List (Option Value)) (a : ab_V) (v : Value) : Prop := match a, v with
  | .inl x, .int n => ab_i S Lc x n
  | .inr (.inl p), .ref q => q = p
  | .inr (.inr _), .long _ => True
  | _, _ => False
def ab_sv (S : Nat → Int) (Lc : List (Option Value)) : List ab_V → List Value → Prop
  | [], [] => True
  | a :: t, v :: u => ab_v S Lc a v ∧ ab_sv S Lc t u
  | _, _ => False
def ab_lv (S : Nat → Int) (n : Nat) (A : ab_L) (Lc : List (Option Value)) : Prop := Lc.length = n ∧ A.length = n ∧ (∀ (l : Nat) (a : ab_V), A[l]? = some (some a) → ∃ v, Lc[l]? = some (some v) ∧ ab_v S [] (ab_no a) v) ∧ ∀ l : Nat, A[l]? = some none → Lc[l]? = some none
def ab_mu (G : ab_G) (μ : sm_M) : Prop := ∀ p i, (G.1 p i).1 ≤ (μ.1 p i).toInt ∧ (μ.1 p i).toInt ≤ (G.1 p i).2
def ab_Gok (G : ab_G) : Prop := ∀ p c n, G.2[p]? = some (.inr (c, n)) → ∀ i, G.1 p i = G.1 p 0
def ab_fr (W : List Nat) (μ μ0 : sm_M) : Prop := ∀ q, q ∉ W → μ.1 q = μ0.1 q ∧ μ.2 q = μ0.2 q
def ab_J (cl : List vw_C) (X : sm_X) (G : ab_G) (M : ab_M) (ad : Nat → Nat) (μ0 : sm_M) (S : Nat → Int) (a : ab_T) : Prop := ∀ (Lc : List (Option Value)) (stc : List Value) (μ : sm_M), ab_lv S M.1 a.2.1 Lc → ab_sv S Lc a.2.2 stc → ab_mu G μ → ab_fr M.2.2.2.2 μ μ0 → sm_E cl X a.1 Lc stc ad G.2 μ
theorem ab_v_int {S : Nat → Int} {Lc : List (Option Value)} {x : ab_I} {v : Value} (h : ab_v S Lc (.inl x) v) : ∃ n, v = .int n ∧ ab_i S Lc x n := by
  cases v with
  | int n => exact ⟨n, rfl, h⟩
  | _ => exact absurd h (fun z => z)
theorem ab_v_ref {S : Nat → Int} {Lc : List (Option Value)} {p : Nat} {v : Value} (h : ab_v S Lc (.inr (.inl p)) v) : v = .ref p := by
  cases v with
  | ref q => exact congrArg Value.ref h
  | _ => exact absurd h (fun z => z)
theorem ab_v_long {S : Nat → Int} {Lc : List (Option Value)} {u : Unit} {v : Value} (h : ab_v S Lc (.inr (.inr u)) v) : ∃ n, v = .long n := by
  cases v with
  | long n => exact ⟨n, rfl⟩
  | _ => exact absurd h (fun z => z)
theorem ab_v_cat {S : Nat → Int} {Lc : List (Option Value)} {a : ab_V} {v : Value} (h : ab_v S Lc a v) : v.category = ab_cat a := by
  cases a with
  | inl x => obtain ⟨n, rfl, -⟩ := ab_v_int h; rfl
  | inr a =>
    cases a with
    | inl p => have e := ab_v_ref h; subst e; rfl
    | inr u => obtain ⟨n, rfl⟩ := ab_v_long h; rfl
theorem ab_sv_cons {S : Nat → Int} {Lc : List (Option Value)} {a : ab_V} {t : List ab_V} {stc : List Value} (h : ab_sv S Lc (a :: t) stc) : ∃ v u, stc = v :: u ∧ ab_v S Lc a v ∧ ab_sv S Lc t u := by
  cases stc with
  | nil => exact absurd h (fun z => z)
  | cons v u => exact ⟨v, u, rfl, h.1, h.2⟩
theorem ab_1i_ok {β : Type} {st : List ab_V} {k : ab_I → List ab_V → Option β} {y : β} (h : ab_1i st k = some y) : ∃ x r, st = .inl x :: r ∧ k x r = some y := by
  unfold ab_1i at h
  split at h
  · exact ⟨_, _, rfl, h⟩
  · cases h
theorem ab_1l_ok {β : Type} {st : List ab_V} {k : List ab_V → Option β} {y : β} (h : ab_1l st k = some y) : ∃ u r, st = .inr (.inr u) :: r ∧ k r = some y := by
  unfold ab_1l at h
  split at h
  · exact ⟨_, _, rfl, h⟩
  · cases h
theorem ab_1r_ok {β : Type} {st : List ab_V} {k : Nat → List ab_V → Option β} {y : β} (h : ab_1r st k = some y) : ∃ x r, st = .inr (.inl x) :: r ∧ k x r = some y := by
  unfold ab_1r at h
  split at h
  · exact ⟨_, _, rfl, h⟩
  · cases h
theorem ab_1v_ok {β : Type} {st : List ab_V} {k : ab_V → List ab_V → Option β} {y : β} (h : ab_1v st k = some y) : ∃ x r, st = x :: r ∧ k x r = some y := by
  unfold ab_1v at h
  split at h
  · exact ⟨_, _, rfl, h⟩
  · cases h
theorem ab_i_top {S : Nat → Int} {Lc : List (Option Value)} (v : Int32) : ab_i S Lc ab_top v := ⟨ab_min v, ab_max v, fun _ _ h => (by cases h), fun _ h => (by cases h)⟩
theorem ab_i_mk {S : Nat → Int} {Lc : List (Option Value)} {lo hi : Int} {v : Int32} (h1 : lo ≤ v.toInt) (h2 : v.toInt ≤ hi) : ab_i S Lc (lo, hi, none, none) v := ⟨h1, h2, fun _ _ h => (by cases h), fun _ h => (by cases h)⟩
theorem ab_i_c {S : Nat → Int} {Lc : List (Option Value)} (v : Int32) : ab_i S Lc (ab_c v.toInt) v := ab_i_mk (Int.le_refl _) (Int.le_refl _)
theorem ab_one_eq {S : Nat → Int} {Lc : List (Option Value)} {x : ab_I} {v : Int32} (h : ab_i S Lc x v) (h1 : ab_one x = true) : v.toInt = x.1 := by
  have h2 := of_decide_eq_true h1
  have h3 := h.1
  have h4 := h.2.1
  omega
theorem ab_sh_ok {S : Nat → Int} {r : Option (Nat × Int)} {n v w : Int} (h : ∀ k c, r = some (k, c) → v = S k + c) (hw : w = v + n) : ∀ k c, ab_sh r n = some (k, c) → w = S k + c := by
  intro k c e
  cases r with
  | none => cases e
  | some q =>
    obtain ⟨k', c'⟩ := q
    have e : some (k', c' + n) = some (k, c) := e
    cases e
    rw [hw, h _ _ rfl]
    omega
theorem ab_rg_ok {S : Nat → Int} {Lc : List (Option Value)} {lo hi : Int} {rel : Option (Nat × Int)} {v : Int32} (h : ab_fit lo hi = true → lo ≤ v.toInt ∧ v.toInt ≤ hi ∧ ∀ k c, rel = some (k, c) → v.toInt = S k + c) : ab_i S Lc (ab_rg lo hi rel) v := by
  unfold ab_rg
  cases hb : ab_fit lo hi with
  | false => exact ab_i_top v
  | true =>
    obtain ⟨h1, h2, h3⟩ := h hb
    exact ⟨h1, h2, h3, fun _ h => (by cases h)⟩
theorem ab_fit_ok {lo hi : Int} (h : ab_fit lo hi = true) : ab_lo ≤ lo ∧ hi ≤ ab_hi := by
  unfold ab_fit at h
  rw [Bool.and_eq_true] at h
  exact ⟨of_decide_eq_true h.1, of_decide_eq_true h.2⟩
theorem ab_add_ok {S : Nat → Int} {Lc : List (Option Value)} {x y : ab_I} {u v : Int32} (hx : ab_i S Lc x u) (hy : ab_i S Lc y v) : ab_i S Lc (ab_add x y) (u + v) := by
  apply ab_rg_ok
  intro hf
  obtain ⟨f1, f2⟩ := ab_fit_ok hf
  have a1 := hx.1
  have a2 := hx.2.1
  have b1 := hy.1
  have b2 := hy.2.1
  have e := ab_tadd (x := u) (y := v) (by omega) (by omega)
  refine ⟨by omega, by omega, ?_⟩
  cases ho : ab_one y with
  | true => exact ab_sh_ok hx.2.2.1 (by rw [e, ab_one_eq hy ho])
  | false =>
    cases ho2 : ab_one x with
    | true => exact ab_sh_ok hy.2.2.1 (by rw [e, ab_one_eq hx ho2]; omega)
    | false => exact fun _ _ h => (by cases h)
theorem ab_sub_ok {S : Nat → Int} {Lc : List (Option Value)} {x y : ab_I} {u v : Int32} (hx : ab_i S Lc x u) (hy : ab_i S Lc y v) : ab_i S Lc (ab_sub x y) (u - v) := by
  apply ab_rg_ok
  intro hf
  obtain ⟨f1, f2⟩ := ab_fit_ok hf
  have a1 := hx.1
  have a2 := hx.2.1
  have b1 := hy.1
  have b2 := hy.2.1
  have e := ab_tsub (x := u) (y := v) (by omega) (by omega)
  refine ⟨by omega, by omega, ?_⟩
  cases ho : ab_one y with
  | true => exact ab_sh_ok hx.2.2.1 (by rw [e, ab_one_eq hy ho]; omega)
  | false => exact fun _ _ h => (by cases h)
theorem ab_mul_ok {S : Nat → Int} {Lc : List (Option Value)} {x y : ab_I} {u v : Int32} (hx : ab_i S Lc x u) (hy : ab_i S Lc y v) : ab_i S Lc (ab_mul x y) (u * v) := by
  unfold ab_mul
  cases hb : (decide (0 ≤ x.1) && decide (0 ≤ y.1)) with
  | false => exact ab_i_top _
  | true =>
    rw [Bool.and_eq_true] at hb
    have z1 := of_decide_eq_true hb.1
    have z2 := of_decide_eq_true hb.2
    apply ab_rg_ok
    intro hf
    obtain ⟨f1, f2⟩ := ab_fit_ok hf
    have a1 := hx.1
    have a2 := hx.2.1
    have b1 := hy.1
    have b2 := hy.2.1
    have m1 : x.1 * y.1 ≤ u.toInt * v.toInt := Int.mul_le_mul a1 b1 z2 (by omega)
    have m2 : u.toInt * v.toInt ≤ x.2.1 * y.2.1 := Int.mul_le_mul a2 b2 (by omega) (by omega)
    have e := ab_tmul (x := u) (y := v) (Int.le_trans f1 m1) (Int.le_trans m2 f2)
    rw [e]
    exact ⟨m1, m2, fun _ _ h => (by cases h)⟩
theorem ab_and_ok {S : Nat → Int} {Lc : List (Option Value)} {x y : ab_I} {u v : Int32} (hx : ab_i S Lc x u) (hy : ab_i S Lc y v) : ab_i S Lc (ab_and x y) (u &&& v) := by
  unfold ab_and
  cases hb : decide (0 ≤ y.1) with
  | true =>
    have z := of_decide_eq_true hb
    have h := ab_tand (x := u) (y := v) (Int.le_trans z hy.1)
    exact ab_i_mk h.1 (Int.le_trans h.2 hy.2.1)
  | false =>
    cases hc : decide (0 ≤ x.1) with
    | true =>
      have z := of_decide_eq_true hc
      have h := ab_tand' (x := u) (y := v) (Int.le_trans z hx.1)
      exact ab_i_mk h.1 (Int.le_trans h.2 hx.2.1)
    | false => exact ab_i_top _
theorem ab_bit_ok {S : Nat → Int} {Lc : List (Option Value)} {x : ab_I} {u : Int32} (hx : ab_i S Lc x u) (h : ab_bit x = true) : 0 ≤ u.toInt ∧ u.toInt ≤ 1 := by
  unfold ab_bit at h
  rw [Bool.and_eq_true] at h
  have z1 := of_decide_eq_true h.1
  have z2 := of_decide_eq_true h.2
  exact ⟨Int.le_trans z1 hx.1, Int.le_trans hx.2.1 z2⟩
theorem ab_or_ok {S : Nat → Int} {Lc : List (Option Value)} {x y : ab_I} {u v : Int32} (hx : ab_i S Lc x u) (hy : ab_i S Lc y v) : ab_i S Lc (ab_or x y) (u ||| v) := by
  unfold ab_or
  cases hb : (ab_bit x && ab_bit y) with
  | false => exact ab_i_top _
  | true =>
    rw [Bool.and_eq_true] at hb
    have z1 := ab_bit_ok hx hb.1
    have z2 := ab_bit_ok hy hb.2
    have h := ab_tor z1.1 z1.2 z2.1 z2.2
    exact ab_i_mk h.1 h.2
theorem ab_div_ok {S : Nat → Int} {Lc : List (Option Value)} {x y z : ab_I} {u v : Int32} (h : ab_div x y = some z) (hx : ab_i S Lc x u) (hy : ab_i S Lc y v) : ¬ v = 0 ∧ ab_i S Lc z (u / v) := by
  unfold ab_div at h
  cases hb : (ab_one y && (decide (0 < y.1) && decide (0 ≤ x.1))) with
  | false => rw [hb] at h; cases h
  | true =>
    rw [hb] at h
    cases h
    rw [Bool.and_eq_true, Bool.and_eq_true] at hb
    have o := ab_one_eq hy hb.1
    have z1 := of_decide_eq_true hb.2.1
    have z2 := of_decide_eq_true hb.2.2
    have hu := hx.1
    have hu2 := hx.2.1
    have e := ab_tdiv (x := u) (y := v) (by omega) (by omega)
    refine ⟨fun e0 => ?_, ab_i_mk ?_ ?_⟩
    · rw [e0] at o
      have e1 : (0 : Int32).toInt = 0 := by decide
      rw [e1] at o
      omega
    · rw [e, o]; exact Int.ediv_le_ediv z1 hu
    · rw [e, o]; exact Int.ediv_le_ediv z1 hu2
theorem ab_rem_ok {S : Nat → Int} {Lc : List (Option Value)} {x y z : ab_I} {u v : Int32} (h : ab_rem x y = some z) (hx : ab_i S Lc x u) (hy : ab_i S Lc y v) : ¬ v = 0 ∧ ab_i S Lc z (u - u / v * v) := by
  unfold ab_rem at h
  cases hb : (ab_one y && (decide (0 < y.1) && decide (0 ≤ x.1))) with
  | false => rw [hb] at h; cases h
  | true =>
    rw [hb] at h
    cases h
    rw [Bool.and_eq_true, Bool.and_eq_true] at hb
    have o := ab_one_eq hy hb.1
    have z1 := of_decide_eq_true hb.2.1
    have z2 := of_decide_eq_true hb.2.2
    have hu := hx.1
    have e := ab_trem (x := u) (y := v) (by omega) (by omega)
    refine ⟨fun e0 => ?_, ab_i_mk e.1 (by rw [← o]; exact e.2)⟩
    rw [e0] at o
    have e1 : (0 : Int32).toInt = 0 := by decide
    rw [e1] at o
    omega
