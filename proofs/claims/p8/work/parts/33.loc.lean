/-! locals: loads, stores, what a branch tells -/
theorem ab_v_mono {S : Nat → Int} {Lc Lc' : List (Option Value)} {a : ab_V} {v : Value} (h : ab_v S Lc a v) (hl : ∀ x, a = .inl x → ∀ l, x.2.2.2 = some l → ∀ n, Lc[l]? = some (some (.int n)) → Lc'[l]? = some (some (.int n))) : ab_v S Lc' a v := by
  cases a with
  | inl x =>
    obtain ⟨n, rfl, h1, h2, h3, h4⟩ := ab_v_int h
    exact ⟨h1, h2, h3, fun l e => hl x rfl l e n (h4 l e)⟩
  | inr a =>
    cases a with
    | inl p => have e := ab_v_ref h; subst e; exact rfl
    | inr u => obtain ⟨n, rfl⟩ := ab_v_long h; exact trivial
theorem ab_no_any {S : Nat → Int} {Lc Lc' : List (Option Value)} {a : ab_V} {v : Value} (h : ab_v S Lc a v) : ab_v S Lc' (ab_no a) v := by
  cases a with
  | inl x =>
    obtain ⟨n, rfl, h1, h2, h3, h4⟩ := ab_v_int h
    exact ⟨h1, h2, h3, fun l e => by cases e⟩
  | inr a =>
    cases a with
    | inl p => have e := ab_v_ref h; subst e; exact rfl
    | inr u => obtain ⟨n, rfl⟩ := ab_v_long h; exact trivial
/-- a stored local: the stack's values that were that local are so no longer -/
theorem ab_cl_ok {S : Nat → Int} {Lc Lc' : List (Option Value)} {l : Nat} (hl : ∀ k, k ≠ l → ∀ n, Lc[k]? = some (some (.int n)) → Lc'[k]? = some (some (.int n))) : ∀ {st : List ab_V} {stc : List Value}, ab_sv S Lc st stc → ab_sv S Lc' (st.map (ab_cl l)) stc
  | [], [], _ => trivial
  | [], _ :: _, h => absurd h (fun z => z)
  | _ :: _, [], h => absurd h (fun z => z)
  | a :: t, v :: u, h => by
    refine ⟨?_, ab_cl_ok hl h.2⟩
    have h1 := h.1
    cases a with
    | inl x =>
      obtain ⟨lo, hi, r, o⟩ := x
      obtain ⟨n, rfl, h1, h2, h3, h4⟩ := ab_v_int h1
      cases o with
      | none => exact ⟨h1, h2, h3, fun l e => by cases e⟩
      | some k =>
        show ab_v S Lc' (bif Nat.beq k l then .inl (lo, hi, r, none) else .inl (lo, hi, r, some k)) (.int n)
        cases hb : Nat.beq k l with
        | true => exact ⟨h1, h2, h3, fun l e => by cases e⟩
        | false => exact ⟨h1, h2, h3, fun l' e => by cases e; exact hl k (dp_bne hb) n (h4 k rfl)⟩
    | inr a =>
      cases a with
      | inl p => have e := ab_v_ref h1; subst e; exact rfl
      | inr q => obtain ⟨n, rfl⟩ := ab_v_long h1; exact trivial
theorem ab_lv_set {S : Nat → Int} {n i : Nat} {A : ab_L} {Lc : List (Option Value)} {a : ab_V} {v : Value} (h : ab_lv S n A Lc) (hi : i < n) (hv : ab_v S [] (ab_no a) v) : ab_lv S n (A.set i (some a)) (Lc.set i (some v)) := by
  obtain ⟨h1, h2, h3, h4⟩ := h
  refine ⟨by rw [List.length_set]; exact h1, by rw [List.length_set]; exact h2, fun l b hb => ?_, fun l hb => ?_⟩
  · by_cases hl : l = i
    · subst hl
      rw [List.getElem?_set_self (by omega)] at hb
      cases hb
      exact ⟨v, List.getElem?_set_self (by omega), hv⟩
    · rw [List.getElem?_set_ne (Ne.symm hl)] at hb ⊢
      exact h3 l b hb
  · by_cases hl : l = i
    · subst hl
      rw [List.getElem?_set_self (by omega)] at hb
      cases hb
    · rw [List.getElem?_set_ne (Ne.symm hl)] at hb ⊢
      exact h4 l hb
theorem ab_lv_none {S : Nat → Int} {n i : Nat} {A : ab_L} {Lc : List (Option Value)} (h : ab_lv S n A Lc) : ab_lv S n (A.set i none) (Lc.set i none) := by
  obtain ⟨h1, h2, h3, h4⟩ := h
  refine ⟨by rw [List.length_set]; exact h1, by rw [List.length_set]; exact h2, fun l b hb => ?_, fun l hb => ?_⟩
  · by_cases hl : l = i
    · subst hl
      by_cases hlt : l < A.length
      · rw [List.getElem?_set_self hlt] at hb
        cases hb
      · rw [List.getElem?_eq_none (by rw [List.length_set]; omega)] at hb
        cases hb
    · rw [List.getElem?_set_ne (Ne.symm hl)] at hb ⊢
      exact h3 l b hb
  · by_cases hl : l = i
    · subst hl
      have hlt : l < A.length := by
        have := (List.getElem?_eq_some_iff.mp hb).1
        rw [List.length_set] at this
        exact this
      exact List.getElem?_set_self (by omega)
    · rw [List.getElem?_set_ne (Ne.symm hl)] at hb ⊢
      exact h4 l hb
theorem ab_ah_ok {S : Nat → Int} {n i : Nat} {A : ab_L} {Lc : List (Option Value)} (h : ab_lv S n A Lc) (ha : ab_ah A i = true) : sm_ah Lc i = true := by
  cases i with
  | zero => rfl
  | succ k =>
    obtain ⟨h1, h2, h3, h4⟩ := h
    show sm_c1 (Lc.getD k none) = true
    have ha : (match A.getD k none with
      | some (.inr (.inr _)) => false
      | _ => true) = true := ha
    rw [List.getD_eq_getElem?_getD] at ha ⊢
    cases hA : A[k]? with
    | none =>
      have hk : n ≤ k := by
        have := List.getElem?_eq_none_iff.mp hA
        omega
      rw [List.getElem?_eq_none (by omega)]
      rfl
    | some o =>
      cases o with
      | none => rw [h4 k hA]; rfl
      | some a =>
        obtain ⟨v, hv, hav⟩ := h3 k a hA
        rw [hv]
        rw [hA] at ha
        cases a with
        | inl x =>
          obtain ⟨lo, hi, r, o⟩ := x
          obtain ⟨m, rfl, -⟩ := ab_v_int hav
          rfl
        | inr a =>
          cases a with
          | inl p => have e := ab_v_ref hav; subst e; rfl
          | inr u => cases ha
/-- what a comparison tells of both sides -/
theorem ab_cut_ok {S : Nat → Int} {Lc : List (Option Value)} {x : ab_I} {v : Int32} {lo hi : Int} (h : ab_i S Lc x v) (h1 : lo ≤ v.toInt) (h2 : v.toInt ≤ hi) : ∃ z, ab_cut x lo hi = some z ∧ ab_i S Lc z v ∧ z.2.2 = x.2.2 := by
  unfold ab_cut
  have a1 := h.1
  have a2 := h.2.1
  have hb : max x.1 lo ≤ min x.2.1 hi := by omega
  rw [decide_eq_true hb]
  exact ⟨_, rfl, ⟨by show max x.1 lo ≤ v.toInt; omega, by show v.toInt ≤ min x.2.1 hi; omega, h.2.2.1, h.2.2.2⟩, rfl⟩
theorem ab_ne1_ok {S : Nat → Int} {Lc : List (Option Value)} {x : ab_I} {v : Int32} {c : Int} (h : ab_i S Lc x v) (hc : v.toInt ≠ c) : ∃ z, ab_ne1 x c = some z ∧ ab_i S Lc z v ∧ z.2.2 = x.2.2 := by
  unfold ab_ne1
  have a1 := h.1
  have a2 := h.2.1
  have m1 := ab_min v
  have m2 := ab_max v
  cases hb : decide (x.1 = c) with
  | true =>
    have e := of_decide_eq_true hb
    exact ab_cut_ok h (by omega) m2
  | false =>
    cases hd : decide (x.2.1 = c) with
    | true =>
      have e := of_decide_eq_true hd
      exact ab_cut_ok h m1 (by omega)
    | false => exact ⟨x, rfl, h, rfl⟩
theorem ab_two_ok {S : Nat → Int} {Lc : List (Option Value)} {x y : ab_I} {u v : Int32} {a b : Option ab_I} (ha : ∃ z, a = some z ∧ ab_i S Lc z u ∧ z.2.2 = x.2.2) (hb : ∃ z, b = some z ∧ ab_i S Lc z v ∧ z.2.2 = y.2.2) : ∃ z, ab_two a b = some z ∧ ab_i S Lc z.1 u ∧ ab_i S Lc z.2 v ∧ z.1.2.2 = x.2.2 ∧ z.2.2.2 = y.2.2 := by
  obtain ⟨z1, rfl, p1, q1⟩ := ha
  obtain ⟨z2, rfl, p2, q2⟩ := hb
  exact ⟨(z1, z2), rfl, p1, p2, q1, q2⟩
theorem ab_cmp_ok {S : Nat → Int} {Lc : List (Option Value)} {x y : ab_I} {u v : Int32} (cn : Jvm.ClassFile.Cond) (hx : ab_i S Lc x u) (hy : ab_i S Lc y v) (hc : dp_c2 cn u v = true) : ∃ z, ab_cmp cn x y = some z ∧ ab_i S Lc z.1 u ∧ ab_i S Lc z.2 v ∧ z.1.2.2 = x.2.2 ∧ z.2.2.2 = y.2.2 := by
  have a1 := hx.1
  have a2 := hx.2.1
  have b1 := hy.1
  have b2 := hy.2.1
  have m1 := ab_min u
  have m2 := ab_max u
  have n1 := ab_min v
  have n2 := ab_max v
  cases cn with
  | eq =>
    have e : u = v := of_decide_eq_true hc
    subst e
    exact ab_two_ok (ab_cut_ok hx b1 b2) (ab_cut_ok hy a1 a2)
  | ne =>
    have e : ¬ u = v := of_decide_eq_false ((Bool.not_eq_true' _).mp hc)
    have e' : u.toInt ≠ v.toInt := fun z => e (Int32.toInt_inj.mp z)
    refine ab_two_ok ?_ ?_
    · cases ho : ab_one y with
      | true => exact ab_ne1_ok hx (by rw [← ab_one_eq hy ho]; exact e')
      | false => exact ⟨x, rfl, hx, rfl⟩
    · cases ho : ab_one x with
      | true => exact ab_ne1_ok hy (by rw [← ab_one_eq hx ho]; exact e'.symm)
      | false => exact ⟨y, rfl, hy, rfl⟩
  | lt =>
    have e : u < v := of_decide_eq_true hc
    rw [Int32.lt_iff_toInt_lt] at e
    exact ab_two_ok (ab_cut_ok hx m1 (by omega)) (ab_cut_ok hy (by omega) n2)
  | ge =>
    have e : v ≤ u := of_decide_eq_true hc
    rw [Int32.le_iff_toInt_le] at e
    exact ab_two_ok (ab_cut_ok hx (by omega) m2) (ab_cut_ok hy n1 (by omega))
  | gt =>
    have e : v < u := of_decide_eq_true hc
    rw [Int32.lt_iff_toInt_lt] at e
    exact ab_two_ok (ab_cut_ok hx (by omega) m2) (ab_cut_ok hy n1 (by omega))
  | le =>
    have e : u ≤ v := of_decide_eq_true hc
    rw [Int32.le_iff_toInt_le] at e
    exact ab_two_ok (ab_cut_ok hx m1 (by omega)) (ab_cut_ok hy (by omega) n2)
theorem ab_neg_ok {cn : Jvm.ClassFile.Cond} {u v : Int32} (h : dp_c2 cn u v = false) : dp_c2 (ab_neg cn) u v = true := by
  cases cn with
  | eq => have e := of_decide_eq_false h; show (!decide (u = v)) = true; rw [decide_eq_false e]; rfl
  | ne => have e := of_decide_eq_true ((Bool.not_eq_false' _).mp h); exact decide_eq_true e
  | lt => exact decide_eq_true (Int32.not_lt.mp (of_decide_eq_false h))
  | ge => exact decide_eq_true (Int32.not_le.mp (of_decide_eq_false h))
  | gt => exact decide_eq_true (Int32.not_lt.mp (of_decide_eq_false h))
  | le => exact decide_eq_true (Int32.not_le.mp (of_decide_eq_false h))
/-- the local that the int is gets to know it -/
theorem ab_up_ok {S : Nat → Int} {n : Nat} {A : ab_L} {Lc : List (Option Value)} {x : ab_I} {v : Int32} (h : ab_lv S n A Lc) (hx : ab_i S Lc x v) : ab_lv S n (ab_up A x) Lc := by
  unfold ab_up
  split
  · exact h
  · rename_i l hl
    split
    · rename_i y hy
      obtain ⟨h1, h2, h3, h4⟩ := h
      refine ⟨h1, by rw [List.length_set]; exact h2, fun k b hb => ?_, fun k hb => ?_⟩
      · by_cases hk : k = l
        · subst hk
          rw [List.getElem?_set_self (List.getElem?_eq_some_iff.mp hy).1] at hb
          cases hb
          exact ⟨.int v, hx.2.2.2 _ hl, ⟨hx.1, hx.2.1, hx.2.2.1, fun _ e => (by cases e)⟩⟩
        · rw [List.getElem?_set_ne (Ne.symm hk)] at hb
          exact h3 k b hb
      · by_cases hk : k = l
        · subst hk
          rw [List.getElem?_set_self (List.getElem?_eq_some_iff.mp hy).1] at hb
          cases hb
        · rw [List.getElem?_set_ne (Ne.symm hk)] at hb
          exact h4 k hb
    · exact h
