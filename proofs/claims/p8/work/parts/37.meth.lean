/-! arrival at a head -/
def ab_drop (h : ab_L) (Lc : List (Option Value)) : List (Option Value) := List.zipWith (fun a v => match a with
  | none => none
  | some _ => v) h Lc
theorem ab_leL_ok : ∀ {A h : ab_L}, ab_leL A h = true → ∀ (l : Nat) (b : ab_V), h[l]? = some (some b) → ab_leV ((A[l]?).getD none) (some b) = true
  | _, [], _, l, b, hb => by simp at hb
  | [], b0 :: t, hh, l, b, hb => by
    have hh : (ab_leV none b0 && ab_leL [] t) = true := hh
    rw [Bool.and_eq_true] at hh
    cases l with
    | zero =>
      have e : b0 = some b := by simpa using hb
      rw [← e]
      exact hh.1
    | succ l =>
      have := ab_leL_ok hh.2 l b (by simpa using hb)
      simpa using this
  | a0 :: s, b0 :: t, hh, l, b, hb => by
    have hh : (ab_leV a0 b0 && ab_leL s t) = true := hh
    rw [Bool.and_eq_true] at hh
    cases l with
    | zero =>
      have e : b0 = some b := by simpa using hb
      rw [← e]
      simpa using hh.1
    | succ l =>
      have := ab_leL_ok hh.2 l b (by simpa using hb)
      simpa using this
theorem ab_self_at : ∀ {h : ab_L} (k l : Nat), (ab_self k h)[l]? = (h[l]?).map (fun o => match o with
    | some (.inl x) => some (.inl (x.1, x.2.1, some (k + l, 0), none))
    | a => a)
  | [], k, l => by simp [ab_self]
  | o :: t, k, 0 => by
    cases o with
    | none => rfl
    | some a =>
      cases a with
      | inl x => rfl
      | inr x => rfl
  | o :: t, k, l + 1 => by
    have ih := ab_self_at (h := t) (k + 1) l
    have e : k + 1 + l = k + (l + 1) := by omega
    rw [e] at ih
    cases o with
    | none => simpa [ab_self] using ih
    | some a =>
      cases a with
      | inl x => simpa [ab_self] using ih
      | inr x => simpa [ab_self] using ih
theorem ab_self_len : ∀ {h : ab_L} (k : Nat), (ab_self k h).length = h.length
  | [], k => rfl
  | o :: t, k => by
    have ih := ab_self_len (h := t) (k + 1)
    cases o with
    | none => simpa [ab_self] using ih
    | some a =>
      cases a with
      | inl x => simpa [ab_self] using ih
      | inr x => simpa [ab_self] using ih
theorem ab_drop_at {h : ab_L} {Lc : List (Option Value)} {n : Nat} (h1 : h.length = n) (h2 : Lc.length = n) (l : Nat) : (ab_drop h Lc)[l]? = match h[l]? with
    | some (some _) => Lc[l]?
    | some none => some none
    | none => none := by
  unfold ab_drop
  rw [List.getElem?_zipWith]
  cases hh : h[l]? with
  | none => rfl
  | some o =>
    have hl : l < n := by
      have := (List.getElem?_eq_some_iff.mp hh).1
      omega
    rw [List.getElem?_eq_getElem (by omega : l < Lc.length)]
    cases o with
    | none => rfl
    | some a => rfl
/-- what stands at an arrival stands for the head, at the values that the locals have -/
theorem ab_arrive {S : Nat → Int} {n : Nat} {A h : ab_L} {Lc : List (Option Value)} (hA : ab_lv S n A Lc) (hn : h.length = n) (hle : ab_leL A h = true) : ab_lv (ab_val Lc) n (ab_self 0 h) (ab_drop h Lc) := by
  have hd := ab_drop_at (Lc := Lc) hn hA.1
  refine ⟨?_, by rw [ab_self_len]; exact hn, fun l a ha => ?_, fun l ha => ?_⟩
  · unfold ab_drop
    rw [List.length_zipWith, hn, hA.1]
    omega
  · rw [ab_self_at, Nat.zero_add] at ha
    cases hh : h[l]? with
    | none => rw [hh] at ha; cases ha
    | some o =>
      cases o with
      | none => rw [hh] at ha; cases ha
      | some b =>
        rw [hh] at ha
        have le := ab_leL_ok hle l b hh
        have dl := hd l
        rw [hh] at dl
        cases hAl : A[l]? with
        | none =>
          rw [hAl] at le
          cases b with
          | inl y => cases le
          | inr b => cases b <;> cases le
        | some o2 =>
          cases o2 with
          | none =>
            rw [hAl] at le
            cases b with
            | inl y => cases le
            | inr b => cases b <;> cases le
          | some a2 =>
            obtain ⟨v, hv, hav⟩ := hA.2.2.1 l a2 hAl
            rw [hAl] at le
            refine ⟨v, by rw [dl]; exact hv, ?_⟩
            cases b with
            | inl y =>
              cases ha
              cases a2 with
              | inr a2 => cases a2 <;> cases le
              | inl x =>
                obtain ⟨lo, hi, r, o⟩ := x
                obtain ⟨m, rfl, i1⟩ := ab_v_int hav
                have le : (decide (y.1 ≤ lo) && decide (hi ≤ y.2.1)) = true := le
                rw [Bool.and_eq_true] at le
                refine ⟨Int.le_trans (of_decide_eq_true le.1) i1.1, Int.le_trans i1.2.1 (of_decide_eq_true le.2), fun k c e => ?_, fun _ e => (by cases e)⟩
                cases e
                unfold ab_val
                rw [hv]
                show m.toInt = m.toInt + 0
                omega
            | inr b =>
              cases b with
              | inl p =>
                cases ha
                cases a2 with
                | inl x => cases le
                | inr a2 =>
                  cases a2 with
                  | inl q =>
                    have e := dp_beq le
                    subst e
                    have e2 := ab_v_ref hav
                    subst e2
                    exact rfl
                  | inr q => cases le
              | inr p =>
                cases ha
                cases a2 with
                | inl x => cases le
                | inr a2 =>
                  cases a2 with
                  | inl q => cases le
                  | inr q =>
                    obtain ⟨m, rfl⟩ := ab_v_long hav
                    exact trivial
  · rw [ab_self_at] at ha
    cases hh : h[l]? with
    | none => rw [hh] at ha; cases ha
    | some o =>
      cases o with
      | none =>
        have dl := hd l
        rw [hh] at dl
        exact dl
      | some b =>
        rw [hh] at ha
        cases b with
        | inl y => cases ha
        | inr b => cases ha
theorem ab_drop_less {h : ab_L} {Lc : List (Option Value)} {n : Nat} (h1 : h.length = n) (h2 : Lc.length = n) : ∀ (i : Nat) (v : Value), (ab_drop h Lc)[i]? = some (some v) → Lc[i]? = some (some v) := by
  intro i v hi
  rw [ab_drop_at h1 h2] at hi
  split at hi
  · exact hi
  · cases hi
  · cases hi
