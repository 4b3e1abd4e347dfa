/-! segments between loop heads -/
def ab_tv (S : Nat → Int) : ab_Tm → Nat
  | .inl a => a
  | .inr (l, c) => (c - S l).toNat
def ab_enc (S : Nat → Int) : List ab_Tm → Nat
  | [] => 0
  | t :: s => ab_tv S t * (4294967296 ^ s.length) + ab_enc S s
theorem ab_enc_lt {S : Nat → Int} : ∀ {s : List ab_Tm}, (∀ t ∈ s, ab_tv S t < 4294967296) → ab_enc S s < 4294967296 ^ s.length
  | [], _ => by simp [ab_enc]
  | t :: s, h => by
    have h1 := ab_enc_lt (fun x hx => h x (List.mem_cons_of_mem _ hx))
    have h2 := h t List.mem_cons_self
    unfold ab_enc
    rw [List.length_cons, Nat.pow_succ]
    generalize 4294967296 ^ s.length = B at h1 ⊢
    have h3 : ab_tv S t * B + B ≤ 4294967296 * B := by
      have : (ab_tv S t + 1) * B ≤ 4294967296 * B := Nat.mul_le_mul_right B h2
      rw [Nat.add_mul, Nat.one_mul] at this
      exact this
    rw [Nat.mul_comm B]
    omega
/-- the values that the locals have -/
def ab_val (Lc : List (Option Value)) (l : Nat) : Int := match Lc[l]? with
  | some (some (.int v)) => v.toInt
  | _ => 0
theorem ab_fall_ok {S S' : Nat → Int} {A : ab_L} {n : Nat} {Lc : List (Option Value)} (hA : ab_lv S n A Lc) (hS : ∀ l x, A[l]? = some (some (.inl x)) → S' l = ab_val Lc l) : ∀ {s t : List ab_Tm}, ab_fall A s t = true → (∀ x ∈ s, ab_tv S x < 4294967296) → (∀ x ∈ t, ab_tv S' x < 4294967296) → (∀ l c, .inr (l, c) ∈ s → S l ≤ c) → (∀ l c, .inr (l, c) ∈ t → S' l ≤ c) → ab_enc S' t < ab_enc S s ∧ t.length = s.length
  | [], _, h, _, _, _, _ => by cases h
  | .inl a :: s, [], h, _, _, _, _ => by cases h
  | .inr a :: s, [], h, _, _, _, _ => by cases h
  | .inl a :: s, .inr b :: t, h, _, _, _, _ => by cases h
  | .inr a :: s, .inl b :: t, h, _, _, _, _ => by cases h
  | .inl a :: s, .inl b :: t, h, h1, h2, h3, h4 => by
    unfold ab_fall at h
    cases hb : Nat.beq a b with
    | true =>
      rw [hb] at h
      have e := dp_beq hb
      subst e
      obtain ⟨q1, q2⟩ := ab_fall_ok hA hS h (fun x hx => h1 x (List.mem_cons_of_mem _ hx)) (fun x hx => h2 x (List.mem_cons_of_mem _ hx)) (fun l c hx => h3 l c (List.mem_cons_of_mem _ hx)) (fun l c hx => h4 l c (List.mem_cons_of_mem _ hx))
      refine ⟨?_, by rw [List.length_cons, List.length_cons, q2]⟩
      unfold ab_enc
      rw [q2]
      show a * _ + _ < a * _ + _
      omega
    | false =>
      rw [hb, cond_false, Bool.and_eq_true] at h
      have z1 := Nat.le_of_ble_eq_true h.1
      have z2 := dp_beq h.2
      refine ⟨?_, by rw [List.length_cons, List.length_cons, z2]⟩
      have lt := ab_enc_lt (fun x hx => h2 x (List.mem_cons_of_mem _ hx))
      unfold ab_enc
      rw [← z2] at lt ⊢
      show b * _ + _ < a * _ + _
      have h5 : (b + 1) * 4294967296 ^ s.length ≤ a * 4294967296 ^ s.length := Nat.mul_le_mul_right _ z1
      rw [Nat.add_mul, Nat.one_mul] at h5
      omega
  | .inr (l, c) :: s, .inr (l', c') :: t, h, h1, h2, h3, h4 => by
    unfold ab_fall at h
    rw [Bool.and_eq_true, Bool.and_eq_true] at h
    obtain ⟨e1, e2, h⟩ := h
    have e1 := dp_beq e1
    have e2 := of_decide_eq_true e2
    subst e1 e2
    split at h
    · rename_i x hx
      split at h
      · rename_i k d hr
        rw [Bool.and_eq_true] at h
        obtain ⟨ek, h⟩ := h
        have ek := dp_beq ek
        subst ek
        obtain ⟨v, hv, hav⟩ := hA.2.2.1 _ _ hx
        obtain ⟨lo, hi, r, o⟩ := x
        obtain ⟨m, rfl, i1⟩ := ab_v_int hav
        have hrel : m.toInt = S k + d := i1.2.2.1 k d hr
        have hS' : S' k = S k + d := by
          rw [hS k _ hx]
          unfold ab_val
          rw [hv]
          exact hrel
        have b3 := h3 k c List.mem_cons_self
        have b4 := h4 k c List.mem_cons_self
        cases hd : decide (d = 0) with
        | true =>
          rw [hd] at h
          have e0 := of_decide_eq_true hd
          obtain ⟨q1, q2⟩ := ab_fall_ok hA hS h (fun x hx => h1 x (List.mem_cons_of_mem _ hx)) (fun x hx => h2 x (List.mem_cons_of_mem _ hx)) (fun l c hx => h3 l c (List.mem_cons_of_mem _ hx)) (fun l c hx => h4 l c (List.mem_cons_of_mem _ hx))
          refine ⟨?_, by rw [List.length_cons, List.length_cons, q2]⟩
          unfold ab_enc
          rw [q2]
          show (c - S' k).toNat * _ + _ < (c - S k).toNat * _ + _
          have e9 : S' k = S k := by omega
          rw [e9]
          omega
        | false =>
          rw [hd, cond_false, Bool.and_eq_true] at h
          have z1 := of_decide_eq_true h.1
          have z2 := dp_beq h.2
          refine ⟨?_, by rw [List.length_cons, List.length_cons, z2]⟩
          have lt := ab_enc_lt (fun x hx => h2 x (List.mem_cons_of_mem _ hx))
          unfold ab_enc
          rw [← z2] at lt ⊢
          show (c - S' k).toNat * _ + _ < (c - S k).toNat * _ + _
          have z3 : (c - S' k).toNat + 1 ≤ (c - S k).toNat := by omega
          have h5 : ((c - S' k).toNat + 1) * 4294967296 ^ s.length ≤ (c - S k).toNat * 4294967296 ^ s.length := Nat.mul_le_mul_right _ z3
          rw [Nat.add_mul, Nat.one_mul] at h5
          omega
      · cases h
    · cases h
