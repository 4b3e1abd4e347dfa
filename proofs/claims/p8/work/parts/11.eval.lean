def ev_get (o : Option dp_R) : dp_R := match o with
  | some R => R
  | none => (none, [], (fun _ _ => none, fun _ _ => none), dp_w0)
def ev_s0 : sm_S := [.inl (0, [some none, some none, some none, some none, some none, some none, some none, none])]
def ev_s1 : sm_S := [.inl (0, [some (some 1), some (some 13), some (some 25), some (some 28), some (some 38), some (some 42), some (some 44), none]),
  .inl (1, [some (some 2), some (some 3), some (some 4), some (some 5), none, some (some 6), some (some 7), some (some 8), some (some 9), some (some 10), some (some 11), none, some (some 12), none]),
  .inr (0, 32),
  .inr (0, 32),
  .inr (0, 32),
  .inr (0, 32),
  .inr (0, 32),
  .inr (0, 32),
  .inr (0, 32),
  .inr (0, 32),
  .inr (0, 4),
  .inr (0, 4),
  .inr (0, 4),
  .inl (2, [some (some 1), some (some 19), some (some 14), some (some 15), some (some 16), some (some 17), some (some 18)]),
  .inr (0, 2016),
  .inr (0, 2016),
  .inr (0, 128),
  .inr (0, 4),
  .inr (0, 4),
  .inl (3, [some (some 1), some (some 20), some (some 21), some (some 22), some (some 23), some (some 24)]),
  .inr (2, 32),
  .inr (2, 4),
  .inr (2, 32),
  .inr (2, 32),
  .inr (2, 8),
  .inl (4, [some (some 1), some (some 13), some (some 26), some (some 27), none]),
  .inr (0, 8),
  .inr (0, 252),
  .inl (5, [some (some 29), some (some 1), some (some 33), some (some 34), some (some 35), some (some 36), some (some 37), none, none, none, none, none, none, none, none]),
  .inl (6, [some (some 30), none, some (some 31), some (some 32)]),
  .inr (0, 60),
  .inr (0, 160),
  .inr (0, 4),
  .inr (0, 4),
  .inr (0, 4),
  .inr (0, 28),
  .inr (0, 7),
  .inr (0, 7),
  .inl (7, [none, some (some 39), some (some 40), some (some 41)]),
  .inr (0, 5),
  .inr (0, 4),
  .inr (0, 4),
  .inl (8, [some (some 1), some (some 38), some (some 43)]),
  .inr (0, 32),
  .inl (9, [some (some 45), none, none, none]),
  .inr (0, 8)]
def ev_s1m : sm_S := (ev_s1 ++ [.inl (10, [none, some none, some none, some none, some none, none, none, some none, some none, some none, some none, some none, some none, some none, some none, some none, some none, some none, some none, some none, none, none, some none, some none, none, none, none, some none, some none, some none, none, some none, some none, some none, none, some none, some none, some none])] : sm_S)
def ev_s2 : sm_S := ev_s1 ++ [.inl (10, [none, some (some 47), some (some 48), some (some 49), some (some 50), none, none, some (some 51), some (some 52), some (some 53), some (some 54), some (some 55), some (some 56), some (some 57), some (some 58), some (some 59), some (some 60), some (some 61), some (some 62), some (some 63), none, none, some (some 64), some (some 65), none, none, none, some (some 66), some (some 67), some (some 68), none, some (some 69), some (some 70), some (some 71), none, some (some 72), some (some 73), some (some 74)]),
  .inr (0, 32),
  .inr (0, 32),
  .inr (0, 32),
  .inr (0, 32),
  .inr (0, 5),
  .inr (0, 5),
  .inr (0, 32),
  .inr (0, 32),
  .inr (0, 32),
  .inr (0, 32),
  .inr (0, 32),
  .inr (0, 4),
  .inr (2, 36),
  .inr (2, 1008),
  .inr (2, 1008),
  .inr (2, 1008),
  .inr (2, 4),
  .inr (2, 4),
  .inr (0, 4),
  .inr (0, 28),
  .inr (0, 7),
  .inr (0, 4),
  .inr (0, 60),
  .inr (0, 4),
  .inr (0, 160),
  .inr (1, 25),
  .inr (0, 4),
  .inr (0, 4)]
def ev_P0 : dp_P := dp_z (fun _ _ => none, fun _ _ => none) 0
def ev_okS (o : Option dp_R) (v : Option Value) (s : sm_S) : Bool := match o with
  | some R => decide (R.1 = v) && decide (R.2.1 = s)
  | none => false
theorem ev_okS_ok {o : Option dp_R} {v : Option Value} {s : sm_S} (h : ev_okS o v s = true) : o = some (ev_get o) ∧ (ev_get o).1 = v ∧ (ev_get o).2.1 = s := by
  cases o with
  | none => cases h
  | some R =>
    have h : (decide (R.1 = v) && decide (R.2.1 = s)) = true := h
    rw [Bool.and_eq_true] at h
    exact ⟨rfl, of_decide_eq_true h.1, of_decide_eq_true h.2⟩
def ev_R1 : Option dp_R := tb_cf 4 0 [.ref 0] ev_s0 ev_P0
theorem ev_R1_ok : ev_okS ev_R1 none ev_s1 = true := by decide +kernel
def ev_P1 : dp_P := dp_z (ev_get ev_R1).2.2.1 46
def ev_R2 : Option dp_R := tb_cf 4 142 [.ref 46] ev_s1m ev_P1
theorem ev_R2_ok : ev_okS ev_R2 none ev_s2 = true := by decide +kernel
def ev_P2 : dp_P := (ev_get ev_R2).2.2.1
def ev_okW (o : Option dp_R) (v : Option Value) (s : sm_S) (b : Nat) : Bool := match o with
  | some R => decide (R.1 = v) && (decide (R.2.1 = s) && Nat.ble R.2.2.2.2 b)
  | none => false
theorem ev_okW_ok {o : Option dp_R} {v : Option Value} {s : sm_S} {b : Nat} (h : ev_okW o v s b = true) : o = some (ev_get o) ∧ (ev_get o).1 = v ∧ (ev_get o).2.1 = s ∧ (ev_get o).2.2.2.2 ≤ b := by
  cases o with
  | none => cases h
  | some R =>
    have h : (decide (R.1 = v) && (decide (R.2.1 = s) && Nat.ble R.2.2.2.2 b)) = true := h
    rw [Bool.and_eq_true, Bool.and_eq_true] at h
    exact ⟨rfl, of_decide_eq_true h.1, of_decide_eq_true h.2.1, Nat.le_of_ble_eq_true h.2.2⟩
/-- what is known of the reference's cells alone -/
def ev_Pm : dp_P := (fun q i => bif Nat.ble 46 q then ev_P2.1 q i else none, fun q i => bif Nat.ble 46 q then ev_P2.2 q i else none)
theorem ev_Pm_le {μ μ' : sm_M} {w : Nat × Nat} (h : dp_le ev_P2 μ) (ho : dp_ou w μ' μ) (hw : w.2 ≤ 46) : dp_le ev_Pm μ' := by
  refine ⟨fun q i v hv => ?_, fun q i v hv => ?_⟩
  · have hv : (bif Nat.ble 46 q then ev_P2.1 q i else none) = some v := hv
    cases hb : Nat.ble 46 q with
    | false => rw [hb] at hv; cases hv
    | true =>
      rw [hb] at hv
      have hq := Nat.le_of_ble_eq_true hb
      rw [(ho q (Or.inr (Nat.le_trans hw hq))).1]
      exact h.1 q i v hv
  · have hv : (bif Nat.ble 46 q then ev_P2.2 q i else none) = some v := hv
    cases hb : Nat.ble 46 q with
    | false => rw [hb] at hv; cases hv
    | true =>
      rw [hb] at hv
      have hq := Nat.le_of_ble_eq_true hb
      rw [(ho q (Or.inr (Nat.le_trans hw hq))).2]
      exact h.2 q i v hv
