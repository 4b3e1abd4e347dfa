/-! bits of longs -/
def bitL (y : Int64) (k : Int) : Bool := y.toBitVec.getLsbD k.toNat
theorem bitL_or (x y : Int64) (k : Int) : bitL (x ||| y) k = (bitL x k || bitL y k) := by
  unfold bitL
  show (x.toBitVec ||| y.toBitVec).getLsbD k.toNat = _
  rw [BitVec.getLsbD_or]
theorem bitL_and (x y : Int64) (k : Int) : bitL (x &&& y) k = (bitL x k && bitL y k) := by
  unfold bitL
  show (x.toBitVec &&& y.toBitVec).getLsbD k.toNat = _
  rw [BitVec.getLsbD_and]
theorem bitL_not_t : (List.range 64).all (fun j => (-1 : Int64).toBitVec.getLsbD j) = true := by decide +kernel
theorem bitL_not (x : Int64) {k : Int} (k0 : 0 ≤ k) (k1 : k < 64) : bitL (x ^^^ (-1)) k = !(bitL x k) := by
  unfold bitL
  show (x.toBitVec ^^^ (-1 : Int64).toBitVec).getLsbD k.toNat = _
  rw [BitVec.getLsbD_xor, List.all_eq_true.mp bitL_not_t k.toNat (List.mem_range.mpr (by omega))]
  cases x.toBitVec.getLsbD k.toNat <;> rfl
theorem bitL_shl_t : (List.range 64).all (fun k => (List.range 64).all (fun j => (Int64.ofNat 1 <<< ((Int32.ofInt (k : Int)).toInt64 &&& 63)).toBitVec.getLsbD j == (j == k))) = true := by decide +kernel
theorem bitL_shl {k j : Int} (k0 : 0 ≤ k) (k1 : k < 64) (j0 : 0 ≤ j) (j1 : j < 64) : bitL (Int64.ofNat 1 <<< ((Int32.ofInt k).toInt64 &&& 63)) j = decide (j = k) := by
  unfold bitL
  obtain ⟨n, rfl⟩ := Int.eq_ofNat_of_zero_le k0
  obtain ⟨i, rfl⟩ := Int.eq_ofNat_of_zero_le j0
  have h := List.all_eq_true.mp (List.all_eq_true.mp bitL_shl_t n (List.mem_range.mpr (by omega))) i (List.mem_range.mpr (by omega))
  have h := eq_of_beq h
  rw [Int.toNat_natCast, h]
  by_cases e : i = n
  · subst e; simp
  · have e2 : ¬ ((i : Int) = (n : Int)) := by omega
    simp [e, e2]
theorem bitL_zero (k : Int) : bitL 0 k = false := by
  unfold bitL
  show (0#64).getLsbD k.toNat = false
  simp
theorem lg_cmp0 (x y : Int64) : (lg_cmp x y).toInt = 0 ↔ x = y := by
  unfold lg_cmp
  by_cases h : x > y
  · rw [if_pos h]
    exact ⟨fun z => absurd z (by decide), fun z => absurd (z ▸ h) (Int64.lt_irrefl)⟩
  · rw [if_neg h]
    by_cases e : x = y
    · rw [if_pos e]
      exact ⟨fun _ => e, fun _ => by decide⟩
    · rw [if_neg e]
      exact ⟨fun z => absurd z (by decide), fun z => absurd z e⟩
theorem bi_one64 (b : BitVec 64) : (b &&& 1#64 = 0#64) ↔ b.getLsbD 0 = false := by
  rw [BitVec.and_one_eq_setWidth_ofBool_getLsbD]
  cases b.getLsbD 0 <;> simp
theorem bi_63_t : (List.range 64).all (fun k => decide (((Int32.ofInt (k : Int)).toInt64.toUInt64 &&& Int64.toUInt64 63).toBitVec % 64#64 = BitVec.ofNat 64 k)) = true := by decide +kernel
theorem bitL_has {y : Int64} {k : Int} (k0 : 0 ≤ k) (k1 : k < 64) : (y.toUInt64 >>> ((Int32.ofInt k).toInt64.toUInt64 &&& Int64.toUInt64 63)).toInt64 &&& Int64.ofNat 1 = 0 ↔ bitL y k = false := by
  obtain ⟨n, rfl⟩ := Int.eq_ofNat_of_zero_le k0
  have h := of_decide_eq_true (List.all_eq_true.mp bi_63_t n (List.mem_range.mpr (by omega)))
  rw [← Int64.toBitVec_inj]
  show ((y.toBitVec >>> (((Int32.ofInt (n : Int)).toInt64.toUInt64 &&& Int64.toUInt64 63).toBitVec % 64#64)) &&& 1#64 = 0#64) ↔ _
  rw [h, bi_one64]
  unfold bitL
  rw [Int.toNat_natCast, BitVec.ushiftRight_eq', BitVec.getLsbD_ushiftRight, BitVec.toNat_ofNat, Nat.mod_eq_of_lt (by omega), Nat.add_zero]
theorem bi_63s_t : (List.range 64).all (fun k => decide ((((Int32.ofInt (k : Int)).toInt64 &&& 63).toBitVec.smod 64#64).toNat = k)) = true := by decide +kernel
theorem bitL_sh {y : Int64} {k : Int} (k0 : 0 ≤ k) (k1 : k < 64) : (y >>> ((Int32.ofInt k).toInt64 &&& 63)) &&& Int64.ofNat 1 = 0 ↔ bitL y k = false := by
  obtain ⟨n, rfl⟩ := Int.eq_ofNat_of_zero_le k0
  have h := of_decide_eq_true (List.all_eq_true.mp bi_63s_t n (List.mem_range.mpr (by omega)))
  rw [← Int64.toBitVec_inj]
  show ((y.toBitVec.sshiftRight' (((Int32.ofInt (n : Int)).toInt64 &&& 63).toBitVec.smod 64#64)) &&& 1#64 = 0#64) ↔ _
  rw [bi_one64]
  unfold bitL
  rw [Int.toNat_natCast, BitVec.sshiftRight_eq', h, BitVec.getLsbD_sshiftRight]
  simp
  omega
/-- the least set that holds the beginnings and all that a way leads to, where no way goes on from a stop -/
def rs (S : Int → Int → Prop) (X stop : Int → Prop) (j : Int) : Prop := ∀ C : Int → Prop, (∀ i, X i → C i) → (∀ i k, C i → ¬ stop i → S i k → C k) → C j
theorem rs_in {S : Int → Int → Prop} {X stop : Int → Prop} {j : Int} (h : X j) : rs S X stop j := fun _ a _ => a j h
theorem rs_go {S : Int → Int → Prop} {X stop : Int → Prop} {i k : Int} (h : rs S X stop i) (hn : ¬ stop i) (hs : S i k) : rs S X stop k := fun C a b => b i k (h C a b) hn hs
theorem rs_tr {S : Int → Int → Prop} {X : Int → Prop} {k j : Int} (h : rs S X (fun _ => False) k) (h' : rs S (S k) (fun _ => False) j) : rs S X (fun _ => False) j := fun C a b => h' C (fun i hi => b k i (h C a b) id hi) b
/-! how many bits a long has: floods end -/
def cnL (y : Int64) : Nat → Nat
  | 0 => 0
  | n + 1 => cnL y n + (if bitL y (n : Int) = true then 1 else 0)
theorem cnL_le (y : Int64) : ∀ n, cnL y n ≤ n
  | 0 => Nat.le_refl _
  | n + 1 => by
    have := cnL_le y n
    show cnL y n + (if bitL y (n : Int) = true then 1 else 0) ≤ n + 1
    split <;> omega
theorem cnL_mono {x y : Int64} : ∀ n : Nat, (∀ j : Nat, j < n → bitL x (j : Int) = true → bitL y (j : Int) = true) → cnL x n ≤ cnL y n
  | 0, _ => Nat.le_refl _
  | n + 1, h => by
    have h1 := cnL_mono n (fun j hj => h j (by omega))
    have h2 := h n (by omega)
    show cnL x n + (if bitL x (n : Int) = true then 1 else 0) ≤ cnL y n + (if bitL y (n : Int) = true then 1 else 0)
    by_cases e : bitL x (n : Int) = true
    · rw [if_pos e, if_pos (h2 e)]
      omega
    · rw [if_neg e]
      split <;> omega
theorem cnL_lt {x y : Int64} {j : Nat} (hx : bitL x (j : Int) = false) (hy : bitL y (j : Int) = true) : ∀ n : Nat, j < n → (∀ j : Nat, j < n → bitL x (j : Int) = true → bitL y (j : Int) = true) → cnL x n < cnL y n
  | 0, hj, _ => absurd hj (Nat.not_lt_zero _)
  | n + 1, hj, h => by
    show cnL x n + (if bitL x (n : Int) = true then 1 else 0) < cnL y n + (if bitL y (n : Int) = true then 1 else 0)
    by_cases e : j = n
    · subst e
      have h1 := cnL_mono j (fun i hi => h i (by omega))
      rw [hx, hy]
      simp
      omega
    · have h1 := cnL_lt hx hy n (by omega) (fun i hi => h i (by omega))
      have h2 := h n (by omega)
      by_cases e : bitL x (n : Int) = true
      · rw [if_pos e, if_pos (h2 e)]
        omega
      · rw [if_neg e]
        split <;> omega
theorem cnL_full {y : Int64} : ∀ n : Nat, n ≤ cnL y n → ∀ j : Nat, j < n → bitL y (j : Int) = true
  | 0, _, j, hj => absurd hj (Nat.not_lt_zero _)
  | n + 1, h, j, hj => by
    have h : n + 1 ≤ cnL y n + (if bitL y (n : Int) = true then 1 else 0) := h
    have h0 := cnL_le y n
    by_cases e : bitL y (n : Int) = true
    · by_cases ej : j = n
      · subst ej
        exact e
      · rw [if_pos e] at h
        exact cnL_full n (by omega) j (by omega)
    · rw [if_neg e] at h
      omega
theorem bitL_ne {x y : Int64} (h : ¬ y = x) (hs : ∀ j : Nat, j < 64 → bitL x (j : Int) = true → bitL y (j : Int) = true) : ∃ j : Nat, j < 64 ∧ bitL x (j : Int) = false ∧ bitL y (j : Int) = true := by
  apply Classical.byContradiction
  intro hn
  apply h
  apply Int64.toBitVec_inj.mp
  apply BitVec.eq_of_getLsbD_eq
  intro i hi
  have h1 := hs i hi
  have h2 : ¬ (bitL x (i : Int) = false ∧ bitL y (i : Int) = true) := fun z => hn ⟨i, hi, z.1, z.2⟩
  unfold bitL at h1 h2
  rw [Int.toNat_natCast] at h1 h2
  cases hx : x.toBitVec.getLsbD i with
  | true => exact h1 hx
  | false =>
    cases hy : y.toBitVec.getLsbD i with
    | false => rfl
    | true => exact absurd ⟨hx, hy⟩ h2
/-! floods: a long as a set of positions -/
def fX (x : Int64) (j : Int) : Prop := bitL x j = true ∧ 0 ≤ j ∧ j ≤ 63
def fN (N : Nat) (x : Int64) : Prop := ∀ j, fX x j → j ≤ (N : Int)
def gSo (N : Nat) (S : Int → Int → Prop) (X stop : Int → Prop) (z : Int64) : Prop := (∀ j, X j → fX z j) ∧ (∀ j, fX z j → rs S X stop j) ∧ fN N z
def gCl (S : Int → Int → Prop) (stop : Int → Prop) (z : Int64) : Prop := ∀ i k, fX z i → ¬ stop i → S i k → fX z k
def gIn (S : Int → Int → Prop) (stop : Int → Prop) (b z : Int64) (i : Int) : Prop := (∀ j, fX b j → fX z j) ∧ ∀ i' k, i' < i → fX b i' → ¬ stop i' → S i' k → fX z k
theorem fX_or {x y : Int64} {j : Int} : fX (x ||| y) j ↔ fX x j ∨ fX y j := by
  unfold fX
  rw [bitL_or, Bool.or_eq_true]
  constructor
  · rintro ⟨a | a, b⟩
    · exact Or.inl ⟨a, b⟩
    · exact Or.inr ⟨a, b⟩
  · rintro (⟨a, b⟩ | ⟨a, b⟩)
    · exact ⟨Or.inl a, b⟩
    · exact ⟨Or.inr a, b⟩
theorem fX_no {j : Int} : ¬ fX 0 j := fun h => by
  have := h.1
  rw [bitL_zero] at this
  cases this
theorem gl_go {N : Nat} {S : Int → Int → Prop} {X stop : Int → Prop} {b z t : Int64} {i : Int} (ht : ∀ k, fX t k ↔ S i k) (hN : fN N t) (hz : fX z i) (hy : ¬ stop i) (h : gSo N S X stop z) (hb : gIn S stop b z i) : gSo N S X stop (z ||| t) ∧ gIn S stop b (z ||| t) (i + 1) := by
  refine ⟨⟨fun j hj => fX_or.mpr (Or.inl (h.1 j hj)), fun j hj => ?_, fun j hj => ?_⟩, fun j hj => fX_or.mpr (Or.inl (hb.1 j hj)), fun i' k hi' hx hn hs => ?_⟩
  · rcases fX_or.mp hj with hj | hj
    · exact h.2.1 j hj
    · exact rs_go (h.2.1 i hz) hy ((ht j).mp hj)
  · rcases fX_or.mp hj with hj | hj
    · exact h.2.2 j hj
    · exact hN j hj
  · by_cases e : i' = i
    · subst e
      exact fX_or.mpr (Or.inr ((ht k).mpr hs))
    · exact fX_or.mpr (Or.inl (hb.2 i' k (by omega) hx hn hs))
theorem gl_no {S : Int → Int → Prop} {stop : Int → Prop} {b z : Int64} {i : Int} (hz : ¬ fX z i ∨ stop i) (hb : gIn S stop b z i) : gIn S stop b z (i + 1) := by
  refine ⟨hb.1, fun i' k hi' hx hn hs => ?_⟩
  by_cases e : i' = i
  · subst e
    rcases hz with hz | hz
    · exact absurd (hb.1 i' hx) hz
    · exact absurd hz hn
  · exact hb.2 i' k (by omega) hx hn hs
theorem gl_end {N : Nat} {S : Int → Int → Prop} {X stop : Int → Prop} {b z : Int64} {i rd : Int} (hN : N < 64) (hi : ∀ i' k, S i' k → i' < i) (h : gSo N S X stop z) (hb : gIn S stop b z i) (hr : 0 ≤ rd) (hc : rd.toNat ≤ cnL b (N + 1)) : (z = b → gCl S stop z) ∧ (¬ z = b → (rd + 1).toNat ≤ cnL z (N + 1)) := by
  constructor
  · intro e
    subst e
    exact fun i' k hx hn hs => hb.2 i' k (hi i' k hs) hx hn hs
  · intro e
    have sub : ∀ j : Nat, j < 64 → bitL b (j : Int) = true → bitL z (j : Int) = true := fun j hj q => (hb.1 j ⟨q, by omega, by omega⟩).1
    obtain ⟨j, j1, hx, hy⟩ := bitL_ne e sub
    have hj := h.2.2 j ⟨hy, by omega, by omega⟩
    have := cnL_lt hx hy (N + 1) (by omega) (fun k hk => sub k (by omega))
    omega
theorem gl_full {N : Nat} {S : Int → Int → Prop} {stop : Int → Prop} {z : Int64} (hN : N < 64) (hc : N + 1 ≤ cnL z (N + 1)) (hS : ∀ i k, S i k → 0 ≤ k ∧ k ≤ (N : Int)) : gCl S stop z := fun i k _ _ hs => by
  obtain ⟨k0, k1⟩ := hS i k hs
  obtain ⟨n, rfl⟩ := Int.eq_ofNat_of_zero_le k0
  exact ⟨cnL_full (N + 1) hc n (by omega), by omega, by omega⟩
theorem gl_fin {N : Nat} {S : Int → Int → Prop} {X stop : Int → Prop} {z : Int64} (h : gSo N S X stop z) (hc : gCl S stop z) : ∀ j, fX z j ↔ rs S X stop j := fun j => ⟨h.2.1 j, fun q => q (fX z) h.1 (fun i k a b c => hc i k a b c)⟩
theorem fX_an {z y : Int64} {i : Int} (i0 : 0 ≤ i) (i1 : i ≤ 63) : bitL (z &&& (y ^^^ (-1))) i = true ↔ (fX z i ∧ ¬ fX y i) := by
  unfold fX
  rw [bitL_and, bitL_not y i0 (by omega), Bool.and_eq_true]
  cases bitL y i <;> simp <;> omega
theorem fX_an0 {z y : Int64} {i : Int} (i0 : 0 ≤ i) (i1 : i ≤ 63) (h : bitL (z &&& (y ^^^ (-1))) i = false) : ¬ fX z i ∨ fX y i := by
  by_cases hz : fX z i
  · by_cases hy : fX y i
    · exact Or.inr hy
    · have q := (fX_an i0 i1).mpr ⟨hz, hy⟩
      rw [h] at q
      cases q
  · exact Or.inl hz
theorem fX_one {a j : Int} (a0 : 0 ≤ a) (a1 : a < 64) : fX (Int64.ofNat 1 <<< ((Int32.ofInt a).toInt64 &&& 63)) j ↔ j = a := by
  unfold fX
  constructor
  · rintro ⟨h, j0, j1⟩
    rw [bitL_shl a0 a1 j0 (by omega)] at h
    exact of_decide_eq_true h
  · intro e
    subst e
    exact ⟨by rw [bitL_shl a0 a1 a0 a1]; exact decide_eq_true rfl, a0, by omega⟩
theorem fX_two {a b j : Int} (a0 : 0 ≤ a) (a1 : a < 64) (b0 : 0 ≤ b) (b1 : b < 64) : fX ((Int64.ofNat 1 <<< ((Int32.ofInt a).toInt64 &&& 63)) ||| (Int64.ofNat 1 <<< ((Int32.ofInt b).toInt64 &&& 63))) j ↔ (j = a ∨ j = b) := by
  rw [fX_or, fX_one a0 a1, fX_one b0 b1]
theorem fX_has {y : Int64} {k c : Int} (k0 : 0 ≤ k) (k1 : k ≤ 63) (e : c = (lg_cmp ((y.toUInt64 >>> ((Int32.ofInt k).toInt64.toUInt64 &&& Int64.toUInt64 63)).toInt64 &&& Int64.ofNat 1) (Int64.ofNat 0)).toInt) : c = 0 ↔ bitL y k = false := by
  have h := bitL_has (y := y) k0 (by omega)
  have g := lg_cmp0 ((y.toUInt64 >>> ((Int32.ofInt k).toInt64.toUInt64 &&& Int64.toUInt64 63)).toInt64 &&& Int64.ofNat 1) (Int64.ofNat 0)
  rw [← e] at g
  exact g.trans h
theorem fX_sh {y : Int64} {k c : Int} (k0 : 0 ≤ k) (k1 : k ≤ 63) (e : c = (lg_cmp ((y >>> ((Int32.ofInt k).toInt64 &&& 63)) &&& Int64.ofNat 1) (Int64.ofNat 0)).toInt) : c = 0 ↔ bitL y k = false := by
  have h := bitL_sh (y := y) k0 (by omega)
  have g := lg_cmp0 ((y >>> ((Int32.ofInt k).toInt64 &&& 63)) &&& Int64.ofNat 1) (Int64.ofNat 0)
  rw [← e] at g
  exact g.trans h
theorem fX_cmp {z : Int64} {n c : Int} (n0 : 0 ≤ n) (n1 : n ≤ 63) (e : c = (lg_cmp ((z >>> ((Int32.ofInt n).toInt64 &&& 63)) &&& Int64.ofNat 1) (Int64.ofNat 0)).toInt) : (¬ c = 0) ↔ fX z n := by
  rw [fX_sh n0 n1 e]
  constructor
  · intro h
    refine ⟨?_, n0, n1⟩
    cases hb : bitL z n with
    | true => rfl
    | false => exact absurd hb h
  · intro hx hc
    rw [hx.1] at hc
    cases hc
