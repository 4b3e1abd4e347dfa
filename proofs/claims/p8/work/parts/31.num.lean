/-! ranges of ints -/
theorem ab_min (v : Int32) : ab_lo ≤ v.toInt := Int32.le_toInt v
theorem ab_max (v : Int32) : v.toInt ≤ ab_hi := by
  have h := Int32.toInt_lt v
  show v.toInt ≤ 2147483647
  omega
theorem ab_bm {n : Int} (h1 : ab_lo ≤ n) (h2 : n ≤ ab_hi) : n.bmod (2 ^ 32) = n := by
  have h1 : (-2147483648 : Int) ≤ n := h1
  have h2 : n ≤ (2147483647 : Int) := h2
  apply Int.bmod_eq_of_le <;> omega
theorem ab_tadd {x y : Int32} (h1 : ab_lo ≤ x.toInt + y.toInt) (h2 : x.toInt + y.toInt ≤ ab_hi) : (x + y).toInt = x.toInt + y.toInt := by
  rw [Int32.toInt_add]
  exact ab_bm h1 h2
theorem ab_tsub {x y : Int32} (h1 : ab_lo ≤ x.toInt - y.toInt) (h2 : x.toInt - y.toInt ≤ ab_hi) : (x - y).toInt = x.toInt - y.toInt := by
  rw [Int32.toInt_sub]
  exact ab_bm h1 h2
theorem ab_tmul {x y : Int32} (h1 : ab_lo ≤ x.toInt * y.toInt) (h2 : x.toInt * y.toInt ≤ ab_hi) : (x * y).toInt = x.toInt * y.toInt := by
  rw [Int32.toInt_mul]
  exact ab_bm h1 h2
theorem ab_nat {x : Int32} (h : 0 ≤ x.toInt) : ∃ n : Nat, n < 2 ^ 31 ∧ x = nI n ∧ x.toInt = (n : Int) := by
  have h0 : ¬ x < 0 := by
    rw [Int32.lt_iff_toInt_lt]
    have e0 : (0 : Int32).toInt = 0 := by decide
    rw [e0]
    omega
  obtain ⟨n, hn, e⟩ := nI_of h0
  exact ⟨n, hn, e, by rw [e, nI_toInt hn]⟩
theorem ab_tdiv {x y : Int32} (hx : 0 ≤ x.toInt) (hy : 0 < y.toInt) : (x / y).toInt = x.toInt / y.toInt := by
  rw [Int32.toInt_div]
  obtain ⟨a, ha, -, ea⟩ := ab_nat hx
  obtain ⟨b, hb, -, eb⟩ := ab_nat (Int.le_of_lt hy)
  rw [ea, eb]
  have h1 : ((a : Int).tdiv (b : Int)) = ((a / b : Nat) : Int) := rfl
  have h2 : ((a : Int) / (b : Int)) = ((a / b : Nat) : Int) := rfl
  rw [h1, h2]
  have h3 : a / b ≤ a := Nat.div_le_self a b
  clear h1 h2
  generalize a / b = q at h3 ⊢
  apply ab_bm
  · show (-2147483648 : Int) ≤ _
    omega
  · show _ ≤ (2147483647 : Int)
    omega
theorem ab_tand {x y : Int32} (hy : 0 ≤ y.toInt) : 0 ≤ (x &&& y).toInt ∧ (x &&& y).toInt ≤ y.toInt := by
  obtain ⟨b, hb, eb, eb'⟩ := ab_nat hy
  have h : x &&& y = nI (x.toBitVec.toNat &&& b) := by
    rw [eb]
    apply Int32.toBitVec_inj.mp
    apply BitVec.eq_of_toNat_eq
    have h1 : (x &&& nI b).toBitVec = x.toBitVec &&& (BitVec.ofNat 32 b) := rfl
    have h2 : (nI (x.toBitVec.toNat &&& b)).toBitVec = BitVec.ofNat 32 (x.toBitVec.toNat &&& b) := rfl
    have h3 : x.toBitVec.toNat &&& b ≤ b := Nat.and_le_right
    rw [h1, h2, BitVec.toNat_and, BitVec.toNat_ofNat, BitVec.toNat_ofNat, Nat.mod_eq_of_lt (a := x.toBitVec.toNat &&& b) (by omega), Nat.mod_eq_of_lt (a := b) (by omega)]
  have h3 : x.toBitVec.toNat &&& b ≤ b := Nat.and_le_right
  rw [h, nI_toInt (by omega), eb']
  omega
theorem ab_tand' {x y : Int32} (hx : 0 ≤ x.toInt) : 0 ≤ (x &&& y).toInt ∧ (x &&& y).toInt ≤ x.toInt := by
  rw [Int32.and_comm]
  exact ab_tand hx
theorem ab_bits {x : Int32} (h1 : 0 ≤ x.toInt) (h2 : x.toInt ≤ 1) : x = 0 ∨ x = 1 := by
  have e0 : (0 : Int32).toInt = 0 := by decide
  have e1 : (1 : Int32).toInt = 1 := by decide
  rcases (show x.toInt = 0 ∨ x.toInt = 1 by omega) with h | h
  · exact Or.inl (Int32.toInt_inj.mp (h.trans e0.symm))
  · exact Or.inr (Int32.toInt_inj.mp (h.trans e1.symm))
theorem ab_tor {x y : Int32} (h1 : 0 ≤ x.toInt) (h2 : x.toInt ≤ 1) (h3 : 0 ≤ y.toInt) (h4 : y.toInt ≤ 1) : 0 ≤ (x ||| y).toInt ∧ (x ||| y).toInt ≤ 1 := by
  rcases ab_bits h1 h2 with rfl | rfl <;> rcases ab_bits h3 h4 with rfl | rfl <;> decide
theorem ab_trem {x y : Int32} (hx : 0 ≤ x.toInt) (hy : 0 < y.toInt) : 0 ≤ (x - x / y * y).toInt ∧ (x - x / y * y).toInt ≤ y.toInt - 1 := by
  have hd := ab_tdiv hx hy
  have hx2 := ab_max x
  have hx2 : x.toInt ≤ 2147483647 := hx2
  have hq0 : 0 ≤ x.toInt / y.toInt := Int.ediv_nonneg hx (Int.le_of_lt hy)
  have hm : x.toInt / y.toInt * y.toInt + x.toInt % y.toInt = x.toInt := Int.ediv_mul_add_emod x.toInt y.toInt
  have hr0 : 0 ≤ x.toInt % y.toInt := Int.emod_nonneg _ (by omega)
  have hr1 : x.toInt % y.toInt < y.toInt := Int.emod_lt_of_pos _ hy
  have hp0 : 0 ≤ x.toInt / y.toInt * y.toInt := Int.mul_nonneg hq0 (Int.le_of_lt hy)
  have hmul : (x / y * y).toInt = x.toInt / y.toInt * y.toInt := by
    rw [ab_tmul, hd]
    · rw [hd]; show (-2147483648 : Int) ≤ _; omega
    · rw [hd]; show _ ≤ (2147483647 : Int); omega
  have hsub : (x - x / y * y).toInt = x.toInt - x.toInt / y.toInt * y.toInt := by
    rw [ab_tsub, hmul]
    · rw [hmul]; show (-2147483648 : Int) ≤ _; omega
    · rw [hmul]; show _ ≤ (2147483647 : Int); omega
  rw [hsub]
  omega
theorem ab_clamp {i : Int32} {n : Nat} (h1 : 0 ≤ i.toInt) (h2 : i.toInt < (n : Int)) : vp_in i n ∧ i.toNatClampNeg < n := by
  obtain ⟨k, hk, e, e'⟩ := ab_nat h1
  subst e
  rw [e'] at h2
  have h3 : k < n := by omega
  refine ⟨fun z => ?_, by rw [nI_clamp hk]; exact h3⟩
  rcases z with z | z
  · exact nI_pos hk z
  · rw [nI_clamp hk] at z
    omega
