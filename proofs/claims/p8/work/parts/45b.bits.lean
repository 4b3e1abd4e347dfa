/-! bits of ints -/
def bitI (x k : Int) : Bool := (Int32.ofInt x).toBitVec.getLsbD k.toNat
theorem bi_io (u : Int32) : Int32.ofInt u.toInt = u := Int32.ofInt_toInt u
theorem bitI_or (x y k : Int) : bitI (Int32.ofInt x ||| Int32.ofInt y).toInt k = (bitI x k || bitI y k) := by
  unfold bitI
  rw [bi_io]
  show ((Int32.ofInt x).toBitVec ||| (Int32.ofInt y).toBitVec).getLsbD k.toNat = _
  rw [BitVec.getLsbD_or]
theorem bitI_and (x y k : Int) : bitI (Int32.ofInt x &&& Int32.ofInt y).toInt k = (bitI x k && bitI y k) := by
  unfold bitI
  rw [bi_io]
  show ((Int32.ofInt x).toBitVec &&& (Int32.ofInt y).toBitVec).getLsbD k.toNat = _
  rw [BitVec.getLsbD_and]
theorem bitI_shl_t : (List.range 32).all (fun k => (List.range 32).all (fun j => (Int32.ofInt 1 <<< (Int32.ofInt (k : Int) &&& 31)).toBitVec.getLsbD j == (j == k))) = true := by decide +kernel
theorem bitI_shl {k j : Int} (k0 : 0 ≤ k) (k1 : k < 32) (j0 : 0 ≤ j) (j1 : j < 32) : bitI (Int32.ofInt 1 <<< (Int32.ofInt k &&& 31)).toInt j = decide (j = k) := by
  unfold bitI
  rw [bi_io]
  obtain ⟨n, rfl⟩ := Int.eq_ofNat_of_zero_le k0
  obtain ⟨i, rfl⟩ := Int.eq_ofNat_of_zero_le j0
  have h := List.all_eq_true.mp (List.all_eq_true.mp bitI_shl_t n (List.mem_range.mpr (by omega))) i (List.mem_range.mpr (by omega))
  have h := eq_of_beq h
  rw [Int.toNat_natCast, h]
  by_cases e : i = n
  · subst e; simp
  · have e2 : ¬ ((i : Int) = (n : Int)) := by omega
    simp [e, e2]
theorem bitI_eq0 {x : Int} (h : (Int32.ofInt x).toInt = 0) (k : Int) : bitI x k = false := by
  unfold bitI
  have e : Int32.ofInt x = 0 := by
    rw [← bi_io (Int32.ofInt x), h]
    decide
  rw [e]
  show (0#32).getLsbD k.toNat = false
  simp
theorem bi_one (b : BitVec 32) : (b &&& 1#32 = 0#32) ↔ b.getLsbD 0 = false := by
  rw [BitVec.and_one_eq_setWidth_ofBool_getLsbD]
  cases b.getLsbD 0 <;> simp
theorem bi_31_t : (List.range 32).all (fun k => decide (((Int32.ofInt (k : Int)).toUInt32 &&& Int32.toUInt32 31).toBitVec % 32#32 = BitVec.ofNat 32 k)) = true := by decide +kernel
theorem bitI_has {x k : Int} (k0 : 0 ≤ k) (k1 : k < 32) : (Int32.ofInt ((Int32.ofInt x).toUInt32 >>> ((Int32.ofInt k).toUInt32 &&& Int32.toUInt32 31)).toInt32.toInt &&& Int32.ofInt 1).toInt = 0 ↔ bitI x k = false := by
  rw [bi_io]
  obtain ⟨n, rfl⟩ := Int.eq_ofNat_of_zero_le k0
  have h := of_decide_eq_true (List.all_eq_true.mp bi_31_t n (List.mem_range.mpr (by omega)))
  have e1 : ∀ u : Int32, u.toInt = 0 ↔ u.toBitVec = 0#32 := by
    intro u
    constructor
    · intro z
      have : u = 0 := by rw [← bi_io u, z]; decide
      rw [this]
      rfl
    · intro z
      have : u = 0 := Int32.toBitVec_inj.mp z
      rw [this]
      decide
  rw [e1]
  show (((Int32.ofInt x).toBitVec >>> (((Int32.ofInt (n : Int)).toUInt32 &&& Int32.toUInt32 31).toBitVec % 32#32)) &&& 1#32 = 0#32) ↔ _
  rw [h, bi_one]
  unfold bitI
  rw [Int.toNat_natCast, BitVec.ushiftRight_eq', BitVec.getLsbD_ushiftRight, BitVec.toNat_ofNat, Nat.mod_eq_of_lt (by omega), Nat.add_zero]
