/-! Integer.bitCount, exactly -/
def bcU (x c : Int32) : Int32 := (x.toUInt32 >>> (c.toUInt32 &&& Int32.toUInt32 31)).toInt32
def bc1 (x : Int32) : Int32 := x - (bcU x (Int32.ofInt 1) &&& 1431655765)
def bc2 (x : Int32) : Int32 := (x &&& 858993459) + (bcU x (Int32.ofInt 2) &&& 858993459)
def bc3 (x : Int32) : Int32 := (x + bcU x (Int32.ofInt 4)) &&& 252645135
def bc4 (x : Int32) : Int32 := x + bcU x (Int8.ofInt 8).toInt32
def bc5 (x : Int32) : Int32 := x + bcU x (Int8.ofInt 16).toInt32
def bcE (x : Int32) : Int32 := bc5 (bc4 (bc3 (bc2 (bc1 x)))) &&& (Int8.ofInt 63).toInt32
/-- how many of the first n bits are set -/
def bcB (X : Nat) : Nat → Nat
  | 0 => 0
  | n + 1 => bcB X n + (if X.testBit n then 1 else 0)
theorem bcB_add (X a : Nat) : ∀ n, bcB X (a + n) = bcB X a + bcB (X / 2 ^ a) n
  | 0 => rfl
  | n + 1 => by
    show bcB X (a + n) + (if X.testBit (a + n) then 1 else 0) = bcB X a + (bcB (X / 2 ^ a) n + (if (X / 2 ^ a).testBit n then 1 else 0))
    rw [bcB_add X a n, Nat.testBit_div_two_pow, Nat.add_comm n a, Nat.add_assoc]
theorem bcB_m (X : Nat) : ∀ n, n ≤ 8 → bcB X n = bcB (X % 2 ^ 8) n
  | 0, _ => rfl
  | n + 1, h => by
    show bcB X n + (if X.testBit n then 1 else 0) = bcB (X % 2 ^ 8) n + (if (X % 2 ^ 8).testBit n then 1 else 0)
    have h8 : n < 8 := h
    rw [bcB_m X n (by omega), Nat.testBit_mod_two_pow, decide_eq_true h8, Bool.true_and]
theorem bcB_32 (X : Nat) : bcB X 32 = bcB (X % 256) 8 + bcB (X / 256 % 256) 8 + bcB (X / 65536 % 256) 8 + bcB (X / 16777216 % 256) 8 := by
  have e1 := bcB_add X 8 24
  have e2 := bcB_add (X / 2 ^ 8) 8 16
  have e3 := bcB_add (X / 2 ^ 8 / 2 ^ 8) 8 8
  have m0 := bcB_m X 8 (Nat.le_refl _)
  have m1 := bcB_m (X / 2 ^ 8) 8 (Nat.le_refl _)
  have m2 := bcB_m (X / 2 ^ 8 / 2 ^ 8) 8 (Nat.le_refl _)
  have m3 := bcB_m (X / 2 ^ 8 / 2 ^ 8 / 2 ^ 8) 8 (Nat.le_refl _)
  have p8 : (2 : Nat) ^ 8 = 256 := rfl
  have d2 : X / 256 / 256 = X / 65536 := by omega
  have d3 : X / 65536 / 256 = X / 16777216 := by omega
  rw [p8] at e1 e2 e3 m0 m1 m2 m3
  rw [d2] at e2 e3 m2 m3
  rw [d3] at e3 m3
  have f1 : bcB X 32 = bcB X 8 + bcB (X / 256) 24 := e1
  have f2 : bcB (X / 256) 24 = bcB (X / 256) 8 + bcB (X / 65536) 16 := e2
  have f3 : bcB (X / 65536) 16 = bcB (X / 65536) 8 + bcB (X / 16777216) 8 := e3
  omega
theorem and256 {n a m c : Nat} (ha : a < 256) (hc : c < 256) : (256 * n + a) &&& (256 * m + c) = 256 * (n &&& m) + (a &&& c) := by
  have h1 := Nat.and_div_two_pow (a := 256 * n + a) (b := 256 * m + c) (n := 8)
  have h2 := Nat.and_mod_two_pow (a := 256 * n + a) (b := 256 * m + c) (n := 8)
  have p8 : (2 : Nat) ^ 8 = 256 := rfl
  have e1 : (256 * n + a) / 256 = n := by omega
  have e2 : (256 * m + c) / 256 = m := by omega
  have e3 : (256 * n + a) % 256 = a := by omega
  have e4 : (256 * m + c) % 256 = c := by omega
  rw [p8, e1, e2] at h1
  rw [p8, e3, e4] at h2
  generalize ((256 * n + a) &&& (256 * m + c)) = z at h1 h2 ⊢
  generalize (n &&& m) = u at h1 ⊢
  generalize (a &&& c) = v at h2 ⊢
  omega
/-- four bytes -/
def nd4 (a b c d : Nat) : Nat := a + 256 * b + 65536 * c + 16777216 * d
theorem nd4_and {a b c d m : Nat} (ha : a < 256) (hb : b < 256) (hc : c < 256) (hm : m < 256) : nd4 a b c d &&& nd4 m m m m = nd4 (a &&& m) (b &&& m) (c &&& m) (d &&& m) := by
  have e : ∀ p q r s : Nat, nd4 p q r s = 256 * (256 * (256 * s + r) + q) + p := fun p q r s => by
    unfold nd4
    omega
  rw [e a b c d, e m m m m, e, and256 ha hm, and256 hb hm, and256 hc hm]
theorem bc_t1 : (List.range 256).all (fun a => (List.range 2).all (fun k => decide ((a / 2 + 128 * k) &&& 85 = (a / 2) &&& 85))) = true := by decide +kernel
theorem bc_t2 : (List.range 256).all (fun a => (List.range 4).all (fun k => decide ((a / 4 + 64 * k) &&& 51 = (a / 4) &&& 51))) = true := by decide +kernel
def bS (a : Nat) : Nat := a - ((a / 2) &&& 85)
def bT (a : Nat) : Nat := (bS a &&& 51) + ((bS a / 4) &&& 51)
theorem bc_t3 : (List.range 256).all (fun a => decide ((a / 2) &&& 85 ≤ a) && (decide (bT a % 16 ≤ 4) && (decide (bT a / 16 ≤ 4) && (decide ((bT a + bT a / 16) % 16 = bcB a 8) && decide (bcB a 8 ≤ 8))))) = true := by decide +kernel
theorem bc_t4 : (List.range 256).all (fun a => decide (a &&& 15 = a % 16)) = true := by decide +kernel
theorem bc_a1 {a k : Nat} (ha : a < 256) (hk : k < 2) : (a / 2 + 128 * k) &&& 85 = (a / 2) &&& 85 := of_decide_eq_true (List.all_eq_true.mp (List.all_eq_true.mp bc_t1 a (List.mem_range.mpr ha)) k (List.mem_range.mpr hk))
theorem bc_a2 {a k : Nat} (ha : a < 256) (hk : k < 4) : (a / 4 + 64 * k) &&& 51 = (a / 4) &&& 51 := of_decide_eq_true (List.all_eq_true.mp (List.all_eq_true.mp bc_t2 a (List.mem_range.mpr ha)) k (List.mem_range.mpr hk))
theorem bc_a3 {a : Nat} (ha : a < 256) : (a / 2) &&& 85 ≤ a ∧ bT a % 16 ≤ 4 ∧ bT a / 16 ≤ 4 ∧ (bT a + bT a / 16) % 16 = bcB a 8 ∧ bcB a 8 ≤ 8 := by
  have h := List.all_eq_true.mp bc_t3 a (List.mem_range.mpr ha)
  rw [Bool.and_eq_true, Bool.and_eq_true, Bool.and_eq_true, Bool.and_eq_true] at h
  exact ⟨of_decide_eq_true h.1, of_decide_eq_true h.2.1, of_decide_eq_true h.2.2.1, of_decide_eq_true h.2.2.2.1, of_decide_eq_true h.2.2.2.2⟩
theorem bc_a4 {a : Nat} (ha : a < 256) : a &&& 15 = a % 16 := of_decide_eq_true (List.all_eq_true.mp bc_t4 a (List.mem_range.mpr ha))
theorem nu_and (u v : Int32) : (u &&& v).toBitVec.toNat = u.toBitVec.toNat &&& v.toBitVec.toNat := BitVec.toNat_and u.toBitVec v.toBitVec
theorem nu_add (u v : Int32) : (u + v).toBitVec.toNat = (u.toBitVec.toNat + v.toBitVec.toNat) % 4294967296 := BitVec.toNat_add u.toBitVec v.toBitVec
theorem nu_sub (u v : Int32) : (u - v).toBitVec.toNat = (4294967296 - v.toBitVec.toNat + u.toBitVec.toNat) % 4294967296 := BitVec.toNat_sub u.toBitVec v.toBitVec
theorem nu_shr {u c : Int32} {k : Nat} (h : ((c.toUInt32 &&& Int32.toUInt32 31).toBitVec % 32#32).toNat = k) : (bcU u c).toBitVec.toNat = u.toBitVec.toNat / 2 ^ k := by
  show (u.toBitVec >>> ((c.toUInt32 &&& Int32.toUInt32 31).toBitVec % 32#32)).toNat = _
  rw [BitVec.ushiftRight_eq', BitVec.toNat_ushiftRight, h, Nat.shiftRight_eq_div_pow]
theorem nu_s1 (u : Int32) : (bcU u (Int32.ofInt 1)).toBitVec.toNat = u.toBitVec.toNat / 2 := nu_shr (k := 1) (by decide)
theorem nu_s2 (u : Int32) : (bcU u (Int32.ofInt 2)).toBitVec.toNat = u.toBitVec.toNat / 4 := nu_shr (k := 2) (by decide)
theorem nu_s4 (u : Int32) : (bcU u (Int32.ofInt 4)).toBitVec.toNat = u.toBitVec.toNat / 16 := nu_shr (k := 4) (by decide)
theorem nu_s8 (u : Int32) : (bcU u (Int8.ofInt 8).toInt32).toBitVec.toNat = u.toBitVec.toNat / 256 := nu_shr (k := 8) (by decide)
theorem nu_s16 (u : Int32) : (bcU u (Int8.ofInt 16).toInt32).toBitVec.toNat = u.toBitVec.toNat / 65536 := nu_shr (k := 16) (by decide)
theorem bc_h1 {u : Int32} {a b c d : Nat} (ha : a < 256) (hb : b < 256) (hc : c < 256) (hd : d < 256) (h : u.toBitVec.toNat = nd4 a b c d) : (bc1 u).toBitVec.toNat = nd4 (bS a) (bS b) (bS c) (bS d) := by
  unfold bc1
  have hk : (1431655765 : Int32).toBitVec.toNat = nd4 85 85 85 85 := by decide
  have hs : nd4 a b c d / 2 = nd4 (a / 2 + 128 * (b % 2)) (b / 2 + 128 * (c % 2)) (c / 2 + 128 * (d % 2)) (d / 2) := by
    unfold nd4
    omega
  rw [nu_sub, nu_and, nu_s1, h, hk, hs, nd4_and (by omega) (by omega) (by omega) (by decide), bc_a1 ha (by omega), bc_a1 hb (by omega), bc_a1 hc (by omega)]
  have qa := (bc_a3 ha).1
  have qb := (bc_a3 hb).1
  have qc := (bc_a3 hc).1
  have qd := (bc_a3 hd).1
  unfold bS nd4
  generalize (a / 2) &&& 85 = a' at *
  generalize (b / 2) &&& 85 = b' at *
  generalize (c / 2) &&& 85 = c' at *
  generalize (d / 2) &&& 85 = d' at *
  omega
theorem bS_lt {a : Nat} (ha : a < 256) : bS a < 256 := by
  unfold bS
  omega
theorem bc_h2 {u : Int32} {a b c d : Nat} (ha : a < 256) (hb : b < 256) (hc : c < 256) (hd : d < 256) (h : u.toBitVec.toNat = nd4 (bS a) (bS b) (bS c) (bS d)) : (bc2 u).toBitVec.toNat = nd4 (bT a) (bT b) (bT c) (bT d) := by
  unfold bc2
  have hk : (858993459 : Int32).toBitVec.toNat = nd4 51 51 51 51 := by decide
  have sa := bS_lt ha
  have sb := bS_lt hb
  have sc := bS_lt hc
  have sd := bS_lt hd
  have hs : nd4 (bS a) (bS b) (bS c) (bS d) / 4 = nd4 (bS a / 4 + 64 * (bS b % 4)) (bS b / 4 + 64 * (bS c % 4)) (bS c / 4 + 64 * (bS d % 4)) (bS d / 4) := by
    unfold nd4
    omega
  rw [nu_add, nu_and, nu_and, nu_s2, h, hk, hs, nd4_and sa sb sc (by decide), nd4_and (by omega) (by omega) (by omega) (by decide), bc_a2 sa (by omega), bc_a2 sb (by omega), bc_a2 sc (by omega)]
  have qa := (bc_a3 ha).2
  have qb := (bc_a3 hb).2
  have qc := (bc_a3 hc).2
  have qd := (bc_a3 hd).2
  have e : ∀ p q r s p' q' r' s' : Nat, nd4 p q r s + nd4 p' q' r' s' = nd4 (p + p') (q + q') (r + r') (s + s') := fun _ _ _ _ _ _ _ _ => by
    unfold nd4
    omega
  rw [e]
  show nd4 (bT a) (bT b) (bT c) (bT d) % 4294967296 = _
  unfold nd4
  omega
theorem bc_h3 {u : Int32} {a b c d : Nat} (ha : a < 256) (hb : b < 256) (hc : c < 256) (hd : d < 256) (h : u.toBitVec.toNat = nd4 (bT a) (bT b) (bT c) (bT d)) : (bc3 u).toBitVec.toNat = nd4 (bcB a 8) (bcB b 8) (bcB c 8) (bcB d 8) := by
  unfold bc3
  have hk : (252645135 : Int32).toBitVec.toNat = nd4 15 15 15 15 := by decide
  obtain ⟨-, a1, a2, a3, -⟩ := bc_a3 ha
  obtain ⟨-, b1, b2, b3, -⟩ := bc_a3 hb
  obtain ⟨-, c1, c2, c3, -⟩ := bc_a3 hc
  obtain ⟨-, d1, d2, d3, -⟩ := bc_a3 hd
  have hs : (nd4 (bT a) (bT b) (bT c) (bT d) + nd4 (bT a) (bT b) (bT c) (bT d) / 16) % 4294967296 = nd4 (bT a + bT a / 16 + 16 * (bT b % 16)) (bT b + bT b / 16 + 16 * (bT c % 16)) (bT c + bT c / 16 + 16 * (bT d % 16)) (bT d + bT d / 16) := by
    unfold nd4
    omega
  rw [nu_and, nu_add, nu_s4, h, hk, hs, nd4_and (by omega) (by omega) (by omega) (by decide), bc_a4 (by omega), bc_a4 (by omega), bc_a4 (by omega), bc_a4 (by omega), ← a3, ← b3, ← c3, ← d3]
  have r : ∀ p q : Nat, (p + 16 * q) % 16 = p % 16 := fun _ _ => by omega
  rw [r, r, r]
theorem bc_fin (x : Int32) : (bcE x).toBitVec.toNat = bcB x.toBitVec.toNat 32 := by
  have hx : x.toBitVec.toNat < 4294967296 := x.toBitVec.isLt
  rw [bcB_32]
  obtain ⟨X, hX⟩ : ∃ X, X = x.toBitVec.toNat := ⟨_, rfl⟩
  rw [← hX] at hx ⊢
  have h0 : x.toBitVec.toNat = nd4 (X % 256) (X / 256 % 256) (X / 65536 % 256) (X / 16777216 % 256) := by
    rw [← hX]
    unfold nd4
    omega
  have ha : X % 256 < 256 := by omega
  have hb : X / 256 % 256 < 256 := by omega
  have hc : X / 65536 % 256 < 256 := by omega
  have hd : X / 16777216 % 256 < 256 := by omega
  have h3 := bc_h3 ha hb hc hd (bc_h2 ha hb hc hd (bc_h1 ha hb hc hd h0))
  have pa := (bc_a3 ha).2.2.2.2
  have pb := (bc_a3 hb).2.2.2.2
  have pc := (bc_a3 hc).2.2.2.2
  have pd := (bc_a3 hd).2.2.2.2
  unfold bcE bc5 bc4
  generalize bc3 (bc2 (bc1 x)) = w at *
  have hk : ((Int8.ofInt 63).toInt32).toBitVec.toNat = 2 ^ 6 - 1 := by decide
  rw [nu_and, hk, Nat.and_two_pow_sub_one_eq_mod, nu_add, nu_s16, nu_add, nu_s8, h3]
  generalize bcB (X % 256) 8 = p at *
  generalize bcB (X / 256 % 256) 8 = q at *
  generalize bcB (X / 65536 % 256) 8 = r at *
  generalize bcB (X / 16777216 % 256) 8 = s at *
  have p6 : (2 : Nat) ^ 6 = 64 := rfl
  rw [p6]
  have e1 : nd4 p q r s / 256 = q + 256 * r + 65536 * s := by
    unfold nd4
    omega
  rw [e1]
  have e2 : (nd4 p q r s + (q + 256 * r + 65536 * s)) % 4294967296 = p + q + 256 * (q + r) + 65536 * (r + s) + 16777216 * s := by
    unfold nd4
    omega
  rw [e2]
  have e3 : (p + q + 256 * (q + r) + 65536 * (r + s) + 16777216 * s) / 65536 = r + s + 256 * s := by omega
  rw [e3]
  have e4 : (p + q + 256 * (q + r) + 65536 * (r + s) + 16777216 * s + (r + s + 256 * s)) % 4294967296 = p + q + r + s + 256 * (q + r + s) + 65536 * (r + s) + 16777216 * s := by omega
  rw [e4]
  omega
theorem bcB_le (X : Nat) : ∀ n, bcB X n ≤ n
  | 0 => Nat.le_refl _
  | n + 1 => by
    show bcB X n + (if X.testBit n then 1 else 0) ≤ n + 1
    have := bcB_le X n
    split <;> omega
theorem bc_int (x : Int32) : (bcE x).toInt = ((bcB x.toBitVec.toNat 32 : Nat) : Int) := by
  have h := bc_fin x
  have l := bcB_le x.toBitVec.toNat 32
  show (bcE x).toBitVec.toInt = _
  rw [BitVec.toInt_eq_toNat_of_lt (by rw [h]; omega), h]
theorem cnP_bc {P : Nat → Prop} {X : Nat} : ∀ n, (∀ k, k < n → (P k ↔ X.testBit k = true)) → cnP P n = bcB X n
  | 0, _ => rfl
  | n + 1, h => by
    have a := cnP_bc n (fun k hk => h k (by omega))
    have b := h n (by omega)
    show _ = bcB X n + (if X.testBit n then 1 else 0)
    rcases cnP_s (P := P) n with ⟨x, e⟩ | ⟨x, e⟩
    · rw [e, a, if_pos (b.mp x)]
    · rw [e, a, if_neg (fun z => x (b.mpr z))]
      rfl
theorem bc_Cx {Z : sm_Z} {rm : Room} (hc : rm.cells = 0) (hs : rm.slots = 0) {x : Int32} {sh : sm_S} (ad : Nat → Nat) (μ : sm_M) : sm_C tb_cl Z (tb_ys 206) (tb_ws 206) rm [.int x] ad sh μ (fun r sh' μ' => (∃ v : Int32, r = some (.int v) ∧ v = bcE x) ∧ sh' = sh ∧ μ' = μ) := by
  refine sm_enter (cc := prog_13_method_49_code) (nL := 1) (ret := some .int) (by decide +kernel) (Nat.le_of_ble_eq_true rfl) (fun X hZ hX hf => ?_)
  show sm_E tb_cl X 0 [some (.int x)] [] ad sh μ
  refine sm_iloadN hX bc_d0 rfl ?_
  refine sm_iloadN hX bc_d1 rfl ?_
  refine sm_iconst hX bc_d2 ?_
  refine sm_iushr hX bc_d3 ?_
  refine sm_ldcw hX bc_d4 bc_c265 ?_
  refine sm_iand hX bc_d7 ?_
  refine sm_isub hX bc_d8 ?_
  refine sm_istoreN hX bc_d9 rfl (by decide) ?_
  refine sm_iloadN hX bc_d10 rfl ?_
  refine sm_ldcw hX bc_d11 bc_c266 ?_
  refine sm_iand hX bc_d14 ?_
  refine sm_iloadN hX bc_d15 rfl ?_
  refine sm_iconst hX bc_d16 ?_
  refine sm_iushr hX bc_d17 ?_
  refine sm_ldcw hX bc_d18 bc_c266 ?_
  refine sm_iand hX bc_d21 ?_
  refine sm_iadd hX bc_d22 ?_
  refine sm_istoreN hX bc_d23 rfl (by decide) ?_
  refine sm_iloadN hX bc_d24 rfl ?_
  refine sm_iloadN hX bc_d25 rfl ?_
  refine sm_iconst hX bc_d26 ?_
  refine sm_iushr hX bc_d27 ?_
  refine sm_iadd hX bc_d28 ?_
  refine sm_ldcw hX bc_d29 bc_c267 ?_
  refine sm_iand hX bc_d32 ?_
  refine sm_istoreN hX bc_d33 rfl (by decide) ?_
  refine sm_iloadN hX bc_d34 rfl ?_
  refine sm_iloadN hX bc_d35 rfl ?_
  refine sm_bipush hX bc_d36 ?_
  refine sm_iushr hX bc_d38 ?_
  refine sm_iadd hX bc_d39 ?_
  refine sm_istoreN hX bc_d40 rfl (by decide) ?_
  refine sm_iloadN hX bc_d41 rfl ?_
  refine sm_iloadN hX bc_d42 rfl ?_
  refine sm_bipush hX bc_d43 ?_
  refine sm_iushr hX bc_d45 ?_
  refine sm_iadd hX bc_d46 ?_
  refine sm_istoreN hX bc_d47 rfl (by decide) ?_
  refine sm_iloadN hX bc_d48 rfl ?_
  refine sm_bipush hX bc_d49 ?_
  refine sm_iand hX bc_d51 ?_
  exact sm_iret hX hf (by omega) (by omega) (fun _ _ => rfl) rfl bc_d52 ⟨⟨_, rfl, rfl⟩, rfl, rfl⟩
theorem k206x {Z : sm_Z} (m : wk_M) (x : Int) : wC Z 0 206 [] [.inl x] m (fun r m' => ∃ v : Int, r = some (.inl v) ∧ m' = m ∧ v = ((cnP (fun k => bitI x (k : Int) = true) 32 : Nat) : Int)) := by
  intro μ ad e gm hv
  refine sm_C.imp (bc_Cx (Z := Z) (rm := dp_rm 0 (32 * 0) rG.2 rG.2) (Nat.sub_self _) (Nat.sub_self _) (x := Int32.ofInt x) (sh := rG.2) ad μ) (fun r sh' μ' q => ?_)
  obtain ⟨⟨v, q1, q2⟩, q4, q5⟩ := q
  subst q1 q4 q5
  have q3 : v.toInt = ((cnP (fun k => bitI x (k : Int) = true) 32 : Nat) : Int) := by
    rw [q2, bc_int, cnP_bc (P := fun k => bitI x (k : Int) = true) (X := (Int32.ofInt x).toBitVec.toNat) 32 (fun k hk => Iff.rfl)]
  refine ⟨rfl, gm, fun _ _ => ⟨rfl, rfl⟩, some (.inl v.toInt), ?_, ⟨ab_min v, ab_max v⟩, v.toInt, rfl, e, q3⟩
  show some (Value.int v) = some (Value.int (Int32.ofInt v.toInt))
  rw [wk_io]
