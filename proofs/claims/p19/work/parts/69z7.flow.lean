/-! counting flows -/
theorem cnP_n (P : Nat → Prop) (a : Nat) : ∀ d, cnP P a ≤ cnP P (a + d)
  | 0 => Nat.le_refl _
  | d + 1 => by
    have h := cnP_n P a d
    have h2 : cnP P (a + d) ≤ cnP P (a + d + 1) := by
      rcases cnP_s (P := P) (a + d) with ⟨_, e⟩ | ⟨_, e⟩ <;> omega
    exact Nat.le_trans h h2
theorem cnP_j {P : Nat → Prop} {a b : Nat} (ha : P a) (hab : a < b) : cnP P a < cnP P b := by
  have h := cnP_n P (a + 1) (b - (a + 1))
  have e : a + 1 + (b - (a + 1)) = b := by omega
  rw [e] at h
  rcases cnP_s (P := P) a with ⟨_, e⟩ | ⟨x, _⟩
  · omega
  · exact absurd ha x
theorem cnP_z {P : Nat → Prop} (a : Nat) : ∀ d, (∀ k, a ≤ k → k < a + d → ¬ P k) → cnP P (a + d) = cnP P a
  | 0, _ => rfl
  | d + 1, h => by
    have i := cnP_z a d (fun k x y => h k x (by omega))
    rcases cnP_s (P := P) (a + d) with ⟨x, _⟩ | ⟨_, e⟩
    · exact absurd x (h _ (by omega) (by omega))
    · exact e.trans i
theorem cnP_add {P : Nat → Prop} (a : Nat) : ∀ n, cnP P (a + n) = cnP P a + cnP (fun k => P (a + k)) n
  | 0 => rfl
  | n + 1 => by
    have i := cnP_add (P := P) a n
    have e0 : a + (n + 1) = a + n + 1 := rfl
    rw [e0]
    rcases cnP_s (P := P) (a + n) with ⟨x, e⟩ | ⟨x, e⟩ <;> rcases cnP_s (P := fun k => P (a + k)) n with ⟨y, e'⟩ | ⟨y, e'⟩
    · omega
    · exact absurd x y
    · exact absurd y x
    · omega
theorem cn32 {P : Nat → Prop} {v : Int} (h : v = ((cnP P 32 : Nat) : Int)) : 0 ≤ v ∧ v ≤ 32 := by
  have := cnP_le (P := P) 32
  omega
theorem cnP_if {P Q : Nat → Prop} (n : Nat) (h : ∀ k, k < n → (P k ↔ Q k)) : cnP P n = cnP Q n := Nat.le_antisymm (cnP_mo n (fun k hk => (h k hk).mp)) (cnP_mo n (fun k hk => (h k hk).mpr))
/-- flows by number: sink s, INPUT i at 32 s + i -/
def fK (P : Int → Int → Prop) (k : Nat) : Prop := P ((k / 32 : Nat) : Int) ((k % 32 : Nat) : Int)
theorem fK_at {P : Int → Int → Prop} {s i : Int} (s0 : 0 ≤ s) (i0 : 0 ≤ i) (i1 : i ≤ 31) : fK P (32 * s + i).toNat ↔ P s i := by
  obtain ⟨a, rfl⟩ := Int.eq_ofNat_of_zero_le s0
  obtain ⟨b, rfl⟩ := Int.eq_ofNat_of_zero_le i0
  have e : (32 * (a : Int) + (b : Int)).toNat = 32 * a + b := by omega
  have e1 : (32 * a + b) / 32 = a := by omega
  have e2 : (32 * a + b) % 32 = b := by omega
  unfold fK
  rw [e, e1, e2]
/-- how many flows there are before (s, i) -/
noncomputable def fC (P : Int → Int → Prop) (s i : Int) : Int := ((cnP (fK P) (32 * s + i).toNat : Nat) : Int)
def fNo (P : Int → Int → Prop) (s i j : Int) : Prop := ∀ k : Nat, k < (32 * s + i).toNat → fK P k → ¬ ((cnP (fK P) k : Nat) : Int) = j
theorem fC_le {P : Int → Int → Prop} {s i : Int} (s0 : 0 ≤ s) (i0 : 0 ≤ i) : 0 ≤ fC P s i ∧ fC P s i ≤ 32 * s + i := by
  unfold fC
  have := cnP_le (P := fK P) (32 * s + i).toNat
  omega
theorem fC_0 {P : Int → Int → Prop} : fC P 0 0 = 0 := rfl
theorem fC_s {P : Int → Int → Prop} {s i : Int} (s0 : 0 ≤ s) (i0 : 0 ≤ i) (i1 : i ≤ 31) : (P s i ∧ fC P s (i + 1) = fC P s i + 1) ∨ (¬ P s i ∧ fC P s (i + 1) = fC P s i) := by
  have e : (32 * s + (i + 1)).toNat = (32 * s + i).toNat + 1 := by omega
  unfold fC
  rw [e]
  rcases cnP_s (P := fK P) (32 * s + i).toNat with ⟨x, e'⟩ | ⟨x, e'⟩
  · exact Or.inl ⟨(fK_at s0 i0 i1).mp x, by omega⟩
  · exact Or.inr ⟨fun z => x ((fK_at s0 i0 i1).mpr z), by omega⟩
theorem fC_y {P : Int → Int → Prop} {s i : Int} (s0 : 0 ≤ s) (i0 : 0 ≤ i) (i1 : i ≤ 31) (h : P s i) : fC P s (i + 1) = fC P s i + 1 := (fC_s s0 i0 i1).elim (fun q => q.2) (fun q => absurd h q.1)
theorem fC_n {P : Int → Int → Prop} {s i : Int} (s0 : 0 ≤ s) (i0 : 0 ≤ i) (i1 : i ≤ 31) (h : ¬ P s i) : fC P s (i + 1) = fC P s i := (fC_s s0 i0 i1).elim (fun q => absurd q.1 h) (fun q => q.2)
theorem fNo_s {P : Int → Int → Prop} {s i j : Int} (s0 : 0 ≤ s) (i0 : 0 ≤ i) (i1 : i ≤ 31) (hN : fNo P s i j) (h : P s i → ¬ fC P s i = j) : fNo P s (i + 1) j := by
  intro k hk q
  by_cases e : k = (32 * s + i).toNat
  · subst e
    exact h ((fK_at s0 i0 i1).mp q)
  · exact hN k (by omega) q
theorem fz {P : Int → Int → Prop} {s i t : Int} (s0 : 0 ≤ s) (i0 : 0 ≤ i) (h : ∀ s' i', 0 ≤ s' → 0 ≤ i' → i' ≤ 31 → 32 * s + i ≤ 32 * s' + i' → s' < t → ¬ P s' i') : ∀ k, (32 * s + i).toNat ≤ k → k < (32 * t).toNat → ¬ fK P k := by
  intro k k0 k1
  unfold fK
  exact h _ _ (by omega) (by omega) (by omega) (by omega) (by omega)
theorem fC_z {P : Int → Int → Prop} {s i t : Int} (s0 : 0 ≤ s) (i0 : 0 ≤ i) (st : 32 * s + i ≤ 32 * t) (h : ∀ s' i', 0 ≤ s' → 0 ≤ i' → i' ≤ 31 → 32 * s + i ≤ 32 * s' + i' → s' < t → ¬ P s' i') : fC P t 0 = fC P s i := by
  unfold fC
  have e : (32 * t + 0).toNat = (32 * s + i).toNat + ((32 * t).toNat - (32 * s + i).toNat) := by omega
  rw [e, cnP_z _ _ (fun k k0 k1 => fz s0 i0 h k k0 (by omega))]
theorem fNo_z {P : Int → Int → Prop} {s i t j : Int} (s0 : 0 ≤ s) (i0 : 0 ≤ i) (h : ∀ s' i', 0 ≤ s' → 0 ≤ i' → i' ≤ 31 → 32 * s + i ≤ 32 * s' + i' → s' < t → ¬ P s' i') (hN : fNo P s i j) : fNo P t 0 j := by
  intro k hk q
  by_cases e : k < (32 * s + i).toNat
  · exact hN k e q
  · exact absurd q (fz s0 i0 h k (by omega) (by omega))
theorem fNo_0 {P : Int → Int → Prop} {j : Int} : fNo P 0 0 j := fun k hk => absurd hk (Nat.not_lt_zero k)
theorem fNo_neg {P : Int → Int → Prop} {s i j : Int} (h : j < 0) : fNo P s i j := fun k _ _ => by omega
theorem fC_row {P : Int → Int → Prop} {s : Int} (s0 : 0 ≤ s) {Q : Nat → Prop} (h : ∀ k : Nat, k < 32 → (Q k ↔ P s (k : Int))) : fC P (s + 1) 0 = fC P s 0 + ((cnP Q 32 : Nat) : Int) := by
  unfold fC
  have e : (32 * (s + 1) + 0).toNat = (32 * s + 0).toNat + 32 := by omega
  rw [e, cnP_add, cnP_if 32 (P := fun k => fK P ((32 * s + 0).toNat + k)) (Q := Q)]
  · omega
  · intro k hk
    rw [h k hk]
    have e2 : (32 * s + 0).toNat + k = (32 * s + (k : Int)).toNat := by omega
    rw [e2]
    exact fK_at s0 (by omega) (by omega)
/-- the flow with the number j -/
def fnF (P : Int → Int → Prop) (j v : Int) : Prop := ∃ s i, (0 ≤ s ∧ s ≤ 31) ∧ (0 ≤ i ∧ i ≤ 31) ∧ P s i ∧ fC P s i = j ∧ v = 32 * i + s
def fnd (P : Int → Int → Prop) (j v : Int) : Prop := fnF P j v ∨ (v = -1 ∧ fNo P 32 0 j)
def srch (P : Int → Int → Prop) (j v : Int) : Prop := fnF P j v ∨ (v = -1 - fC P 32 0 ∧ fNo P 32 0 j)
theorem fnF_u {P : Int → Int → Prop} {j u v : Int} (h : fnF P j u) (h' : fnF P j v) : u = v := by
  obtain ⟨s, i, ⟨s0, s1⟩, ⟨i0, i1⟩, p, c, e⟩ := h
  obtain ⟨s', i', ⟨s0', s1'⟩, ⟨i0', i1'⟩, p', c', e'⟩ := h'
  have q := (fK_at s0 i0 i1).mpr p
  have q' := (fK_at s0' i0' i1').mpr p'
  unfold fC at c c'
  by_cases l : (32 * s + i).toNat < (32 * s' + i').toNat
  · have := cnP_j q l
    omega
  · by_cases l' : (32 * s' + i').toNat < (32 * s + i).toNat
    · have := cnP_j q' l'
      omega
    · have es : s = s' := by omega
      have ei : i = i' := by omega
      omega
theorem fnF_no {P : Int → Int → Prop} {j u : Int} (h : fnF P j u) (h' : fNo P 32 0 j) : False := by
  obtain ⟨s, i, ⟨s0, s1⟩, ⟨i0, i1⟩, p, c, e⟩ := h
  exact h' _ (by omega) ((fK_at s0 i0 i1).mpr p) c
theorem fnd_u {P : Int → Int → Prop} {j u v : Int} (h : fnd P j u) (h' : fnd P j v) : u = v := by
  rcases h with h | ⟨e, h⟩
  · rcases h' with h' | ⟨e', h'⟩
    · exact fnF_u h h'
    · exact (fnF_no h h').elim
  · rcases h' with h' | ⟨e', h'⟩
    · exact (fnF_no h' h).elim
    · rw [e, e']
theorem fnF_nn {P : Int → Int → Prop} {j v : Int} (h : fnF P j v) : 0 ≤ v ∧ v ≤ 1023 := by
  obtain ⟨s, i, hs, hi, -, -, e⟩ := h
  omega
theorem fm_put {P : Int → Prop} {p b z i : Int} (i0 : 0 ≤ i) (i1 : i ≤ 31) (eb : b = (Int32.ofInt 1 <<< (Int32.ofInt i &&& 31)).toInt) (ez : z = (Int32.ofInt p ||| Int32.ofInt b).toInt) (h : ∀ k, 0 ≤ k → k ≤ 31 → (bitI p k = true ↔ k < i ∧ P k)) (hi : P i) : ∀ k, 0 ≤ k → k ≤ 31 → (bitI z k = true ↔ k < i + 1 ∧ P k) := by
  intro k k0 k1
  rw [ez, bitI_or, Bool.or_eq_true, h k k0 k1, eb, bitI_shl i0 (by omega) k0 (by omega), decide_eq_true_eq]
  constructor
  · rintro (⟨a, q⟩ | e)
    · exact ⟨by omega, q⟩
    · subst e
      exact ⟨by omega, hi⟩
  · rintro ⟨a, q⟩
    by_cases e : k = i
    · exact Or.inr e
    · exact Or.inl ⟨by omega, q⟩
theorem fm_no {P : Int → Prop} {p i : Int} (h : ∀ k, 0 ≤ k → k ≤ 31 → (bitI p k = true ↔ k < i ∧ P k)) (hn : ¬ P i) : ∀ k, 0 ≤ k → k ≤ 31 → (bitI p k = true ↔ k < i + 1 ∧ P k) := by
  intro k k0 k1
  rw [h k k0 k1]
  constructor
  · rintro ⟨a, q⟩
    exact ⟨by omega, q⟩
  · rintro ⟨a, q⟩
    by_cases e : k = i
    · subst e
      exact absurd q hn
    · exact ⟨by omega, q⟩
theorem fm_0 {P : Int → Prop} : ∀ k, 0 ≤ k → k ≤ 31 → (bitI 0 k = true ↔ k < 0 ∧ P k) := fun k k0 _ => by
  rw [bit_0]
  exact ⟨fun z => (by cases z), fun z => by omega⟩
theorem ltA_b {n : Int} {R : Int → Int → Prop} (h : ltA n R 0) : ∃ l, 0 ≤ l ∧ ltF n R l := by
  rcases h with ⟨e, -⟩ | ⟨e, -⟩ | ⟨e, -⟩ | ⟨-, -, -, q⟩
  · exact absurd e (by decide)
  · exact absurd e (by decide)
  · exact absurd e (by decide)
  · exact q
theorem ltA_c {n u : Int} {R : Int → Int → Prop} (h : ltA n R u) (e : u = 0) : ltA n R 0 := e ▸ h
