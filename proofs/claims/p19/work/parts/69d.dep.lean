/-! the class's Dependences, exactly -/
/-- bits: what a node depends on, what depends on it, by kind, which CALLs a procedure has -/
def nE (f : Nat → Int → Int) (a b : Int) : Prop := bitI (f 14 (a * 8 + b / 32)) (b % 32) = true
def nF (f : Nat → Int → Int) (a b : Int) : Prop := bitI (f 15 (b * 8 + a / 32)) (a % 32) = true
def nK (f : Nat → Int → Int) (k n j : Int) : Prop := bitI (f 16 (k * 32 + n)) j = true
def nC (f : Nat → Int → Int) (p i : Int) : Prop := bitI (f 17 p) i = true
/-- g is f with A and B added -/
def dA (A : Int → Int → Prop) (B : Int → Int → Int → Prop) (f g : Nat → Int → Int) : Prop := (∀ a b, 0 ≤ a → a ≤ 251 → 0 ≤ b → b ≤ 251 → (nE g a b ↔ nE f a b ∨ A a b) ∧ (nF g a b ↔ nF f a b ∨ A a b)) ∧ ∀ k n j, 0 ≤ k → k ≤ 3 → 0 ≤ n → n ≤ 31 → 0 ≤ j → j ≤ 31 → (nK g k n j ↔ nK f k n j ∨ B k n j)
def n2 : Int → Int → Prop := fun _ _ => False
def n3 : Int → Int → Int → Prop := fun _ _ _ => False
theorem or3 {P Q R S T : Prop} (h : P ↔ Q ∨ R) (h' : S ↔ P ∨ T) : S ↔ Q ∨ (R ∨ T) := by
  rw [h', h]
  exact or_assoc
theorem dA_tr {A A' : Int → Int → Prop} {B B' : Int → Int → Int → Prop} {f g h : Nat → Int → Int} (h1 : dA A B f g) (h2 : dA A' B' g h) : dA (fun a b => A a b ∨ A' a b) (fun k n j => B k n j ∨ B' k n j) f h := by
  refine ⟨fun a b a0 a1 b0 b1 => ?_, fun k n j k0 k1 n0 n1 j0 j1 => or3 (h1.2 k n j k0 k1 n0 n1 j0 j1) (h2.2 k n j k0 k1 n0 n1 j0 j1)⟩
  have p := h1.1 a b a0 a1 b0 b1
  have q := h2.1 a b a0 a1 b0 b1
  exact ⟨or3 p.1 q.1, or3 p.2 q.2⟩
theorem dA_if {A A' : Int → Int → Prop} {B B' : Int → Int → Int → Prop} {f g : Nat → Int → Int} (h : dA A B f g) (ha : ∀ a b, 0 ≤ a → a ≤ 251 → 0 ≤ b → b ≤ 251 → (A a b ↔ A' a b)) (hb : ∀ k n j, 0 ≤ k → k ≤ 3 → 0 ≤ n → n ≤ 31 → 0 ≤ j → j ≤ 31 → (B k n j ↔ B' k n j)) : dA A' B' f g := by
  refine ⟨fun a b a0 a1 b0 b1 => ?_, fun k n j k0 k1 n0 n1 j0 j1 => ?_⟩
  · rw [← ha a b a0 a1 b0 b1]
    exact h.1 a b a0 a1 b0 b1
  · rw [← hb k n j k0 k1 n0 n1 j0 j1]
    exact h.2 k n j k0 k1 n0 n1 j0 j1
theorem or_no {P Q : Prop} (h : ¬ Q) : P ↔ P ∨ Q := ⟨Or.inl, fun z => z.elim id (fun z => absurd z h)⟩
theorem dA_re {f : Nat → Int → Int} : dA n2 n3 f f := ⟨fun _ _ _ _ _ _ => ⟨or_no id, or_no id⟩, fun _ _ _ _ _ _ _ _ _ => or_no id⟩
/-- the same tables, or such as nothing was written to -/
theorem dA_sm {A : Int → Int → Prop} {B : Int → Int → Int → Prop} {f g h : Nat → Int → Int} (h1 : dA A B f g) (e14 : h 14 = g 14) (e15 : h 15 = g 15) (e16 : h 16 = g 16) : dA A B f h := by
  unfold dA nE nF nK at h1 ⊢
  rw [e14, e15, e16]
  exact h1
/-- one of those from lo on, ahead of n -/
def eX (lo n : Int) (R : Int → Prop) : Prop := ∃ k, (lo ≤ k ∧ k < n) ∧ R k
theorem eX_s {lo n : Int} {R : Int → Prop} (l : lo ≤ n) : eX lo (n + 1) R ↔ eX lo n R ∨ R n := by
  constructor
  · rintro ⟨k, ⟨k0, k1⟩, h⟩
    by_cases e : k = n
    · exact Or.inr (e ▸ h)
    · exact Or.inl ⟨k, ⟨k0, by omega⟩, h⟩
  · rintro (⟨k, ⟨k0, k1⟩, h⟩ | h)
    · exact ⟨k, ⟨k0, by omega⟩, h⟩
    · exact ⟨n, ⟨l, by omega⟩, h⟩
theorem eX_n {lo n : Int} {R : Int → Prop} (l : n ≤ lo) : ¬ eX lo n R := fun ⟨k, ⟨a, b⟩, _⟩ => by omega
theorem or_s {lo n : Int} {R : Int → Prop} {U : Prop} (l : lo ≤ n) : (U ∨ eX lo n R) ∨ R n ↔ U ∨ eX lo (n + 1) R := by
  rw [eX_s l]
  exact or_assoc
theorem dA_nx {U : Int → Int → Prop} {W : Int → Int → Int → Prop} {R : Int → Int → Int → Prop} {S : Int → Int → Int → Int → Prop} {lo n : Int} {f g h : Nat → Int → Int} (h1 : dA (fun a b => U a b ∨ eX lo n (fun k => R k a b)) (fun k c j => W k c j ∨ eX lo n (fun i => S i k c j)) f g) (h2 : dA (R n) (S n) g h) (l : lo ≤ n) : dA (fun a b => U a b ∨ eX lo (n + 1) (fun k => R k a b)) (fun k c j => W k c j ∨ eX lo (n + 1) (fun i => S i k c j)) f h := dA_if (dA_tr h1 h2) (fun _ _ _ _ _ _ => or_s (R := fun k => R k _ _) l) (fun _ _ _ _ _ _ _ _ _ => or_s (R := fun i => S i _ _ _) l)
theorem dA_sk {U : Int → Int → Prop} {W : Int → Int → Int → Prop} {R : Int → Int → Int → Prop} {S : Int → Int → Int → Int → Prop} {lo n : Int} {f g : Nat → Int → Int} (h1 : dA (fun a b => U a b ∨ eX lo n (fun k => R k a b)) (fun k c j => W k c j ∨ eX lo n (fun i => S i k c j)) f g) (l : lo ≤ n) (nR : ∀ a b, ¬ R n a b) (nS : ∀ k c j, ¬ S n k c j) : dA (fun a b => U a b ∨ eX lo (n + 1) (fun k => R k a b)) (fun k c j => W k c j ∨ eX lo (n + 1) (fun i => S i k c j)) f g := dA_nx h1 (dA_if dA_re (fun a b _ _ _ _ => ⟨fun z => z.elim, fun z => absurd z (nR a b)⟩) (fun k c j _ _ _ _ _ _ => ⟨fun z => z.elim, fun z => absurd z (nS k c j)⟩)) l
theorem dA_in {U : Int → Int → Prop} {W : Int → Int → Int → Prop} (R : Int → Int → Int → Prop) (S : Int → Int → Int → Int → Prop) {lo n : Int} {f g : Nat → Int → Int} (h1 : dA U W f g) (l : n ≤ lo) : dA (fun a b => U a b ∨ eX lo n (fun k => R k a b)) (fun k c j => W k c j ∨ eX lo n (fun i => S i k c j)) f g := dA_if h1 (fun _ _ _ _ _ _ => or_no (eX_n l)) (fun _ _ _ _ _ _ _ _ _ => or_no (eX_n l))
theorem nb_put {f g : Int → Int} {x y b z : Int} (x0 : 0 ≤ x) (y0 : 0 ≤ y) (y1 : y ≤ 251) (eb : b = (Int32.ofInt 1 <<< (Int32.ofInt (y % 32) &&& 31)).toInt) (ez : z = (Int32.ofInt (f (x * 8 + y / 32)) ||| Int32.ofInt b).toInt) (hg : ∀ i, g i = if i = x * 8 + y / 32 then z else f i) : ∀ a c, 0 ≤ a → a ≤ 251 → 0 ≤ c → c ≤ 251 → (bitI (g (a * 8 + c / 32)) (c % 32) = true ↔ bitI (f (a * 8 + c / 32)) (c % 32) = true ∨ (a = x ∧ c = y)) := by
  intro a c a0 a1 c0 c1
  rw [hg]
  by_cases e : a * 8 + c / 32 = x * 8 + y / 32
  · have ea : a = x := by omega
    have ec : c / 32 = y / 32 := by omega
    rw [if_pos e, ez, bitI_or, ← e, Bool.or_eq_true, eb, bitI_shl (by omega) (by omega) (by omega) (by omega), decide_eq_true_eq]
    constructor
    · rintro (h | h)
      · exact Or.inl h
      · exact Or.inr ⟨ea, by omega⟩
    · rintro (h | h)
      · exact Or.inl h
      · exact Or.inr (by omega)
  · rw [if_neg e]
    exact or_no (fun q => e (by rw [q.1, q.2]))
theorem dA_jn {f g : Nat → Int → Int} {x y b z b' z' : Int} (x0 : 0 ≤ x) (x1 : x ≤ 251) (y0 : 0 ≤ y) (y1 : y ≤ 251) (eb : b = (Int32.ofInt 1 <<< (Int32.ofInt (y % 32) &&& 31)).toInt) (ez : z = (Int32.ofInt (f 14 (x * 8 + y / 32)) ||| Int32.ofInt b).toInt) (hg : ∀ i, g 14 i = if i = x * 8 + y / 32 then z else f 14 i) (eb' : b' = (Int32.ofInt 1 <<< (Int32.ofInt (x % 32) &&& 31)).toInt) (ez' : z' = (Int32.ofInt (f 15 (y * 8 + x / 32)) ||| Int32.ofInt b').toInt) (hg' : ∀ i, g 15 i = if i = y * 8 + x / 32 then z' else f 15 i) (e16 : g 16 = f 16) : dA (fun a b => a = x ∧ b = y) n3 f g := by
  refine ⟨fun a b a0 a1 b0 b1 => ⟨nb_put x0 y0 y1 eb ez hg a b a0 a1 b0 b1, ?_⟩, fun k n j _ _ _ _ _ _ => ?_⟩
  · refine (nb_put y0 x0 x1 eb' ez' hg' b a b0 b1 a0 a1).trans ?_
    exact ⟨fun q => q.imp id (fun q => ⟨q.2, q.1⟩), fun q => q.imp id (fun q => ⟨q.2, q.1⟩)⟩
  · unfold nK
    rw [e16]
    exact or_no id
theorem dA_as {A : Int → Int → Prop} {f g h : Nat → Int → Int} {k x y b z : Int} (hA : dA A n3 f g) (k0 : 0 ≤ k) (k1 : k ≤ 3) (x0 : 0 ≤ x) (y0 : 0 ≤ y) (eb : b = (Int32.ofInt 1 <<< (Int32.ofInt (y % 32) &&& 31)).toInt) (ez : z = (Int32.ofInt (g 16 (k * 32 + x % 32)) ||| Int32.ofInt b).toInt) (hg : ∀ i, h 16 i = if i = k * 32 + x % 32 then z else g 16 i) (e14 : h 14 = g 14) (e15 : h 15 = g 15) : dA A (fun k' n j => k' = k ∧ n = x % 32 ∧ j = y % 32) f h := by
  refine ⟨fun a b a0 a1 b0 b1 => ?_, fun k' n j k0' k1' n0 n1 j0 j1 => ?_⟩
  · have q := hA.1 a b a0 a1 b0 b1
    unfold nE nF at q ⊢
    rw [e14, e15]
    exact q
  · have q := hA.2 k' n j k0' k1' n0 n1 j0 j1
    have q : nK g k' n j ↔ nK f k' n j := q.trans ⟨fun z => z.elim id (fun z => z.elim), Or.inl⟩
    rw [← q]
    unfold nK
    rw [hg]
    by_cases e : k' * 32 + n = k * 32 + x % 32
    · have ea : k' = k := by omega
      have ec : n = x % 32 := by omega
      rw [if_pos e, ez, bitI_or, ← e, Bool.or_eq_true, eb, bitI_shl (by omega) (by omega) (by omega) (by omega), decide_eq_true_eq]
      constructor
      · rintro (h | h)
        · exact Or.inl h
        · exact Or.inr ⟨ea, ec, h⟩
      · rintro (h | h)
        · exact Or.inl h
        · exact Or.inr h.2.2
    · rw [if_neg e]
      exact or_no (fun q => e (by rw [q.1, q.2.1]))
/-- the program and its ways, as they stand -/
def cE (f : Nat → Int → Int) (l : Nat → Int → Int64) (m : wk_M) : Prop := (∀ p, p ≤ 12 → m.1 p = f p) ∧ ∀ p, 20 ≤ p → p ≤ 24 → m.2 p = l p
theorem cE_fr {W : List Nat} {m' m : wk_M} {f : Nat → Int → Int} {l : Nat → Int → Int64} (h : wk_fr W m' m) (hw : (W.all fun p => Nat.ble 13 p && Nat.ble p 19) = true) (hc : cE f l m) : cE f l m' := by
  have g : ∀ p, p ∈ W → 13 ≤ p ∧ p ≤ 19 := fun p hp => by
    have := List.all_eq_true.mp hw p hp
    rw [Bool.and_eq_true] at this
    exact ⟨Nat.le_of_ble_eq_true this.1, Nat.le_of_ble_eq_true this.2⟩
  refine ⟨fun p hp => ?_, fun p p0 p1 => ?_⟩
  · rw [(h p (fun z => by have := g p z; omega)).1]
    exact hc.1 p hp
  · rw [(h p (fun z => by have := g p z; omega)).2]
    exact hc.2 p p0 p1
def cLl (f : Nat → Int → Int) (n : Int) : Prop := (0 ≤ n ∧ n < f 1 (4 : Nat)) ∧ 13 ≤ f 2 n ∧ f 2 n ≤ 16
def dSr (f : Nat → Int → Int) (o p n b : Int) : Prop := (f 2 n = o ∧ b = n) ∨ (¬ f 2 n = o ∧ cLl f n ∧ b = p * 32 + n)

set_option maxHeartbeats 8000000 in
set_option maxRecDepth 20000 in
theorem k49x {Z : sm_Z} (hZ : Z.2.2.2 = tb_N) (m : wk_M) (x y : Int) (x0 : 0 ≤ x) (x1 : x ≤ 251) (y0 : 0 ≤ y) (y1 : y ≤ 251) (h : dM m.1) : wC Z 1 49 [14, 15] [.inr (.inl 13), .inl x, .inl y] m (fun r m' => r = none ∧ dM m'.1 ∧ dA (fun a b => a = x ∧ b = y) n3 m.1 m'.1) := by
  refine wC.gen fun Q hQ => wk_E hZ (by exact rfl) [] rfl (fun _ _ => trivial) fun hr hs => ?_
  have e1 : ab_lo = -2147483648 := rfl
  have e2 : ab_hi = 2147483647 := rfl
  repeat' first | refine And.intro ?_ ?_ | intro _ | refine Or.inl ⟨by omega, by omega, ?_⟩ | refine Or.inr ?_ | exact trivial
  all_goals first | omega | exact hQ _ _ ⟨rfl, ⟨dR_put (x := x) (f := m.1 14) h.1 y0 y1 (by assumption) (by assumption) (fun i => by simp (decide := true) only [wk_u_at, wk_ul_1, and_self, and_true, true_and, and_false, false_and, if_true, if_false]), dR_put (x := y) (f := m.1 15) h.2 x0 x1 (by assumption) (by assumption) (fun i => by simp (decide := true) only [wk_u_at, wk_ul_1, and_self, and_true, true_and, and_false, false_and, if_true, if_false])⟩, dA_jn x0 x1 y0 y1 (by assumption) (by assumption) (fun i => by simp (decide := true) only [wk_u_at, wk_ul_1, and_self, and_true, true_and, and_false, false_and, if_true, if_false]) (by assumption) (by assumption) (fun i => by simp (decide := true) only [wk_u_at, wk_ul_1, and_self, and_true, true_and, and_false, false_and, if_true, if_false]) rfl⟩

set_option maxHeartbeats 8000000 in
set_option maxRecDepth 20000 in
theorem k48x {Z : sm_Z} (hZ : Z.2.2.2 = tb_N) (m : wk_M) (k x y : Int) (k0 : 0 ≤ k) (k1 : k ≤ 3) (x0 : 0 ≤ x) (x1 : x ≤ 251) (y0 : 0 ≤ y) (y1 : y ≤ 251) (h : dM m.1) : wC Z 2 48 [14, 15, 16] [.inr (.inl 13), .inl k, .inl x, .inl y] m (fun r m' => r = none ∧ dM m'.1 ∧ dA (fun a b => a = x ∧ b = y) (fun k' n j => (x < 224 ∧ y < 224) ∧ k' = k ∧ n = x % 32 ∧ j = y % 32) m.1 m'.1) := by
  refine wC.gen fun Q hQ => wk_E hZ (by exact rfl) [] rfl (fun _ _ => trivial) fun hr hs => ?_
  have e1 : ab_lo = -2147483648 := rfl
  have e2 : ab_hi = 2147483647 := rfl
  repeat' first | refine And.intro ?_ ?_ | intro _ | refine Or.inl ⟨by omega, by omega, ?_⟩ | refine Or.inr ?_ | exact trivial | (refine wk_use (k49x hZ _ _ _ x0 x1 y0 y1 h) rfl rfl ?_; rintro - _ _ - hfr - ⟨rfl, hd2, hA⟩; refine Or.inr ?_)
  all_goals first
    | omega
    | exact hQ _ _ ⟨rfl, hd2, dA_if hA (fun a b _ _ _ _ => Iff.rfl) (fun k' n j _ _ _ _ _ _ => ⟨fun z => z.elim, fun z => by omega⟩)⟩
    | exact hQ _ _ ⟨rfl, dM_fr (wk_fr_u (p := 16) (W := [16]) (by decide) (wk_fr_refl _ _)) (by decide) (by decide) hd2, dA_if (dA_as hA k0 k1 x0 y0 (by assumption) (by assumption) (fun i => by simp (decide := true) only [wk_u_at, wk_ul_1, and_self, and_true, true_and, and_false, false_and, if_true, if_false]) rfl rfl) (fun a b _ _ _ _ => Iff.rfl) (fun k' n j _ _ _ _ _ _ => by omega)⟩

set_option maxHeartbeats 8000000 in
set_option maxRecDepth 20000 in
theorem k57x {Z : sm_Z} (hZ : Z.2.2.2 = tb_N) (m : wk_M) (f : Nat → Int → Int) (l : Nat → Int → Int64) (hc : cE f l m) (k x n o p : Int) (k0 : 0 ≤ k) (k1 : k ≤ 3) (x0 : 0 ≤ x) (x1 : x ≤ 251) (n0 : 0 ≤ n) (n1 : n ≤ 31) (p0 : 0 ≤ p) (p1 : p ≤ 6) (h : dM m.1) : wC Z 3 57 [14, 15, 16] [.inr (.inl 13), .inl k, .inl x, .inl n, .inl o, .inl p] m (fun r m' => r = none ∧ dM m'.1 ∧ dA (fun a b => a = x ∧ dSr f o p n b) (fun k' c j => (x < 224 ∧ k' = k ∧ c = x % 32) ∧ j = n ∧ (f 2 n = o ∨ cLl f n)) m.1 m'.1) := by
  refine wC.gen fun Q hQ => wk_E hZ (by exact rfl) [] rfl (fun _ _ => trivial) fun hr hs => ?_
  have e1 : ab_lo = -2147483648 := rfl
  have e2 : ab_hi = 2147483647 := rfl
  have e2 : m.1 2 n = f 2 n := congrFun (hc.1 2 (by decide)) n
  have e4 : m.1 1 (4 : Nat) = f 1 (4 : Nat) := congrFun (hc.1 1 (by decide)) _
  repeat' first | (intro h; exact absurd h (by decide)) | (intro h; exact absurd rfl h) | refine And.intro ?_ ?_ | intro _ | refine Or.inl ⟨by omega, by omega, ?_⟩ | refine Or.inr ?_ | exact trivial | (refine wk_use (k33 hZ _ _) rfl rfl ?_; rintro - _ _ - - - ⟨_, rfl, hm, ⟨rfl, _⟩ | ⟨rfl, _⟩⟩ <;> refine Or.inl ⟨[], hm, ?_⟩ <;> clear hm) | (refine wk_use (k50 hZ _ _ _ (by omega) (by omega) (by omega) (by omega)) rfl rfl ?_; rintro - _ _ - - - ⟨_, rfl, hm, rfl⟩; refine Or.inl ⟨[], hm, ?_⟩; clear hm) | (refine wk_use (k48x hZ _ _ _ _ (by omega) (by omega) (by omega) (by omega) (by omega) (by omega) h) rfl rfl ?_; rintro - _ _ - hfr - ⟨rfl, hd2, hA⟩; refine Or.inr ?_)
  all_goals first
    | omega
    | exact hQ _ _ ⟨rfl, hd2, dA_if hA (fun a b _ _ _ _ => by unfold dSr cLl; omega) (fun k' c j _ _ _ _ _ _ => by unfold cLl; omega)⟩
    | exact hQ _ _ ⟨rfl, h, dA_if dA_re (fun a b _ _ _ _ => ⟨fun z => z.elim, fun z => by unfold dSr cLl at z; omega⟩) (fun k' c j _ _ _ _ _ _ => ⟨fun z => z.elim, fun z => by unfold cLl at z; omega⟩)⟩

/-- what reads x at a position: the definitions that reach it, and the BEGINNING -/
def rdR (f : Nat → Int → Int) (l : Nat → Int → Int64) (x y z k a b : Int) : Prop := a = x ∧ (dfc f z k ∧ fX (l 23 k) y) ∧ ((cLl f k ∧ b = 4 * 32 + k) ∨ (¬ cLl f k ∧ b = k))
def rdS (f : Nat → Int → Int) (l : Nat → Int → Int64) (x y z k k' c j : Int) : Prop := (x < 224 ∧ k' = 1 ∧ c = x % 32) ∧ (dfc f z k ∧ fX (l 23 k) y) ∧ j = k
def rdP (l : Nat → Int → Int64) (x y z p a b : Int) : Prop := a = x ∧ z < 2 ∧ fX (l 24 (p * 2 + z)) y ∧ b = 224 + p * 7 + (1 + z)
def rdA (f : Nat → Int → Int) (l : Nat → Int → Int64) (x y z p a b : Int) : Prop := (n2 a b ∨ eX (f 10 p) (f 11 p) (fun k => rdR f l x y z k a b)) ∨ rdP l x y z p a b
def rdB (f : Nat → Int → Int) (l : Nat → Int → Int64) (x y z p k c j : Int) : Prop := n3 k c j ∨ eX (f 10 p) (f 11 p) (fun n => rdS f l x y z n k c j)
def pOK (f : Nat → Int → Int) (p : Int) : Prop := (0 ≤ p ∧ p ≤ 3) ∧ 0 ≤ f 10 p ∧ f 10 p ≤ f 11 p ∧ f 11 p ≤ f 1 (4 : Nat) ∧ f 1 (4 : Nat) ≤ 32
theorem rdR_c {f : Nat → Int → Int} {l : Nat → Int → Int64} {x y z n : Int} (hd : dfc f z n) (hx : fX (l 23 n) y) (hc : cLl f n) (a b : Int) : (a = x ∧ b = 4 * 32 + n) ↔ rdR f l x y z n a b := ⟨fun q => ⟨q.1, ⟨hd, hx⟩, Or.inl ⟨hc, q.2⟩⟩, fun q => ⟨q.1, q.2.2.elim (fun w => w.2) (fun w => absurd hc w.1)⟩⟩
theorem rdR_p {f : Nat → Int → Int} {l : Nat → Int → Int64} {x y z n : Int} (hd : dfc f z n) (hx : fX (l 23 n) y) (hc : ¬ cLl f n) (a b : Int) : (a = x ∧ b = n) ↔ rdR f l x y z n a b := ⟨fun q => ⟨q.1, ⟨hd, hx⟩, Or.inr ⟨hc, q.2⟩⟩, fun q => ⟨q.1, q.2.2.elim (fun w => absurd w.1 hc) (fun w => w.2)⟩⟩
theorem rdS_i {f : Nat → Int → Int} {l : Nat → Int → Int64} {x y z n v : Int} (hd : dfc f z n) (hx : fX (l 23 n) y) (n0 : 0 ≤ n) (n1 : n ≤ 31) (hv : v = 4 * 32 + n ∨ v = n) (k c j : Int) : ((x < 224 ∧ v < 224) ∧ k = 1 ∧ c = x % 32 ∧ j = v % 32) ↔ rdS f l x y z n k c j := ⟨fun q => ⟨⟨q.1.1, q.2.1, q.2.2.1⟩, ⟨hd, hx⟩, by omega⟩, fun q => ⟨⟨q.1.1, by omega⟩, q.1.2.1, q.1.2.2, by have := q.2.2; omega⟩⟩
theorem rdR_n {f : Nat → Int → Int} {l : Nat → Int → Int64} {x y z n : Int} (h : ¬ (dfc f z n ∧ fX (l 23 n) y)) : ∀ a b, ¬ rdR f l x y z n a b := fun _ _ q => h q.2.1
theorem rdS_n {f : Nat → Int → Int} {l : Nat → Int → Int64} {x y z n : Int} (h : ¬ (dfc f z n ∧ fX (l 23 n) y)) : ∀ k c j, ¬ rdS f l x y z n k c j := fun _ _ _ q => h q.2.1
theorem dA_e {A : Int → Int → Int → Prop} {B : Int → Int → Int → Int → Prop} {n e : Int} {f g : Nat → Int → Int} (h : dA (A n) (B n) f g) (q : n = e) : dA (A e) (B e) f g := q ▸ h

set_option maxHeartbeats 8000000 in
set_option maxRecDepth 20000 in
theorem k52x {Z : sm_Z} (hZ : Z.2.2.2 = tb_N) (m : wk_M) (f : Nat → Int → Int) (l : Nat → Int → Int64) (hc : cE f l m) (x y z p : Int) (x0 : 0 ≤ x) (x1 : x ≤ 251) (y0 : 0 ≤ y) (y1 : y ≤ 63) (z0 : 0 ≤ z) (z1 : z ≤ 3) (hp : pOK f p) (h : dM m.1) : wC Z 3 52 [14, 15, 16] [.inr (.inl 13), .inl x, .inl y, .inl z, .inl p] m (fun r m' => r = none ∧ dM m'.1 ∧ dA (fun a b => rdA f l x y z p a b) (fun k c j => rdB f l x y z p k c j) m.1 m'.1) := by
  obtain ⟨J0, hJ0⟩ : ∃ J : Int →Int →Int →Int →Int → wk_M → Prop, ∀ xa ya za pa n m', J xa ya za pa n m' ↔ ((x = xa ∧ y = ya ∧ z = za ∧ p = pa) ∧ (f 10 p ≤ n ∧ n ≤ f 11 p) ∧ dM m'.1 ∧ dA (fun a b => n2 a b ∨ eX (f 10 p) n (fun k => rdR f l x y z k a b)) (fun k c j => n3 k c j ∨ eX (f 10 p) n (fun i => rdS f l x y z i k c j)) m.1 m'.1) := ⟨_, fun _ _ _ _ _ _ => Iff.rfl⟩
  refine wC.gen fun Q hQ => wk_E hZ (by exact rfl) [(12, [(3, 13), (1, 0), (1, 0), (1, 0), (1, 0), (1, 0)], fun vs _ m' => (match vs with
    | [xa, ya, za, pa, n] => J0 xa ya za pa n m'
    | _ => False), fun vs _ m' => (match vs with
    | [xa, ya, za, pa, n] => (32 - n : Int).toNat
    | _ => 0))] rfl (fun hr hs => ⟨?_, trivial⟩) (fun hr hs => ?_)
  · have e1 : ab_lo = -2147483648 := rfl
    have e2 : ab_hi = 2147483647 := rfl
    intro m2 hr2 hf2 xa xal xah ya yal yah za zal zah pa pal pah n nl nh hI
    have hI := (hJ0 _ _ _ _ _ _).mp hI
    obtain ⟨⟨rfl, rfl, rfl, rfl⟩, ⟨n0, n1⟩, hd, hA0⟩ := hI
    obtain ⟨⟨p0, p1⟩, hp2, hp3, hp4, hp5⟩ := hp
    have hc2 := cE_fr hf2 rfl hc
    have e2 : m2.1 2 n = f 2 n := congrFun (hc2.1 2 (by decide)) n
    have e3 : m2.1 3 n = f 3 n := congrFun (hc2.1 3 (by decide)) n
    have e4 : m2.1 1 (4 : Nat) = f 1 (4 : Nat) := congrFun (hc2.1 1 (by decide)) _
    have e22 : m2.2 22 n = l 22 n := congrFun (hc2.2 22 (by decide) (by decide)) n
    have e23 : m2.2 23 n = l 23 n := congrFun (hc2.2 23 (by decide) (by decide)) n
    have e11 : m2.1 11 p = f 11 p := congrFun (hc2.1 11 (by decide)) p
    have e24 : m2.2 24 (p * 2 + z) = l 24 (p * 2 + z) := congrFun (hc2.2 24 (by decide) (by decide)) _
    repeat' first | (intro h; exact absurd h (by decide)) | (intro h; exact absurd rfl h) | refine And.intro ?_ ?_ | intro _ | refine Or.inl ⟨by omega, by omega, ?_⟩ | refine Or.inr ?_ | exact trivial | (refine wk_use (k41x hZ _ _ (by omega) (by omega)) rfl rfl ?_; rintro - _ _ - - - ⟨_, rfl, hm, ⟨rfl, _⟩ | ⟨rfl, _⟩⟩ <;> refine Or.inl ⟨[], hm, ?_⟩ <;> clear hm) | (refine wk_use (k53x hZ _ _ (by omega) (by omega) _ (by omega) (by omega)) rfl rfl ?_; rintro - _ _ - - - ⟨_, rfl, hm, ⟨rfl, hx⟩ | ⟨rfl, hx⟩⟩ <;> refine Or.inl ⟨[], hm, ?_⟩ <;> clear hm) | (refine wk_use (k54x hZ _ _ _ (by omega) (by omega) (by omega) (by omega) _ (by omega) (by omega)) rfl rfl ?_; rintro - _ _ - - - ⟨_, rfl, hm, ⟨rfl, hb⟩ | ⟨rfl, hb⟩⟩ <;> refine Or.inl ⟨[], hm, ?_⟩ <;> clear hm) | (refine wk_use (k33 hZ _ _) rfl rfl ?_; rintro - _ _ - - - ⟨_, rfl, hm, ⟨rfl, _⟩ | ⟨rfl, _⟩⟩ <;> refine Or.inl ⟨[], hm, ?_⟩ <;> clear hm) | (refine wk_use (k50 hZ _ _ _ (by omega) (by omega) (by omega) (by omega)) rfl rfl ?_; rintro - _ _ - - - ⟨_, rfl, hm, rfl⟩; refine Or.inl ⟨[], hm, ?_⟩; clear hm) | (refine wk_use (k47 hZ _ _ _ (by omega) (by omega) (by omega) (by omega)) rfl rfl ?_; rintro - _ _ - - - ⟨_, rfl, hm, rfl⟩; refine Or.inl ⟨[], hm, ?_⟩; clear hm) | (refine wk_use (k48x hZ _ _ _ _ (by omega) (by omega) (by omega) (by omega) (by omega) (by omega) hd) rfl rfl ?_; rintro - _ _ - hfr - ⟨rfl, hd2, hA⟩; refine Or.inr ?_)
    all_goals first
      | omega
      | (show (32 - (_ : Int) : Int).toNat < (32 - (_ : Int) : Int).toNat; omega)
      | exact hQ _ _ ⟨rfl, hd2, dA_if (dA_tr (dA_e (A := fun n => fun a b => n2 a b ∨ eX (f 10 p) n (fun k => rdR f l x y z k a b)) (B := fun n => fun k c j => n3 k c j ∨ eX (f 10 p) n (fun i => rdS f l x y z i k c j)) hA0 (by omega : n = f 11 p)) hA) (fun a b _ _ _ _ => ⟨fun q => q.imp id (fun q => ⟨q.1, by omega, by rw [← e24]; exact hb, q.2⟩), fun q => q.imp id (fun q => ⟨q.1, q.2.2.2⟩)⟩) (fun k c j _ _ _ _ _ _ => ⟨fun q => q.elim id (fun q => by omega), Or.inl⟩)⟩
      | exact hQ _ _ ⟨rfl, hd, dA_if (dA_e (A := fun n => fun a b => n2 a b ∨ eX (f 10 p) n (fun k => rdR f l x y z k a b)) (B := fun n => fun k c j => n3 k c j ∨ eX (f 10 p) n (fun i => rdS f l x y z i k c j)) hA0 (by omega : n = f 11 p)) (fun a b _ _ _ _ => or_no (fun q => by first | (have := q.2.1; omega) | (exact hb (by rw [e24]; exact q.2.2.1)))) (fun k c j _ _ _ _ _ _ => Iff.rfl)⟩
      | (show J0 _ _ _ _ _ _; refine (hJ0 _ _ _ _ _ _).mpr ⟨⟨rfl, rfl, rfl, rfl⟩, ⟨by omega, by omega⟩, hd2, dA_nx hA0 (dA_if hA (fun a b _ _ _ _ => rdR_c ⟨⟨by omega, by omega⟩, by omega, by omega⟩ (by rw [← e23]; exact hx) (by unfold cLl; omega) a b) (fun k c j _ _ _ _ _ _ => rdS_i ⟨⟨by omega, by omega⟩, by omega, by omega⟩ (by rw [← e23]; exact hx) (by omega) (by omega) (Or.inl rfl) k c j)) n0⟩)
      | (show J0 _ _ _ _ _ _; refine (hJ0 _ _ _ _ _ _).mpr ⟨⟨rfl, rfl, rfl, rfl⟩, ⟨by omega, by omega⟩, hd2, dA_nx hA0 (dA_if hA (fun a b _ _ _ _ => rdR_p ⟨⟨by omega, by omega⟩, by omega, by omega⟩ (by rw [← e23]; exact hx) (by unfold cLl; omega) a b) (fun k c j _ _ _ _ _ _ => rdS_i ⟨⟨by omega, by omega⟩, by omega, by omega⟩ (by rw [← e23]; exact hx) (by omega) (by omega) (Or.inr rfl) k c j)) n0⟩)
      | (show J0 _ _ _ _ _ _; refine (hJ0 _ _ _ _ _ _).mpr ⟨⟨rfl, rfl, rfl, rfl⟩, ⟨by omega, by omega⟩, hd, dA_sk hA0 n0 (rdR_n (fun q => by first | (exact hx (by rw [e23]; exact q.2)) | (have q := q.1; unfold dfc at q; omega))) (rdS_n (fun q => by first | (exact hx (by rw [e23]; exact q.2)) | (have q := q.1; unfold dfc at q; omega)))⟩)
  · have e1 : ab_lo = -2147483648 := rfl
    have e2 : ab_hi = 2147483647 := rfl
    obtain ⟨⟨p0, p1⟩, hp2, hp3, hp4, hp5⟩ := hp
    have e10 : m.1 10 p = f 10 p := congrFun (hc.1 10 (by decide)) p
    repeat' first | (intro h; exact absurd h (by decide)) | (intro h; exact absurd rfl h) | refine And.intro ?_ ?_ | intro _ | refine Or.inl ⟨by omega, by omega, ?_⟩ | refine Or.inr ?_ | exact trivial
    all_goals first
      | omega
      | trivial
      | (show J0 _ _ _ _ _ _; refine (hJ0 _ _ _ _ _ _).mpr ⟨⟨rfl, rfl, rfl, rfl⟩, ⟨by omega, by omega⟩, h, dA_in _ _ dA_re (by omega)⟩)

def daA (f : Nat → Int → Int) (l : Nat → Int → Int64) (i a b : Int) : Prop := (cLl f i ∧ (rdA f l (1 * 32 + i) i (f 4 i) (f 9 i) a b ∨ rdA f l (2 * 32 + i) i (f 5 i) (f 9 i) a b)) ∨ (¬ cLl f i ∧ (((¬ f 2 i = 0 ∧ ¬ f 2 i = 6) ∧ rdA f l i i (f 4 i) (f 9 i) a b) ∨ (((1 ≤ f 2 i ∧ f 2 i ≤ 5) ∨ f 2 i = 8) ∧ rdA f l i i (f 5 i) (f 9 i) a b)))
def daB (f : Nat → Int → Int) (l : Nat → Int → Int64) (i k c j : Int) : Prop := (cLl f i ∧ (rdB f l (1 * 32 + i) i (f 4 i) (f 9 i) k c j ∨ rdB f l (2 * 32 + i) i (f 5 i) (f 9 i) k c j)) ∨ (¬ cLl f i ∧ (((¬ f 2 i = 0 ∧ ¬ f 2 i = 6) ∧ rdB f l i i (f 4 i) (f 9 i) k c j) ∨ (((1 ≤ f 2 i ∧ f 2 i ≤ 5) ∨ f 2 i = 8) ∧ rdB f l i i (f 5 i) (f 9 i) k c j)))
theorem da_c {C P Q X Y : Prop} (hc : C) : (P ∨ Q) ↔ (C ∧ (P ∨ Q)) ∨ (¬ C ∧ (X ∨ Y)) := ⟨fun q => Or.inl ⟨hc, q⟩, fun q => q.elim (fun q => q.2) (fun q => absurd hc q.1)⟩
theorem da_2 {C P Q X Y U W : Prop} (hc : ¬ C) (hu : U) (hw : W) : (X ∨ Y) ↔ (C ∧ (P ∨ Q)) ∨ (¬ C ∧ ((U ∧ X) ∨ (W ∧ Y))) := ⟨fun q => Or.inr ⟨hc, q.imp (fun q => ⟨hu, q⟩) (fun q => ⟨hw, q⟩)⟩, fun q => q.elim (fun q => absurd q.1 hc) (fun q => q.2.imp (fun q => q.2) (fun q => q.2))⟩
theorem da_1 {C P Q X Y U W : Prop} (hc : ¬ C) (hu : U) (hw : ¬ W) : X ↔ (C ∧ (P ∨ Q)) ∨ (¬ C ∧ ((U ∧ X) ∨ (W ∧ Y))) := ⟨fun q => Or.inr ⟨hc, Or.inl ⟨hu, q⟩⟩, fun q => q.elim (fun q => absurd q.1 hc) (fun q => q.2.elim (fun q => q.2) (fun q => absurd q.1 hw))⟩
theorem da_0 {C P Q X Y U W : Prop} (hc : ¬ C) (hu : ¬ U) (hw : ¬ W) : False ↔ (C ∧ (P ∨ Q)) ∨ (¬ C ∧ ((U ∧ X) ∨ (W ∧ Y))) := ⟨fun q => q.elim, fun q => q.elim (fun q => absurd q.1 hc) (fun q => q.2.elim (fun q => absurd q.1 hu) (fun q => absurd q.1 hw))⟩

set_option maxHeartbeats 8000000 in
set_option maxRecDepth 20000 in
theorem k51x {Z : sm_Z} (hZ : Z.2.2.2 = tb_N) (m : wk_M) (f : Nat → Int → Int) (l : Nat → Int → Int64) (hc : cE f l m) (i : Int) (i0 : 0 ≤ i) (i1 : i ≤ 31) (hi : i < f 1 (4 : Nat)) (hO : cOps f) (hn : ¬ f 2 i = 10 ∧ ¬ f 2 i = 12 ∧ ¬ f 2 i = 18) (hp : pOK f (f 9 i)) (h : dM m.1) : wC Z 4 51 [14, 15, 16] [.inr (.inl 13), .inl i] m (fun r m' => r = none ∧ dM m'.1 ∧ dA (fun a b => daA f l i a b) (fun k c j => daB f l i k c j) m.1 m'.1) := by
  refine wC.gen fun Q hQ => wk_E hZ (by exact rfl) [] rfl (fun _ _ => trivial) fun hr hs => ?_
  have e1 : ab_lo = -2147483648 := rfl
  have e2 : ab_hi = 2147483647 := rfl
  obtain ⟨-, qa, qb⟩ := hO i i0 hi
  have e2 : m.1 2 i = f 2 i := congrFun (hc.1 2 (by decide)) i
  have e4 : m.1 4 i = f 4 i := congrFun (hc.1 4 (by decide)) i
  have e5 : m.1 5 i = f 5 i := congrFun (hc.1 5 (by decide)) i
  have e6 : m.1 6 i = f 6 i := congrFun (hc.1 6 (by decide)) i
  have e9 : m.1 9 i = f 9 i := congrFun (hc.1 9 (by decide)) i
  have ec : m.1 1 (4 : Nat) = f 1 (4 : Nat) := congrFun (hc.1 1 (by decide)) _
  repeat' first | (intro h; exact absurd h (by decide)) | (intro h; exact absurd rfl h) | refine And.intro ?_ ?_ | intro _ | refine Or.inl ⟨by omega, by omega, ?_⟩ | refine Or.inr ?_ | exact trivial | (refine wk_use (k33 hZ _ _) rfl rfl ?_; rintro - _ _ - - - ⟨_, rfl, hm, ⟨rfl, _⟩ | ⟨rfl, _⟩⟩ <;> refine Or.inl ⟨[], hm, ?_⟩ <;> clear hm) | (refine wk_use (k50 hZ _ _ _ (by omega) (by omega) (by omega) (by omega)) rfl rfl ?_; rintro - _ _ - - - ⟨_, rfl, hm, rfl⟩; refine Or.inl ⟨[], hm, ?_⟩; clear hm) | (refine wk_use (k52x hZ _ f l hc3 _ _ _ _ (by omega) (by omega) (by omega) (by omega) (by have := qb (by unfold nB; omega); omega) (by have := qb (by unfold nB; omega); omega) (by first | (rw [e9]; exact hp) | (rw [e9']; exact hp)) hd2) rfl rfl ?_; rintro - _ _ - hfr - ⟨rfl, hd3, hB⟩; rw [e9', e5'] at hB; refine Or.inr ?_) | (refine wk_use (k52x hZ _ f l hc _ _ _ _ (by omega) (by omega) (by omega) (by omega) (by have := qa (by unfold nA; omega); omega) (by have := qa (by unfold nA; omega); omega) (by first | (rw [e9]; exact hp) | (rw [e9']; exact hp)) h) rfl rfl ?_; rintro - _ _ - hfr - ⟨rfl, hd2, hA⟩; have hc3 := cE_fr hfr rfl hc; have e5' := congrFun (hc3.1 5 (by decide)) i; have e9' := congrFun (hc3.1 9 (by decide)) i; have e2' := congrFun (hc3.1 2 (by decide)) i; rw [e9] at hA; (try rw [e4] at hA); (try rw [e5] at hA); refine Or.inr ?_) | (refine wk_use (k52x hZ _ f l hc _ _ _ _ (by omega) (by omega) (by omega) (by omega) (by have := qb (by unfold nB; omega); omega) (by have := qb (by unfold nB; omega); omega) (by first | (rw [e9]; exact hp) | (rw [e9']; exact hp)) h) rfl rfl ?_; rintro - _ _ - hfr - ⟨rfl, hd2, hA⟩; have hc3 := cE_fr hfr rfl hc; have e5' := congrFun (hc3.1 5 (by decide)) i; have e9' := congrFun (hc3.1 9 (by decide)) i; have e2' := congrFun (hc3.1 2 (by decide)) i; rw [e9] at hA; (try rw [e4] at hA); (try rw [e5] at hA); refine Or.inr ?_)
  all_goals first
    | omega
    | exact hQ _ _ ⟨rfl, hd3, dA_if (dA_tr hA hB) (fun a b _ _ _ _ => da_c (by unfold cLl; omega)) (fun k c j _ _ _ _ _ _ => da_c (by unfold cLl; omega))⟩
    | exact hQ _ _ ⟨rfl, hd3, dA_if (dA_tr hA hB) (fun a b _ _ _ _ => da_2 (by unfold cLl; omega) (by omega) (by omega)) (fun k c j _ _ _ _ _ _ => da_2 (by unfold cLl; omega) (by omega) (by omega))⟩
    | exact hQ _ _ ⟨rfl, hd2, dA_if hA (fun a b _ _ _ _ => da_1 (by unfold cLl; omega) (by omega) (by omega)) (fun k c j _ _ _ _ _ _ => da_1 (by unfold cLl; omega) (by omega) (by omega))⟩
    | exact hQ _ _ ⟨rfl, h, dA_if dA_re (fun a b _ _ _ _ => da_0 (by unfold cLl; omega) (by omega) (by omega)) (fun k c j _ _ _ _ _ _ => da_0 (by unfold cLl; omega) (by omega) (by omega))⟩
