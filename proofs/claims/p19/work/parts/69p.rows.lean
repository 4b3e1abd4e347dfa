/-! rows of longs -/
theorem and63_t : (List.range 252).all (fun k => decide ((Int32.ofInt (k : Int) &&& Int32.ofInt 63).toInt = ((k % 64 : Nat) : Int))) = true := by decide +kernel
theorem and63 {x z : Int} (x0 : 0 ≤ x) (x1 : x ≤ 251) (e : z = (Int32.ofInt x &&& Int32.ofInt 63).toInt) : z = x % 64 := by
  obtain ⟨n, rfl⟩ := Int.eq_ofNat_of_zero_le x0
  have h := of_decide_eq_true (List.all_eq_true.mp and63_t n (List.mem_range.mpr (by omega)))
  rw [h] at e
  omega
def rwB (l : Nat → Int → Int64) (P : Nat) (n b : Int) : Prop := fX (l P (4 * n + b / 64)) (b % 64)
/-- no bits behind the last node -/
def rgW (l : Nat → Int → Int64) (P : Nat) : Prop := ∀ n b, 0 ≤ n → n ≤ 251 → 252 ≤ b → b ≤ 255 → ¬ rwB l P n b
theorem rw_put {l l' : Nat → Int → Int64} {P : Nat} {n x : Int} (n0 : 0 ≤ n) (x0 : 0 ≤ x) (x1 : x ≤ 255) (e : ∀ i, l' P i = if i = 4 * n + x / 64 then l P (4 * n + x / 64) ||| (Int64.ofNat 1 <<< ((Int32.ofInt (x % 64)).toInt64 &&& 63)) else l P i) : ∀ a b, 0 ≤ a → 0 ≤ b → b ≤ 255 → (rwB l' P a b ↔ rwB l P a b ∨ (a = n ∧ b = x)) := by
  intro a b a0 b0 b1
  unfold rwB
  rw [e]
  by_cases q : 4 * a + b / 64 = 4 * n + x / 64
  · rw [if_pos q, ← q, fX_or, fX_one (by omega) (by omega)]
    constructor
    · rintro (h | h)
      · exact Or.inl h
      · exact Or.inr ⟨by omega, by omega⟩
    · rintro (h | h)
      · exact Or.inl h
      · exact Or.inr (by omega)
  · rw [if_neg q]
    exact or_no (fun h => q (by rw [h.1, h.2]))
theorem rgW_put {l l' : Nat → Int → Int64} {P : Nat} {n x : Int} (x1 : x ≤ 251) (h : rgW l P) (hp : ∀ a b, 0 ≤ a → 0 ≤ b → b ≤ 255 → (rwB l' P a b ↔ rwB l P a b ∨ (a = n ∧ b = x))) : rgW l' P := by
  intro a b a0 a1 b0 b1 q
  rcases (hp a b a0 (by omega) b1).mp q with q | q
  · exact h a b a0 a1 b0 b1 q
  · omega

set_option maxHeartbeats 8000000 in
set_option maxRecDepth 20000 in
theorem k173x60 {Z : sm_Z} (hZ : Z.2.2.2 = tb_N) (m : wk_M) (n x : Int) (n0 : 0 ≤ n) (n1 : n ≤ 251) (x0 : 0 ≤ x) (x1 : x ≤ 251) : wC Z 1 173 [] [.inr (.inl 60), .inl n, .inl x] m (fun r m' => ∃ v : Int, r = some (.inl v) ∧ m' = m ∧ ((v = 1 ∧ rwB m.2 60 n x) ∨ (v = 0 ∧ ¬ rwB m.2 60 n x))) := by
  refine wC.gen fun Q hQ => wk_E hZ (by exact rfl) [] rfl (fun _ _ => trivial) fun hr hs => ?_
  have e1 : ab_lo = -2147483648 := rfl
  have e2 : ab_hi = 2147483647 := rfl
  repeat' first | (intro z hz zl zh hq; have e := hq rfl (by omega) (by omega); subst e; clear hz hq) | (intro z hz zl zh h1 h2; have e := and63 (by omega) (by omega) hz; subst e; clear hz h1 h2) | (intro h; exact absurd h (by decide)) | (intro h; exact absurd rfl h) | refine And.intro ?_ ?_ | intro _ | refine Or.inl ⟨by omega, by omega, ?_⟩ | refine Or.inr ?_ | exact trivial
  all_goals first | omega | exact hQ _ _ ⟨_, rfl, rfl, Or.inl ⟨rfl, (fX_cmp (by omega) (by omega) (by assumption)).mp (by omega)⟩⟩ | exact hQ _ _ ⟨_, rfl, rfl, Or.inr ⟨rfl, fun q => absurd ((fX_cmp (by omega) (by omega) (by assumption)).mpr q) (by omega)⟩⟩

set_option maxHeartbeats 8000000 in
set_option maxRecDepth 20000 in
theorem k173x63 {Z : sm_Z} (hZ : Z.2.2.2 = tb_N) (m : wk_M) (x : Int) (x0 : 0 ≤ x) (x1 : x ≤ 251) : wC Z 1 173 [] [.inr (.inl 63), .inl 0, .inl x] m (fun r m' => ∃ v : Int, r = some (.inl v) ∧ m' = m ∧ ((v = 1 ∧ rwB m.2 63 0 x) ∨ (v = 0 ∧ ¬ rwB m.2 63 0 x))) := by
  refine wC.gen fun Q hQ => wk_E hZ (by exact rfl) [] rfl (fun _ _ => trivial) fun hr hs => ?_
  have e1 : ab_lo = -2147483648 := rfl
  have e2 : ab_hi = 2147483647 := rfl
  repeat' first | (intro z hz zl zh hq; have e := hq rfl (by omega) (by omega); subst e; clear hz hq) | (intro z hz zl zh h1 h2; have e := and63 (by omega) (by omega) hz; subst e; clear hz h1 h2) | (intro h; exact absurd h (by decide)) | (intro h; exact absurd rfl h) | refine And.intro ?_ ?_ | intro _ | refine Or.inl ⟨by omega, by omega, ?_⟩ | refine Or.inr ?_ | exact trivial
  all_goals first | omega | exact hQ _ _ ⟨_, rfl, rfl, Or.inl ⟨rfl, (fX_cmp (by omega) (by omega) (by assumption)).mp (by omega)⟩⟩ | exact hQ _ _ ⟨_, rfl, rfl, Or.inr ⟨rfl, fun q => absurd ((fX_cmp (by omega) (by omega) (by assumption)).mpr q) (by omega)⟩⟩

set_option maxHeartbeats 8000000 in
set_option maxRecDepth 20000 in
theorem k173x64 {Z : sm_Z} (hZ : Z.2.2.2 = tb_N) (m : wk_M) (x : Int) (x0 : 0 ≤ x) (x1 : x ≤ 251) : wC Z 1 173 [] [.inr (.inl 64), .inl 0, .inl x] m (fun r m' => ∃ v : Int, r = some (.inl v) ∧ m' = m ∧ ((v = 1 ∧ rwB m.2 64 0 x) ∨ (v = 0 ∧ ¬ rwB m.2 64 0 x))) := by
  refine wC.gen fun Q hQ => wk_E hZ (by exact rfl) [] rfl (fun _ _ => trivial) fun hr hs => ?_
  have e1 : ab_lo = -2147483648 := rfl
  have e2 : ab_hi = 2147483647 := rfl
  repeat' first | (intro z hz zl zh hq; have e := hq rfl (by omega) (by omega); subst e; clear hz hq) | (intro z hz zl zh h1 h2; have e := and63 (by omega) (by omega) hz; subst e; clear hz h1 h2) | (intro h; exact absurd h (by decide)) | (intro h; exact absurd rfl h) | refine And.intro ?_ ?_ | intro _ | refine Or.inl ⟨by omega, by omega, ?_⟩ | refine Or.inr ?_ | exact trivial
  all_goals first | omega | exact hQ _ _ ⟨_, rfl, rfl, Or.inl ⟨rfl, (fX_cmp (by omega) (by omega) (by assumption)).mp (by omega)⟩⟩ | exact hQ _ _ ⟨_, rfl, rfl, Or.inr ⟨rfl, fun q => absurd ((fX_cmp (by omega) (by omega) (by assumption)).mpr q) (by omega)⟩⟩

set_option maxHeartbeats 8000000 in
set_option maxRecDepth 20000 in
theorem k169x60 {Z : sm_Z} (hZ : Z.2.2.2 = tb_N) (m : wk_M) (n x : Int) (n0 : 0 ≤ n) (n1 : n ≤ 251) (x0 : 0 ≤ x) (x1 : x ≤ 251) : wC Z 1 169 [60] [.inr (.inl 60), .inl n, .inl x] m (fun r m' => r = none ∧ m'.1 = m.1 ∧ ∀ a b, 0 ≤ a → 0 ≤ b → b ≤ 255 → (rwB m'.2 60 a b ↔ rwB m.2 60 a b ∨ (a = n ∧ b = x))) := by
  refine wC.gen fun Q hQ => wk_E hZ (by exact rfl) [] rfl (fun _ _ => trivial) fun hr hs => ?_
  have e1 : ab_lo = -2147483648 := rfl
  have e2 : ab_hi = 2147483647 := rfl
  repeat' first | (intro z hz zl zh hq; have e := hq rfl (by omega) (by omega); subst e; clear hz hq) | (intro z hz zl zh h1 h2; have e := and63 (by omega) (by omega) hz; subst e; clear hz h1 h2) | (intro h; exact absurd h (by decide)) | (intro h; exact absurd rfl h) | refine And.intro ?_ ?_ | intro _ | refine Or.inl ⟨by omega, by omega, ?_⟩ | refine Or.inr ?_ | exact trivial
  all_goals first | omega | exact hQ _ _ ⟨rfl, rfl, rw_put n0 x0 (by omega) (fun _ => by simp (decide := true) only [wk_ul_at, wk_u_2, wk_ul_1, and_self, and_true, true_and, and_false, false_and, if_true, if_false] <;> rfl)⟩

set_option maxHeartbeats 8000000 in
set_option maxRecDepth 20000 in
theorem k169x61 {Z : sm_Z} (hZ : Z.2.2.2 = tb_N) (m : wk_M) (n x : Int) (n0 : 0 ≤ n) (n1 : n ≤ 251) (x0 : 0 ≤ x) (x1 : x ≤ 251) : wC Z 1 169 [61] [.inr (.inl 61), .inl n, .inl x] m (fun r m' => r = none ∧ m'.1 = m.1 ∧ ∀ a b, 0 ≤ a → 0 ≤ b → b ≤ 255 → (rwB m'.2 61 a b ↔ rwB m.2 61 a b ∨ (a = n ∧ b = x))) := by
  refine wC.gen fun Q hQ => wk_E hZ (by exact rfl) [] rfl (fun _ _ => trivial) fun hr hs => ?_
  have e1 : ab_lo = -2147483648 := rfl
  have e2 : ab_hi = 2147483647 := rfl
  repeat' first | (intro z hz zl zh hq; have e := hq rfl (by omega) (by omega); subst e; clear hz hq) | (intro z hz zl zh h1 h2; have e := and63 (by omega) (by omega) hz; subst e; clear hz h1 h2) | (intro h; exact absurd h (by decide)) | (intro h; exact absurd rfl h) | refine And.intro ?_ ?_ | intro _ | refine Or.inl ⟨by omega, by omega, ?_⟩ | refine Or.inr ?_ | exact trivial
  all_goals first | omega | exact hQ _ _ ⟨rfl, rfl, rw_put n0 x0 (by omega) (fun _ => by simp (decide := true) only [wk_ul_at, wk_u_2, wk_ul_1, and_self, and_true, true_and, and_false, false_and, if_true, if_false] <;> rfl)⟩

set_option maxHeartbeats 8000000 in
set_option maxRecDepth 20000 in
theorem k169x62 {Z : sm_Z} (hZ : Z.2.2.2 = tb_N) (m : wk_M) (n x : Int) (n0 : 0 ≤ n) (n1 : n ≤ 251) (x0 : 0 ≤ x) (x1 : x ≤ 251) : wC Z 1 169 [62] [.inr (.inl 62), .inl n, .inl x] m (fun r m' => r = none ∧ m'.1 = m.1 ∧ ∀ a b, 0 ≤ a → 0 ≤ b → b ≤ 255 → (rwB m'.2 62 a b ↔ rwB m.2 62 a b ∨ (a = n ∧ b = x))) := by
  refine wC.gen fun Q hQ => wk_E hZ (by exact rfl) [] rfl (fun _ _ => trivial) fun hr hs => ?_
  have e1 : ab_lo = -2147483648 := rfl
  have e2 : ab_hi = 2147483647 := rfl
  repeat' first | (intro z hz zl zh hq; have e := hq rfl (by omega) (by omega); subst e; clear hz hq) | (intro z hz zl zh h1 h2; have e := and63 (by omega) (by omega) hz; subst e; clear hz h1 h2) | (intro h; exact absurd h (by decide)) | (intro h; exact absurd rfl h) | refine And.intro ?_ ?_ | intro _ | refine Or.inl ⟨by omega, by omega, ?_⟩ | refine Or.inr ?_ | exact trivial
  all_goals first | omega | exact hQ _ _ ⟨rfl, rfl, rw_put n0 x0 (by omega) (fun _ => by simp (decide := true) only [wk_ul_at, wk_u_2, wk_ul_1, and_self, and_true, true_and, and_false, false_and, if_true, if_false] <;> rfl)⟩

set_option maxHeartbeats 8000000 in
set_option maxRecDepth 20000 in
theorem k169x63 {Z : sm_Z} (hZ : Z.2.2.2 = tb_N) (m : wk_M) (x : Int) (x0 : 0 ≤ x) (x1 : x ≤ 251) : wC Z 1 169 [63] [.inr (.inl 63), .inl 0, .inl x] m (fun r m' => r = none ∧ m'.1 = m.1 ∧ ∀ a b, 0 ≤ a → 0 ≤ b → b ≤ 255 → (rwB m'.2 63 a b ↔ rwB m.2 63 a b ∨ (a = 0 ∧ b = x))) := by
  refine wC.gen fun Q hQ => wk_E hZ (by exact rfl) [] rfl (fun _ _ => trivial) fun hr hs => ?_
  have e1 : ab_lo = -2147483648 := rfl
  have e2 : ab_hi = 2147483647 := rfl
  repeat' first | (intro z hz zl zh hq; have e := hq rfl (by omega) (by omega); subst e; clear hz hq) | (intro z hz zl zh h1 h2; have e := and63 (by omega) (by omega) hz; subst e; clear hz h1 h2) | (intro h; exact absurd h (by decide)) | (intro h; exact absurd rfl h) | refine And.intro ?_ ?_ | intro _ | refine Or.inl ⟨by omega, by omega, ?_⟩ | refine Or.inr ?_ | exact trivial
  all_goals first | omega | exact hQ _ _ ⟨rfl, rfl, rw_put (by decide) x0 (by omega) (fun _ => by simp (decide := true) only [wk_ul_at, wk_u_2, wk_ul_1, and_self, and_true, true_and, and_false, false_and, if_true, if_false] <;> rfl)⟩

set_option maxHeartbeats 8000000 in
set_option maxRecDepth 20000 in
theorem k171x {Z : sm_Z} (hZ : Z.2.2.2 = tb_N) (m : wk_M) (n : Int) (n0 : 0 ≤ n) (n1 : n ≤ 251) : wC Z 2 171 [63] [.inr (.inl 46), .inl n] m (fun r m' => r = none ∧ m'.1 = m.1 ∧ ∀ b, 0 ≤ b → b ≤ 255 → (rwB m'.2 63 0 b ↔ b = n)) := by
  obtain ⟨J0, hJ0⟩ : ∃ J : Int →Int → wk_M → Prop, ∀ na k m', J na k m' ↔ (n = na ∧ (0 ≤ k ∧ k ≤ 4) ∧ m'.1 = m.1 ∧ ∀ i, 0 ≤ i → i < k → m'.2 63 i = Int64.ofNat 0) := ⟨_, fun _ _ _ => Iff.rfl⟩
  refine wC.gen fun Q hQ => wk_E hZ (by exact rfl) [(2, [(3, 46), (1, 0), (1, 0)], fun vs _ m' => (match vs with
    | [na, k] => J0 na k m'
    | _ => False), fun vs _ m' => (match vs with
    | [na, k] => (4 - k : Int).toNat
    | _ => 0))] rfl (fun hr hs => ⟨?_, trivial⟩) (fun hr hs => ?_)
  · have e1 : ab_lo = -2147483648 := rfl
    have e2 : ab_hi = 2147483647 := rfl
    intro m2 hr2 hf2 na nal nah k kl kh hI
    have hI := (hJ0 _ _ _).mp hI
    obtain ⟨rfl, ⟨k0, k1⟩, h1, hz⟩ := hI
    repeat' first | (intro h; exact absurd h (by decide)) | (intro h; exact absurd rfl h) | refine And.intro ?_ ?_ | intro _ | refine Or.inl ⟨by omega, by omega, ?_⟩ | refine Or.inr ?_ | exact trivial | (refine wk_use (k169x63 hZ _ _ (by omega) (by omega)) rfl rfl ?_; rintro - _ _ - hfr - ⟨rfl, h2, hp⟩; refine Or.inr ?_)
    all_goals first
      | omega
      | (show (4 - (_ : Int) : Int).toNat < (4 - (_ : Int) : Int).toNat; omega)
      | exact hQ _ _ ⟨rfl, h2.trans h1, fun b b0 b1 => (hp 0 b (by decide) b0 b1).trans ⟨fun q => q.elim (fun q => by unfold rwB at q; rw [hz _ (by omega) (by omega)] at q; exact absurd q fX_no) (fun q => q.2), fun q => Or.inr ⟨rfl, q⟩⟩⟩
      | (show J0 _ _ _; refine (hJ0 _ _ _).mpr ⟨rfl, ⟨by omega, by omega⟩, h1, fun i i0 i1 => by simp (decide := true) only [wk_ul_at, wk_u_2, wk_ul_1, and_self, and_true, true_and, and_false, false_and, if_true, if_false]; (by_cases e : i = k; (rw [if_pos e]; try rfl); (rw [if_neg e]; exact hz i i0 (by omega)))⟩)
  · have e1 : ab_lo = -2147483648 := rfl
    have e2 : ab_hi = 2147483647 := rfl
    repeat' first | (intro h; exact absurd h (by decide)) | (intro h; exact absurd rfl h) | refine And.intro ?_ ?_ | intro _ | refine Or.inl ⟨by omega, by omega, ?_⟩ | refine Or.inr ?_ | exact trivial
    all_goals first
      | omega
      | trivial
      | (show J0 _ _ _; refine (hJ0 _ _ _).mpr ⟨rfl, ⟨by omega, by omega⟩, rfl, fun i i0 i1 => by omega⟩)

/-! floods -/
def flR (l : Nat → Int → Int64) (P Q : Nat) (n c : Int) : Prop := rwB l P n c ∨ rwB l Q n c
def flQ (b : Int) (l : Nat → Int → Int64) (P Q : Nat) (c d : Int) : Prop := ((0 ≤ c ∧ c ≤ 251) ∧ 0 ≤ d ∧ d ≤ 251) ∧ ((b = 0 ∧ flR l P Q c d) ∨ (¬ b = 0 ∧ flR l P Q d c))
def flX (l : Nat → Int → Int64) (c : Int) : Prop := (0 ≤ c ∧ c ≤ 251) ∧ rwB l 63 0 c
def fl0 (l : Nat → Int → Int64) : Prop := ∀ b, 252 ≤ b → b ≤ 255 → ¬ rwB l 63 0 b
/-- a flood under way -/
def flT (b : Int) (l : Nat → Int → Int64) (P Q : Nat) (l' : Nat → Int → Int64) : Prop := (∀ c, flX l c → flX l' c) ∧ (∀ c, flX l' c → rs (flQ b l P Q) (flX l) nS c) ∧ fl0 l'
noncomputable def flC (l : Nat → Int → Int64) : Nat := cnP (fun n => flX l (n : Int)) 252
/-- a row is served -/
def flV (b : Int) (l : Nat → Int → Int64) (P Q : Nat) (l' : Nat → Int → Int64) (x : Int) : Prop := (b = 0 → flX l' x → ∀ d, 0 ≤ d → d ≤ 251 → flR l P Q x d → flX l' d) ∧ (¬ b = 0 → (∃ d, flX l' d ∧ flR l P Q x d) → flX l' x)
theorem flT_0 {b : Int} {l : Nat → Int → Int64} {P Q : Nat} (h : fl0 l) : flT b l P Q l := ⟨fun _ q => q, fun _ q => rs_in q, h⟩
theorem fl_fin {b : Int} {l : Nat → Int → Int64} {P Q : Nat} {l' : Nat → Int → Int64} (h : flT b l P Q l') (hv : ∀ x, 0 ≤ x → x ≤ 251 → flV b l P Q l' x) : ∀ c, flX l' c ↔ rs (flQ b l P Q) (flX l) nS c := by
  intro c
  refine ⟨h.2.1 c, fun q => q (flX l') h.1 (fun i k hi _ hs => ?_)⟩
  obtain ⟨⟨⟨i0, i1⟩, k0, k1⟩, ⟨e, q⟩ | ⟨e, q⟩⟩ := hs
  · exact (hv i i0 i1).1 e hi k k0 k1 q
  · exact (hv k k0 k1).2 e ⟨i, hi, q⟩
/-- the set with what is new of a word -/
theorem flX_w {l l' : Nat → Int → Int64} {k : Int} {T : Int64} (e : ∀ i, l' 63 i = if i = k then l 63 k ||| T else l 63 i) {c : Int} (c0 : 0 ≤ c) (c1 : c ≤ 255) : rwB l' 63 0 c ↔ rwB l 63 0 c ∨ (c / 64 = k ∧ fX T (c % 64)) := by
  unfold rwB
  rw [e]
  by_cases q : 4 * 0 + c / 64 = k
  · rw [if_pos q, ← q, fX_or]
    have e2 : (4 * 0 + c / 64 : Int) = c / 64 := by omega
    rw [e2]
    exact ⟨fun z => z.imp id (fun z => ⟨rfl, z⟩), fun z => z.imp id (fun z => z.2)⟩
  · rw [if_neg q]
    exact or_no (fun z => q (by omega))
theorem fl_word {b : Int} {l : Nat → Int → Int64} {P Q : Nat} {l' l'' : Nat → Int → Int64} {k n : Int} {T : Int64} (k0 : 0 ≤ k) (k1 : k < 4) (n0 : 0 ≤ n) (n1 : n ≤ 251) (h : flT b l P Q l') (hw : rgW l P ∧ rgW l Q) (e : ∀ i, l'' 63 i = if i = k then l' 63 k ||| T else l' 63 i) (hT : ∀ c, 0 ≤ c → c ≤ 255 → c / 64 = k → (fX T (c % 64) ↔ (b = 0 ∧ flR l P Q n c) ∨ (¬ b = 0 ∧ c = n))) (ha : (b = 0 ∧ flX l' n) ∨ (¬ b = 0 ∧ ∃ d, flX l' d ∧ flR l P Q n d)) : flT b l P Q l'' ∧ (∀ c, flX l' c → flX l'' c) ∧ (¬ l'' 63 k = l' 63 k → flC l' < flC l'') ∧ (∀ c, 0 ≤ c → c ≤ 251 → c / 64 = k → ((b = 0 ∧ flR l P Q n c) ∨ (¬ b = 0 ∧ c = n)) → flX l'' c) := by
  have mo : ∀ c, flX l' c → flX l'' c := fun c q => ⟨q.1, (flX_w e q.1.1 (by have := q.1.2; omega)).mpr (Or.inl q.2)⟩
  have ad : ∀ c, 0 ≤ c → c ≤ 251 → c / 64 = k → ((b = 0 ∧ flR l P Q n c) ∨ (¬ b = 0 ∧ c = n)) → flX l'' c := fun c c0 c1 ck q => ⟨⟨c0, c1⟩, (flX_w e c0 (by omega)).mpr (Or.inr ⟨ck, (hT c c0 (by omega) ck).mpr q⟩)⟩
  have hi : ∀ c, 252 ≤ c → c ≤ 255 → ¬ (c / 64 = k ∧ fX T (c % 64)) := by
    rintro c c0 c1 ⟨ck, q⟩
    rcases (hT c (by omega) c1 ck).mp q with ⟨_, q | q⟩ | ⟨_, q⟩
    · exact hw.1 n c n0 n1 c0 c1 q
    · exact hw.2 n c n0 n1 c0 c1 q
    · omega
  refine ⟨⟨fun c q => mo c (h.1 c q), fun c q => ?_, fun c c0 c1 q => ?_⟩, mo, fun hne => ?_, ad⟩
  · rcases (flX_w e q.1.1 (by have := q.1.2; omega)).mp q.2 with z | ⟨ck, z⟩
    · exact h.2.1 c ⟨q.1, z⟩
    · rcases (hT c q.1.1 (by have := q.1.2; omega) ck).mp z with ⟨eb, z⟩ | ⟨eb, z⟩
      · rcases ha with ⟨-, ha⟩ | ⟨nb, -⟩
        · exact rs_go (h.2.1 n ha) id ⟨⟨ha.1, q.1⟩, Or.inl ⟨eb, z⟩⟩
        · exact absurd eb nb
      · rcases ha with ⟨nb, -⟩ | ⟨-, d, hd, hr⟩
        · exact absurd nb eb
        · rw [z]
          exact rs_go (h.2.1 d hd) id ⟨⟨hd.1, n0, n1⟩, Or.inr ⟨eb, hr⟩⟩
  · rcases (flX_w e (by omega) c1).mp q with z | z
    · exact h.2.2 c c0 c1 z
    · exact hi c c0 c1 z
  · have ek : l'' 63 k = l' 63 k ||| T := by rw [e, if_pos rfl]
    rw [ek] at hne
    obtain ⟨j, j1, hx, hy⟩ := bitL_ne hne (fun j _ q => by rw [bitL_or, q]; rfl)
    have fy : fX (l' 63 k ||| T) (j : Int) := ⟨hy, by omega, by omega⟩
    have fx : ¬ fX (l' 63 k) (j : Int) := fun z => by
      rw [z.1] at hx
      cases hx
    have c64 : (k * 64 + (j : Int)) / 64 = k := by omega
    have m64 : (k * 64 + (j : Int)) % 64 = (j : Int) := by omega
    have fT : fX T (j : Int) := (fX_or.mp fy).resolve_left fx
    have c251 : k * 64 + (j : Int) ≤ 251 := by
      apply Classical.byContradiction
      intro z
      exact hi (k * 64 + (j : Int)) (by omega) (by omega) ⟨c64, by rw [m64]; exact fT⟩
    have new : flX l'' (k * 64 + (j : Int)) := ad _ (by omega) c251 c64 ((hT _ (by omega) (by omega) c64).mp (by rw [m64]; exact fT))
    have old : ¬ flX l' (k * 64 + (j : Int)) := fun z => by
      have z2 := z.2
      unfold rwB at z2
      rw [c64, m64] at z2
      have e2 : (4 * 0 + k : Int) = k := by omega
      rw [e2] at z2
      exact fx z2
    obtain ⟨q, hq⟩ := Int.eq_ofNat_of_zero_le (show 0 ≤ k * 64 + (j : Int) by omega)
    rw [hq] at new old
    exact cnP_lt (j := q) old new 252 (by omega) (fun _ _ => mo _)
