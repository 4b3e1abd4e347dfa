theorem rs_iff {S S' : Int → Int → Prop} {X X' stop stop' : Int → Prop} (hS : ∀ i k, S i k ↔ S' i k) (hX : ∀ i, X i ↔ X' i) (ht : ∀ i, stop i ↔ stop' i) (j : Int) : rs S X stop j ↔ rs S' X' stop' j := by
  have e1 : S = S' := funext fun i => funext fun k => propext (hS i k)
  have e2 : X = X' := funext fun i => propext (hX i)
  have e3 : stop = stop' := funext fun i => propext (ht i)
  rw [e1, e2, e3]
/-- the class's ways of instructions that are there -/
def Scc (f : Nat → Int → Int) (i j : Int) : Prop := (0 ≤ i ∧ i < f 1 (4 : Nat)) ∧ Sc f i j
def dfc (f : Nat → Int → Int) (x i : Int) : Prop := (0 ≤ i ∧ i < f 1 (4 : Nat)) ∧ (f 2 i ≤ 7 ∨ (13 ≤ f 2 i ∧ f 2 i ≤ 16)) ∧ f 3 i = x
/-- the ways stand -/
def wO (f : Nat → Int → Int) (l : Nat → Int → Int64) (i : Int) : Prop := ∀ j, 0 ≤ j → j < i → ∀ k, fX (l 20 j) k ↔ Sc f j k
def wD (f : Nat → Int → Int) (l : Nat → Int → Int64) (i : Int) : Prop := ∀ x, 0 ≤ x → x ≤ 3 → ∀ k, fX (l 21 x) k ↔ (k < i ∧ dfc f x k)
def wR (f : Nat → Int → Int) (l : Nat → Int → Int64) (i : Int) : Prop := ∀ j, 0 ≤ j → j < i → (∀ k, fX (l 22 j) k ↔ rs (Scc f) (Scc f j) nS k) ∧ (dfc f (f 3 j) j → ∀ k, fX (l 23 j) k ↔ rs (Scc f) (Scc f j) (dfc f (f 3 j)) k)
def wB (f : Nat → Int → Int) (l : Nat → Int → Int64) (p : Int) : Prop := ∀ q x, 0 ≤ q → q < p → 0 ≤ x → x ≤ 1 → ∀ k, fX (l 24 (q * 2 + x)) k ↔ rs (Scc f) (fun j => j = f 10 q) (dfc f x) k

set_option maxHeartbeats 8000000 in
set_option maxRecDepth 20000 in
theorem k53x {Z : sm_Z} (hZ : Z.2.2.2 = tb_N) (m : wk_M) (i : Int) (i0 : 0 ≤ i) (i1 : i ≤ 31) (x : Int) (x0 : 0 ≤ x) (x1 : x ≤ 63) : wC Z 2 53 [] [.inr (.inl 19), .inl i, .inl x] m (fun r m' => ∃ v : Int, r = some (.inl v) ∧ m' = m ∧ ((v = 1 ∧ fX (m.2 23 i) x) ∨ (v = 0 ∧ ¬ fX (m.2 23 i) x))) := by
  refine wC.gen fun Q hQ => wk_E hZ (by exact rfl) [] rfl (fun _ _ => trivial) fun hr hs => ?_
  have e1 : ab_lo = -2147483648 := rfl
  have e2 : ab_hi = 2147483647 := rfl
  repeat' first | refine And.intro ?_ ?_ | intro _ | refine Or.inl ⟨by omega, by omega, ?_⟩ | refine Or.inr ?_ | exact trivial | (refine wk_use (k43x hZ _ _ _ (by omega) (by omega)) rfl rfl ?_; rintro - _ _ - - - ⟨_, rfl, hm, ⟨rfl, hb⟩ | ⟨rfl, hb⟩⟩ <;> refine Or.inl ⟨[], hm, ?_⟩ <;> clear hm)
  all_goals first | omega | exact hQ _ _ ⟨_, rfl, rfl, Or.inl ⟨rfl, hb, x0, x1⟩⟩ | exact hQ _ _ ⟨_, rfl, rfl, Or.inr ⟨rfl, fun z => by rw [z.1] at hb; cases hb⟩⟩

set_option maxHeartbeats 8000000 in
set_option maxRecDepth 20000 in
theorem k56x {Z : sm_Z} (hZ : Z.2.2.2 = tb_N) (m : wk_M) (i : Int) (i0 : 0 ≤ i) (i1 : i ≤ 31) (x : Int) (x0 : 0 ≤ x) (x1 : x ≤ 63) : wC Z 2 56 [] [.inr (.inl 19), .inl i, .inl x] m (fun r m' => ∃ v : Int, r = some (.inl v) ∧ m' = m ∧ ((v = 1 ∧ fX (m.2 22 i) x) ∨ (v = 0 ∧ ¬ fX (m.2 22 i) x))) := by
  refine wC.gen fun Q hQ => wk_E hZ (by exact rfl) [] rfl (fun _ _ => trivial) fun hr hs => ?_
  have e1 : ab_lo = -2147483648 := rfl
  have e2 : ab_hi = 2147483647 := rfl
  repeat' first | refine And.intro ?_ ?_ | intro _ | refine Or.inl ⟨by omega, by omega, ?_⟩ | refine Or.inr ?_ | exact trivial | (refine wk_use (k43x hZ _ _ _ (by omega) (by omega)) rfl rfl ?_; rintro - _ _ - - - ⟨_, rfl, hm, ⟨rfl, hb⟩ | ⟨rfl, hb⟩⟩ <;> refine Or.inl ⟨[], hm, ?_⟩ <;> clear hm)
  all_goals first | omega | exact hQ _ _ ⟨_, rfl, rfl, Or.inl ⟨rfl, hb, x0, x1⟩⟩ | exact hQ _ _ ⟨_, rfl, rfl, Or.inr ⟨rfl, fun z => by rw [z.1] at hb; cases hb⟩⟩

set_option maxHeartbeats 8000000 in
set_option maxRecDepth 20000 in
theorem k54x {Z : sm_Z} (hZ : Z.2.2.2 = tb_N) (m : wk_M) (p t : Int) (p0 : 0 ≤ p) (p1 : p ≤ 3) (t0 : 0 ≤ t) (t1 : t ≤ 1) (x : Int) (x0 : 0 ≤ x) (x1 : x ≤ 63) : wC Z 2 54 [] [.inr (.inl 19), .inl p, .inl t, .inl x] m (fun r m' => ∃ v : Int, r = some (.inl v) ∧ m' = m ∧ ((v = 1 ∧ fX (m.2 24 (p * 2 + t)) x) ∨ (v = 0 ∧ ¬ fX (m.2 24 (p * 2 + t)) x))) := by
  refine wC.gen fun Q hQ => wk_E hZ (by exact rfl) [] rfl (fun _ _ => trivial) fun hr hs => ?_
  have e1 : ab_lo = -2147483648 := rfl
  have e2 : ab_hi = 2147483647 := rfl
  repeat' first | refine And.intro ?_ ?_ | intro _ | refine Or.inl ⟨by omega, by omega, ?_⟩ | refine Or.inr ?_ | exact trivial | (refine wk_use (k43x hZ _ _ _ (by omega) (by omega)) rfl rfl ?_; rintro - _ _ - - - ⟨_, rfl, hm, ⟨rfl, hb⟩ | ⟨rfl, hb⟩⟩ <;> refine Or.inl ⟨[], hm, ?_⟩ <;> clear hm)
  all_goals first | omega | exact hQ _ _ ⟨_, rfl, rfl, Or.inl ⟨rfl, hb, x0, x1⟩⟩ | exact hQ _ _ ⟨_, rfl, rfl, Or.inr ⟨rfl, fun z => by rw [z.1] at hb; cases hb⟩⟩

set_option maxHeartbeats 8000000 in
set_option maxRecDepth 20000 in
theorem k41x {Z : sm_Z} (hZ : Z.2.2.2 = tb_N) (m : wk_M) (i : Int) (i0 : 0 ≤ i) (i1 : i ≤ 31) : wC Z 2 41 [] [.inr (.inl 1), .inl i] m (fun r m' => ∃ v : Int, r = some (.inl v) ∧ m' = m ∧ ((v = 1 ∧ (m.1 2 i ≤ 7 ∨ (13 ≤ m.1 2 i ∧ m.1 2 i ≤ 16))) ∨ (v = 0 ∧ ¬ (m.1 2 i ≤ 7 ∨ (13 ≤ m.1 2 i ∧ m.1 2 i ≤ 16))))) := by
  refine wC.gen fun Q hQ => wk_E hZ (by exact rfl) [] rfl (fun _ _ => trivial) fun hr hs => ?_
  have e1 : ab_lo = -2147483648 := rfl
  have e2 : ab_hi = 2147483647 := rfl
  repeat' first | (intro h; exact absurd h (by decide)) | (intro h; exact absurd rfl h) | refine And.intro ?_ ?_ | intro _ | refine Or.inl ⟨by omega, by omega, ?_⟩ | refine Or.inr ?_ | exact trivial | (refine wk_use (k14 hZ _ _) rfl rfl ?_; rintro - _ _ - - - ⟨_, rfl, hm, ⟨rfl, _⟩ | ⟨rfl, _⟩⟩ <;> refine Or.inl ⟨[], hm, ?_⟩ <;> clear hm)
  all_goals first | omega | exact hQ _ _ ⟨_, rfl, rfl, by omega⟩

/-- the class's tables as a structure that stands -/
def yWc (f : Nat → Int → Int) : Prop := yW (f 2) (f 1 (4 : Nat)) (f 1 (11 : Nat)) (f 6) (f 7) (f 8) (f 9) (f 10) (f 11)
theorem Sc_bd {f : Nat → Int → Int} (hY : yWc f) (c32 : f 1 (4 : Nat) ≤ 32) {i j : Int} (i0 : 0 ≤ i) (i1 : i < f 1 (4 : Nat)) (h : Sc f i j) : 0 ≤ j ∧ j ≤ 32 := by
  obtain ⟨-, y2, y3, -⟩ := hY
  obtain ⟨q2, q10, q12⟩ := y2 i i0 i1
  have q3 := y3 i i0 i1
  clear y2
  unfold Sc at h
  rcases h with ⟨o, h⟩ | ⟨o, h⟩ | ⟨o, h⟩ | ⟨o, h⟩ | ⟨_, _, _, _, _, h⟩
  · obtain ⟨⟨a, b⟩, -, -, c⟩ := q3 (Or.inl o)
    clear y3 q3 q2
    omega
  · obtain ⟨⟨a, b⟩, -, -, c⟩ := q3 (Or.inr o)
    clear y3 q3 q2
    omega
  · have z := q10 o
    rcases q2 with e | ⟨⟨a, b⟩, -, -⟩
    · omega
    · obtain ⟨⟨c, d⟩, -⟩ := y3 (f 6 i) a (by omega) (Or.inl z.2)
      clear y3 q3
      omega
  · have z := q12 o
    clear y3 q3
    omega
  · clear y3 q3 q2
    omega
theorem Sc_fr {W : List Nat} {m' m : wk_M} (h : wk_fr W m' m) (h2 : 2 ∉ W := by decide) (h6 : 6 ∉ W := by decide) (h7 : 7 ∉ W := by decide) (h8 : 8 ∉ W := by decide) : Sc m'.1 = Sc m.1 := by
  funext i j
  unfold Sc
  rw [(h 2 h2).1, (h 6 h6).1, (h 7 h7).1, (h 8 h8).1]
theorem wO_put {f : Nat → Int → Int} {l l' : Nat → Int → Int64} {i : Int} {y : Int64} (h : wO f l i) (hy : ∀ k, fX y k ↔ Sc f i k) (e : ∀ j, l' 20 j = if j = i then y else l 20 j) : wO f l' (i + 1) := by
  intro j j0 j1 k
  rw [e]
  by_cases q : j = i
  · rw [if_pos q, q]
    exact hy k
  · rw [if_neg q]
    exact h j j0 (by omega) k
theorem wO_same {f : Nat → Int → Int} {l l' : Nat → Int → Int64} {i : Int} (h : wO f l i) (e : ∀ j, l' 20 j = l 20 j) : wO f l' i := by
  intro j j0 j1 k
  rw [e]
  exact h j j0 j1 k
theorem wD_same {f : Nat → Int → Int} {l l' : Nat → Int → Int64} {i : Int} (h : wD f l i) (e : ∀ j, l' 21 j = l 21 j) : wD f l' i := by
  intro x x0 x1 k
  rw [e]
  exact h x x0 x1 k
theorem wR_same {f : Nat → Int → Int} {l l' : Nat → Int → Int64} {i : Int} (h : wR f l i) (e : ∀ j, l' 22 j = l 22 j) (e' : ∀ j, l' 23 j = l 23 j) : wR f l' i := by
  intro j j0 j1
  rw [e, e']
  exact h j j0 j1
theorem wD_zero {f : Nat → Int → Int} {l : Nat → Int → Int64} (h : ∀ i : Int, 0 ≤ i → i < ((4 : Nat) : Int) → l 21 i = Int64.ofNat 0) : wD f l 0 := by
  intro x x0 x1 k
  rw [h x x0 (by omega)]
  exact ⟨fun z => absurd z fX_no, fun z => by have := z.2.1.1; omega⟩
theorem wD_skip {f : Nat → Int → Int} {l l' : Nat → Int → Int64} {i : Int} (h : wD f l i) (n : ¬ (f 2 i ≤ 7 ∨ (13 ≤ f 2 i ∧ f 2 i ≤ 16))) (e : ∀ x, l' 21 x = l 21 x) : wD f l' (i + 1) := by
  intro x x0 x1 k
  rw [e, h x x0 x1 k]
  refine ⟨fun z => ⟨by omega, z.2⟩, fun z => ⟨?_, z.2⟩⟩
  by_cases q : k = i
  · rw [q] at z
    exact absurd z.2.2.1 n
  · omega
theorem wD_put {f : Nat → Int → Int} {l l' : Nat → Int → Int64} {i d : Int} (h : wD f l i) (i0 : 0 ≤ i) (i1 : i < f 1 (4 : Nat)) (i2 : i ≤ 31) (y : f 2 i ≤ 7 ∨ (13 ≤ f 2 i ∧ f 2 i ≤ 16)) (ed : f 3 i = d) (d0 : 0 ≤ d ∧ d ≤ 3) (e : ∀ x, l' 21 x = if x = d then l 21 d ||| (Int64.ofNat 1 <<< ((Int32.ofInt i).toInt64 &&& 63)) else l 21 x) : wD f l' (i + 1) := by
  intro x x0 x1 k
  rw [e]
  by_cases q : x = d
  · rw [if_pos q, fX_or, h d d0.1 d0.2 k, fX_one i0 (by omega), q]
    constructor
    · rintro (z | z)
      · exact ⟨by omega, z.2⟩
      · rw [z]
        exact ⟨by omega, ⟨i0, i1⟩, y, ed⟩
    · intro z
      by_cases w : k = i
      · exact Or.inr w
      · exact Or.inl ⟨by omega, z.2⟩
  · rw [if_neg q, h x x0 x1 k]
    refine ⟨fun z => ⟨by omega, z.2⟩, fun z => ⟨?_, z.2⟩⟩
    by_cases w : k = i
    · have := z.2.2.2
      rw [w, ed] at this
      exact absurd this.symm q
    · omega
theorem fS_eq {f : Nat → Int → Int} {l : Nat → Int → Int64} {m' : wk_M} {c : Int} (h : wO f l c) (hc : c = f 1 (4 : Nat)) (e1 : m'.1 1 (4 : Nat) = f 1 (4 : Nat)) (e20 : ∀ j, m'.2 20 j = l 20 j) : ∀ i k, fS m' i k ↔ Scc f i k := by
  intro i k
  unfold fS Scc
  rw [e1, e20]
  refine ⟨fun z => ⟨z.1, (h i z.1.1 (by omega) k).mp z.2⟩, fun z => ⟨z.1, (h i z.1.1 (by omega) k).mpr z.2⟩⟩
theorem wO_Scc {f : Nat → Int → Int} {l : Nat → Int → Int64} {c i : Int} (h : wO f l c) (hc : c = f 1 (4 : Nat)) (i0 : 0 ≤ i) (i1 : i < c) : ∀ k, fX (l 20 i) k ↔ Scc f i k := by
  intro k
  rw [h i i0 i1 k]
  exact ⟨fun z => ⟨⟨i0, by omega⟩, z⟩, fun z => z.2⟩
theorem wO_32 {f : Nat → Int → Int} {l : Nat → Int → Int64} {c : Int} (h : wO f l c) (hc : c = f 1 (4 : Nat)) (hY : yWc f) (c32 : f 1 (4 : Nat) ≤ 32) : ∀ i, 0 ≤ i → i < c → fN 32 (l 20 i) := fun i i0 i1 j hj => (Sc_bd hY c32 i0 (by omega) ((h i i0 i1 j).mp hj)).2
theorem wD_all {f : Nat → Int → Int} {l : Nat → Int → Int64} {c : Int} (h : wD f l c) (hc : c = f 1 (4 : Nat)) {x : Int} (x0 : 0 ≤ x) (x1 : x ≤ 3) : ∀ k, fX (l 21 x) k ↔ dfc f x k := by
  intro k
  rw [h x x0 x1 k]
  exact ⟨fun z => z.2, fun z => ⟨by have := z.1.2; omega, z⟩⟩
theorem wR_put {f : Nat → Int → Int} {l l' : Nat → Int → Int64} {i : Int} {z1 z2 : Int64} (h : wR f l i) (e22 : ∀ j, l' 22 j = if j = i then z1 else l 22 j) (e23 : ∀ j, l' 23 j = if j = i then z2 else l 23 j) (h1 : ∀ k, fX z1 k ↔ rs (Scc f) (Scc f i) nS k) (h2 : dfc f (f 3 i) i → ∀ k, fX z2 k ↔ rs (Scc f) (Scc f i) (dfc f (f 3 i)) k) : wR f l' (i + 1) := by
  intro j j0 j1
  rw [e22, e23]
  by_cases q : j = i
  · rw [if_pos q, if_pos q, q]
    exact ⟨h1, h2⟩
  · rw [if_neg q, if_neg q]
    exact h j j0 (by omega)
theorem wB_put {f : Nat → Int → Int} {l l' : Nat → Int → Int64} {p : Int} {z1 z2 : Int64} (h : wB f l p) (e24 : ∀ j, l' 24 j = if j = p * 2 + 1 then z2 else if j = p * 2 then z1 else l 24 j) (h1 : ∀ k, fX z1 k ↔ rs (Scc f) (fun j => j = f 10 p) (dfc f 0) k) (h2 : ∀ k, fX z2 k ↔ rs (Scc f) (fun j => j = f 10 p) (dfc f 1) k) : wB f l' (p + 1) := by
  intro q x q0 q1 x0 x1 k
  rw [e24]
  by_cases e : q = p
  · rw [e]
    by_cases ex : x = 0
    · rw [ex, if_neg (by omega), if_pos (by omega)]
      exact h1 k
    · have ex : x = 1 := by omega
      rw [ex, if_pos rfl]
      exact h2 k
  · rw [if_neg (by omega), if_neg (by omega)]
    exact h q x q0 (by omega) x0 x1 k

set_option maxHeartbeats 8000000 in
set_option maxRecDepth 20000 in
theorem k36x {Z : sm_Z} (hZ : Z.2.2.2 = tb_N) (m : wk_M) (hO : cOps m.1) (hE : cEn m.1) (hL : cWL m.1) (hY : yWc m.1) : wC Z 3 36 [20, 21, 22, 23, 24] [.inr (.inl 19)] m (fun r m' => r = none ∧ wO m.1 m'.2 (m.1 1 (4 : Nat)) ∧ wR m.1 m'.2 (m.1 1 (4 : Nat)) ∧ wB m.1 m'.2 (m.1 1 (11 : Nat))) := by
  obtain ⟨J0, hJ0⟩ : ∃ J : Int → wk_M → Prop, ∀ i m', J i m' ↔ ((0 ≤ i ∧ i ≤ m.1 1 (4 : Nat)) ∧ wO m.1 m'.2 i ∧ wD m.1 m'.2 i) := ⟨_, fun _ _ => Iff.rfl⟩
  obtain ⟨J1, hJ1⟩ : ∃ J : Int → wk_M → Prop, ∀ i m', J i m' ↔ ((0 ≤ i ∧ i ≤ m.1 1 (4 : Nat)) ∧ wO m.1 m'.2 (m.1 1 (4 : Nat)) ∧ wD m.1 m'.2 (m.1 1 (4 : Nat)) ∧ wR m.1 m'.2 i) := ⟨_, fun _ _ => Iff.rfl⟩
  obtain ⟨J2, hJ2⟩ : ∃ J : Int → wk_M → Prop, ∀ i m', J i m' ↔ ((0 ≤ i ∧ i ≤ m.1 1 (11 : Nat)) ∧ wO m.1 m'.2 (m.1 1 (4 : Nat)) ∧ wD m.1 m'.2 (m.1 1 (4 : Nat)) ∧ wR m.1 m'.2 (m.1 1 (4 : Nat)) ∧ wB m.1 m'.2 i) := ⟨_, fun _ _ => Iff.rfl⟩
  refine wC.gen fun Q hQ => wk_E hZ (by exact rfl) [(10, [(3, 19), (1, 0)], fun vs _ m' => (match vs with
    | [i] => J0 i m'
    | _ => False), fun vs _ m' => (match vs with
    | [i] => (100000 - i : Int).toNat
    | _ => 0)), (71, [(3, 19), (1, 0)], fun vs _ m' => (match vs with
    | [i] => J1 i m'
    | _ => False), fun vs _ m' => (match vs with
    | [i] => (90000 - i : Int).toNat
    | _ => 0)), (152, [(3, 19), (1, 0)], fun vs _ m' => (match vs with
    | [i] => J2 i m'
    | _ => False), fun vs _ m' => (match vs with
    | [i] => (80000 - i : Int).toNat
    | _ => 0))] rfl (fun hr hs => ⟨?_, ⟨?_, ⟨?_, trivial⟩⟩⟩) (fun hr hs => ?_)
  · have e1 : ab_lo = -2147483648 := rfl
    have e2 : ab_hi = 2147483647 := rfl
    intro m2 hr2 hf2 i il ih hI
    have hI := (hJ0 _ _).mp hI
    obtain ⟨⟨i0, i1⟩, wo, wd⟩ := hI
    have hc := cnt32 hr2
    have hc1 : m2.1 1 (4 : Nat) = m.1 1 (4 : Nat) := congrFun (hf2 1 (by decide)).1 _
    have eS := Sc_fr hf2
    have c32 : m.1 1 (4 : Nat) ≤ 32 := by omega
    have e2i : m2.1 2 i = m.1 2 i := congrFun (hf2 2 (by decide)).1 i
    have e3i : m2.1 3 i = m.1 3 i := congrFun (hf2 3 (by decide)).1 i
    have q1 : i < m.1 1 (4 : Nat) → (m2.1 2 i ≤ 7 ∨ (13 ≤ m2.1 2 i ∧ m2.1 2 i ≤ 16)) → 0 ≤ m2.1 3 i ∧ m2.1 3 i ≤ 3 := fun h z => by rw [e3i]; exact (hO i i0 h).1 (by unfold nD; omega)
    have hE2 := cEn_same (congrFun (hf2 1 (by decide)).1 _) (hf2 2 (by decide)).1 (hf2 6 (by decide)).1 hE
    repeat' first | (intro h; exact absurd h (by decide)) | (intro h; exact absurd rfl h) | refine And.intro ?_ ?_ | intro _ | refine Or.inl ⟨by omega, by omega, ?_⟩ | refine Or.inr ?_ | exact trivial | (refine wk_use (k38x hZ _ _ (by omega) (by omega) (by omega) hE2 (by rw [eS]; exact fun j hj => Sc_bd hY c32 i0 (by omega) hj)) rfl rfl ?_; rintro - _ _ - - - ⟨_, rfl, hm, hy⟩; refine Or.inl ⟨[], hm, ?_⟩; clear hm) | (refine wk_use (k41x hZ _ _ (by omega) (by omega)) rfl rfl ?_; rintro - _ _ - - - ⟨_, rfl, hm, ⟨rfl, hd⟩ | ⟨rfl, hd⟩⟩ <;> (have hd' := hd; simp only [wk_ul_1] at hd') <;> refine Or.inl ⟨[], hm, ?_⟩ <;> clear hm)
    all_goals first
      | omega
      | (show (100000 - (_ : Int) : Int).toNat < (100000 - (_ : Int) : Int).toNat; omega)
      | (show J0 _ _; refine (hJ0 _ _).mpr ⟨⟨by omega, by omega⟩, wO_put wo (fun k => by rw [← eS]; exact hy k) (fun _ => by simp (decide := true) only [wk_ul_at, wk_u_2, wk_ul_1, and_self, and_true, true_and, and_false, false_and, if_true, if_false] <;> rfl), wD_put wd i0 (by omega) (by omega) (by omega) e3i.symm (by rw [e3i] at *; exact q1 (by omega) hd') (fun _ => by simp (decide := true) only [wk_ul_at, wk_u_2, wk_ul_1, and_self, and_true, true_and, and_false, false_and, if_true, if_false] <;> rfl)⟩)
      | (show J0 _ _; refine (hJ0 _ _).mpr ⟨⟨by omega, by omega⟩, wO_put wo (fun k => by rw [← eS]; exact hy k) (fun _ => by simp (decide := true) only [wk_ul_at, wk_u_2, wk_ul_1, and_self, and_true, true_and, and_false, false_and, if_true, if_false] <;> rfl), wD_put (d := m2.1 3 i) wd i0 (by omega) (by omega) (by omega) e3i.symm (q1 (by omega) hd') (fun _ => by simp (decide := true) only [wk_ul_at, wk_u_2, wk_ul_1, and_self, and_true, true_and, and_false, false_and, if_true, if_false] <;> rfl)⟩)
      | (show J0 _ _; refine (hJ0 _ _).mpr ⟨⟨by omega, by omega⟩, wO_put wo (fun k => by rw [← eS]; exact hy k) (fun _ => by simp (decide := true) only [wk_ul_at, wk_u_2, wk_ul_1, and_self, and_true, true_and, and_false, false_and, if_true, if_false] <;> rfl), wD_skip wd (by omega) (fun _ => by simp (decide := true) only [wk_ul_at, wk_u_2, wk_ul_1, and_self, and_true, true_and, and_false, false_and, if_true, if_false] <;> rfl)⟩)
      | (show J1 _ _; refine (hJ1 _ _).mpr ⟨⟨by omega, by omega⟩, (by have e : i = m.1 1 (4 : Nat) := (by omega); rw [← e]; exact wo), (by have e : i = m.1 1 (4 : Nat) := (by omega); rw [← e]; exact wd), fun j j0 j1 => by omega⟩)
      | (show (_ : Nat) < (_ : Nat); dsimp only; omega)
  · have e1 : ab_lo = -2147483648 := rfl
    have e2 : ab_hi = 2147483647 := rfl
    intro m2 hr2 hf2 i il ih hI
    have hI := (hJ1 _ _).mp hI
    obtain ⟨⟨i0, i1⟩, wo, wd, wr⟩ := hI
    have hc := cnt32 hr2
    have hc1 : m2.1 1 (4 : Nat) = m.1 1 (4 : Nat) := congrFun (hf2 1 (by decide)).1 _
    have eS := Sc_fr hf2
    have c32 : m.1 1 (4 : Nat) ≤ 32 := by omega
    have e2i : m2.1 2 i = m.1 2 i := congrFun (hf2 2 (by decide)).1 i
    have e3i : m2.1 3 i = m.1 3 i := congrFun (hf2 3 (by decide)).1 i
    have q1 : i < m.1 1 (4 : Nat) → (m2.1 2 i ≤ 7 ∨ (13 ≤ m2.1 2 i ∧ m2.1 2 i ≤ 16)) → 0 ≤ m2.1 3 i ∧ m2.1 3 i ≤ 3 := fun h z => by rw [e3i]; exact (hO i i0 h).1 (by unfold nD; omega)
    have hp4 := hL.1
    have h32 : ∀ i, 0 ≤ i → i < m2.1 1 (4 : Nat) → fN 32 (m2.2 20 i) := fun i a b => wO_32 wo rfl hY c32 i a (by omega)
    repeat' first | (intro h; exact absurd h (by decide)) | (intro h; exact absurd rfl h) | refine And.intro ?_ ?_ | intro _ | refine Or.inl ⟨by omega, by omega, ?_⟩ | refine Or.inr ?_ | exact trivial | (refine wk_use (k42x hZ _ _ (Int64.ofNat 0) (by exact h32) (by first | exact hx32 | exact h32 _ i0 (by omega))) rfl rfl ?_; rintro - _ _ - - - ⟨_, rfl, hm, -, hz1⟩; refine Or.inl ⟨[], hm, ?_⟩; clear hm) | (refine wk_use (k41x hZ _ _ (by omega) (by omega)) rfl rfl ?_; rintro - _ _ - - - ⟨_, rfl, hm, ⟨rfl, hd⟩ | ⟨rfl, hd⟩⟩ <;> (have hd' := hd; simp only [wk_ul_1] at hd') <;> refine Or.inl ⟨[], hm, ?_⟩ <;> clear hm) | (refine wk_use (k42x hZ _ _ (_) (by exact h32) (by first | exact hx32 | exact h32 _ i0 (by omega))) rfl rfl ?_; rintro - _ _ - - - ⟨_, rfl, hm, -, hz2⟩; refine Or.inl ⟨[], hm, ?_⟩; clear hm)
    all_goals first
      | omega
      | (show (90000 - (_ : Int) : Int).toNat < (90000 - (_ : Int) : Int).toNat; omega)
      | (show J1 _ _; refine (hJ1 _ _).mpr ⟨⟨by omega, by omega⟩, wO_same wo (fun _ => by simp (decide := true) only [wk_ul_at, wk_u_2, wk_ul_1, and_self, and_true, true_and, and_false, false_and, if_true, if_false] <;> rfl), wD_same wd (fun _ => by simp (decide := true) only [wk_ul_at, wk_u_2, wk_ul_1, and_self, and_true, true_and, and_false, false_and, if_true, if_false] <;> rfl), wR_put wr (fun _ => by simp (decide := true) only [wk_ul_at, wk_u_2, wk_ul_1, and_self, and_true, true_and, and_false, false_and, if_true, if_false] <;> rfl) (fun _ => by simp (decide := true) only [wk_ul_at, wk_u_2, wk_ul_1, and_self, and_true, true_and, and_false, false_and, if_true, if_false] <;> rfl) (fun k => (hz1 k).trans (rs_iff (fS_eq wo rfl (by first | omega | exact hc1) (fun _ => by simp (decide := true) only [wk_ul_at, wk_u_2, wk_ul_1, and_self, and_true, true_and, and_false, false_and, if_true, if_false] <;> rfl)) (wO_Scc wo rfl i0 (by omega)) (fun j => ⟨fun z => absurd z fX_no, fun z => z.elim⟩) k)) (fun _ k => by rw [← e3i]; exact (hz2 k).trans (rs_iff (fS_eq wo rfl (by first | omega | exact hc1) (fun _ => by simp (decide := true) only [wk_ul_at, wk_u_2, wk_ul_1, and_self, and_true, true_and, and_false, false_and, if_true, if_false] <;> rfl)) (wO_Scc wo rfl i0 (by omega)) (wD_all wd rfl (q1 (by omega) hd').1 (q1 (by omega) hd').2) k))⟩)
      | (show J1 _ _; refine (hJ1 _ _).mpr ⟨⟨by omega, by omega⟩, wO_same wo (fun _ => by simp (decide := true) only [wk_ul_at, wk_u_2, wk_ul_1, and_self, and_true, true_and, and_false, false_and, if_true, if_false] <;> rfl), wD_same wd (fun _ => by simp (decide := true) only [wk_ul_at, wk_u_2, wk_ul_1, and_self, and_true, true_and, and_false, false_and, if_true, if_false] <;> rfl), wR_put wr (fun _ => by simp (decide := true) only [wk_ul_at, wk_u_2, wk_ul_1, and_self, and_true, true_and, and_false, false_and, if_true, if_false] <;> rfl) (fun _ => by simp (decide := true) only [wk_ul_at, wk_u_2, wk_ul_1, and_self, and_true, true_and, and_false, false_and, if_true, if_false] <;> rfl) (fun k => (hz1 k).trans (rs_iff (fS_eq wo rfl (by first | omega | exact hc1) (fun _ => by simp (decide := true) only [wk_ul_at, wk_u_2, wk_ul_1, and_self, and_true, true_and, and_false, false_and, if_true, if_false] <;> rfl)) (wO_Scc wo rfl i0 (by omega)) (fun j => ⟨fun z => absurd z fX_no, fun z => z.elim⟩) k)) (fun z => absurd z.2.1 (by omega))⟩)
      | (show J2 _ _; refine (hJ2 _ _).mpr ⟨⟨by omega, by omega⟩, wo, wd, (by have e : i = m.1 1 (4 : Nat) := (by omega); rw [← e]; exact wr), fun q x q0 q1 => by omega⟩)
      | (show (_ : Nat) < (_ : Nat); dsimp only; omega)
  · have e1 : ab_lo = -2147483648 := rfl
    have e2 : ab_hi = 2147483647 := rfl
    intro m2 hr2 hf2 i il ih hI
    have hI := (hJ2 _ _).mp hI
    obtain ⟨⟨i0, i1⟩, wo, wd, wr, wb⟩ := hI
    have hc := cnt32 hr2
    have hc1 : m2.1 1 (4 : Nat) = m.1 1 (4 : Nat) := congrFun (hf2 1 (by decide)).1 _
    have eS := Sc_fr hf2
    have c32 : m.1 1 (4 : Nat) ≤ 32 := by omega
    have h32 : ∀ i, 0 ≤ i → i < m2.1 1 (4 : Nat) → fN 32 (m2.2 20 i) := fun i a b => wO_32 wo rfl hY c32 i a (by omega)
    have hp1 : m2.1 1 (11 : Nat) = m.1 1 (11 : Nat) := congrFun (hf2 1 (by decide)).1 _
    have hp4 := hL.1
    have e10 : m2.1 10 i = m.1 10 i := congrFun (hf2 10 (by decide)).1 i
    have hF : i < m.1 1 (11 : Nat) → 0 ≤ m2.1 10 i ∧ m2.1 10 i ≤ 32 := fun z => by rw [e10]; have := hL.2.1 i i0 z; omega
    have hx32 : i < m.1 1 (11 : Nat) → fN 32 (Int64.ofNat 1 <<< ((Int32.ofInt (m2.1 10 i)).toInt64 &&& 63)) := fun z j hj => by have := hF z; rw [fX_one (by omega) (by omega)] at hj; show j ≤ 32; omega
    repeat' first | (intro h; exact absurd h (by decide)) | (intro h; exact absurd rfl h) | refine And.intro ?_ ?_ | intro _ | refine Or.inl ⟨by omega, by omega, ?_⟩ | refine Or.inr ?_ | exact trivial | (refine wk_use (k42x hZ _ _ (m2.2 21 0) (by exact h32) (by first | exact hx32 (by omega) | exact h32 _ i0 (by omega))) rfl rfl ?_; rintro - _ _ - - - ⟨_, rfl, hm, -, hz1⟩; refine Or.inl ⟨[], hm, ?_⟩; clear hm) | (refine wk_use (k42x hZ _ _ (_) (by exact h32) (by first | exact hx32 (by omega) | exact h32 _ i0 (by omega))) rfl rfl ?_; rintro - _ _ - - - ⟨_, rfl, hm, -, hz2⟩; refine Or.inl ⟨[], hm, ?_⟩; clear hm)
    all_goals first
      | omega
      | (show (80000 - (_ : Int) : Int).toNat < (80000 - (_ : Int) : Int).toNat; omega)
      | exact hQ _ _ ⟨rfl, wo, wr, (by have e : i = m.1 1 (11 : Nat) := (by omega); rw [← e]; exact wb)⟩
      | (show J2 _ _; refine (hJ2 _ _).mpr ⟨⟨by omega, by omega⟩, wO_same wo (fun _ => by simp (decide := true) only [wk_ul_at, wk_u_2, wk_ul_1, and_self, and_true, true_and, and_false, false_and, if_true, if_false] <;> rfl), wD_same wd (fun _ => by simp (decide := true) only [wk_ul_at, wk_u_2, wk_ul_1, and_self, and_true, true_and, and_false, false_and, if_true, if_false] <;> rfl), wR_same wr (fun _ => by simp (decide := true) only [wk_ul_at, wk_u_2, wk_ul_1, and_self, and_true, true_and, and_false, false_and, if_true, if_false] <;> rfl) (fun _ => by simp (decide := true) only [wk_ul_at, wk_u_2, wk_ul_1, and_self, and_true, true_and, and_false, false_and, if_true, if_false] <;> rfl), wB_put wb (fun _ => by simp (decide := true) only [wk_ul_at, wk_u_2, wk_ul_1, and_self, and_true, true_and, and_false, false_and, if_true, if_false] <;> rfl) (fun k => (hz1 k).trans (rs_iff (fS_eq wo rfl (by first | omega | exact hc1) (fun _ => by simp (decide := true) only [wk_ul_at, wk_u_2, wk_ul_1, and_self, and_true, true_and, and_false, false_and, if_true, if_false] <;> rfl)) (fun j => (fX_one (by omega) (by omega)).trans (by rw [e10])) (wD_all wd rfl (by decide) (by decide)) k)) (fun k => (hz2 k).trans (rs_iff (fS_eq wo rfl (by first | omega | exact hc1) (fun _ => by simp (decide := true) only [wk_ul_at, wk_u_2, wk_ul_1, and_self, and_true, true_and, and_false, false_and, if_true, if_false] <;> rfl)) (fun j => (fX_one (by omega) (by omega)).trans (by rw [e10])) (wD_all wd rfl (by decide) (by decide)) k))⟩)
      | (show (_ : Nat) < (_ : Nat); dsimp only; omega)
  · have e1 : ab_lo = -2147483648 := rfl
    have e2 : ab_hi = 2147483647 := rfl
    have hc := cnt32 hr
    repeat' first | (intro h; exact absurd h (by decide)) | (intro h; exact absurd rfl h) | refine And.intro ?_ ?_ | intro _ | refine Or.inl ⟨by omega, by omega, ?_⟩ | refine Or.inr ?_ | exact trivial | (refine wk_use (wfL 21 4 _ _ rfl rfl) rfl rfl ?_; rintro - _ _ - hfr - ⟨rfl, h1, hz⟩; refine Or.inr ?_)
    all_goals first
      | omega
      | trivial
      | (show J0 _ _; refine (hJ0 _ _).mpr ⟨⟨by omega, by omega⟩, fun j j0 j1 => by omega, wD_zero hz⟩)
