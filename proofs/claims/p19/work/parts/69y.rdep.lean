/-! the reference's dependences -/
theorem fr_58 {W : List Nat} {m' m : wk_M} (h : wk_fr W m' m) (hw : (W.all fun p => Nat.ble 59 p) = true) (p : Nat) (p0 : 46 ≤ p) (p1 : p ≤ 58) : m'.1 p = m.1 p := (h p (fun z => by
  have := Nat.le_of_ble_eq_true (List.all_eq_true.mp hw p z)
  omega)).1
theorem rvF_sm {f g : Nat → Int → Int} (e : ∀ p, 46 ≤ p → p ≤ 58 → g p = f p) : rvF g = rvF f := by
  funext p i
  unfold rvF
  simp only [e 46 (by decide) (by decide), e 47 (by decide) (by decide), e 48 (by decide) (by decide), e 49 (by decide) (by decide), e 50 (by decide) (by decide), e 51 (by decide) (by decide), e 52 (by decide) (by decide), e 53 (by decide) (by decide), e 54 (by decide) (by decide), e 55 (by decide) (by decide), e 56 (by decide) (by decide)]
def rE (m : wk_M) (a b : Int) : Prop := (nR a ∧ nR b) ∧ hE m.1 m.2 (psi a) (psi b)
theorem hE_v {f : Nat → Int → Int} {l : Nat → Int → Int64} {v n x : Int} (v0 : 0 ≤ v) (v1 : v ≤ 15) (hb : ∀ k, 0 ≤ k → k ≤ 3 → (bq v k ↔ Hk f l k n x)) : ¬ v = 0 ↔ hE f l n x := by
  constructor
  · intro h
    have q : v % 2 = 1 ∨ v / 2 % 2 = 1 ∨ v / 4 % 2 = 1 ∨ v / 8 % 2 = 1 := by
      clear hb
      omega
    rcases q with q | q | q | q
    · exact ⟨0, ⟨by decide, by decide⟩, (hb 0 (by decide) (by decide)).mp (Or.inl ⟨rfl, q⟩)⟩
    · exact ⟨1, ⟨by decide, by decide⟩, (hb 1 (by decide) (by decide)).mp (Or.inr (Or.inl ⟨rfl, q⟩))⟩
    · exact ⟨2, ⟨by decide, by decide⟩, (hb 2 (by decide) (by decide)).mp (Or.inr (Or.inr (Or.inl ⟨rfl, q⟩)))⟩
    · exact ⟨3, ⟨by decide, by decide⟩, (hb 3 (by decide) (by decide)).mp (Or.inr (Or.inr (Or.inr ⟨rfl, q⟩)))⟩
  · rintro ⟨k, ⟨k0, k1⟩, q⟩ e
    have z := (hb k k0 k1).mpr q
    clear hb q
    rcases z with ⟨-, z⟩ | ⟨-, z⟩ | ⟨-, z⟩ | ⟨-, z⟩ <;> omega
theorem hE_sm {f g : Nat → Int → Int} {l l' : Nat → Int → Int64} (e : ∀ p, 46 ≤ p → p ≤ 58 → g p = f p) (e59 : l' 59 = l 59) : hE g l' = hE f l := by
  funext x y
  unfold hE
  rw [Hk_sm e e59]
def Zr (l : Nat → Int → Int64) (P : Nat) (k : Int) : Prop := ∀ i, 0 ≤ i → i < k → l P i = Int64.ofNat 0
theorem Zr_s {l l' : Nat → Int → Int64} {P : Nat} {k : Int} (h : Zr l P k) (e : ∀ i, l' P i = if i = k then Int64.ofNat 0 else l P i) : Zr l' P (k + 1) := by
  intro i i0 i1
  rw [e]
  by_cases q : i = k
  · rw [if_pos q]
  · rw [if_neg q]
    exact h i i0 (by omega)
theorem Zr_e {l : Nat → Int → Int64} {P : Nat} {k c : Int} (h : Zr l P k) (e : c ≤ k) : Zr l P c := fun i i0 i1 => h i i0 (by omega)
theorem Zr_sm {l l' : Nat → Int → Int64} {P : Nat} {k : Int} (h : Zr l P k) (e : l' P = l P) : Zr l' P k := by
  unfold Zr
  rw [e]
  exact h
theorem Zr_b {l : Nat → Int → Int64} {P : Nat} (h : Zr l P 1008) {a b : Int} (a0 : 0 ≤ a) (a1 : a ≤ 251) (b0 : 0 ≤ b) (b1 : b ≤ 255) : ¬ rwB l P a b := by
  unfold rwB
  rw [h _ (by omega) (by omega)]
  exact fX_no
/-- the pairs looked at so far -/
def pRr (m : wk_M) (l : Nat → Int → Int64) (n x : Int) : Prop := ∀ a b, 0 ≤ a → a ≤ 251 → 0 ≤ b → b ≤ 255 → (rwB l 60 a b ↔ ((a < n ∨ (a = n ∧ b < x)) ∧ b ≤ 251) ∧ hE m.1 m.2 a b)
theorem pR_0 {m : wk_M} {l : Nat → Int → Int64} (h : Zr l 60 1008) : pRr m l 0 0 := fun a b a0 a1 b0 b1 => ⟨fun q => absurd q (Zr_b h a0 a1 b0 b1), fun q => by
  have := q.1
  omega⟩
theorem pR_nx {m : wk_M} {l : Nat → Int → Int64} {n x : Int} (h : pRr m l n x) (hx : 252 ≤ x) : pRr m l (n + 1) 0 := by
  intro a b a0 a1 b0 b1
  rw [h a b a0 a1 b0 b1]
  exact ⟨fun q => ⟨⟨by have := q.1; omega, q.1.2⟩, q.2⟩, fun q => ⟨⟨by have := q.1; omega, q.1.2⟩, q.2⟩⟩
theorem pR_e {m : wk_M} {l : Nat → Int → Int64} {n c : Int} (h : pRr m l n 0) (e : n = c) : pRr m l c 0 := by
  subst e
  exact h
theorem pR_sm {m : wk_M} {l l' : Nat → Int → Int64} {n x : Int} (h : pRr m l n x) (e : l' 60 = l 60) : pRr m l' n x := by
  unfold pRr rwB at h ⊢
  rw [e]
  exact h
theorem pR_put {m : wk_M} {l l' : Nat → Int → Int64} {n x : Int} (x1 : x ≤ 251) (h : pRr m l n x) (hp : ∀ a b, 0 ≤ a → 0 ≤ b → b ≤ 255 → (rwB l' 60 a b ↔ rwB l 60 a b ∨ (a = n ∧ b = x))) (he : hE m.1 m.2 n x) : pRr m l' n (x + 1) := by
  intro a b a0 a1 b0 b1
  rw [hp a b a0 b0 b1, h a b a0 a1 b0 b1]
  constructor
  · rintro (⟨⟨q, r⟩, s⟩ | ⟨e1, e2⟩)
    · exact ⟨⟨by omega, r⟩, s⟩
    · subst e1 e2
      exact ⟨⟨by omega, by omega⟩, he⟩
  · rintro ⟨⟨q, r⟩, s⟩
    by_cases e : a = n ∧ b = x
    · exact Or.inr e
    · exact Or.inl ⟨⟨by omega, r⟩, s⟩
theorem pR_no {m : wk_M} {l : Nat → Int → Int64} {n x : Int} (h : pRr m l n x) (he : ¬ hE m.1 m.2 n x) : pRr m l n (x + 1) := by
  intro a b a0 a1 b0 b1
  rw [h a b a0 a1 b0 b1]
  constructor
  · rintro ⟨⟨q, r⟩, s⟩
    exact ⟨⟨by omega, r⟩, s⟩
  · rintro ⟨⟨q, r⟩, s⟩
    by_cases e : a = n ∧ b = x
    · obtain ⟨e1, e2⟩ := e
      subst e1 e2
      exact absurd s he
    · exact ⟨⟨by omega, r⟩, s⟩
theorem pR_S {m : wk_M} {l : Nat → Int → Int64} (h : pRr m l 252 0) {F : Nat → Int → Int} : rS F (rE m) l := by
  have hJ : ∀ a b, Jr l a b ↔ rE m a b := by
    intro a b
    unfold Jr rE
    constructor
    · rintro ⟨⟨na, nb⟩, q⟩
      have p1 := (psI_psi na.1 na.2).2
      have p2 := (psI_psi nb.1 nb.2).2
      exact ⟨⟨na, nb⟩, ((h _ _ p1.1 p1.2 p2.1 (by omega)).mp q).2⟩
    · rintro ⟨⟨na, nb⟩, q⟩
      have p1 := (psI_psi na.1 na.2).2
      have p2 := (psI_psi nb.1 nb.2).2
      exact ⟨⟨na, nb⟩, (h _ _ p1.1 p1.2 p2.1 (by omega)).mpr ⟨⟨by omega, p2.2⟩, q⟩⟩
  refine ⟨fun n b n0 n1 b0 b1 q => ?_, fun a b q => (hJ a b).mpr q, fun a b q => Or.inl ((hJ a b).mp q)⟩
  have := ((h n b n0 n1 (by omega) b1).mp q).1.2
  omega
/-! up and down -/
def uJ (f : Nat → Int → Int) (i j a b : Int) : Prop := (a = 224 + 7 * (f 47 i - 13) ∧ b = i) ∨ ∃ k, (0 ≤ k ∧ k < j) ∧ a = 224 + 7 * (f 47 i - 13) + 1 + k ∧ b = 32 + 6 * i + k
def dJ (f : Nat → Int → Int) (i j a b : Int) : Prop := ∃ k, (0 ≤ k ∧ k < j) ∧ a = 32 + 6 * i + 3 + k ∧ b = 224 + 7 * (f 47 i - 13) + 4 + k
def uP (f : Nat → Int → Int) (n a b : Int) : Prop := ∃ i, (0 ≤ i ∧ i < n) ∧ clR f i ∧ uJ f i 3 a b
def dP (f : Nat → Int → Int) (n a b : Int) : Prop := ∃ i, (0 ≤ i ∧ i < n) ∧ clR f i ∧ dJ f i 3 a b
def uD (l : Nat → Int → Int64) (A B : Int → Int → Prop) : Prop := ∀ a b, 0 ≤ a → a ≤ 251 → 0 ≤ b → b ≤ 255 → (rwB l 61 a b ↔ A a b) ∧ (rwB l 62 a b ↔ B a b)
theorem uD_if {l : Nat → Int → Int64} {A B A' B' : Int → Int → Prop} (h : uD l A B) (h1 : ∀ a b, A a b ↔ A' a b) (h2 : ∀ a b, B a b ↔ B' a b) : uD l A' B' := fun a b a0 a1 b0 b1 => ⟨(h a b a0 a1 b0 b1).1.trans (h1 a b), (h a b a0 a1 b0 b1).2.trans (h2 a b)⟩
theorem uD_sm {l l' : Nat → Int → Int64} {A B : Int → Int → Prop} (e1 : l' 61 = l 61) (e2 : l' 62 = l 62) (h : uD l A B) : uD l' A B := by
  unfold uD rwB at h ⊢
  rw [e1, e2]
  exact h
theorem uD_p1 {l l' : Nat → Int → Int64} {A B : Int → Int → Prop} {n x : Int} (h : uD l A B) (hp : ∀ a b, 0 ≤ a → 0 ≤ b → b ≤ 255 → (rwB l' 61 a b ↔ rwB l 61 a b ∨ (a = n ∧ b = x))) (e : l' 62 = l 62) : uD l' (fun a b => A a b ∨ (a = n ∧ b = x)) B := by
  intro a b a0 a1 b0 b1
  refine ⟨(hp a b a0 b0 b1).trans (or_congr (h a b a0 a1 b0 b1).1 Iff.rfl), ?_⟩
  have := (h a b a0 a1 b0 b1).2
  unfold rwB at this ⊢
  rw [e]
  exact this
theorem uD_p2 {l l' : Nat → Int → Int64} {A B : Int → Int → Prop} {n x : Int} (h : uD l A B) (hp : ∀ a b, 0 ≤ a → 0 ≤ b → b ≤ 255 → (rwB l' 62 a b ↔ rwB l 62 a b ∨ (a = n ∧ b = x))) (e : l' 61 = l 61) : uD l' A (fun a b => B a b ∨ (a = n ∧ b = x)) := by
  intro a b a0 a1 b0 b1
  refine ⟨?_, (hp a b a0 b0 b1).trans (or_congr (h a b a0 a1 b0 b1).2 Iff.rfl)⟩
  have := (h a b a0 a1 b0 b1).1
  unfold rwB at this ⊢
  rw [e]
  exact this
theorem uD_0 {l : Nat → Int → Int64} {f : Nat → Int → Int} (h1 : Zr l 61 1008) (h2 : Zr l 62 1008) : uD l (uP f 0) (dP f 0) := fun a b a0 a1 b0 b1 => ⟨⟨fun q => absurd q (Zr_b h1 a0 a1 b0 b1), fun ⟨i, q, _⟩ => by omega⟩, ⟨fun q => absurd q (Zr_b h2 a0 a1 b0 b1), fun ⟨i, q, _⟩ => by omega⟩⟩
theorem uD_e {l : Nat → Int → Int64} {f : Nat → Int → Int} {i c : Int} (h : uD l (uP f i) (dP f i)) (e : i = c) : uD l (uP f c) (dP f c) := by
  subst e
  exact h
theorem uJ_0 {f : Nat → Int → Int} {X : Prop} {i q x a b : Int} (e : q = 224 + 7 * (f 47 i - 13)) (ex : x = i) : X ∨ (a = q ∧ b = x) ↔ X ∨ uJ f i 0 a b := by
  subst e ex
  exact or_congr Iff.rfl ⟨Or.inl, fun z => z.elim id (fun ⟨k, q, _⟩ => by omega)⟩
theorem dJ_0 {f : Nat → Int → Int} {X : Prop} {i a b : Int} : X ↔ X ∨ dJ f i 0 a b := ⟨Or.inl, fun z => z.elim id (fun ⟨k, q, _⟩ => by omega)⟩
theorem uJ_s {f : Nat → Int → Int} {X : Prop} {i j n x a b : Int} (j0 : 0 ≤ j) (en : n = 224 + 7 * (f 47 i - 13) + 1 + j) (ex : x = 32 + 6 * i + j) : (X ∨ uJ f i j a b) ∨ (a = n ∧ b = x) ↔ X ∨ uJ f i (j + 1) a b := by
  subst en ex
  constructor
  · rintro ((q | q | ⟨k, ⟨k0, k1⟩, q⟩) | q)
    · exact Or.inl q
    · exact Or.inr (Or.inl q)
    · exact Or.inr (Or.inr ⟨k, ⟨k0, by omega⟩, q⟩)
    · exact Or.inr (Or.inr ⟨j, ⟨j0, by omega⟩, q⟩)
  · rintro (q | q | ⟨k, ⟨k0, k1⟩, q⟩)
    · exact Or.inl (Or.inl q)
    · exact Or.inl (Or.inr (Or.inl q))
    · by_cases e : k = j
      · subst e
        exact Or.inr q
      · exact Or.inl (Or.inr (Or.inr ⟨k, ⟨k0, by omega⟩, q⟩))
theorem dJ_s {f : Nat → Int → Int} {X : Prop} {i j n x a b : Int} (j0 : 0 ≤ j) (en : n = 32 + 6 * i + 3 + j) (ex : x = 224 + 7 * (f 47 i - 13) + 4 + j) : (X ∨ dJ f i j a b) ∨ (a = n ∧ b = x) ↔ X ∨ dJ f i (j + 1) a b := by
  subst en ex
  constructor
  · rintro ((q | ⟨k, ⟨k0, k1⟩, q⟩) | q)
    · exact Or.inl q
    · exact Or.inr ⟨k, ⟨k0, by omega⟩, q⟩
    · exact Or.inr ⟨j, ⟨j0, by omega⟩, q⟩
  · rintro (q | ⟨k, ⟨k0, k1⟩, q⟩)
    · exact Or.inl (Or.inl q)
    · by_cases e : k = j
      · subst e
        exact Or.inr q
      · exact Or.inl (Or.inr ⟨k, ⟨k0, by omega⟩, q⟩)
theorem eP_no {J : Int → Prop} {C : Int → Prop} {i : Int} (hn : ¬ C i) : (∃ k, (0 ≤ k ∧ k < i) ∧ C k ∧ J k) ↔ ∃ k, (0 ≤ k ∧ k < i + 1) ∧ C k ∧ J k := by
  constructor
  · rintro ⟨k, ⟨k0, k1⟩, q⟩
    exact ⟨k, ⟨k0, by omega⟩, q⟩
  · rintro ⟨k, ⟨k0, k1⟩, c, q⟩
    by_cases e : k = i
    · subst e
      exact absurd c hn
    · exact ⟨k, ⟨k0, by omega⟩, c, q⟩
theorem eP_yes {J : Int → Prop} {C : Int → Prop} {i : Int} (i0 : 0 ≤ i) (hc : C i) : ((∃ k, (0 ≤ k ∧ k < i) ∧ C k ∧ J k) ∨ J i) ↔ ∃ k, (0 ≤ k ∧ k < i + 1) ∧ C k ∧ J k := by
  constructor
  · rintro (⟨k, ⟨k0, k1⟩, q⟩ | q)
    · exact ⟨k, ⟨k0, by omega⟩, q⟩
    · exact ⟨i, ⟨i0, by omega⟩, hc, q⟩
  · rintro ⟨k, ⟨k0, k1⟩, c, q⟩
    by_cases e : k = i
    · subst e
      exact Or.inr q
    · exact Or.inl ⟨k, ⟨k0, by omega⟩, c, q⟩
theorem uD_no {l : Nat → Int → Int64} {f : Nat → Int → Int} {i : Int} (hn : ¬ clR f i) (h : uD l (uP f i) (dP f i)) : uD l (uP f (i + 1)) (dP f (i + 1)) := uD_if h (fun _ _ => eP_no hn) (fun _ _ => eP_no hn)
theorem uD_yes {l : Nat → Int → Int64} {f : Nat → Int → Int} {i j : Int} (i0 : 0 ≤ i) (hc : clR f i) (e : j = 3) (h : uD l (fun a b => uP f i a b ∨ uJ f i j a b) (fun a b => dP f i a b ∨ dJ f i j a b)) : uD l (uP f (i + 1)) (dP f (i + 1)) := by
  subst e
  exact uD_if h (fun _ _ => eP_yes (C := clR f) i0 hc) (fun _ _ => eP_yes (C := clR f) i0 hc)
/-! the rounds -/
noncomputable def cnJ (l : Nat → Int → Int64) : Nat := cnP (fun n => Jr l ((4 + ((n % 9 / 3 : Nat) : Int)) * 32 + ((n / 9 : Nat) : Int)) ((1 + ((n % 3 : Nat) : Int)) * 32 + ((n / 9 : Nat) : Int))) 288
theorem cnJ_le {l : Nat → Int → Int64} : cnJ l ≤ 288 := cnP_le _
theorem cnJ_mo {l l' : Nat → Int → Int64} (q : ∀ a b, Jr l a b → Jr l' a b) : cnJ l ≤ cnJ l' := cnP_mo _ (fun _ _ => q _ _)
theorem cnJ_lt {l l' : Nat → Int → Int64} {i : Int} (i0 : 0 ≤ i) (i1 : i ≤ 31) (q : ∀ a b, Jr l a b → Jr l' a b) (h : rNw l l' i) : cnJ l < cnJ l' := by
  obtain ⟨t, o, ⟨t0, t1⟩, ⟨o0, o1⟩, n, y⟩ := h
  obtain ⟨a, rfl⟩ := Int.eq_ofNat_of_zero_le i0
  obtain ⟨b, rfl⟩ := Int.eq_ofNat_of_zero_le t0
  obtain ⟨c, rfl⟩ := Int.eq_ofNat_of_zero_le o0
  have e1 : (a * 9 + b * 3 + c) / 9 = a := by omega
  have e2 : (a * 9 + b * 3 + c) % 9 / 3 = b := by omega
  have e3 : (a * 9 + b * 3 + c) % 3 = c := by omega
  refine cnP_lt (j := a * 9 + b * 3 + c) ?_ ?_ 288 (by omega) (fun _ _ => q _ _)
  · rw [e1, e2, e3]
    exact n
  · rw [e1, e2, e3]
    exact y
def rG6 (m : wk_M) (l : Nat → Int → Int64) (g rd i : Int) : Prop := rS (rvF m.1) (rE m) l ∧ rd.toNat ≤ cnJ l ∧ (g = 1 → (rd + 1).toNat ≤ cnJ l) ∧ (g = 0 → ∀ k, 0 ≤ k → k < i → clR m.1 k → rC1 l (m.1 47 k - 13) k 3)
theorem rG6_c {m : wk_M} {l l' : Nat → Int → Int64} {g g' rd i v Q : Int} (r0 : 0 ≤ rd) (i0 : 0 ≤ i) (i1 : i ≤ 31) (eQ : Q = m.1 47 i - 13) (h : rG6 m l g rd i) (hS : rS (rvF m.1) (rE m) l') (hM : ∀ a b, Jr l a b → Jr l' a b) (h0 : v = 0 → (∀ a b, Jr l' a b → Jr l a b) ∧ rC1 l' Q i 3) (h1 : v = 1 → rNw l l' i) (hg : (g' = 1 ∧ (g = 1 ∨ v = 1)) ∨ (g' = 0 ∧ g = 0 ∧ v = 0)) : rG6 m l' g' rd (i + 1) := by
  obtain ⟨-, s2, s3, s4⟩ := h
  subst eQ
  have mo := cnJ_mo hM
  refine ⟨hS, by omega, fun z => ?_, fun z k k0 k1 kc => ?_⟩
  · rcases hg with ⟨-, y | y⟩ | ⟨y, -⟩
    · have := s3 y
      omega
    · have := cnJ_lt i0 i1 hM (h1 y)
      omega
    · omega
  · rcases hg with ⟨y, -⟩ | ⟨-, y1, y2⟩
    · omega
    · have eJ : Jr l' = Jr l := by
        funext a b
        exact propext ⟨(h0 y2).1 a b, hM a b⟩
      by_cases e : k = i
      · subst e
        exact (h0 y2).2
      · have q := s4 y1 k k0 (by omega) kc
        unfold rC1 at q ⊢
        rw [eJ]
        exact q
theorem rG6_n {m : wk_M} {l : Nat → Int → Int64} {g g' rd i : Int} (e : g' = g) (h : rG6 m l g rd i) (hn : ¬ clR m.1 i) : rG6 m l g' rd (i + 1) := by
  obtain ⟨s1, s2, s3, s4⟩ := h
  subst e
  refine ⟨s1, s2, s3, fun z k k0 k1 kc => ?_⟩
  by_cases e : k = i
  · subst e
    exact absurd kc hn
  · exact s4 z k k0 (by omega) kc
