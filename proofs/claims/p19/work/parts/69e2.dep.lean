def hN (f : Nat → Int → Int) (i x : Int) : Prop := (cLl f i ∧ x = 3 * 32 + i) ∨ (¬ cLl f i ∧ f 2 i = 7 ∧ x = i)
def heU (f : Nat → Int → Int) (i x a b : Int) : Prop := a = x ∧ b = 224 + f 9 i * 7 + 3
def heR (f : Nat → Int → Int) (l : Nat → Int → Int64) (i x n a b : Int) : Prop := fX (l 22 n) i ∧ a = x ∧ dSr f 8 5 n b
def heS (f : Nat → Int → Int) (l : Nat → Int → Int64) (i x n k c j : Int) : Prop := fX (l 22 n) i ∧ (x < 224 ∧ k = 2 ∧ c = x % 32) ∧ j = n ∧ (f 2 n = 8 ∨ cLl f n)
def heA (f : Nat → Int → Int) (l : Nat → Int → Int64) (i a b : Int) : Prop := ∃ x, hN f i x ∧ (heU f i x a b ∨ eX (f 10 (f 9 i)) (f 11 (f 9 i)) (fun k => heR f l i x k a b))
def heB (f : Nat → Int → Int) (l : Nat → Int → Int64) (i k c j : Int) : Prop := ∃ x, hN f i x ∧ (n3 k c j ∨ eX (f 10 (f 9 i)) (f 11 (f 9 i)) (fun n => heS f l i x n k c j))
theorem hN_ex {f : Nat → Int → Int} {i x : Int} (P : Int → Prop) (h : hN f i x) : P x ↔ ∃ x, hN f i x ∧ P x := by
  refine ⟨fun q => ⟨x, h, q⟩, fun ⟨x', h', q⟩ => ?_⟩
  have e : x' = x := by
    unfold hN cLl at h h'
    omega
  rw [← e]
  exact q
def haR (f : Nat → Int → Int) (l : Nat → Int → Int64) (i n a b : Int) : Prop := fX (l 22 n) i ∧ a = i ∧ dSr f 5 6 n b
def haS (f : Nat → Int → Int) (l : Nat → Int → Int64) (i n k c j : Int) : Prop := fX (l 22 n) i ∧ (i < 224 ∧ k = 3 ∧ c = i % 32) ∧ j = n ∧ (f 2 n = 5 ∨ cLl f n)
def haA (f : Nat → Int → Int) (l : Nat → Int → Int64) (i a b : Int) : Prop := n2 a b ∨ eX (f 10 (f 9 i)) (f 11 (f 9 i)) (fun k => haR f l i k a b)
def haB (f : Nat → Int → Int) (l : Nat → Int → Int64) (i k c j : Int) : Prop := n3 k c j ∨ eX (f 10 (f 9 i)) (f 11 (f 9 i)) (fun n => haS f l i n k c j)

set_option maxHeartbeats 8000000 in
set_option maxRecDepth 20000 in
theorem k55x {Z : sm_Z} (hZ : Z.2.2.2 = tb_N) (m : wk_M) (f : Nat → Int → Int) (l : Nat → Int → Int64) (hc : cE f l m) (i : Int) (i0 : 0 ≤ i) (i1 : i ≤ 31) (hi : i < f 1 (4 : Nat)) (hp : pOK f (f 9 i)) (h : dM m.1) : wC Z 4 55 [14, 15, 16] [.inr (.inl 13), .inl i] m (fun r m' => r = none ∧ dM m'.1 ∧ dA (fun a b => heA f l i a b) (fun k c j => heB f l i k c j) m.1 m'.1) := by
  obtain ⟨J0, hJ0⟩ : ∃ J : Int →Int →Int →Int → wk_M → Prop, ∀ ia pa x n m', J ia pa x n m' ↔ ((i = ia ∧ f 9 i = pa) ∧ (hN f i x ∧ 0 ≤ x ∧ x ≤ 251) ∧ (f 10 (f 9 i) ≤ n ∧ n ≤ f 11 (f 9 i)) ∧ dM m'.1 ∧ dA (fun a b => heU f i x a b ∨ eX (f 10 (f 9 i)) n (fun k => heR f l i x k a b)) (fun k c j => n3 k c j ∨ eX (f 10 (f 9 i)) n (fun n => heS f l i x n k c j)) m.1 m'.1) := ⟨_, fun _ _ _ _ _ => Iff.rfl⟩
  refine wC.gen fun Q hQ => wk_E hZ (by exact rfl) [(79, [(3, 13), (1, 0), (1, 0), (1, 0), (1, 0)], fun vs _ m' => (match vs with
    | [ia, pa, x, n] => J0 ia pa x n m'
    | _ => False), fun vs _ m' => (match vs with
    | [ia, pa, x, n] => (32 - n : Int).toNat
    | _ => 0))] rfl (fun hr hs => ⟨?_, trivial⟩) (fun hr hs => ?_)
  · have e1 : ab_lo = -2147483648 := rfl
    have e2 : ab_hi = 2147483647 := rfl
    intro m2 hr2 hf2 ia ial iah pa pal pah x xl xh n nl nh hI
    have hI := (hJ0 _ _ _ _ _).mp hI
    obtain ⟨⟨rfl, rfl⟩, ⟨hN, x0, x1⟩, ⟨n0, n1⟩, hd, hA0⟩ := hI
    obtain ⟨⟨p0, p1⟩, hp2, hp3, hp4, hp5⟩ := hp
    have hc2 := cE_fr hf2 rfl hc
    have e11 : m2.1 11 (f 9 i) = f 11 (f 9 i) := congrFun (hc2.1 11 (by decide)) _
    have e22 : m2.2 22 n = l 22 n := congrFun (hc2.2 22 (by decide) (by decide)) n
    repeat' first | (intro h; exact absurd h (by decide)) | (intro h; exact absurd rfl h) | refine And.intro ?_ ?_ | intro _ | refine Or.inl ⟨by omega, by omega, ?_⟩ | refine Or.inr ?_ | exact trivial | (refine wk_use (k56x hZ _ _ (by omega) (by omega) _ (by omega) (by omega)) rfl rfl ?_; rintro - _ _ - - - ⟨_, rfl, hm, ⟨rfl, hx⟩ | ⟨rfl, hx⟩⟩ <;> refine Or.inl ⟨[], hm, ?_⟩ <;> clear hm) | (refine wk_use (k57x hZ _ f l hc2 _ _ _ _ _ (by omega) (by omega) (by omega) (by omega) (by omega) (by omega) (by omega) (by omega) hd) rfl rfl ?_; rintro - _ _ - hfr - ⟨rfl, hd2, hA⟩; refine Or.inr ?_)
    all_goals first
      | omega
      | (show (32 - (_ : Int) : Int).toNat < (32 - (_ : Int) : Int).toNat; omega)
      | exact hQ _ _ ⟨rfl, hd, dA_if (dA_e (A := fun n => fun a b => heU f i x a b ∨ eX (f 10 (f 9 i)) n (fun k => heR f l i x k a b)) (B := fun n => fun k c j => n3 k c j ∨ eX (f 10 (f 9 i)) n (fun n => heS f l i x n k c j)) hA0 (by omega : n = f 11 (f 9 i))) (fun a b _ _ _ _ => hN_ex (fun x => heU f i x a b ∨ eX (f 10 (f 9 i)) (f 11 (f 9 i)) (fun k => heR f l i x k a b)) hN) (fun k c j _ _ _ _ _ _ => hN_ex (fun x => n3 k c j ∨ eX (f 10 (f 9 i)) (f 11 (f 9 i)) (fun n => heS f l i x n k c j)) hN)⟩
      | (show J0 _ _ _ _ _; refine (hJ0 _ _ _ _ _).mpr ⟨⟨rfl, rfl⟩, ⟨hN, x0, x1⟩, ⟨by omega, by omega⟩, hd2, dA_nx hA0 (dA_if hA (fun _ _ _ _ _ _ => ⟨fun q => ⟨by rw [← e22]; exact hx, q⟩, fun q => q.2⟩) (fun _ _ _ _ _ _ _ _ _ => ⟨fun q => ⟨by rw [← e22]; exact hx, q⟩, fun q => q.2⟩)) n0⟩)
      | (show J0 _ _ _ _ _; refine (hJ0 _ _ _ _ _).mpr ⟨⟨rfl, rfl⟩, ⟨hN, x0, x1⟩, ⟨by omega, by omega⟩, hd, dA_sk hA0 n0 (fun _ _ q => hx (by rw [e22]; exact q.1)) (fun _ _ _ q => hx (by rw [e22]; exact q.1))⟩)
  · have e1 : ab_lo = -2147483648 := rfl
    have e2 : ab_hi = 2147483647 := rfl
    have e2 : m.1 2 i = f 2 i := congrFun (hc.1 2 (by decide)) i
    have e6 : m.1 6 i = f 6 i := congrFun (hc.1 6 (by decide)) i
    have e9 : m.1 9 i = f 9 i := congrFun (hc.1 9 (by decide)) i
    have ec : m.1 1 (4 : Nat) = f 1 (4 : Nat) := congrFun (hc.1 1 (by decide)) _
    obtain ⟨⟨p0, p1⟩, hp2, hp3, hp4, hp5⟩ := hp
    repeat' first | (intro h; exact absurd h (by decide)) | (intro h; exact absurd rfl h) | refine And.intro ?_ ?_ | intro _ | refine Or.inl ⟨by omega, by omega, ?_⟩ | refine Or.inr ?_ | exact trivial | (refine wk_use (k33 hZ _ _) rfl rfl ?_; rintro - _ _ - - - ⟨_, rfl, hm, ⟨rfl, _⟩ | ⟨rfl, _⟩⟩ <;> refine Or.inl ⟨[], hm, ?_⟩ <;> clear hm) | (refine wk_use (k50 hZ _ _ _ (by omega) (by omega) (by omega) (by omega)) rfl rfl ?_; rintro - _ _ - - - ⟨_, rfl, hm, rfl⟩; refine Or.inl ⟨[], hm, ?_⟩; clear hm) | (refine wk_use (k47 hZ _ _ _ (by omega) (by omega) (by omega) (by omega)) rfl rfl ?_; rintro - _ _ - - - ⟨_, rfl, hm, rfl⟩; refine Or.inl ⟨[], hm, ?_⟩; clear hm) | (refine wk_use (k48x hZ _ _ _ _ (by omega) (by omega) (by omega) (by omega) (by omega) (by omega) h) rfl rfl ?_; rintro - _ _ - hfr - ⟨rfl, hd2, hA⟩; have hc3 := cE_fr hfr rfl hc; refine Or.inr ?_)
    all_goals first
      | omega
      | trivial
      | exact hQ _ _ ⟨rfl, h, dA_if dA_re (fun a b _ _ _ _ => ⟨fun z => z.elim, fun ⟨x, q, _⟩ => by unfold hN cLl at q; omega⟩) (fun k c j _ _ _ _ _ _ => ⟨fun z => z.elim, fun ⟨x, q, _⟩ => by unfold hN cLl at q; omega⟩)⟩
      | (show J0 _ _ _ _ _; refine (hJ0 _ _ _ _ _).mpr ⟨⟨rfl, e9.symm⟩, ⟨by unfold hN cLl; omega, by omega, by omega⟩, ⟨Int.le_of_eq (show _ = f 10 (f 9 i) from by rw [hc3.1 10 (by decide), e9]).symm, Int.le_trans (Int.le_of_eq (show _ = f 10 (f 9 i) from by rw [hc3.1 10 (by decide), e9])) hp3⟩, hd2, dA_in _ _ (dA_if hA (fun a b _ _ _ _ => by unfold heU; omega) (fun k c j _ _ _ _ _ _ => ⟨fun q => by omega, fun q => q.elim⟩)) (Int.le_of_eq (show _ = f 10 (f 9 i) from by rw [hc3.1 10 (by decide), e9]))⟩)

set_option maxHeartbeats 8000000 in
set_option maxRecDepth 20000 in
theorem k58x {Z : sm_Z} (hZ : Z.2.2.2 = tb_N) (m : wk_M) (f : Nat → Int → Int) (l : Nat → Int → Int64) (hc : cE f l m) (i : Int) (i0 : 0 ≤ i) (i1 : i ≤ 31) (hi : i < f 1 (4 : Nat)) (hp : pOK f (f 9 i)) (h : dM m.1) : wC Z 4 58 [14, 15, 16] [.inr (.inl 13), .inl i] m (fun r m' => r = none ∧ dM m'.1 ∧ dA (fun a b => haA f l i a b) (fun k c j => haB f l i k c j) m.1 m'.1) := by
  obtain ⟨J0, hJ0⟩ : ∃ J : Int →Int →Int → wk_M → Prop, ∀ ia pa n m', J ia pa n m' ↔ ((i = ia ∧ f 9 i = pa) ∧ (f 10 (f 9 i) ≤ n ∧ n ≤ f 11 (f 9 i)) ∧ dM m'.1 ∧ dA (fun a b => n2 a b ∨ eX (f 10 (f 9 i)) n (fun k => haR f l i k a b)) (fun k c j => n3 k c j ∨ eX (f 10 (f 9 i)) n (fun n => haS f l i n k c j)) m.1 m'.1) := ⟨_, fun _ _ _ _ => Iff.rfl⟩
  refine wC.gen fun Q hQ => wk_E hZ (by exact rfl) [(20, [(3, 13), (1, 0), (1, 0), (1, 0)], fun vs _ m' => (match vs with
    | [ia, pa, n] => J0 ia pa n m'
    | _ => False), fun vs _ m' => (match vs with
    | [ia, pa, n] => (32 - n : Int).toNat
    | _ => 0))] rfl (fun hr hs => ⟨?_, trivial⟩) (fun hr hs => ?_)
  · have e1 : ab_lo = -2147483648 := rfl
    have e2 : ab_hi = 2147483647 := rfl
    intro m2 hr2 hf2 ia ial iah pa pal pah n nl nh hI
    have hI := (hJ0 _ _ _ _).mp hI
    obtain ⟨⟨rfl, rfl⟩, ⟨n0, n1⟩, hd, hA0⟩ := hI
    obtain ⟨⟨p0, p1⟩, hp2, hp3, hp4, hp5⟩ := hp
    have hc2 := cE_fr hf2 rfl hc
    have e11 : m2.1 11 (f 9 i) = f 11 (f 9 i) := congrFun (hc2.1 11 (by decide)) _
    have e22 : m2.2 22 n = l 22 n := congrFun (hc2.2 22 (by decide) (by decide)) n
    repeat' first | (intro h; exact absurd h (by decide)) | (intro h; exact absurd rfl h) | refine And.intro ?_ ?_ | intro _ | refine Or.inl ⟨by omega, by omega, ?_⟩ | refine Or.inr ?_ | exact trivial | (refine wk_use (k56x hZ _ _ (by omega) (by omega) _ (by omega) (by omega)) rfl rfl ?_; rintro - _ _ - - - ⟨_, rfl, hm, ⟨rfl, hx⟩ | ⟨rfl, hx⟩⟩ <;> refine Or.inl ⟨[], hm, ?_⟩ <;> clear hm) | (refine wk_use (k57x hZ _ f l hc2 _ _ _ _ _ (by omega) (by omega) (by omega) (by omega) (by omega) (by omega) (by omega) (by omega) hd) rfl rfl ?_; rintro - _ _ - hfr - ⟨rfl, hd2, hA⟩; refine Or.inr ?_)
    all_goals first
      | omega
      | (show (32 - (_ : Int) : Int).toNat < (32 - (_ : Int) : Int).toNat; omega)
      | exact hQ _ _ ⟨rfl, hd, dA_e (A := fun n => fun a b => n2 a b ∨ eX (f 10 (f 9 i)) n (fun k => haR f l i k a b)) (B := fun n => fun k c j => n3 k c j ∨ eX (f 10 (f 9 i)) n (fun n => haS f l i n k c j)) hA0 (by omega : n = f 11 (f 9 i))⟩
      | (show J0 _ _ _ _; refine (hJ0 _ _ _ _).mpr ⟨⟨rfl, rfl⟩, ⟨by omega, by omega⟩, hd2, dA_nx hA0 (dA_if hA (fun _ _ _ _ _ _ => ⟨fun q => ⟨by rw [← e22]; exact hx, q⟩, fun q => q.2⟩) (fun _ _ _ _ _ _ _ _ _ => ⟨fun q => ⟨by rw [← e22]; exact hx, q⟩, fun q => q.2⟩)) n0⟩)
      | (show J0 _ _ _ _; refine (hJ0 _ _ _ _).mpr ⟨⟨rfl, rfl⟩, ⟨by omega, by omega⟩, hd, dA_sk hA0 n0 (fun _ _ q => hx (by rw [e22]; exact q.1)) (fun _ _ _ q => hx (by rw [e22]; exact q.1))⟩)
  · have e1 : ab_lo = -2147483648 := rfl
    have e2 : ab_hi = 2147483647 := rfl
    have e2 : m.1 2 i = f 2 i := congrFun (hc.1 2 (by decide)) i
    have e6 : m.1 6 i = f 6 i := congrFun (hc.1 6 (by decide)) i
    have e9 : m.1 9 i = f 9 i := congrFun (hc.1 9 (by decide)) i
    have ec : m.1 1 (4 : Nat) = f 1 (4 : Nat) := congrFun (hc.1 1 (by decide)) _
    obtain ⟨⟨p0, p1⟩, hp2, hp3, hp4, hp5⟩ := hp
    repeat' first | (intro h; exact absurd h (by decide)) | (intro h; exact absurd rfl h) | refine And.intro ?_ ?_ | intro _ | refine Or.inl ⟨by omega, by omega, ?_⟩ | refine Or.inr ?_ | exact trivial
    all_goals first
      | omega
      | trivial
      | (show J0 _ _ _ _; refine (hJ0 _ _ _ _).mpr ⟨⟨rfl, e9.symm⟩, ⟨Int.le_of_eq (show _ = f 10 (f 9 i) from by rw [hc.1 10 (by decide), e9]).symm, Int.le_trans (Int.le_of_eq (show _ = f 10 (f 9 i) from by rw [hc.1 10 (by decide), e9])) hp3⟩, h, dA_in _ _ dA_re (Int.le_of_eq (show _ = f 10 (f 9 i) from by rw [hc.1 10 (by decide), e9]))⟩)

def enR (f : Nat → Int → Int) (p n a b : Int) : Prop := (a = 224 + p * 7 + 5 ∧ dSr f 8 5 n b) ∨ (a = 224 + p * 7 + 6 ∧ dSr f 5 6 n b)
def enA (f : Nat → Int → Int) (l : Nat → Int → Int64) (p a b : Int) : Prop := rdA f l (224 + p * 7 + 4) (f 11 p) 0 p a b ∨ eX (f 10 p) (f 11 p) (fun n => enR f p n a b)
theorem rdB_n {f : Nat → Int → Int} {l : Nat → Int → Int64} {x y z p k c j : Int} (h : 224 ≤ x) : rdB f l x y z p k c j ↔ n3 k c j := (or_no (fun ⟨_, _, q⟩ => by have := q.1.1; omega)).symm

set_option maxHeartbeats 8000000 in
set_option maxRecDepth 20000 in
theorem k59x {Z : sm_Z} (hZ : Z.2.2.2 = tb_N) (m : wk_M) (f : Nat → Int → Int) (l : Nat → Int → Int64) (hc : cE f l m) (p : Int) (hp : pOK f p) (h : dM m.1) : wC Z 4 59 [14, 15, 16] [.inr (.inl 13), .inl p] m (fun r m' => r = none ∧ dM m'.1 ∧ dA (fun a b => enA f l p a b) n3 m.1 m'.1) := by
  obtain ⟨J0, hJ0⟩ : ∃ J : Int →Int → wk_M → Prop, ∀ pa n m', J pa n m' ↔ (p = pa ∧ (f 10 p ≤ n ∧ n ≤ f 11 p) ∧ dM m'.1 ∧ dA (fun a b => rdA f l (224 + p * 7 + 4) (f 11 p) 0 p a b ∨ eX (f 10 p) n (fun n => enR f p n a b)) (fun k c j => n3 k c j ∨ eX (f 10 p) n (fun _ => n3 k c j)) m.1 m'.1) := ⟨_, fun _ _ _ => Iff.rfl⟩
  refine wC.gen fun Q hQ => wk_E hZ (by exact rfl) [(30, [(3, 13), (1, 0), (1, 0)], fun vs _ m' => (match vs with
    | [pa, n] => J0 pa n m'
    | _ => False), fun vs _ m' => (match vs with
    | [pa, n] => (32 - n : Int).toNat
    | _ => 0))] rfl (fun hr hs => ⟨?_, trivial⟩) (fun hr hs => ?_)
  · have e1 : ab_lo = -2147483648 := rfl
    have e2 : ab_hi = 2147483647 := rfl
    intro m2 hr2 hf2 pa pal pah n nl nh hI
    have hI := (hJ0 _ _ _).mp hI
    obtain ⟨rfl, ⟨n0, n1⟩, hd, hA0⟩ := hI
    obtain ⟨⟨p0, p1⟩, hp2, hp3, hp4, hp5⟩ := hp
    have hc2 := cE_fr hf2 rfl hc
    have e11 : m2.1 11 p = f 11 p := congrFun (hc2.1 11 (by decide)) p
    repeat' first | (intro h; exact absurd h (by decide)) | (intro h; exact absurd rfl h) | refine And.intro ?_ ?_ | intro _ | refine Or.inl ⟨by omega, by omega, ?_⟩ | refine Or.inr ?_ | exact trivial | (refine wk_use (k47 hZ _ _ _ (by omega) (by omega) (by omega) (by omega)) rfl rfl ?_; rintro - _ _ - - - ⟨_, rfl, hm, rfl⟩; refine Or.inl ⟨[], hm, ?_⟩; clear hm) | (refine wk_use (k57x hZ _ f l hc3 _ _ _ _ _ (by omega) (by omega) (by omega) (by omega) (by omega) (by omega) (by omega) (by omega) hd2) rfl rfl ?_; rintro - _ _ - hfr - ⟨rfl, hd3, hB⟩; refine Or.inr ?_) | (refine wk_use (k57x hZ _ f l hc2 _ _ _ _ _ (by omega) (by omega) (by omega) (by omega) (by omega) (by omega) (by omega) (by omega) hd) rfl rfl ?_; rintro - _ _ - hfr - ⟨rfl, hd2, hA⟩; have hc3 := cE_fr hfr rfl hc2; refine Or.inr ?_)
    all_goals first
      | omega
      | (show (32 - (_ : Int) : Int).toNat < (32 - (_ : Int) : Int).toNat; omega)
      | exact hQ _ _ ⟨rfl, hd, dA_if (dA_e (A := fun n => fun a b => rdA f l (224 + p * 7 + 4) (f 11 p) 0 p a b ∨ eX (f 10 p) n (fun n => enR f p n a b)) (B := fun n => fun k c j => n3 k c j ∨ eX (f 10 p) n (fun _ => n3 k c j)) hA0 (by omega : n = f 11 p)) (fun a b _ _ _ _ => Iff.rfl) (fun k c j _ _ _ _ _ _ => (or_no (fun ⟨_, _, q⟩ => q)).symm)⟩
      | (show J0 _ _ _; refine (hJ0 _ _ _).mpr ⟨rfl, ⟨by omega, by omega⟩, hd3, dA_nx hA0 (dA_if (dA_tr hA hB) (fun a b _ _ _ _ => Iff.rfl) (fun k c j _ _ _ _ _ _ => ⟨fun q => by omega, fun q => q.elim⟩)) n0⟩)
  · have e1 : ab_lo = -2147483648 := rfl
    have e2 : ab_hi = 2147483647 := rfl
    have e10 : m.1 10 p = f 10 p := congrFun (hc.1 10 (by decide)) p
    have e11 : m.1 11 p = f 11 p := congrFun (hc.1 11 (by decide)) p
    have hp' := hp
    obtain ⟨⟨p0, p1⟩, hp2, hp3, hp4, hp5⟩ := hp
    repeat' first | (intro h; exact absurd h (by decide)) | (intro h; exact absurd rfl h) | refine And.intro ?_ ?_ | intro _ | refine Or.inl ⟨by omega, by omega, ?_⟩ | refine Or.inr ?_ | exact trivial | (refine wk_use (k47 hZ _ _ _ (by omega) (by omega) (by omega) (by omega)) rfl rfl ?_; rintro - _ _ - - - ⟨_, rfl, hm, rfl⟩; refine Or.inl ⟨[], hm, ?_⟩; clear hm) | (refine wk_use (k52x hZ _ f l hc _ _ _ _ (by omega) (by omega) (by omega) (by omega) (by omega) (by omega) hp' h) rfl rfl ?_; rintro - _ _ - hfr - ⟨rfl, hd2, hA⟩; have hc3 := cE_fr hfr rfl hc; rw [e11] at hA; have e10' := congrFun (hc3.1 10 (by decide)) p; refine Or.inr ?_)
    all_goals first
      | omega
      | trivial
      | (show J0 _ _ _; refine (hJ0 _ _ _).mpr ⟨rfl, ⟨by omega, by omega⟩, hd2, dA_in _ _ (dA_if hA (fun a b _ _ _ _ => Iff.rfl) (fun k c j _ _ _ _ _ _ => rdB_n (by omega))) (by omega)⟩)

