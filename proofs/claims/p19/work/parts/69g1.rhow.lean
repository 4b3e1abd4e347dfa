/-! the reference: what depends on what, exactly -/
theorem prI (P : Prop) : ∃ t : Int, P ↔ t = 1 := by
  by_cases h : P
  · exact ⟨1, iff_of_true h rfl⟩
  · exact ⟨0, iff_of_false h (by decide)⟩
def aT (n : Int) : Int := if n < 32 then n else if n < 224 then (n - 32) / 6 else 32 + (n - 224) / 7
def pT (n : Int) : Int := if 32 ≤ n ∧ n < 224 then (n - 32) % 6 else -1
def rL (n : Int) : Int := if 224 ≤ n then (n - 224) % 7 else -1
theorem aT_r (n : Int) : (n < 32 ∧ aT n = n) ∨ (32 ≤ n ∧ n < 224 ∧ aT n = (n - 32) / 6) ∨ (224 ≤ n ∧ aT n = 32 + (n - 224) / 7) := by
  unfold aT
  split
  · omega
  · split <;> omega
theorem pT_r (n : Int) : (32 ≤ n ∧ n < 224 ∧ pT n = (n - 32) % 6) ∨ ((n < 32 ∨ 224 ≤ n) ∧ pT n = -1) := by
  unfold pT
  split <;> omega
theorem rL_r (n : Int) : (224 ≤ n ∧ rL n = (n - 224) % 7) ∨ (n < 224 ∧ rL n = -1) := by
  unfold rL
  split <;> omega
def prR (f : Nat → Int → Int) (n : Int) : Int := if 224 ≤ n then (n - 224) / 7 else f 53 (aT n)
theorem prR_r (f : Nat → Int → Int) (n : Int) : (224 ≤ n ∧ prR f n = (n - 224) / 7) ∨ (n < 224 ∧ prR f n = f 53 (aT n)) := by
  unfold prR
  split <;> omega
def clR (f : Nat → Int → Int) (i : Int) : Prop := 13 ≤ f 47 i ∧ f 47 i ≤ 16
def xsR (f : Nat → Int → Int) (n : Int) : Prop := (224 ≤ n ∧ (n - 224) / 7 < f 46 (6 : Nat)) ∨ ((n < 224 ∧ aT n < f 46 (0 : Nat)) ∧ ((n < 32 ∧ ¬ f 47 (aT n) = 10 ∧ ¬ f 47 (aT n) = 12 ∧ ¬ f 47 (aT n) = 18) ∨ (32 ≤ n ∧ clR f (aT n))))
def fs1 (o : Int) : Prop := (1 ≤ o ∧ o ≤ 5) ∨ o = 7 ∨ o = 8 ∨ o = 9 ∨ o = 11 ∨ o = 17
def fs2 (o : Int) : Prop := (1 ≤ o ∧ o ≤ 5) ∨ o = 8
def rdr (f : Nat → Int → Int) (n x : Int) : Prop := (rL n = 4 ∧ x = 0) ∨ (n < 224 ∧ ((pT n = 0 ∧ f 49 (aT n) = x) ∨ (pT n = 1 ∧ f 50 (aT n) = x) ∨ (n < 32 ∧ ((fs1 (f 47 (aT n)) ∧ f 49 (aT n) = x) ∨ (fs2 (f 47 (aT n)) ∧ f 50 (aT n) = x)))))
def ctl (f : Nat → Int → Int) (n x : Int) : Prop := n < 224 ∧ ((32 ≤ n ∧ x = aT n) ∨ (n < 32 ∧ ((0 ≤ f 54 (aT n) ∧ x = f 54 (aT n)) ∨ (f 54 (aT n) < 0 ∧ x = 224 + 7 * f 53 (aT n)))))
def bgS (f : Nat → Int → Int) (p j : Int) : Prop := (f 51 p < f 52 p ∧ j = f 51 p) ∨ (f 52 p ≤ f 51 p ∧ j = 32 + p)
def frb (f : Nat → Int → Int) (x p y : Int) : Prop := rs (Sr f) (bgS f p) (dfn f x) y
def arv (f : Nat → Int → Int) (x n y : Int) : Prop := rs (Sr f) (fun j => wy f n 0 j) (dfn f x) y
def vlu (f : Nat → Int → Int) (n : Int) : Prop := pT n = 3 ∨ (n < 32 ∧ f 47 (aT n) ≤ 7)
def dat (f : Nat → Int → Int) (n x : Int) : Prop := ((rL x = 1 ∨ rL x = 2) ∧ rdr f n (rL x - 1) ∧ frb f (rL x - 1) (prR f n) (aT n)) ∨ (vlu f x ∧ rdr f n (f 48 (aT x)) ∧ arv f (f 48 (aT x)) (aT x) (aT n))
def wrt (f : Nat → Int → Int) (n : Int) : Prop := (n < 32 ∧ f 47 (aT n) = 8) ∨ pT n = 4
def lks (f : Nat → Int → Int) (n : Int) : Prop := (n < 32 ∧ f 47 (aT n) = 7) ∨ pT n = 2
def stp (f : Nat → Int → Int) (n : Int) : Prop := (n < 32 ∧ f 47 (aT n) = 5) ∨ pT n = 5
def hep (f : Nat → Int → Int) (l : Nat → Int → Int64) (n x : Int) : Prop := (rL n = 5 ∧ wrt f x) ∨ (lks f n ∧ (rL x = 3 ∨ (wrt f x ∧ fX (l 59 (aT x)) (aT n))))
def hal (f : Nat → Int → Int) (l : Nat → Int → Int64) (n x : Int) : Prop := stp f x ∧ (rL n = 6 ∨ (n < 32 ∧ fX (l 59 (aT x)) (aT n)))
/-- the k-th kind: n depends on x so -/
def Hk (f : Nat → Int → Int) (l : Nat → Int → Int64) (k n x : Int) : Prop := (xsR f n ∧ xsR f x ∧ prR f n = prR f x) ∧ ((k = 0 ∧ ctl f n x) ∨ (k = 1 ∧ dat f n x) ∨ (k = 2 ∧ hep f l n x) ∨ (k = 3 ∧ hal f l n x))
theorem hk_mk {v : Int} {A C D E H : Prop} (hA : A) (h0 : v % 2 = 1 ↔ C) (h1 : v / 2 % 2 = 1 ↔ D) (h2 : v / 4 % 2 = 1 ↔ E) (h3 : v / 8 % 2 = 1 ↔ H) : ∀ k, 0 ≤ k → k ≤ 3 → (bq v k ↔ A ∧ ((k = 0 ∧ C) ∨ (k = 1 ∧ D) ∨ (k = 2 ∧ E) ∨ (k = 3 ∧ H))) := by
  intro k k0 k1
  unfold bq
  rw [h0, h1, h2, h3]
  exact ⟨fun q => ⟨hA, q⟩, fun q => q.2⟩
theorem hk_no {A : Prop} {B : Int → Prop} (hA : ¬ A) : ∀ k, 0 ≤ k → k ≤ 3 → (bq 0 k ↔ A ∧ B k) := by
  intro k k0 k1
  refine ⟨fun q => ?_, fun q => absurd q.1 hA⟩
  unfold bq at q
  omega
theorem wy0_pos {f : Nat → Int → Int} {n v : Int} (hv : wy f n 0 v) (n0 : 0 ≤ n) (n1 : n < 32) (ho : f 47 n ≤ 7 ∨ (13 ≤ f 47 n ∧ f 47 n ≤ 16)) (hp : 0 ≤ f 53 n) : 0 ≤ v := by
  unfold wy rBh at hv
  omega
theorem rg_53 {m : wk_M} (hr : wk_rg rG m) {n : Int} (n0 : 0 ≤ n) : 0 ≤ m.1 53 n ∧ m.1 53 n ≤ 3 := hr.2 53 0 32 rfl n n0
theorem fN_1 {v : Int} (v0 : 0 ≤ v) (v1 : v ≤ 35) : fN 35 (Int64.ofNat 1 <<< ((Int32.ofInt v).toInt64 &&& 63)) := by
  intro j hj
  rw [fX_one v0 (by omega)] at hj
  show j ≤ 35
  omega

set_option maxHeartbeats 8000000 in
set_option maxRecDepth 20000 in
theorem k156x {Z : sm_Z} (hZ : Z.2.2.2 = tb_N) (m : wk_M) (n : Int) (n0 : 0 ≤ n) (n1 : n ≤ 251) : wC Z 1 156 [] [.inl n] m (fun r m' => ∃ v : Int, r = some (.inl v) ∧ m' = m ∧ v = aT n) := by
  refine wC.gen fun Q hQ => wk_E hZ (by exact rfl) [] rfl (fun _ _ => trivial) fun hr hs => ?_
  have e1 : ab_lo = -2147483648 := rfl
  have e2 : ab_hi = 2147483647 := rfl
  have ha := aT_r n
  repeat' first | refine And.intro ?_ ?_ | intro _ | refine Or.inl ⟨by omega, by omega, ?_⟩ | refine Or.inr ?_ | exact trivial
  all_goals first | omega | exact hQ _ _ ⟨_, rfl, rfl, by omega⟩

set_option maxHeartbeats 8000000 in
set_option maxRecDepth 20000 in
theorem k159x {Z : sm_Z} (hZ : Z.2.2.2 = tb_N) (m : wk_M) (n : Int) (n0 : 0 ≤ n) (n1 : n ≤ 251) : wC Z 1 159 [] [.inl n] m (fun r m' => ∃ v : Int, r = some (.inl v) ∧ m' = m ∧ v = rL n) := by
  refine wC.gen fun Q hQ => wk_E hZ (by exact rfl) [] rfl (fun _ _ => trivial) fun hr hs => ?_
  have e1 : ab_lo = -2147483648 := rfl
  have e2 : ab_hi = 2147483647 := rfl
  have ha := rL_r n
  repeat' first | refine And.intro ?_ ?_ | intro _ | refine Or.inl ⟨by omega, by omega, ?_⟩ | refine Or.inr ?_ | exact trivial
  all_goals first | omega | exact hQ _ _ ⟨_, rfl, rfl, by omega⟩

set_option maxHeartbeats 8000000 in
set_option maxRecDepth 20000 in
theorem k160x {Z : sm_Z} (hZ : Z.2.2.2 = tb_N) (m : wk_M) (n : Int) (n0 : 0 ≤ n) (n1 : n ≤ 251) : wC Z 1 160 [] [.inl n] m (fun r m' => ∃ v : Int, r = some (.inl v) ∧ m' = m ∧ v = pT n) := by
  refine wC.gen fun Q hQ => wk_E hZ (by exact rfl) [] rfl (fun _ _ => trivial) fun hr hs => ?_
  have e1 : ab_lo = -2147483648 := rfl
  have e2 : ab_hi = 2147483647 := rfl
  have ha := pT_r n
  repeat' first | refine And.intro ?_ ?_ | intro _ | refine Or.inl ⟨by omega, by omega, ?_⟩ | refine Or.inr ?_ | exact trivial
  all_goals first | omega | exact hQ _ _ ⟨_, rfl, rfl, by omega⟩

set_option maxHeartbeats 8000000 in
set_option maxRecDepth 20000 in
theorem k154x {Z : sm_Z} (hZ : Z.2.2.2 = tb_N) (m : wk_M) (n : Int) : wC Z 2 154 [] [.inr (.inl 46), .inl n] m (fun r m' => ∃ v : Int, r = some (.inl v) ∧ m' = m ∧ ((v = 1 ∧ (0 ≤ n ∧ n ≤ 251) ∧ xsR m.1 n) ∨ (v = 0 ∧ ((n < 0 ∨ 251 < n) ∨ ¬ xsR m.1 n)))) := by
  refine wC.gen fun Q hQ => wk_E hZ (by exact rfl) [] rfl (fun _ _ => trivial) fun hr hs => ?_
  have e1 : ab_lo = -2147483648 := rfl
  have e2 : ab_hi = 2147483647 := rfl
  have ha := aT_r n
  repeat' first | (intro h; exact absurd h (by decide)) | (intro h; exact absurd rfl h) | (intro _; exfalso; omega) | refine And.intro ?_ ?_ | intro _ | refine Or.inl ⟨by omega, by omega, ?_⟩ | refine Or.inr ?_ | exact trivial | (refine wk_use (k148 hZ _ _ (by omega) (by omega)) rfl rfl ?_; rintro - _ _ - - - ⟨_, rfl, hm, ⟨rfl, _⟩ | ⟨rfl, _⟩⟩ <;> refine Or.inl ⟨[], hm, ?_⟩ <;> clear hm)
  all_goals first | omega | exact hQ _ _ ⟨_, rfl, rfl, by rcases ha with ⟨_, e⟩ | ⟨_, _, e⟩ | ⟨_, e⟩ <;> unfold xsR clR <;> rw [e] <;> omega⟩

set_option maxHeartbeats 8000000 in
set_option maxRecDepth 20000 in
theorem k155x {Z : sm_Z} (hZ : Z.2.2.2 = tb_N) (m : wk_M) (n : Int) (n0 : 0 ≤ n) (n1 : n ≤ 251) : wC Z 2 155 [] [.inr (.inl 46), .inl n] m (fun r m' => ∃ v : Int, r = some (.inl v) ∧ m' = m ∧ (v = prR m.1 n ∧ 0 ≤ v ∧ v ≤ 3)) := by
  refine wC.gen fun Q hQ => wk_E hZ (by exact rfl) [] rfl (fun _ _ => trivial) fun hr hs => ?_
  have e1 : ab_lo = -2147483648 := rfl
  have e2 : ab_hi = 2147483647 := rfl
  have ha := aT_r n
  have hp := prR_r m.1 n
  repeat' first | refine And.intro ?_ ?_ | intro _ | refine Or.inl ⟨by omega, by omega, ?_⟩ | refine Or.inr ?_ | exact trivial | (refine wk_use (k156x hZ _ _ (by omega) (by omega)) rfl rfl ?_; rintro - _ _ - - - ⟨_, rfl, hm, rfl⟩; refine Or.inl ⟨[], hm, ?_⟩; clear hm)
  all_goals first | omega | exact hQ _ _ ⟨_, rfl, rfl, by omega⟩

