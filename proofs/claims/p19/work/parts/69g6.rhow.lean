/-! depends, of the reference -/
def nod (n j : Int) : Int := if j < 0 then n else 32 + 6 * n + j
/-- the pairs looked at so far -/
def vis (j k j' k' : Int) : Prop := (-1 ≤ j' ∧ j' ≤ 5) ∧ (-1 ≤ k' ∧ k' ≤ 5) ∧ (j' < j ∨ (j' = j ∧ k' < k))
def dpS (f : Nat → Int → Int) (l : Nat → Int → Int64) (n x j k c : Int) : Prop := ∃ j' k', vis j k j' k' ∧ (j' < 0 ∨ ¬ c = 0) ∧ Hk f l c (nod n j') (nod x k')
theorem bq_or_t : (List.range 16).all (fun a => (List.range 16).all (fun b => decide ((Int32.ofInt (a : Int) ||| Int32.ofInt (b : Int)).toInt = ((a ||| b : Nat) : Int)) && (decide ((a ||| b) < 16) && (List.range 4).all (fun k => ((a ||| b) / 2 ^ k % 2 == 1) == (a / 2 ^ k % 2 == 1 || b / 2 ^ k % 2 == 1))))) = true := by decide +kernel
theorem bq_and_t : (List.range 16).all (fun a => decide ((Int32.ofInt (a : Int) &&& Int32.ofInt 14).toInt = ((a - a % 2 : Nat) : Int))) = true := by decide +kernel
theorem bq_or {a b z : Int} (a0 : 0 ≤ a ∧ a ≤ 15) (b0 : 0 ≤ b ∧ b ≤ 15) (e : z = (Int32.ofInt a ||| Int32.ofInt b).toInt) : (0 ≤ z ∧ z ≤ 15) ∧ ∀ k, 0 ≤ k → k ≤ 3 → (bq z k ↔ bq a k ∨ bq b k) := by
  obtain ⟨p, rfl⟩ := Int.eq_ofNat_of_zero_le a0.1
  obtain ⟨q, rfl⟩ := Int.eq_ofNat_of_zero_le b0.1
  have h := List.all_eq_true.mp (List.all_eq_true.mp bq_or_t p (List.mem_range.mpr (by omega))) q (List.mem_range.mpr (by omega))
  rw [Bool.and_eq_true, Bool.and_eq_true] at h
  obtain ⟨h1, h2, h3⟩ := h
  have h1 := of_decide_eq_true h1
  have h2 := of_decide_eq_true h2
  have h3 := List.all_eq_true.mp h3
  have g0 := eq_of_beq (h3 0 (by decide))
  have g1 := eq_of_beq (h3 1 (by decide))
  have g2 := eq_of_beq (h3 2 (by decide))
  have g3 := eq_of_beq (h3 3 (by decide))
  rw [h1] at e
  generalize hr : (p ||| q : Nat) = r at *
  have c : ∀ d : Nat, ((r / d % 2 == 1) = (p / d % 2 == 1 || q / d % 2 == 1)) → (r / d % 2 = 1 ↔ p / d % 2 = 1 ∨ q / d % 2 = 1) := by
    intro d hd
    have : (r / d % 2 == 1) = true ↔ (p / d % 2 == 1 || q / d % 2 == 1) = true := by rw [hd]
    rw [Bool.or_eq_true, beq_iff_eq, beq_iff_eq, beq_iff_eq] at this
    exact this
  have c0 := c 1 g0
  have c1 := c 2 g1
  have c2 := c 4 g2
  have c3 := c 8 g3
  subst e
  clear c h3 h1 hr g0 g1 g2 g3
  refine ⟨by clear c0 c1 c2 c3; omega, fun k k0 k1 => ?_⟩
  have hk : k = 0 ∨ k = 1 ∨ k = 2 ∨ k = 3 := by clear c0 c1 c2 c3; omega
  rcases hk with rfl | rfl | rfl | rfl
  · rw [bq_0, bq_0, bq_0]
    clear c1 c2 c3
    omega
  · rw [bq_1, bq_1, bq_1]
    clear c0 c2 c3
    omega
  · rw [bq_2, bq_2, bq_2]
    clear c0 c1 c3
    omega
  · rw [bq_3, bq_3, bq_3]
    clear c0 c1 c2
    omega
theorem bq_and {a z : Int} (a0 : 0 ≤ a ∧ a ≤ 15) (e : z = (Int32.ofInt a &&& Int32.ofInt 14).toInt) : (0 ≤ z ∧ z ≤ 15) ∧ ∀ k, 0 ≤ k → k ≤ 3 → (bq z k ↔ bq a k ∧ ¬ k = 0) := by
  obtain ⟨p, rfl⟩ := Int.eq_ofNat_of_zero_le a0.1
  have h := of_decide_eq_true (List.all_eq_true.mp bq_and_t p (List.mem_range.mpr (by omega)))
  rw [h] at e
  subst e
  refine ⟨by omega, fun k k0 k1 => ?_⟩
  have hk : k = 0 ∨ k = 1 ∨ k = 2 ∨ k = 3 := by omega
  rcases hk with rfl | rfl | rfl | rfl
  · rw [bq_0, bq_0]
    omega
  · rw [bq_1, bq_1]
    omega
  · rw [bq_2, bq_2]
    omega
  · rw [bq_3, bq_3]
    omega
theorem dpS_s {f : Nat → Int → Int} {l : Nat → Int → Int64} {n x j k c : Int} (j0 : -1 ≤ j) (j1 : j ≤ 5) (k0 : -1 ≤ k) (k1 : k ≤ 5) : dpS f l n x j (k + 1) c ↔ dpS f l n x j k c ∨ ((j < 0 ∨ ¬ c = 0) ∧ Hk f l c (nod n j) (nod x k)) := by
  constructor
  · rintro ⟨j', k', ⟨a, b, v⟩, q⟩
    by_cases e : j' = j ∧ k' = k
    · rw [e.1, e.2] at q
      exact Or.inr q
    · exact Or.inl ⟨j', k', ⟨a, b, by omega⟩, q⟩
  · rintro (⟨j', k', ⟨a, b, v⟩, q⟩ | q)
    · exact ⟨j', k', ⟨a, b, by omega⟩, q⟩
    · exact ⟨j, k, ⟨⟨j0, j1⟩, ⟨k0, k1⟩, Or.inr ⟨rfl, by omega⟩⟩, q⟩
theorem dpS_j {f : Nat → Int → Int} {l : Nat → Int → Int64} {n x j c : Int} : dpS f l n x (j + 1) (-1) c ↔ dpS f l n x j 6 c := by
  constructor
  · rintro ⟨j', k', ⟨a, b, v⟩, q⟩
    exact ⟨j', k', ⟨a, b, by omega⟩, q⟩
  · rintro ⟨j', k', ⟨a, b, v⟩, q⟩
    exact ⟨j', k', ⟨a, b, by omega⟩, q⟩
theorem dpS_0 {f : Nat → Int → Int} {l : Nat → Int → Int64} {n x c : Int} : ¬ dpS f l n x (-1) (-1) c := fun ⟨j', k', ⟨a, b, v⟩, _⟩ => by omega
theorem nod_n {n j : Int} (h : j < 0) : nod n j = n := if_pos h
theorem nod_p {n j : Int} (h : 0 ≤ j) : nod n j = 32 + 6 * n + j := if_neg (by omega)
def ndR (f : Nat → Int → Int) (n : Int) : Prop := (0 ≤ n ∧ n ≤ 31) ∧ xsR f n
def dpR (f : Nat → Int → Int) (l : Nat → Int → Int64) (n x v : Int) : Prop := (v = 0 ∧ (¬ f 46 (5 : Nat) = 1 ∨ ¬ ndR f n ∨ ¬ ndR f x)) ∨ ((f 46 (5 : Nat) = 1 ∧ ndR f n ∧ ndR f x) ∧ (0 ≤ v ∧ v ≤ 15) ∧ ∀ k, 0 ≤ k → k ≤ 3 → (bq v k ↔ dpS f l n x 6 (-1) k))
theorem dp_s {f : Nat → Int → Int} {l : Nat → Int → Int64} {n x j k g u z a b : Int} (j0 : -1 ≤ j) (j1 : j ≤ 5) (k0 : -1 ≤ k) (k1 : k ≤ 5) (g0 : 0 ≤ g ∧ g ≤ 15) (hg : ∀ c, 0 ≤ c → c ≤ 3 → (bq g c ↔ dpS f l n x j k c)) (u0 : 0 ≤ u ∧ u ≤ 15) (ea : nod n j = a) (eb : nod x k = b) (hu : ∀ c, 0 ≤ c → c ≤ 3 → (bq u c ↔ Hk f l c a b)) (ez : (j < 0 ∧ z = (Int32.ofInt g ||| Int32.ofInt u).toInt) ∨ (0 ≤ j ∧ ∃ y, y = (Int32.ofInt u &&& Int32.ofInt 14).toInt ∧ z = (Int32.ofInt g ||| Int32.ofInt y).toInt)) : (0 ≤ z ∧ z ≤ 15) ∧ ∀ c, 0 ≤ c → c ≤ 3 → (bq z c ↔ dpS f l n x j (k + 1) c) := by
  subst ea eb
  rcases ez with ⟨q, ez⟩ | ⟨q, y, ey, ez⟩
  · have h := bq_or g0 u0 ez
    refine ⟨h.1, fun c c0 c1 => ?_⟩
    rw [h.2 c c0 c1, hg c c0 c1, hu c c0 c1, dpS_s j0 j1 k0 k1]
    exact ⟨fun w => w.imp id (fun w => ⟨Or.inl q, w⟩), fun w => w.imp id (fun w => w.2)⟩
  · have h' := bq_and u0 ey
    have h := bq_or g0 h'.1 ez
    refine ⟨h.1, fun c c0 c1 => ?_⟩
    rw [h.2 c c0 c1, hg c c0 c1, h'.2 c c0 c1, hu c c0 c1, dpS_s j0 j1 k0 k1]
    exact ⟨fun w => w.imp id (fun w => ⟨Or.inr w.2, w.1⟩), fun w => w.imp id (fun w => ⟨w.2, w.1.resolve_left (by omega)⟩)⟩

set_option maxHeartbeats 8000000 in
set_option maxRecDepth 20000 in
theorem k175x {Z : sm_Z} (hZ : Z.2.2.2 = tb_N) (m : wk_M) (n x : Int) : wC Z 7 175 [] [.inr (.inl 46), .inl n, .inl x] m (fun r m' => ∃ v : Int, r = some (.inl v) ∧ m' = m ∧ dpR m.1 m.2 n x v) := by
  obtain ⟨J0, hJ0⟩ : ∃ J : Int →Int →Int →Int → wk_M → Prop, ∀ na xa g j m', J na xa g j m' ↔ (m' = m ∧ (n = na ∧ x = xa) ∧ (0 ≤ n ∧ n ≤ 31) ∧ (0 ≤ x ∧ x ≤ 31) ∧ (m.1 46 (5 : Nat) = 1 ∧ xsR m.1 n ∧ xsR m.1 x) ∧ (-1 ≤ j ∧ j ≤ 6) ∧ (0 ≤ g ∧ g ≤ 15) ∧ ∀ c, 0 ≤ c → c ≤ 3 → (bq g c ↔ dpS m.1 m.2 n x j (-1) c)) := ⟨_, fun _ _ _ _ _ => Iff.rfl⟩
  obtain ⟨J1, hJ1⟩ : ∃ J : Int →Int →Int →Int →Int → wk_M → Prop, ∀ na xa g j k m', J na xa g j k m' ↔ (m' = m ∧ (n = na ∧ x = xa) ∧ (0 ≤ n ∧ n ≤ 31) ∧ (0 ≤ x ∧ x ≤ 31) ∧ (m.1 46 (5 : Nat) = 1 ∧ xsR m.1 n ∧ xsR m.1 x) ∧ (-1 ≤ j ∧ j < 6) ∧ (-1 ≤ k ∧ k ≤ 6) ∧ (0 ≤ g ∧ g ≤ 15) ∧ ∀ c, 0 ≤ c → c ≤ 3 → (bq g c ↔ dpS m.1 m.2 n x j k c)) := ⟨_, fun _ _ _ _ _ _ => Iff.rfl⟩
  refine wC.gen fun Q hQ => wk_E hZ (by exact rfl) [(50, [(3, 46), (1, 0), (1, 0), (1, 0), (1, 0), (0, 0), (0, 0), (0, 0), (0, 0)], fun vs _ m' => (match vs with
    | [na, xa, g, j] => J0 na xa g j m'
    | _ => False), fun vs _ m' => (match vs with
    | [na, xa, g, j] => ((6 - j) * 100 + 99 : Int).toNat
    | _ => 0)), (60, [(3, 46), (1, 0), (1, 0), (1, 0), (1, 0), (1, 0), (0, 0), (0, 0), (0, 0)], fun vs _ m' => (match vs with
    | [na, xa, g, j, k] => J1 na xa g j k m'
    | _ => False), fun vs _ m' => (match vs with
    | [na, xa, g, j, k] => ((6 - j) * 100 + (6 - k) : Int).toNat
    | _ => 0))] rfl (fun hr hs => ⟨?_, ⟨?_, trivial⟩⟩) (fun hr hs => ?_)
  · have e1 : ab_lo = -2147483648 := rfl
    have e2 : ab_hi = 2147483647 := rfl
    intro m2 hr2 hf2 na nal nah xa xal xah g gl gh j jl jh hI
    have hI := (hJ0 _ _ _ _ _).mp hI
    obtain ⟨rfl, ⟨rfl, rfl⟩, ⟨n0, n1⟩, ⟨x0, x1⟩, hB, ⟨j0, j1⟩, g0, hg⟩ := hI
    repeat' first | (intro h; exact absurd h (by decide)) | (intro h; exact absurd rfl h) | refine And.intro ?_ ?_ | intro _ | refine Or.inl ⟨by omega, by omega, ?_⟩ | refine Or.inr ?_ | exact trivial | (refine wk_use (k153x hZ _ _ _ (by omega) (by omega) (by omega) (by omega)) rfl rfl ?_; rintro - _ _ - - - ⟨_, rfl, hm, hu0, hu⟩; refine Or.inl ⟨[], hm, ?_⟩; clear hm)
    all_goals first
      | omega
      | (show ((6 - (_ : Int)) * 100 + 99 : Int).toNat < ((6 - (_ : Int)) * 100 + 99 : Int).toNat; omega)
      | exact hQ _ _ ⟨_, rfl, rfl, Or.inr ⟨⟨hB.1, ⟨⟨n0, n1⟩, hB.2.1⟩, ⟨x0, x1⟩, hB.2.2⟩, g0, (by have e : j = 6 := (by omega); rw [e] at hg; exact hg)⟩⟩
      | (show J1 _ _ _ _ _ _; refine (hJ1 _ _ _ _ _ _).mpr ⟨rfl, ⟨rfl, rfl⟩, ⟨by omega, by omega⟩, ⟨by omega, by omega⟩, hB, ⟨by omega, by omega⟩, ⟨by omega, by omega⟩, g0, hg⟩)
      | (show (_ : Nat) < (_ : Nat); dsimp only; omega)
  · have e1 : ab_lo = -2147483648 := rfl
    have e2 : ab_hi = 2147483647 := rfl
    intro m2 hr2 hf2 na nal nah xa xal xah g gl gh j jl jh k kl kh hI
    have hI := (hJ1 _ _ _ _ _ _).mp hI
    obtain ⟨rfl, ⟨rfl, rfl⟩, ⟨n0, n1⟩, ⟨x0, x1⟩, hB, ⟨j0, j1⟩, ⟨k0, k1⟩, g0, hg⟩ := hI
    repeat' first | (intro h; exact absurd h (by decide)) | (intro h; exact absurd rfl h) | refine And.intro ?_ ?_ | intro _ | refine Or.inl ⟨by omega, by omega, ?_⟩ | refine Or.inr ?_ | exact trivial | (refine wk_use (k153x hZ _ _ _ (by omega) (by omega) (by omega) (by omega)) rfl rfl ?_; rintro - _ _ - - - ⟨_, rfl, hm, hu0, hu⟩; refine Or.inl ⟨[], hm, ?_⟩; clear hm)
    all_goals first
      | omega
      | (show ((6 - (_ : Int)) * 100 + (6 - (_ : Int)) : Int).toNat < ((6 - (_ : Int)) * 100 + (6 - (_ : Int)) : Int).toNat; omega)
      | (show J0 _ _ _ _ _; refine (hJ0 _ _ _ _ _).mpr ⟨rfl, ⟨rfl, rfl⟩, ⟨by omega, by omega⟩, ⟨by omega, by omega⟩, hB, ⟨by omega, by omega⟩, g0, (by have e : k = 6 := (by omega); rw [e] at hg; exact fun c c0 c1 => (hg c c0 c1).trans dpS_j.symm)⟩)
      | (show J1 _ _ _ _ _ _; refine (hJ1 _ _ _ _ _ _).mpr ⟨rfl, ⟨rfl, rfl⟩, ⟨by omega, by omega⟩, ⟨by omega, by omega⟩, hB, ⟨by omega, by omega⟩, ⟨by omega, by omega⟩, (dp_s j0 (by omega) k0 (by omega) g0 hg hu0 (by first | exact nod_n (by omega) | exact nod_p (by omega)) (by first | exact nod_n (by omega) | exact nod_p (by omega)) hu (by first | exact Or.inl ⟨by omega, by assumption⟩ | exact Or.inr ⟨by omega, _, by assumption, by assumption⟩))⟩)
      | (show (_ : Nat) < (_ : Nat); dsimp only; omega)
  · have e1 : ab_lo = -2147483648 := rfl
    have e2 : ab_hi = 2147483647 := rfl
    obtain ⟨-, ⟨n0, n1⟩, ⟨x0, x1⟩, -⟩ := hs
    have hb5 : 0 ≤ m.1 46 (5 : Nat) ∧ m.1 46 (5 : Nat) ≤ 1 := hr.1 46 5
    repeat' first | (intro h; exact absurd h (by decide)) | (intro h; exact absurd rfl h) | refine And.intro ?_ ?_ | intro _ | refine Or.inl ⟨by omega, by omega, ?_⟩ | refine Or.inr ?_ | exact trivial | (refine wk_use (k154x hZ _ x) rfl rfl ?_; rintro - _ _ - - - ⟨_, rfl, hm, ⟨rfl, -, hxx⟩ | ⟨rfl, hxx⟩⟩ <;> refine Or.inl ⟨[], hm, ?_⟩ <;> clear hm) | (refine wk_use (k154x hZ _ _) rfl rfl ?_; rintro - _ _ - - - ⟨_, rfl, hm, ⟨rfl, -, hxn⟩ | ⟨rfl, hxn⟩⟩ <;> refine Or.inl ⟨[], hm, ?_⟩ <;> clear hm)
    all_goals first
      | omega
      | trivial
      | exact hQ _ _ ⟨_, rfl, rfl, Or.inl ⟨rfl, by first | exact Or.inl (by omega) | exact Or.inr (Or.inl (fun q => by have := q.1; omega)) | exact Or.inr (Or.inr (fun q => by have := q.1; omega)) | exact Or.inr (Or.inl (fun q => absurd q.2 (hxn.resolve_left (by omega)))) | exact Or.inr (Or.inr (fun q => absurd q.2 (hxx.resolve_left (by omega))))⟩⟩
      | (show J0 _ _ _ _ _; refine (hJ0 _ _ _ _ _).mpr ⟨rfl, ⟨rfl, rfl⟩, ⟨by omega, by omega⟩, ⟨by omega, by omega⟩, ⟨by omega, hxn, hxx⟩, ⟨by omega, by omega⟩, ⟨by omega, by omega⟩, fun c c0 c1 => ⟨fun q => by unfold bq at q; omega, fun q => absurd q dpS_0⟩⟩)
