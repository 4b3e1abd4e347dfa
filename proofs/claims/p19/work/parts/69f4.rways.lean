def rEx (f : Nat → Int → Int) (l : Nat → Int → Int64) : Prop := ∀ a, 0 ≤ a → a < 36 → ∀ b, fX (l 59 a) b ↔ rs (Sw f) (Sw f a) nS b
def wRow (f : Nat → Int → Int) (n w : Int) (x : Int64) : Prop := ∀ b, fX x b ↔ ((0 ≤ b ∧ b ≤ 35) ∧ ((0 < w ∧ wy f n 0 b) ∨ (1 < w ∧ wy f n 1 b)))
theorem wRow_s {f : Nat → Int → Int} {n w v : Int} {x t : Int64} (h : wRow f n w x) (hw : w = 0 ∨ w = 1) (hv : wy f n w v) (v1 : -1 ≤ v ∧ v ≤ 35) (ht : (v < 0 ∧ t = Int64.ofNat 0) ∨ (0 ≤ v ∧ t = Int64.ofNat 1 <<< ((Int32.ofInt v).toInt64 &&& 63))) : wRow f n (w + 1) (x ||| t) := by
  intro b
  have e1 : fX t b ↔ (b = v ∧ 0 ≤ v) := by
    rcases ht with ⟨h, e⟩ | ⟨h, e⟩
    · rw [e]
      exact ⟨fun z => absurd z fX_no, fun z => by omega⟩
    · rw [e, fX_one h (by omega)]
      omega
  rw [fX_or, h b, e1]
  rcases hw with rfl | rfl
  · constructor
    · rintro (⟨-, ⟨z, -⟩ | ⟨z, -⟩⟩ | ⟨e, z⟩)
      · exact absurd z (by decide)
      · exact absurd z (by decide)
      · exact ⟨by omega, Or.inl ⟨by decide, e ▸ hv⟩⟩
    · rintro ⟨z, ⟨-, q⟩ | ⟨q, -⟩⟩
      · exact Or.inr ⟨wy_fun q hv, by have := wy_fun q hv; omega⟩
      · exact absurd q (by decide)
  · constructor
    · rintro (⟨z, ⟨y, q⟩ | ⟨y, -⟩⟩ | ⟨e, z⟩)
      · exact ⟨z, Or.inl ⟨by decide, q⟩⟩
      · exact absurd y (by decide)
      · exact ⟨by omega, Or.inr ⟨by decide, e ▸ hv⟩⟩
    · rintro ⟨z, ⟨-, q⟩ | ⟨-, q⟩⟩
      · exact Or.inl ⟨z, Or.inl ⟨by decide, q⟩⟩
      · exact Or.inr ⟨wy_fun q hv, by have := wy_fun q hv; omega⟩
theorem wRow_0 {f : Nat → Int → Int} {n : Int} {x : Int64} (h : x = Int64.ofNat 0) : wRow f n 0 x := by
  intro b
  rw [h]
  refine ⟨fun z => absurd z fX_no, fun z => ?_⟩
  rcases z.2 with q | q
  · exact absurd q.1 (by decide)
  · exact absurd q.1 (by decide)
/-- rows ahead of n are set, those from n on are empty -/
def wI (f : Nat → Int → Int) (g : Int → Int64) (n : Int) : Prop := (∀ a, 0 ≤ a → a < n → ∀ b, fX (g a) b ↔ Sw f a b) ∧ ∀ a, n ≤ a → a < 36 → g a = Int64.ofNat 0
/-- as wI, the n-th row under way -/
def wJ (f : Nat → Int → Int) (g : Int → Int64) (n w : Int) : Prop := (∀ a, 0 ≤ a → a < n → ∀ b, fX (g a) b ↔ Sw f a b) ∧ (∀ a, n < a → a < 36 → g a = Int64.ofNat 0) ∧ wRow f n w (g n)
theorem wJ_of {f : Nat → Int → Int} {g : Int → Int64} {n : Int} (h : wI f g n) (n1 : n < 36) : wJ f g n 0 := ⟨h.1, fun a a0 a1 => h.2 a (by omega) a1, wRow_0 (h.2 n (Int.le_refl _) n1)⟩
theorem wJ_s {f : Nat → Int → Int} {g g' : Int → Int64} {n w : Int} {z : Int64} (h : wJ f g n w) (e : ∀ a, g' a = if a = n then z else g a) (hz : wRow f n (w + 1) z) : wJ f g' n (w + 1) := by
  refine ⟨fun a a0 a1 b => ?_, fun a a0 a1 => ?_, ?_⟩
  · rw [e, if_neg (by omega)]
    exact h.1 a a0 a1 b
  · rw [e, if_neg (by omega)]
    exact h.2.1 a a0 a1
  · rw [e, if_pos rfl]
    exact hz
theorem wI_s {f : Nat → Int → Int} {g : Int → Int64} {n w : Int} (h : wJ f g n w) (n0 : 0 ≤ n) (n1 : n < 32) (nc : n < f 46 (0 : Nat)) (hw : (w = 2 ∧ ¬ f 47 n = 18) ∨ (f 47 n = 18 ∧ w = 0)) : wI f g (n + 1) := by
  refine ⟨fun a a0 a1 b => ?_, fun a a0 a1 => h.2.1 a (by omega) a1⟩
  by_cases e : a = n
  · rw [e, h.2.2 b]
    unfold Sw Sr
    rcases hw with ⟨q, o⟩ | ⟨o, q⟩
    · subst q
      constructor
      · rintro ⟨z, ⟨-, y⟩ | ⟨-, y⟩⟩
        · exact ⟨⟨nc, o⟩, ⟨n0, n1⟩, z, Or.inl y⟩
        · exact ⟨⟨nc, o⟩, ⟨n0, n1⟩, z, Or.inr y⟩
      · rintro ⟨-, -, z, y⟩
        exact ⟨z, y.imp (fun y => ⟨by decide, y⟩) (fun y => ⟨by decide, y⟩)⟩
    · subst q
      constructor
      · rintro ⟨z, ⟨y, -⟩ | ⟨y, -⟩⟩
        · exact absurd y (by decide)
        · exact absurd y (by decide)
      · rintro ⟨⟨-, z⟩, -⟩
        exact absurd o z
  · exact h.1 a a0 (by omega) b
theorem wK_in {f : Nat → Int → Int} {g : Int → Int64} {n : Int} (h : wI f g n) (hn : n = f 46 (0 : Nat)) : wK f g 0 := by
  have hb : ∀ a, 0 ≤ a → a < 36 → ∀ b, fX (g a) b ↔ Sw f a b := by
    intro a a0 a1 b
    by_cases e : a < n
    · exact h.1 a a0 e b
    · rw [h.2 a (by omega) a1]
      refine ⟨fun z => absurd z fX_no, fun z => ?_⟩
      have := z.1.1
      omega
  refine ⟨fun a a0 a1 b q => rs_in ((hb a a0 a1 b).mp q), fun a b a0 a1 q => (hb a a0 a1 b).mpr q, fun c c0 c1 => by omega, fun a a0 a1 b q => ?_⟩
  have := ((hb a a0 a1 b).mp q).2.2.1.2
  exact this
theorem wL_s {g h h' : Int → Int64} {k n : Int} {z : Int64} (hl : wL g h k n) (n0 : 0 ≤ n) (n1 : n < 36) (e : ∀ a, h' a = if a = n then z else h a) (hz : (fX (g n) k ∧ z = g n ||| g k) ∨ (¬ fX (g n) k ∧ z = g n)) : wL g h' k (n + 1) := by
  intro a a0 a1
  obtain ⟨h1, h2, h3⟩ := hl a a0 a1
  rw [e]
  by_cases q : a = n
  · rw [if_pos q, q]
    rcases hz with ⟨y, hz⟩ | ⟨y, hz⟩
    · exact ⟨fun _ _ => hz, fun _ w => absurd y w, fun w => by omega⟩
    · exact ⟨fun _ w => absurd w y, fun _ _ => hz, fun w => by omega⟩
  · rw [if_neg q]
    exact ⟨fun w => h1 (by omega), fun w => h2 (by omega), fun w => h3 (by omega)⟩
theorem wL_0 {g : Int → Int64} {k n : Int} (hn : n ≤ 0) : wL g g k n := fun a a0 a1 => ⟨fun w => by omega, fun w => by omega, fun _ => rfl⟩

theorem wy_fr {W : List Nat} {m' m : wk_M} (h : wk_fr W m' m) (h47 : 47 ∉ W := by decide) (h52 : 52 ∉ W := by decide) (h53 : 53 ∉ W := by decide) (h55 : 55 ∉ W := by decide) (h56 : 56 ∉ W := by decide) (h57 : 57 ∉ W := by decide) : wy m'.1 = wy m.1 := by
  funext i w v
  unfold wy rBh
  rw [(h 47 h47).1, (h 52 h52).1, (h 53 h53).1, (h 55 h55).1, (h 56 h56).1, (h 57 h57).1]

set_option maxHeartbeats 8000000 in
set_option maxRecDepth 20000 in
theorem k149x {Z : sm_Z} (hZ : Z.2.2.2 = tb_N) (m : wk_M)  : wC Z 3 149 [59] [.inr (.inl 46)] m (fun r m' => r = none ∧ rEx m.1 m'.2) := by
  obtain ⟨J0, hJ0⟩ : ∃ J : Int → wk_M → Prop, ∀ n m', J n m' ↔ ((0 ≤ n ∧ n ≤ 36) ∧ ∀ a, 0 ≤ a → a < n → m'.2 59 a = Int64.ofNat 0) := ⟨_, fun _ _ => Iff.rfl⟩
  obtain ⟨J1, hJ1⟩ : ∃ J : Int → wk_M → Prop, ∀ n m', J n m' ↔ ((0 ≤ n ∧ n ≤ m.1 46 (0 : Nat)) ∧ wI m.1 (m'.2 59) n) := ⟨_, fun _ _ => Iff.rfl⟩
  obtain ⟨J2, hJ2⟩ : ∃ J : Int →Int → wk_M → Prop, ∀ n wy m', J n wy m' ↔ ((0 ≤ n ∧ n < m.1 46 (0 : Nat)) ∧ (0 ≤ wy ∧ wy ≤ 2) ∧ (m.1 47 n = 18 → wy = 0) ∧ wJ m.1 (m'.2 59) n wy) := ⟨_, fun _ _ _ => Iff.rfl⟩
  obtain ⟨J3, hJ3⟩ : ∃ J : Int → wk_M → Prop, ∀ k m', J k m' ↔ ((0 ≤ k ∧ k ≤ 36) ∧ wK m.1 (m'.2 59) k) := ⟨_, fun _ _ => Iff.rfl⟩
  obtain ⟨J4, hJ4⟩ : ∃ J : Int →Int → wk_M → Prop, ∀ k n m', J k n m' ↔ ((0 ≤ k ∧ k < 36) ∧ (0 ≤ n ∧ n ≤ 36) ∧ ∃ g, wK m.1 g k ∧ wL g (m'.2 59) k n) := ⟨_, fun _ _ _ => Iff.rfl⟩
  refine wC.gen fun Q hQ => wk_E hZ (by exact rfl) [(2, [(3, 46), (1, 0), (0, 0), (0, 0)], fun vs _ m' => (match vs with
    | [n] => J0 n m'
    | _ => False), fun vs _ m' => (match vs with
    | [n] => (1000000 - n : Int).toNat
    | _ => 0)), (23, [(3, 46), (1, 0), (0, 0), (0, 0)], fun vs _ m' => (match vs with
    | [n] => J1 n m'
    | _ => False), fun vs _ m' => (match vs with
    | [n] => (500000 + (32 - n) * 10 + 9 : Int).toNat
    | _ => 0)), (33, [(3, 46), (1, 0), (1, 0), (0, 0)], fun vs _ m' => (match vs with
    | [n, wy] => J2 n wy m'
    | _ => False), fun vs _ m' => (match vs with
    | [n, wy] => (500000 + (32 - n) * 10 + (2 - wy) : Int).toNat
    | _ => 0)), (90, [(3, 46), (1, 0), (0, 0), (0, 0)], fun vs _ m' => (match vs with
    | [k] => J3 k m'
    | _ => False), fun vs _ m' => (match vs with
    | [k] => ((36 - k) * 100 + 99 : Int).toNat
    | _ => 0)), (98, [(3, 46), (1, 0), (1, 0), (0, 0)], fun vs _ m' => (match vs with
    | [k, n] => J4 k n m'
    | _ => False), fun vs _ m' => (match vs with
    | [k, n] => ((36 - k) * 100 + (36 - n) : Int).toNat
    | _ => 0))] rfl (fun hr hs => ⟨?_, ⟨?_, ⟨?_, ⟨?_, ⟨?_, trivial⟩⟩⟩⟩⟩) (fun hr hs => ?_)
  · have e1 : ab_lo = -2147483648 := rfl
    have e2 : ab_hi = 2147483647 := rfl
    intro m2 hr2 hf2 n nl nh hI
    have hI := (hJ0 _ _).mp hI
    obtain ⟨⟨n0, n1⟩, hz⟩ := hI
    have hcn : 0 ≤ m2.1 46 (0 : Nat) ∧ m2.1 46 (0 : Nat) ≤ 32 := hr2.1 46 0
    have e46 : m2.1 46 (0 : Nat) = m.1 46 (0 : Nat) := congrFun (hf2 46 (by decide)).1 _
    repeat' first | (intro h; exact absurd h (by decide)) | (intro h; exact absurd rfl h) | refine And.intro ?_ ?_ | intro _ | refine Or.inl ⟨by omega, by omega, ?_⟩ | refine Or.inr ?_ | exact trivial | (refine wk_use (k150x hZ _ _ _ (by omega) (by omega) (by omega) (by omega)) rfl rfl ?_; rintro - _ _ - - - ⟨_, rfl, hm, hv1, hv⟩; refine Or.inl ⟨[], hm, ?_⟩; clear hm)
    all_goals first
      | omega
      | (show (1000000 - (_ : Int) : Int).toNat < (1000000 - (_ : Int) : Int).toNat; omega)
      | (show J0 _ _; refine (hJ0 _ _).mpr ⟨⟨by omega, by omega⟩, fun a a0 a1 => by simp (decide := true) only [wk_ul_at, wk_u_2, wk_ul_1, and_self, and_true, true_and, and_false, false_and, if_true, if_false]; (by_cases e : a = n; (rw [if_pos e]; try rfl); (rw [if_neg e]; exact hz a a0 (by omega)))⟩)
      | (show J1 _ _; refine (hJ1 _ _).mpr ⟨⟨by omega, by omega⟩, fun a a0 a1 => by omega, fun a a0 a1 => hz a (by omega) (by omega)⟩)
      | (show (_ : Nat) < (_ : Nat); dsimp only; omega)
  · have e1 : ab_lo = -2147483648 := rfl
    have e2 : ab_hi = 2147483647 := rfl
    intro m2 hr2 hf2 n nl nh hI
    have hI := (hJ1 _ _).mp hI
    obtain ⟨⟨n0, n1⟩, hw⟩ := hI
    have e46 : m2.1 46 (0 : Nat) = m.1 46 (0 : Nat) := congrFun (hf2 46 (by decide)).1 _
    have e47 : m2.1 47 n = m.1 47 n := congrFun (hf2 47 (by decide)).1 n
    have hcn : 0 ≤ m2.1 46 (0 : Nat) ∧ m2.1 46 (0 : Nat) ≤ 32 := hr2.1 46 0
    repeat' first | (intro h; exact absurd h (by decide)) | (intro h; exact absurd rfl h) | refine And.intro ?_ ?_ | intro _ | refine Or.inl ⟨by omega, by omega, ?_⟩ | refine Or.inr ?_ | exact trivial | (refine wk_use (k150x hZ _ _ _ (by omega) (by omega) (by omega) (by omega)) rfl rfl ?_; rintro - _ _ - - - ⟨_, rfl, hm, hv1, hv⟩; refine Or.inl ⟨[], hm, ?_⟩; clear hm)
    all_goals first
      | omega
      | (show (500000 + (32 - (_ : Int)) * 10 + 9 : Int).toNat < (500000 + (32 - (_ : Int)) * 10 + 9 : Int).toNat; omega)
      | (show J2 _ _ _; refine (hJ2 _ _ _).mpr ⟨⟨by omega, by omega⟩, ⟨by omega, by omega⟩, fun _ => rfl, wJ_of hw (by omega)⟩)
      | (show J3 _ _; refine (hJ3 _ _).mpr ⟨⟨by omega, by omega⟩, wK_in hw (by omega)⟩)
      | (show (_ : Nat) < (_ : Nat); dsimp only; omega)
  · have e1 : ab_lo = -2147483648 := rfl
    have e2 : ab_hi = 2147483647 := rfl
    intro m2 hr2 hf2 n nl nh wy wyl wyh hI
    have hI := (hJ2 _ _ _).mp hI
    obtain ⟨⟨n0, n1⟩, ⟨w0, w1⟩, h18, hw⟩ := hI
    have e46 : m2.1 46 (0 : Nat) = m.1 46 (0 : Nat) := congrFun (hf2 46 (by decide)).1 _
    have e47 : m2.1 47 n = m.1 47 n := congrFun (hf2 47 (by decide)).1 n
    have hcn : 0 ≤ m2.1 46 (0 : Nat) ∧ m2.1 46 (0 : Nat) ≤ 32 := hr2.1 46 0
    repeat' first | (intro h; exact absurd h (by decide)) | (intro h; exact absurd rfl h) | refine And.intro ?_ ?_ | intro _ | refine Or.inl ⟨by omega, by omega, ?_⟩ | refine Or.inr ?_ | exact trivial | (refine wk_use (k150x hZ _ _ _ (by omega) (by omega) (by omega) (by omega)) rfl rfl ?_; rintro - _ _ - - - ⟨_, rfl, hm, hv1, hv⟩; refine Or.inl ⟨[], hm, ?_⟩; clear hm)
    all_goals first
      | omega
      | (show (500000 + (32 - (_ : Int)) * 10 + (2 - (_ : Int)) : Int).toNat < (500000 + (32 - (_ : Int)) * 10 + (2 - (_ : Int)) : Int).toNat; omega)
      | (show J1 _ _; refine (hJ1 _ _).mpr ⟨⟨by omega, by omega⟩, wI_s hw n0 (by omega) (by omega) (by omega)⟩)
      | (show J2 _ _ _; refine (hJ2 _ _ _).mpr ⟨⟨by omega, by omega⟩, ⟨by omega, by omega⟩, fun q => by omega, wJ_s hw (fun _ => by simp (decide := true) only [wk_ul_at, wk_u_2, wk_ul_1, and_self, and_true, true_and, and_false, false_and, if_true, if_false] <;> rfl) (wRow_s hw.2.2 (by omega) (by rw [wy_fr hf2] at hv; exact hv) hv1 (by first | exact Or.inl ⟨by omega, rfl⟩ | exact Or.inr ⟨by omega, rfl⟩))⟩)
      | (show (_ : Nat) < (_ : Nat); dsimp only; omega)
  · have e1 : ab_lo = -2147483648 := rfl
    have e2 : ab_hi = 2147483647 := rfl
    intro m2 hr2 hf2 k kl kh hI
    have hI := (hJ3 _ _).mp hI
    obtain ⟨⟨k0, k1⟩, hw⟩ := hI
    repeat' first | (intro h; exact absurd h (by decide)) | (intro h; exact absurd rfl h) | refine And.intro ?_ ?_ | intro _ | refine Or.inl ⟨by omega, by omega, ?_⟩ | refine Or.inr ?_ | exact trivial | (refine wk_use (k150x hZ _ _ _ (by omega) (by omega) (by omega) (by omega)) rfl rfl ?_; rintro - _ _ - - - ⟨_, rfl, hm, hv1, hv⟩; refine Or.inl ⟨[], hm, ?_⟩; clear hm)
    all_goals first
      | omega
      | (show ((36 - (_ : Int)) * 100 + 99 : Int).toNat < ((36 - (_ : Int)) * 100 + 99 : Int).toNat; omega)
      | exact hQ _ _ ⟨rfl, wK_fin hw (by omega)⟩
      | (show J4 _ _ _; refine (hJ4 _ _ _).mpr ⟨⟨by omega, by omega⟩, ⟨by omega, by omega⟩, _, hw, wL_0 (by omega)⟩)
      | (show (_ : Nat) < (_ : Nat); dsimp only; omega)
  · have e1 : ab_lo = -2147483648 := rfl
    have e2 : ab_hi = 2147483647 := rfl
    intro m2 hr2 hf2 k kl kh n nl nh hI
    have hI := (hJ4 _ _ _).mp hI
    obtain ⟨⟨k0, k1⟩, ⟨n0, n1⟩, g, hg, hl⟩ := hI
    have hk := wL_k k0 k1 hl
    have hn : n < 36 → m2.2 59 n = g n := fun q => (hl n n0 q).2.2 (by omega)
    repeat' first | (intro h; exact absurd h (by decide)) | (intro h; exact absurd rfl h) | refine And.intro ?_ ?_ | intro _ | refine Or.inl ⟨by omega, by omega, ?_⟩ | refine Or.inr ?_ | exact trivial | (refine wk_use (k150x hZ _ _ _ (by omega) (by omega) (by omega) (by omega)) rfl rfl ?_; rintro - _ _ - - - ⟨_, rfl, hm, hv1, hv⟩; refine Or.inl ⟨[], hm, ?_⟩; clear hm)
    all_goals first
      | omega
      | (show ((36 - (_ : Int)) * 100 + (36 - (_ : Int)) : Int).toNat < ((36 - (_ : Int)) * 100 + (36 - (_ : Int)) : Int).toNat; omega)
      | (show J3 _ _; refine (hJ3 _ _).mpr ⟨⟨by omega, by omega⟩, wK_next k0 k1 (by omega) hg hl⟩)
      | (show J4 _ _ _; refine (hJ4 _ _ _).mpr ⟨⟨by omega, by omega⟩, ⟨by omega, by omega⟩, g, hg, wL_s hl n0 (by omega) (fun _ => by simp (decide := true) only [wk_ul_at, wk_u_2, wk_ul_1, and_self, and_true, true_and, and_false, false_and, if_true, if_false] <;> rfl) (Or.inl ⟨by rw [← hn (by omega)]; exact (fX_cmp k0 (by omega) (by assumption)).mp (by omega), by rw [hn (by omega), hk]⟩)⟩)
      | (show J4 _ _ _; refine (hJ4 _ _ _).mpr ⟨⟨by omega, by omega⟩, ⟨by omega, by omega⟩, g, hg, wL_s hl n0 (by omega) (fun _ => by simp (decide := true) only [wk_ul_at, wk_u_2, wk_ul_1, and_self, and_true, true_and, and_false, false_and, if_true, if_false] <;> rfl) (Or.inr ⟨by rw [← hn (by omega)]; exact fun q => absurd ((fX_cmp k0 (by omega) (by assumption)).mpr q) (by omega), (or_zero64 _).trans (hn (by omega))⟩)⟩)
      | (show (_ : Nat) < (_ : Nat); dsimp only; omega)
  · have e1 : ab_lo = -2147483648 := rfl
    have e2 : ab_hi = 2147483647 := rfl
    repeat' first | (intro h; exact absurd h (by decide)) | (intro h; exact absurd rfl h) | refine And.intro ?_ ?_ | intro _ | refine Or.inl ⟨by omega, by omega, ?_⟩ | refine Or.inr ?_ | exact trivial
    all_goals first
      | omega
      | trivial
      | (show J0 _ _; refine (hJ0 _ _).mpr ⟨⟨by omega, by omega⟩, fun a a0 a1 => by omega⟩)
