/-! Walk's queue: as many entries as nodes found -/
set_option maxRecDepth 20000 in
theorem k67b {Z : sm_Z} (hZ : Z.2.2.2 = tb_N) (m : wk_M) (x y : Int) (y0 : 0 ≤ y) (y1 : y ≤ 31) : wC Z 1 67 [] [.inl x, .inl y] m (fun r m' => ∃ v : Int, r = some (.inl v) ∧ m' = m ∧ ((v = 1 ∧ bitI x y = true) ∨ (v = 0 ∧ bitI x y = false))) := by
  refine wC.gen fun Q hQ => wk_E hZ (by exact rfl) [] rfl (fun _ _ => trivial) fun hr hs => ?_
  have e1 : ab_lo = -2147483648 := rfl
  have e2 : ab_hi = 2147483647 := rfl
  have hb := bitI_has (x := x) y0 (by omega)
  repeat' first | refine And.intro ?_ ?_ | intro _ | refine Or.inl ⟨by omega, by omega, ?_⟩ | refine Or.inr ?_ | exact trivial
  all_goals first
    | omega
    | exact hQ _ _ ⟨_, rfl, rfl, Or.inr ⟨rfl, hb.mp (by subst_vars; first | assumption | (symm; assumption))⟩⟩
    | exact hQ _ _ ⟨_, rfl, rfl, Or.inl ⟨rfl, by subst_vars; cases hc : bitI x y with | true => rfl | false => (rw [hc] at hb; exact absurd (hb.mpr rfl) (by first | assumption | (intro z; apply ‹¬ _›; exact z.symm)))⟩⟩


theorem pg : ∀ (b n : Nat) (q : Nat → Nat), (∀ i, i < n → q i < b) → (∀ i j, i < j → j < n → q i ≠ q j) → n ≤ b
  | 0, n, q, h1, _ => by
    cases n with
    | zero => exact Nat.le_refl _
    | succ n => exact absurd (h1 0 (by omega)) (by omega)
  | b + 1, n, q, h1, h2 => by
    by_cases h : ∃ i, i < n ∧ q i = b
    · obtain ⟨i0, hi, e⟩ := h
      have h3 : n - 1 ≤ b := by
        refine pg b (n - 1) (fun i => if i = i0 then q (n - 1) else q i) (fun i hi2 => ?_) (fun i j hij hj => ?_)
        · show (if i = i0 then q (n - 1) else q i) < b
          split
          · rename_i e2
            have := h1 (n - 1) (by omega)
            have : q i0 ≠ q (n - 1) := h2 i0 (n - 1) (by omega) (by omega)
            omega
          · rename_i e2
            have := h1 i (by omega)
            have : q i ≠ b := by
              intro z
              rcases Nat.lt_or_gt_of_ne e2 with l | l
              · exact h2 i i0 l hi (by omega)
              · exact h2 i0 i l (by omega) (by omega)
            omega
        · show (if i = i0 then q (n - 1) else q i) ≠ (if j = i0 then q (n - 1) else q j)
          split
          · split
            · omega
            · exact Ne.symm (h2 j (n - 1) (by omega) (by omega))
          · split
            · exact h2 i (n - 1) (by omega) (by omega)
            · exact h2 i j hij (by omega)
      omega
    · have h3 : n ≤ b := by
        refine pg b n q (fun i hi => ?_) h2
        have := h1 i hi
        have : q i ≠ b := fun z => h ⟨i, hi, z⟩
        omega
      omega
def qI (f : Nat → Int → Int) : Prop := 0 ≤ f 25 (4 : Nat) ∧ (∀ i, 0 ≤ i → i < f 25 (4 : Nat) → (0 ≤ f 27 i ∧ f 27 i ≤ 251) ∧ bitI (f 26 (f 27 i / 32)) (f 27 i % 32) = true) ∧ (∀ i j, 0 ≤ i → i < j → j < f 25 (4 : Nat) → ¬ f 27 i = f 27 j)
theorem qI_le {f : Nat → Int → Int} (h : qI f) : f 25 (4 : Nat) ≤ 252 := by
  obtain ⟨h0, h1, h2⟩ := h
  have := pg 252 (f 25 (4 : Nat)).toNat (fun i => (f 27 (i : Int)).toNat) (fun i hi => by have := h1 i (by omega) (by omega); omega) (fun i j hij hj => by have a := h1 i (by omega) (by omega); have b := h1 j (by omega) (by omega); have c := h2 i j (by omega) (by omega) (by omega); omega)
  omega
theorem qI_room {f : Nat → Int → Int} (h : qI f) {x : Int} (x0 : 0 ≤ x) (x1 : x ≤ 251) (hb : bitI (f 26 (x / 32)) (x % 32) = false) : f 25 (4 : Nat) < 252 := by
  obtain ⟨h0, h1, h2⟩ := h
  have ne : ∀ i, 0 ≤ i → i < f 25 (4 : Nat) → ¬ f 27 i = x := by
    intro i i0 i1 e
    have := (h1 i i0 i1).2
    rw [e, hb] at this
    cases this
  have := pg 252 ((f 25 (4 : Nat)).toNat + 1) (fun i => if i = (f 25 (4 : Nat)).toNat then x.toNat else (f 27 (i : Int)).toNat) (fun i hi => by
    show (if i = (f 25 (4 : Nat)).toNat then x.toNat else (f 27 (i : Int)).toNat) < 252
    split
    · omega
    · have := h1 i (by omega) (by omega)
      omega) (fun i j hij hj => by
    show (if i = (f 25 (4 : Nat)).toNat then x.toNat else (f 27 (i : Int)).toNat) ≠ (if j = (f 25 (4 : Nat)).toNat then x.toNat else (f 27 (j : Int)).toNat)
    rw [if_neg (by omega)]
    have a := h1 i (by omega) (by omega)
    have an := ne i (by omega) (by omega)
    split
    · omega
    · have b := h1 j (by omega) (by omega)
      have c := h2 i j (by omega) (by omega) (by omega)
      omega)
  omega
theorem qI_put {m : wk_M} (h : qI m.1) {x y b : Int} (x0 : 0 ≤ x) (x1 : x ≤ 251) (hb : bitI (m.1 26 (x / 32)) (x % 32) = false) (eb : b = (Int32.ofInt 1 <<< (Int32.ofInt (x % 32) &&& 31)).toInt) (ey : y = (Int32.ofInt (m.1 26 (x / 32)) ||| Int32.ofInt b).toInt) : qI (wk_u (wk_u (wk_u m 26 (x / 32) y) 27 (m.1 25 (4 : Nat)) x) 25 (4 : Nat) (m.1 25 (4 : Nat) + 1)).1 := by
  obtain ⟨h0, h1, h2⟩ := h
  have ne : ∀ i, 0 ≤ i → i < m.1 25 (4 : Nat) → ¬ m.1 27 i = x := by
    intro i i0 i1 e
    have := (h1 i i0 i1).2
    rw [e, hb] at this
    cases this
  generalize hg : (wk_u (wk_u (wk_u m 26 (x / 32) y) 27 (m.1 25 (4 : Nat)) x) 25 (4 : Nat) (m.1 25 (4 : Nat) + 1)).1 = g
  have g25 : g 25 (4 : Nat) = m.1 25 (4 : Nat) + 1 := by rw [← hg]; simp (decide := true) only [wk_u_at, wk_ul_1, and_self, and_true, true_and, and_false, false_and, if_true, if_false]
  have g27 : ∀ i, g 27 i = if i = m.1 25 (4 : Nat) then x else m.1 27 i := by intro i; rw [← hg]; simp (decide := true) only [wk_u_at, wk_ul_1, and_self, and_true, true_and, and_false, false_and, if_true, if_false]
  have g26 : ∀ i, g 26 i = if i = x / 32 then y else m.1 26 i := by intro i; rw [← hg]; simp (decide := true) only [wk_u_at, wk_ul_1, and_self, and_true, true_and, and_false, false_and, if_true, if_false]
  have bit : ∀ k j, 0 ≤ j → j < 32 → bitI (m.1 26 k) j = true → bitI (g 26 k) j = true := by
    intro k j j0 j1 z
    rw [g26]
    split
    · rename_i e
      rw [ey, bitI_or, ← e, z]
      rfl
    · exact z
  have bitx : bitI (g 26 (x / 32)) (x % 32) = true := by
    rw [g26, if_pos rfl, ey, bitI_or, eb, bitI_shl (by omega) (by omega) (by omega) (by omega)]
    simp
  refine ⟨by omega, fun i i0 i1 => ?_, fun i j i0 ij j1 => ?_⟩
  · rw [g25] at i1
    rw [g27]
    split
    · exact ⟨⟨x0, x1⟩, bitx⟩
    · have := h1 i i0 (by omega)
      exact ⟨this.1, bit _ _ (by omega) (by omega) this.2⟩
  · rw [g25] at j1
    rw [g27, g27, if_neg (by omega)]
    split
    · exact ne i i0 (by omega)
    · exact h2 i j i0 ij (by omega)
theorem qI_zero {f : Nat → Int → Int} (h : f 25 (4 : Nat) = 0) : qI f := ⟨by omega, fun i i0 i1 => by omega, fun i j i0 ij j1 => by omega⟩
theorem bit_un {x b z k : Int} (k0 : 0 ≤ k) (k1 : k < 32) (eb : b = (Int32.ofInt 1 <<< (Int32.ofInt k &&& 31)).toInt) (ez : z = (Int32.ofInt x &&& Int32.ofInt b).toInt) (hz : z = 0) : bitI x k = false := by
  have h := bitI_and x b k
  rw [← ez, hz, eb, bitI_shl k0 k1 k0 k1] at h
  have h0 : bitI 0 k = false := bitI_eq0 (by decide) k
  rw [h0] at h
  simpa using h.symm

set_option maxRecDepth 20000 in
theorem k63 {Z : sm_Z} (hZ : Z.2.2.2 = tb_N) (m : wk_M) (x : Int) (x0 : 0 ≤ x) (x1 : x ≤ 251) (h : qI m.1) : wC Z 1 63 [25, 26, 27] [.inr (.inl 25), .inl x] m (fun r m' => r = none ∧ qI m'.1) := by
  refine wC.gen fun Q hQ => wk_E hZ (by exact rfl) [] rfl (fun _ _ => trivial) fun hr hs => ?_
  have e1 : ab_lo = -2147483648 := rfl
  have e2 : ab_hi = 2147483647 := rfl
  repeat' first | refine And.intro ?_ ?_ | intro _ | refine Or.inl ⟨by omega, by omega, ?_⟩ | refine Or.inr ?_ | exact trivial
  all_goals first
    | omega
    | (have hb : bitI (m.1 26 (x / 32)) (x % 32) = false := bit_un (by omega) (by omega) (by assumption) (by assumption) (by assumption)
       have := qI_room h x0 x1 hb
       first | omega | exact hQ _ _ ⟨rfl, qI_put h x0 x1 hb (by assumption) (by assumption)⟩)
    | exact hQ _ _ ⟨rfl, h⟩

theorem qI_fr {W : List Nat} {m' m : wk_M} (h : wk_fr W m' m) (h25 : 25 ∉ W) (h26 : 26 ∉ W) (h27 : 27 ∉ W) (hq : qI m.1) : qI m'.1 := by
  unfold qI
  rw [(h 25 h25).1, (h 26 h26).1, (h 27 h27).1]
  exact hq
theorem bit_fresh {n x a b k : Int} (ea : a = (Int32.ofInt x ^^^ Int32.ofInt (-1)).toInt) (eb : b = (Int32.ofInt n &&& Int32.ofInt a).toInt) (h : bitI b k = true) : bitI n k = true := by
  rw [eb, bitI_and] at h
  cases hn : bitI n k with
  | true => rfl
  | false => rw [hn] at h; simp at h

set_option maxRecDepth 20000 in
theorem k66 {Z : sm_Z} (hZ : Z.2.2.2 = tb_N) (m : wk_M) (x n : Int) (x0 : 0 ≤ x) (x1 : x ≤ 7) (hn : x = 7 → ∀ k, 28 ≤ k → k < 32 → bitI n k = false) (h : qI m.1) : wC Z 2 66 [25, 26, 27] [.inr (.inl 25), .inl x, .inl n] m (fun r m' => r = none ∧ qI m'.1) := by
  obtain ⟨J0, hJ0⟩ : ∃ J : Int →Int →Int → wk_M → Prop, ∀ w f b m', J w f b m' ↔ (w = x ∧ (0 ≤ b ∧ b ≤ 32) ∧ (∀ k, bitI f k = true → bitI n k = true) ∧ qI m'.1) := ⟨_, fun _ _ _ _ => Iff.rfl⟩
  refine wC.gen fun Q hQ => wk_E hZ (by exact rfl) [(14, [(3, 25), (1, 0), (0, 0), (1, 0), (1, 0)], fun vs _ m' => (match vs with
    | [w, f, b] => J0 w f b m'
    | _ => False), fun vs _ m' => (match vs with
    | [w, f, b] => (32 - b : Int).toNat
    | _ => 0))] rfl (fun hr hs => ⟨?_, trivial⟩) (fun hr hs => ?_)
  · have e1 : ab_lo = -2147483648 := rfl
    have e2 : ab_hi = 2147483647 := rfl
    intro m2 hr2 hf2 w wl wh f fl fh b bl bh hI
    have hI := (hJ0 _ _ _ _).mp hI
    obtain ⟨rfl, ⟨b0, b1⟩, hf, hq⟩ := hI
    repeat' first | (intro h; exact absurd h (by decide)) | (intro h; exact absurd rfl h) | refine And.intro ?_ ?_ | intro _ | refine Or.inl ⟨by omega, by omega, ?_⟩ | refine Or.inr ?_ | exact trivial | (refine wk_use (k67b hZ _ _ _ (by omega) (by omega)) rfl rfl ?_; rintro - _ _ - - - ⟨_, rfl, rfl, ⟨rfl, hb⟩ | ⟨rfl, hb⟩⟩; refine Or.inl ⟨[], rfl, ?_⟩) | (refine wk_use (k63 hZ _ _ (by omega) (by by_cases e : w = 7 <;> by_cases e2 : 28 ≤ b <;> first | omega | (have := hn e b e2 (by omega); rw [hf b hb] at this; cases this)) hq) rfl rfl ?_; rintro - _ _ - hfr - ⟨rfl, hq2⟩; refine Or.inr ?_)
    all_goals first
      | omega
      | (show (32 - (_ : Int) : Int).toNat < (32 - (_ : Int) : Int).toNat; omega)
      | exact hQ _ _ ⟨rfl, hq⟩
      | (show J0 _ _ _ _; refine (hJ0 _ _ _ _).mpr ⟨rfl, ⟨by omega, by omega⟩, hf, hq2⟩)
      | (show J0 _ _ _ _; refine (hJ0 _ _ _ _).mpr ⟨rfl, ⟨by omega, by omega⟩, hf, hq⟩)
  · have e1 : ab_lo = -2147483648 := rfl
    have e2 : ab_hi = 2147483647 := rfl
    repeat' first | (intro h; exact absurd h (by decide)) | (intro h; exact absurd rfl h) | refine And.intro ?_ ?_ | intro _ | refine Or.inl ⟨by omega, by omega, ?_⟩ | refine Or.inr ?_ | exact trivial | (refine wk_use (k67b hZ _ _ _ (by omega) (by omega)) rfl rfl ?_; rintro - _ _ - - - ⟨_, rfl, rfl, ⟨rfl, hb⟩ | ⟨rfl, hb⟩⟩; refine Or.inl ⟨[], rfl, ?_⟩) | (refine wk_use (k63 hZ _ _ (by omega) (by by_cases e : w = 7 <;> by_cases e2 : 28 ≤ b <;> first | omega | (have := hn e b e2 (by omega); rw [hf b hb] at this; cases this)) hq) rfl rfl ?_; rintro - _ _ - hfr - ⟨rfl, hq2⟩; refine Or.inr ?_)
    all_goals first
      | omega
      | trivial
      | (show J0 _ _ _ _; refine (hJ0 _ _ _ _).mpr ⟨rfl, ⟨by omega, by omega⟩, fun k hk => bit_fresh (by assumption) (by assumption) hk, h⟩)
