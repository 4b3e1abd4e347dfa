/-- the next round of a spread -/
theorem gr_end {N : Nat} {S : Int → Int → Prop} {X stop : Int → Prop} {b z : Int64} {i rd : Int} (hN : N < 64) (hi : ∀ i' k, S i' k → i' < i) (h : gSo N S X stop z) (hb : gIn S stop b z i) (hr : 0 ≤ rd) (hc : gCl S stop b ∨ rd.toNat ≤ cnL b (N + 1)) (hs : gCl S stop b → z = b) : gCl S stop z ∨ (rd + 1).toNat ≤ cnL z (N + 1) := by
  rcases hc with hc | hc
  · rw [hs hc]
    exact Or.inl hc
  · have q := gl_end hN hi h hb hr hc
    by_cases e : z = b
    · exact Or.inl (q.1 e)
    · exact Or.inr (q.2 e)
theorem gr_same {S : Int → Int → Prop} {stop : Int → Prop} {b z t : Int64} {i : Int} (hz : fX z i) (hn : ¬ stop i) (ht : ∀ k, fX t k ↔ S i k) (hs : gCl S stop b → z = b) : gCl S stop b → z ||| t = b := by
  intro hc
  have e := hs hc
  subst e
  apply Classical.byContradiction
  intro hne
  obtain ⟨j, j1, hx, hy⟩ := bitL_ne hne (fun j _ q => by rw [bitL_or, q]; rfl)
  have h1 : fX (z ||| t) j := ⟨hy, by omega, by omega⟩
  rcases fX_or.mp h1 with q | q
  · rw [q.1] at hx
    cases hx
  · have := hc i j hz hn ((ht j).mp q)
    rw [this.1] at hx
    cases hx

set_option maxHeartbeats 8000000 in
set_option maxRecDepth 20000 in
theorem k163x {Z : sm_Z} (hZ : Z.2.2.2 = tb_N) (m : wk_M) (y : Int64) (x : Int) (hy : fN 35 y) : wC Z 3 163 [] [.inr (.inl 46), .inr (.inr y), .inl x] m (fun r m' => ∃ z : Int64, r = some (.inr (.inr z)) ∧ m' = m ∧ ∀ j, fX z j ↔ rs (Sr m.1) (fX y) (dfn m.1 x) j) := by
  obtain ⟨J0, hJ0⟩ : ∃ J : Int →Int →Int64 →Int64 → wk_M → Prop, ∀ t rd a z m', J t rd a z m' ↔ (m' = m ∧ (a = y ∧ t = x) ∧ (0 ≤ rd ∧ rd ≤ 36) ∧ gSo 35 (Sr m.1) (fX y) (dfn m.1 x) z ∧ (gCl (Sr m.1) (dfn m.1 x) z ∨ rd.toNat ≤ cnL z 36)) := ⟨_, fun _ _ _ _ _ => Iff.rfl⟩
  obtain ⟨J1, hJ1⟩ : ∃ J : Int →Int →Int →Int64 →Int64 → wk_M → Prop, ∀ t rd n a z m', J t rd n a z m' ↔ (m' = m ∧ (a = y ∧ t = x) ∧ ((0 ≤ rd ∧ rd < 36) ∧ 0 ≤ n ∧ n ≤ 32) ∧ gSo 35 (Sr m.1) (fX y) (dfn m.1 x) z ∧ ∃ b, gIn (Sr m.1) (dfn m.1 x) b z n ∧ (gCl (Sr m.1) (dfn m.1 x) b ∨ rd.toNat ≤ cnL b 36) ∧ (gCl (Sr m.1) (dfn m.1 x) b → z = b)) := ⟨_, fun _ _ _ _ _ _ => Iff.rfl⟩
  refine wC.gen fun Q hQ => wk_E hZ (by exact rfl) [(6, [(3, 46), (2, 0), (0, 0), (1, 0), (2, 0), (0, 0), (1, 0), (0, 0), (0, 0), (0, 0)], fun vs ls m' => (match vs, ls with
    | [t, rd], [a, z] => J0 t rd a z m'
    | _, _ => False), fun vs _ m' => (match vs with
    | [t, rd] => ((36 - rd) * 100 + 99 : Int).toNat
    | _ => 0)), (16, [(3, 46), (2, 0), (0, 0), (1, 0), (2, 0), (0, 0), (1, 0), (1, 0), (0, 0), (0, 0)], fun vs ls m' => (match vs, ls with
    | [t, rd, n], [a, z] => J1 t rd n a z m'
    | _, _ => False), fun vs _ m' => (match vs with
    | [t, rd, n] => ((36 - rd) * 100 + (32 - n) : Int).toNat
    | _ => 0))] rfl (fun hr hs => ⟨?_, ⟨?_, trivial⟩⟩) (fun hr hs => ?_)
  · have e1 : ab_lo = -2147483648 := rfl
    have e2 : ab_hi = 2147483647 := rfl
    intro m2 hr2 hf2 a t tl th z rd rdl rdh hI
    have hI := (hJ0 _ _ _ _ _).mp hI
    obtain ⟨rfl, ⟨rfl, rfl⟩, ⟨r0, r1⟩, hS, hc⟩ := hI
    repeat' first | (intro h; exact absurd h (by decide)) | (intro h; exact absurd rfl h) | refine And.intro ?_ ?_ | intro _ | refine Or.inl ⟨by omega, by omega, ?_⟩ | refine Or.inr ?_ | exact trivial
    all_goals first
      | omega
      | (show ((36 - (_ : Int)) * 100 + 99 : Int).toNat < ((36 - (_ : Int)) * 100 + 99 : Int).toNat; omega)
      | exact hQ _ _ ⟨_, rfl, rfl, gl_fin hS (hc.elim id (fun q => gl_full (by decide) (by show 36 ≤ cnL z 36; omega) (fun i k hs => hs.2.1)))⟩
      | (show J1 _ _ _ _ _ _; refine (hJ1 _ _ _ _ _ _).mpr ⟨rfl, ⟨rfl, rfl⟩, ⟨⟨by omega, by omega⟩, by omega, by omega⟩, hS, _, ⟨fun j hj => hj, fun i' k hi' _ _ hs => by have := hs.1.1; omega⟩, hc, fun _ => rfl⟩)
      | (show (_ : Nat) < (_ : Nat); dsimp only; omega)
  · have e1 : ab_lo = -2147483648 := rfl
    have e2 : ab_hi = 2147483647 := rfl
    intro m2 hr2 hf2 a t tl th z rd rdl rdh n nl nh hI
    have hI := (hJ1 _ _ _ _ _ _).mp hI
    obtain ⟨rfl, ⟨rfl, rfl⟩, ⟨⟨r0, r1⟩, n0, n1⟩, hS, b, hN, hc, hs⟩ := hI
    repeat' first | (intro h; exact absurd h (by decide)) | (intro h; exact absurd rfl h) | refine And.intro ?_ ?_ | intro _ | refine Or.inl ⟨by omega, by omega, ?_⟩ | refine Or.inr ?_ | exact trivial | (refine wk_use (k164x hZ _ _ _ (by omega) (by omega)) rfl rfl ?_; rintro - _ _ - - - ⟨_, rfl, hm, ⟨rfl, hd⟩ | ⟨rfl, hd⟩⟩ <;> refine Or.inl ⟨[], hm, ?_⟩ <;> clear hm) | (refine wk_use (k150x hZ _ _ 0 (by omega) (by omega) (by omega) (by omega)) rfl rfl ?_; rintro - _ _ - - - ⟨_, rfl, rfl, hra, hwa⟩; refine Or.inl ⟨[], rfl, ?_⟩) | (refine wk_use (k150x hZ _ _ 1 (by omega) (by omega) (by omega) (by omega)) rfl rfl ?_; rintro - _ _ - - - ⟨_, rfl, rfl, hrb, hwb⟩; refine Or.inl ⟨[], rfl, ?_⟩)
    all_goals first
      | omega
      | (show ((36 - (_ : Int)) * 100 + (32 - (_ : Int)) : Int).toNat < ((36 - (_ : Int)) * 100 + (32 - (_ : Int)) : Int).toNat; omega)
      | (show J0 _ _ _ _ _; refine (hJ0 _ _ _ _ _).mpr ⟨rfl, ⟨rfl, rfl⟩, ⟨by omega, by omega⟩, hS, gr_end (by decide) (fun i' k hs => by have := hs.1.2; omega) hS hN r0 hc hs⟩)
      | (show J1 _ _ _ _ _ _; refine (hJ1 _ _ _ _ _ _).mpr ⟨rfl, ⟨rfl, rfl⟩, ⟨⟨by omega, by omega⟩, by omega, by omega⟩, hS, b, gl_no (Or.inr hd) hN, hc, hs⟩)
      | (show J1 _ _ _ _ _ _; refine (hJ1 _ _ _ _ _ _).mpr ⟨rfl, ⟨rfl, rfl⟩, ⟨⟨by omega, by omega⟩, by omega, by omega⟩, hS, b, gl_no (Or.inl (fun h => absurd ((fX_cmp n0 (by omega) (by assumption)).mpr h) (by omega))) hN, hc, hs⟩)
      | (show J1 _ _ _ _ _ _; refine (hJ1 _ _ _ _ _ _).mpr (by have q := (fX_cmp n0 (by omega) (by assumption)).mp (by omega); have ht := (fX_wy n0 (by omega) hwa hwb hra hrb (by first | exact Or.inl ⟨by omega, rfl⟩ | exact Or.inr ⟨by omega, rfl⟩) (by first | exact Or.inl ⟨by omega, rfl⟩ | exact Or.inr ⟨by omega, rfl⟩)); have g := gl_go ht (fN_wy ht) q hd hS hN; exact ⟨rfl, ⟨rfl, rfl⟩, ⟨⟨by omega, by omega⟩, by omega, by omega⟩, g.1, b, g.2, hc, gr_same q hd ht hs⟩))
      | (show (_ : Nat) < (_ : Nat); dsimp only; omega)
  · have e1 : ab_lo = -2147483648 := rfl
    have e2 : ab_hi = 2147483647 := rfl
    repeat' first | (intro h; exact absurd h (by decide)) | (intro h; exact absurd rfl h) | refine And.intro ?_ ?_ | intro _ | refine Or.inl ⟨by omega, by omega, ?_⟩ | refine Or.inr ?_ | exact trivial
    all_goals first
      | omega
      | trivial
      | (show J0 _ _ _ _ _; refine (hJ0 _ _ _ _ _).mpr ⟨rfl, ⟨rfl, rfl⟩, ⟨by omega, by omega⟩, ⟨fun j hj => hj, fun j hj => rs_in hj, hy⟩, Or.inr (Nat.zero_le _)⟩)

