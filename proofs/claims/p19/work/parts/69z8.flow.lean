/-! flows of the class -/
/-- the level of a sink -/
def slv (f : Nat → Int → Int) (s l : Int) : Prop := (f 2 s = 5 ∧ ltF (f 38 (0 : Nat)) (oB f) l) ∨ (f 2 s = 17 ∧ l = f 41 (f 3 s))
theorem slv_u {f : Nat → Int → Int} {s l l' : Int} (h : slv f s l) (h' : slv f s l') : l = l' := by
  rcases h with ⟨e, h⟩ | ⟨e, h⟩
  · rcases h' with ⟨e', h'⟩ | ⟨e', h'⟩
    · exact ltF_uniq h h'
    · omega
  · rcases h' with ⟨e', h'⟩ | ⟨e', h'⟩
    · omega
    · rw [h, h']
def fwC (f : Nat → Int → Int) (s i : Int) : Prop := (0 ≤ s ∧ s < f 1 (4 : Nat)) ∧ (0 ≤ i ∧ i < f 1 (4 : Nat)) ∧ snk f s ∧ f 2 i = 6 ∧ bitI (f 43 s) i = true ∧ ∃ l, slv f s l ∧ ¬ oB f (f 40 (f 4 i)) l
def canC (f : Nat → Int → Int) : Prop := f 0 (7 : Nat) = 1 ∧ ltA (f 38 (0 : Nat)) (oB f) 0

set_option maxHeartbeats 8000000 in
set_option maxRecDepth 20000 in
theorem k138x {Z : sm_Z} (hZ : Z.2.2.2 = tb_N) (m : wk_M) (k : Int) (k0 : 0 ≤ k) (k1 : k ≤ 3) : wC Z 1 138 [] [.inr (.inl 38), .inl k] m (fun r m' => ∃ v : Int, r = some (.inl v) ∧ m' = m ∧ (v = m.1 41 k ∧ 0 ≤ v ∧ v ≤ 4)) := by
  refine wC.gen fun Q hQ => wk_E hZ (by exact rfl) [] rfl (fun _ _ => trivial) fun hr hs => ?_
  have e1 : ab_lo = -2147483648 := rfl
  have e2 : ab_hi = 2147483647 := rfl
  repeat' first | refine And.intro ?_ ?_ | intro _ | refine Or.inl ⟨by omega, by omega, ?_⟩ | refine Or.inr ?_ | exact trivial
  all_goals first | omega | exact hQ _ _ ⟨_, rfl, rfl, by omega⟩

set_option maxHeartbeats 8000000 in
set_option maxRecDepth 20000 in
theorem k139x {Z : sm_Z} (hZ : Z.2.2.2 = tb_N) (m : wk_M) (k : Int) (k0 : 0 ≤ k) (k1 : k ≤ 3) : wC Z 1 139 [] [.inr (.inl 38), .inl k] m (fun r m' => ∃ v : Int, r = some (.inl v) ∧ m' = m ∧ (v = m.1 40 k ∧ 0 ≤ v ∧ v ≤ 4)) := by
  refine wC.gen fun Q hQ => wk_E hZ (by exact rfl) [] rfl (fun _ _ => trivial) fun hr hs => ?_
  have e1 : ab_lo = -2147483648 := rfl
  have e2 : ab_hi = 2147483647 := rfl
  repeat' first | refine And.intro ?_ ?_ | intro _ | refine Or.inl ⟨by omega, by omega, ?_⟩ | refine Or.inr ?_ | exact trivial
  all_goals first | omega | exact hQ _ _ ⟨_, rfl, rfl, by omega⟩

set_option maxHeartbeats 8000000 in
set_option maxRecDepth 20000 in
theorem k137x {Z : sm_Z} (hZ : Z.2.2.2 = tb_N) (m : wk_M) (sp : Int) (s0 : 0 ≤ sp) (hc : sp < m.1 1 (4 : Nat)) (hO : cOps m.1) (hA : oA m.1) (hB : ∃ l, 0 ≤ l ∧ ltF (m.1 38 (0 : Nat)) (oB m.1) l) : wC Z 3 137 [] [.inr (.inl 42), .inl sp] m (fun r m' => ∃ v : Int, r = some (.inl v) ∧ m' = m ∧ ∀ k, 0 ≤ k → k ≤ 31 → (bitI v k = true ↔ fwC m.1 sp k)) := by
  obtain ⟨J0, hJ0⟩ : ∃ J : Int →Int →Int →Int → wk_M → Prop, ∀ s l p i m', J s l p i m' ↔ (m' = m ∧ s = sp ∧ (0 ≤ l ∧ l ≤ 4) ∧ slv m.1 s l ∧ snk m.1 s ∧ (0 ≤ i ∧ i ≤ m.1 1 (4 : Nat)) ∧ (∀ k, 0 ≤ k → k ≤ 31 → (bitI p k = true ↔ k < i ∧ fwC m.1 s k))) := ⟨_, fun _ _ _ _ _ => Iff.rfl⟩
  refine wC.gen fun Q hQ => wk_E hZ (by exact rfl) [(55, [(3, 42), (1, 0), (1, 0), (1, 0), (1, 0)], fun vs _ m' => (match vs with
    | [s, l, p, i] => J0 s l p i m'
    | _ => False), fun vs _ m' => (match vs with
    | [s, l, p, i] => (32 - i : Int).toNat
    | _ => 0))] rfl (fun hr hs => ⟨?_, trivial⟩) (fun hr hs => ?_)
  · have e1 : ab_lo = -2147483648 := rfl
    have e2 : ab_hi = 2147483647 := rfl
    intro m2 hr2 hf2 s sl sh l ll lh p pl ph i il ih hI
    have hI := (hJ0 _ _ _ _ _).mp hI
    obtain ⟨rfl, rfl, ⟨l0, l1⟩, hsl, hsk, ⟨i0, i1⟩, hm⟩ := hI
    have hcc := cnt32 hr2
    have qa : i < m2.1 1 (4 : Nat) → m2.1 2 i = 6 → 0 ≤ m2.1 4 i ∧ m2.1 4 i ≤ 3 := fun h e => (hO i i0 h).2.1 (by unfold nA; omega)
    repeat' first | (intro h; exact absurd h (by decide)) | (intro h; exact absurd rfl h) | refine And.intro ?_ ?_ | intro _ | refine Or.inl ⟨by omega, by omega, ?_⟩ | refine Or.inr ?_ | exact trivial | (refine wk_use (k67b hZ _ _ _ (by omega) (by omega)) rfl rfl ?_; rintro - _ _ - - - ⟨_, rfl, hm, ⟨rfl, hb⟩ | ⟨rfl, hb⟩⟩ <;> refine Or.inl ⟨[], hm, ?_⟩ <;> clear hm) | (refine wk_use (k139x hZ _ _ (by omega) (by omega)) rfl rfl ?_; rintro - _ _ - - - ⟨_, rfl, hm, rfl, _, _⟩; refine Or.inl ⟨[], hm, ?_⟩; clear hm) | (refine wk_use (k85b hZ _ _ _ (by omega) (by omega) (by omega) (by omega)) rfl rfl ?_; rintro - _ _ - - - ⟨_, rfl, hm, ⟨rfl, ho⟩ | ⟨rfl, ho⟩⟩ <;> refine Or.inl ⟨[], hm, ?_⟩ <;> clear hm)
    all_goals first
      | omega
      | (show (32 - (_ : Int) : Int).toNat < (32 - (_ : Int) : Int).toNat; omega)
      | exact hQ _ _ ⟨_, rfl, rfl, fun k k0 k1 => (hm k k0 k1).trans ⟨fun q => q.2, fun q => ⟨by have := q.2.1.2; omega, q⟩⟩⟩
      | (show J0 _ _ _ _ _; refine (hJ0 _ _ _ _ _).mpr ⟨rfl, rfl, ⟨by omega, by omega⟩, hsl, hsk, ⟨by omega, by omega⟩, fm_put i0 (by omega) (by assumption) (by assumption) hm ⟨⟨s0, hc⟩, ⟨i0, by omega⟩, hsk, by omega, hb, _, hsl, ho⟩⟩)
      | (show J0 _ _ _ _ _; refine (hJ0 _ _ _ _ _).mpr ⟨rfl, rfl, ⟨by omega, by omega⟩, hsl, hsk, ⟨by omega, by omega⟩, fm_no hm (fun ⟨_, _, _, _, _, l', h1, h2⟩ => h2 (by rw [slv_u h1 hsl]; exact ho))⟩)
      | (show J0 _ _ _ _ _; refine (hJ0 _ _ _ _ _).mpr ⟨rfl, rfl, ⟨by omega, by omega⟩, hsl, hsk, ⟨by omega, by omega⟩, fm_no hm (fun q => by have q := q.2.2.2.2.1; rw [hb] at q; cases q)⟩)
      | (show J0 _ _ _ _ _; refine (hJ0 _ _ _ _ _).mpr ⟨rfl, rfl, ⟨by omega, by omega⟩, hsl, hsk, ⟨by omega, by omega⟩, fm_no hm (fun q => by have q := q.2.2.2.1; omega)⟩)
  · have e1 : ab_lo = -2147483648 := rfl
    have e2 : ab_hi = 2147483647 := rfl
    have hcc := cnt32 hr
    have qd : m.1 2 sp = 17 → 0 ≤ m.1 3 sp ∧ m.1 3 sp ≤ 3 := fun e => (hO sp s0 hc).1 (by unfold nD; omega)
    repeat' first | (intro h; exact absurd h (by decide)) | (intro h; exact absurd rfl h) | refine And.intro ?_ ?_ | intro _ | refine Or.inl ⟨by omega, by omega, ?_⟩ | refine Or.inr ?_ | exact trivial | (refine wk_use (k77x hZ _ _ (by omega) (by omega)) rfl rfl ?_; rintro - _ _ - - - ⟨_, rfl, hm, ⟨rfl, hsk⟩ | ⟨rfl, hsk⟩⟩ <;> (have hsu := hsk; unfold snk at hsu) <;> refine Or.inl ⟨[], hm, ?_⟩ <;> clear hm) | (refine wk_use (k93b hZ _ hA) rfl rfl ?_; rintro - _ _ - - - ⟨_, rfl, hm, ⟨_, _⟩, hf⟩; refine Or.inl ⟨[], hm, ?_⟩; clear hm) | (refine wk_use (k138x hZ _ _ (by omega) (by omega)) rfl rfl ?_; rintro - _ _ - - - ⟨_, rfl, hm, rfl, _, _⟩; refine Or.inl ⟨[], hm, ?_⟩; clear hm)
    all_goals first
      | omega
      | trivial
      | exact hQ _ _ ⟨_, rfl, rfl, fun k k0 k1 => by rw [bit_0]; exact ⟨fun z => (by cases z), fun q => absurd q.2.2.1 hsk⟩⟩
      | (show J0 _ _ _ _ _; refine (hJ0 _ _ _ _ _).mpr (by obtain ⟨l', l0, hl'⟩ := hB; have e := ltF_uniq hf hl'; exact ⟨rfl, rfl, ⟨by omega, by omega⟩, Or.inl ⟨by omega, hf⟩, hsk, ⟨by omega, by omega⟩, fm_0⟩))
      | (show J0 _ _ _ _ _; refine (hJ0 _ _ _ _ _).mpr ⟨rfl, rfl, ⟨by omega, by omega⟩, Or.inr ⟨by unfold snk at hsk; omega, rfl⟩, hsk, ⟨by omega, by omega⟩, fm_0⟩)

set_option maxHeartbeats 8000000 in
set_option maxRecDepth 20000 in
theorem k141x {Z : sm_Z} (hZ : Z.2.2.2 = tb_N) (m : wk_M) (x : Int) (hO : cOps m.1) (hA : oA m.1) (hB : ∃ l, 0 ≤ l ∧ ltF (m.1 38 (0 : Nat)) (oB m.1) l) : wC Z 4 141 [] [.inr (.inl 42), .inl x] m (fun r m' => ∃ v : Int, r = some (.inl v) ∧ m' = m ∧ fnd (fwC m.1) x v) := by
  obtain ⟨J0, hJ0⟩ : ∃ J : Int →Int →Int → wk_M → Prop, ∀ xa b s m', J xa b s m' ↔ (m' = m ∧ xa = x ∧ (0 ≤ s ∧ s ≤ m.1 1 (4 : Nat)) ∧ b = fC (fwC m.1) s 0 ∧ fNo (fwC m.1) s 0 x) := ⟨_, fun _ _ _ _ => Iff.rfl⟩
  obtain ⟨J1, hJ1⟩ : ∃ J : Int →Int →Int →Int →Int → wk_M → Prop, ∀ xa b s p i m', J xa b s p i m' ↔ (m' = m ∧ xa = x ∧ ((0 ≤ s ∧ s < m.1 1 (4 : Nat)) ∧ 0 ≤ i ∧ i ≤ m.1 1 (4 : Nat)) ∧ (∀ k, 0 ≤ k → k ≤ 31 → (bitI p k = true ↔ fwC m.1 s k)) ∧ b = fC (fwC m.1) s i ∧ fNo (fwC m.1) s i x) := ⟨_, fun _ _ _ _ _ _ => Iff.rfl⟩
  refine wC.gen fun Q hQ => wk_E hZ (by exact rfl) [(4, [(3, 42), (1, 0), (1, 0), (1, 0), (0, 0), (0, 0)], fun vs _ m' => (match vs with
    | [xa, b, s] => J0 xa b s m'
    | _ => False), fun vs _ m' => (match vs with
    | [xa, b, s] => ((32 - s) * 100 + 99 : Int).toNat
    | _ => 0)), (25, [(3, 42), (1, 0), (1, 0), (1, 0), (1, 0), (1, 0)], fun vs _ m' => (match vs with
    | [xa, b, s, p, i] => J1 xa b s p i m'
    | _ => False), fun vs _ m' => (match vs with
    | [xa, b, s, p, i] => ((32 - s) * 100 + (32 - i) : Int).toNat
    | _ => 0))] rfl (fun hr hs => ⟨?_, ⟨?_, trivial⟩⟩) (fun hr hs => ?_)
  · have e1 : ab_lo = -2147483648 := rfl
    have e2 : ab_hi = 2147483647 := rfl
    intro m2 hr2 hf2 xa xal xah b bl bh s sl sh hI
    have hI := (hJ0 _ _ _ _).mp hI
    obtain ⟨rfl, rfl, ⟨s0, s1⟩, hb, hN⟩ := hI
    have hcc := cnt32 hr2
    have hle := fC_le (P := fwC m2.1) s0 (Int.le_refl 0)
    repeat' first | (intro h; exact absurd h (by decide)) | (intro h; exact absurd rfl h) | refine And.intro ?_ ?_ | intro _ | refine Or.inl ⟨by omega, by omega, ?_⟩ | refine Or.inr ?_ | exact trivial | (refine wk_use (k137x hZ _ _ (by omega) (by omega) hO hA hB) rfl rfl ?_; rintro - _ _ - - - ⟨_, rfl, hm, hp⟩; refine Or.inl ⟨[], hm, ?_⟩; clear hm)
    all_goals first
      | omega
      | (show ((32 - (_ : Int)) * 100 + 99 : Int).toNat < ((32 - (_ : Int)) * 100 + 99 : Int).toNat; omega)
      | exact hQ _ _ ⟨_, rfl, rfl, Or.inr ⟨rfl, fNo_z s0 (Int.le_refl 0) (fun s' i' _ _ _ a _ q => by have := q.1.2; omega) hN⟩⟩
      | (show J1 _ _ _ _ _ _; refine (hJ1 _ _ _ _ _ _).mpr ⟨rfl, rfl, ⟨⟨by omega, by omega⟩, by omega, by omega⟩, hp, hb, hN⟩)
      | (show (_ : Nat) < (_ : Nat); dsimp only; omega)
  · have e1 : ab_lo = -2147483648 := rfl
    have e2 : ab_hi = 2147483647 := rfl
    intro m2 hr2 hf2 xa xal xah b bl bh s sl sh p pl ph i il ih hI
    have hI := (hJ1 _ _ _ _ _ _).mp hI
    obtain ⟨rfl, rfl, ⟨⟨s0, s1⟩, i0, i1⟩, hp, hb, hN⟩ := hI
    have hcc := cnt32 hr2
    have hle := fC_le (P := fwC m2.1) s0 i0
    repeat' first | (intro h; exact absurd h (by decide)) | (intro h; exact absurd rfl h) | refine And.intro ?_ ?_ | intro _ | refine Or.inl ⟨by omega, by omega, ?_⟩ | refine Or.inr ?_ | exact trivial | (refine wk_use (k67b hZ _ _ _ (by omega) (by omega)) rfl rfl ?_; rintro - _ _ - - - ⟨_, rfl, hm, ⟨rfl, hbt⟩ | ⟨rfl, hbt⟩⟩ <;> refine Or.inl ⟨[], hm, ?_⟩ <;> clear hm)
    all_goals first
      | omega
      | (show ((32 - (_ : Int)) * 100 + (32 - (_ : Int)) : Int).toNat < ((32 - (_ : Int)) * 100 + (32 - (_ : Int)) : Int).toNat; omega)
      | exact hQ _ _ ⟨_, rfl, rfl, Or.inl ⟨s, i, ⟨s0, by omega⟩, ⟨i0, by omega⟩, (hp i i0 (by omega)).mp hbt, by omega, by omega⟩⟩
      | (show J0 _ _ _ _; refine (hJ0 _ _ _ _).mpr ⟨rfl, rfl, ⟨by omega, by omega⟩, (by have e := fC_z (t := s + 1) s0 i0 (by omega) (P := fwC m2.1) (fun s' i' _ _ _ a b q => by have := q.2.1.2; omega); omega), fNo_z s0 i0 (fun s' i' _ _ _ a b q => by have := q.2.1.2; omega) hN⟩)
      | (show J1 _ _ _ _ _ _; refine (hJ1 _ _ _ _ _ _).mpr (by have hP := (hp i i0 (by omega)).mp hbt; have e := fC_y s0 i0 (by omega) hP; exact ⟨rfl, rfl, ⟨⟨by omega, by omega⟩, by omega, by omega⟩, hp, by omega, fNo_s s0 i0 (by omega) hN (fun _ => by omega)⟩))
      | (show J1 _ _ _ _ _ _; refine (hJ1 _ _ _ _ _ _).mpr (by have hP : ¬ fwC m2.1 s i := (fun z => by have z := (hp i i0 (by omega)).mpr z; rw [hbt] at z; cases z); have e := fC_n s0 i0 (by omega) hP; exact ⟨rfl, rfl, ⟨⟨by omega, by omega⟩, by omega, by omega⟩, hp, by omega, fNo_s s0 i0 (by omega) hN (fun z => absurd z hP)⟩))
      | (show (_ : Nat) < (_ : Nat); dsimp only; omega)
  · have e1 : ab_lo = -2147483648 := rfl
    have e2 : ab_hi = 2147483647 := rfl
    have hcc := cnt32 hr
    repeat' first | (intro h; exact absurd h (by decide)) | (intro h; exact absurd rfl h) | refine And.intro ?_ ?_ | intro _ | refine Or.inl ⟨by omega, by omega, ?_⟩ | refine Or.inr ?_ | exact trivial
    all_goals first
      | omega
      | trivial
      | (show J0 _ _ _ _; refine (hJ0 _ _ _ _).mpr ⟨rfl, rfl, ⟨by omega, by omega⟩, fC_0.symm, fNo_0⟩)

set_option maxHeartbeats 8000000 in
set_option maxRecDepth 20000 in
theorem k136x {Z : sm_Z} (hZ : Z.2.2.2 = tb_N) (m : wk_M) (hO : cOps m.1) (hA : oA m.1) (hB : ∃ l, 0 ≤ l ∧ ltF (m.1 38 (0 : Nat)) (oB m.1) l) : wC Z 4 136 [] [.inr (.inl 42)] m (fun r m' => ∃ v : Int, r = some (.inl v) ∧ m' = m ∧ v = fC (fwC m.1) 32 0) := by
  obtain ⟨J0, hJ0⟩ : ∃ J : Int →Int → wk_M → Prop, ∀ sm i m', J sm i m' ↔ (m' = m ∧ (0 ≤ i ∧ i ≤ m.1 1 (4 : Nat)) ∧ sm = fC (fwC m.1) i 0) := ⟨_, fun _ _ _ => Iff.rfl⟩
  refine wC.gen fun Q hQ => wk_E hZ (by exact rfl) [(4, [(3, 42), (1, 0), (1, 0)], fun vs _ m' => (match vs with
    | [sm, i] => J0 sm i m'
    | _ => False), fun vs _ m' => (match vs with
    | [sm, i] => (32 - i : Int).toNat
    | _ => 0))] rfl (fun hr hs => ⟨?_, trivial⟩) (fun hr hs => ?_)
  · have e1 : ab_lo = -2147483648 := rfl
    have e2 : ab_hi = 2147483647 := rfl
    intro m2 hr2 hf2 sm sml smh i il ih hI
    have hI := (hJ0 _ _ _).mp hI
    obtain ⟨rfl, ⟨i0, i1⟩, hs⟩ := hI
    have hcc := cnt32 hr2
    have hle := fC_le (P := fwC m2.1) i0 (Int.le_refl 0)
    repeat' first | (intro h; exact absurd h (by decide)) | (intro h; exact absurd rfl h) | refine And.intro ?_ ?_ | intro _ | refine Or.inl ⟨by omega, by omega, ?_⟩ | refine Or.inr ?_ | exact trivial | (refine wk_use (k137x hZ _ _ (by omega) (by omega) hO hA hB) rfl rfl ?_; rintro - _ _ - - - ⟨_, rfl, hm, hp⟩; refine Or.inl ⟨[], hm, ?_⟩; clear hm) | (refine wk_use (k206x _ _) rfl rfl ?_; rintro - _ _ - - - ⟨v, rfl, hm, hv⟩; have hv2 := cn32 hv; refine Or.inl ⟨[], hm, ?_⟩; clear hm)
    all_goals first
      | omega
      | (show (32 - (_ : Int) : Int).toNat < (32 - (_ : Int) : Int).toNat; omega)
      | exact hQ _ _ ⟨_, rfl, rfl, (by have e := fC_z (t := 32) i0 (Int.le_refl 0) (by omega) (P := fwC m2.1) (fun s' i' _ _ _ a _ q => by have := q.1.2; omega); omega)⟩
      | (show J0 _ _ _; refine (hJ0 _ _ _).mpr ⟨rfl, ⟨by omega, by omega⟩, (by have e := fC_row (P := fwC m2.1) i0 (Q := fun k => bitI _ (k : Int) = true) (fun k hk => hp (k : Int) (by omega) (by omega)); omega)⟩)
  · have e1 : ab_lo = -2147483648 := rfl
    have e2 : ab_hi = 2147483647 := rfl
    have hcc := cnt32 hr
    repeat' first | (intro h; exact absurd h (by decide)) | (intro h; exact absurd rfl h) | refine And.intro ?_ ?_ | intro _ | refine Or.inl ⟨by omega, by omega, ?_⟩ | refine Or.inr ?_ | exact trivial
    all_goals first
      | omega
      | trivial
      | (show J0 _ _ _; refine (hJ0 _ _ _).mpr ⟨rfl, ⟨by omega, by omega⟩, fC_0.symm⟩)

set_option maxHeartbeats 8000000 in
set_option maxRecDepth 20000 in
theorem k135x {Z : sm_Z} (hZ : Z.2.2.2 = tb_N) (m : wk_M) (hA : oA m.1) (hr' : ∀ p, 0 ≤ p → p < m.1 38 (0 : Nat) → oB m.1 p p) : wC Z 5 135 [] [.inr (.inl 0)] m (fun r m' => ∃ v : Int, r = some (.inl v) ∧ m' = m ∧ ((v = 1 ∧ canC m.1) ∨ (v = 0 ∧ ¬ canC m.1))) := by
  refine wC.gen fun Q hQ => wk_E hZ (by exact rfl) [] rfl (fun _ _ => trivial) fun hr hs => ?_
  have e1 : ab_lo = -2147483648 := rfl
  have e2 : ab_hi = 2147483647 := rfl
  have hb7 : 0 ≤ m.1 0 (7 : Nat) ∧ m.1 0 (7 : Nat) ≤ 1 := hr.1 0 7
  repeat' first | (intro h; exact absurd h (by decide)) | (intro h; exact absurd rfl h) | refine And.intro ?_ ?_ | intro _ | refine Or.inl ⟨by omega, by omega, ?_⟩ | refine Or.inr ?_ | exact trivial | (refine wk_use (k89b hZ _ hA hr') rfl rfl ?_; rintro - _ _ - - - ⟨_, rfl, hm, ⟨_, _⟩, hlt⟩; refine Or.inl ⟨[], hm, ?_⟩; clear hm)
  all_goals first
    | omega
    | exact hQ _ _ ⟨_, rfl, rfl, Or.inl ⟨rfl, by omega, ltA_c hlt (by omega)⟩⟩
    | exact hQ _ _ ⟨_, rfl, rfl, Or.inr ⟨rfl, fun q => absurd (ltA_uniq hlt q.2) (by omega)⟩⟩
    | exact hQ _ _ ⟨_, rfl, rfl, Or.inr ⟨rfl, fun q => by have := q.1; omega⟩⟩

set_option maxHeartbeats 8000000 in
set_option maxRecDepth 20000 in
theorem k140x {Z : sm_Z} (hZ : Z.2.2.2 = tb_N) (m : wk_M) (j : Int) (hC : CI m.1) (hA : oA m.1) (hr' : ∀ p, 0 ≤ p → p < m.1 38 (0 : Nat) → oB m.1 p p) : wC Z 6 140 [] [.inr (.inl 0), .inl j] m (fun r m' => ∃ v : Int, r = some (.inl v) ∧ m' = m ∧ ((canC m.1 ∧ fnd (fwC m.1) j v) ∨ (¬ canC m.1 ∧ v = -1))) := by
  refine wC.gen fun Q hQ => wk_E hZ (by exact rfl) [] rfl (fun _ _ => trivial) fun hr hs => ?_
  have e1 : ab_lo = -2147483648 := rfl
  have e2 : ab_hi = 2147483647 := rfl
  repeat' first | (intro h; exact absurd h (by decide)) | (intro h; exact absurd rfl h) | refine And.intro ?_ ?_ | intro _ | refine Or.inl ⟨by omega, by omega, ?_⟩ | refine Or.inr ?_ | exact trivial | (refine wk_use (k135x hZ _ hA hr') rfl rfl ?_; rintro - _ _ - - - ⟨_, rfl, hm, ⟨rfl, hcc⟩ | ⟨rfl, hcc⟩⟩ <;> refine Or.inl ⟨[], hm, ?_⟩ <;> clear hm) | (refine wk_use (k141x hZ _ _ hC.1 hA (ltA_b hcc.2)) rfl rfl ?_; rintro - _ _ - - - ⟨_, rfl, hm, hf⟩; refine Or.inl ⟨[], hm, ?_⟩; clear hm)
  all_goals first | omega | exact hQ _ _ ⟨_, rfl, rfl, Or.inl ⟨hcc, hf⟩⟩ | exact hQ _ _ ⟨_, rfl, rfl, Or.inr ⟨hcc, rfl⟩⟩

set_option maxHeartbeats 8000000 in
set_option maxRecDepth 20000 in
theorem k134x {Z : sm_Z} (hZ : Z.2.2.2 = tb_N) (m : wk_M) (hC : CI m.1) (hA : oA m.1) (hr' : ∀ p, 0 ≤ p → p < m.1 38 (0 : Nat) → oB m.1 p p) : wC Z 6 134 [] [.inr (.inl 0)] m (fun r m' => ∃ v : Int, r = some (.inl v) ∧ m' = m ∧ ((canC m.1 ∧ v = fC (fwC m.1) 32 0) ∨ (¬ canC m.1 ∧ v = -1))) := by
  refine wC.gen fun Q hQ => wk_E hZ (by exact rfl) [] rfl (fun _ _ => trivial) fun hr hs => ?_
  have e1 : ab_lo = -2147483648 := rfl
  have e2 : ab_hi = 2147483647 := rfl
  repeat' first | (intro h; exact absurd h (by decide)) | (intro h; exact absurd rfl h) | refine And.intro ?_ ?_ | intro _ | refine Or.inl ⟨by omega, by omega, ?_⟩ | refine Or.inr ?_ | exact trivial | (refine wk_use (k135x hZ _ hA hr') rfl rfl ?_; rintro - _ _ - - - ⟨_, rfl, hm, ⟨rfl, hcc⟩ | ⟨rfl, hcc⟩⟩ <;> refine Or.inl ⟨[], hm, ?_⟩ <;> clear hm) | (refine wk_use (k136x hZ _ hC.1 hA (ltA_b hcc.2)) rfl rfl ?_; rintro - _ _ - - - ⟨_, rfl, hm, hf⟩; refine Or.inl ⟨[], hm, ?_⟩; clear hm)
  all_goals first | omega | exact hQ _ _ ⟨_, rfl, rfl, Or.inl ⟨hcc, hf⟩⟩ | exact hQ _ _ ⟨_, rfl, rfl, Or.inr ⟨hcc, rfl⟩⟩
