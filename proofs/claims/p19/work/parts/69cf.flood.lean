/-- what a flood of the class goes on with -/
def fS (m : wk_M) (i k : Int) : Prop := (0 ≤ i ∧ i < m.1 1 (4 : Nat)) ∧ fX (m.2 20 i) k

set_option maxHeartbeats 8000000 in
set_option maxRecDepth 20000 in
theorem k42x {Z : sm_Z} (hZ : Z.2.2.2 = tb_N) (m : wk_M) (x y : Int64) (h32 : ∀ i, 0 ≤ i → i < m.1 1 (4 : Nat) → fN 32 (m.2 20 i)) (hx32 : fN 32 x) : wC Z 2 42 [] [.inr (.inl 19), .inr (.inr x), .inr (.inr y)] m (fun r m' => ∃ z : Int64, r = some (.inr (.inr z)) ∧ m' = m ∧ fN 32 z ∧ ∀ j, fX z j ↔ rs (fS m) (fX x) (fX y) j) := by
  obtain ⟨J0, hJ0⟩ : ∃ J : Int →Int →Int64 →Int64 →Int64 → wk_M → Prop, ∀ g rd a c z m', J g rd a c z m' ↔ (m' = m ∧ (a = x ∧ c = y) ∧ ((0 ≤ g ∧ g ≤ 1) ∧ 0 ≤ rd ∧ rd ≤ 33) ∧ gSo 32 (fS m) (fX x) (fX y) z ∧ (g = 1 → rd.toNat ≤ cnL z 33) ∧ (g = 0 → gCl (fS m) (fX y) z)) := ⟨_, fun _ _ _ _ _ _ => Iff.rfl⟩
  obtain ⟨J1, hJ1⟩ : ∃ J : Int →Int →Int →Int64 →Int64 →Int64 →Int64 → wk_M → Prop, ∀ g rd i a c z b m', J g rd i a c z b m' ↔ (m' = m ∧ (a = x ∧ c = y) ∧ ((0 ≤ rd ∧ rd ≤ 32) ∧ 0 ≤ i ∧ i ≤ m.1 1 (4 : Nat)) ∧ gSo 32 (fS m) (fX x) (fX y) z ∧ rd.toNat ≤ cnL b 33 ∧ gIn (fS m) (fX y) b z i) := ⟨_, fun _ _ _ _ _ _ _ _ => Iff.rfl⟩
  refine wC.gen fun Q hQ => wk_E hZ (by exact rfl) [(9, [(3, 19), (2, 0), (0, 0), (2, 0), (0, 0), (2, 0), (0, 0), (1, 0), (1, 0), (0, 0), (0, 0), (0, 0)], fun vs ls m' => (match vs, ls with
    | [g, rd], [a, c, z] => J0 g rd a c z m'
    | _, _ => False), fun vs _ m' => (match vs with
    | [g, rd] => ((33 - rd) * 100 + 99 : Int).toNat
    | _ => 0)), (28, [(3, 19), (2, 0), (0, 0), (2, 0), (0, 0), (2, 0), (0, 0), (1, 0), (1, 0), (2, 0), (0, 0), (1, 0)], fun vs ls m' => (match vs, ls with
    | [g, rd, i], [a, c, z, b] => J1 g rd i a c z b m'
    | _, _ => False), fun vs _ m' => (match vs with
    | [g, rd, i] => ((33 - rd) * 100 + (32 - i) : Int).toNat
    | _ => 0))] rfl (fun hr hs => ⟨?_, ⟨?_, trivial⟩⟩) (fun hr hs => ?_)
  · have e1 : ab_lo = -2147483648 := rfl
    have e2 : ab_hi = 2147483647 := rfl
    intro m2 hr2 hf2 a c z g gl gh rd rdl rdh hI
    have hI := (hJ0 _ _ _ _ _ _).mp hI
    have hc := cnt32 hr
    obtain ⟨rfl, ⟨rfl, rfl⟩, ⟨⟨g0, g1⟩, r0, r1⟩, hS, hg, hn⟩ := hI
    repeat' first | (intro h; exact absurd h (by decide)) | (intro h; exact absurd rfl h) | refine And.intro ?_ ?_ | intro _ | refine Or.inl ⟨by omega, by omega, ?_⟩ | refine Or.inr ?_ | exact trivial
    all_goals first
      | omega
      | (show ((33 - (_ : Int)) * 100 + 99 : Int).toNat < ((33 - (_ : Int)) * 100 + 99 : Int).toNat; omega)
      | exact hQ _ _ ⟨_, rfl, rfl, hS.2.2, gl_fin hS (hn (by omega))⟩
      | exact hQ _ _ ⟨_, rfl, rfl, hS.2.2, gl_fin hS (by by_cases q0 : g = 0; exact hn q0; exact gl_full (by decide) (by have q := hg (by omega); show 33 ≤ cnL z 33; omega) (fun i k hs => ⟨hs.2.2.1, h32 i hs.1.1 hs.1.2 k hs.2⟩))⟩
      | (show J1 _ _ _ _ _ _ _ _; refine (hJ1 _ _ _ _ _ _ _ _).mpr ⟨rfl, ⟨rfl, rfl⟩, ⟨⟨by omega, by omega⟩, by omega, by omega⟩, hS, hg (by omega), fun j hj => hj, fun i' k hi' _ _ hs => by have := hs.1.1; omega⟩)
      | (show (_ : Nat) < (_ : Nat); dsimp only; omega)
  · have e1 : ab_lo = -2147483648 := rfl
    have e2 : ab_hi = 2147483647 := rfl
    intro m2 hr2 hf2 a c z g gl gh rd rdl rdh b i il ih hI
    have hI := (hJ1 _ _ _ _ _ _ _ _).mp hI
    have hc := cnt32 hr
    obtain ⟨rfl, ⟨rfl, rfl⟩, ⟨⟨r0, r1⟩, i0, i1⟩, hS, hcb, hN⟩ := hI
    have he : m2.1 1 (4 : Nat) ≤ i → _ := fun q => gl_end (i := i) (by decide) (fun i' k hs => by have := hs.1.2; omega) hS hN r0 hcb
    repeat' first | (intro h; exact absurd h (by decide)) | (intro h; exact absurd rfl h) | refine And.intro ?_ ?_ | intro _ | refine Or.inl ⟨by omega, by omega, ?_⟩ | refine Or.inr ?_ | exact trivial | (refine wk_use (k43x hZ _ _ _ (by omega) (by omega)) rfl rfl ?_; rintro - _ _ - - - ⟨_, rfl, hm, ⟨rfl, hb⟩ | ⟨rfl, hb⟩⟩ <;> refine Or.inl ⟨[], hm, ?_⟩ <;> clear hm)
    all_goals first
      | omega
      | (show ((33 - (_ : Int)) * 100 + (32 - (_ : Int)) : Int).toNat < ((33 - (_ : Int)) * 100 + (32 - (_ : Int)) : Int).toNat; omega)
      | (show J0 _ _ _ _ _ _; refine (hJ0 _ _ _ _ _ _).mpr ⟨rfl, ⟨rfl, rfl⟩, ⟨⟨by omega, by omega⟩, by omega, by omega⟩, hS, fun _ => (he (by omega)).2 (fun e => by have q := (lg_cmp0 _ _).mpr e; omega), fun z => by omega⟩)
      | (show J0 _ _ _ _ _ _; refine (hJ0 _ _ _ _ _ _).mpr ⟨rfl, ⟨rfl, rfl⟩, ⟨⟨by omega, by omega⟩, by omega, by omega⟩, hS, fun z => by omega, fun _ => (he (by omega)).1 ((lg_cmp0 _ _).mp (by omega))⟩)
      | (show J1 _ _ _ _ _ _ _ _; refine (hJ1 _ _ _ _ _ _ _ _).mpr ⟨rfl, ⟨rfl, rfl⟩, ⟨⟨by omega, by omega⟩, by omega, by omega⟩, hS, hcb, gl_no (fX_an0 i0 (by omega) hb) hN⟩)
      | (show J1 _ _ _ _ _ _ _ _; refine (hJ1 _ _ _ _ _ _ _ _).mpr (by have q := (fX_an i0 (by omega)).mp hb; have f := gl_go (fun k => ⟨fun z => ⟨⟨i0, by omega⟩, z⟩, fun z => z.2⟩) (h32 _ i0 (by omega)) q.1 q.2 hS hN; exact ⟨rfl, ⟨rfl, rfl⟩, ⟨⟨by omega, by omega⟩, by omega, by omega⟩, f.1, hcb, f.2⟩))
      | (show (_ : Nat) < (_ : Nat); dsimp only; omega)
  · have e1 : ab_lo = -2147483648 := rfl
    have e2 : ab_hi = 2147483647 := rfl
    have hc := cnt32 hr
    repeat' first | (intro h; exact absurd h (by decide)) | (intro h; exact absurd rfl h) | refine And.intro ?_ ?_ | intro _ | refine Or.inl ⟨by omega, by omega, ?_⟩ | refine Or.inr ?_ | exact trivial
    all_goals first
      | omega
      | trivial
      | (show J0 _ _ _ _ _ _; refine (hJ0 _ _ _ _ _ _).mpr ⟨rfl, ⟨rfl, rfl⟩, ⟨⟨by omega, by omega⟩, by omega, by omega⟩, ⟨fun j hj => hj, fun j hj => rs_in hj, hx32⟩, fun _ => Nat.zero_le _, fun z => by omega⟩)

