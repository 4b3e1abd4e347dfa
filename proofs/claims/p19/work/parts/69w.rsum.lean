/-! the reference's summaries -/
/-- the reference's tables in the class's places -/
def rvF (f : Nat → Int → Int) : Nat → Int → Int := fun p i => match p with
  | 1 => if i = (11 : Nat) then f 46 (6 : Nat) else f 46 (0 : Nat)
  | 2 => f 47 i
  | 3 => f 48 i
  | 4 => f 49 i
  | 5 => f 50 i
  | 6 => f 54 i
  | 7 => f 55 i
  | 8 => f 56 i
  | 9 => f 53 i
  | 10 => f 51 i
  | 11 => f 52 i
  | _ => 0
theorem rvF_c {f : Nat → Int → Int} {i : Int} : cLl (rvF f) i ↔ (0 ≤ i ∧ i < f 46 (0 : Nat)) ∧ 13 ≤ f 47 i ∧ f 47 i ≤ 16 := Iff.rfl
/-- the reference's edges, with the class's numbers -/
def Jr (l : Nat → Int → Int64) (a b : Int) : Prop := (nR a ∧ nR b) ∧ rwB l 60 (psi a) (psi b)
def rS (F : Nat → Int → Int) (E : Int → Int → Prop) (l : Nat → Int → Int64) : Prop := rgW l 60 ∧ (∀ a b, E a b → Jr l a b) ∧ (∀ a b, Jr l a b → sE F E (sL F E) a b)
theorem psi_e {i t : Int} (i0 : 0 ≤ i) (i1 : i ≤ 31) (t0 : 0 ≤ t) (t1 : t ≤ 2) : psi ((4 + t) * 32 + i) = 32 + 6 * i + 3 + t ∧ psi ((1 + t) * 32 + i) = 32 + 6 * i + t := by
  have h1 := psi_f ((4 + t) * 32 + i)
  have h2 := psi_f ((1 + t) * 32 + i)
  omega
theorem Jr_put {l l' : Nat → Int → Int64} {i t o : Int} (i0 : 0 ≤ i) (i1 : i ≤ 31) (t0 : 0 ≤ t ∧ t ≤ 2) (o0 : 0 ≤ o ∧ o ≤ 2) (hp : ∀ a b, 0 ≤ a → 0 ≤ b → b ≤ 255 → (rwB l' 60 a b ↔ rwB l 60 a b ∨ (a = 32 + 6 * i + 3 + t ∧ b = 32 + 6 * i + o))) (a b : Int) : Jr l' a b ↔ Jr l a b ∨ (a = (4 + t) * 32 + i ∧ b = (1 + o) * 32 + i) := by
  have pe := (psi_e i0 i1 t0.1 t0.2).1
  have pb := (psi_e i0 i1 o0.1 o0.2).2
  unfold Jr
  constructor
  · rintro ⟨⟨na, nb⟩, q⟩
    have qa := psI_psi na.1 na.2
    have qb := psI_psi nb.1 nb.2
    rcases (hp _ _ qa.2.1 qb.2.1 (by have := qb.2.2; omega)).mp q with z | ⟨z1, z2⟩
    · exact Or.inl ⟨⟨na, nb⟩, z⟩
    · have e1 : psI ((psi a)) = psI (psi ((4 + t) * 32 + i)) := by rw [z1, pe]
      have e2 : psI ((psi b)) = psI (psi ((1 + o) * 32 + i)) := by rw [z2, pb]
      rw [qa.1, (psI_psi (by omega) (by omega)).1] at e1
      rw [qb.1, (psI_psi (by omega) (by omega)).1] at e2
      exact Or.inr ⟨e1, e2⟩
  · rintro (⟨⟨na, nb⟩, q⟩ | ⟨e1, e2⟩)
    · have qa := psI_psi na.1 na.2
      have qb := psI_psi nb.1 nb.2
      exact ⟨⟨na, nb⟩, (hp _ _ qa.2.1 qb.2.1 (by have := qb.2.2; omega)).mpr (Or.inl q)⟩
    · subst e1 e2
      rw [pe, pb]
      exact ⟨⟨⟨by omega, by omega⟩, by omega, by omega⟩, (hp _ _ (by omega) (by omega) (by omega)).mpr (Or.inr ⟨rfl, rfl⟩)⟩
theorem rS_put {F : Nat → Int → Int} {E : Int → Int → Prop} {l l' : Nat → Int → Int64} {i t o : Int} (hc : cLl F i) (ht : 0 ≤ t ∧ t ≤ 2) (ho : 0 ≤ o ∧ o ≤ 2) (hw : rgW l' 60) (hs : sL F E (F 2 i - 13) t o) (hJ : ∀ a b, Jr l' a b ↔ Jr l a b ∨ (a = (4 + t) * 32 + i ∧ b = (1 + o) * 32 + i)) (h : rS F E l) : rS F E l' := by
  refine ⟨hw, fun a b q => (hJ a b).mpr (Or.inl (h.2.1 a b q)), fun a b q => ?_⟩
  rcases (hJ a b).mp q with z | ⟨e1, e2⟩
  · exact h.2.2 a b z
  · exact Or.inr ⟨i, t, o, hc, ht, ho, hs, e1, e2⟩
/-- a flood inside from one node -/
theorem ld_cx {l l' : Nat → Int → Int64} {n : Int} (n0 : 224 ≤ n) (n1 : n ≤ 251) (hX : ∀ b, 0 ≤ b → b ≤ 255 → (rwB l 63 0 b ↔ b = n)) (hf : ∀ c, flX l' c ↔ rs (flQ 0 l 60 60) (flX l) nS c) {b : Int} (b0 : 224 ≤ b) (b1 : b ≤ 251) : rwB l' 63 0 b ↔ rs (Jr l) (fun a => a = n) nS b := by
  have eb : psi b = b := by
    have := psi_f b
    omega
  have q := hf b
  have e : flX l' b ↔ rwB l' 63 0 b := ⟨fun z => z.2, fun z => ⟨⟨by omega, b1⟩, z⟩⟩
  rw [← e, q]
  have r := rs_psi (S := flQ 0 l 60 60) (X := flX l) (fun x y z => z.1) (fun x z => z.1) (b := b) ⟨by omega, b1⟩
  rw [eb] at r
  rw [r]
  refine rs_iff (fun a c => ?_) (fun a => ?_) (fun _ => Iff.rfl) b
  · unfold flQ flR Jr
    constructor
    · rintro ⟨na, nc, -, ⟨-, z | z⟩ | ⟨z, -⟩⟩
      · exact ⟨⟨na, nc⟩, z⟩
      · exact ⟨⟨na, nc⟩, z⟩
      · exact absurd rfl z
    · rintro ⟨⟨na, nc⟩, z⟩
      exact ⟨na, nc, ⟨(psI_psi na.1 na.2).2, (psI_psi nc.1 nc.2).2⟩, Or.inl ⟨rfl, Or.inl z⟩⟩
  · constructor
    · rintro ⟨na, z⟩
      have p := psI_psi na.1 na.2
      have z2 := (hX _ p.2.1 (by have := p.2.2; omega)).mp z.2
      have := psi_f a
      omega
    · intro z
      have : psi a = a := by
        have := psi_f a
        omega
      rw [this]
      exact ⟨⟨by omega, by omega⟩, ⟨by omega, by omega⟩, (hX a (by omega) (by omega)).mpr z⟩
/-- the ends of a CALL of q that are served, ahead of t -/
def rC1 (l : Nat → Int → Int64) (q i t : Int) : Prop := ∀ t' o', 0 ≤ t' → t' < t → 0 ≤ o' → o' ≤ 2 → rs (Jr l) (fun a => a = 224 + q * 7 + (4 + t')) nS (224 + q * 7 + (1 + o')) → Jr l ((4 + t') * 32 + i) ((1 + o') * 32 + i)
def rNw (l l' : Nat → Int → Int64) (i : Int) : Prop := ∃ t' o', (0 ≤ t' ∧ t' ≤ 2) ∧ (0 ≤ o' ∧ o' ≤ 2) ∧ ¬ Jr l ((4 + t') * 32 + i) ((1 + o') * 32 + i) ∧ Jr l' ((4 + t') * 32 + i) ((1 + o') * 32 + i)

theorem Jr_sm {l l' : Nat → Int → Int64} (e : l' 60 = l 60) : Jr l' = Jr l := by
  funext a b
  unfold Jr rwB
  rw [e]
theorem rgW_sm {l l' : Nat → Int → Int64} {P : Nat} (e : l' P = l P) (h : rgW l P) : rgW l' P := by
  unfold rgW rwB at h ⊢
  rw [e]
  exact h
theorem rS_sm {F : Nat → Int → Int} {E : Int → Int → Prop} {l l' : Nat → Int → Int64} (e : l' 60 = l 60) (h : rS F E l) : rS F E l' := by
  unfold rS at h ⊢
  rw [Jr_sm e]
  exact ⟨rgW_sm e h.1, h.2⟩
theorem rC1_sm {l l' : Nat → Int → Int64} {q i t : Int} (e : l' 60 = l 60) (h : rC1 l q i t) : rC1 l' q i t := by
  unfold rC1 at h ⊢
  rw [Jr_sm e]
  exact h
def rL1 (F : Nat → Int → Int) (E : Int → Int → Prop) (l : Nat → Int → Int64) (Q i g t o : Int) : Prop := ∃ L : Int → Prop, (∀ o', 0 ≤ o' → o' ≤ 2 → (rwB l 63 0 (224 + Q * 7 + (1 + o')) ↔ L o')) ∧ (∀ o', 0 ≤ o' → o' ≤ 2 → L o' → sL F E Q t o') ∧ (g = 0 → (∀ o', 0 ≤ o' → o' < o → L o' → Jr l ((4 + t) * 32 + i) ((1 + o') * 32 + i)) ∧ ∀ o', 0 ≤ o' → o' ≤ 2 → rs (Jr l) (fun a => a = 224 + Q * 7 + (4 + t)) nS (224 + Q * 7 + (1 + o')) → L o')
theorem rL1_in {F : Nat → Int → Int} {E : Int → Int → Prop} {l2 l3 l4 : Nat → Int → Int64} {Q i g t o n : Int} (hq : 0 ≤ Q ∧ Q < F 1 (11 : Nat)) (q3 : Q ≤ 3) (t0 : 0 ≤ t) (t1 : t ≤ 2) (ho : o ≤ 0) (en : n = 224 + Q * 7 + (4 + t)) (h : rS F E l2) (e3 : l3 60 = l2 60) (e4 : l4 60 = l3 60) (hX : ∀ b, 0 ≤ b → b ≤ 255 → (rwB l3 63 0 b ↔ b = n)) (hf : ∀ c, flX l4 c ↔ rs (flQ 0 l3 60 60) (flX l3) nS c) : rL1 F E l4 Q i g t o := by
  have hJ : ∀ o', 0 ≤ o' → o' ≤ 2 → (rwB l4 63 0 (224 + Q * 7 + (1 + o')) ↔ rs (Jr l3) (fun a => a = 224 + Q * 7 + (4 + t)) nS (224 + Q * 7 + (1 + o'))) := by
    intro o' a b
    rw [← en]
    exact ld_cx (by omega) (by omega) hX hf (by omega) (by omega)
  refine ⟨_, hJ, fun o' a b q => ?_, fun _ => ⟨fun o' a b => by omega, fun o' a b q => ?_⟩⟩
  · rw [Jr_sm e3] at q
    exact sL_cl Q t o' ⟨hq, ⟨t0, t1⟩, a, b⟩ (rs_mo (fun x y z => h.2.2 x y z) (fun _ z => z) q)
  · rw [Jr_sm e4] at q
    exact q
theorem rL1_no {F : Nat → Int → Int} {E : Int → Int → Prop} {l : Nat → Int → Int64} {Q i g t o : Int} (o0 : 0 ≤ o) (o1 : o ≤ 2) (h : rL1 F E l Q i g t o) (hn : ¬ rwB l 63 0 (224 + Q * 7 + (1 + o)) ∨ Jr l ((4 + t) * 32 + i) ((1 + o) * 32 + i)) : rL1 F E l Q i g t (o + 1) := by
  obtain ⟨L, h1, h2, h3⟩ := h
  refine ⟨L, h1, h2, fun z => ⟨fun o' a b q => ?_, (h3 z).2⟩⟩
  by_cases e : o' = o
  · subst e
    rcases hn with hn | hn
    · exact absurd ((h1 o' a o1).mpr q) hn
    · exact hn
  · exact (h3 z).1 o' a (by omega) q
theorem rL1_yes {F : Nat → Int → Int} {E : Int → Int → Prop} {l l' : Nat → Int → Int64} {Q i g t o : Int} (e63 : l' 63 = l 63) (h : rL1 F E l Q i g t o) : rL1 F E l' Q i 1 t (o + 1) := by
  obtain ⟨L, h1, h2, -⟩ := h
  refine ⟨L, fun o' a b => ?_, h2, fun z => absurd z (by decide)⟩
  unfold rwB at h1 ⊢
  rw [e63]
  exact h1 o' a b
theorem rC1_nx {F : Nat → Int → Int} {E : Int → Int → Prop} {l : Nat → Int → Int64} {Q i t o : Int} (ho : 3 ≤ o) (h : rC1 l Q i t) (hl : rL1 F E l Q i 0 t o) : rC1 l Q i (t + 1) := by
  obtain ⟨L, h1, h2, h3⟩ := hl
  intro t' o' a b c d q
  by_cases e : t' = t
  · subst e
    exact (h3 rfl).1 o' c (by omega) ((h3 rfl).2 o' c d q)
  · exact h t' o' a (by omega) c d q

set_option maxHeartbeats 8000000 in
set_option maxRecDepth 20000 in
theorem k170x {Z : sm_Z} (hZ : Z.2.2.2 = tb_N) (m : wk_M) (E : Int → Int → Prop) (i : Int) (i0 : 0 ≤ i) (i1 : i ≤ 31) (hc : cLl (rvF m.1) i) (hq : (m.1 47 i - 13) < m.1 46 (6 : Nat)) (h : rS (rvF m.1) E m.2) : wC Z 3 170 [60, 63] [.inr (.inl 46), .inl i] m (fun r m' => ∃ v : Int, r = some (.inl v) ∧ (0 ≤ v ∧ v ≤ 1) ∧ rS (rvF m.1) E m'.2 ∧ (∀ a b, Jr m.2 a b → Jr m'.2 a b) ∧ (v = 0 → (∀ a b, Jr m'.2 a b → Jr m.2 a b) ∧ rC1 m'.2 (m.1 47 i - 13) i 3) ∧ (v = 1 → rNw m.2 m'.2 i)) := by
  obtain ⟨J0, hJ0⟩ : ∃ J : Int →Int →Int →Int → wk_M → Prop, ∀ ia q g t m', J ia q g t m' ↔ ((i = ia ∧ q = 224 + 7 * (m.1 47 i - 13)) ∧ ((0 ≤ g ∧ g ≤ 1) ∧ 0 ≤ t ∧ t ≤ 3) ∧ rS (rvF m.1) E m'.2 ∧ (∀ a b, Jr m.2 a b → Jr m'.2 a b) ∧ (g = 0 → (∀ a b, Jr m'.2 a b → Jr m.2 a b) ∧ rC1 m'.2 (m.1 47 i - 13) i t) ∧ (g = 1 → rNw m.2 m'.2 i)) := ⟨_, fun _ _ _ _ _ => Iff.rfl⟩
  obtain ⟨J1, hJ1⟩ : ∃ J : Int →Int →Int →Int →Int → wk_M → Prop, ∀ ia q g t o m', J ia q g t o m' ↔ ((i = ia ∧ q = 224 + 7 * (m.1 47 i - 13)) ∧ ((0 ≤ g ∧ g ≤ 1) ∧ (0 ≤ t ∧ t < 3) ∧ 0 ≤ o ∧ o ≤ 3) ∧ rS (rvF m.1) E m'.2 ∧ (∀ a b, Jr m.2 a b → Jr m'.2 a b) ∧ (g = 0 → (∀ a b, Jr m'.2 a b → Jr m.2 a b) ∧ rC1 m'.2 (m.1 47 i - 13) i t) ∧ (g = 1 → rNw m.2 m'.2 i) ∧ rL1 (rvF m.1) E m'.2 (m.1 47 i - 13) i g t o) := ⟨_, fun _ _ _ _ _ _ => Iff.rfl⟩
  refine wC.gen fun Q hQ => wk_E hZ (by exact rfl) [(22, [(3, 46), (1, 0), (1, 0), (1, 0), (1, 0), (0, 0), (0, 0), (0, 0)], fun vs _ m' => (match vs with
    | [ia, q, g, t] => J0 ia q g t m'
    | _ => False), fun vs _ m' => (match vs with
    | [ia, q, g, t] => ((3 - t) * 10 + 9 : Int).toNat
    | _ => 0)), (54, [(3, 46), (1, 0), (1, 0), (1, 0), (1, 0), (1, 0), (0, 0), (0, 0)], fun vs _ m' => (match vs with
    | [ia, q, g, t, o] => J1 ia q g t o m'
    | _ => False), fun vs _ m' => (match vs with
    | [ia, q, g, t, o] => ((3 - t) * 10 + (3 - o) : Int).toNat
    | _ => 0))] rfl (fun hr hs => ⟨?_, ⟨?_, trivial⟩⟩) (fun hr hs => ?_)
  · have e1 : ab_lo = -2147483648 := rfl
    have e2 : ab_hi = 2147483647 := rfl
    intro m2 hr2 hf2 ia ial iah q ql qh g gl gh t tl th hI
    have hI := (hJ0 _ _ _ _ _).mp hI
    obtain ⟨⟨rfl, eq⟩, ⟨⟨g0, g1⟩, t0, t1⟩, hS, hM, hZ0, hN1⟩ := hI
    have hc2 := rvF_c.mp hc
    have e47 : m2.1 47 i = m.1 47 i := congrFun (hf2 47 (by decide)).1 i
    repeat' first | (intro h; exact absurd h (by decide)) | (intro h; exact absurd rfl h) | refine And.intro ?_ ?_ | intro _ | refine Or.inl ⟨by omega, by omega, ?_⟩ | refine Or.inr ?_ | exact trivial | (refine wk_use (k171x hZ _ _ (by omega) (by omega)) rfl rfl ?_; rintro - _ _ - hfr - ⟨rfl, h11, hX⟩; have f171 := hfr; refine Or.inr ?_) | (refine wk_use (k172xa hZ _ _ (by decide) (by decide) ⟨rgW_sm (f171 60 (by decide)).2 hS.1, rgW_sm (f171 60 (by decide)).2 hS.1⟩ (fun b b0 b1 z => by have := (hX b (by omega) b1).mp z; omega)) rfl rfl ?_; rintro - _ _ - hfr - ⟨rfl, h00, hfl⟩; have f172 := hfr; refine Or.inr ?_)
    all_goals first
      | omega
      | (show ((3 - (_ : Int)) * 10 + 9 : Int).toNat < ((3 - (_ : Int)) * 10 + 9 : Int).toNat; omega)
      | exact hQ _ _ ⟨_, rfl, ⟨by omega, by omega⟩, hS, hM, (fun z => ⟨(hZ0 z).1, by have e : t = 3 := (by omega); have q := (hZ0 z).2; rw [e] at q; exact q⟩), hN1⟩
      | (show J1 _ _ _ _ _ _; refine (hJ1 _ _ _ _ _ _).mpr (by have e60 := (f172 60 (by decide)).2.trans (f171 60 (by decide)).2; exact ⟨⟨rfl, by omega⟩, ⟨⟨by omega, by omega⟩, ⟨by omega, by omega⟩, by omega, by omega⟩, rS_sm e60 hS, (fun a b z => by rw [Jr_sm e60]; exact hM a b z), (fun z => ⟨fun a b y => (hZ0 z).1 a b (by rw [Jr_sm e60] at y; exact y), rC1_sm e60 (hZ0 z).2⟩), (fun z => by unfold rNw; rw [Jr_sm e60]; exact hN1 z), rL1_in ⟨by omega, hq⟩ (by omega) t0 (by omega) (by omega) (by omega) hS (f171 60 (by decide)).2 (f172 60 (by decide)).2 hX hfl⟩))
      | (show (_ : Nat) < (_ : Nat); dsimp only; omega)
  · have e1 : ab_lo = -2147483648 := rfl
    have e2 : ab_hi = 2147483647 := rfl
    intro m2 hr2 hf2 ia ial iah q ql qh g gl gh t tl th o ol oh hI
    have hI := (hJ1 _ _ _ _ _ _).mp hI
    obtain ⟨⟨rfl, eq⟩, ⟨⟨g0, g1⟩, ⟨t0, t1⟩, o0, o1⟩, hS, hM, hZ0, hN1, hL⟩ := hI
    have hc2 := rvF_c.mp hc
    have e47 : m2.1 47 i = m.1 47 i := congrFun (hf2 47 (by decide)).1 i
    repeat' first | (intro h; exact absurd h (by decide)) | (intro h; exact absurd rfl h) | refine And.intro ?_ ?_ | intro _ | refine Or.inl ⟨by omega, by omega, ?_⟩ | refine Or.inr ?_ | exact trivial | (refine wk_use (k173x63 hZ _ _ (by omega) (by omega)) rfl rfl ?_; rintro - _ _ - - - ⟨_, rfl, hm, ⟨rfl, hs⟩ | ⟨rfl, hs⟩⟩ <;> refine Or.inl ⟨[], hm, ?_⟩ <;> clear hm) | (refine wk_use (k173x60 hZ _ _ _ (by omega) (by omega) (by omega) (by omega)) rfl rfl ?_; rintro - _ _ - - - ⟨_, rfl, hm, ⟨rfl, hi⟩ | ⟨rfl, hi⟩⟩ <;> refine Or.inl ⟨[], hm, ?_⟩ <;> clear hm) | (refine wk_use (k169x60 hZ _ _ _ (by omega) (by omega) (by omega) (by omega)) rfl rfl ?_; rintro - _ _ - hfr - ⟨rfl, h11, hp⟩; have f169 := hfr; refine Or.inr ?_)
    all_goals first
      | omega
      | (show ((3 - (_ : Int)) * 10 + (3 - (_ : Int)) : Int).toNat < ((3 - (_ : Int)) * 10 + (3 - (_ : Int)) : Int).toNat; omega)
      | (show J0 _ _ _ _ _; refine (hJ0 _ _ _ _ _).mpr ⟨⟨rfl, by omega⟩, ⟨⟨by omega, by omega⟩, by omega, by omega⟩, hS, hM, (fun z => ⟨(hZ0 z).1, rC1_nx (by omega) (hZ0 z).2 (by rw [z] at hL; exact hL)⟩), hN1⟩)
      | (show J1 _ _ _ _ _ _; refine (hJ1 _ _ _ _ _ _).mpr (by have hJ := Jr_put i0 i1 ⟨t0, by omega⟩ ⟨o0, by omega⟩ hp; have hl : sL (rvF m.1) E (m.1 47 i - 13) t o := (by obtain ⟨L, l1, l2, -⟩ := hL; exact l2 o o0 (by omega) ((l1 o o0 (by omega)).mp (by have e : 224 + (m.1 47 i - 13) * 7 + (1 + o) = q + 1 + o := (by omega); rw [e]; exact hs))); have nn : ¬ Jr m2.2 ((4 + t) * 32 + i) ((1 + o) * 32 + i) := (fun z => hi (by have z2 := z.2; rw [(psi_e i0 i1 t0 (by omega)).1, (psi_e i0 i1 o0 (by omega)).2] at z2; exact z2)); exact ⟨⟨rfl, by omega⟩, ⟨⟨by omega, by omega⟩, ⟨by omega, by omega⟩, by omega, by omega⟩, rS_put hc ⟨t0, by omega⟩ ⟨o0, by omega⟩ (rgW_put (by omega) hS.1 hp) hl hJ hS, (fun a b z => (hJ a b).mpr (Or.inl (hM a b z))), (fun z => absurd z (by decide)), (fun _ => ⟨t, o, ⟨t0, by omega⟩, ⟨o0, by omega⟩, fun z => nn (hM _ _ z), (hJ _ _).mpr (Or.inr ⟨rfl, rfl⟩)⟩), rL1_yes (f169 63 (by decide)).2 hL⟩))
      | (show J1 _ _ _ _ _ _; refine (hJ1 _ _ _ _ _ _).mpr ⟨⟨rfl, by omega⟩, ⟨⟨by omega, by omega⟩, ⟨by omega, by omega⟩, by omega, by omega⟩, hS, hM, hZ0, hN1, rL1_no o0 (by omega) hL (Or.inr ⟨⟨⟨by omega, by omega⟩, by omega, by omega⟩, by rw [(psi_e i0 i1 t0 (by omega)).1, (psi_e i0 i1 o0 (by omega)).2]; exact hi⟩)⟩)
      | (show J1 _ _ _ _ _ _; refine (hJ1 _ _ _ _ _ _).mpr ⟨⟨rfl, by omega⟩, ⟨⟨by omega, by omega⟩, ⟨by omega, by omega⟩, by omega, by omega⟩, hS, hM, hZ0, hN1, rL1_no o0 (by omega) hL (Or.inl (fun z => hs (by have e : 224 + (m.1 47 i - 13) * 7 + (1 + o) = q + 1 + o := (by omega); rw [e] at z; exact z)))⟩)
      | (show (_ : Nat) < (_ : Nat); dsimp only; omega)
  · have e1 : ab_lo = -2147483648 := rfl
    have e2 : ab_hi = 2147483647 := rfl
    have hc2 := rvF_c.mp hc
    repeat' first | (intro h; exact absurd h (by decide)) | (intro h; exact absurd rfl h) | refine And.intro ?_ ?_ | intro _ | refine Or.inl ⟨by omega, by omega, ?_⟩ | refine Or.inr ?_ | exact trivial
    all_goals first
      | omega
      | trivial
      | (show J0 _ _ _ _ _; refine (hJ0 _ _ _ _ _).mpr ⟨⟨rfl, rfl⟩, ⟨⟨by omega, by omega⟩, by omega, by omega⟩, h, (fun a b z => z), (fun _ => ⟨fun a b z => z, fun t' o' a b => by omega⟩), fun z => absurd z (by decide)⟩)
