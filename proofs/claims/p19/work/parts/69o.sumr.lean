/-! summarise -/
theorem or01 {g v z : Int} (g0 : 0 ≤ g ∧ g ≤ 1) (v0 : 0 ≤ v ∧ v ≤ 1) (ez : z = (Int32.ofInt g ||| Int32.ofInt v).toInt) : (z = 0 ∧ g = 0 ∧ v = 0) ∨ (z = 1 ∧ (g = 1 ∨ v = 1)) := by
  have hg : g = 0 ∨ g = 1 := by omega
  have hv : v = 0 ∨ v = 1 := by omega
  rcases hg with e | e <;> rcases hv with e' | e' <;> subst e e'
  · exact Or.inl ⟨ez.trans (by decide), rfl, rfl⟩
  · exact Or.inr ⟨ez.trans (by decide), Or.inr rfl⟩
  · exact Or.inr ⟨ez.trans (by decide), Or.inl rfl⟩
  · exact Or.inr ⟨ez.trans (by decide), Or.inl rfl⟩
/-- a round of the summaries under way -/
def smR (f : Nat → Int → Int) (E : Int → Int → Prop) (h : Nat → Int → Int) (g rd p t : Int) : Prop := (∀ p t o, sB f h p t o → sL f E p t o) ∧ rd.toNat ≤ cnS f h ∧ (g = 1 → (rd + 1).toNat ≤ cnS f h) ∧ (g = 0 → ∀ p' t' o', sRg f p' t' o' → (p' < p ∨ (p' = p ∧ t' + 4 < t)) → sLd f E (sB f h) p' t' o' → sB f h p' t' o')
theorem smR_s {f : Nat → Int → Int} {E : Int → Int → Prop} {h2 h3 : Nat → Int → Int} {g rd p t v z : Int} (p4 : f 1 (11 : Nat) ≤ 4) (p0 : 0 ≤ p) (p1 : p < f 1 (11 : Nat)) (t0 : 4 ≤ t) (t1 : t ≤ 6) (r0 : 0 ≤ rd) (v0 : 0 ≤ v ∧ v ≤ 1) (hR : smR f E h2 g rd p t) (hK : seK f E p (t - 4) h2 h3 v 4) (hz : (z = 0 ∧ g = 0 ∧ v = 0) ∨ (z = 1 ∧ (g = 1 ∨ v = 1))) : smR f E h3 z rd p (t + 1) := by
  obtain ⟨s1, s2, s3, s4⟩ := hR
  obtain ⟨k1, k2, k3⟩ := hK
  have rg : ∀ o', 0 ≤ o' → o' ≤ 2 → sRg f p (t - 4) o' := fun o' a b => ⟨⟨p0, p1⟩, ⟨by omega, by omega⟩, a, b⟩
  have mo : ∀ p t o, sB f h2 p t o → sB f h3 p t o := fun p t o q => (k1 p t o).mpr (Or.inl q)
  have m1 := cnS_mo mo
  have lt : v = 1 → cnS f h2 < cnS f h3 := by
    intro e
    obtain ⟨o', ⟨a, b, c⟩, n, l⟩ := k3 e
    exact cnS_lt p4 mo n ((k1 _ _ _).mpr (Or.inr ⟨rfl, rfl, ⟨a, b, c⟩, l⟩))
  refine ⟨fun p' t' o' q => ?_, by omega, fun e => ?_, fun e => ?_⟩
  · rcases (k1 p' t' o').mp q with z | ⟨e1, e2, ⟨a, b, c⟩, l⟩
    · exact s1 _ _ _ z
    · subst e1 e2
      exact sL_so s1 (rg o' a b) l
  · rcases hz with ⟨z, -⟩ | ⟨-, z | z⟩
    · omega
    · have := s3 z
      omega
    · have := lt z
      omega
  · rcases hz with ⟨-, eg, ev⟩ | ⟨z, -⟩
    · have eB : sB f h3 = sB f h2 := by
        funext p' t' o'
        apply propext
        rw [k1]
        refine ⟨fun q => q.elim id (fun ⟨e1, e2, ⟨a, b, c⟩, l⟩ => ?_), Or.inl⟩
        subst e1 e2
        exact k2 ev o' a b c l
      rw [eB]
      intro p' t' o' hr hp l
      by_cases ep : p' = p ∧ t' + 4 = t
      · obtain ⟨e1, e2⟩ := ep
        have e3 : t' = t - 4 := by omega
        subst e1 e3
        have := hr.2.2
        exact k2 ev o' this.1 this.2 (by omega) l
      · exact s4 eg p' t' o' hr (by omega) l
    · omega
theorem smR_p {f : Nat → Int → Int} {E : Int → Int → Prop} {h : Nat → Int → Int} {g rd p t p' t' : Int} (hR : smR f E h g rd p t) (hp : ∀ q s : Int, 0 ≤ s → s ≤ 2 → (q < p' ∨ (q = p' ∧ s + 4 < t')) → (q < p ∨ (q = p ∧ s + 4 < t))) : smR f E h g rd p' t' := by
  obtain ⟨s1, s2, s3, s4⟩ := hR
  exact ⟨s1, s2, s3, fun e q s o hr hq l => s4 e q s o hr (hp q s hr.2.1.1 hr.2.1.2 hq) l⟩

set_option maxHeartbeats 8000000 in
set_option maxRecDepth 20000 in
theorem k60x {Z : sm_Z} (hZ : Z.2.2.2 = tb_N) (m : wk_M) (f : Nat → Int → Int) (E : Int → Int → Prop) (hcf : cF f m) (hE : eRg E) (c32 : f 1 (4 : Nat) ≤ 32) (p4 : f 1 (11 : Nat) ≤ 4) (hp1 : 1 ≤ f 1 (11 : Nat)) (hI : sI f E m.1) (hC : cC f (f 1 (4 : Nat)) m.1) (h : dM m.1) (hS0 : ∀ p t o, ¬ sB f m.1 p t o) : wC Z 5 60 [14, 15, 18, 25, 26, 27] [.inr (.inl 25)] m (fun r m' => r = none ∧ dM m'.1 ∧ sI f E m'.1 ∧ ∀ p t o, sB f m'.1 p t o ↔ sL f E p t o) := by
  obtain ⟨J0, hJ0⟩ : ∃ J : Int →Int → wk_M → Prop, ∀ g rd m', J g rd m' ↔ (((0 ≤ rd ∧ rd ≤ 252) ∧ 0 ≤ g ∧ g ≤ 1) ∧ dM m'.1 ∧ sI f E m'.1 ∧ (∀ p t o, sB f m'.1 p t o → sL f E p t o) ∧ (g = 1 → rd.toNat ≤ cnS f m'.1) ∧ (g = 0 → sCl f E (sB f m'.1))) := ⟨_, fun _ _ _ => Iff.rfl⟩
  obtain ⟨J1, hJ1⟩ : ∃ J : Int →Int →Int → wk_M → Prop, ∀ g rd p m', J g rd p m' ↔ (((0 ≤ rd ∧ rd < 252) ∧ (0 ≤ g ∧ g ≤ 1) ∧ 0 ≤ p ∧ p ≤ f 1 (11 : Nat)) ∧ dM m'.1 ∧ sI f E m'.1 ∧ smR f E m'.1 g rd p 4) := ⟨_, fun _ _ _ _ => Iff.rfl⟩
  obtain ⟨J2, hJ2⟩ : ∃ J : Int →Int →Int →Int → wk_M → Prop, ∀ g rd p t m', J g rd p t m' ↔ (((0 ≤ rd ∧ rd < 252) ∧ (0 ≤ g ∧ g ≤ 1) ∧ (0 ≤ p ∧ p < f 1 (11 : Nat)) ∧ 4 ≤ t ∧ t ≤ 7) ∧ dM m'.1 ∧ sI f E m'.1 ∧ smR f E m'.1 g rd p t) := ⟨_, fun _ _ _ _ _ => Iff.rfl⟩
  refine wC.gen fun Q hQ => wk_E hZ (by exact rfl) [(4, [(3, 25), (1, 0), (1, 0), (0, 0), (0, 0)], fun vs _ m' => (match vs with
    | [g, rd] => J0 g rd m'
    | _ => False), fun vs _ m' => (match vs with
    | [g, rd] => ((252 - rd) * 100 + 99 : Int).toNat
    | _ => 0)), (19, [(3, 25), (1, 0), (1, 0), (1, 0), (0, 0)], fun vs _ m' => (match vs with
    | [g, rd, p] => J1 g rd p m'
    | _ => False), fun vs _ m' => (match vs with
    | [g, rd, p] => ((252 - rd) * 100 + (4 - p) * 10 + 9 : Int).toNat
    | _ => 0)), (33, [(3, 25), (1, 0), (1, 0), (1, 0), (1, 0)], fun vs _ m' => (match vs with
    | [g, rd, p, t] => J2 g rd p t m'
    | _ => False), fun vs _ m' => (match vs with
    | [g, rd, p, t] => ((252 - rd) * 100 + (4 - p) * 10 + (7 - t) : Int).toNat
    | _ => 0))] rfl (fun hr hs => ⟨?_, ⟨?_, ⟨?_, trivial⟩⟩⟩) (fun hr hs => ?_)
  · have e1 : ab_lo = -2147483648 := rfl
    have e2 : ab_hi = 2147483647 := rfl
    intro m2 hr2 hf2 g gl gh rd rdl rdh hI
    have hI := (hJ0 _ _ _).mp hI
    obtain ⟨⟨⟨r0, r1⟩, g0, g1⟩, hd, hI2, hs, hc, hcl⟩ := hI
    have hle := cnS_le (f := f) (g := m2.1)
    have hcf2 := cF_fr hf2 rfl hcf
    have hC2 := cC_sm hC (hf2 17 (by decide)).1
    have ep : m2.1 1 (11 : Nat) = f 1 (11 : Nat) := congrFun (hcf2 1 (by decide)) _
    repeat' first | (intro h; exact absurd h (by decide)) | (intro h; exact absurd rfl h) | refine And.intro ?_ ?_ | intro _ | refine Or.inl ⟨by omega, by omega, ?_⟩ | refine Or.inr ?_ | exact trivial
    all_goals first
      | omega
      | (show ((252 - (_ : Int)) * 100 + 99 : Int).toNat < ((252 - (_ : Int)) * 100 + 99 : Int).toNat; omega)
      | exact hQ _ _ ⟨rfl, hd, hI2, sL_eq hs (by by_cases z : g = 0; exact hcl z; (exfalso; have := hc (by omega); omega))⟩
      | exact hQ _ _ ⟨rfl, hd, hI2, sL_eq hs (hcl (by omega))⟩
      | (show J1 _ _ _ _; refine (hJ1 _ _ _ _).mpr ⟨⟨⟨by omega, by omega⟩, ⟨by omega, by omega⟩, by omega, by omega⟩, hd, hI2, hs, hc (by omega), (fun z => absurd z (by decide)), fun _ p' t' o' hr hq => by have := hr.1; have := hr.2.1; omega⟩)
      | (show (_ : Nat) < (_ : Nat); dsimp only; omega)
  · have e1 : ab_lo = -2147483648 := rfl
    have e2 : ab_hi = 2147483647 := rfl
    intro m2 hr2 hf2 g gl gh rd rdl rdh p pl ph hI
    have hI := (hJ1 _ _ _ _).mp hI
    obtain ⟨⟨⟨r0, r1⟩, ⟨g0, g1⟩, q0, q1⟩, hd, hI2, hR⟩ := hI
    have hcf2 := cF_fr hf2 rfl hcf
    have hC2 := cC_sm hC (hf2 17 (by decide)).1
    have ep : m2.1 1 (11 : Nat) = f 1 (11 : Nat) := congrFun (hcf2 1 (by decide)) _
    repeat' first | (intro h; exact absurd h (by decide)) | (intro h; exact absurd rfl h) | refine And.intro ?_ ?_ | intro _ | refine Or.inl ⟨by omega, by omega, ?_⟩ | refine Or.inr ?_ | exact trivial
    all_goals first
      | omega
      | (show ((252 - (_ : Int)) * 100 + (4 - (_ : Int)) * 10 + 9 : Int).toNat < ((252 - (_ : Int)) * 100 + (4 - (_ : Int)) * 10 + 9 : Int).toNat; omega)
      | (show J0 _ _ _; refine (hJ0 _ _ _).mpr ⟨⟨⟨by omega, by omega⟩, by omega, by omega⟩, hd, hI2, hR.1, hR.2.2.1, fun z p' t' o' hr l => hR.2.2.2 z p' t' o' hr (Or.inl (by have := hr.1; omega)) l⟩)
      | (show J2 _ _ _ _ _; refine (hJ2 _ _ _ _ _).mpr ⟨⟨⟨by omega, by omega⟩, ⟨by omega, by omega⟩, ⟨by omega, by omega⟩, by omega, by omega⟩, hd, hI2, hR⟩)
      | (show (_ : Nat) < (_ : Nat); dsimp only; omega)
  · have e1 : ab_lo = -2147483648 := rfl
    have e2 : ab_hi = 2147483647 := rfl
    intro m2 hr2 hf2 g gl gh rd rdl rdh p pl ph t tl th hI
    have hI := (hJ2 _ _ _ _ _).mp hI
    obtain ⟨⟨⟨r0, r1⟩, ⟨g0, g1⟩, ⟨q0, q1⟩, t0, t1⟩, hd, hI2, hR⟩ := hI
    have hcf2 := cF_fr hf2 rfl hcf
    have hC2 := cC_sm hC (hf2 17 (by decide)).1
    have ep : m2.1 1 (11 : Nat) = f 1 (11 : Nat) := congrFun (hcf2 1 (by decide)) _
    repeat' first | (intro h; exact absurd h (by decide)) | (intro h; exact absurd rfl h) | refine And.intro ?_ ?_ | intro _ | refine Or.inl ⟨by omega, by omega, ?_⟩ | refine Or.inr ?_ | exact trivial | (refine wk_use (k61x hZ _ f E hcf2 hE c32 p4 _ _ (by omega) (by omega) (by omega) (by omega) hI2 hC2 hd) rfl rfl ?_; rintro - _ _ - hfr - ⟨v, rfl, hv, hd2, hI3, hK⟩; refine Or.inr ?_)
    all_goals first
      | omega
      | (show ((252 - (_ : Int)) * 100 + (4 - (_ : Int)) * 10 + (7 - (_ : Int)) : Int).toNat < ((252 - (_ : Int)) * 100 + (4 - (_ : Int)) * 10 + (7 - (_ : Int)) : Int).toNat; omega)
      | (show J1 _ _ _ _; refine (hJ1 _ _ _ _).mpr ⟨⟨⟨by omega, by omega⟩, ⟨by omega, by omega⟩, by omega, by omega⟩, hd, hI2, smR_p hR (fun q s a b c => by omega)⟩)
      | (show J2 _ _ _ _ _; refine (hJ2 _ _ _ _ _).mpr (by have oz := or01 ⟨g0, g1⟩ hv (by assumption); exact ⟨⟨⟨by omega, by omega⟩, ⟨by omega, by omega⟩, ⟨by omega, by omega⟩, by omega, by omega⟩, hd2, hI3, smR_s p4 q0 q1 t0 (by omega) r0 hv hR hK oz⟩))
      | (show (_ : Nat) < (_ : Nat); dsimp only; omega)
  · have e1 : ab_lo = -2147483648 := rfl
    have e2 : ab_hi = 2147483647 := rfl
    repeat' first | (intro h; exact absurd h (by decide)) | (intro h; exact absurd rfl h) | refine And.intro ?_ ?_ | intro _ | refine Or.inl ⟨by omega, by omega, ?_⟩ | refine Or.inr ?_ | exact trivial
    all_goals first
      | omega
      | trivial
      | (show J0 _ _ _; refine (hJ0 _ _ _).mpr ⟨⟨⟨by omega, by omega⟩, by omega, by omega⟩, h, hI, (fun p t o q => absurd q (hS0 p t o)), (fun _ => Nat.zero_le _), fun z => absurd z (by decide)⟩)
