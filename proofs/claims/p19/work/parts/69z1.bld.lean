/-! behind a build, with the summaries -/
def iRn (f : Nat → Int → Int) (l : Nat → Int → Int64) (a b : Int) : Prop := (nR a ∧ nR b) ∧ iA f l a b
theorem iR_rg {f : Nat → Int → Int} {l : Nat → Int → Int64} : eRg (iRn f l) := fun _ _ q => q.1
theorem sB_0 {f g : Nat → Int → Int} (h : z18 g) (p4 : f 1 (11 : Nat) ≤ 4) : ∀ p t o, ¬ sB f g p t o := by
  rintro p t o ⟨r, q⟩
  unfold sRg at r
  rw [h p (by omega) (by omega), bit_0] at q
  cases q
theorem sI_in {f g : Nat → Int → Int} {l : Nat → Int → Int64} {B : Int → Int → Int → Prop} (hA : dA (fun a b => (n2 a b ∨ eX 0 (f 1 (4 : Nat)) (fun i => inA f l i a b)) ∨ eX 0 (f 1 (11 : Nat)) (fun p => enA f l p a b)) B lyZ.1 g) (h0 : ∀ p t o, ¬ sB f g p t o) : sI f (iRn f l) g := by
  intro a b a0 a1 b0 b1
  obtain ⟨q1, q2⟩ := hA.1 a b a0 a1 b0 b1
  have no1 : ¬ nE lyZ.1 a b := fun z => by
    have z2 : bitI 0 (b % 32) = true := z
    rw [bit_0] at z2
    cases z2
  have no2 : ¬ nF lyZ.1 a b := fun z => by
    have z2 : bitI 0 (a % 32) = true := z
    rw [bit_0] at z2
    cases z2
  have key : ((n2 a b ∨ eX 0 (f 1 (4 : Nat)) (fun i => inA f l i a b)) ∨ eX 0 (f 1 (11 : Nat)) (fun p => enA f l p a b)) ↔ sE f (iRn f l) (sB f g) a b := by
    constructor
    · rintro ((q | q) | q)
      · exact False.elim q
      · exact Or.inl ⟨⟨⟨a0, a1⟩, b0, b1⟩, Or.inl q⟩
      · exact Or.inl ⟨⟨⟨a0, a1⟩, b0, b1⟩, Or.inr q⟩
    · rintro (⟨-, q | q⟩ | ⟨i, t, o, -, -, -, s, -⟩)
      · exact Or.inl (Or.inr q)
      · exact Or.inr q
      · exact absurd s (h0 _ _ _)
  exact ⟨q1.trans ⟨fun q => q.elim (fun z => absurd z no1) key.mp, fun q => Or.inr (key.mpr q)⟩, q2.trans ⟨fun q => q.elim (fun z => absurd z no2) key.mp, fun q => Or.inr (key.mpr q)⟩⟩
/-- the class: ways l, edges and summaries that stand in h, over the tables f -/
def cXl (f h : Nat → Int → Int) (l : Nat → Int → Int64) : Prop := wyS f l ∧ sI f (iRn f l) h ∧ (∀ p t o, sB f h p t o ↔ sL f (iRn f l) p t o) ∧ cC f (f 1 (4 : Nat)) h ∧ dM h
def rsc (f : Nat → Int → Int) : Nat → Int → Int := fun p i => if 1 ≤ p ∧ p ≤ 12 then f p i else 0
theorem wyS_rsc (f : Nat → Int → Int) (l : Nat → Int → Int64) : wyS (rsc f) l = wyS f l := rfl
theorem iR_rsc (f : Nat → Int → Int) (l : Nat → Int → Int64) : iRn (rsc f) l = iRn f l := rfl
theorem sB_rsc (f h : Nat → Int → Int) : sB (rsc f) h = sB f h := rfl
theorem sL_rsc (f : Nat → Int → Int) (E : Int → Int → Prop) : sL (rsc f) E = sL f E := rfl
theorem sI_rsc (f h : Nat → Int → Int) (E : Int → Int → Prop) : sI (rsc f) E h = sI f E h := rfl
theorem cC_rsc (f h : Nat → Int → Int) (c : Int) : cC (rsc f) c h = cC f c h := rfl
theorem cXl_rsc (f h : Nat → Int → Int) (l : Nat → Int → Int64) : cXl (rsc f) h l = cXl f h l := by
  unfold cXl
  rw [wyS_rsc, iR_rsc, sB_rsc, sL_rsc, sI_rsc, cC_rsc] <;> rfl
theorem rsc_sm {f g : Nat → Int → Int} (e : ∀ p, 1 ≤ p → p ≤ 12 → g p = f p) : rsc g = rsc f := by
  funext p i
  unfold rsc
  by_cases h : 1 ≤ p ∧ p ≤ 12
  · rw [if_pos h, if_pos h, e p h.1 h.2]
  · rw [if_neg h, if_neg h]
theorem cXl_t {f g h : Nat → Int → Int} {l : Nat → Int → Int64} (e : ∀ p, 1 ≤ p → p ≤ 12 → g p = f p) (hh : cXl f h l) : cXl g h l := by
  rw [← cXl_rsc, rsc_sm e, cXl_rsc]
  exact hh
theorem cXl_m {f h h' : Nat → Int → Int} {l : Nat → Int → Int64} (e14 : h' 14 = h 14) (e15 : h' 15 = h 15) (e17 : h' 17 = h 17) (e18 : h' 18 = h 18) (hh : cXl f h l) : cXl f h' l := by
  obtain ⟨a, b, c, d, x⟩ := hh
  refine ⟨a, sI_sm e14 e15 e18 b, ?_, cC_sm d e17, ?_⟩
  · unfold sB at c ⊢
    rw [e18]
    exact c
  · unfold dM at x ⊢
    rw [e14, e15]
    exact x
def cX (f : Nat → Int → Int) : Prop := ∃ l, cXl f f l
theorem cX_sm {f g : Nat → Int → Int} (e : ∀ p, 1 ≤ p → p ≤ 12 → g p = f p) (e14 : g 14 = f 14) (e15 : g 15 = f 15) (e17 : g 17 = f 17) (e18 : g 18 = f 18) (h : cX f) : cX g := h.elim fun l h => ⟨l, cXl_t e (cXl_m e14 e15 e17 e18 h)⟩
theorem cF_35 {m2 m1 : wk_M} (f35 : wk_fr [14, 15, 16, 17, 18, 20, 21, 22, 23, 24] m2 m1) : cF m1.1 m2 := fun _ hp => wk_fr_lo f35 rfl hp
theorem built_y {m1 m2 m3 m4 : wk_M} {l : Nat → Int → Int64} (hW : wyS m1.1 l) (hI : sI m1.1 (iRn m1.1 l) m3.1) (hB : ∀ p t o, sB m1.1 m3.1 p t o ↔ sL m1.1 (iRn m1.1 l) p t o) (hC : cC m1.1 (m1.1 1 (4 : Nat)) m2.1) (hd : dM m3.1) (f1 : wk_fr [14, 15, 16, 17, 18, 20, 21, 22, 23, 24] m2 m1) (f2 : wk_fr [14, 15, 18, 25, 26, 27] m3 m2) (f3 : wk_fr [25, 26, 27, 43] m4 m3) : cX (wk_u m4 0 (7 : Nat) 1).1 := by
  have e : ∀ p, 1 ≤ p → p ≤ 12 → (wk_u m4 0 (7 : Nat) 1).1 p = m1.1 p := fun p p0 p1 => built_fr f1 f2 f3 p1 (by omega)
  refine ⟨l, cXl_t e (cXl_m ?_ ?_ ?_ ?_ ⟨hW, hI, hB, cC_sm hC (f2 17 (by decide)).1, hd⟩)⟩
  · exact (wk_u_ne m4 0 _ _ (by decide)).trans (f3 14 (by decide)).1
  · exact (wk_u_ne m4 0 _ _ (by decide)).trans (f3 15 (by decide)).1
  · exact (wk_u_ne m4 0 _ _ (by decide)).trans (f3 17 (by decide)).1
  · exact (wk_u_ne m4 0 _ _ (by decide)).trans (f3 18 (by decide)).1
/-! the reference -/
def rXp (m : wk_M) (l : Nat → Int → Int64) : Prop := rS (rvF m.1) (rE m) l ∧ uD l (uP m.1 (m.1 46 (0 : Nat))) (dP m.1 (m.1 46 (0 : Nat))) ∧ ∀ k, 0 ≤ k → k < m.1 46 (0 : Nat) → clR m.1 k → rC1 l (m.1 47 k - 13) k 3
def rX (m : wk_M) : Prop := rXp m m.2
def rst3 (f : Nat → Int → Int) : Nat → Int → Int := fun p i => if p = 46 then (if i = 0 then f 46 (0 : Nat) else if i = 6 then f 46 (6 : Nat) else 0) else if 47 ≤ p ∧ p ≤ 57 then f p i else 0
theorem Hk_rst3 (f : Nat → Int → Int) (l : Nat → Int → Int64) : Hk (rst3 f) (rst2 l) = Hk f l := rfl
theorem rE_rst3 (m : wk_M) : rE (rst3 m.1, rst2 m.2) = rE m := by
  funext a b
  unfold rE hE
  show ((nR a ∧ nR b) ∧ ∃ k, (0 ≤ k ∧ k ≤ 3) ∧ Hk (rst3 m.1) (rst2 m.2) k (psi a) (psi b)) = _
  rw [Hk_rst3]
theorem rvF_rst3 (f : Nat → Int → Int) : rvF (rst3 f) = rvF f := rfl
theorem uP_rst3 (f : Nat → Int → Int) : uP (rst3 f) = uP f := rfl
theorem dP_rst3 (f : Nat → Int → Int) : dP (rst3 f) = dP f := rfl
theorem rXp_rst3 (m : wk_M) (l : Nat → Int → Int64) : rXp (rst3 m.1, rst2 m.2) l = rXp m l := by
  unfold rXp
  rw [rE_rst3]
  show (rS (rvF (rst3 m.1)) (rE m) l ∧ uD l (uP (rst3 m.1) (m.1 46 (0 : Nat))) (dP (rst3 m.1) (m.1 46 (0 : Nat))) ∧ ∀ k, 0 ≤ k → k < m.1 46 (0 : Nat) → clR m.1 k → rC1 l (m.1 47 k - 13) k 3) = _
  rw [rvF_rst3, uP_rst3, dP_rst3]
theorem rst3_sm {f g : Nat → Int → Int} (e0 : g 46 (0 : Nat) = f 46 (0 : Nat)) (e6 : g 46 (6 : Nat) = f 46 (6 : Nat)) (e : ∀ p, 47 ≤ p → p ≤ 57 → g p = f p) : rst3 g = rst3 f := by
  funext p i
  unfold rst3
  rw [e0, e6]
  by_cases h : 47 ≤ p ∧ p ≤ 57
  · rw [e p h.1 h.2]
  · rw [if_neg h, if_neg h]
theorem rst2_sm {l l' : Nat → Int → Int64} (e59 : l' 59 = l 59) : rst2 l' = rst2 l := by
  funext p i
  unfold rst2
  by_cases h : p = 59
  · rw [if_pos h, if_pos h, h, e59]
  · rw [if_neg h, if_neg h]
theorem rXp_t {m m2 : wk_M} {l : Nat → Int → Int64} (e0 : m2.1 46 (0 : Nat) = m.1 46 (0 : Nat)) (e6 : m2.1 46 (6 : Nat) = m.1 46 (6 : Nat)) (e : ∀ p, 47 ≤ p → p ≤ 57 → m2.1 p = m.1 p) (e59 : m2.2 59 = m.2 59) (h : rXp m l) : rXp m2 l := by
  rw [← rXp_rst3, rst3_sm e0 e6 e, rst2_sm e59, rXp_rst3]
  exact h
theorem rXp_l {m : wk_M} {l l' : Nat → Int → Int64} (e60 : l' 60 = l 60) (e61 : l' 61 = l 61) (e62 : l' 62 = l 62) (h : rXp m l) : rXp m l' := ⟨rS_sm e60 h.1, uD_sm e61 e62 h.2.1, fun k a b c => rC1_sm e60 (h.2.2 k a b c)⟩
theorem rX_sm {m m2 : wk_M} (e0 : m2.1 46 (0 : Nat) = m.1 46 (0 : Nat)) (e6 : m2.1 46 (6 : Nat) = m.1 46 (6 : Nat)) (e : ∀ p, 47 ≤ p → p ≤ 57 → m2.1 p = m.1 p) (e59 : m2.2 59 = m.2 59) (e60 : m2.2 60 = m.2 60) (e61 : m2.2 61 = m.2 61) (e62 : m2.2 62 = m.2 62) (h : rX m) : rX m2 := rXp_t e0 e6 e e59 (rXp_l e60 e61 e62 h)
theorem rX_of {m3 m2 : wk_M} (f2 : wk_fr [60, 61, 62, 63] m3 m2) (h : rXp m2 m3.2) : rX m3 := rXp_t (congrFun (f2 46 (by decide)).1 _) (congrFun (f2 46 (by decide)).1 _) (fun p p0 p1 => fr_58 f2 rfl p (by omega) (by omega)) (f2 59 (by decide)).2 h
theorem ck_149 {m1 m2 : wk_M} (f1 : wk_fr [59] m2 (wk_u m1 46 (5 : Nat) 1)) (h : ∀ j, 0 ≤ j → j < m1.1 46 (0 : Nat) → 13 ≤ m1.1 47 j → m1.1 47 j ≤ 16 → m1.1 47 j - 13 < m1.1 46 (6 : Nat)) : ∀ j, 0 ≤ j → j < m2.1 46 (0 : Nat) → 13 ≤ m2.1 47 j → m2.1 47 j ≤ 16 → m2.1 47 j - 13 < m2.1 46 (6 : Nat) := by
  have e46 := (f1 46 (by decide)).1
  have e0 : m2.1 46 (0 : Nat) = m1.1 46 (0 : Nat) := by rw [e46]; simp (decide := true) only [wk_u_at, wk_ul_1, and_self, and_true, true_and, and_false, false_and, if_true, if_false]
  have e6 : m2.1 46 (6 : Nat) = m1.1 46 (6 : Nat) := by rw [e46]; simp (decide := true) only [wk_u_at, wk_ul_1, and_self, and_true, true_and, and_false, false_and, if_true, if_false]
  have e47 : m2.1 47 = m1.1 47 := (f1 47 (by decide)).1.trans (wk_u_ne m1 46 _ _ (by decide))
  rw [e0, e6, e47]
  exact h
/-! summary -/
def smC (f : Nat → Int → Int) (i t o v : Int) : Prop := (v = 1 ∧ (f 0 (7 : Nat) = 1 ∧ cLl f i ∧ (0 ≤ t ∧ t ≤ 2) ∧ 0 ≤ o ∧ o ≤ 2) ∧ bitI (f 18 (f 2 i - 13)) (t * 3 + o) = true) ∨ (v = 0 ∧ ¬ ((f 0 (7 : Nat) = 1 ∧ cLl f i ∧ (0 ≤ t ∧ t ≤ 2) ∧ 0 ≤ o ∧ o ≤ 2) ∧ bitI (f 18 (f 2 i - 13)) (t * 3 + o) = true))
def smK (f : Nat → Int → Int) (l : Nat → Int → Int64) (i t o v : Int) : Prop := (v = 1 ∧ (f 46 (5 : Nat) = 1 ∧ (0 ≤ i ∧ i < f 46 (0 : Nat)) ∧ clR f i ∧ (0 ≤ t ∧ t ≤ 2) ∧ 0 ≤ o ∧ o ≤ 2) ∧ rwB l 60 (32 + 6 * i + 3 + t) (32 + 6 * i + o)) ∨ (v = 0 ∧ ¬ ((f 46 (5 : Nat) = 1 ∧ (0 ≤ i ∧ i < f 46 (0 : Nat)) ∧ clR f i ∧ (0 ≤ t ∧ t ≤ 2) ∧ 0 ≤ o ∧ o ≤ 2) ∧ rwB l 60 (32 + 6 * i + 3 + t) (32 + 6 * i + o)))

set_option maxHeartbeats 8000000 in
set_option maxRecDepth 20000 in
theorem k96x {Z : sm_Z} (hZ : Z.2.2.2 = tb_N) (m : wk_M) (i t o : Int) : wC Z 3 96 [] [.inr (.inl 0), .inl i, .inl t, .inl o] m (fun r m' => ∃ v : Int, r = some (.inl v) ∧ m' = m ∧ smC m.1 i t o v) := by
  refine wC.gen fun Q hQ => wk_E hZ (by exact rfl) [] rfl (fun _ _ => trivial) fun hr hs => ?_
  have e1 : ab_lo = -2147483648 := rfl
  have e2 : ab_hi = 2147483647 := rfl
  have hb7 : 0 ≤ m.1 0 (7 : Nat) ∧ m.1 0 (7 : Nat) ≤ 1 := hr.1 0 7
  repeat' first | (intro h; exact absurd h (by decide)) | (intro h; exact absurd rfl h) | refine And.intro ?_ ?_ | intro _ | refine Or.inl ⟨by omega, by omega, ?_⟩ | refine Or.inr ?_ | exact trivial | (refine wk_use (k33 hZ _ _) rfl rfl ?_; rintro - _ _ - - - ⟨_, rfl, hm, ⟨rfl, hcl⟩ | ⟨rfl, hcl⟩⟩ <;> refine Or.inl ⟨[], hm, ?_⟩ <;> clear hm) | (refine wk_use (k34 hZ _ _ (by omega) (by omega)) rfl rfl ?_; rintro - _ _ - - - ⟨_, rfl, hm, rfl⟩; refine Or.inl ⟨[], hm, ?_⟩; clear hm) | (refine wk_use (k73x hZ _ _ _ _ (by omega) (by omega) (by omega) (by omega) (by omega) (by omega)) rfl rfl ?_; rintro - _ _ - - - ⟨_, rfl, hm, ⟨rfl, hb⟩ | ⟨rfl, hb⟩⟩ <;> (rw [show ((4 + t - 4) * 3 + (1 + o - 1) : Int) = t * 3 + o from by omega] at hb) <;> refine Or.inl ⟨[], hm, ?_⟩ <;> clear hm)
  all_goals first
    | omega
    | exact hQ _ _ ⟨_, rfl, rfl, Or.inl ⟨rfl, by unfold cLl; omega, hb⟩⟩
    | exact hQ _ _ ⟨_, rfl, rfl, Or.inr ⟨rfl, fun q => by have q := q.2; rw [hb] at q; cases q⟩⟩
    | exact hQ _ _ ⟨_, rfl, rfl, Or.inr ⟨rfl, fun q => by have q := q.1; unfold cLl at q; omega⟩⟩

set_option maxHeartbeats 8000000 in
set_option maxRecDepth 20000 in
theorem k176x {Z : sm_Z} (hZ : Z.2.2.2 = tb_N) (m : wk_M) (i t o : Int) : wC Z 2 176 [] [.inr (.inl 46), .inl i, .inl t, .inl o] m (fun r m' => ∃ v : Int, r = some (.inl v) ∧ m' = m ∧ smK m.1 m.2 i t o v) := by
  refine wC.gen fun Q hQ => wk_E hZ (by exact rfl) [] rfl (fun _ _ => trivial) fun hr hs => ?_
  have e1 : ab_lo = -2147483648 := rfl
  have e2 : ab_hi = 2147483647 := rfl
  have hb5 : 0 ≤ m.1 46 (5 : Nat) ∧ m.1 46 (5 : Nat) ≤ 1 := hr.1 46 5
  have hc : 0 ≤ m.1 46 (0 : Nat) ∧ m.1 46 (0 : Nat) ≤ 32 := hr.1 46 0
  repeat' first | (intro h; exact absurd h (by decide)) | (intro h; exact absurd rfl h) | refine And.intro ?_ ?_ | intro _ | refine Or.inl ⟨by omega, by omega, ?_⟩ | refine Or.inr ?_ | exact trivial | (refine wk_use (k148 hZ _ _ (by omega) (by omega)) rfl rfl ?_; rintro - _ _ - - - ⟨_, rfl, hm, ⟨rfl, hcl⟩ | ⟨rfl, hcl⟩⟩ <;> refine Or.inl ⟨[], hm, ?_⟩ <;> clear hm) | (refine wk_use (k173x60 hZ _ _ _ (by omega) (by omega) (by omega) (by omega)) rfl rfl ?_; rintro - _ _ - - - ⟨_, rfl, hm, ⟨rfl, hb⟩ | ⟨rfl, hb⟩⟩ <;> refine Or.inl ⟨[], hm, ?_⟩ <;> clear hm)
  all_goals first
    | omega
    | exact hQ _ _ ⟨_, rfl, rfl, Or.inl ⟨rfl, by unfold clR; omega, hb⟩⟩
    | exact hQ _ _ ⟨_, rfl, rfl, Or.inr ⟨rfl, fun q => absurd q.2 hb⟩⟩
    | exact hQ _ _ ⟨_, rfl, rfl, Or.inr ⟨rfl, fun q => by have q := q.1; unfold clR at q; omega⟩⟩

/-! the same summaries -/
theorem sE_cg {F f : Nat → Int → Int} {E E' : Int → Int → Prop} (hc : ∀ i, cLl F i ↔ cLl f i) (h2 : ∀ i, cLl F i → F 2 i = f 2 i) (hE : ∀ a b, E a b ↔ E' a b) (S : Int → Int → Int → Prop) (a b : Int) : sE F E S a b ↔ sE f E' S a b := by
  unfold sE
  rw [hE a b]
  constructor
  · rintro (q | ⟨i, t, o, c, ht, ho, s, e⟩)
    · exact Or.inl q
    · exact Or.inr ⟨i, t, o, (hc i).mp c, ht, ho, (by rw [← h2 i c]; exact s), e⟩
  · rintro (q | ⟨i, t, o, c, ht, ho, s, e⟩)
    · exact Or.inl q
    · exact Or.inr ⟨i, t, o, (hc i).mpr c, ht, ho, (by rw [h2 i ((hc i).mpr c)]; exact s), e⟩
theorem sCl_cg {F f : Nat → Int → Int} {E E' : Int → Int → Prop} (hc : ∀ i, cLl F i ↔ cLl f i) (h2 : ∀ i, cLl F i → F 2 i = f 2 i) (hE : ∀ a b, E a b ↔ E' a b) (hp : F 1 (11 : Nat) = f 1 (11 : Nat)) (S : Int → Int → Int → Prop) : sCl F E S ↔ sCl f E' S := by
  have hd : ∀ p t o, sLd F E S p t o ↔ sLd f E' S p t o := fun p t o => rs_iff (fun a b => sE_cg hc h2 hE S a b) (fun _ => Iff.rfl) (fun _ => Iff.rfl) _
  have hr : ∀ p t o, sRg F p t o ↔ sRg f p t o := fun p t o => by
    unfold sRg
    rw [hp]
  exact ⟨fun h p t o r q => h p t o ((hr p t o).mpr r) ((hd p t o).mpr q), fun h p t o r q => h p t o ((hr p t o).mp r) ((hd p t o).mp q)⟩
theorem sL_cg {F f : Nat → Int → Int} {E E' : Int → Int → Prop} (hc : ∀ i, cLl F i ↔ cLl f i) (h2 : ∀ i, cLl F i → F 2 i = f 2 i) (hE : ∀ a b, E a b ↔ E' a b) (hp : F 1 (11 : Nat) = f 1 (11 : Nat)) (p t o : Int) : sL F E p t o ↔ sL f E' p t o := ⟨fun q S hS => q S ((sCl_cg hc h2 hE hp S).mpr hS), fun q S hS => q S ((sCl_cg hc h2 hE hp S).mp hS)⟩
theorem rE_iR {m : wk_M} {l : Nat → Int → Int64} (hb : bW m.1) (ho : opR m.1) (hO : cOps m.1) (hW : wyS m.1 l) (hx : rEx m.1 m.2) (a b : Int) : rE m a b ↔ iRn m.1 l a b := ⟨fun q => ⟨q.1, (ne_cx hb ho hO hW hx q.1.1.1 q.1.1.2 q.1.2.1 q.1.2.2).mpr q.2⟩, fun q => ⟨q.1, (ne_cx hb ho hO hW hx q.1.1.1 q.1.1.2 q.1.2.1 q.1.2.2).mp q.2⟩⟩
/-- the reference's edges inside are the class's, with the least summaries -/
theorem Jr_sE {m : wk_M} {l : Nat → Int → Int64} (hb : bW m.1) (ho : opR m.1) (hO : cOps m.1) (hW : wyS m.1 l) (hx : rEx m.1 m.2) (hX : rX m) {i t o : Int} (hc : cLl m.1 i) (ht : 0 ≤ t ∧ t ≤ 2) (h0 : 0 ≤ o ∧ o ≤ 2) (hp : m.1 2 i - 13 < m.1 1 (11 : Nat)) : Jr m.2 ((4 + t) * 32 + i) ((1 + o) * 32 + i) ↔ sL m.1 (iRn m.1 l) (m.1 2 i - 13) t o := by
  obtain ⟨⟨ec, ep⟩, e2, -⟩ := hb.1
  have c32 := hb.2.2.2.1
  have hcc : ∀ i, cLl (rvF m.1) i ↔ cLl m.1 i := by
    intro i
    rw [rvF_c]
    unfold cLl
    constructor
    · rintro ⟨⟨i0, i1⟩, q⟩
      have e := (e2 i i0 (by omega)).1.1
      exact ⟨⟨i0, by omega⟩, by omega, by omega⟩
    · rintro ⟨⟨i0, i1⟩, q⟩
      have e := (e2 i i0 (by omega)).1.1
      exact ⟨⟨i0, by omega⟩, by omega, by omega⟩
  have h2 : ∀ i, cLl (rvF m.1) i → rvF m.1 2 i = m.1 2 i := fun i q => by
    have q := ((hcc i).mp q).1
    exact (e2 i q.1 q.2).1.1
  have hv : ∀ a b, 128 ≤ a → a < 224 → rE m a b → b = a % 32 := fun a b a0 a1 q => iA_v hb a0 a1 ((rE_iR hb ho hO hW hx a b).mp q).2
  have hcF := (hcc i).mpr hc
  have e := h2 i hcF
  have s := sJ_eq (f := rvF m.1) (E := rE m) (J := Jr m.2) hv (show m.1 46 (0 : Nat) ≤ 32 by omega) hX.1.2.1 hX.1.2.2 (fun i t o c r q => hX.2.2 i c.1.1 c.1.2 c.2 t o r.2.1.1 (by have := r.2.1.2; omega) r.2.2.1 r.2.2.2 q) hcF (t := t) (o := o) ⟨⟨by have := hc.2; omega, by rw [e]; exact (show m.1 2 i - 13 < m.1 46 (6 : Nat) by omega)⟩, ht, h0⟩
  rw [e] at s
  exact s.trans (sL_cg hcc h2 (rE_iR hb ho hO hW hx) ep _ _ _)
