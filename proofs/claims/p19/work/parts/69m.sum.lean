/-! summaries: the least ones -/
/-- the dependences inside with the summaries S -/
def sE (f : Nat → Int → Int) (E : Int → Int → Prop) (S : Int → Int → Int → Prop) (a b : Int) : Prop := E a b ∨ ∃ i t o, cLl f i ∧ (0 ≤ t ∧ t ≤ 2) ∧ (0 ≤ o ∧ o ≤ 2) ∧ S (f 2 i - 13) t o ∧ a = (4 + t) * 32 + i ∧ b = (1 + o) * 32 + i
/-- from an end of p to a beginning of it -/
def sLd (f : Nat → Int → Int) (E : Int → Int → Prop) (S : Int → Int → Int → Prop) (p t o : Int) : Prop := rs (sE f E S) (fun a => a = 224 + p * 7 + (4 + t)) nS (224 + p * 7 + (1 + o))
def sRg (f : Nat → Int → Int) (p t o : Int) : Prop := (0 ≤ p ∧ p < f 1 (11 : Nat)) ∧ (0 ≤ t ∧ t ≤ 2) ∧ (0 ≤ o ∧ o ≤ 2)
def sCl (f : Nat → Int → Int) (E : Int → Int → Prop) (S : Int → Int → Int → Prop) : Prop := ∀ p t o, sRg f p t o → sLd f E S p t o → S p t o
def sL (f : Nat → Int → Int) (E : Int → Int → Prop) (p t o : Int) : Prop := ∀ S : Int → Int → Int → Prop, sCl f E S → S p t o
theorem sE_mo {f : Nat → Int → Int} {E : Int → Int → Prop} {S S' : Int → Int → Int → Prop} (h : ∀ p t o, S p t o → S' p t o) {a b : Int} (q : sE f E S a b) : sE f E S' a b := q.imp id (fun ⟨i, t, o, c, ht, ho, s, e⟩ => ⟨i, t, o, c, ht, ho, h _ _ _ s, e⟩)
theorem rs_mo {S S' : Int → Int → Prop} {X X' : Int → Prop} {j : Int} (h : ∀ i k, S i k → S' i k) (hX : ∀ i, X i → X' i) (q : rs S X nS j) : rs S' X' nS j := fun C a b => q C (fun i hi => a i (hX i hi)) (fun i k hi hn hs => b i k hi hn (h i k hs))
theorem sLd_mo {f : Nat → Int → Int} {E : Int → Int → Prop} {S S' : Int → Int → Int → Prop} (h : ∀ p t o, S p t o → S' p t o) {p t o : Int} (q : sLd f E S p t o) : sLd f E S' p t o := rs_mo (fun _ _ => sE_mo h) (fun _ => id) q
theorem sL_cl {f : Nat → Int → Int} {E : Int → Int → Prop} : sCl f E (sL f E) := fun p t o hr q S hS => hS p t o hr (sLd_mo (fun _ _ _ z => z S hS) q)
theorem sL_so {f : Nat → Int → Int} {E : Int → Int → Prop} {S : Int → Int → Int → Prop} (h : ∀ p t o, S p t o → sL f E p t o) {p t o : Int} (hr : sRg f p t o) (q : sLd f E S p t o) : sL f E p t o := sL_cl p t o hr (sLd_mo h q)
theorem sL_eq {f : Nat → Int → Int} {E : Int → Int → Prop} {S : Int → Int → Int → Prop} (h : ∀ p t o, S p t o → sL f E p t o) (hc : sCl f E S) (p t o : Int) : S p t o ↔ sL f E p t o := ⟨h p t o, fun q => q S hc⟩
/-- the class's summaries -/
def sB (f : Nat → Int → Int) (g : Nat → Int → Int) (p t o : Int) : Prop := sRg f p t o ∧ bitI (g 18 p) (t * 3 + o) = true
/-- its edges are those inside with its summaries -/
def sI (f : Nat → Int → Int) (E : Int → Int → Prop) (g : Nat → Int → Int) : Prop := ∀ a b, 0 ≤ a → a ≤ 251 → 0 ≤ b → b ≤ 251 → (nE g a b ↔ sE f E (sB f g) a b) ∧ (nF g a b ↔ sE f E (sB f g) a b)
/-- edges lie between nodes -/
def eRg (E : Int → Int → Prop) : Prop := ∀ a b, E a b → (0 ≤ a ∧ a ≤ 251) ∧ 0 ≤ b ∧ b ≤ 251
theorem sE_rg {f : Nat → Int → Int} {E : Int → Int → Prop} {S : Int → Int → Int → Prop} (h : eRg E) (c32 : f 1 (4 : Nat) ≤ 32) : eRg (sE f E S) := by
  rintro a b (q | ⟨i, t, o, c, ht, ho, -, ea, eb⟩)
  · exact h a b q
  · have := c.1
    omega
/-- what inside leads to, by the bits -/
theorem nb_sE {f g : Nat → Int → Int} {E : Int → Int → Prop} (h : eRg E) (c32 : f 1 (4 : Nat) ≤ 32) (hI : sI f E g) (a b : Int) : nb g 0 0 a b ↔ sE f E (sB f g) a b := by
  constructor
  · rintro (⟨⟨a0, a1⟩, ⟨b0, b1⟩, ⟨-, q⟩ | ⟨z, -⟩⟩ | ⟨z, -⟩ | ⟨z, -⟩)
    · exact (hI a b a0 a1 b0 b1).1.mp q
    · exact absurd rfl z
    · exact absurd z (by decide)
    · exact absurd z (by decide)
  · intro q
    obtain ⟨⟨a0, a1⟩, b0, b1⟩ := sE_rg h c32 a b q
    exact Or.inl ⟨⟨a0, a1⟩, ⟨b0, b1⟩, Or.inl ⟨rfl, (hI a b a0 a1 b0 b1).1.mpr q⟩⟩

set_option maxHeartbeats 8000000 in
set_option maxRecDepth 20000 in
theorem k74x {Z : sm_Z} (hZ : Z.2.2.2 = tb_N) (m : wk_M) (t o : Int) (t0 : 4 ≤ t) (t1 : t ≤ 6) (o0 : 1 ≤ o) (o1 : o ≤ 3) : wC Z 1 74 [] [.inl t, .inl o] m (fun r m' => ∃ v : Int, r = some (.inl v) ∧ m' = m ∧ v = (t - 4) * 3 + (o - 1)) := by
  refine wC.gen fun Q hQ => wk_E hZ (by exact rfl) [] rfl (fun _ _ => trivial) fun hr hs => ?_
  have e1 : ab_lo = -2147483648 := rfl
  have e2 : ab_hi = 2147483647 := rfl
  repeat' first | refine And.intro ?_ ?_ | intro _ | refine Or.inl ⟨by omega, by omega, ?_⟩ | refine Or.inr ?_ | exact trivial
  all_goals first | omega | exact hQ _ _ ⟨_, rfl, rfl, by omega⟩

set_option maxHeartbeats 8000000 in
set_option maxRecDepth 20000 in
theorem k73x {Z : sm_Z} (hZ : Z.2.2.2 = tb_N) (m : wk_M) (p t o : Int) (p0 : 0 ≤ p) (p1 : p ≤ 3) (t0 : 4 ≤ t) (t1 : t ≤ 6) (o0 : 1 ≤ o) (o1 : o ≤ 3) : wC Z 2 73 [] [.inr (.inl 13), .inl p, .inl t, .inl o] m (fun r m' => ∃ v : Int, r = some (.inl v) ∧ m' = m ∧ ((v = 1 ∧ bitI (m.1 18 p) ((t - 4) * 3 + (o - 1)) = true) ∨ (v = 0 ∧ bitI (m.1 18 p) ((t - 4) * 3 + (o - 1)) = false))) := by
  refine wC.gen fun Q hQ => wk_E hZ (by exact rfl) [] rfl (fun _ _ => trivial) fun hr hs => ?_
  have e1 : ab_lo = -2147483648 := rfl
  have e2 : ab_hi = 2147483647 := rfl
  repeat' first | refine And.intro ?_ ?_ | intro _ | refine Or.inl ⟨by omega, by omega, ?_⟩ | refine Or.inr ?_ | exact trivial | (refine wk_use (k74x hZ _ _ _ (by omega) (by omega) (by omega) (by omega)) rfl rfl ?_; rintro - _ _ - - - ⟨_, rfl, hm, rfl⟩; refine Or.inl ⟨[], hm, ?_⟩; clear hm) | (refine wk_use (k67b hZ _ _ _ (by omega) (by omega)) rfl rfl ?_; rintro - _ _ - - - ⟨_, rfl, hm, ⟨rfl, hb⟩ | ⟨rfl, hb⟩⟩ <;> refine Or.inl ⟨[], hm, ?_⟩ <;> clear hm)
  all_goals first | omega | exact hQ _ _ ⟨_, rfl, rfl, Or.inl ⟨rfl, hb⟩⟩ | exact hQ _ _ ⟨_, rfl, rfl, Or.inr ⟨rfl, hb⟩⟩

/-- a bit of the summaries more -/
def s18 (p k : Int) (g h : Nat → Int → Int) : Prop := ∀ q j, 0 ≤ q → q ≤ 3 → 0 ≤ j → j ≤ 31 → (bitI (h 18 q) j = true ↔ bitI (g 18 q) j = true ∨ (q = p ∧ j = k))
theorem s18_put {p k b z : Int} {g h : Nat → Int → Int} (k0 : 0 ≤ k) (k1 : k ≤ 31) (eb : b = (Int32.ofInt 1 <<< (Int32.ofInt k &&& 31)).toInt) (ez : z = (Int32.ofInt (g 18 p) ||| Int32.ofInt b).toInt) (hg : ∀ i, h 18 i = if i = p then z else g 18 i) : s18 p k g h := by
  intro q j q0 q1 j0 j1
  rw [hg]
  by_cases e : q = p
  · rw [if_pos e, ez, bitI_or, e, Bool.or_eq_true, eb, bitI_shl k0 (by omega) j0 (by omega), decide_eq_true_eq]
    exact ⟨fun z => z.imp id (fun z => ⟨rfl, z⟩), fun z => z.imp id (fun z => z.2)⟩
  · rw [if_neg e]
    exact or_no (fun z => e z.1)
theorem s18_sm {p k : Int} {g h h' : Nat → Int → Int} (hs : s18 p k g h) (e : h' 18 = h 18) : s18 p k g h' := by
  unfold s18 at hs ⊢
  rw [e]
  exact hs

theorem n3_ex {k c j lo n : Int} : n3 k c j ∨ eX lo n (fun _ => n3 k c j) ↔ n3 k c j := ⟨fun q => q.elim id (fun ⟨_, _, q⟩ => q), Or.inl⟩

set_option maxHeartbeats 8000000 in
set_option maxRecDepth 20000 in
theorem k75x {Z : sm_Z} (hZ : Z.2.2.2 = tb_N) (m : wk_M) (p t o : Int) (p0 : 0 ≤ p) (p1 : p ≤ 3) (t0 : 4 ≤ t) (t1 : t ≤ 6) (o0 : 1 ≤ o) (o1 : o ≤ 3) (h : dM m.1) : wC Z 2 75 [14, 15, 18] [.inr (.inl 13), .inl p, .inl t, .inl o] m (fun r m' => r = none ∧ dM m'.1 ∧ s18 p ((t - 4) * 3 + (o - 1)) m.1 m'.1 ∧ dA (fun a b => eX 0 (m.1 1 (4 : Nat)) (fun i => nC m.1 p i ∧ a = t * 32 + i ∧ b = o * 32 + i)) n3 m.1 m'.1) := by
  obtain ⟨J0, hJ0⟩ : ∃ J : Int →Int →Int →Int → wk_M → Prop, ∀ pa ta oa i m', J pa ta oa i m' ↔ ((p = pa ∧ t = ta ∧ o = oa) ∧ (0 ≤ i ∧ i ≤ m.1 1 (4 : Nat)) ∧ dM m'.1 ∧ s18 p ((t - 4) * 3 + (o - 1)) m.1 m'.1 ∧ dA (fun a b => n2 a b ∨ eX 0 i (fun i => nC m.1 p i ∧ a = t * 32 + i ∧ b = o * 32 + i)) (fun k c j => n3 k c j ∨ eX 0 i (fun _ => n3 k c j)) m.1 m'.1) := ⟨_, fun _ _ _ _ _ => Iff.rfl⟩
  refine wC.gen fun Q hQ => wk_E hZ (by exact rfl) [(19, [(3, 13), (1, 0), (1, 0), (1, 0), (1, 0)], fun vs _ m' => (match vs with
    | [pa, ta, oa, i] => J0 pa ta oa i m'
    | _ => False), fun vs _ m' => (match vs with
    | [pa, ta, oa, i] => (32 - i : Int).toNat
    | _ => 0))] rfl (fun hr hs => ⟨?_, trivial⟩) (fun hr hs => ?_)
  · have e1 : ab_lo = -2147483648 := rfl
    have e2 : ab_hi = 2147483647 := rfl
    intro m2 hr2 hf2 pa pal pah ta tal tah oa oal oah i il ih hI
    have hI := (hJ0 _ _ _ _ _).mp hI
    obtain ⟨⟨rfl, rfl, rfl⟩, ⟨i0, i1⟩, hd, hs8, hA0⟩ := hI
    have hc := cnt32 hr2
    have e4 : m2.1 1 (4 : Nat) = m.1 1 (4 : Nat) := congrFun (hf2 1 (by decide)).1 _
    have e17 : m2.1 17 p = m.1 17 p := congrFun (hf2 17 (by decide)).1 _
    repeat' first | (intro h; exact absurd h (by decide)) | (intro h; exact absurd rfl h) | refine And.intro ?_ ?_ | intro _ | refine Or.inl ⟨by omega, by omega, ?_⟩ | refine Or.inr ?_ | exact trivial | (refine wk_use (k67b hZ _ _ _ (by omega) (by omega)) rfl rfl ?_; rintro - _ _ - - - ⟨_, rfl, hm, ⟨rfl, hb⟩ | ⟨rfl, hb⟩⟩ <;> refine Or.inl ⟨[], hm, ?_⟩ <;> clear hm) | (refine wk_use (k50 hZ _ _ _ (by omega) (by omega) (by omega) (by omega)) rfl rfl ?_; rintro - _ _ - - - ⟨_, rfl, hm, rfl⟩; refine Or.inl ⟨[], hm, ?_⟩; clear hm) | (refine wk_use (k49x hZ _ _ _ (by omega) (by omega) (by omega) (by omega) hd) rfl rfl ?_; rintro - _ _ - hfr - ⟨rfl, hd2, hA⟩; have e18 := (hfr 18 (by decide)).1; refine Or.inr ?_)
    all_goals first
      | omega
      | (show (32 - (_ : Int) : Int).toNat < (32 - (_ : Int) : Int).toNat; omega)
      | exact hQ _ _ ⟨rfl, hd, hs8, dA_if (dA_e (A := fun i => fun a b => n2 a b ∨ eX 0 i (fun i => nC m.1 p i ∧ a = t * 32 + i ∧ b = o * 32 + i)) (B := fun i => fun k c j => n3 k c j ∨ eX 0 i (fun _ => n3 k c j)) hA0 (by omega : i = m.1 1 (4 : Nat))) (fun a b _ _ _ _ => ⟨fun q => q.elim (fun q => q.elim) id, Or.inr⟩) (fun k c j _ _ _ _ _ _ => n3_ex)⟩
      | (show J0 _ _ _ _ _; refine (hJ0 _ _ _ _ _).mpr ⟨⟨rfl, rfl, rfl⟩, ⟨by omega, by omega⟩, hd2, s18_sm hs8 e18, dA_nx hA0 (dA_if hA (fun a b _ _ _ _ => ⟨fun q => ⟨by unfold nC; rw [← e17]; exact hb, q⟩, fun q => q.2⟩) (fun k c j _ _ _ _ _ _ => Iff.rfl)) i0⟩)
      | (show J0 _ _ _ _ _; refine (hJ0 _ _ _ _ _).mpr ⟨⟨rfl, rfl, rfl⟩, ⟨by omega, by omega⟩, hd, hs8, dA_sk hA0 i0 (fun a b q => by have q := q.1; unfold nC at q; rw [← e17, hb] at q; cases q) (fun k c j q => q)⟩)
  · have e1 : ab_lo = -2147483648 := rfl
    have e2 : ab_hi = 2147483647 := rfl
    have hc := cnt32 hr
    repeat' first | (intro h; exact absurd h (by decide)) | (intro h; exact absurd rfl h) | refine And.intro ?_ ?_ | intro _ | refine Or.inl ⟨by omega, by omega, ?_⟩ | refine Or.inr ?_ | exact trivial | (refine wk_use (k74x hZ _ _ _ (by omega) (by omega) (by omega) (by omega)) rfl rfl ?_; rintro - _ _ - - - ⟨_, rfl, hm, rfl⟩; refine Or.inl ⟨[], hm, ?_⟩; clear hm)
    all_goals first
      | omega
      | trivial
      | (show J0 _ _ _ _ _; refine (hJ0 _ _ _ _ _).mpr ⟨⟨rfl, rfl, rfl⟩, ⟨by omega, by omega⟩, dM_fr (wk_fr_u (p := 18) (W := [18]) (by decide) (wk_fr_refl _ _)) (by decide) (by decide) h, s18_put (by omega) (by omega) (by assumption) (by assumption) (fun i => by simp (decide := true) only [wk_u_at, wk_ul_1, and_self, and_true, true_and, and_false, false_and, if_true, if_false]), dA_in _ _ (dA_sm dA_re rfl rfl rfl) (by omega)⟩)

/-- a summary more, and the edges that it gives -/
theorem sI_put {f g h : Nat → Int → Int} {E : Int → Int → Prop} {p t o : Int} (c32 : f 1 (4 : Nat) ≤ 32) (p1 : f 1 (11 : Nat) ≤ 4) {T O : Int} (eT : t = T - 4) (eO : o = O - 1) (hr : sRg f p t o) (hI : sI f E g) (hC : cC f (f 1 (4 : Nat)) g) (hs : s18 p ((T - 4) * 3 + (O - 1)) g h) (hA : dA (fun a b => eX 0 (f 1 (4 : Nat)) (fun i => nC g p i ∧ a = T * 32 + i ∧ b = O * 32 + i)) n3 g h) : sI f E h ∧ ∀ p' t' o', sB f h p' t' o' ↔ sB f g p' t' o' ∨ (p' = p ∧ t' = t ∧ o' = o) := by
  rw [← eT, ← eO] at hs
  have hB : ∀ p' t' o', sB f h p' t' o' ↔ sB f g p' t' o' ∨ (p' = p ∧ t' = t ∧ o' = o) := by
    intro p' t' o'
    unfold sB
    constructor
    · rintro ⟨r', q⟩
      have r2 := r'
      unfold sRg at r' hr
      rcases (hs p' (t' * 3 + o') (by omega) (by omega) (by omega) (by omega)).mp q with z | ⟨z1, z2⟩
      · exact Or.inl ⟨r2, z⟩
      · exact Or.inr ⟨z1, by omega, by omega⟩
    · rintro (⟨r', q⟩ | ⟨e1, e2, e3⟩)
      · have r2 := r'
        unfold sRg at r'
        exact ⟨r2, (hs p' (t' * 3 + o') (by omega) (by omega) (by omega) (by omega)).mpr (Or.inl q)⟩
      · subst e1 e2 e3
        have r2 := hr
        unfold sRg at hr
        exact ⟨r2, (hs p' (t' * 3 + o') (by omega) (by omega) (by omega) (by omega)).mpr (Or.inr ⟨rfl, rfl⟩)⟩
  refine ⟨?_, hB⟩
  have key : ∀ a b, (sE f E (sB f g) a b ∨ eX 0 (f 1 (4 : Nat)) (fun i => nC g p i ∧ a = T * 32 + i ∧ b = O * 32 + i)) ↔ sE f E (sB f h) a b := by
    intro a b
    unfold sRg at hr
    constructor
    · rintro (q | ⟨i, ⟨i0, i1⟩, q, ea, eb⟩)
      · exact sE_mo (fun p' t' o' z => (hB p' t' o').mpr (Or.inl z)) q
      · obtain ⟨-, c, e⟩ := (hC p i (by omega) (by omega) i0 (by omega)).mp q
        exact Or.inr ⟨i, t, o, c, hr.2.1, hr.2.2, (hB _ _ _).mpr (Or.inr ⟨e.symm, rfl, rfl⟩), by omega, by omega⟩
    · rintro (q | ⟨i, t', o', c, ht, ho, s, ea, eb⟩)
      · exact Or.inl (Or.inl q)
      · rcases (hB _ _ _).mp s with z | ⟨z1, z2, z3⟩
        · exact Or.inl (Or.inr ⟨i, t', o', c, ht, ho, z, ea, eb⟩)
        · subst z2 z3
          have c1 := c.1
          exact Or.inr ⟨i, c1, (hC p i (by omega) (by omega) c1.1 (by omega)).mpr ⟨c1.2, c, z1.symm⟩, by omega, by omega⟩
  intro a b a0 a1 b0 b1
  obtain ⟨q1, q2⟩ := hA.1 a b a0 a1 b0 b1
  obtain ⟨r1, r2⟩ := hI a b a0 a1 b0 b1
  rw [q1, q2, r1, r2]
  exact ⟨key a b, key a b⟩
