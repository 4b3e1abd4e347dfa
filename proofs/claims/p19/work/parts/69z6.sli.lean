/-! the same slices in both -/
/-- what a program built in both holds: l the ways of the class -/
def bX (m : wk_M) (l : Nat → Int → Int64) : Prop := bW m.1 ∧ opR m.1 ∧ cOps m.1 ∧ rEx m.1 m.2 ∧ cXl m.1 m.1 l ∧ rX m
theorem sB_sE {f g : Nat → Int → Int} {E : Int → Int → Prop} (hB : ∀ p t o, sB f g p t o ↔ sL f E p t o) (a b : Int) : sE f E (sB f g) a b ↔ sE f E (sL f E) a b := ⟨sE_mo (fun p t o => (hB p t o).mp), sE_mo (fun p t o => (hB p t o).mpr)⟩
/-- the class's edges inside are the reference's row 60 -/
theorem in_eq {m : wk_M} {l : Nat → Int → Int64} (h : bX m l) {a b : Int} (na : nR a) (nb' : nR b) : (nE m.1 a b ↔ rwB m.2 60 (psi a) (psi b)) ∧ (nF m.1 a b ↔ rwB m.2 60 (psi a) (psi b)) := by
  obtain ⟨hb, ho, hO, hx, ⟨hW, hI, hB, hC, hd⟩, hX⟩ := h
  have c32 := hb.2.2.2.1
  have key : sE m.1 (iRn m.1 l) (sB m.1 m.1) a b ↔ rwB m.2 60 (psi a) (psi b) := by
    rw [sB_sE hB]
    have j : rwB m.2 60 (psi a) (psi b) ↔ Jr m.2 a b := ⟨fun q => ⟨⟨na, nb'⟩, q⟩, fun q => q.2⟩
    rw [j]
    constructor
    · rintro (q | ⟨i, t, o, c, ht, h0, s, ea, eb⟩)
      · exact hX.1.2.1 a b ((rE_iR hb ho hO hW hx a b).mpr q)
      · subst ea eb
        exact (Jr_sE hb ho hO hW hx hX c ht h0 (hb.2.1.2.2.2 i c.1.1 c.1.2 c.2.1 c.2.2)).mpr s
    · intro q
      rcases hX.1.2.2 a b q with z | ⟨i, t, o, c, ht, h0, s, ea, eb⟩
      · exact Or.inl ((rE_iR hb ho hO hW hx a b).mp z)
      · have c' : cLl m.1 i := by
          obtain ⟨⟨ec, -⟩, e2, -⟩ := hb.1
          obtain ⟨⟨i0, i1⟩, c1⟩ := rvF_c.mp c
          have e := (e2 i i0 (by omega)).1.1
          exact ⟨⟨i0, by omega⟩, by omega, by omega⟩
        have p := hb.2.1.2.2.2 i c'.1.1 c'.1.2 c'.2.1 c'.2.2
        subst ea eb
        exact Or.inr ⟨i, t, o, c', ht, h0, (Jr_sE hb ho hO hW hx hX c' ht h0 p).mp q, rfl, rfl⟩
  obtain ⟨r1, r2⟩ := hI a b na.1 na.2 nb'.1 nb'.2
  exact ⟨r1.trans key, r2.trans key⟩
theorem cl_eq {m : wk_M} (h : bW m.1) {i : Int} : ((0 ≤ i ∧ i < m.1 46 (0 : Nat)) ∧ clR m.1 i) ↔ cLl m.1 i := by
  obtain ⟨⟨ec, -⟩, e2, -⟩ := h.1
  unfold clR cLl
  constructor
  · rintro ⟨⟨i0, i1⟩, c1⟩
    have e := (e2 i i0 (by omega)).1.1
    exact ⟨⟨i0, by omega⟩, by omega, by omega⟩
  · rintro ⟨⟨i0, i1⟩, c1⟩
    have e := (e2 i i0 (by omega)).1.1
    exact ⟨⟨i0, by omega⟩, by omega, by omega⟩
/-- up: a procedure's beginnings and the calls' -/
theorem up_eq {m : wk_M} {l : Nat → Int → Int64} (h : bX m l) {a b : Int} (na : nR a) (nb' : nR b) : (rwB m.2 61 (psi a) (psi b) ↔ nbO m.1 0 a b) ∧ (rwB m.2 61 (psi a) (psi b) ↔ nbD m.1 1 b a) := by
  have p1 := (psI_psi na.1 na.2).2
  have p2 := (psI_psi nb'.1 nb'.2).2
  have q := (h.2.2.2.2.2.2.1 _ _ p1.1 p1.2 p2.1 (by omega)).1
  have fa := psi_f a
  have fb := psi_f b
  have hb := h.1
  have c32 := hb.2.2.2.1
  have hC := h.2.2.2.2.1.2.2.2.1
  have key : uP m.1 (m.1 46 (0 : Nat)) (psi a) (psi b) ↔ ((224 ≤ a ∧ b < 224) ∧ (a - 224) % 7 < 4 ∧ b / 32 = (a - 224) % 7) ∧ cLl m.1 (b % 32) ∧ m.1 2 (b % 32) - 13 = (a - 224) / 7 := by
    constructor
    · rintro ⟨i, hi, hc, hj⟩
      have hc' := (cl_eq hb).mp ⟨hi, hc⟩
      have c1 := hc'.1
      have e2 := (hb.1.2.1 i c1.1 c1.2).1.1
      have c2 := hc'.2
      rcases hj with ⟨ea, eb⟩ | ⟨k, hk, ea, eb⟩
      · have e : b % 32 = i := by omega
        rw [e]
        exact ⟨⟨⟨by omega, by omega⟩, by omega, by omega⟩, hc', by omega⟩
      · have hk3 : k = 0 ∨ k = 1 ∨ k = 2 := by omega
        have e : b % 32 = i := by rcases hk3 with e' | e' | e' <;> omega
        rw [e]
        refine ⟨?_, hc', ?_⟩ <;> rcases hk3 with e' | e' | e' <;> omega
    · rintro ⟨⟨⟨h1, h2⟩, h3, h4⟩, hc, h5⟩
      obtain ⟨hi, hcr⟩ := (cl_eq hb).mpr hc
      have e2 := (hb.1.2.1 _ hc.1.1 hc.1.2).1.1
      refine ⟨b % 32, hi, hcr, ?_⟩
      by_cases z : b < 32
      · exact Or.inl ⟨by omega, by omega⟩
      · exact Or.inr ⟨b / 32 - 1, ⟨by omega, by omega⟩, by omega, by omega⟩
  have na2 := na.2
  have na1 := na.1
  have nb1 := nb'.1
  constructor
  · rw [q, key]
    unfold nbO
    constructor
    · rintro ⟨⟨⟨h1, h2⟩, h3, h4⟩, hc, h5⟩
      exact ⟨⟨⟨h1, na2⟩, nb1⟩, Or.inl ⟨rfl, h3⟩, h4, (hC _ _ (by omega) (by omega) (by omega) (by omega)).mpr ⟨hc.1.2, hc, h5.symm⟩⟩
    · rintro ⟨⟨⟨h1, -⟩, -⟩, h3, h4, h5⟩
      obtain ⟨-, hc, e⟩ := (hC _ _ (by omega) (by omega) (by omega) (by omega)).mp h5
      exact ⟨⟨⟨h1, by omega⟩, by omega, h4⟩, hc, e.symm⟩
  · rw [q, key]
    unfold nbD
    constructor
    · rintro ⟨⟨⟨h1, h2⟩, h3, h4⟩, hc, h5⟩
      exact ⟨⟨nb1, h2⟩, hc, Or.inr ⟨by decide, by omega⟩, by omega⟩
    · rintro ⟨⟨-, h2⟩, hc, h3, h4⟩
      have c2 := hc.2
      exact ⟨⟨⟨by omega, h2⟩, by omega, by omega⟩, hc, by omega⟩
/-- down: the calls' ends and a procedure's -/
theorem dn_eq {m : wk_M} {l : Nat → Int → Int64} (h : bX m l) {a b : Int} (na : nR a) (nb' : nR b) : (rwB m.2 62 (psi a) (psi b) ↔ nbD m.1 0 a b) ∧ (rwB m.2 62 (psi a) (psi b) ↔ nbO m.1 1 b a) := by
  have p1 := (psI_psi na.1 na.2).2
  have p2 := (psI_psi nb'.1 nb'.2).2
  have q := (h.2.2.2.2.2.2.1 _ _ p1.1 p1.2 p2.1 (by omega)).2
  have fa := psi_f a
  have fb := psi_f b
  have hb := h.1
  have c32 := hb.2.2.2.1
  have hC := h.2.2.2.2.1.2.2.2.1
  have key : dP m.1 (m.1 46 (0 : Nat)) (psi a) (psi b) ↔ ((224 ≤ b ∧ a < 224) ∧ 4 ≤ (b - 224) % 7 ∧ a / 32 = (b - 224) % 7) ∧ cLl m.1 (a % 32) ∧ m.1 2 (a % 32) - 13 = (b - 224) / 7 := by
    constructor
    · rintro ⟨i, hi, hc, k, hk, ea, eb⟩
      have hc' := (cl_eq hb).mp ⟨hi, hc⟩
      have c1 := hc'.1
      have e2 := (hb.1.2.1 i c1.1 c1.2).1.1
      have c2 := hc'.2
      have hk3 : k = 0 ∨ k = 1 ∨ k = 2 := by omega
      have e : a % 32 = i := by rcases hk3 with e' | e' | e' <;> omega
      rw [e]
      refine ⟨?_, hc', ?_⟩ <;> rcases hk3 with e' | e' | e' <;> omega
    · rintro ⟨⟨⟨h1, h2⟩, h3, h4⟩, hc, h5⟩
      obtain ⟨hi, hcr⟩ := (cl_eq hb).mpr hc
      have e2 := (hb.1.2.1 _ hc.1.1 hc.1.2).1.1
      exact ⟨a % 32, hi, hcr, a / 32 - 4, ⟨by omega, by omega⟩, by omega, by omega⟩
  have nb2 := nb'.2
  have nb1 := nb'.1
  have na1 := na.1
  constructor
  · rw [q, key]
    unfold nbD
    constructor
    · rintro ⟨⟨⟨h1, h2⟩, h3, h4⟩, hc, h5⟩
      exact ⟨⟨na1, h2⟩, hc, Or.inl ⟨rfl, by omega⟩, by omega⟩
    · rintro ⟨⟨-, h2⟩, hc, h3, h4⟩
      have c2 := hc.2
      exact ⟨⟨⟨by omega, h2⟩, by omega, by omega⟩, hc, by omega⟩
  · rw [q, key]
    unfold nbO
    constructor
    · rintro ⟨⟨⟨h1, h2⟩, h3, h4⟩, hc, h5⟩
      exact ⟨⟨⟨h1, nb2⟩, na1⟩, Or.inr ⟨by decide, h3⟩, h4, (hC _ _ (by omega) (by omega) (by omega) (by omega)).mpr ⟨hc.1.2, hc, h5.symm⟩⟩
    · rintro ⟨⟨⟨h1, -⟩, -⟩, h3, h4, h5⟩
      obtain ⟨-, hc, e⟩ := (hC _ _ (by omega) (by omega) (by omega) (by omega)).mp h5
      exact ⟨⟨⟨h1, by omega⟩, by omega, h4⟩, hc, e.symm⟩
theorem nb_na {f : Nat → Int → Int} {bt fw a b : Int} (h : nb f bt fw a b) : nR a ∧ nR b := by
  refine ⟨?_, nb_rg h⟩
  rcases h with h | ⟨-, h⟩ | ⟨-, h⟩
  · exact h.1
  · have := h.1.1
    exact ⟨by omega, by omega⟩
  · have := h.1
    exact ⟨by omega, by omega⟩
/-- one step of a walk, in both -/
theorem nb_eq {m : wk_M} {l : Nat → Int → Int64} (h : bX m l) {bt fw : Int} (hb : bt = 1 ∨ bt = 2) (hw : fw = 0 ∨ fw = 1) {Q : Nat} (hQ : (bt = 1 ∧ Q = rQ fw) ∨ (bt = 2 ∧ Q = rQ' fw)) (a b : Int) : nb m.1 bt fw a b ↔ nR a ∧ nR b ∧ flQ fw m.2 60 Q (psi a) (psi b) := by
  have go : nR a → nR b → (nb m.1 bt fw a b ↔ flQ fw m.2 60 Q (psi a) (psi b)) := by
    intro na nb'
    have p1 := (psI_psi na.1 na.2).2
    have p2 := (psI_psi nb'.1 nb'.2).2
    have i1 := (in_eq h na nb').1
    have i2 := (in_eq h nb' na).2
    have u1 := up_eq h na nb'
    have u2 := up_eq h nb' na
    have d1 := dn_eq h na nb'
    have d2 := dn_eq h nb' na
    unfold nb nbI flQ flR
    rcases hw with e | e
    · subst e
      rcases hQ with ⟨eb, eQ⟩ | ⟨eb, eQ⟩
      · have eQ : Q = 61 := eQ
        subst eb eQ
        rw [i1, u1.1]
        constructor
        · rintro (⟨-, -, ⟨-, z⟩ | ⟨z, -⟩⟩ | ⟨-, z⟩ | ⟨z, -⟩)
          · exact ⟨⟨p1, p2⟩, Or.inl ⟨rfl, Or.inl z⟩⟩
          · exact absurd rfl z
          · exact ⟨⟨p1, p2⟩, Or.inl ⟨rfl, Or.inr z⟩⟩
          · exact absurd z (by decide)
        · rintro ⟨-, ⟨-, z | z⟩ | ⟨z, -⟩⟩
          · exact Or.inl ⟨na, nb', Or.inl ⟨rfl, z⟩⟩
          · exact Or.inr (Or.inl ⟨rfl, z⟩)
          · exact absurd rfl z
      · have eQ : Q = 62 := eQ
        subst eb eQ
        rw [i1, d1.1]
        constructor
        · rintro (⟨-, -, ⟨-, z⟩ | ⟨z, -⟩⟩ | ⟨z, -⟩ | ⟨-, z⟩)
          · exact ⟨⟨p1, p2⟩, Or.inl ⟨rfl, Or.inl z⟩⟩
          · exact absurd rfl z
          · exact absurd z (by decide)
          · exact ⟨⟨p1, p2⟩, Or.inl ⟨rfl, Or.inr z⟩⟩
        · rintro ⟨-, ⟨-, z | z⟩ | ⟨z, -⟩⟩
          · exact Or.inl ⟨na, nb', Or.inl ⟨rfl, z⟩⟩
          · exact Or.inr (Or.inr ⟨rfl, z⟩)
          · exact absurd rfl z
    · subst e
      rcases hQ with ⟨eb, eQ⟩ | ⟨eb, eQ⟩
      · have eQ : Q = 62 := eQ
        subst eb eQ
        rw [i2, d2.2]
        constructor
        · rintro (⟨-, -, ⟨z, -⟩ | ⟨-, z⟩⟩ | ⟨-, z⟩ | ⟨z, -⟩)
          · exact absurd z (by decide)
          · exact ⟨⟨p1, p2⟩, Or.inr ⟨by decide, Or.inl z⟩⟩
          · exact ⟨⟨p1, p2⟩, Or.inr ⟨by decide, Or.inr z⟩⟩
          · exact absurd z (by decide)
        · rintro ⟨-, ⟨z, -⟩ | ⟨-, z | z⟩⟩
          · exact absurd z (by decide)
          · exact Or.inl ⟨na, nb', Or.inr ⟨by decide, z⟩⟩
          · exact Or.inr (Or.inl ⟨rfl, z⟩)
      · have eQ : Q = 61 := eQ
        subst eb eQ
        rw [i2, u2.2]
        constructor
        · rintro (⟨-, -, ⟨z, -⟩ | ⟨-, z⟩⟩ | ⟨z, -⟩ | ⟨-, z⟩)
          · exact absurd z (by decide)
          · exact ⟨⟨p1, p2⟩, Or.inr ⟨by decide, Or.inl z⟩⟩
          · exact absurd z (by decide)
          · exact ⟨⟨p1, p2⟩, Or.inr ⟨by decide, Or.inr z⟩⟩
        · rintro ⟨-, ⟨z, -⟩ | ⟨-, z | z⟩⟩
          · exact absurd z (by decide)
          · exact Or.inl ⟨na, nb', Or.inr ⟨by decide, z⟩⟩
          · exact Or.inr (Or.inr ⟨rfl, z⟩)
  constructor
  · intro q
    obtain ⟨na, nb'⟩ := nb_na q
    exact ⟨na, nb', (go na nb').mp q⟩
  · rintro ⟨na, nb', q⟩
    exact (go na nb').mpr q
theorem fl_nR {fw : Int} {l : Nat → Int → Int64} {P Q : Nat} {x y : Int} (h : flQ fw l P Q x y) : nR x ∧ nR y := ⟨h.1.1, h.1.2⟩
theorem psi_j {a n : Int} (na : nR a) (nn : nR n) : psi a = psi n ↔ a = n := ⟨fun e => by
  have h := congrArg psI e
  rw [(psI_psi na.1 na.2).1, (psI_psi nn.1 nn.2).1] at h
  exact h, fun e => by rw [e]⟩
/-- the same slices -/
theorem sl_eq {m : wk_M} {l : Nat → Int → Int64} (h : bX m l) {fw n a : Int} (hw : fw = 0 ∨ fw = 1) (nn : nR n) (na : nR a) : cS m.1 fw n a ↔ rSl m.2 fw (psi n) (psi a) := by
  have s1 : ∀ b, nR b → (cS1 m.1 fw n b ↔ rS1 m.2 fw (psi n) (psi b)) := by
    intro b nb'
    unfold cS1 rS1
    have r := rs_psi (S := flQ fw m.2 60 (rQ fw)) (X := fun x => nR x ∧ x = psi n) (fun x y z => fl_nR z) (fun x z => z.1) nb'
    rw [r]
    refine rs_iff (fun x y => nb_eq h (Or.inl rfl) hw (Or.inl ⟨rfl, rfl⟩) x y) (fun x => ?_) (fun _ => Iff.rfl) b
    constructor
    · rintro ⟨nx, e⟩
      exact ⟨nx, (psI_psi nx.1 nx.2).2, by rw [e]⟩
    · rintro ⟨nx, -, e⟩
      exact ⟨nx, (psi_j nx nn).mp e⟩
  unfold cS rSl
  have r := rs_psi (S := flQ fw m.2 60 (rQ' fw)) (X := fun x => nR x ∧ rS1 m.2 fw (psi n) x) (fun x y z => fl_nR z) (fun x z => z.1) na
  rw [r]
  refine rs_iff (fun x y => nb_eq h (Or.inr rfl) hw (Or.inr ⟨rfl, rfl⟩) x y) (fun x => ?_) (fun _ => Iff.rfl) a
  constructor
  · rintro ⟨nx, e⟩
    exact ⟨nx, (psI_psi nx.1 nx.2).2, (s1 x nx).mp e⟩
  · rintro ⟨nx, -, e⟩
    exact ⟨nx, (s1 x nx).mpr e⟩
