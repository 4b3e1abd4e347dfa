/-! depends, in both: one relation -/
def inP (f : Nat → Int → Int) (n j : Int) : Prop := f 10 (f 9 n) ≤ j ∧ j < f 11 (f 9 n)
def rdc (f : Nat → Int → Int) (n z : Int) : Prop := (cLl f n ∧ (f 4 n = z ∨ f 5 n = z)) ∨ (¬ cLl f n ∧ (((¬ f 2 n = 0 ∧ ¬ f 2 n = 6) ∧ f 4 n = z) ∨ (((1 ≤ f 2 n ∧ f 2 n ≤ 5) ∨ f 2 n = 8) ∧ f 5 n = z)))
def rcA (f : Nat → Int → Int) (j n : Int) : Prop := rs (Scc f) (Scc f j) nS n
def rcD (f : Nat → Int → Int) (j n : Int) : Prop := rs (Scc f) (Scc f j) (dfc f (f 3 j)) n
def DK (f : Nat → Int → Int) (k n j : Int) : Prop := ndT f n ∧ ((k = 0 ∧ ¬ f 6 n = -1 ∧ j = f 6 n) ∨ (inP f n j ∧ ((k = 1 ∧ rdc f n (f 3 j) ∧ dfc f (f 3 j) j ∧ rcD f j n) ∨ (k = 2 ∧ (f 2 n = 7 ∨ cLl f n) ∧ (f 2 j = 8 ∨ cLl f j) ∧ rcA f j n) ∨ (k = 3 ∧ (f 2 j = 5 ∨ cLl f j) ∧ rcA f j n))))
/-- the bits of byKind are DK -/
theorem inB_DK {f : Nat → Int → Int} {l : Nat → Int → Int64} (hW : wyS f l) (hL : cWL f) (hY : yWc f) (c32 : f 1 (4 : Nat) ≤ 32) {k n j : Int} (n0 : 0 ≤ n) (n1 : n ≤ 31) (j0 : 0 ≤ j) (j1 : j ≤ 31) : eX 0 (f 1 (4 : Nat)) (fun i => inB f l i k n j) ↔ DK f k n j := by
  have r22 : ∀ j n, 0 ≤ j → j < f 1 (4 : Nat) → (fX (l 22 j) n ↔ rcA f j n) := fun j n a b => (hW.2.1 j a b).1 n
  have r23 : ∀ j n, dfc f (f 3 j) j → (fX (l 23 j) n ↔ rcD f j n) := fun j n a => (hW.2.1 j a.1.1 a.1.2).2 a n
  have hpc : ∀ n, ndT f n → ∀ j, inP f n j → 0 ≤ j ∧ j < f 1 (4 : Nat) := by
    intro n hn j hj
    have a := hY.1 n hn.1.1 hn.1.2 hn.2.2.2
    have b := hL.2.1 (f 9 n) a.1.1 a.1.2
    exact ⟨Int.le_trans b.1 hj.1, Int.lt_of_lt_of_le hj.2 b.2.2⟩
  constructor
  · rintro ⟨i, ⟨i0, i1⟩, hnd, q⟩
    have hnT : ndT f i := ⟨⟨i0, i1⟩, hnd⟩
    rcases q with ((q | q) | q) | q
    · obtain ⟨q1, q2, q3, q4⟩ := q
      rw [q2]
      exact ⟨hnT, Or.inl ⟨q1, q3, q4⟩⟩
    · have dd : ∀ x z, x % 32 = i → rdc f i z → rdB f l x i z (f 9 i) k n j → DK f k n j := by
        intro x z hx hz hq
        rcases hq with hq | ⟨t, ⟨t0, t1⟩, ⟨-, hk, hn⟩, ⟨hd, hf⟩, ht⟩
        · exact hq.elim
        · have en : n = i := hn.trans hx
          have e3 : f 3 t = z := hd.2.2
          subst en ht
          rw [← e3] at hd hz
          exact ⟨hnT, Or.inr ⟨⟨t0, t1⟩, Or.inl ⟨hk, hz, hd, (r23 j n hd).mp hf⟩⟩⟩
      rcases q with ⟨hc, q | q⟩ | ⟨hc, ⟨ho, q⟩ | ⟨ho, q⟩⟩
      · exact dd _ _ (by omega) (Or.inl ⟨hc, Or.inl rfl⟩) q
      · exact dd _ _ (by omega) (Or.inl ⟨hc, Or.inr rfl⟩) q
      · exact dd _ _ (by omega) (Or.inr ⟨hc, Or.inl ⟨ho, rfl⟩⟩) q
      · exact dd _ _ (by omega) (Or.inr ⟨hc, Or.inr ⟨ho, rfl⟩⟩) q
    · obtain ⟨x, hx, q | ⟨t, ⟨t0, t1⟩, hf, ⟨-, hk, hn⟩, ht, ho⟩⟩ := q
      · exact q.elim
      · have en : n = i := by
          unfold hN at hx
          omega
        subst en ht
        have hp : inP f n j := ⟨t0, t1⟩
        have hj := hpc n hnT j hp
        exact ⟨hnT, Or.inr ⟨hp, Or.inr (Or.inl ⟨hk, hx.elim (fun z => Or.inr z.1) (fun z => Or.inl z.2.1), ho, (r22 j n hj.1 hj.2).mp hf⟩)⟩⟩
    · rcases q with q | ⟨t, ⟨t0, t1⟩, hf, ⟨-, hk, hn⟩, ht, ho⟩
      · exact q.elim
      · have en : n = i := by omega
        subst en ht
        have hp : inP f n j := ⟨t0, t1⟩
        have hj := hpc n hnT j hp
        exact ⟨hnT, Or.inr ⟨hp, Or.inr (Or.inr ⟨hk, ho, (r22 j n hj.1 hj.2).mp hf⟩)⟩⟩
  · rintro ⟨hnT, q⟩
    refine ⟨n, hnT.1, hnT.2, ?_⟩
    rcases q with ⟨q1, q2, q3⟩ | ⟨hp, ⟨hk, hz, hd, hr⟩ | ⟨hk, hn, ho, hr⟩ | ⟨hk, ho, hr⟩⟩
    · exact Or.inl (Or.inl (Or.inl ⟨q1, rfl, q2, q3⟩))
    · have hf := (r23 j n hd).mpr hr
      have mk : ∀ x, x < 224 → x % 32 = n → ∀ z, f 3 j = z → rdB f l x n z (f 9 n) k n j := fun x x1 x2 z e => Or.inr ⟨j, hp, ⟨x1, hk, x2.symm⟩, ⟨⟨hd.1, hd.2.1, e⟩, hf⟩, rfl⟩
      refine Or.inl (Or.inl (Or.inr ?_))
      rcases hz with ⟨hc, e | e⟩ | ⟨hc, ⟨o, e⟩ | ⟨o, e⟩⟩
      · exact Or.inl ⟨hc, Or.inl (mk _ (by omega) (by omega) _ e.symm)⟩
      · exact Or.inl ⟨hc, Or.inr (mk _ (by omega) (by omega) _ e.symm)⟩
      · exact Or.inr ⟨hc, Or.inl ⟨o, mk _ (by omega) (by omega) _ e.symm⟩⟩
      · exact Or.inr ⟨hc, Or.inr ⟨o, mk _ (by omega) (by omega) _ e.symm⟩⟩
    · have hj := hpc n hnT j hp
      have hf := (r22 j n hj.1 hj.2).mpr hr
      refine Or.inl (Or.inr ?_)
      by_cases hc : cLl f n
      · exact ⟨_, Or.inl ⟨hc, rfl⟩, Or.inr ⟨j, hp, hf, ⟨by omega, hk, by omega⟩, rfl, ho⟩⟩
      · exact ⟨_, Or.inr ⟨hc, hn.resolve_right hc, rfl⟩, Or.inr ⟨j, hp, hf, ⟨by omega, hk, by omega⟩, rfl, ho⟩⟩
    · have hj := hpc n hnT j hp
      have hf := (r22 j n hj.1 hj.2).mpr hr
      exact Or.inr (Or.inr ⟨j, hp, hf, ⟨by omega, hk, by omega⟩, rfl, ho⟩)
theorem nK_DK {f g : Nat → Int → Int} {l : Nat → Int → Int64} (hW : wyS f l) (hL : cWL f) (hY : yWc f) (c32 : f 1 (4 : Nat) ≤ 32) {A : Int → Int → Prop} {P : Int} (hA : dA A (fun k c j => (n3 k c j ∨ eX 0 (f 1 (4 : Nat)) (fun i => inB f l i k c j)) ∨ eX 0 P (fun _ => n3 k c j)) lyZ.1 g) : ∀ k n j, 0 ≤ k → k ≤ 3 → 0 ≤ n → n ≤ 31 → 0 ≤ j → j ≤ 31 → (nK g k n j ↔ DK f k n j) := by
  intro k n j k0 k1 n0 n1 j0 j1
  rw [← inB_DK hW hL hY c32 n0 n1 j0 j1]
  refine (hA.2 k n j k0 k1 n0 n1 j0 j1).trans ⟨?_, fun q => Or.inr (Or.inl (Or.inr q))⟩
  rintro (q | (q | q) | ⟨_, _, q⟩)
  · have : bitI 0 j = true := q
    rw [bit_0] at this
    cases this
  · exact q.elim
  · exact q
  · exact q.elim
theorem nod_a {n j : Int} (n0 : 0 ≤ n) (n1 : n ≤ 31) (j1 : j ≤ 5) : aT (nod n j) = n ∧ (nod n j < 224 ∧ 0 ≤ nod n j) ∧ rL (nod n j) = -1 ∧ ((j < 0 ∧ nod n j = n ∧ pT (nod n j) = -1) ∨ (0 ≤ j ∧ 32 ≤ nod n j ∧ pT (nod n j) = j)) := by
  have a := aT_r (nod n j)
  have b := pT_r (nod n j)
  have c := rL_r (nod n j)
  by_cases h : j < 0
  · rw [nod_n h] at *
    omega
  · rw [nod_p (by omega)] at *
    omega
/-- and so is what the reference answers -/
theorem dpS_DK {f : Nat → Int → Int} {l : Nat → Int → Int64} (h : bW f) (hr : rEx f l) {n x k : Int} (hn : ndT f n) (hx : ndT f x) (k0 : 0 ≤ k) (k1 : k ≤ 3) (r6 : f 6 n ≤ 31) (opr : 0 ≤ f 2 n ∧ f 2 n ≤ 18) : dpS f l n x 6 (-1) k ↔ DK f k n x := by
  obtain ⟨⟨n0, n1⟩, hn'⟩ := id hn
  obtain ⟨⟨x0, x1⟩, hx'⟩ := id hx
  have c32 := h.2.2.2.1
  obtain ⟨⟨e2n, e3n, e4n, e5n⟩, e6n, -, -, e9n⟩ := h.1.2.1 n n0 n1
  obtain ⟨⟨e2x, e3x, e4x, e5x⟩, e6x, -, -, e9x⟩ := h.1.2.1 x x0 x1
  have yn := h.2.2.1.1 n n0 n1 hn'.2.2
  have yx := h.2.2.1.1 x x0 x1 hx'.2.2
  have ec := h.1.1.1
  have cln : clR f n ↔ cLl f n := by unfold clR cLl; rw [e2n]; omega
  have clx : clR f x ↔ cLl f x := by unfold clR cLl; rw [e2x]; omega
  have rca : f 9 n = f 9 x → (fX (l 59 x) n ↔ rcA f x n) := by
    intro e
    rw [hr x x0 (by omega) n]
    exact (rch_eq h yx.1.1 yx.1.2 yx.2.1 yx.2.2 (by rw [← e]; exact yn.2.2)).symm
  have rcd : f 9 n = f 9 x → dfc f (f 3 x) x → (arv f (f 48 x) x n ↔ rcD f x n) := fun e hd => (arv_eq h yx.1.1 yx.1.2 yx.2.1 yx.2.2 (by rw [← e]; exact yn.2.2) hd).symm
  have inp : f 9 n = f 9 x → inP f n x := by
    intro e
    unfold inP
    rw [e]
    exact yx.2
  have inp' : inP f n x → f 9 n = f 9 x := fun q => (h.2.2.2.2 _ x yn.1.1 yn.1.2 q.1 q.2).symm
  constructor
  · rintro ⟨j', k', ⟨⟨a0, a1⟩, ⟨b0, b1⟩, -⟩, hj, ⟨hxn, hxx, hpr⟩, q⟩
    obtain ⟨an, ⟨bn, bn0⟩, cn, dn⟩ := nod_a n0 (by omega : n ≤ 31) a1
    obtain ⟨ax, ⟨bx, bx0⟩, cx, dx⟩ := nod_a x0 (by omega : x ≤ 31) b1
    have pn := prR_r f (nod n j')
    have px := prR_r f (nod x k')
    rw [an] at pn
    rw [ax] at px
    have e9 : f 9 n = f 9 x := by omega
    have hcn : 0 ≤ j' → cLl f n := by
      intro z
      apply cln.mp
      unfold xsR at hxn
      rw [an] at hxn
      rcases hxn with w | ⟨-, w | w⟩
      · omega
      · omega
      · exact w.2
    have hcx : 0 ≤ k' → cLl f x := by
      intro z
      apply clx.mp
      unfold xsR at hxx
      rw [ax] at hxx
      rcases hxx with w | ⟨-, w | w⟩
      · omega
      · omega
      · exact w.2
    refine ⟨hn, ?_⟩
    rcases q with ⟨q0, q⟩ | ⟨q0, q⟩ | ⟨q0, q⟩ | ⟨q0, q⟩
    · refine Or.inl ⟨q0, ?_⟩
      unfold ctl at q
      rw [an] at q
      omega
    · refine Or.inr ⟨inp e9, Or.inl ⟨q0, ?_⟩⟩
      rcases q with ⟨q, -⟩ | ⟨qv, qr, qa⟩
      · omega
      · rw [ax] at qr qa
        rw [an] at qa
        have hd : dfc f (f 3 x) x := by
          refine ⟨⟨x0, x1⟩, ?_, rfl⟩
          rcases qv with w | w
          · have := hcx (by omega)
            exact Or.inr this.2
          · rw [ax, e2x] at w
            exact Or.inl w.2
        refine ⟨?_, hd, (rcd e9 hd).mp qa⟩
        unfold rdr fs1 fs2 at qr
        rw [an, e2n, e4n, e5n, e3x] at qr
        rcases qr with w | ⟨-, w | w | ⟨w, w'⟩⟩
        · omega
        · exact Or.inl ⟨hcn (by omega), Or.inl w.2⟩
        · exact Or.inl ⟨hcn (by omega), Or.inr w.2⟩
        · rcases w' with w' | w'
          · exact Or.inr ⟨fun z => by have := z.2; omega, Or.inl ⟨by omega, w'.2⟩⟩
          · exact Or.inr ⟨fun z => by have := z.2; omega, Or.inr ⟨by omega, w'.2⟩⟩
    · refine Or.inr ⟨inp e9, Or.inr (Or.inl ⟨q0, ?_⟩)⟩
      rcases q with ⟨q, -⟩ | ⟨ql, q | ⟨qw, qf⟩⟩
      · omega
      · omega
      · rw [an, ax] at qf
        refine ⟨?_, ?_, (rca e9).mp qf⟩
        · rcases ql with w | w
          · rw [an, e2n] at w
            exact Or.inl w.2
          · exact Or.inr (hcn (by omega))
        · rcases qw with w | w
          · rw [ax, e2x] at w
            exact Or.inl w.2
          · exact Or.inr (hcx (by omega))
    · refine Or.inr ⟨inp e9, Or.inr (Or.inr ⟨q0, ?_⟩)⟩
      rcases q with ⟨qs, q | ⟨-, qf⟩⟩
      · omega
      · rw [an, ax] at qf
        refine ⟨?_, (rca e9).mp qf⟩
        rcases qs with w | w
        · rw [ax, e2x] at w
          exact Or.inl w.2
        · exact Or.inr (hcx (by omega))
  · rintro ⟨-, q⟩
    have mk : ∀ j' k', -1 ≤ j' → j' ≤ 5 → -1 ≤ k' → k' ≤ 5 → (0 ≤ j' → cLl f n) → (0 ≤ k' → cLl f x) → (j' < 0 ∨ ¬ k = 0) → f 9 n = f 9 x → ((k = 0 ∧ ctl f (nod n j') (nod x k')) ∨ (k = 1 ∧ dat f (nod n j') (nod x k')) ∨ (k = 2 ∧ hep f l (nod n j') (nod x k')) ∨ (k = 3 ∧ hal f l (nod n j') (nod x k'))) → dpS f l n x 6 (-1) k := by
      intro j' k' a0 a1 b0 b1 c1 c2 c3 e9 q
      obtain ⟨an, ⟨bn, bn0⟩, cn, dn⟩ := nod_a n0 (by omega : n ≤ 31) a1
      obtain ⟨ax, ⟨bx, bx0⟩, cx, dx⟩ := nod_a x0 (by omega : x ≤ 31) b1
      have pn := prR_r f (nod n j')
      have px := prR_r f (nod x k')
      rw [an] at pn
      rw [ax] at px
      refine ⟨j', k', ⟨⟨a0, a1⟩, ⟨b0, b1⟩, Or.inl (by omega)⟩, c3, ⟨?_, ?_, by omega⟩, q⟩
      · refine Or.inr ⟨⟨bn, by rw [an]; omega⟩, ?_⟩
        rw [an, e2n]
        rcases dn with w | w
        · exact Or.inl ⟨by omega, hn'⟩
        · exact Or.inr ⟨w.2.1, cln.mpr (c1 w.1)⟩
      · refine Or.inr ⟨⟨bx, by rw [ax]; omega⟩, ?_⟩
        rw [ax, e2x]
        rcases dx with w | w
        · exact Or.inl ⟨by omega, hx'⟩
        · exact Or.inr ⟨w.2.1, clx.mpr (c2 w.1)⟩
    have no : (0 : Int) ≤ -1 → False := by decide
    rcases q with ⟨q0, q1, q2⟩ | ⟨hp, q⟩
    · have e9 : f 9 n = f 9 x := by
        have := (h.2.2.1.2.1 n n0 n1).1
        rcases this with w | ⟨-, -, w⟩
        · exact absurd w q1
        · rw [q2]
          exact w.symm
      refine mk (-1) (-1) (by decide) (by decide) (by decide) (by decide) (fun z => (no z).elim) (fun z => (no z).elim) (Or.inl (by decide)) e9 (Or.inl ⟨q0, ?_⟩)
      obtain ⟨an, ⟨bn, bn0⟩, cn, dn⟩ := nod_a n0 (by omega : n ≤ 31) (by decide : (-1 : Int) ≤ 5)
      obtain ⟨ax, ⟨bx, bx0⟩, cx, dx⟩ := nod_a x0 (by omega : x ≤ 31) (by decide : (-1 : Int) ≤ 5)
      unfold ctl
      rw [an]
      omega
    · have e9 := inp' hp
      rcases q with ⟨q0, hz, hd, hr1⟩ | ⟨q0, hl, hw, hr1⟩ | ⟨q0, hs, hr1⟩
      · have qa := (rcd e9 hd).mpr hr1
        obtain ⟨k', b0, b1, c2, hv⟩ : ∃ k' : Int, -1 ≤ k' ∧ k' ≤ 5 ∧ (0 ≤ k' → cLl f x) ∧ vlu f (nod x k') := by
          by_cases hc : cLl f x
          · refine ⟨3, by decide, by decide, fun _ => hc, Or.inl ?_⟩
            have := (nod_a x0 (by omega : x ≤ 31) (by decide : (3 : Int) ≤ 5)).2.2.2
            omega
          · refine ⟨-1, by decide, by decide, fun z => (no z).elim, Or.inr ?_⟩
            obtain ⟨ax, -, -, dx⟩ := nod_a x0 (by omega : x ≤ 31) (by decide : (-1 : Int) ≤ 5)
            rw [ax, e2x]
            have := hd.2.1
            refine ⟨by omega, this.resolve_right (fun z => hc ⟨⟨x0, x1⟩, z⟩)⟩
        have ax := (nod_a x0 (by omega : x ≤ 31) b1).1
        have fin : ∀ j', -1 ≤ j' → j' ≤ 5 → (0 ≤ j' → cLl f n) → rdr f (nod n j') (f 3 x) → dpS f l n x 6 (-1) k := by
          intro j' a0 a1 c1 hrd
          refine mk j' k' a0 a1 b0 b1 c1 c2 (Or.inr (by omega)) e9 (Or.inr (Or.inl ⟨q0, Or.inr ⟨hv, ?_, ?_⟩⟩))
          · rw [ax, e3x]
            exact hrd
          · rw [ax, (nod_a n0 (by omega : n ≤ 31) a1).1]
            exact qa
        rcases hz with ⟨hc, e | e⟩ | ⟨hc, ⟨o, e⟩ | ⟨o, e⟩⟩
        · refine fin 0 (by decide) (by decide) (fun _ => hc) (Or.inr ?_)
          obtain ⟨an, ⟨bn, bn0⟩, cn, dn⟩ := nod_a n0 (by omega : n ≤ 31) (by decide : (0 : Int) ≤ 5)
          rw [an, e4n]
          exact ⟨bn, Or.inl ⟨by omega, e⟩⟩
        · refine fin 1 (by decide) (by decide) (fun _ => hc) (Or.inr ?_)
          obtain ⟨an, ⟨bn, bn0⟩, cn, dn⟩ := nod_a n0 (by omega : n ≤ 31) (by decide : (1 : Int) ≤ 5)
          rw [an, e5n]
          exact ⟨bn, Or.inr (Or.inl ⟨by omega, e⟩)⟩
        · refine fin (-1) (by decide) (by decide) (fun z => (no z).elim) (Or.inr ?_)
          obtain ⟨an, ⟨bn, bn0⟩, cn, dn⟩ := nod_a n0 (by omega : n ≤ 31) (by decide : (-1 : Int) ≤ 5)
          rw [an, e4n, e2n]
          refine ⟨bn, Or.inr (Or.inr ⟨by omega, Or.inl ⟨?_, e⟩⟩)⟩
          unfold fs1
          unfold ndE at hn'
          have hc' : ¬ (13 ≤ f 2 n ∧ f 2 n ≤ 16) := fun z => hc ⟨⟨n0, n1⟩, z⟩
          have := opr
          omega
        · refine fin (-1) (by decide) (by decide) (fun z => (no z).elim) (Or.inr ?_)
          obtain ⟨an, ⟨bn, bn0⟩, cn, dn⟩ := nod_a n0 (by omega : n ≤ 31) (by decide : (-1 : Int) ≤ 5)
          rw [an, e5n, e2n]
          exact ⟨bn, Or.inr (Or.inr ⟨by omega, Or.inr ⟨o, e⟩⟩)⟩
      · have qf := (rca e9).mpr hr1
        obtain ⟨k', b0, b1, c2, hv⟩ : ∃ k' : Int, -1 ≤ k' ∧ k' ≤ 5 ∧ (0 ≤ k' → cLl f x) ∧ wrt f (nod x k') := by
          by_cases hc : cLl f x
          · refine ⟨4, by decide, by decide, fun _ => hc, Or.inr ?_⟩
            have := (nod_a x0 (by omega : x ≤ 31) (by decide : (4 : Int) ≤ 5)).2.2.2
            omega
          · refine ⟨-1, by decide, by decide, fun z => (no z).elim, Or.inl ?_⟩
            obtain ⟨ax, -, -, dx⟩ := nod_a x0 (by omega : x ≤ 31) (by decide : (-1 : Int) ≤ 5)
            rw [ax, e2x]
            exact ⟨by omega, hw.resolve_right hc⟩
        obtain ⟨j', a0, a1, c1, hv'⟩ : ∃ j' : Int, -1 ≤ j' ∧ j' ≤ 5 ∧ (0 ≤ j' → cLl f n) ∧ lks f (nod n j') := by
          by_cases hc : cLl f n
          · refine ⟨2, by decide, by decide, fun _ => hc, Or.inr ?_⟩
            have := (nod_a n0 (by omega : n ≤ 31) (by decide : (2 : Int) ≤ 5)).2.2.2
            omega
          · refine ⟨-1, by decide, by decide, fun z => (no z).elim, Or.inl ?_⟩
            obtain ⟨ax, -, -, dx⟩ := nod_a n0 (by omega : n ≤ 31) (by decide : (-1 : Int) ≤ 5)
            rw [ax, e2n]
            exact ⟨by omega, hl.resolve_right hc⟩
        refine mk j' k' a0 a1 b0 b1 c1 c2 (Or.inr (by omega)) e9 (Or.inr (Or.inr (Or.inl ⟨q0, Or.inr ⟨hv', Or.inr ⟨hv, ?_⟩⟩⟩)))
        rw [(nod_a x0 (by omega : x ≤ 31) b1).1, (nod_a n0 (by omega : n ≤ 31) a1).1]
        exact qf
      · have qf := (rca e9).mpr hr1
        obtain ⟨k', b0, b1, c2, hv⟩ : ∃ k' : Int, -1 ≤ k' ∧ k' ≤ 5 ∧ (0 ≤ k' → cLl f x) ∧ stp f (nod x k') := by
          by_cases hc : cLl f x
          · refine ⟨5, by decide, by decide, fun _ => hc, Or.inr ?_⟩
            have := (nod_a x0 (by omega : x ≤ 31) (by decide : (5 : Int) ≤ 5)).2.2.2
            omega
          · refine ⟨-1, by decide, by decide, fun z => (no z).elim, Or.inl ?_⟩
            obtain ⟨ax, -, -, dx⟩ := nod_a x0 (by omega : x ≤ 31) (by decide : (-1 : Int) ≤ 5)
            rw [ax, e2x]
            exact ⟨by omega, hs.resolve_right hc⟩
        refine mk (-1) k' (by decide) (by decide) b0 b1 (fun z => (no z).elim) c2 (Or.inl (by decide)) e9 (Or.inr (Or.inr (Or.inr ⟨q0, hv, Or.inr ⟨?_, ?_⟩⟩)))
        · have := (nod_a n0 (by omega : n ≤ 31) (by decide : (-1 : Int) ≤ 5)).2.2.2
          omega
        · rw [(nod_a x0 (by omega : x ≤ 31) b1).1, (nod_a n0 (by omega : n ≤ 31) (by decide : (-1 : Int) ≤ 5)).1]
          exact qf
