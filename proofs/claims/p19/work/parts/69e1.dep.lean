/-! control, heap, halt, ends -/
def coU (f : Nat → Int → Int) (i a b : Int) : Prop := a = i ∧ ((f 6 i = -1 ∧ b = 224 + f 9 i * 7 + 0) ∨ (¬ f 6 i = -1 ∧ b = f 6 i))
def coA (f : Nat → Int → Int) (i a b : Int) : Prop := coU f i a b ∨ (cLl f i ∧ eX 1 7 (fun t => a = t * 32 + i ∧ b = i))
def coB (f : Nat → Int → Int) (i k c j : Int) : Prop := k = 0 ∧ c = i ∧ ¬ f 6 i = -1 ∧ j = f 6 i
theorem coA_n {f : Nat → Int → Int} {i a b : Int} (h : ¬ cLl f i) : coU f i a b ↔ coA f i a b := or_no (fun q => h q.1)
theorem coA_c {f : Nat → Int → Int} {i a b : Int} (h : cLl f i) : coU f i a b ∨ eX 1 7 (fun t => a = t * 32 + i ∧ b = i) ↔ coA f i a b := ⟨fun q => q.imp id (fun q => ⟨h, q⟩), fun q => q.imp id (fun q => q.2)⟩
/-- a procedure's CALLs with this one -/
def cAd (f : Nat → Int → Int) (i : Int) (g g' : Nat → Int → Int) : Prop := ∀ p c, 0 ≤ p → p ≤ 3 → 0 ≤ c → c ≤ 31 → (nC g' p c ↔ nC g p c ∨ (cLl f i ∧ p = f 2 i - 13 ∧ c = i))
theorem cAd_n {f : Nat → Int → Int} {i : Int} {g g' : Nat → Int → Int} (h : ¬ cLl f i) (e : g' 17 = g 17) : cAd f i g g' := by
  intro p c _ _ _ _
  unfold nC
  rw [e]
  exact or_no (fun q => h q.1)
theorem cAd_sm {f : Nat → Int → Int} {i : Int} {g g' g'' : Nat → Int → Int} (h : cAd f i g g') (e : g'' 17 = g' 17) : cAd f i g g'' := by
  unfold cAd nC at h ⊢
  rw [e]
  exact h
theorem cAd_put {f : Nat → Int → Int} {i v b z : Int} {g g' g0 : Nat → Int → Int} (hc : cLl f i) (i0 : 0 ≤ i) (i1 : i ≤ 31) (ev : v = f 2 i - 13) (eb : b = (Int32.ofInt 1 <<< (Int32.ofInt i &&& 31)).toInt) (ez : z = (Int32.ofInt (g 17 v) ||| Int32.ofInt b).toInt) (hg : ∀ q, g' 17 q = if q = v then z else g 17 q) (e : g 17 = g0 17) : cAd f i g0 g' := by
  intro p c p0 p1 c0 c1
  unfold nC
  rw [hg, ← e]
  by_cases q : p = v
  · rw [if_pos q, ez, bitI_or, q, Bool.or_eq_true, eb, bitI_shl i0 (by omega) c0 (by omega), decide_eq_true_eq]
    exact ⟨fun h => h.imp id (fun h => ⟨hc, ev, h⟩), fun h => h.imp id (fun h => h.2.2)⟩
  · rw [if_neg q]
    exact or_no (fun h => q (h.2.1.trans ev.symm))

set_option maxHeartbeats 8000000 in
set_option maxRecDepth 20000 in
theorem k46x {Z : sm_Z} (hZ : Z.2.2.2 = tb_N) (m : wk_M) (f : Nat → Int → Int) (l : Nat → Int → Int64) (hc : cE f l m) (i : Int) (i0 : 0 ≤ i) (i1 : i ≤ 31) (hi : i < f 1 (4 : Nat)) (h : dM m.1) : wC Z 3 46 [14, 15, 16, 17] [.inr (.inl 13), .inl i] m (fun r m' => r = none ∧ dM m'.1 ∧ dA (fun a b => coA f i a b) (fun k c j => coB f i k c j) m.1 m'.1 ∧ cAd f i m.1 m'.1) := by
  obtain ⟨J0, hJ0⟩ : ∃ J : Int →Int → wk_M → Prop, ∀ ia t m', J ia t m' ↔ (i = ia ∧ (1 ≤ t ∧ t ≤ 7) ∧ dM m'.1 ∧ cLl f i ∧ cAd f i m.1 m'.1 ∧ dA (fun a b => coU f i a b ∨ eX 1 t (fun t => a = t * 32 + i ∧ b = i)) (fun k c j => coB f i k c j ∨ eX 1 t (fun _ => n3 k c j)) m.1 m'.1) := ⟨_, fun _ _ _ => Iff.rfl⟩
  refine wC.gen fun Q hQ => wk_E hZ (by exact rfl) [(70, [(3, 13), (1, 0), (0, 0), (1, 0)], fun vs _ m' => (match vs with
    | [ia, t] => J0 ia t m'
    | _ => False), fun vs _ m' => (match vs with
    | [ia, t] => (7 - t : Int).toNat
    | _ => 0))] rfl (fun hr hs => ⟨?_, trivial⟩) (fun hr hs => ?_)
  · have e1 : ab_lo = -2147483648 := rfl
    have e2 : ab_hi = 2147483647 := rfl
    intro m2 hr2 hf2 ia ial iah t tl th hI
    have hI := (hJ0 _ _ _).mp hI
    obtain ⟨rfl, ⟨t0, t1⟩, hd, hcl, hC, hA0⟩ := hI
    repeat' first | (intro h; exact absurd h (by decide)) | (intro h; exact absurd rfl h) | refine And.intro ?_ ?_ | intro _ | refine Or.inl ⟨by omega, by omega, ?_⟩ | refine Or.inr ?_ | exact trivial | (refine wk_use (k50 hZ _ _ _ (by omega) (by omega) (by omega) (by omega)) rfl rfl ?_; rintro - _ _ - - - ⟨_, rfl, hm, rfl⟩; refine Or.inl ⟨[], hm, ?_⟩; clear hm) | (refine wk_use (k49x hZ _ _ _ (by omega) (by omega) (by omega) (by omega) hd) rfl rfl ?_; rintro - _ _ - hfr - ⟨rfl, hd2, hA⟩; have e17 := (hfr 17 (by decide)).1; refine Or.inr ?_)
    all_goals first
      | omega
      | (show (7 - (_ : Int) : Int).toNat < (7 - (_ : Int) : Int).toNat; omega)
      | exact hQ _ _ ⟨rfl, hd, dA_if (dA_e (A := fun t => fun a b => coU f i a b ∨ eX 1 t (fun t => a = t * 32 + i ∧ b = i)) (B := fun t => fun k c j => coB f i k c j ∨ eX 1 t (fun _ => n3 k c j)) hA0 (by omega : t = 7)) (fun a b _ _ _ _ => coA_c hcl) (fun k c j _ _ _ _ _ _ => (or_no (fun ⟨_, _, q⟩ => q)).symm), hC⟩
      | (show J0 _ _ _; refine (hJ0 _ _ _).mpr ⟨rfl, ⟨by omega, by omega⟩, hd2, hcl, cAd_sm hC e17, dA_nx hA0 hA t0⟩)
  · have e1 : ab_lo = -2147483648 := rfl
    have e2 : ab_hi = 2147483647 := rfl
    have e2 : m.1 2 i = f 2 i := congrFun (hc.1 2 (by decide)) i
    have e6 : m.1 6 i = f 6 i := congrFun (hc.1 6 (by decide)) i
    have e9 : m.1 9 i = f 9 i := congrFun (hc.1 9 (by decide)) i
    have ec : m.1 1 (4 : Nat) = f 1 (4 : Nat) := congrFun (hc.1 1 (by decide)) _
    repeat' first | (intro h; exact absurd h (by decide)) | (intro h; exact absurd rfl h) | refine And.intro ?_ ?_ | intro _ | refine Or.inl ⟨by omega, by omega, ?_⟩ | refine Or.inr ?_ | exact trivial | (refine wk_use (k47 hZ _ _ _ (by omega) (by omega) (by omega) (by omega)) rfl rfl ?_; rintro - _ _ - - - ⟨_, rfl, hm, rfl⟩; refine Or.inl ⟨[], hm, ?_⟩; clear hm) | (refine wk_use (k48x hZ _ _ _ _ (by omega) (by omega) (by omega) (by omega) (by omega) (by omega) h) rfl rfl ?_; rintro - _ _ - hfr - ⟨rfl, hd2, hA⟩; have hc3 := cE_fr hfr rfl hc; have e2' := congrFun (hc3.1 2 (by decide)) i; have ec' := congrFun (hc3.1 1 (by decide)) ((4 : Nat) : Int); have e17 := (hfr 17 (by decide)).1; refine Or.inr ?_) | (refine wk_use (k33 hZ _ _) rfl rfl ?_; rintro - _ _ - - - ⟨_, rfl, hm, ⟨rfl, _⟩ | ⟨rfl, _⟩⟩ <;> refine Or.inl ⟨[], hm, ?_⟩ <;> clear hm) | (refine wk_use (k34 hZ _ _ (by omega) (by omega)) rfl rfl ?_; rintro - _ _ - - - ⟨_, rfl, hm, hv⟩; refine Or.inl ⟨[], hm, ?_⟩; clear hm)
    all_goals first
      | omega
      | trivial
      | exact hQ _ _ ⟨rfl, hd2, dA_if hA (fun a b _ _ _ _ => (by unfold coU; omega : _ ↔ coU f i a b).trans (coA_n (by unfold cLl; omega))) (fun k c j _ _ _ _ _ _ => by unfold coB; omega), cAd_n (by unfold cLl; omega) e17⟩
      | (show J0 _ _ _; refine (hJ0 _ _ _).mpr ⟨rfl, ⟨by omega, by omega⟩, dM_fr (wk_fr_u (p := 17) (W := [17]) (by decide) (wk_fr_refl _ _)) (by decide) (by decide) hd2, by unfold cLl; omega, cAd_put (by unfold cLl; omega) i0 i1 (hv.trans (congrArg (fun x => x - 13) e2')) (by assumption) (by assumption) (fun i => by simp (decide := true) only [wk_u_at, wk_ul_1, and_self, and_true, true_and, and_false, false_and, if_true, if_false]) e17, dA_in _ _ (dA_sm (dA_if hA (fun a b _ _ _ _ => by unfold coU; omega) (fun k c j _ _ _ _ _ _ => by unfold coB; omega)) rfl rfl rfl) (by omega)⟩)

