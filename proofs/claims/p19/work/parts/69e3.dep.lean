/-! all dependences inside -/
def ndE (f : Nat → Int → Int) (i : Int) : Prop := ¬ f 2 i = 10 ∧ ¬ f 2 i = 12 ∧ ¬ f 2 i = 18
def inA (f : Nat → Int → Int) (l : Nat → Int → Int64) (i a b : Int) : Prop := ndE f i ∧ (((coA f i a b ∨ daA f l i a b) ∨ heA f l i a b) ∨ haA f l i a b)
def inB (f : Nat → Int → Int) (l : Nat → Int → Int64) (i k c j : Int) : Prop := ndE f i ∧ (((coB f i k c j ∨ daB f l i k c j) ∨ heB f l i k c j) ∨ haB f l i k c j)
def cC (f : Nat → Int → Int) (i : Int) (g : Nat → Int → Int) : Prop := ∀ p c, 0 ≤ p → p ≤ 3 → 0 ≤ c → c ≤ 31 → (nC g p c ↔ c < i ∧ cLl f c ∧ p = f 2 c - 13)
def z18 (g : Nat → Int → Int) : Prop := ∀ p, 0 ≤ p → p < ((4 : Nat) : Int) → g 18 p = 0
def wyS (f : Nat → Int → Int) (l : Nat → Int → Int64) : Prop := wO f l (f 1 (4 : Nat)) ∧ wR f l (f 1 (4 : Nat)) ∧ wB f l (f 1 (11 : Nat))
theorem pOK_of {f : Nat → Int → Int} (hL : cWL f) (c32 : f 1 (4 : Nat) ≤ 32) {p : Int} (p0 : 0 ≤ p) (p1 : p < f 1 (11 : Nat)) : pOK f p := by
  have a := hL.1
  have b := hL.2.1 p p0 p1
  exact ⟨⟨p0, by omega⟩, b.1, b.2.1, b.2.2, c32⟩
theorem cC_nx {f : Nat → Int → Int} {i : Int} {g g' : Nat → Int → Int} (h : cC f i g) (h' : cAd f i g g') : cC f (i + 1) g' := by
  intro p c p0 p1 c0 c1
  rw [h' p c p0 p1 c0 c1, h p c p0 p1 c0 c1]
  constructor
  · rintro (q | q)
    · exact ⟨by omega, q.2⟩
    · exact ⟨by omega, q.2.2 ▸ q.1, by rw [q.2.2]; exact q.2.1⟩
  · intro q
    by_cases e : c = i
    · exact Or.inr ⟨e ▸ q.2.1, e ▸ q.2.2, e⟩
    · exact Or.inl ⟨by omega, q.2⟩
theorem cC_sk {f : Nat → Int → Int} {i : Int} {g : Nat → Int → Int} (h : cC f i g) (n : ¬ cLl f i) : cC f (i + 1) g := cC_nx h (cAd_n n rfl)
theorem cC_sm {f : Nat → Int → Int} {i : Int} {g g' : Nat → Int → Int} (h : cC f i g) (e : g' 17 = g 17) : cC f i g' := by
  unfold cC nC at h ⊢
  rw [e]
  exact h
theorem bit_0 (k : Int) : bitI 0 k = false := bitI_eq0 (by decide) k
theorem cC_z {f : Nat → Int → Int} {g : Nat → Int → Int} (h : ∀ i : Int, 0 ≤ i → i < ((4 : Nat) : Int) → g 17 i = 0) : cC f 0 g := by
  intro p c p0 p1 c0 c1
  unfold nC
  rw [h p p0 (by omega), bit_0]
  exact ⟨fun z => (by cases z), fun z => by omega⟩
theorem dA_z {g : Nat → Int → Int} (h14 : ∀ i : Int, 0 ≤ i → i < ((2016 : Nat) : Int) → g 14 i = 0) (h15 : ∀ i : Int, 0 ≤ i → i < ((2016 : Nat) : Int) → g 15 i = 0) (h16 : ∀ i : Int, 0 ≤ i → i < ((128 : Nat) : Int) → g 16 i = 0) : dA n2 n3 lyZ.1 g := by
  have no : ∀ k, ¬ bitI 0 k = true := fun k z => by
    rw [bit_0] at z
    cases z
  refine ⟨fun a b a0 a1 b0 b1 => ⟨?_, ?_⟩, fun k n j k0 k1 n0 n1 j0 j1 => ?_⟩
  · unfold nE
    rw [h14 _ (by omega) (by omega)]
    exact or_no id
  · unfold nF
    rw [h15 _ (by omega) (by omega)]
    exact or_no id
  · unfold nK
    rw [h16 _ (by omega) (by omega)]
    exact or_no id
theorem k35_in {m m1 m2 m3 m4 m5 m6 : wk_M} (c0 : 0 ≤ m.1 1 (4 : Nat)) (hwO : wO m.1 m1.2 (m.1 1 (4 : Nat))) (hwR : wR m.1 m1.2 (m.1 1 (4 : Nat))) (hwB : wB m.1 m1.2 (m.1 1 (11 : Nat))) (f36 : wk_fr [20, 21, 22, 23, 24] m1 m) (f14 : wk_fr [14] m2 m1) (f15 : wk_fr [15] m3 m2) (f16 : wk_fr [16] m4 m3) (f17 : wk_fr [17] m5 m4) (f18 : wk_fr [18] m6 m5) (z14 : ∀ i : Int, 0 ≤ i → i < ((2016 : Nat) : Int) → m2.1 14 i = 0) (z15 : ∀ i : Int, 0 ≤ i → i < ((2016 : Nat) : Int) → m3.1 15 i = 0) (z16 : ∀ i : Int, 0 ≤ i → i < ((128 : Nat) : Int) → m4.1 16 i = 0) (z17 : ∀ i : Int, 0 ≤ i → i < ((4 : Nat) : Int) → m5.1 17 i = 0) (z18' : ∀ i : Int, 0 ≤ i → i < ((4 : Nat) : Int) → m6.1 18 i = 0) : ∃ l, wyS m.1 l ∧ cE m.1 l m6 ∧ ((0 : Int) ≤ 0 ∧ (0 : Int) ≤ m.1 1 (4 : Nat)) ∧ dM m6.1 ∧ dA (fun a b => n2 a b ∨ eX 0 0 (fun i => inA m.1 l i a b)) (fun k c j => n3 k c j ∨ eX 0 0 (fun i => inB m.1 l i k c j)) lyZ.1 m6.1 ∧ cC m.1 0 m6.1 ∧ z18 m6.1 := by
  have g : wk_fr [14, 15, 16, 17, 18, 20, 21, 22, 23, 24] m6 m := (((((f18.mono rfl).trans (f17.mono rfl)).trans (f16.mono rfl)).trans (f15.mono rfl)).trans (f14.mono rfl)).trans (f36.mono rfl)
  have g' : wk_fr [14, 15, 16, 17, 18] m6 m1 := ((((f18.mono rfl).trans (f17.mono rfl)).trans (f16.mono rfl)).trans (f15.mono rfl)).trans (f14.mono rfl)
  have e14 : m6.1 14 = m2.1 14 := (f18 14 (by decide)).1.trans ((f17 14 (by decide)).1.trans ((f16 14 (by decide)).1.trans (f15 14 (by decide)).1))
  have e15 : m6.1 15 = m3.1 15 := (f18 15 (by decide)).1.trans ((f17 15 (by decide)).1.trans (f16 15 (by decide)).1)
  have e16 : m6.1 16 = m4.1 16 := (f18 16 (by decide)).1.trans (f17 16 (by decide)).1
  have e17 : m6.1 17 = m5.1 17 := (f18 17 (by decide)).1
  refine ⟨m1.2, ⟨hwO, hwR, hwB⟩, ⟨fun p hp => wk_fr_lo g rfl hp, fun p p0 p1 => (g' p (fun z => ?_)).2⟩, ⟨Int.le_refl _, c0⟩, ⟨by rw [e14]; exact dR_zero z14, by rw [e15]; exact dR_zero z15⟩, dA_in _ _ (dA_z (by rw [e14]; exact z14) (by rw [e15]; exact z15) (by rw [e16]; exact z16)) (Int.le_refl _), cC_z (by rw [e17]; exact z17), z18'⟩
  have := List.all_eq_true.mp (show (([14, 15, 16, 17, 18] : List Nat).all fun p => Nat.ble p 19) = true from rfl) p z
  have := Nat.le_of_ble_eq_true this
  omega

set_option maxHeartbeats 8000000 in
set_option maxRecDepth 20000 in
theorem k35x {Z : sm_Z} (hZ : Z.2.2.2 = tb_N) (m : wk_M) (hO : cOps m.1) (hE : cEn m.1) (hL : cWL m.1) (hY : yWc m.1) : wC Z 5 35 [14, 15, 16, 17, 18, 20, 21, 22, 23, 24] [.inr (.inl 13)] m (fun r m' => r = none ∧ dM m'.1 ∧ ∃ l, wyS m.1 l ∧ dA (fun a b => (n2 a b ∨ eX 0 (m.1 1 (4 : Nat)) (fun i => inA m.1 l i a b)) ∨ eX 0 (m.1 1 (11 : Nat)) (fun p => enA m.1 l p a b)) (fun k c j => (n3 k c j ∨ eX 0 (m.1 1 (4 : Nat)) (fun i => inB m.1 l i k c j)) ∨ eX 0 (m.1 1 (11 : Nat)) (fun _ => n3 k c j)) lyZ.1 m'.1 ∧ cC m.1 (m.1 1 (4 : Nat)) m'.1 ∧ z18 m'.1) := by
  obtain ⟨J0, hJ0⟩ : ∃ J : Int → wk_M → Prop, ∀ i m', J i m' ↔ (∃ l, wyS m.1 l ∧ cE m.1 l m' ∧ (0 ≤ i ∧ i ≤ m.1 1 (4 : Nat)) ∧ dM m'.1 ∧ dA (fun a b => n2 a b ∨ eX 0 i (fun i => inA m.1 l i a b)) (fun k c j => n3 k c j ∨ eX 0 i (fun i => inB m.1 l i k c j)) lyZ.1 m'.1 ∧ cC m.1 i m'.1 ∧ z18 m'.1) := ⟨_, fun _ _ => Iff.rfl⟩
  obtain ⟨J1, hJ1⟩ : ∃ J : Int → wk_M → Prop, ∀ p m', J p m' ↔ (∃ l, wyS m.1 l ∧ cE m.1 l m' ∧ (0 ≤ p ∧ p ≤ m.1 1 (11 : Nat)) ∧ dM m'.1 ∧ dA (fun a b => (n2 a b ∨ eX 0 (m.1 1 (4 : Nat)) (fun i => inA m.1 l i a b)) ∨ eX 0 p (fun p => enA m.1 l p a b)) (fun k c j => (n3 k c j ∨ eX 0 (m.1 1 (4 : Nat)) (fun i => inB m.1 l i k c j)) ∨ eX 0 p (fun _ => n3 k c j)) lyZ.1 m'.1 ∧ cC m.1 (m.1 1 (4 : Nat)) m'.1 ∧ z18 m'.1) := ⟨_, fun _ _ => Iff.rfl⟩
  refine wC.gen fun Q hQ => wk_E hZ (by exact rfl) [(49, [(3, 13), (1, 0)], fun vs _ m' => (match vs with
    | [i] => J0 i m'
    | _ => False), fun vs _ m' => (match vs with
    | [i] => (1000 - i : Int).toNat
    | _ => 0)), (99, [(3, 13), (1, 0)], fun vs _ m' => (match vs with
    | [p] => J1 p m'
    | _ => False), fun vs _ m' => (match vs with
    | [p] => (900 - p : Int).toNat
    | _ => 0))] rfl (fun hr hs => ⟨?_, ⟨?_, trivial⟩⟩) (fun hr hs => ?_)
  · have e1 : ab_lo = -2147483648 := rfl
    have e2 : ab_hi = 2147483647 := rfl
    intro m2 hr2 hf2 i il ih hI
    have hI := (hJ0 _ _).mp hI
    obtain ⟨l, hW, hc2, ⟨i0, i1⟩, hd, hA0, hC, h18⟩ := hI
    have hc := cnt32 hr2
    have e2 : m2.1 2 i = m.1 2 i := congrFun (hc2.1 2 (by decide)) i
    have ec : m2.1 1 (4 : Nat) = m.1 1 (4 : Nat) := congrFun (hc2.1 1 (by decide)) _
    have c32 : m.1 1 (4 : Nat) ≤ 32 := by omega
    have hp : i < m.1 1 (4 : Nat) → ¬ m.1 2 i = 18 → pOK m.1 (m.1 9 i) := fun a b => pOK_of hL c32 (hY.1 i i0 a b).1.1 (hY.1 i i0 a b).1.2
    repeat' first | (intro h; exact absurd h (by decide)) | (intro h; exact absurd rfl h) | refine And.intro ?_ ?_ | intro _ | refine Or.inl ⟨by omega, by omega, ?_⟩ | refine Or.inr ?_ | exact trivial | (refine wk_use (k44 hZ _ _) rfl rfl ?_; rintro - _ _ - - - ⟨_, rfl, hm, ⟨rfl, hn⟩ | ⟨rfl, hn⟩⟩ <;> refine Or.inl ⟨[], hm, ?_⟩ <;> clear hm) | (refine wk_use (k46x hZ _ m.1 l hc2 _ (by omega) (by omega) (by omega) hd) rfl rfl ?_; rintro - _ _ - hfr - ⟨rfl, hd2, hco, hcA⟩; have hc3 := cE_fr hfr rfl hc2; have g18_3 := (hfr 18 (by decide)).1; refine Or.inr ?_) | (refine wk_use (k51x hZ _ m.1 l hc3 _ (by omega) (by omega) (by omega) hO (by omega) (hp (by omega) (by omega)) hd2) rfl rfl ?_; rintro - _ _ - hfr - ⟨rfl, hd3, hda⟩; have hc4 := cE_fr hfr rfl hc3; have g17_4 := (hfr 17 (by decide)).1; have g18_4 := (hfr 18 (by decide)).1; refine Or.inr ?_) | (refine wk_use (k55x hZ _ m.1 l hc4 _ (by omega) (by omega) (by omega) (hp (by omega) (by omega)) hd3) rfl rfl ?_; rintro - _ _ - hfr - ⟨rfl, hd4, hhe⟩; have hc5 := cE_fr hfr rfl hc4; have g17_5 := (hfr 17 (by decide)).1; have g18_5 := (hfr 18 (by decide)).1; refine Or.inr ?_) | (refine wk_use (k58x hZ _ m.1 l hc5 _ (by omega) (by omega) (by omega) (hp (by omega) (by omega)) hd4) rfl rfl ?_; rintro - _ _ - hfr - ⟨rfl, hd5, hha⟩; have hc6 := cE_fr hfr rfl hc5; have g17_6 := (hfr 17 (by decide)).1; have g18_6 := (hfr 18 (by decide)).1; refine Or.inr ?_)
    all_goals first
      | omega
      | (show (1000 - (_ : Int) : Int).toNat < (1000 - (_ : Int) : Int).toNat; omega)
      | (show J0 _ _; refine (hJ0 _ _).mpr ⟨l, hW, hc6, ⟨by omega, by omega⟩, hd5, dA_nx hA0 (dA_if (dA_tr (dA_tr (dA_tr hco hda) hhe) hha) (fun a b _ _ _ _ => ⟨fun q => ⟨by unfold ndE; omega, q⟩, fun q => q.2⟩) (fun k c j _ _ _ _ _ _ => ⟨fun q => ⟨by unfold ndE; omega, q⟩, fun q => q.2⟩)) i0, cC_sm (cC_nx hC hcA) (by rw [g17_6, g17_5, g17_4]), by unfold z18; rw [g18_6, g18_5, g18_4, g18_3]; exact h18⟩)
      | (show J0 _ _; refine (hJ0 _ _).mpr ⟨l, hW, hc2, ⟨by omega, by omega⟩, hd, dA_sk hA0 i0 (fun a b q => by have q := q.1; unfold ndE at q; omega) (fun k c j q => by have q := q.1; unfold ndE at q; omega), cC_sk hC (by unfold cLl; omega), h18⟩)
      | (show J1 _ _; refine (hJ1 _ _).mpr ⟨l, hW, hc2, ⟨by omega, by have := hL.1; omega⟩, hd, dA_in _ _ (dA_e (A := fun i => fun a b => n2 a b ∨ eX 0 i (fun i => inA m.1 l i a b)) (B := fun i => fun k c j => n3 k c j ∨ eX 0 i (fun i => inB m.1 l i k c j)) hA0 (by omega : i = m.1 1 (4 : Nat))) (by omega), (by have e : i = m.1 1 (4 : Nat) := (by omega); rw [← e]; exact hC), h18⟩)
      | (show (_ : Nat) < (_ : Nat); dsimp only; omega)
  · have e1 : ab_lo = -2147483648 := rfl
    have e2 : ab_hi = 2147483647 := rfl
    intro m2 hr2 hf2 p pl ph hI
    have hI := (hJ1 _ _).mp hI
    obtain ⟨l, hW, hc2, ⟨i0, i1⟩, hd, hA0, hC, h18⟩ := hI
    have hc := cnt32 hr2
    have ec : m2.1 1 (4 : Nat) = m.1 1 (4 : Nat) := congrFun (hc2.1 1 (by decide)) _
    have ep : m2.1 1 (11 : Nat) = m.1 1 (11 : Nat) := congrFun (hc2.1 1 (by decide)) _
    have c32 : m.1 1 (4 : Nat) ≤ 32 := by omega
    repeat' first | (intro h; exact absurd h (by decide)) | (intro h; exact absurd rfl h) | refine And.intro ?_ ?_ | intro _ | refine Or.inl ⟨by omega, by omega, ?_⟩ | refine Or.inr ?_ | exact trivial | (refine wk_use (k59x hZ _ m.1 l hc2 _ (pOK_of hL c32 i0 (by omega)) hd) rfl rfl ?_; rintro - _ _ - hfr - ⟨rfl, hd2, hA⟩; have hc3 := cE_fr hfr rfl hc2; have g17_3 := (hfr 17 (by decide)).1; have g18_3 := (hfr 18 (by decide)).1; refine Or.inr ?_)
    all_goals first
      | omega
      | (show (900 - (_ : Int) : Int).toNat < (900 - (_ : Int) : Int).toNat; omega)
      | exact hQ _ _ ⟨rfl, hd, l, hW, dA_e (A := fun p => fun a b => (n2 a b ∨ eX 0 (m.1 1 (4 : Nat)) (fun i => inA m.1 l i a b)) ∨ eX 0 p (fun p => enA m.1 l p a b)) (B := fun p => fun k c j => (n3 k c j ∨ eX 0 (m.1 1 (4 : Nat)) (fun i => inB m.1 l i k c j)) ∨ eX 0 p (fun _ => n3 k c j)) hA0 (by omega : p = m.1 1 (11 : Nat)), hC, h18⟩
      | (show J1 _ _; refine (hJ1 _ _).mpr ⟨l, hW, hc3, ⟨by omega, by omega⟩, hd2, dA_nx hA0 hA i0, cC_sm hC g17_3, by unfold z18; rw [g18_3]; exact h18⟩)
      | (show (_ : Nat) < (_ : Nat); dsimp only; omega)
  · have e1 : ab_lo = -2147483648 := rfl
    have e2 : ab_hi = 2147483647 := rfl
    have hc := cnt32 hr
    repeat' first | (intro h; exact absurd h (by decide)) | (intro h; exact absurd rfl h) | refine And.intro ?_ ?_ | intro _ | refine Or.inl ⟨by omega, by omega, ?_⟩ | refine Or.inr ?_ | exact trivial | (refine wk_use (k36x hZ _ hO hE hL hY) rfl rfl ?_; rintro - _ _ - hfr - ⟨rfl, hwO, hwR, hwB⟩; have f36 := hfr; refine Or.inr ?_) | (refine wk_use (wfI 14 2016 0 _ rfl rfl (by decide) (by decide)) rfl rfl ?_; rintro - _ _ - hfr - ⟨rfl, z14⟩; have f14 := hfr; refine Or.inr ?_) | (refine wk_use (wfI 15 2016 0 _ rfl rfl (by decide) (by decide)) rfl rfl ?_; rintro - _ _ - hfr - ⟨rfl, z15⟩; have f15 := hfr; refine Or.inr ?_) | (refine wk_use (wfI 16 128 0 _ rfl rfl (by decide) (by decide)) rfl rfl ?_; rintro - _ _ - hfr - ⟨rfl, z16⟩; have f16 := hfr; refine Or.inr ?_) | (refine wk_use (wfI 17 4 0 _ rfl rfl (by decide) (by decide)) rfl rfl ?_; rintro - _ _ - hfr - ⟨rfl, z17⟩; have f17 := hfr; refine Or.inr ?_) | (refine wk_use (wfI 18 4 0 _ rfl rfl (by decide) (by decide)) rfl rfl ?_; rintro - _ _ - hfr - ⟨rfl, z18'⟩; have f18 := hfr; refine Or.inr ?_)
    all_goals first
      | omega
      | trivial
      | (show J0 _ _; refine (hJ0 _ _).mpr (k35_in hc.1 hwO hwR hwB f36 f14 f15 f16 f17 f18 z14 z15 z16 z17 z18'))

