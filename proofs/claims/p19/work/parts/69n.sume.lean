/-! counting -/
noncomputable def cnP (P : Nat → Prop) : Nat → Nat
  | 0 => 0
  | n + 1 => cnP P n + @ite Nat (P n) (Classical.propDecidable _) 1 0
theorem cnP_s {P : Nat → Prop} (n : Nat) : (P n ∧ cnP P (n + 1) = cnP P n + 1) ∨ (¬ P n ∧ cnP P (n + 1) = cnP P n) := by
  by_cases h : P n
  · refine Or.inl ⟨h, ?_⟩
    show cnP P n + @ite Nat (P n) (Classical.propDecidable _) 1 0 = _
    rw [if_pos h]
  · refine Or.inr ⟨h, ?_⟩
    show cnP P n + @ite Nat (P n) (Classical.propDecidable _) 1 0 = _
    rw [if_neg h]
    rfl
theorem cnP_le {P : Nat → Prop} : ∀ n, cnP P n ≤ n
  | 0 => Nat.le_refl _
  | n + 1 => by
    have := cnP_le (P := P) n
    rcases cnP_s (P := P) n with ⟨_, e⟩ | ⟨_, e⟩ <;> omega
theorem cnP_mo {P Q : Nat → Prop} : ∀ n, (∀ k, k < n → P k → Q k) → cnP P n ≤ cnP Q n
  | 0, _ => Nat.le_refl _
  | n + 1, h => by
    have a := cnP_mo n (fun k hk => h k (by omega))
    have b := h n (by omega)
    rcases cnP_s (P := P) n with ⟨x, e⟩ | ⟨x, e⟩ <;> rcases cnP_s (P := Q) n with ⟨y, e'⟩ | ⟨y, e'⟩
    · omega
    · exact absurd (b x) y
    · omega
    · omega
theorem cnP_lt {P Q : Nat → Prop} {j : Nat} (hp : ¬ P j) (hq : Q j) : ∀ n, j < n → (∀ k, k < n → P k → Q k) → cnP P n < cnP Q n
  | 0, hj, _ => absurd hj (Nat.not_lt_zero _)
  | n + 1, hj, h => by
    have b := h n (by omega)
    by_cases e : j = n
    · subst e
      have a := cnP_mo j (fun k hk => h k (by omega))
      rcases cnP_s (P := P) j with ⟨x, e⟩ | ⟨x, e⟩ <;> rcases cnP_s (P := Q) j with ⟨y, e'⟩ | ⟨y, e'⟩
      · exact absurd x hp
      · exact absurd x hp
      · omega
      · exact absurd hq y
    · have a := cnP_lt hp hq n (by omega) (fun k hk => h k (by omega))
      rcases cnP_s (P := P) n with ⟨x, e⟩ | ⟨x, e⟩ <;> rcases cnP_s (P := Q) n with ⟨y, e'⟩ | ⟨y, e'⟩
      · omega
      · exact absurd (b x) y
      · omega
      · omega
/-- how many summaries there are -/
noncomputable def cnS (f g : Nat → Int → Int) : Nat := cnP (fun n => sB f g ((n / 9 : Nat) : Int) ((n % 9 / 3 : Nat) : Int) ((n % 3 : Nat) : Int)) 36
theorem cnS_le {f g : Nat → Int → Int} : cnS f g ≤ 36 := cnP_le _
theorem cnS_mo {f g h : Nat → Int → Int} (q : ∀ p t o, sB f g p t o → sB f h p t o) : cnS f g ≤ cnS f h := cnP_mo _ (fun _ _ => q _ _ _)
theorem cnS_lt {f g h : Nat → Int → Int} (p4 : f 1 (11 : Nat) ≤ 4) (q : ∀ p t o, sB f g p t o → sB f h p t o) {p t o : Int} (n : ¬ sB f g p t o) (y : sB f h p t o) : cnS f g < cnS f h := by
  have r := y.1
  unfold sRg at r
  obtain ⟨a, rfl⟩ := Int.eq_ofNat_of_zero_le r.1.1
  obtain ⟨b, rfl⟩ := Int.eq_ofNat_of_zero_le r.2.1.1
  obtain ⟨c, rfl⟩ := Int.eq_ofNat_of_zero_le r.2.2.1
  have e1 : (a * 9 + b * 3 + c) / 9 = a := by omega
  have e2 : (a * 9 + b * 3 + c) % 9 / 3 = b := by omega
  have e3 : (a * 9 + b * 3 + c) % 3 = c := by omega
  refine cnP_lt (j := a * 9 + b * 3 + c) ?_ ?_ 36 (by omega) (fun _ _ => q _ _ _)
  · rw [e1, e2, e3]
    exact n
  · rw [e1, e2, e3]
    exact y
/-! summariseEnd, summarise -/
def cF (f : Nat → Int → Int) (m : wk_M) : Prop := ∀ p, p ≤ 12 → m.1 p = f p
theorem cF_fr {W : List Nat} {m' m : wk_M} {f : Nat → Int → Int} (h : wk_fr W m' m) (hw : (W.all fun p => Nat.ble 13 p) = true) (hc : cF f m) : cF f m' := fun p hp => (wk_fr_lo h hw hp).trans (hc p hp)
theorem qF_7 {f : Nat → Int → Int} {x : Int} (x0 : 0 ≤ x) (x1 : x < 32) : qF f (224 + x) ↔ bitI (f 26 7) x = true := by
  unfold qF
  have e1 : (224 + x) / 32 = 7 := by omega
  have e2 : (224 + x) % 32 = x := by omega
  rw [e1, e2]
def seK (f : Nat → Int → Int) (E : Int → Int → Prop) (p t : Int) (g h : Nat → Int → Int) (v o : Int) : Prop := (∀ p' t' o', sB f h p' t' o' ↔ sB f g p' t' o' ∨ (p' = p ∧ t' = t ∧ (0 ≤ o' ∧ o' ≤ 2 ∧ o' + 1 < o) ∧ sLd f E (sB f g) p t o')) ∧ (v = 0 → ∀ o', 0 ≤ o' → o' ≤ 2 → o' + 1 < o → sLd f E (sB f g) p t o' → sB f g p t o') ∧ (v = 1 → ∃ o', (0 ≤ o' ∧ o' ≤ 2 ∧ o' + 1 < o) ∧ ¬ sB f g p t o' ∧ sLd f E (sB f g) p t o')
theorem seK_0 {f : Nat → Int → Int} {E : Int → Int → Prop} {p t o : Int} {g h : Nat → Int → Int} (ho : o ≤ 1) (e : h 18 = g 18) : seK f E p t g h 0 o := by
  refine ⟨fun p' t' o' => ?_, fun _ o' a b c => by omega, fun z => absurd z (by decide)⟩
  unfold sB
  rw [e]
  exact or_no (fun q => by have := q.2.2.1; omega)
theorem seK_no {f : Nat → Int → Int} {E : Int → Int → Prop} {p t o v : Int} {g h : Nat → Int → Int} (hK : seK f E p t g h v o) (hn : ¬ sLd f E (sB f g) p t (o - 1) ∨ sB f h p t (o - 1)) : seK f E p t g h v (o + 1) := by
  obtain ⟨k1, k2, k3⟩ := hK
  have hh : sLd f E (sB f g) p t (o - 1) → sB f g p t (o - 1) := by
    intro q
    rcases hn with hn | hn
    · exact absurd q hn
    · rcases (k1 _ _ _).mp hn with z | z
      · exact z
      · have := z.2.2.1.2.2
        omega
  refine ⟨fun p' t' o' => ?_, fun z o' a b c q => ?_, fun z => ?_⟩
  · rw [k1]
    constructor
    · rintro (q | ⟨e1, e2, ⟨a, b, c⟩, q⟩)
      · exact Or.inl q
      · exact Or.inr ⟨e1, e2, ⟨a, b, by omega⟩, q⟩
    · rintro (q | ⟨e1, e2, ⟨a, b, c⟩, q⟩)
      · exact Or.inl q
      · by_cases e : o' = o - 1
        · subst e1 e2 e
          exact Or.inl (hh q)
        · exact Or.inr ⟨e1, e2, ⟨a, b, by omega⟩, q⟩
  · by_cases e : o' = o - 1
    · subst e
      exact hh q
    · exact k2 z o' a b (by omega) q
  · obtain ⟨o', ⟨a, b, c⟩, q⟩ := k3 z
    exact ⟨o', ⟨a, b, by omega⟩, q⟩
theorem seK_yes {f : Nat → Int → Int} {E : Int → Int → Prop} {p t o v : Int} {g h h' : Nat → Int → Int} (o0 : 1 ≤ o) (o1 : o ≤ 3) (hK : seK f E p t g h v o) (hl : sLd f E (sB f g) p t (o - 1)) (hn : ¬ sB f h p t (o - 1)) (hB : ∀ p' t' o', sB f h' p' t' o' ↔ sB f h p' t' o' ∨ (p' = p ∧ t' = t ∧ o' = o - 1)) : seK f E p t g h' 1 (o + 1) := by
  obtain ⟨k1, k2, k3⟩ := hK
  refine ⟨fun p' t' o' => ?_, fun z => absurd z (by decide), fun _ => ⟨o - 1, ⟨by omega, by omega, by omega⟩, fun z => hn ((k1 _ _ _).mpr (Or.inl z)), hl⟩⟩
  rw [hB, k1]
  constructor
  · rintro ((q | ⟨e1, e2, ⟨a, b, c⟩, q⟩) | ⟨e1, e2, e3⟩)
    · exact Or.inl q
    · exact Or.inr ⟨e1, e2, ⟨a, b, by omega⟩, q⟩
    · subst e3
      exact Or.inr ⟨e1, e2, ⟨by omega, by omega, by omega⟩, hl⟩
  · rintro (q | ⟨e1, e2, ⟨a, b, c⟩, q⟩)
    · exact Or.inl (Or.inl q)
    · by_cases e : o' = o - 1
      · exact Or.inr ⟨e1, e2, e⟩
      · exact Or.inl (Or.inr ⟨e1, e2, ⟨a, b, by omega⟩, q⟩)

theorem sI_sm {f g h : Nat → Int → Int} {E : Int → Int → Prop} (e14 : h 14 = g 14) (e15 : h 15 = g 15) (e18 : h 18 = g 18) (hI : sI f E g) : sI f E h := by
  have eB : sB f h = sB f g := by
    funext p t o
    unfold sB
    rw [e18]
  unfold sI nE nF at hI ⊢
  rw [e14, e15, eB]
  exact hI
theorem se_I0 {f : Nat → Int → Int} {E : Int → Int → Prop} {m1 m : wk_M} (f62 : wk_fr [25, 26, 27] m1 m) (hI : sI f E m.1) : sI f E m1.1 := sI_sm (f62 14 (by decide)).1 (f62 15 (by decide)).1 (f62 18 (by decide)).1 hI
theorem se_I {f : Nat → Int → Int} {E : Int → Int → Prop} {m2 m1 m : wk_M} (f62 : wk_fr [25, 26, 27] m1 m) (f64 : wk_fr [25, 26, 27] m2 m1) (hI : sI f E m.1) : sI f E m2.1 := se_I0 f64 (se_I0 f62 hI)
theorem se_l {f : Nat → Int → Int} {E : Int → Int → Prop} {m2 m1 : wk_M} {g : Nat → Int → Int} {p t o' : Int} (hE : eRg E) (c32 : f 1 (4 : Nat) ≤ 32) (hI : sI f E m1.1) (x0 : 0 ≤ p ∧ p ≤ 3) (ht : 4 ≤ t ∧ t ≤ 6) (hx : ∀ a, 0 ≤ a → a ≤ 255 → (qF m1.1 a ↔ a = 224 + p * 7 + t)) (hrs : ∀ a, 0 ≤ a → a ≤ 251 → (qF m2.1 a ↔ rs (nb m1.1 0 0) (qX m1.1) nS a)) (a : 0 ≤ o') (b : o' ≤ 2) (e18 : m1.1 18 = g 18) : qF m2.1 (224 + (p * 7 + (1 + o'))) ↔ sLd f E (sB f g) p (t - 4) o' := by
  have eB : sB f m1.1 = sB f g := by
    funext p t o
    unfold sB
    rw [e18]
  rw [hrs _ (by omega) (by omega), ← eB]
  unfold sLd
  have e : 224 + (p * 7 + (1 + o')) = 224 + p * 7 + (1 + o') := by omega
  rw [e]
  refine rs_iff (fun i k => nb_sE hE c32 hI i k) (fun i => ?_) (fun _ => Iff.rfl) _
  unfold qX
  constructor
  · rintro ⟨q, i0, i1⟩
    have := (hx i i0 (by omega)).mp q
    omega
  · intro e
    exact ⟨(hx i (by omega) (by omega)).mpr (by omega), by omega, by omega⟩

set_option maxHeartbeats 8000000 in
set_option maxRecDepth 20000 in
theorem k61x {Z : sm_Z} (hZ : Z.2.2.2 = tb_N) (m : wk_M) (f : Nat → Int → Int) (E : Int → Int → Prop) (hcf : cF f m) (hE : eRg E) (c32 : f 1 (4 : Nat) ≤ 32) (p4 : f 1 (11 : Nat) ≤ 4) (p t : Int) (p0 : 0 ≤ p) (p1 : p < f 1 (11 : Nat)) (t0 : 4 ≤ t) (t1 : t ≤ 6) (hI : sI f E m.1) (hC : cC f (f 1 (4 : Nat)) m.1) (h : dM m.1) : wC Z 4 61 [14, 15, 18, 25, 26, 27] [.inr (.inl 25), .inl p, .inl t] m (fun r m' => ∃ v : Int, r = some (.inl v) ∧ (0 ≤ v ∧ v ≤ 1) ∧ dM m'.1 ∧ sI f E m'.1 ∧ seK f E p (t - 4) m.1 m'.1 v 4) := by
  obtain ⟨J0, hJ0⟩ : ∃ J : Int →Int →Int →Int → wk_M → Prop, ∀ pa ta g o m', J pa ta g o m' ↔ ((p = pa ∧ t = ta) ∧ ((0 ≤ g ∧ g ≤ 1) ∧ 1 ≤ o ∧ o ≤ 4) ∧ dM m'.1 ∧ sI f E m'.1 ∧ (∀ o', 0 ≤ o' → o' ≤ 2 → (qF m'.1 (224 + (p * 7 + (1 + o'))) ↔ sLd f E (sB f m.1) p (t - 4) o')) ∧ seK f E p (t - 4) m.1 m'.1 g o) := ⟨_, fun _ _ _ _ _ => Iff.rfl⟩
  refine wC.gen fun Q hQ => wk_E hZ (by exact rfl) [(20, [(3, 25), (1, 0), (1, 0), (1, 0), (1, 0), (0, 0)], fun vs _ m' => (match vs with
    | [pa, ta, g, o] => J0 pa ta g o m'
    | _ => False), fun vs _ m' => (match vs with
    | [pa, ta, g, o] => (4 - o : Int).toNat
    | _ => 0))] rfl (fun hr hs => ⟨?_, trivial⟩) (fun hr hs => ?_)
  · have e1 : ab_lo = -2147483648 := rfl
    have e2 : ab_hi = 2147483647 := rfl
    intro m2 hr2 hf2 pa pal pah ta tal tah g gl gh o ol oh hI
    have hI := (hJ0 _ _ _ _ _).mp hI
    obtain ⟨⟨rfl, rfl⟩, ⟨⟨g0, g1⟩, o0, o1⟩, hd, hI2, hl, hK⟩ := hI
    have hC2 := cC_sm hC (hf2 17 (by decide)).1
    have e4 : m2.1 1 (4 : Nat) = f 1 (4 : Nat) := by rw [(hf2 1 (by decide)).1]; exact congrFun (hcf 1 (by decide)) _
    repeat' first | (intro h; exact absurd h (by decide)) | (intro h; exact absurd rfl h) | refine And.intro ?_ ?_ | intro _ | refine Or.inl ⟨by omega, by omega, ?_⟩ | refine Or.inr ?_ | exact trivial | (refine wk_use (k67b hZ _ _ _ (by omega) (by omega)) rfl rfl ?_; rintro - _ _ - - - ⟨_, rfl, hm, ⟨rfl, hb⟩ | ⟨rfl, hb⟩⟩ <;> refine Or.inl ⟨[], hm, ?_⟩ <;> clear hm) | (refine wk_use (k73x hZ _ _ _ _ (by omega) (by omega) (by omega) (by omega) (by omega) (by omega)) rfl rfl ?_; rintro - _ _ - - - ⟨_, rfl, hm, ⟨rfl, hs⟩ | ⟨rfl, hs⟩⟩ <;> refine Or.inl ⟨[], hm, ?_⟩ <;> clear hm) | (refine wk_use (k75x hZ _ _ _ _ (by omega) (by omega) (by omega) (by omega) (by omega) (by omega) hd) rfl rfl ?_; rintro - _ _ - hfr - ⟨rfl, hd2, hs8, hA⟩; rw [e4] at hA; have e26 := (hfr 26 (by decide)).1; refine Or.inr ?_)
    all_goals first
      | omega
      | (show (4 - (_ : Int) : Int).toNat < (4 - (_ : Int) : Int).toNat; omega)
      | exact hQ _ _ ⟨_, rfl, ⟨by omega, by omega⟩, hd, hI2, (by have e : o = 4 := (by omega); rw [e] at hK; exact hK)⟩
      | (show J0 _ _ _ _ _; refine (hJ0 _ _ _ _ _).mpr (by have q := sI_put c32 p4 (T := t) (O := o) rfl rfl (by unfold sRg; omega) hI2 hC2 hs8 hA; exact ⟨⟨rfl, rfl⟩, ⟨⟨by omega, by omega⟩, by omega, by omega⟩, hd2, q.1, (fun o' a b => by unfold qF; rw [e26]; exact hl o' a b), seK_yes o0 (by omega) hK (by rw [← hl (o - 1) (by omega) (by omega)]; have e : p * 7 + (1 + (o - 1)) = p * 7 + o := (by omega); rw [e, qF_7 (by omega) (by omega)]; exact hb) (fun z => by have z := z.2; rw [hs] at z; cases z) q.2⟩))
      | (show J0 _ _ _ _ _; refine (hJ0 _ _ _ _ _).mpr ⟨⟨rfl, rfl⟩, ⟨⟨by omega, by omega⟩, by omega, by omega⟩, hd, hI2, hl, seK_no hK (Or.inr ⟨(by unfold sRg; omega), hs⟩)⟩)
      | (show J0 _ _ _ _ _; refine (hJ0 _ _ _ _ _).mpr ⟨⟨rfl, rfl⟩, ⟨⟨by omega, by omega⟩, by omega, by omega⟩, hd, hI2, hl, seK_no hK (Or.inl (by rw [← hl (o - 1) (by omega) (by omega)]; have e : p * 7 + (1 + (o - 1)) = p * 7 + o := (by omega); rw [e, qF_7 (by omega) (by omega), hb]; exact fun z => by cases z))⟩)
  · have e1 : ab_lo = -2147483648 := rfl
    have e2 : ab_hi = 2147483647 := rfl
    repeat' first | (intro h; exact absurd h (by decide)) | (intro h; exact absurd rfl h) | refine And.intro ?_ ?_ | intro _ | refine Or.inl ⟨by omega, by omega, ?_⟩ | refine Or.inr ?_ | exact trivial | (refine wk_use (k47 hZ _ _ _ (by omega) (by omega) (by omega) (by omega)) rfl rfl ?_; rintro - _ _ - - - ⟨_, rfl, hm, rfl⟩; refine Or.inl ⟨[], hm, ?_⟩; clear hm) | (refine wk_use (k62x hZ _ _ (by omega) (by omega)) rfl rfl ?_; rintro - _ _ - hfr - ⟨rfl, hq, hx⟩; have f62 := hfr; have hdd := dM_fr hfr (by decide) (by decide) h; refine Or.inr ?_) | (refine wk_use (k64x hZ _ _ _ (by decide) (by decide) hq hdd) rfl rfl ?_; rintro - _ _ - hfr - ⟨rfl, hq2, hrs⟩; have f64 := hfr; have hde := dM_fr hfr (by decide) (by decide) hdd; refine Or.inr ?_)
    all_goals first
      | omega
      | trivial
      | (show J0 _ _ _ _ _; refine (hJ0 _ _ _ _ _).mpr ⟨⟨rfl, rfl⟩, ⟨⟨by omega, by omega⟩, by omega, by omega⟩, hde, se_I f62 f64 hI, (fun o' a b => se_l hE c32 (se_I0 f62 hI) (by omega) (by omega) hx hrs a b (f62 18 (by decide)).1), seK_0 (by omega) ((f64 18 (by decide)).1.trans (f62 18 (by decide)).1)⟩)
