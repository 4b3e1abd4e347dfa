/-! slices -/
/-- first out to the calls, then into the procedures -/
def cS1 (f : Nat → Int → Int) (fw n a : Int) : Prop := rs (nb f 1 fw) (fun x => nR x ∧ x = n) nS a
def cS (f : Nat → Int → Int) (fw n a : Int) : Prop := rs (nb f 2 fw) (fun x => nR x ∧ cS1 f fw n x) nS a
theorem nb_sm {f g : Nat → Int → Int} (e1 : g 1 = f 1) (e2 : g 2 = f 2) (e14 : g 14 = f 14) (e15 : g 15 = f 15) (e17 : g 17 = f 17) : nb g = nb f := by
  funext bt fw a b
  unfold nb nbI nbO nbD nE nF nC cLl
  rw [e1, e2, e14, e15, e17]
theorem cS_sm {f g : Nat → Int → Int} (e1 : g 1 = f 1) (e2 : g 2 = f 2) (e14 : g 14 = f 14) (e15 : g 15 = f 15) (e17 : g 17 = f 17) : cS g = cS f := by
  funext fw n a
  unfold cS cS1
  rw [nb_sm e1 e2 e14 e15 e17]
theorem nb_fr {W : List Nat} {m' m : wk_M} (h : wk_fr W m' m) (n1 : 1 ∉ W) (n2 : 2 ∉ W) (n14 : 14 ∉ W) (n15 : 15 ∉ W) (n17 : 17 ∉ W) : nb m'.1 = nb m.1 := nb_sm (h 1 n1).1 (h 2 n2).1 (h 14 n14).1 (h 15 n15).1 (h 17 n17).1
theorem sl_fin {m m1 m2 m3 : wk_M} {fw n : Int} (f1 : wk_fr [25, 26, 27] m1 m) (f2 : wk_fr [25, 26, 27] m2 m1) (h1 : ∀ a, 0 ≤ a → a ≤ 255 → (qF m1.1 a ↔ a = n)) (h2 : ∀ a, 0 ≤ a → a ≤ 251 → (qF m2.1 a ↔ rs (nb m1.1 1 fw) (qX m1.1) nS a)) (h3 : ∀ a, 0 ≤ a → a ≤ 251 → (qF m3.1 a ↔ rs (nb m2.1 2 fw) (qX m2.1) nS a)) : ∀ a, 0 ≤ a → a ≤ 251 → (qF m3.1 a ↔ cS m.1 fw n a) := by
  intro a a0 a1
  have e1 : nb m1.1 = nb m.1 := nb_fr f1 (by decide) (by decide) (by decide) (by decide) (by decide)
  have e2 : nb m2.1 = nb m.1 := (nb_fr f2 (by decide) (by decide) (by decide) (by decide) (by decide)).trans e1
  rw [h3 a a0 a1, e2]
  refine rs_iff (fun _ _ => Iff.rfl) (fun x => ?_) (fun _ => Iff.rfl) a
  unfold qX nR
  constructor
  · rintro ⟨q, x0, x1⟩
    refine ⟨⟨x0, x1⟩, ?_⟩
    rw [h2 x x0 x1, e1] at q
    refine (rs_iff (fun _ _ => Iff.rfl) (fun y => ?_) (fun _ => Iff.rfl) x).mp q
    unfold qX nR
    exact ⟨fun z => ⟨z.2, (h1 y z.2.1 (by have := z.2.2; omega)).mp z.1⟩, fun z => ⟨(h1 y z.1.1 (by have := z.1.2; omega)).mpr z.2, z.1⟩⟩
  · rintro ⟨⟨x0, x1⟩, q⟩
    refine ⟨?_, x0, x1⟩
    rw [h2 x x0 x1, e1]
    refine (rs_iff (fun _ _ => Iff.rfl) (fun y => ?_) (fun _ => Iff.rfl) x).mpr q
    unfold qX nR
    exact ⟨fun z => ⟨z.2, (h1 y z.2.1 (by have := z.2.2; omega)).mp z.1⟩, fun z => ⟨(h1 y z.1.1 (by have := z.1.2; omega)).mpr z.2, z.1⟩⟩

set_option maxHeartbeats 8000000 in
set_option maxRecDepth 20000 in
theorem k78x {Z : sm_Z} (hZ : Z.2.2.2 = tb_N) (m : wk_M) (x b : Int) (x0 : 0 ≤ x) (x1 : x ≤ 251) (b0 : 0 ≤ b) (b1 : b ≤ 1) (h : dM m.1) : wC Z 4 78 [25, 26, 27] [.inr (.inl 25), .inl x, .inl b] m (fun r m' => r = none ∧ ∀ a, 0 ≤ a → a ≤ 251 → (qF m'.1 a ↔ cS m.1 b x a)) := by
  refine wC.gen fun Q hQ => wk_E hZ (by exact rfl) [] rfl (fun _ _ => trivial) fun hr hs => ?_
  have e1 : ab_lo = -2147483648 := rfl
  have e2 : ab_hi = 2147483647 := rfl
  repeat' first | refine And.intro ?_ ?_ | intro _ | refine Or.inl ⟨by omega, by omega, ?_⟩ | refine Or.inr ?_ | exact trivial | (refine wk_use (k62x hZ _ _ x0 x1) rfl rfl ?_; rintro - _ _ - hfr - ⟨rfl, hq, hx⟩; have f62 := hfr; have hdd := dM_fr hfr (by decide) (by decide) h; refine Or.inr ?_) | (refine wk_use (k64x hZ _ _ _ (by decide) ⟨b0, b1⟩ hq hdd) rfl rfl ?_; rintro - _ _ - hfr - ⟨rfl, hq2, hr2⟩; have f64 := hfr; have hde := dM_fr hfr (by decide) (by decide) hdd; refine Or.inr ?_) | (refine wk_use (k64x hZ _ _ _ (by decide) ⟨b0, b1⟩ hq2 hde) rfl rfl ?_; rintro - _ _ - hfr - ⟨rfl, hq3, hr3⟩; refine Or.inr ?_)
  all_goals first | omega | exact hQ _ _ ⟨rfl, sl_fin f62 f64 hx hr2 hr3⟩

/-! the sinks' slices -/
def snk (f : Nat → Int → Int) (i : Int) : Prop := f 2 i = 17 ∨ f 2 i = 5
def trS (f g : Nat → Int → Int) (n : Int) : Prop := ∀ s, 0 ≤ s → s < n → snk f s → ∀ k, 0 ≤ k → k ≤ 31 → (bitI (g 43 s) k = true ↔ cS f 0 s k)
theorem trS_no {f g : Nat → Int → Int} {i : Int} (h : trS f g i) (hn : ¬ snk f i) : trS f g (i + 1) := fun s s0 s1 hs => by
  by_cases e : s = i
  · rw [e] at hs
    exact absurd hs hn
  · exact h s s0 (by omega) hs
theorem trS_yes {f : Nat → Int → Int} {m2 m3 : wk_M} {i v : Int} (h : trS f m2.1 i) (f3 : m3.1 43 = m2.1 43) (hq : ∀ a, 0 ≤ a → a ≤ 251 → (qF m3.1 a ↔ cS f 0 i a)) (hv : v = m3.1 26 0) : trS f (wk_u m3 43 i v).1 (i + 1) := by
  intro s s0 s1 hs k k0 k1
  have g : (wk_u m3 43 i v).1 43 s = if s = i then v else m2.1 43 s := by
    rw [← f3]
    simp (decide := true) only [wk_u_at, wk_ul_1, and_self, and_true, true_and, and_false, false_and, if_true, if_false]
  rw [g]
  by_cases e : s = i
  · rw [if_pos e, hv, e, ← hq k k0 (by omega)]
    unfold qF
    have e1 : k / 32 = 0 := by omega
    have e2 : k % 32 = k := by omega
    rw [e1, e2]
  · rw [if_neg e]
    exact h s s0 (by omega) hs k k0 k1

set_option maxHeartbeats 8000000 in
set_option maxRecDepth 20000 in
theorem k77x {Z : sm_Z} (hZ : Z.2.2.2 = tb_N) (m : wk_M) (i : Int) (i0 : 0 ≤ i) (i1 : i ≤ 31) : wC Z 1 77 [] [.inr (.inl 42), .inl i] m (fun r m' => ∃ v : Int, r = some (.inl v) ∧ m' = m ∧ ((v = 1 ∧ snk m.1 i) ∨ (v = 0 ∧ ¬ snk m.1 i))) := by
  refine wC.gen fun Q hQ => wk_E hZ (by exact rfl) [] rfl (fun _ _ => trivial) fun hr hs => ?_
  have e1 : ab_lo = -2147483648 := rfl
  have e2 : ab_hi = 2147483647 := rfl
  repeat' first | refine And.intro ?_ ?_ | intro _ | refine Or.inl ⟨by omega, by omega, ?_⟩ | refine Or.inr ?_ | exact trivial
  all_goals first | omega | exact hQ _ _ ⟨_, rfl, rfl, by unfold snk; omega⟩

set_option maxHeartbeats 8000000 in
set_option maxRecDepth 20000 in
theorem k76x {Z : sm_Z} (hZ : Z.2.2.2 = tb_N) (m : wk_M) (h : dM m.1) : wC Z 5 76 [25, 26, 27, 43] [.inr (.inl 42), .inr (.inl 25)] m (fun r m' => r = none ∧ trS m.1 m'.1 (m.1 1 (4 : Nat))) := by
  obtain ⟨J0, hJ0⟩ : ∃ J : Int → wk_M → Prop, ∀ i m', J i m' ↔ ((0 ≤ i ∧ i ≤ m.1 1 (4 : Nat)) ∧ trS m.1 m'.1 i) := ⟨_, fun _ _ => Iff.rfl⟩
  refine wC.gen fun Q hQ => wk_E hZ (by exact rfl) [(2, [(3, 42), (3, 25), (1, 0)], fun vs _ m' => (match vs with
    | [i] => J0 i m'
    | _ => False), fun vs _ m' => (match vs with
    | [i] => (32 - i : Int).toNat
    | _ => 0))] rfl (fun hr hs => ⟨?_, trivial⟩) (fun hr hs => ?_)
  · have e1 : ab_lo = -2147483648 := rfl
    have e2 : ab_hi = 2147483647 := rfl
    intro m2 hr2 hf2 i il ih hI
    have hI := (hJ0 _ _).mp hI
    obtain ⟨⟨i0, i1⟩, hT⟩ := hI
    have hd := dM_fr hf2 (by decide) (by decide) h
    have hc := cnt32 hr2
    have e4 : m2.1 1 (4 : Nat) = m.1 1 (4 : Nat) := congrFun (hf2 1 (by decide)).1 _
    have e2 : m2.1 2 = m.1 2 := (hf2 2 (by decide)).1
    have eS : cS m2.1 = cS m.1 := cS_sm (hf2 1 (by decide)).1 e2 (hf2 14 (by decide)).1 (hf2 15 (by decide)).1 (hf2 17 (by decide)).1
    repeat' first | (intro h; exact absurd h (by decide)) | (intro h; exact absurd rfl h) | refine And.intro ?_ ?_ | intro _ | refine Or.inl ⟨by omega, by omega, ?_⟩ | refine Or.inr ?_ | exact trivial | (refine wk_use (k77x hZ _ _ (by omega) (by omega)) rfl rfl ?_; rintro - _ _ - - - ⟨_, rfl, hm, ⟨rfl, hsk⟩ | ⟨rfl, hsk⟩⟩ <;> refine Or.inl ⟨[], hm, ?_⟩ <;> clear hm) | (refine wk_use (k78x hZ _ _ _ (by omega) (by omega) (by decide) (by decide) hd) rfl rfl ?_; rintro - _ _ - hfr - ⟨rfl, hq⟩; have f78 := hfr; rw [eS] at hq; refine Or.inr ?_) | (refine wk_use (k79 hZ _ _ (by omega) (by omega)) rfl rfl ?_; rintro - _ _ - - ho ⟨v, rfl, hm, hv⟩; have := ho.1; have := ho.2; clear ho; refine Or.inl ⟨[], hm, ?_⟩; clear hm)
    all_goals first
      | omega
      | (show (32 - (_ : Int) : Int).toNat < (32 - (_ : Int) : Int).toNat; omega)
      | exact hQ _ _ ⟨rfl, (by have e : i = m.1 1 (4 : Nat) := (by omega); rw [← e]; exact hT)⟩
      | (show J0 _ _; refine (hJ0 _ _).mpr ⟨⟨by omega, by omega⟩, trS_yes hT (f78 43 (by decide)).1 hq hv⟩)
      | (show J0 _ _; refine (hJ0 _ _).mpr ⟨⟨by omega, by omega⟩, trS_no hT (by unfold snk at hsk ⊢; rw [e2] at hsk; exact hsk)⟩)
  · have e1 : ab_lo = -2147483648 := rfl
    have e2 : ab_hi = 2147483647 := rfl
    have hc := cnt32 hr
    repeat' first | (intro h; exact absurd h (by decide)) | (intro h; exact absurd rfl h) | refine And.intro ?_ ?_ | intro _ | refine Or.inl ⟨by omega, by omega, ?_⟩ | refine Or.inr ?_ | exact trivial
    all_goals first
      | omega
      | trivial
      | (show J0 _ _; refine (hJ0 _ _).mpr ⟨⟨by omega, by omega⟩, fun s s0 s1 => by omega⟩)
