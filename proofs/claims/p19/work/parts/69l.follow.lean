/-! follow -/
/-- to what a walk goes on from a node: inside, out to the calls (1), into the procedures (2) -/
def nbI (f : Nat → Int → Int) (fw a b : Int) : Prop := (0 ≤ a ∧ a ≤ 251) ∧ (0 ≤ b ∧ b ≤ 251) ∧ ((fw = 0 ∧ nE f a b) ∨ (¬ fw = 0 ∧ nF f b a))
def nbO (f : Nat → Int → Int) (fw a b : Int) : Prop := ((224 ≤ a ∧ a ≤ 251) ∧ 0 ≤ b) ∧ ((fw = 0 ∧ (a - 224) % 7 < 4) ∨ (¬ fw = 0 ∧ 4 ≤ (a - 224) % 7)) ∧ b / 32 = (a - 224) % 7 ∧ nC f ((a - 224) / 7) (b % 32)
def nbD (f : Nat → Int → Int) (fw a b : Int) : Prop := (0 ≤ a ∧ a < 224) ∧ cLl f (a % 32) ∧ ((fw = 0 ∧ 4 ≤ a / 32) ∨ (¬ fw = 0 ∧ a / 32 < 4)) ∧ b = 224 + (f 2 (a % 32) - 13) * 7 + a / 32
def nb (f : Nat → Int → Int) (bt fw a b : Int) : Prop := nbI f fw a b ∨ (bt = 1 ∧ nbO f fw a b) ∨ (bt = 2 ∧ nbD f fw a b)

set_option maxHeartbeats 8000000 in
set_option maxRecDepth 20000 in
theorem k68x {Z : sm_Z} (hZ : Z.2.2.2 = tb_N) (m : wk_M) (x : Int) (x0 : 0 ≤ x) (x1 : x ≤ 251) : wC Z 1 68 [] [.inl x] m (fun r m' => ∃ v : Int, r = some (.inl v) ∧ m' = m ∧ ((x < 224 ∧ v = x / 32) ∨ (224 ≤ x ∧ v = (x - 224) % 7))) := by
  refine wC.gen fun Q hQ => wk_E hZ (by exact rfl) [] rfl (fun _ _ => trivial) fun hr hs => ?_
  have e1 : ab_lo = -2147483648 := rfl
  have e2 : ab_hi = 2147483647 := rfl
  repeat' first | refine And.intro ?_ ?_ | intro _ | refine Or.inl ⟨by omega, by omega, ?_⟩ | refine Or.inr ?_ | exact trivial
  all_goals first | omega | exact hQ _ _ ⟨_, rfl, rfl, by omega⟩

set_option maxHeartbeats 8000000 in
set_option maxRecDepth 20000 in
theorem k70x {Z : sm_Z} (hZ : Z.2.2.2 = tb_N) (m : wk_M) (x : Int) : wC Z 1 70 [] [.inl x] m (fun r m' => ∃ v : Int, r = some (.inl v) ∧ m' = m ∧ ((v = 1 ∧ 4 ≤ x) ∨ (v = 0 ∧ x < 4))) := by
  refine wC.gen fun Q hQ => wk_E hZ (by exact rfl) [] rfl (fun _ _ => trivial) fun hr hs => ?_
  have e1 : ab_lo = -2147483648 := rfl
  have e2 : ab_hi = 2147483647 := rfl
  repeat' first | refine And.intro ?_ ?_ | intro _ | refine Or.inl ⟨by omega, by omega, ?_⟩ | refine Or.inr ?_ | exact trivial
  all_goals first | omega | exact hQ _ _ ⟨_, rfl, rfl, by omega⟩

set_option maxHeartbeats 8000000 in
set_option maxRecDepth 20000 in
theorem k65x {Z : sm_Z} (hZ : Z.2.2.2 = tb_N) (m : wk_M) (x y b : Int) (x0 : 0 ≤ x) (x1 : x ≤ 251) (y0 : 0 ≤ y) (y1 : y ≤ 7) : wC Z 1 65 [] [.inr (.inl 13), .inl x, .inl y, .inl b] m (fun r m' => ∃ v : Int, r = some (.inl v) ∧ m' = m ∧ ((b = 0 ∧ v = m.1 14 (x * 8 + y)) ∨ (¬ b = 0 ∧ v = m.1 15 (x * 8 + y)))) := by
  refine wC.gen fun Q hQ => wk_E hZ (by exact rfl) [] rfl (fun _ _ => trivial) fun hr hs => ?_
  have e1 : ab_lo = -2147483648 := rfl
  have e2 : ab_hi = 2147483647 := rfl
  repeat' first | refine And.intro ?_ ?_ | intro _ | refine Or.inl ⟨by omega, by omega, ?_⟩ | refine Or.inr ?_ | exact trivial
  all_goals first | omega | exact hQ _ _ ⟨_, rfl, rfl, by first | exact Or.inl ⟨by omega, rfl⟩ | exact Or.inr ⟨by omega, rfl⟩⟩

set_option maxHeartbeats 8000000 in
set_option maxRecDepth 20000 in
theorem k69x {Z : sm_Z} (hZ : Z.2.2.2 = tb_N) (m : wk_M) (x b : Int) (x0 : 0 ≤ x) (x1 : x ≤ 251) (b0 : 0 ≤ b) (b1 : b ≤ 1) : wC Z 2 69 [] [.inr (.inl 25), .inl x, .inl b] m (fun r m' => ∃ v : Int, r = some (.inl v) ∧ m' = m ∧ ((v = 0 ∧ ¬ (224 ≤ x ∧ ((b = 0 ∧ (x - 224) % 7 < 4) ∨ (b = 1 ∧ 4 ≤ (x - 224) % 7)))) ∨ (v = m.1 17 ((x - 224) / 7) ∧ 224 ≤ x ∧ ((b = 0 ∧ (x - 224) % 7 < 4) ∨ (b = 1 ∧ 4 ≤ (x - 224) % 7))))) := by
  refine wC.gen fun Q hQ => wk_E hZ (by exact rfl) [] rfl (fun _ _ => trivial) fun hr hs => ?_
  have e1 : ab_lo = -2147483648 := rfl
  have e2 : ab_hi = 2147483647 := rfl
  repeat' first | (intro h; exact absurd h (by decide)) | (intro h; exact absurd rfl h) | refine And.intro ?_ ?_ | intro _ | refine Or.inl ⟨by omega, by omega, ?_⟩ | refine Or.inr ?_ | exact trivial | (refine wk_use (k68x hZ _ _ (by omega) (by omega)) rfl rfl ?_; rintro - _ _ - - - ⟨_, rfl, hm, hv8⟩; refine Or.inl ⟨[], hm, ?_⟩; clear hm) | (refine wk_use (k70x hZ _ _) rfl rfl ?_; rintro - _ _ - - - ⟨_, rfl, hm, ⟨rfl, _⟩ | ⟨rfl, _⟩⟩ <;> refine Or.inl ⟨[], hm, ?_⟩ <;> clear hm) | (refine wk_use (k71 hZ _ _ (by omega) (by omega)) rfl rfl ?_; rintro - _ _ - - - ⟨_, rfl, hm, rfl⟩; refine Or.inl ⟨[], hm, ?_⟩; clear hm)
  all_goals first | omega | exact hQ _ _ ⟨_, rfl, rfl, Or.inl ⟨rfl, by omega⟩⟩ | exact hQ _ _ ⟨_, rfl, rfl, Or.inr ⟨rfl, by omega, by omega⟩⟩

set_option maxHeartbeats 8000000 in
set_option maxRecDepth 20000 in
theorem k72x {Z : sm_Z} (hZ : Z.2.2.2 = tb_N) (m : wk_M) (x b : Int) (x0 : 0 ≤ x) (x1 : x ≤ 251) (b0 : 0 ≤ b) (b1 : b ≤ 1) : wC Z 2 72 [] [.inr (.inl 25), .inl x, .inl b] m (fun r m' => ∃ v : Int, r = some (.inl v) ∧ m' = m ∧ ((v = 0 ∧ ¬ (x < 224 ∧ cLl m.1 (x % 32) ∧ ((b = 0 ∧ 4 ≤ x / 32) ∨ (b = 1 ∧ x / 32 < 4)))) ∨ ∃ k', v = (Int32.ofInt 1 <<< (Int32.ofInt k' &&& 31)).toInt ∧ k' = (m.1 2 (x % 32) - 13) * 7 + x / 32 ∧ (x < 224 ∧ cLl m.1 (x % 32) ∧ ((b = 0 ∧ 4 ≤ x / 32) ∨ (b = 1 ∧ x / 32 < 4))))) := by
  refine wC.gen fun Q hQ => wk_E hZ (by exact rfl) [] rfl (fun _ _ => trivial) fun hr hs => ?_
  have e1 : ab_lo = -2147483648 := rfl
  have e2 : ab_hi = 2147483647 := rfl
  repeat' first | (intro h; exact absurd h (by decide)) | (intro h; exact absurd rfl h) | refine And.intro ?_ ?_ | intro _ | refine Or.inl ⟨by omega, by omega, ?_⟩ | refine Or.inr ?_ | exact trivial | (refine wk_use (k68x hZ _ _ (by omega) (by omega)) rfl rfl ?_; rintro - _ _ - - - ⟨_, rfl, hm, hv8⟩; refine Or.inl ⟨[], hm, ?_⟩; clear hm) | (refine wk_use (k70x hZ _ _) rfl rfl ?_; rintro - _ _ - - - ⟨_, rfl, hm, ⟨rfl, _⟩ | ⟨rfl, _⟩⟩ <;> refine Or.inl ⟨[], hm, ?_⟩ <;> clear hm) | (refine wk_use (k33 hZ _ _) rfl rfl ?_; rintro - _ _ - - - ⟨_, rfl, hm, ⟨rfl, _⟩ | ⟨rfl, _⟩⟩ <;> refine Or.inl ⟨[], hm, ?_⟩ <;> clear hm) | (refine wk_use (k34 hZ _ _ (by omega) (by omega)) rfl rfl ?_; rintro - _ _ - - - ⟨_, rfl, hm, hv4⟩; refine Or.inl ⟨[], hm, ?_⟩; clear hm)
  all_goals first | omega | exact hQ _ _ ⟨_, rfl, rfl, Or.inl ⟨rfl, by unfold cLl; omega⟩⟩ | exact hQ _ _ ⟨_, rfl, rfl, Or.inr ⟨_, by assumption, by omega, by unfold cLl; omega⟩⟩

def qX (f : Nat → Int → Int) (a : Int) : Prop := qF f a ∧ 0 ≤ a ∧ a ≤ 251
theorem nb_rg {f : Nat → Int → Int} {bt fw a b : Int} (h : nb f bt fw a b) : 0 ≤ b ∧ b ≤ 251 := by
  rcases h with h | ⟨-, h⟩ | ⟨-, h⟩
  · exact h.2.1
  · obtain ⟨⟨⟨a0, a1⟩, b0⟩, -, e, -⟩ := h
    omega
  · obtain ⟨⟨a0, a1⟩, ⟨-, c0, c1⟩, -, e⟩ := h
    omega
/-- a walk under way: sound, and what the first dn of the queue lead to is there -/
def fo (f : Nat → Int → Int) (bt fw : Int) (g : Nat → Int → Int) (dn : Int) : Prop := (qI g ∧ qA g) ∧ (∀ a, 0 ≤ a → a ≤ 255 → qF f a → qF g a) ∧ (∀ a, 0 ≤ a → a ≤ 255 → qF g a → rs (nb f bt fw) (qX f) nS a) ∧ (∀ k, 0 ≤ k → k < dn → k < g 25 (4 : Nat) → ∀ b, nb f bt fw (g 27 k) b → qF g b)
theorem fo_0 {f : Nat → Int → Int} {bt fw dn : Int} (h : qI f ∧ qA f) (hd : dn ≤ 0) : fo f bt fw f dn := by
  refine ⟨h, fun a _ _ q => q, fun a a0 a1 q => rs_in ⟨q, a0, ?_⟩, fun k k0 k1 => by omega⟩
  obtain ⟨k, ⟨k0, k1⟩, e⟩ := h.2 a a0 a1 q
  have := (h.1.2.1 k k0 k1).1.2
  omega
theorem fo_put {f g h : Nat → Int → Int} {bt fw dn : Int} {A : Int → Prop} (hf : fo f bt fw g dn) (hq : qP A g h) (hA : ∀ a, 0 ≤ a → a ≤ 255 → A a → ∃ c, (0 ≤ c ∧ c ≤ 251 ∧ qF g c) ∧ nb f bt fw c a) (hd : dn ≤ g 25 (4 : Nat)) : fo f bt fw h dn := by
  obtain ⟨f1, f2, f3, f4⟩ := hf
  refine ⟨hq.1, fun a a0 a1 q => (hq.2.2 a a0 a1).mpr (Or.inl (f2 a a0 a1 q)), fun a a0 a1 q => ?_, fun k k0 k1 k2 b hb => ?_⟩
  · rcases (hq.2.2 a a0 a1).mp q with q | q
    · exact f3 a a0 a1 q
    · obtain ⟨c, ⟨c0, c1, c2⟩, hc⟩ := hA a a0 a1 q
      exact rs_go (f3 c c0 (by omega) c2) id hc
  · rw [hq.2.1.2 k k0 (by omega)] at hb
    have r := nb_rg hb
    exact (hq.2.2 b r.1 (by omega)).mpr (Or.inl (f4 k k0 k1 (by omega) b hb))
theorem fo_nx {f g : Nat → Int → Int} {bt fw dn : Int} (hf : fo f bt fw g dn) (hn : ∀ b, nb f bt fw (g 27 dn) b → qF g b) : fo f bt fw g (dn + 1) := by
  obtain ⟨f1, f2, f3, f4⟩ := hf
  refine ⟨f1, f2, f3, fun k k0 k1 k2 b hb => ?_⟩
  by_cases e : k = dn
  · rw [e] at hb
    exact hn b hb
  · exact f4 k k0 (by omega) k2 b hb
theorem fo_fin {f g : Nat → Int → Int} {bt fw dn : Int} (hf : fo f bt fw g dn) (hd : g 25 (4 : Nat) ≤ dn) : ∀ a, 0 ≤ a → a ≤ 251 → (qF g a ↔ rs (nb f bt fw) (qX f) nS a) := by
  obtain ⟨f1, f2, f3, f4⟩ := hf
  intro a a0 a1
  refine ⟨f3 a a0 (by omega), fun q => ?_⟩
  exact (q (fun b => qF g b ∧ 0 ≤ b ∧ b ≤ 251) (fun i hi => ⟨f2 i hi.2.1 (by have := hi.2.2; omega) hi.1, hi.2⟩) (fun i k hi _ hs => by
    obtain ⟨j, ⟨j0, j1⟩, e⟩ := f1.2 i hi.2.1 (by have := hi.2.2; omega) hi.1
    have r := nb_rg hs
    rw [← e] at hs
    exact ⟨f4 j j0 (by omega) j1 k hs, r⟩)).1
theorem nbI_w {f : Nat → Int → Int} {fw nd wd v b : Int} (n0 : 0 ≤ nd) (n1 : nd ≤ 251) (hv : (fw = 0 ∧ v = f 14 (nd * 8 + wd)) ∨ (¬ fw = 0 ∧ v = f 15 (nd * 8 + wd))) (b0 : 0 ≤ b) (b1 : b ≤ 251) : (nbI f fw nd b ∧ b / 32 = wd) ↔ wN wd v b := by
  unfold nbI wN nE nF
  constructor
  · rintro ⟨⟨-, -, q⟩, e⟩
    subst e
    refine ⟨rfl, ?_⟩
    rcases hv with ⟨a, hv⟩ | ⟨a, hv⟩
    · rw [hv]
      rcases q with q | q
      · exact q.2
      · exact absurd a q.1
    · rw [hv]
      rcases q with q | q
      · exact absurd q.1 a
      · exact q.2
  · rintro ⟨e, q⟩
    subst e
    refine ⟨⟨⟨n0, n1⟩, ⟨b0, b1⟩, ?_⟩, rfl⟩
    rcases hv with ⟨a, hv⟩ | ⟨a, hv⟩
    · rw [hv] at q
      exact Or.inl ⟨a, q⟩
    · rw [hv] at q
      exact Or.inr ⟨a, q⟩
theorem wN_251 {f : Nat → Int → Int} {fw nd wd v b : Int} (hd : dM f) (n0 : 0 ≤ nd) (n1 : nd ≤ 251) (hv : (fw = 0 ∧ v = f 14 (nd * 8 + wd)) ∨ (¬ fw = 0 ∧ v = f 15 (nd * 8 + wd))) (b1 : b ≤ 255) (h : wN wd v b) : b ≤ 251 := by
  apply Classical.byContradiction
  intro z
  obtain ⟨e, q⟩ := h
  have e7 : wd = 7 := by omega
  subst e7
  rcases hv with ⟨-, hv⟩ | ⟨-, hv⟩
  · rw [hv, hd.1 nd (b % 32) n0 n1 (by omega) (by omega)] at q
    cases q
  · rw [hv, hd.2 nd (b % 32) n0 n1 (by omega) (by omega)] at q
    cases q
theorem wN_hn {f : Nat → Int → Int} {fw nd wd v : Int} (hd : dM f) (n0 : 0 ≤ nd) (n1 : nd ≤ 251) (hv : (fw = 0 ∧ v = f 14 (nd * 8 + wd)) ∨ (¬ fw = 0 ∧ v = f 15 (nd * 8 + wd))) : wd = 7 → ∀ k, 28 ≤ k → k < 32 → bitI v k = false := by
  intro e k k0 k1
  subst e
  rcases hv with ⟨-, hv⟩ | ⟨-, hv⟩
  · rw [hv]
    exact hd.1 nd k n0 n1 k0 k1
  · rw [hv]
    exact hd.2 nd k n0 n1 k0 k1
theorem nbO_w {f : Nat → Int → Int} {fw nd pt v a : Int} (f1 : fw ≤ 1) (n1 : nd ≤ 251) (hp : (nd < 224 ∧ pt = nd / 32) ∨ (224 ≤ nd ∧ pt = (nd - 224) % 7)) (hv : (v = 0 ∧ ¬ (224 ≤ nd ∧ ((fw = 0 ∧ (nd - 224) % 7 < 4) ∨ (fw = 1 ∧ 4 ≤ (nd - 224) % 7)))) ∨ (v = f 17 ((nd - 224) / 7) ∧ 224 ≤ nd ∧ ((fw = 0 ∧ (nd - 224) % 7 < 4) ∨ (fw = 1 ∧ 4 ≤ (nd - 224) % 7)))) (f0 : 0 ≤ fw) (a0 : 0 ≤ a) : wN pt v a ↔ nbO f fw nd a := by
  unfold wN nbO nC
  rcases hv with ⟨hv, hn⟩ | ⟨hv, hn, hm⟩
  · rw [hv, bit_0]
    refine ⟨fun q => (by cases q.2), fun q => ?_⟩
    obtain ⟨⟨⟨z, _⟩, _⟩, y, _⟩ := q
    exfalso
    omega
  · rw [hv]
    constructor
    · rintro ⟨e, q⟩
      exact ⟨⟨⟨hn, n1⟩, a0⟩, by omega, by omega, q⟩
    · rintro ⟨-, -, e, q⟩
      exact ⟨by omega, q⟩
theorem nbD_w {f : Nat → Int → Int} {fw nd v a : Int} (f0 : 0 ≤ fw) (f1 : fw ≤ 1) (n0 : 0 ≤ nd) (hv : (v = 0 ∧ ¬ (nd < 224 ∧ cLl f (nd % 32) ∧ ((fw = 0 ∧ 4 ≤ nd / 32) ∨ (fw = 1 ∧ nd / 32 < 4)))) ∨ ∃ k', v = (Int32.ofInt 1 <<< (Int32.ofInt k' &&& 31)).toInt ∧ k' = (f 2 (nd % 32) - 13) * 7 + nd / 32 ∧ (nd < 224 ∧ cLl f (nd % 32) ∧ ((fw = 0 ∧ 4 ≤ nd / 32) ∨ (fw = 1 ∧ nd / 32 < 4)))) (a0 : 0 ≤ a) : wN 7 v a ↔ nbD f fw nd a := by
  unfold wN nbD
  rcases hv with ⟨hv, hn⟩ | ⟨k', hv, hk, h1, h2, h3⟩
  · rw [hv, bit_0]
    refine ⟨fun q => (by cases q.2), fun q => absurd ⟨q.1.2, q.2.1, by have := q.2.2.1; omega⟩ hn⟩
  · have c := h2.2
    rw [hv, bitI_shl (by omega) (by omega) (by omega) (by omega), decide_eq_true_eq]
    constructor
    · rintro ⟨e, q⟩
      exact ⟨⟨n0, h1⟩, h2, by omega, by omega⟩
    · rintro ⟨-, -, -, q⟩
      omega
theorem nbD_hn {f : Nat → Int → Int} {fw nd v : Int} (n0 : 0 ≤ nd) (hv : (v = 0 ∧ ¬ (nd < 224 ∧ cLl f (nd % 32) ∧ ((fw = 0 ∧ 4 ≤ nd / 32) ∨ (fw = 1 ∧ nd / 32 < 4)))) ∨ ∃ k', v = (Int32.ofInt 1 <<< (Int32.ofInt k' &&& 31)).toInt ∧ k' = (f 2 (nd % 32) - 13) * 7 + nd / 32 ∧ (nd < 224 ∧ cLl f (nd % 32) ∧ ((fw = 0 ∧ 4 ≤ nd / 32) ∨ (fw = 1 ∧ nd / 32 < 4)))) : ∀ k, 28 ≤ k → k < 32 → bitI v k = false := by
  intro k k0 k1
  rcases hv with ⟨hv, -⟩ | ⟨k', hv, hk, h1, h2, -⟩
  · rw [hv]
    exact bit_0 k
  · have c := h2.2
    rw [hv, bitI_shl (by omega) (by omega) (by omega) (by omega)]
    have : ¬ k = k' := by omega
    simp [this]

set_option maxHeartbeats 8000000 in
set_option maxRecDepth 20000 in
theorem k64x {Z : sm_Z} (hZ : Z.2.2.2 = tb_N) (m : wk_M) (bt fw : Int) (hb : 0 ≤ bt ∧ bt ≤ 2) (hw : 0 ≤ fw ∧ fw ≤ 1) (h : qI m.1 ∧ qA m.1) (hd : dM m.1) : wC Z 3 64 [25, 26, 27] [.inr (.inl 25), .inl bt, .inl fw] m (fun r m' => r = none ∧ (qI m'.1 ∧ qA m'.1) ∧ ∀ a, 0 ≤ a → a ≤ 251 → (qF m'.1 a ↔ rs (nb m.1 bt fw) (qX m.1) nS a)) := by
  obtain ⟨J0, hJ0⟩ : ∃ J : Int →Int →Int → wk_M → Prop, ∀ ba fa dn m', J ba fa dn m' ↔ ((bt = ba ∧ fw = fa) ∧ (0 ≤ dn ∧ dn ≤ m'.1 25 (4 : Nat)) ∧ fo m.1 bt fw m'.1 dn) := ⟨_, fun _ _ _ _ => Iff.rfl⟩
  obtain ⟨J1, hJ1⟩ : ∃ J : Int →Int →Int →Int →Int → wk_M → Prop, ∀ ba fa dn nd wd m', J ba fa dn nd wd m' ↔ ((bt = ba ∧ fw = fa) ∧ ((0 ≤ dn ∧ dn < m'.1 25 (4 : Nat)) ∧ (0 ≤ nd ∧ nd ≤ 251) ∧ 0 ≤ wd ∧ wd ≤ 8) ∧ m'.1 27 dn = nd ∧ (∀ b, nbI m.1 fw nd b → b / 32 < wd → qF m'.1 b) ∧ fo m.1 bt fw m'.1 dn) := ⟨_, fun _ _ _ _ _ _ => Iff.rfl⟩
  refine wC.gen fun Q hQ => wk_E hZ (by exact rfl) [(2, [(3, 25), (1, 0), (1, 0), (1, 0), (0, 0), (0, 0)], fun vs _ m' => (match vs with
    | [ba, fa, dn] => J0 ba fa dn m'
    | _ => False), fun vs _ m' => (match vs with
    | [ba, fa, dn] => ((252 - dn) * 10 + 9 : Int).toNat
    | _ => 0)), (28, [(3, 25), (1, 0), (1, 0), (1, 0), (1, 0), (1, 0)], fun vs _ m' => (match vs with
    | [ba, fa, dn, nd, wd] => J1 ba fa dn nd wd m'
    | _ => False), fun vs _ m' => (match vs with
    | [ba, fa, dn, nd, wd] => ((252 - dn) * 10 + (8 - wd) : Int).toNat
    | _ => 0))] rfl (fun hr hs => ⟨?_, ⟨?_, trivial⟩⟩) (fun hr hs => ?_)
  · have e1 : ab_lo = -2147483648 := rfl
    have e2 : ab_hi = 2147483647 := rfl
    intro m2 hr2 hf2 ba bal bah fa fal fah dn dnl dnh hI
    have hI := (hJ0 _ _ _ _).mp hI
    obtain ⟨⟨rfl, rfl⟩, ⟨d0, d1⟩, hfo⟩ := hI
    have hle := qI_le hfo.1.1
    have hq1 := hfo.1.1.2.1 dn d0
    repeat' first | (intro h; exact absurd h (by decide)) | (intro h; exact absurd rfl h) | refine And.intro ?_ ?_ | intro _ | refine Or.inl ⟨by omega, by omega, ?_⟩ | refine Or.inr ?_ | exact trivial
    all_goals first
      | omega
      | (show ((252 - (_ : Int)) * 10 + 9 : Int).toNat < ((252 - (_ : Int)) * 10 + 9 : Int).toNat; omega)
      | exact hQ _ _ ⟨rfl, hfo.1, fo_fin hfo (by omega)⟩
      | (show J1 _ _ _ _ _ _; refine (hJ1 _ _ _ _ _ _).mpr ⟨⟨rfl, rfl⟩, ⟨⟨by omega, by omega⟩, ⟨by omega, by omega⟩, by omega, by omega⟩, rfl, fun b hb q => by have := hb.2.1.1; omega, hfo⟩)
      | (show (_ : Nat) < (_ : Nat); dsimp only; omega)
  · have e1 : ab_lo = -2147483648 := rfl
    have e2 : ab_hi = 2147483647 := rfl
    intro m2 hr2 hf2 ba bal bah fa fal fah dn dnl dnh nd ndl ndh wd wdl wdh hI
    have hI := (hJ1 _ _ _ _ _ _).mp hI
    obtain ⟨⟨rfl, rfl⟩, ⟨⟨d0, d1⟩, ⟨n0, n1⟩, w0, w1⟩, hdn, hnw, hfo⟩ := hI
    have hle := qI_le hfo.1.1
    have hd2 := dM_fr hf2 (by decide) (by decide) hd
    have hnq : qF m2.1 nd := by
      have q := (hfo.1.1.2.1 dn d0 d1).2
      rw [hdn] at q
      exact q
    have e14 : m2.1 14 = m.1 14 := (hf2 14 (by decide)).1
    have e15 : m2.1 15 = m.1 15 := (hf2 15 (by decide)).1
    have e17 : m2.1 17 = m.1 17 := (hf2 17 (by decide)).1
    have e2 : m2.1 2 = m.1 2 := (hf2 2 (by decide)).1
    have e1 : m2.1 1 = m.1 1 := (hf2 1 (by decide)).1
    repeat' first | (intro h; exact absurd h (by decide)) | (intro h; exact absurd rfl h) | refine And.intro ?_ ?_ | intro _ | refine Or.inl ⟨by omega, by omega, ?_⟩ | refine Or.inr ?_ | exact trivial | (refine wk_use (k65x hZ _ _ _ _ (by omega) (by omega) (by omega) (by omega)) rfl rfl ?_; rintro - _ _ - - - ⟨v, rfl, hm, hv⟩; refine Or.inl ⟨[], hm, ?_⟩; clear hm) | (refine wk_use (k66x hZ _ _ _ (by omega) (by omega) (wN_hn hd2 n0 n1 hv) hfo.1) rfl rfl ?_; rintro - _ _ - hfr - ⟨rfl, hq2⟩; refine Or.inr ?_) | (refine wk_use (k68x hZ _ _ (by omega) (by omega)) rfl rfl ?_; rintro - _ _ - - - ⟨_, rfl, hm, hv8⟩; refine Or.inl ⟨[], hm, ?_⟩; clear hm) | (refine wk_use (k69x hZ _ _ _ (by omega) (by omega) (by omega) (by omega)) rfl rfl ?_; rintro - _ _ - - - ⟨v, rfl, hm, hv⟩; refine Or.inl ⟨[], hm, ?_⟩; clear hm) | (refine wk_use (k72x hZ _ _ _ (by omega) (by omega) (by omega) (by omega)) rfl rfl ?_; rintro - _ _ - - - ⟨v, rfl, hm, hv⟩; refine Or.inl ⟨[], hm, ?_⟩; clear hm) | (refine wk_use (k66x hZ _ _ _ (by omega) (by omega) (fun e => by omega) hfo.1) rfl rfl ?_; rintro - _ _ - hfr - ⟨rfl, hq2⟩; refine Or.inr ?_) | (refine wk_use (k66x hZ _ _ _ (by omega) (by omega) (fun e k k0 k1 => nbD_hn n0 hv k k0 k1) hfo.1) rfl rfl ?_; rintro - _ _ - hfr - ⟨rfl, hq2⟩; refine Or.inr ?_)
    all_goals first
      | omega
      | (show ((252 - (_ : Int)) * 10 + (8 - (_ : Int)) : Int).toNat < ((252 - (_ : Int)) * 10 + (8 - (_ : Int)) : Int).toNat; omega)
      | (show J1 _ _ _ _ _ _; refine (hJ1 _ _ _ _ _ _).mpr ⟨⟨rfl, rfl⟩, ⟨⟨by omega, by have := hq2.2.1.1; omega⟩, ⟨by omega, by omega⟩, by omega, by omega⟩, (hq2.2.1.2 dn (by omega) (by omega)).trans hdn, (fun b hb hw => by by_cases e : b / 32 < wd; (exact (hq2.2.2 b hb.2.1.1 (by have := hb.2.1.2; omega)).mpr (Or.inl (hnw b hb e))); exact (hq2.2.2 b hb.2.1.1 (by have := hb.2.1.2; omega)).mpr (Or.inr ((nbI_w n0 n1 (by rw [← e14, ← e15]; exact hv) hb.2.1.1 hb.2.1.2).mp ⟨hb, by omega⟩))), fo_put hfo hq2 (fun a a0 a1 hA => ⟨nd, ⟨n0, n1, hnq⟩, Or.inl ((nbI_w n0 n1 (by rw [← e14, ← e15]; exact hv) a0 (wN_251 hd n0 n1 (by rw [← e14, ← e15]; exact hv) a1 hA)).mpr hA).1⟩) (by omega)⟩)
      | (show J0 _ _ _ _; refine (hJ0 _ _ _ _).mpr ⟨⟨rfl, rfl⟩, ⟨by omega, by have := hq2.2.1.1; omega⟩, fo_nx (fo_put hfo hq2 (fun a a0 a1 hA => ⟨nd, ⟨n0, n1, hnq⟩, Or.inr (Or.inl ⟨by omega, (nbO_w (by omega) n1 hv8 (by rw [← e17]; exact hv) (by omega) a0).mp hA⟩)⟩) (by omega)) (fun b hb => by rw [(hq2.2.1.2 dn (by omega) (by omega)).trans hdn] at hb; have r := nb_rg hb; refine (hq2.2.2 b r.1 (by omega)).mpr ?_; rcases hb with hb | ⟨z, hb⟩ | ⟨z, hb⟩; (exact Or.inl (hnw b hb (by omega))); (exact Or.inr ((nbO_w (by omega) n1 hv8 (by rw [← e17]; exact hv) (by omega) r.1).mpr hb)); (exfalso; omega))⟩)
      | (show J0 _ _ _ _; refine (hJ0 _ _ _ _).mpr ⟨⟨rfl, rfl⟩, ⟨by omega, by have := hq2.2.1.1; omega⟩, fo_nx (fo_put hfo hq2 (fun a a0 a1 hA => ⟨nd, ⟨n0, n1, hnq⟩, Or.inr (Or.inr ⟨by omega, (nbD_w (by omega) (by omega) n0 (by unfold cLl at hv ⊢; rw [e1, e2] at hv; exact hv) a0).mp hA⟩)⟩) (by omega)) (fun b hb => by rw [(hq2.2.1.2 dn (by omega) (by omega)).trans hdn] at hb; have r := nb_rg hb; refine (hq2.2.2 b r.1 (by omega)).mpr ?_; rcases hb with hb | ⟨z, hb⟩ | ⟨z, hb⟩; (exact Or.inl (hnw b hb (by omega))); (exfalso; omega); (exact Or.inr ((nbD_w (by omega) (by omega) n0 (by unfold cLl at hv ⊢; rw [e1, e2] at hv; exact hv) r.1).mpr hb)))⟩)
      | (show J0 _ _ _ _; refine (hJ0 _ _ _ _).mpr ⟨⟨rfl, rfl⟩, ⟨by omega, by omega⟩, fo_nx hfo (fun b hb => by rw [hdn] at hb; have r := nb_rg hb; rcases hb with hb | ⟨z, hb⟩ | ⟨z, hb⟩; (exact hnw b hb (by omega)); (exfalso; omega); (exfalso; omega))⟩)
      | (show (_ : Nat) < (_ : Nat); dsimp only; omega)
  · have e1 : ab_lo = -2147483648 := rfl
    have e2 : ab_hi = 2147483647 := rfl
    repeat' first | (intro h; exact absurd h (by decide)) | (intro h; exact absurd rfl h) | refine And.intro ?_ ?_ | intro _ | refine Or.inl ⟨by omega, by omega, ?_⟩ | refine Or.inr ?_ | exact trivial
    all_goals first
      | omega
      | trivial
      | (show J0 _ _ _ _; refine (hJ0 _ _ _ _).mpr ⟨⟨rfl, rfl⟩, ⟨by omega, by have := h.1.1; omega⟩, fo_0 h (by omega)⟩)
