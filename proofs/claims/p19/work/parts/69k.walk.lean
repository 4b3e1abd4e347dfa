/-! Walk, exactly -/
def qF (f : Nat → Int → Int) (a : Int) : Prop := bitI (f 26 (a / 32)) (a % 32) = true
def qA (f : Nat → Int → Int) : Prop := ∀ a, 0 ≤ a → a ≤ 255 → qF f a → ∃ k, (0 ≤ k ∧ k < f 25 (4 : Nat)) ∧ f 27 k = a
/-- the queue has only grown -/
def qG (f g : Nat → Int → Int) : Prop := f 25 (4 : Nat) ≤ g 25 (4 : Nat) ∧ ∀ k, 0 ≤ k → k < f 25 (4 : Nat) → g 27 k = f 27 k
/-- A was put -/
def qP (A : Int → Prop) (f g : Nat → Int → Int) : Prop := (qI g ∧ qA g) ∧ qG f g ∧ ∀ a, 0 ≤ a → a ≤ 255 → (qF g a ↔ qF f a ∨ A a)
theorem qG_tr {f g h : Nat → Int → Int} (h1 : qG f g) (h2 : qG g h) : qG f h := ⟨Int.le_trans h1.1 h2.1, fun k k0 k1 => (h2.2 k k0 (Int.lt_of_lt_of_le k1 h1.1)).trans (h1.2 k k0 k1)⟩
theorem qP_tr {A B : Int → Prop} {f g h : Nat → Int → Int} (h1 : qP A f g) (h2 : qP B g h) : qP (fun a => A a ∨ B a) f h := ⟨h2.1, qG_tr h1.2.1 h2.2.1, fun a a0 a1 => or3 (h1.2.2 a a0 a1) (h2.2.2 a a0 a1)⟩
theorem qP_if {A B : Int → Prop} {f g : Nat → Int → Int} (h1 : qP A f g) (h : ∀ a, 0 ≤ a → a ≤ 255 → (A a ↔ B a)) : qP B f g := ⟨h1.1, h1.2.1, fun a a0 a1 => by rw [← h a a0 a1]; exact h1.2.2 a a0 a1⟩
theorem qP_re {f : Nat → Int → Int} (h : qI f ∧ qA f) : qP (fun _ => False) f f := ⟨h, ⟨Int.le_refl _, fun _ _ _ => rfl⟩, fun _ _ _ => or_no id⟩
theorem qP_has {f : Nat → Int → Int} {x : Int} (h : qI f ∧ qA f) (hx : qF f x) : qP (fun a => a = x) f f := ⟨h, ⟨Int.le_refl _, fun _ _ _ => rfl⟩, fun a _ _ => ⟨Or.inl, fun q => q.elim id (fun e => by rw [e]; exact hx)⟩⟩
theorem int0 {u : Int32} (h : ∀ j : Int, 0 ≤ j → j < 32 → bitI u.toInt j = false) : u.toInt = 0 := by
  have e : u = 0 := by
    apply Int32.toBitVec_inj.mp
    apply BitVec.eq_of_getLsbD_eq
    intro i hi
    have q := h (i : Int) (by omega) (by omega)
    unfold bitI at q
    rw [bi_io, Int.toNat_natCast] at q
    rw [q]
    show false = (0#32).getLsbD i
    simp
  rw [e]
  decide
theorem bit_se {x b z k : Int} (k0 : 0 ≤ k) (k1 : k < 32) (eb : b = (Int32.ofInt 1 <<< (Int32.ofInt k &&& 31)).toInt) (ez : z = (Int32.ofInt x &&& Int32.ofInt b).toInt) (hz : ¬ z = 0) : bitI x k = true := by
  cases hx : bitI x k with
  | true => rfl
  | false =>
    exfalso
    apply hz
    rw [ez]
    refine int0 (fun j j0 j1 => ?_)
    rw [bitI_and, eb, bitI_shl k0 k1 j0 j1]
    by_cases e : j = k
    · rw [e, hx]
      rfl
    · simp [e]
theorem qP_put {m : wk_M} {x y b : Int} (h : qI m.1 ∧ qA m.1) (x0 : 0 ≤ x) (x1 : x ≤ 251) (hb : bitI (m.1 26 (x / 32)) (x % 32) = false) (eb : b = (Int32.ofInt 1 <<< (Int32.ofInt (x % 32) &&& 31)).toInt) (ey : y = (Int32.ofInt (m.1 26 (x / 32)) ||| Int32.ofInt b).toInt) : qP (fun a => a = x) m.1 (wk_u (wk_u (wk_u m 26 (x / 32) y) 27 (m.1 25 (4 : Nat)) x) 25 (4 : Nat) (m.1 25 (4 : Nat) + 1)).1 := by
  have hq := qI_put h.1 x0 x1 hb eb ey
  generalize hg : (wk_u (wk_u (wk_u m 26 (x / 32) y) 27 (m.1 25 (4 : Nat)) x) 25 (4 : Nat) (m.1 25 (4 : Nat) + 1)).1 = g at hq ⊢
  have g25 : g 25 (4 : Nat) = m.1 25 (4 : Nat) + 1 := by rw [← hg]; simp (decide := true) only [wk_u_at, wk_ul_1, and_self, and_true, true_and, and_false, false_and, if_true, if_false]
  have g27 : ∀ i, g 27 i = if i = m.1 25 (4 : Nat) then x else m.1 27 i := by intro i; rw [← hg]; simp (decide := true) only [wk_u_at, wk_ul_1, and_self, and_true, true_and, and_false, false_and, if_true, if_false]
  have g26 : ∀ i, g 26 i = if i = x / 32 then y else m.1 26 i := by intro i; rw [← hg]; simp (decide := true) only [wk_u_at, wk_ul_1, and_self, and_true, true_and, and_false, false_and, if_true, if_false]
  have hf : ∀ a, 0 ≤ a → a ≤ 255 → (qF g a ↔ qF m.1 a ∨ a = x) := by
    intro a a0 a1
    unfold qF
    rw [g26]
    by_cases e : a / 32 = x / 32
    · rw [if_pos e, ey, bitI_or, e, Bool.or_eq_true, eb, bitI_shl (by omega) (by omega) (by omega) (by omega), decide_eq_true_eq]
      constructor
      · rintro (q | q)
        · exact Or.inl q
        · exact Or.inr (by omega)
      · rintro (q | q)
        · exact Or.inl q
        · exact Or.inr (by omega)
    · rw [if_neg e]
      exact or_no (fun q => e (by rw [q]))
  have h0 := h.1.1
  refine ⟨⟨hq, fun a a0 a1 qa => ?_⟩, ⟨by omega, fun k k0 k1 => by rw [g27, if_neg (by omega)]⟩, hf⟩
  rcases (hf a a0 a1).mp qa with q | q
  · obtain ⟨k, ⟨k0, k1⟩, e⟩ := h.2 a a0 a1 q
    exact ⟨k, ⟨k0, by omega⟩, by rw [g27, if_neg (by omega)]; exact e⟩
  · exact ⟨m.1 25 (4 : Nat), ⟨h0, by omega⟩, by rw [g27, if_pos rfl]; exact q.symm⟩

set_option maxHeartbeats 8000000 in
set_option maxRecDepth 20000 in
theorem k63x {Z : sm_Z} (hZ : Z.2.2.2 = tb_N) (m : wk_M) (x : Int) (x0 : 0 ≤ x) (x1 : x ≤ 251) (h : qI m.1 ∧ qA m.1) : wC Z 1 63 [25, 26, 27] [.inr (.inl 25), .inl x] m (fun r m' => r = none ∧ qP (fun a => a = x) m.1 m'.1) := by
  refine wC.gen fun Q hQ => wk_E hZ (by exact rfl) [] rfl (fun _ _ => trivial) fun hr hs => ?_
  have e1 : ab_lo = -2147483648 := rfl
  have e2 : ab_hi = 2147483647 := rfl
  repeat' first | refine And.intro ?_ ?_ | intro _ | refine Or.inl ⟨by omega, by omega, ?_⟩ | refine Or.inr ?_ | exact trivial
  all_goals first
    | omega
    | (have hb : bitI (m.1 26 (x / 32)) (x % 32) = false := bit_un (by omega) (by omega) (by assumption) (by assumption) (by assumption)
       have := qI_room h.1 x0 x1 hb
       first | omega | exact hQ _ _ ⟨rfl, qP_put h x0 x1 hb (by assumption) (by assumption)⟩)
    | exact hQ _ _ ⟨rfl, qP_has h (bit_se (by omega) (by omega) (by assumption) (by assumption) (by assumption))⟩

/-- the nodes of a word -/
def wN (x n a : Int) : Prop := a / 32 = x ∧ bitI n (a % 32) = true
theorem bit_fr {n x a b k : Int} (k0 : 0 ≤ k) (k1 : k < 32) (ea : a = (Int32.ofInt x ^^^ Int32.ofInt (-1)).toInt) (eb : b = (Int32.ofInt n &&& Int32.ofInt a).toInt) : bitI b k = (bitI n k && !(bitI x k)) := by
  rw [eb, bitI_and, ea]
  have e : bitI (Int32.ofInt x ^^^ Int32.ofInt (-1)).toInt k = !(bitI x k) := by
    unfold bitI
    rw [bi_io]
    show ((Int32.ofInt x).toBitVec ^^^ (Int32.ofInt (-1)).toBitVec).getLsbD k.toNat = _
    have t : (Int32.ofInt (-1)).toBitVec = BitVec.allOnes 32 := by decide
    rw [t, BitVec.getLsbD_xor, BitVec.getLsbD_allOnes]
    have hk : k.toNat < 32 := by omega
    simp [hk]
  rw [e]
/-- all fresh ones were put: all of the word are there -/
theorem qP_w {f g : Nat → Int → Int} {x n fr b : Int} (hfr : ∀ k, 0 ≤ k → k < 32 → bitI fr k = (bitI n k && !(bitI (f 26 x) k))) (h : qP (fun a => a / 32 = x ∧ a % 32 < b ∧ bitI fr (a % 32) = true) f g) (hb : 32 ≤ b ∨ ∀ k, 0 ≤ k → k < 32 → bitI fr k = false) : qP (wN x n) f g := by
  refine ⟨h.1, h.2.1, fun a a0 a1 => ?_⟩
  rw [h.2.2 a a0 a1]
  have q := hfr (a % 32) (by omega) (by omega)
  constructor
  · rintro (z | ⟨z1, z2, z3⟩)
    · exact Or.inl z
    · refine Or.inr ⟨z1, ?_⟩
      rw [z3] at q
      cases hn : bitI n (a % 32) with
      | true => rfl
      | false => rw [hn] at q; simp at q
  · rintro (z | ⟨z1, z2⟩)
    · exact Or.inl z
    · by_cases hf : qF f a
      · exact Or.inl hf
      · have hf' : bitI (f 26 x) (a % 32) = false := by
          unfold qF at hf
          rw [z1] at hf
          cases hc : bitI (f 26 x) (a % 32) with
          | true => exact absurd hc hf
          | false => rfl
        rw [z2, hf'] at q
        refine Or.inr ⟨z1, ?_, q⟩
        rcases hb with hb | hb
        · omega
        · rw [hb (a % 32) (by omega) (by omega)] at q
          cases q
theorem qP_wb {f g h : Nat → Int → Int} {x fr b : Int} (h1 : qP (fun a => a / 32 = x ∧ a % 32 < b ∧ bitI fr (a % 32) = true) f g) (b0 : 0 ≤ b) (b1 : b < 32) (x0 : 0 ≤ x) (h2 : qP (fun a => a = x * 32 + b) g h) (hb : bitI fr b = true) : qP (fun a => a / 32 = x ∧ a % 32 < b + 1 ∧ bitI fr (a % 32) = true) f h := by
  refine qP_if (qP_tr h1 h2) (fun a a0 a1 => ?_)
  constructor
  · rintro (⟨z1, z2, z3⟩ | z)
    · exact ⟨z1, by omega, z3⟩
    · have e : a % 32 = b := by omega
      exact ⟨by omega, by omega, by rw [e]; exact hb⟩
  · rintro ⟨z1, z2, z3⟩
    by_cases e : a % 32 = b
    · exact Or.inr (by omega)
    · exact Or.inl ⟨z1, by omega, z3⟩
theorem qP_wn {f g : Nat → Int → Int} {x fr b : Int} (h1 : qP (fun a => a / 32 = x ∧ a % 32 < b ∧ bitI fr (a % 32) = true) f g) (hb : bitI fr b = false) : qP (fun a => a / 32 = x ∧ a % 32 < b + 1 ∧ bitI fr (a % 32) = true) f g := by
  refine qP_if h1 (fun a a0 a1 => ⟨fun z => ⟨z.1, by omega, z.2.2⟩, fun z => ⟨z.1, ?_, z.2.2⟩⟩)
  by_cases e : a % 32 = b
  · have := z.2.2
    rw [e, hb] at this
    cases this
  · omega
theorem qP_w0 {f : Nat → Int → Int} {x fr b : Int} (h : qI f ∧ qA f) (hb : b ≤ 0) : qP (fun a => a / 32 = x ∧ a % 32 < b ∧ bitI fr (a % 32) = true) f f := qP_if (qP_re h) (fun a a0 a1 => ⟨fun z => z.elim, fun z => by omega⟩)
theorem bit_all0 {z : Int} (h : z = 0) : ∀ k, 0 ≤ k → k < 32 → bitI z k = false := fun k _ _ => by rw [h]; exact bit_0 k

set_option maxHeartbeats 8000000 in
set_option maxRecDepth 20000 in
theorem k66x {Z : sm_Z} (hZ : Z.2.2.2 = tb_N) (m : wk_M) (x n : Int) (x0 : 0 ≤ x) (x1 : x ≤ 7) (hn : x = 7 → ∀ k, 28 ≤ k → k < 32 → bitI n k = false) (h : qI m.1 ∧ qA m.1) : wC Z 2 66 [25, 26, 27] [.inr (.inl 25), .inl x, .inl n] m (fun r m' => r = none ∧ qP (wN x n) m.1 m'.1) := by
  obtain ⟨J0, hJ0⟩ : ∃ J : Int →Int →Int → wk_M → Prop, ∀ w f b m', J w f b m' ↔ (x = w ∧ (0 ≤ b ∧ b ≤ 32) ∧ (∀ k, 0 ≤ k → k < 32 → bitI f k = (bitI n k && !(bitI (m.1 26 x) k))) ∧ qP (fun a => a / 32 = x ∧ a % 32 < b ∧ bitI f (a % 32) = true) m.1 m'.1) := ⟨_, fun _ _ _ _ => Iff.rfl⟩
  refine wC.gen fun Q hQ => wk_E hZ (by exact rfl) [(14, [(3, 25), (1, 0), (0, 0), (1, 0), (1, 0)], fun vs _ m' => (match vs with
    | [w, f, b] => J0 w f b m'
    | _ => False), fun vs _ m' => (match vs with
    | [w, f, b] => (32 - b : Int).toNat
    | _ => 0))] rfl (fun hr hs => ⟨?_, trivial⟩) (fun hr hs => ?_)
  · have e1 : ab_lo = -2147483648 := rfl
    have e2 : ab_hi = 2147483647 := rfl
    intro m2 hr2 hf2 w wl wh f fl fh b bl bh hI
    have hI := (hJ0 _ _ _ _).mp hI
    obtain ⟨rfl, ⟨b0, b1⟩, hf, hq⟩ := hI
    repeat' first | (intro h; exact absurd h (by decide)) | (intro h; exact absurd rfl h) | refine And.intro ?_ ?_ | intro _ | refine Or.inl ⟨by omega, by omega, ?_⟩ | refine Or.inr ?_ | exact trivial | (refine wk_use (k67b hZ _ _ _ (by omega) (by omega)) rfl rfl ?_; rintro - _ _ - - - ⟨_, rfl, hm, ⟨rfl, hb⟩ | ⟨rfl, hb⟩⟩ <;> refine Or.inl ⟨[], hm, ?_⟩ <;> clear hm) | (refine wk_use (k63x hZ _ _ (by omega) (by by_cases e : x = 7 <;> by_cases e2 : 28 ≤ b <;> first | omega | (have q := hn e b e2 (by omega); have q2 := hf b b0 (by omega); rw [hb, q] at q2; simp at q2)) hq.1) rfl rfl ?_; rintro - _ _ - hfr - ⟨rfl, hq2⟩; refine Or.inr ?_)
    all_goals first
      | omega
      | (show (32 - (_ : Int) : Int).toNat < (32 - (_ : Int) : Int).toNat; omega)
      | exact hQ _ _ ⟨rfl, qP_w hf hq (Or.inl (by omega))⟩
      | exact hQ _ _ ⟨rfl, qP_w hf hq (Or.inr (bit_all0 (by omega)))⟩
      | (show J0 _ _ _ _; refine (hJ0 _ _ _ _).mpr ⟨rfl, ⟨by omega, by omega⟩, hf, qP_wb hq b0 (by omega) x0 hq2 hb⟩)
      | (show J0 _ _ _ _; refine (hJ0 _ _ _ _).mpr ⟨rfl, ⟨by omega, by omega⟩, hf, qP_wn hq hb⟩)
  · have e1 : ab_lo = -2147483648 := rfl
    have e2 : ab_hi = 2147483647 := rfl
    repeat' first | (intro h; exact absurd h (by decide)) | (intro h; exact absurd rfl h) | refine And.intro ?_ ?_ | intro _ | refine Or.inl ⟨by omega, by omega, ?_⟩ | refine Or.inr ?_ | exact trivial
    all_goals first
      | omega
      | trivial
      | (show J0 _ _ _ _; refine (hJ0 _ _ _ _).mpr ⟨rfl, ⟨by omega, by omega⟩, fun k k0 k1 => bit_fr k0 k1 (by assumption) (by assumption), qP_w0 h (by omega)⟩)

theorem qz_f {f : Nat → Int → Int} (h : ∀ i : Int, 0 ≤ i → i < ((8 : Nat) : Int) → f 26 i = 0) {a : Int} (a0 : 0 ≤ a) (a1 : a ≤ 255) : ¬ qF f a := by
  unfold qF
  rw [h (a / 32) (by omega) (by omega), bit_0]
  exact fun z => by cases z
theorem qz_0 {f : Nat → Int → Int} (h0 : f 25 (4 : Nat) = 0) (h : ∀ i : Int, 0 ≤ i → i < ((8 : Nat) : Int) → f 26 i = 0) : qI f ∧ qA f := ⟨qI_zero h0, fun a a0 a1 q => absurd q (qz_f h a0 a1)⟩
theorem qz_n {f : Nat → Int → Int} {x : Int} (h : ∀ i : Int, 0 ≤ i → i < ((8 : Nat) : Int) → f 26 i = 0) {a : Int} (a0 : 0 ≤ a) (a1 : a ≤ 255) : (qF f a ∨ a = x) ↔ a = x := ⟨fun q => q.elim (fun q => absurd q (qz_f h a0 a1)) id, Or.inr⟩

set_option maxHeartbeats 8000000 in
set_option maxRecDepth 20000 in
theorem k62x {Z : sm_Z} (hZ : Z.2.2.2 = tb_N) (m : wk_M) (x : Int) (x0 : 0 ≤ x) (x1 : x ≤ 251) : wC Z 2 62 [25, 26, 27] [.inr (.inl 25), .inl x] m (fun r m' => r = none ∧ (qI m'.1 ∧ qA m'.1) ∧ ∀ a, 0 ≤ a → a ≤ 255 → (qF m'.1 a ↔ a = x)) := by
  refine wC.gen fun Q hQ => wk_E hZ (by exact rfl) [] rfl (fun _ _ => trivial) fun hr hs => ?_
  have e1 : ab_lo = -2147483648 := rfl
  have e2 : ab_hi = 2147483647 := rfl
  repeat' first | refine And.intro ?_ ?_ | intro _ | refine Or.inl ⟨by omega, by omega, ?_⟩ | refine Or.inr ?_ | exact trivial | (refine wk_use (wfI 26 8 0 _ rfl rfl (by decide) (by decide)) rfl rfl ?_; rintro - _ _ - hfr - ⟨rfl, hz⟩; refine Or.inr ?_) | (refine wk_use (k63x hZ _ _ x0 x1 (qz_0 (by simp (decide := true) only [wk_u_at, wk_ul_1, and_self, and_true, true_and, and_false, false_and, if_true, if_false]) (fun i i0 i1 => by simp (decide := true) only [wk_u_at, wk_ul_1, and_self, and_true, true_and, and_false, false_and, if_true, if_false]; exact hz i i0 i1))) rfl rfl ?_; rintro - _ _ - hfr - ⟨rfl, hq⟩; refine Or.inr ?_)
  all_goals first | omega | exact hQ _ _ ⟨rfl, hq.1, fun a a0 a1 => (hq.2.2 a a0 a1).trans (qz_n (fun i i0 i1 => by simp (decide := true) only [wk_u_at, wk_ul_1, and_self, and_true, true_and, and_false, false_and, if_true, if_false]; exact hz i i0 i1) a0 a1)⟩

