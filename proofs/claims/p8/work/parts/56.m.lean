/-! Dependences: join; Walk: follow, begin, the summaries -/
def dR (f : Int → Int) : Prop := ∀ n k, 0 ≤ n → n ≤ 251 → 28 ≤ k → k < 32 → bitI (f (n * 8 + 7)) k = false
theorem dR_put {f g : Int → Int} {x y b z : Int} (h : dR f) (y0 : 0 ≤ y) (y1 : y ≤ 251) (eb : b = (Int32.ofInt 1 <<< (Int32.ofInt (y % 32) &&& 31)).toInt) (ez : z = (Int32.ofInt (f (x * 8 + y / 32)) ||| Int32.ofInt b).toInt) (hg : ∀ i, g i = if i = x * 8 + y / 32 then z else f i) : dR g := by
  intro n k n0 n1 k0 k1
  rw [hg]
  split
  · rename_i e
    have e7 : y / 32 = 7 := by omega
    have hk : ¬ k = y % 32 := by omega
    rw [ez, bitI_or, ← e, h n k n0 n1 k0 k1, eb, bitI_shl (by omega) (by omega) (by omega) (by omega)]
    simp [hk]
  · exact h n k n0 n1 k0 k1
def dM (f : Nat → Int → Int) : Prop := dR (f 14) ∧ dR (f 15)
theorem dM_fr {W : List Nat} {m' m : wk_M} (h : wk_fr W m' m) (h14 : 14 ∉ W) (h15 : 15 ∉ W) (hd : dM m.1) : dM m'.1 := by
  unfold dM
  rw [(h 14 h14).1, (h 15 h15).1]
  exact hd

set_option maxRecDepth 20000 in
theorem k49 {Z : sm_Z} (hZ : Z.2.2.2 = tb_N) (m : wk_M) (x y : Int) (x0 : 0 ≤ x) (x1 : x ≤ 251) (y0 : 0 ≤ y) (y1 : y ≤ 251) (h : dM m.1) : wC Z 1 49 [14, 15] [.inr (.inl 13), .inl x, .inl y] m (fun r m' => r = none ∧ dM m'.1) := by
  refine wC.gen fun Q hQ => wk_E hZ (by exact rfl) [] rfl (fun _ _ => trivial) fun hr hs => ?_
  have e1 : ab_lo = -2147483648 := rfl
  have e2 : ab_hi = 2147483647 := rfl
  repeat' first | refine And.intro ?_ ?_ | intro _ | refine Or.inl ⟨by omega, by omega, ?_⟩ | refine Or.inr ?_ | exact trivial
  all_goals first
    | omega
    | exact hQ _ _ ⟨rfl, dR_put (x := x) (f := m.1 14) h.1 y0 y1 (by assumption) (by assumption) (fun i => by simp (decide := true) only [wk_u_at, wk_ul_1, and_self, and_true, true_and, and_false, false_and, if_true, if_false]), dR_put (x := y) (f := m.1 15) h.2 x0 x1 (by assumption) (by assumption) (fun i => by simp (decide := true) only [wk_u_at, wk_ul_1, and_self, and_true, true_and, and_false, false_and, if_true, if_false])⟩

set_option maxRecDepth 20000 in
theorem k47 {Z : sm_Z} (hZ : Z.2.2.2 = tb_N) (m : wk_M) (p t : Int) (p0 : 0 ≤ p) (p1 : p ≤ 3) (t0 : 0 ≤ t) (t1 : t ≤ 6) : wC Z 1 47 [] [.inl p, .inl t] m (fun r m' => ∃ v : Int, r = some (.inl v) ∧ m' = m ∧ v = 224 + p * 7 + t) := by
  refine wC.gen fun Q hQ => wk_E hZ (by exact rfl) [] rfl (fun _ _ => trivial) fun hr hs => ?_
  have e1 : ab_lo = -2147483648 := rfl
  have e2 : ab_hi = 2147483647 := rfl
  repeat' first | refine And.intro ?_ ?_ | intro _ | refine Or.inl ⟨by omega, by omega, ?_⟩ | refine Or.inr ?_ | exact trivial
  all_goals first | omega | exact hQ _ _ ⟨_, rfl, rfl, by omega⟩

set_option maxRecDepth 20000 in
theorem k50 {Z : sm_Z} (hZ : Z.2.2.2 = tb_N) (m : wk_M) (p t : Int) (p0 : 0 ≤ p) (p1 : p ≤ 31) (t0 : 0 ≤ t) (t1 : t ≤ 6) : wC Z 1 50 [] [.inl p, .inl t] m (fun r m' => ∃ v : Int, r = some (.inl v) ∧ m' = m ∧ v = t * 32 + p) := by
  refine wC.gen fun Q hQ => wk_E hZ (by exact rfl) [] rfl (fun _ _ => trivial) fun hr hs => ?_
  have e1 : ab_lo = -2147483648 := rfl
  have e2 : ab_hi = 2147483647 := rfl
  repeat' first | refine And.intro ?_ ?_ | intro _ | refine Or.inl ⟨by omega, by omega, ?_⟩ | refine Or.inr ?_ | exact trivial
  all_goals first | omega | exact hQ _ _ ⟨_, rfl, rfl, by omega⟩

set_option maxRecDepth 20000 in
theorem k68 {Z : sm_Z} (hZ : Z.2.2.2 = tb_N) (m : wk_M) (x : Int) (x0 : 0 ≤ x) (x1 : x ≤ 251) : wC Z 1 68 [] [.inl x] m (fun r m' => ∃ v : Int, r = some (.inl v) ∧ m' = m ∧ (0 ≤ v ∧ v ≤ 6)) := by
  refine wC.gen fun Q hQ => wk_E hZ (by exact rfl) [] rfl (fun _ _ => trivial) fun hr hs => ?_
  have e1 : ab_lo = -2147483648 := rfl
  have e2 : ab_hi = 2147483647 := rfl
  repeat' first | refine And.intro ?_ ?_ | intro _ | refine Or.inl ⟨by omega, by omega, ?_⟩ | refine Or.inr ?_ | exact trivial
  all_goals first | omega | exact hQ _ _ ⟨_, rfl, rfl, by omega⟩

set_option maxRecDepth 20000 in
theorem k70 {Z : sm_Z} (hZ : Z.2.2.2 = tb_N) (m : wk_M) (x : Int) : wC Z 1 70 [] [.inl x] m (fun r m' => ∃ v : Int, r = some (.inl v) ∧ m' = m ∧ (0 ≤ v ∧ v ≤ 1)) := by
  refine wC.gen fun Q hQ => wk_E hZ (by exact rfl) [] rfl (fun _ _ => trivial) fun hr hs => ?_
  have e1 : ab_lo = -2147483648 := rfl
  have e2 : ab_hi = 2147483647 := rfl
  repeat' first | refine And.intro ?_ ?_ | intro _ | refine Or.inl ⟨by omega, by omega, ?_⟩ | refine Or.inr ?_ | exact trivial
  all_goals first | omega | exact hQ _ _ ⟨_, rfl, rfl, by omega⟩

set_option maxRecDepth 20000 in
theorem k71 {Z : sm_Z} (hZ : Z.2.2.2 = tb_N) (m : wk_M) (x : Int) (x0 : 0 ≤ x) (x1 : x ≤ 3) : wC Z 1 71 [] [.inr (.inl 13), .inl x] m (fun r m' => ∃ v : Int, r = some (.inl v) ∧ m' = m ∧ v = m.1 17 x) := by
  refine wC.gen fun Q hQ => wk_E hZ (by exact rfl) [] rfl (fun _ _ => trivial) fun hr hs => ?_
  have e1 : ab_lo = -2147483648 := rfl
  have e2 : ab_hi = 2147483647 := rfl
  repeat' first | refine And.intro ?_ ?_ | intro _ | refine Or.inl ⟨by omega, by omega, ?_⟩ | refine Or.inr ?_ | exact trivial
  all_goals first | omega | exact hQ _ _ ⟨_, rfl, rfl, by omega⟩

set_option maxRecDepth 20000 in
theorem k65 {Z : sm_Z} (hZ : Z.2.2.2 = tb_N) (m : wk_M) (x y b : Int) (x0 : 0 ≤ x) (x1 : x ≤ 251) (y0 : 0 ≤ y) (y1 : y ≤ 7) : wC Z 1 65 [] [.inr (.inl 13), .inl x, .inl y, .inl b] m (fun r m' => ∃ v : Int, r = some (.inl v) ∧ m' = m ∧ (v = m.1 14 (x * 8 + y) ∨ v = m.1 15 (x * 8 + y))) := by
  refine wC.gen fun Q hQ => wk_E hZ (by exact rfl) [] rfl (fun _ _ => trivial) fun hr hs => ?_
  have e1 : ab_lo = -2147483648 := rfl
  have e2 : ab_hi = 2147483647 := rfl
  repeat' first | refine And.intro ?_ ?_ | intro _ | refine Or.inl ⟨by omega, by omega, ?_⟩ | refine Or.inr ?_ | exact trivial
  all_goals first | omega | exact hQ _ _ ⟨_, rfl, rfl, by omega⟩

set_option maxRecDepth 20000 in
theorem k69 {Z : sm_Z} (hZ : Z.2.2.2 = tb_N) (m : wk_M) (x b : Int) (x0 : 0 ≤ x) (x1 : x ≤ 251) : wC Z 2 69 [] [.inr (.inl 25), .inl x, .inl b] m (fun r m' => ∃ v : Int, r = some (.inl v) ∧ m' = m) := by
  refine wC.gen fun Q hQ => wk_E hZ (by exact rfl) [] rfl (fun _ _ => trivial) fun hr hs => ?_
  have e1 : ab_lo = -2147483648 := rfl
  have e2 : ab_hi = 2147483647 := rfl
  repeat' first | refine And.intro ?_ ?_ | intro _ | refine Or.inl ⟨by omega, by omega, ?_⟩ | refine Or.inr ?_ | exact trivial | (refine wk_use (k68 hZ _ _ (by omega) (by omega)) rfl rfl ?_; rintro - _ _ - - - ⟨_, rfl, rfl, _⟩; refine Or.inl ⟨[], rfl, ?_⟩) | (refine wk_use (k70 hZ _ _) rfl rfl ?_; rintro - _ _ - - - ⟨_, rfl, rfl, _⟩; refine Or.inl ⟨[], rfl, ?_⟩) | (refine wk_use (k71 hZ _ _ (by omega) (by omega)) rfl rfl ?_; rintro - _ _ - - - ⟨_, rfl, rfl, _⟩; refine Or.inl ⟨[], rfl, ?_⟩)
  all_goals first | omega | exact hQ _ _ ⟨_, rfl, rfl⟩

theorem bit_side {z k' k : Int} (ez : z = (Int32.ofInt 1 <<< (Int32.ofInt k' &&& 31)).toInt) (h0 : 0 ≤ k') (h1 : k' ≤ 27) (k0 : 28 ≤ k) (k1 : k < 32) : bitI z k = false := by
  rw [ez, bitI_shl h0 (by omega) (by omega) (by omega)]
  have : ¬ k = k' := by omega
  simp [this]
theorem bit_zero {k : Int} : bitI 0 k = false := bitI_eq0 (by decide) k

set_option maxRecDepth 20000 in
theorem k72 {Z : sm_Z} (hZ : Z.2.2.2 = tb_N) (m : wk_M) (x b : Int) (x0 : 0 ≤ x) (x1 : x ≤ 251) : wC Z 2 72 [] [.inr (.inl 25), .inl x, .inl b] m (fun r m' => ∃ v : Int, r = some (.inl v) ∧ m' = m ∧ ∀ k, 28 ≤ k → k < 32 → bitI v k = false) := by
  refine wC.gen fun Q hQ => wk_E hZ (by exact rfl) [] rfl (fun _ _ => trivial) fun hr hs => ?_
  have e1 : ab_lo = -2147483648 := rfl
  have e2 : ab_hi = 2147483647 := rfl
  repeat' first | (intro h; exact absurd h (by decide)) | (intro h; exact absurd rfl h) | refine And.intro ?_ ?_ | intro _ | refine Or.inl ⟨by omega, by omega, ?_⟩ | refine Or.inr ?_ | exact trivial | (refine wk_use (k68 hZ _ _ (by omega) (by omega)) rfl rfl ?_; rintro - _ _ - - - ⟨_, rfl, rfl, _, _⟩; refine Or.inl ⟨[], rfl, ?_⟩) | (refine wk_use (k70 hZ _ _) rfl rfl ?_; rintro - _ _ - - - ⟨_, rfl, rfl, _⟩; refine Or.inl ⟨[], rfl, ?_⟩) | (refine wk_use (k33 hZ _ _) rfl rfl ?_; rintro - _ _ - - - ⟨_, rfl, rfl, ⟨rfl, _⟩ | ⟨rfl, _⟩⟩; refine Or.inl ⟨[], rfl, ?_⟩) | (refine wk_use (k34 hZ _ _ (by omega) (by omega)) rfl rfl ?_; rintro - _ _ - - - ⟨_, rfl, rfl, _⟩; refine Or.inl ⟨[], rfl, ?_⟩)
  all_goals first | omega | exact hQ _ _ ⟨_, rfl, rfl, fun k k0 k1 => bit_zero⟩ | exact hQ _ _ ⟨_, rfl, rfl, fun k k0 k1 => bit_side (by assumption) (by omega) (by omega) k0 k1⟩

set_option maxRecDepth 20000 in
theorem k64 {Z : sm_Z} (hZ : Z.2.2.2 = tb_N) (m : wk_M) (b g : Int) (hb : 0 ≤ b ∧ b ≤ 2) (h : qI m.1) (hd : dM m.1) : wC Z 3 64 [25, 26, 27] [.inr (.inl 25), .inl b, .inl g] m (fun r m' => r = none ∧ qI m'.1) := by
  obtain ⟨J0, hJ0⟩ : ∃ J : Int →Int →Int → wk_M → Prop, ∀ bt fw dn m', J bt fw dn m' ↔ ((0 ≤ bt ∧ bt ≤ 2) ∧ 0 ≤ dn ∧ qI m'.1) := ⟨_, fun _ _ _ _ => Iff.rfl⟩
  obtain ⟨J1, hJ1⟩ : ∃ J : Int →Int →Int →Int →Int → wk_M → Prop, ∀ bt fw dn nd wd m', J bt fw dn nd wd m' ↔ (((0 ≤ bt ∧ bt ≤ 2) ∧ (0 ≤ dn ∧ dn < 252) ∧ (0 ≤ nd ∧ nd ≤ 251) ∧ 0 ≤ wd ∧ wd ≤ 8) ∧ qI m'.1) := ⟨_, fun _ _ _ _ _ _ => Iff.rfl⟩
  refine wC.gen fun Q hQ => wk_E hZ (by exact rfl) [(2, [(3, 25), (1, 0), (1, 0), (1, 0), (0, 0), (0, 0)], fun vs _ m' => (match vs with
    | [bt, fw, dn] => J0 bt fw dn m'
    | _ => False), fun vs _ m' => (match vs with
    | [bt, fw, dn] => ((252 - dn) * 10 + 9 : Int).toNat
    | _ => 0)), (28, [(3, 25), (1, 0), (1, 0), (1, 0), (1, 0), (1, 0)], fun vs _ m' => (match vs with
    | [bt, fw, dn, nd, wd] => J1 bt fw dn nd wd m'
    | _ => False), fun vs _ m' => (match vs with
    | [bt, fw, dn, nd, wd] => ((252 - dn) * 10 + (8 - wd) : Int).toNat
    | _ => 0))] rfl (fun hr hs => ⟨?_, ⟨?_, trivial⟩⟩) (fun hr hs => ?_)
  · have e1 : ab_lo = -2147483648 := rfl
    have e2 : ab_hi = 2147483647 := rfl
    intro m2 hr2 hf2 bt btl bth fw fwl fwh dn dnl dnh hI
    have hI := (hJ0 _ _ _ _).mp hI
    obtain ⟨b0, d0, hq⟩ := hI
    have hle := qI_le hq
    have hq1 := hq.2.1 dn d0
    repeat' first | (intro h; exact absurd h (by decide)) | (intro h; exact absurd rfl h) | refine And.intro ?_ ?_ | intro _ | refine Or.inl ⟨by omega, by omega, ?_⟩ | refine Or.inr ?_ | exact trivial
    all_goals first
      | omega
      | (show ((252 - (_ : Int)) * 10 + 9 : Int).toNat < ((252 - (_ : Int)) * 10 + 9 : Int).toNat; omega)
      | exact hQ _ _ ⟨rfl, hq⟩
      | (show J1 _ _ _ _ _ _; refine (hJ1 _ _ _ _ _ _).mpr ⟨⟨b0, ⟨by omega, by omega⟩, ⟨by omega, by omega⟩, by omega, by omega⟩, hq⟩)
      | (show (_ : Nat) < (_ : Nat); dsimp only; omega)
  · have e1 : ab_lo = -2147483648 := rfl
    have e2 : ab_hi = 2147483647 := rfl
    intro m2 hr2 hf2 bt btl bth fw fwl fwh dn dnl dnh nd ndl ndh wd wdl wdh hI
    have hI := (hJ1 _ _ _ _ _ _).mp hI
    obtain ⟨⟨b0, d0, n0, w0, w1⟩, hq⟩ := hI
    have hd2 := dM_fr hf2 (by decide) (by decide) hd
    repeat' first | (intro h; exact absurd h (by decide)) | (intro h; exact absurd rfl h) | refine And.intro ?_ ?_ | intro _ | refine Or.inl ⟨by omega, by omega, ?_⟩ | refine Or.inr ?_ | exact trivial | (refine wk_use (k65 hZ _ _ _ _ (by omega) (by omega) (by omega) (by omega)) rfl rfl ?_; rintro - _ _ - - - ⟨v, rfl, rfl, hv⟩; refine Or.inl ⟨[], rfl, ?_⟩) | (refine wk_use (k66 hZ _ _ _ (by omega) (by omega) (fun e k k0 k1 => by subst e; rcases hv with hv | hv <;> rw [hv]; exact hd2.1 _ _ (by omega) (by omega) k0 k1; exact hd2.2 _ _ (by omega) (by omega) k0 k1) hq) rfl rfl ?_; rintro - _ _ - hfr - ⟨rfl, hq2⟩; refine Or.inr ?_) | (refine wk_use (k68 hZ _ _ (by omega) (by omega)) rfl rfl ?_; rintro - _ _ - - - ⟨_, rfl, rfl, _, _⟩; refine Or.inl ⟨[], rfl, ?_⟩) | (refine wk_use (k69 hZ _ _ _ (by omega) (by omega)) rfl rfl ?_; rintro - _ _ - - - ⟨_, rfl, rfl⟩; refine Or.inl ⟨[], rfl, ?_⟩) | (refine wk_use (k72 hZ _ _ _ (by omega) (by omega)) rfl rfl ?_; rintro - _ _ - - - ⟨v, rfl, rfl, hs⟩; refine Or.inl ⟨[], rfl, ?_⟩) | (refine wk_use (k66 hZ _ _ _ (by omega) (by omega) (fun e => by omega) hq) rfl rfl ?_; rintro - _ _ - hfr - ⟨rfl, hq2⟩; refine Or.inr ?_) | (refine wk_use (k66 hZ _ _ _ (by omega) (by omega) (fun e k k0 k1 => hs k k0 k1) hq) rfl rfl ?_; rintro - _ _ - hfr - ⟨rfl, hq2⟩; refine Or.inr ?_)
    all_goals first
      | omega
      | (show ((252 - (_ : Int)) * 10 + (8 - (_ : Int)) : Int).toNat < ((252 - (_ : Int)) * 10 + (8 - (_ : Int)) : Int).toNat; omega)
      | (show J0 _ _ _ _; refine (hJ0 _ _ _ _).mpr ⟨b0, by omega, hq2⟩)
      | (show J0 _ _ _ _; refine (hJ0 _ _ _ _).mpr ⟨b0, by omega, hq⟩)
      | (show J1 _ _ _ _ _ _; refine (hJ1 _ _ _ _ _ _).mpr ⟨⟨b0, ⟨by omega, by omega⟩, ⟨by omega, by omega⟩, by omega, by omega⟩, hq2⟩)
      | (show (_ : Nat) < (_ : Nat); dsimp only; omega)
  · have e1 : ab_lo = -2147483648 := rfl
    have e2 : ab_hi = 2147483647 := rfl
    repeat' first | (intro h; exact absurd h (by decide)) | (intro h; exact absurd rfl h) | refine And.intro ?_ ?_ | intro _ | refine Or.inl ⟨by omega, by omega, ?_⟩ | refine Or.inr ?_ | exact trivial
    all_goals first
      | omega
      | trivial
      | (show J0 _ _ _ _; refine (hJ0 _ _ _ _).mpr ⟨hb, by omega, h⟩)
