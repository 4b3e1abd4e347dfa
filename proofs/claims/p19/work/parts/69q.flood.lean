/-! touches, flood -/
theorem lg_e {x y : Int64} {c : Int} (e : c = (lg_cmp x y).toInt) : c = 0 ↔ x = y := by
  rw [e]
  exact lg_cmp0 _ _
theorem lg_y {y : Int64} {c : Int} (e : c = (lg_cmp y (Int64.ofNat 0)).toInt) : c = 0 ↔ y = Int64.ofNat 0 := by
  rw [e]
  exact lg_cmp0 _ _
theorem lg_ne0 {y : Int64} (h : ¬ y = Int64.ofNat 0) : ∃ j : Nat, j < 64 ∧ fX y (j : Int) := by
  obtain ⟨j, j1, -, hy⟩ := bitL_ne (x := Int64.ofNat 0) h (fun j _ q => by
    have : bitL 0 (j : Int) = true := q
    rw [bitL_zero] at this
    cases this)
  exact ⟨j, j1, hy, by omega, by omega⟩
def tcA (l : Nat → Int → Int64) (P Q : Nat) (n k j : Int) : Prop := ∃ x, (0 ≤ x ∧ x < k) ∧ (fX (l P (4 * n + x)) j ∨ fX (l Q (4 * n + x)) j) ∧ fX (l 63 x) j
theorem tc_s {l : Nat → Int → Int64} {P Q : Nat} {n k : Int} {y : Int64} (k0 : 0 ≤ k) (h : ∀ j, fX y j ↔ tcA l P Q n k j) : ∀ j, fX (y ||| ((l P (4 * n + k) ||| l Q (4 * n + k)) &&& l 63 k)) j ↔ tcA l P Q n (k + 1) j := by
  intro j
  have ha : fX ((l P (4 * n + k) ||| l Q (4 * n + k)) &&& l 63 k) j ↔ (fX (l P (4 * n + k)) j ∨ fX (l Q (4 * n + k)) j) ∧ fX (l 63 k) j := by
    rw [← fX_or]
    unfold fX
    rw [bitL_and, Bool.and_eq_true]
    exact ⟨fun q => ⟨⟨q.1.1, q.2⟩, q.1.2, q.2⟩, fun q => ⟨⟨q.1.1, q.2.1⟩, q.1.2⟩⟩
  rw [fX_or, h, ha]
  constructor
  · rintro (⟨x, ⟨x0, x1⟩, q⟩ | q)
    · exact ⟨x, ⟨x0, by omega⟩, q⟩
    · exact ⟨k, ⟨k0, by omega⟩, q⟩
  · rintro ⟨x, ⟨x0, x1⟩, q⟩
    by_cases e : x = k
    · rw [e] at q
      exact Or.inr q
    · exact Or.inl ⟨x, ⟨x0, by omega⟩, q⟩
theorem tc_0 {l : Nat → Int → Int64} {P Q : Nat} {n k : Int} (hk : k ≤ 0) : ∀ j, fX (Int64.ofNat 0) j ↔ tcA l P Q n k j := fun j => ⟨fun z => absurd z fX_no, fun ⟨x, ⟨x0, x1⟩, _⟩ => by omega⟩
theorem tc_y {l : Nat → Int → Int64} {P Q : Nat} {n k : Int} {y : Int64} (hk : k = 4) (h0 : fl0 l) (h : ∀ j, fX y j ↔ tcA l P Q n k j) : (¬ y = Int64.ofNat 0) ↔ ∃ d, flX l d ∧ flR l P Q n d := by
  subst hk
  constructor
  · intro q
    obtain ⟨j, j1, hj⟩ := lg_ne0 q
    obtain ⟨x, ⟨x0, x1⟩, h1, h2⟩ := (h _).mp hj
    have c64 : (x * 64 + (j : Int)) / 64 = x := by omega
    have m64 : (x * 64 + (j : Int)) % 64 = (j : Int) := by omega
    have e0 : (4 * 0 + x : Int) = x := by omega
    have hs : rwB l 63 0 (x * 64 + (j : Int)) := by
      unfold rwB
      rw [c64, m64, e0]
      exact h2
    refine ⟨x * 64 + (j : Int), ⟨⟨by omega, ?_⟩, hs⟩, ?_⟩
    · apply Classical.byContradiction
      intro z
      exact h0 _ (by omega) (by omega) hs
    · unfold flR rwB
      rw [c64, m64]
      exact h1
  · rintro ⟨d, ⟨⟨d0, d1⟩, hs⟩, hr⟩ e
    unfold rwB at hs
    unfold flR rwB at hr
    have e0 : (4 * 0 + d / 64 : Int) = d / 64 := by omega
    rw [e0] at hs
    have q := (h (d % 64)).mpr ⟨d / 64, ⟨by omega, by omega⟩, hr, hs⟩
    rw [e] at q
    exact fX_no q
theorem flV_sm {b : Int} {l : Nat → Int → Int64} {P Q : Nat} {l' l'' : Nat → Int → Int64} {x : Int} (e : ∀ i, l'' 63 i = l' 63 i) (h : flV b l P Q l' x) : flV b l P Q l'' x := by
  have eX : flX l'' = flX l' := by
    funext c
    unfold flX rwB
    rw [e]
  unfold flV at h ⊢
  rw [eX]
  exact h
/-- a round of a flood under way -/
def flG (b : Int) (l : Nat → Int → Int64) (P Q : Nat) (l' : Nat → Int → Int64) (g rd n : Int) : Prop := flT b l P Q l' ∧ rd.toNat ≤ flC l' ∧ (g = 1 → (rd + 1).toNat ≤ flC l') ∧ (g = 0 → ∀ x, 0 ≤ x → x < n → flV b l P Q l' x)
def flK (b : Int) (l : Nat → Int → Int64) (P Q : Nat) (l' : Nat → Int → Int64) (n k : Int) : Prop := ((b = 0 ∧ flX l' n) ∨ (¬ b = 0 ∧ ∃ d, flX l' d ∧ flR l P Q n d)) ∧ (∀ c, 0 ≤ c → c ≤ 251 → c / 64 < k → ((b = 0 ∧ flR l P Q n c) ∨ (¬ b = 0 ∧ c = n)) → flX l' c)
theorem fl_go {b : Int} {l : Nat → Int → Int64} {P Q : Nat} {l' l'' : Nat → Int → Int64} {g g' rd n k : Int} {T : Int64} (k0 : 0 ≤ k) (k1 : k < 4) (n0 : 0 ≤ n) (n1 : n ≤ 251) (r0 : 0 ≤ rd) (hw : rgW l P ∧ rgW l Q) (hG : flG b l P Q l' g rd n) (hK : flK b l P Q l' n k) (e : ∀ i, l'' 63 i = if i = k then l' 63 k ||| T else l' 63 i) (hT : ∀ c, 0 ≤ c → c ≤ 255 → c / 64 = k → (fX T (c % 64) ↔ (b = 0 ∧ flR l P Q n c) ∨ (¬ b = 0 ∧ c = n))) (hg : (g' = 1 ∧ (g = 1 ∨ ¬ l' 63 k ||| T = l' 63 k)) ∨ (g' = 0 ∧ g = 0 ∧ l' 63 k ||| T = l' 63 k)) : flG b l P Q l'' g' rd n ∧ flK b l P Q l'' n (k + 1) := by
  obtain ⟨h1, h2, h3, h4⟩ := hG
  have ek : l'' 63 k = l' 63 k ||| T := by rw [e, if_pos rfl]
  obtain ⟨w1, w2, w3, w4⟩ := fl_word k0 k1 n0 n1 h1 hw e hT hK.1
  have mc : flC l' ≤ flC l'' := cnP_mo _ (fun _ _ => w2 _)
  rw [ek] at w3
  refine ⟨⟨w1, by omega, fun z => ?_, fun z => ?_⟩, hK.1.imp (fun q => ⟨q.1, w2 _ q.2⟩) (fun q => ⟨q.1, q.2.elim fun d q => ⟨d, w2 _ q.1, q.2⟩⟩), fun c c0 c1 ck q => ?_⟩
  · rcases hg with ⟨-, y | y⟩ | ⟨y, -⟩
    · have := h3 y
      omega
    · have := w3 y
      omega
    · omega
  · rcases hg with ⟨y, -⟩ | ⟨-, y1, y2⟩
    · omega
    · intro x x0 x1
      refine flV_sm (fun i => ?_) (h4 y1 x x0 x1)
      rw [e]
      split
      · rename_i q
        rw [y2, q]
      · rfl
  · by_cases q2 : c / 64 = k
    · exact w4 c c0 c1 q2 q
    · exact w2 c (hK.2 c c0 c1 (by omega) q)
theorem flG_n {b : Int} {l : Nat → Int → Int64} {P Q : Nat} {l' : Nat → Int → Int64} {g rd n : Int} (hG : flG b l P Q l' g rd n) (hv : flV b l P Q l' n) : flG b l P Q l' g rd (n + 1) := by
  obtain ⟨h1, h2, h3, h4⟩ := hG
  refine ⟨h1, h2, h3, fun z x x0 x1 => ?_⟩
  by_cases e : x = n
  · rw [e]
    exact hv
  · exact h4 z x x0 (by omega)
theorem flV_k {b : Int} {l : Nat → Int → Int64} {P Q : Nat} {l' : Nat → Int → Int64} {n k : Int} (n0 : 0 ≤ n) (n1 : n ≤ 251) (hk : 4 ≤ k) (hK : flK b l P Q l' n k) : flV b l P Q l' n := ⟨fun e _ d d0 d1 q => hK.2 d d0 d1 (by omega) (Or.inl ⟨e, q⟩), fun e _ => hK.2 n n0 n1 (by omega) (Or.inr ⟨e, rfl⟩)⟩

set_option maxHeartbeats 8000000 in
set_option maxRecDepth 20000 in
theorem k174xa {Z : sm_Z} (hZ : Z.2.2.2 = tb_N) (m : wk_M) (n : Int) (n0 : 0 ≤ n) (n1 : n ≤ 251) (h0 : fl0 m.2) : wC Z 1 174 [] [.inr (.inl 46), .inr (.inl 60), .inr (.inl 60), .inl n] m (fun r m' => ∃ v : Int, r = some (.inl v) ∧ m' = m ∧ ((v = 1 ∧ (∃ d, flX m.2 d ∧ flR m.2 60 60 n d)) ∨ (v = 0 ∧ ¬ (∃ d, flX m.2 d ∧ flR m.2 60 60 n d)))) := by
  obtain ⟨J0, hJ0⟩ : ∃ J : Int →Int →Int64 → wk_M → Prop, ∀ na k y m', J na k y m' ↔ (m' = m ∧ n = na ∧ (0 ≤ k ∧ k ≤ 4) ∧ ∀ j, fX y j ↔ tcA m.2 60 60 n k j) := ⟨_, fun _ _ _ _ => Iff.rfl⟩
  refine wC.gen fun Q hQ => wk_E hZ (by exact rfl) [(6, [(3, 46), (3, 60), (3, 60), (1, 0), (2, 0), (0, 0), (1, 0)], fun vs ls m' => (match vs, ls with
    | [na, k], [y] => J0 na k y m'
    | _, _ => False), fun vs _ m' => (match vs with
    | [na, k] => (4 - k : Int).toNat
    | _ => 0))] rfl (fun hr hs => ⟨?_, trivial⟩) (fun hr hs => ?_)
  · have e1 : ab_lo = -2147483648 := rfl
    have e2 : ab_hi = 2147483647 := rfl
    intro m2 hr2 hf2 na nal nah y k kl kh hI
    have hI := (hJ0 _ _ _ _).mp hI
    obtain ⟨rfl, rfl, ⟨k0, k1⟩, hy⟩ := hI
    repeat' first | (intro h; exact absurd h (by decide)) | (intro h; exact absurd rfl h) | refine And.intro ?_ ?_ | intro _ | refine Or.inl ⟨by omega, by omega, ?_⟩ | refine Or.inr ?_ | exact trivial
    all_goals first
      | omega
      | (show (4 - (_ : Int) : Int).toNat < (4 - (_ : Int) : Int).toNat; omega)
      | exact hQ _ _ ⟨_, rfl, rfl, Or.inl ⟨rfl, (tc_y (by omega) h0 hy).mp (fun z => absurd ((lg_y (by assumption)).mpr z) (by omega))⟩⟩
      | exact hQ _ _ ⟨_, rfl, rfl, Or.inr ⟨rfl, fun q => (tc_y (by omega) h0 hy).mpr q ((lg_y (by assumption)).mp (by omega))⟩⟩
      | (show J0 _ _ _ _; refine (hJ0 _ _ _ _).mpr ⟨rfl, rfl, ⟨by omega, by omega⟩, tc_s k0 hy⟩)
  · have e1 : ab_lo = -2147483648 := rfl
    have e2 : ab_hi = 2147483647 := rfl
    repeat' first | (intro h; exact absurd h (by decide)) | (intro h; exact absurd rfl h) | refine And.intro ?_ ?_ | intro _ | refine Or.inl ⟨by omega, by omega, ?_⟩ | refine Or.inr ?_ | exact trivial
    all_goals first
      | omega
      | trivial
      | (show J0 _ _ _ _; refine (hJ0 _ _ _ _).mpr ⟨rfl, rfl, ⟨by omega, by omega⟩, tc_0 (by omega)⟩)

set_option maxHeartbeats 8000000 in
set_option maxRecDepth 20000 in
theorem k172xa {Z : sm_Z} (hZ : Z.2.2.2 = tb_N) (m : wk_M) (b : Int) (b0 : 0 ≤ b) (b1 : b ≤ 1) (hw : rgW m.2 60 ∧ rgW m.2 60) (h0 : fl0 m.2) : wC Z 2 172 [63] [.inr (.inl 46), .inr (.inl 60), .inr (.inl 60), .inl b] m (fun r m' => r = none ∧ fl0 m'.2 ∧ ∀ c, flX m'.2 c ↔ rs (flQ b m.2 60 60) (flX m.2) nS c) := by
  obtain ⟨J0, hJ0⟩ : ∃ J : Int →Int →Int → wk_M → Prop, ∀ ba g rd m', J ba g rd m' ↔ (b = ba ∧ ((0 ≤ rd ∧ rd ≤ 300) ∧ 0 ≤ g ∧ g ≤ 1) ∧ flT b m.2 60 60 m'.2 ∧ (g = 1 → rd.toNat ≤ flC m'.2) ∧ (g = 0 → ∀ x, 0 ≤ x → x ≤ 251 → flV b m.2 60 60 m'.2 x)) := ⟨_, fun _ _ _ _ => Iff.rfl⟩
  obtain ⟨J1, hJ1⟩ : ∃ J : Int →Int →Int →Int → wk_M → Prop, ∀ ba g rd n m', J ba g rd n m' ↔ (b = ba ∧ ((0 ≤ rd ∧ rd < 300) ∧ (0 ≤ g ∧ g ≤ 1) ∧ 0 ≤ n ∧ n ≤ 252) ∧ flG b m.2 60 60 m'.2 g rd n) := ⟨_, fun _ _ _ _ _ => Iff.rfl⟩
  obtain ⟨J2, hJ2⟩ : ∃ J : Int →Int →Int →Int →Int → wk_M → Prop, ∀ ba g rd n k m', J ba g rd n k m' ↔ (b = ba ∧ ((0 ≤ rd ∧ rd < 300) ∧ (0 ≤ g ∧ g ≤ 1) ∧ (0 ≤ n ∧ n < 252) ∧ 0 ≤ k ∧ k ≤ 4) ∧ flG b m.2 60 60 m'.2 g rd n ∧ flK b m.2 60 60 m'.2 n k) := ⟨_, fun _ _ _ _ _ _ => Iff.rfl⟩
  refine wC.gen fun Q hQ => wk_E hZ (by exact rfl) [(6, [(3, 46), (3, 60), (3, 60), (1, 0), (1, 0), (1, 0), (0, 0), (0, 0), (0, 0), (0, 0)], fun vs _ m' => (match vs with
    | [ba, g, rd] => J0 ba g rd m'
    | _ => False), fun vs _ m' => (match vs with
    | [ba, g, rd] => ((300 - rd) * 10000 + 9999 : Int).toNat
    | _ => 0)), (25, [(3, 46), (3, 60), (3, 60), (1, 0), (1, 0), (1, 0), (1, 0), (0, 0), (0, 0), (0, 0)], fun vs _ m' => (match vs with
    | [ba, g, rd, n] => J1 ba g rd n m'
    | _ => False), fun vs _ m' => (match vs with
    | [ba, g, rd, n] => ((300 - rd) * 10000 + (252 - n) * 10 + 9 : Int).toNat
    | _ => 0)), (80, [(3, 46), (3, 60), (3, 60), (1, 0), (1, 0), (1, 0), (1, 0), (1, 0), (0, 0), (0, 0)], fun vs _ m' => (match vs with
    | [ba, g, rd, n, k] => J2 ba g rd n k m'
    | _ => False), fun vs _ m' => (match vs with
    | [ba, g, rd, n, k] => ((300 - rd) * 10000 + (252 - n) * 10 + (4 - k) : Int).toNat
    | _ => 0))] rfl (fun hr hs => ⟨?_, ⟨?_, ⟨?_, trivial⟩⟩⟩) (fun hr hs => ?_)
  · have e1 : ab_lo = -2147483648 := rfl
    have e2 : ab_hi = 2147483647 := rfl
    intro m2 hr2 hf2 ba bal bah g gl gh rd rdl rdh hI
    have hI := (hJ0 _ _ _ _).mp hI
    obtain ⟨rfl, ⟨⟨r0, r1⟩, g0, g1⟩, hT, hc, hv⟩ := hI
    have hle : flC m2.2 ≤ 252 := cnP_le _
    repeat' first | (intro z hz zl zh hq; have e := hq rfl (by omega) (by omega); subst e; clear hz hq) | (intro z hz zl zh h1 h2; have e := and63 (by omega) (by omega) hz; subst e; clear hz h1 h2) | (intro h; exact absurd h (by decide)) | (intro h; exact absurd rfl h) | refine And.intro ?_ ?_ | intro _ | refine Or.inl ⟨by omega, by omega, ?_⟩ | refine Or.inr ?_ | exact trivial
    all_goals first
      | omega
      | (show ((300 - (_ : Int)) * 10000 + 9999 : Int).toNat < ((300 - (_ : Int)) * 10000 + 9999 : Int).toNat; omega)
      | exact hQ _ _ ⟨rfl, hT.2.2, fl_fin hT (by by_cases z : g = 0; exact hv z; (exfalso; have := hc (by omega); omega))⟩
      | exact hQ _ _ ⟨rfl, hT.2.2, fl_fin hT (hv (by omega))⟩
      | (show J1 _ _ _ _ _; refine (hJ1 _ _ _ _ _).mpr ⟨rfl, ⟨⟨by omega, by omega⟩, ⟨by omega, by omega⟩, by omega, by omega⟩, hT, hc (by omega), (fun z => absurd z (by decide)), fun _ x x0 x1 => by omega⟩)
      | (show (_ : Nat) < (_ : Nat); dsimp only; omega)
  · have e1 : ab_lo = -2147483648 := rfl
    have e2 : ab_hi = 2147483647 := rfl
    intro m2 hr2 hf2 ba bal bah g gl gh rd rdl rdh n nl nh hI
    have hI := (hJ1 _ _ _ _ _).mp hI
    obtain ⟨rfl, ⟨⟨r0, r1⟩, ⟨g0, g1⟩, n0, n1⟩, hG⟩ := hI
    have eP : m2.2 60 = m.2 60 := (hf2 60 (by decide)).2
    have eQ : m2.2 60 = m.2 60 := (hf2 60 (by decide)).2
    have e1 : flR m2.2 60 60 = flR m.2 60 60 := by
      funext n c
      unfold flR rwB
      first
        | rw [eP, eQ]
        | rw [eP]
    repeat' first | (intro z hz zl zh hq; have e := hq rfl (by omega) (by omega); subst e; clear hz hq) | (intro z hz zl zh h1 h2; have e := and63 (by omega) (by omega) hz; subst e; clear hz h1 h2) | (intro h; exact absurd h (by decide)) | (intro h; exact absurd rfl h) | refine And.intro ?_ ?_ | intro _ | refine Or.inl ⟨by omega, by omega, ?_⟩ | refine Or.inr ?_ | exact trivial | (refine wk_use (k173x63 hZ _ _ (by omega) (by omega)) rfl rfl ?_; rintro - _ _ - - - ⟨_, rfl, hm, ⟨rfl, hs⟩ | ⟨rfl, hs⟩⟩ <;> refine Or.inl ⟨[], hm, ?_⟩ <;> clear hm) | (refine wk_use (k174xa hZ _ _ (by omega) (by omega) hG.1.2.2) rfl rfl ?_; rintro - _ _ - - - ⟨_, rfl, hm, ⟨rfl, hx⟩ | ⟨rfl, hx⟩⟩ <;> (rw [e1] at hx) <;> refine Or.inl ⟨[], hm, ?_⟩ <;> clear hm)
    all_goals first
      | omega
      | (show ((300 - (_ : Int)) * 10000 + (252 - (_ : Int)) * 10 + 9 : Int).toNat < ((300 - (_ : Int)) * 10000 + (252 - (_ : Int)) * 10 + 9 : Int).toNat; omega)
      | (show J0 _ _ _ _; refine (hJ0 _ _ _ _).mpr ⟨rfl, ⟨⟨by omega, by omega⟩, by omega, by omega⟩, hG.1, hG.2.2.1, fun z x x0 x1 => hG.2.2.2 z x x0 (by omega)⟩)
      | (show J1 _ _ _ _ _; refine (hJ1 _ _ _ _ _).mpr ⟨rfl, ⟨⟨by omega, by omega⟩, ⟨by omega, by omega⟩, by omega, by omega⟩, flG_n hG ⟨fun z => absurd z (by omega), fun _ _ => ⟨⟨by omega, by omega⟩, hs⟩⟩⟩)
      | (show J1 _ _ _ _ _; refine (hJ1 _ _ _ _ _).mpr ⟨rfl, ⟨⟨by omega, by omega⟩, ⟨by omega, by omega⟩, by omega, by omega⟩, flG_n hG ⟨fun z => absurd z (by omega), fun _ q => absurd q hx⟩⟩)
      | (show J1 _ _ _ _ _; refine (hJ1 _ _ _ _ _).mpr ⟨rfl, ⟨⟨by omega, by omega⟩, ⟨by omega, by omega⟩, by omega, by omega⟩, flG_n hG ⟨fun _ q => absurd q.2 hs, fun z => absurd (by omega) z⟩⟩)
      | (show J2 _ _ _ _ _ _; refine (hJ2 _ _ _ _ _ _).mpr ⟨rfl, ⟨⟨by omega, by omega⟩, ⟨by omega, by omega⟩, ⟨by omega, by omega⟩, by omega, by omega⟩, hG, Or.inl ⟨by omega, ⟨by omega, by omega⟩, hs⟩, fun c c0 c1 ck => by omega⟩)
      | (show J2 _ _ _ _ _ _; refine (hJ2 _ _ _ _ _ _).mpr ⟨rfl, ⟨⟨by omega, by omega⟩, ⟨by omega, by omega⟩, ⟨by omega, by omega⟩, by omega, by omega⟩, hG, Or.inr ⟨by omega, hx⟩, fun c c0 c1 ck => by omega⟩)
      | (show (_ : Nat) < (_ : Nat); dsimp only; omega)
  · have e1 : ab_lo = -2147483648 := rfl
    have e2 : ab_hi = 2147483647 := rfl
    intro m2 hr2 hf2 ba bal bah g gl gh rd rdl rdh n nl nh k kl kh hI
    have hI := (hJ2 _ _ _ _ _ _).mp hI
    obtain ⟨rfl, ⟨⟨r0, r1⟩, ⟨g0, g1⟩, ⟨n0, n1⟩, k0, k1⟩, hG, hK⟩ := hI
    have eP : m2.2 60 = m.2 60 := (hf2 60 (by decide)).2
    have eQ : m2.2 60 = m.2 60 := (hf2 60 (by decide)).2
    repeat' first | (intro z hz zl zh hq; have e := hq rfl (by omega) (by omega); subst e; clear hz hq) | (intro z hz zl zh h1 h2; have e := and63 (by omega) (by omega) hz; subst e; clear hz h1 h2) | (intro h; exact absurd h (by decide)) | (intro h; exact absurd rfl h) | refine And.intro ?_ ?_ | intro _ | refine Or.inl ⟨by omega, by omega, ?_⟩ | refine Or.inr ?_ | exact trivial
    all_goals first
      | omega
      | (show ((300 - (_ : Int)) * 10000 + (252 - (_ : Int)) * 10 + (4 - (_ : Int)) : Int).toNat < ((300 - (_ : Int)) * 10000 + (252 - (_ : Int)) * 10 + (4 - (_ : Int)) : Int).toNat; omega)
      | (show J1 _ _ _ _ _; refine (hJ1 _ _ _ _ _).mpr ⟨rfl, ⟨⟨by omega, by omega⟩, ⟨by omega, by omega⟩, by omega, by omega⟩, flG_n hG (flV_k n0 (by omega) (by omega) hK)⟩)
      | (show J2 _ _ _ _ _ _; refine (hJ2 _ _ _ _ _ _).mpr ⟨rfl, ⟨⟨by omega, by omega⟩, ⟨by omega, by omega⟩, ⟨by omega, by omega⟩, by omega, by omega⟩, fl_go k0 (by omega) n0 (by omega) r0 hw hG hK (fun _ => by simp (decide := true) only [wk_ul_at, wk_u_2, wk_ul_1, and_self, and_true, true_and, and_false, false_and, if_true, if_false] <;> rfl) (fun c c0 c1 ck => by (first | rw [fX_or, eP, eQ] | rw [fX_or, eP]); unfold flR rwB; rw [ck]; exact ⟨fun q => Or.inl ⟨by omega, q⟩, fun q => q.elim (fun q => q.2) (fun q => absurd (by omega) q.1)⟩) (by first | exact Or.inl ⟨rfl, Or.inl (by omega)⟩ | exact Or.inl ⟨rfl, Or.inr (fun z => absurd ((lg_e (by assumption)).mpr z) (by omega))⟩ | exact Or.inr ⟨rfl, by omega, (lg_e (by assumption)).mp (by omega)⟩)⟩)
      | (show J2 _ _ _ _ _ _; refine (hJ2 _ _ _ _ _ _).mpr ⟨rfl, ⟨⟨by omega, by omega⟩, ⟨by omega, by omega⟩, ⟨by omega, by omega⟩, by omega, by omega⟩, fl_go k0 (by omega) n0 (by omega) r0 hw hG hK (fun _ => by simp (decide := true) only [wk_ul_at, wk_u_2, wk_ul_1, and_self, and_true, true_and, and_false, false_and, if_true, if_false] <;> rfl) (fun c c0 c1 ck => (fX_one (a := n % 64) (by omega) (by omega)).trans ⟨fun q => Or.inr ⟨by omega, by omega⟩, fun q => q.elim (fun q => absurd q.1 (by omega)) (fun q => by omega)⟩) (by first | exact Or.inl ⟨rfl, Or.inl (by omega)⟩ | exact Or.inl ⟨rfl, Or.inr (fun z => absurd ((lg_e (by assumption)).mpr z) (by omega))⟩ | exact Or.inr ⟨rfl, by omega, (lg_e (by assumption)).mp (by omega)⟩)⟩)
      | (show J2 _ _ _ _ _ _; refine (hJ2 _ _ _ _ _ _).mpr ⟨rfl, ⟨⟨by omega, by omega⟩, ⟨by omega, by omega⟩, ⟨by omega, by omega⟩, by omega, by omega⟩, fl_go k0 (by omega) n0 (by omega) r0 hw hG hK (fun _ => by simp (decide := true) only [wk_ul_at, wk_u_2, wk_ul_1, and_self, and_true, true_and, and_false, false_and, if_true, if_false] <;> rfl) (T := Int64.ofNat 0) (fun c c0 c1 ck => ⟨fun q => absurd q fX_no, fun q => q.elim (fun q => absurd q.1 (by omega)) (fun q => by omega)⟩) (by first | exact Or.inl ⟨rfl, Or.inl (by omega)⟩ | exact Or.inl ⟨rfl, Or.inr (fun z => absurd ((lg_e (by assumption)).mpr z) (by omega))⟩ | exact Or.inr ⟨rfl, by omega, (lg_e (by assumption)).mp (by omega)⟩)⟩)
      | (show (_ : Nat) < (_ : Nat); dsimp only; omega)
  · have e1 : ab_lo = -2147483648 := rfl
    have e2 : ab_hi = 2147483647 := rfl
    repeat' first | (intro z hz zl zh hq; have e := hq rfl (by omega) (by omega); subst e; clear hz hq) | (intro z hz zl zh h1 h2; have e := and63 (by omega) (by omega) hz; subst e; clear hz h1 h2) | (intro h; exact absurd h (by decide)) | (intro h; exact absurd rfl h) | refine And.intro ?_ ?_ | intro _ | refine Or.inl ⟨by omega, by omega, ?_⟩ | refine Or.inr ?_ | exact trivial
    all_goals first
      | omega
      | trivial
      | (show J0 _ _ _ _; refine (hJ0 _ _ _ _).mpr ⟨rfl, ⟨⟨by omega, by omega⟩, by omega, by omega⟩, flT_0 h0, (fun _ => Nat.zero_le _), fun z => absurd z (by decide)⟩)

