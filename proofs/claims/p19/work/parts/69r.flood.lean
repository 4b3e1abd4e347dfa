set_option maxHeartbeats 8000000 in
set_option maxRecDepth 20000 in
theorem k174xu {Z : sm_Z} (hZ : Z.2.2.2 = tb_N) (m : wk_M) (n : Int) (n0 : 0 ≤ n) (n1 : n ≤ 251) (h0 : fl0 m.2) : wC Z 1 174 [] [.inr (.inl 46), .inr (.inl 60), .inr (.inl 61), .inl n] m (fun r m' => ∃ v : Int, r = some (.inl v) ∧ m' = m ∧ ((v = 1 ∧ (∃ d, flX m.2 d ∧ flR m.2 60 61 n d)) ∨ (v = 0 ∧ ¬ (∃ d, flX m.2 d ∧ flR m.2 60 61 n d)))) := by
  obtain ⟨J0, hJ0⟩ : ∃ J : Int →Int →Int64 → wk_M → Prop, ∀ na k y m', J na k y m' ↔ (m' = m ∧ n = na ∧ (0 ≤ k ∧ k ≤ 4) ∧ ∀ j, fX y j ↔ tcA m.2 60 61 n k j) := ⟨_, fun _ _ _ _ => Iff.rfl⟩
  refine wC.gen fun Q hQ => wk_E hZ (by exact rfl) [(6, [(3, 46), (3, 60), (3, 61), (1, 0), (2, 0), (0, 0), (1, 0)], fun vs ls m' => (match vs, ls with
    | [na, k], [y] => J0 na k y m'
    | _, _ => False), fun vs _ m' => (match vs with
    | [na, k] => (4 - k : Int).toNat
    | _ => 0))] rfl (fun hr hs => ⟨?_, trivial⟩) (fun hr hs => ?_)
  · have e1 : ab_lo = -2147483648 := rfl
    have e2 : ab_hi = 2147483647 := rfl
    intro m2 hr2 hf2 na nal nah y k kl kh hI
    have hI := (hJ0 _ _ _ _).mp hI
    obtain ⟨rfl, rfl, ⟨k0, k1⟩, hy⟩ := hI
    repeat' first | (intro h; exact absurd h (by decide)) | (intro h; exact absurd rfl h) | refine And.intro ?_ ?_ | intro _ | refine Or.inl ⟨by omega, by omega, ?_⟩ | refine Or.inr ?_ | exact trivial
    all_goals first
      | omega
      | (show (4 - (_ : Int) : Int).toNat < (4 - (_ : Int) : Int).toNat; omega)
      | exact hQ _ _ ⟨_, rfl, rfl, Or.inl ⟨rfl, (tc_y (by omega) h0 hy).mp (fun z => absurd ((lg_y (by assumption)).mpr z) (by omega))⟩⟩
      | exact hQ _ _ ⟨_, rfl, rfl, Or.inr ⟨rfl, fun q => (tc_y (by omega) h0 hy).mpr q ((lg_y (by assumption)).mp (by omega))⟩⟩
      | (show J0 _ _ _ _; refine (hJ0 _ _ _ _).mpr ⟨rfl, rfl, ⟨by omega, by omega⟩, tc_s k0 hy⟩)
  · have e1 : ab_lo = -2147483648 := rfl
    have e2 : ab_hi = 2147483647 := rfl
    repeat' first | (intro h; exact absurd h (by decide)) | (intro h; exact absurd rfl h) | refine And.intro ?_ ?_ | intro _ | refine Or.inl ⟨by omega, by omega, ?_⟩ | refine Or.inr ?_ | exact trivial
    all_goals first
      | omega
      | trivial
      | (show J0 _ _ _ _; refine (hJ0 _ _ _ _).mpr ⟨rfl, rfl, ⟨by omega, by omega⟩, tc_0 (by omega)⟩)

set_option maxHeartbeats 8000000 in
set_option maxRecDepth 20000 in
theorem k172xu {Z : sm_Z} (hZ : Z.2.2.2 = tb_N) (m : wk_M) (b : Int) (b0 : 0 ≤ b) (b1 : b ≤ 1) (hw : rgW m.2 60 ∧ rgW m.2 61) (h0 : fl0 m.2) : wC Z 2 172 [63] [.inr (.inl 46), .inr (.inl 60), .inr (.inl 61), .inl b] m (fun r m' => r = none ∧ fl0 m'.2 ∧ ∀ c, flX m'.2 c ↔ rs (flQ b m.2 60 61) (flX m.2) nS c) := by
  obtain ⟨J0, hJ0⟩ : ∃ J : Int →Int →Int → wk_M → Prop, ∀ ba g rd m', J ba g rd m' ↔ (b = ba ∧ ((0 ≤ rd ∧ rd ≤ 300) ∧ 0 ≤ g ∧ g ≤ 1) ∧ flT b m.2 60 61 m'.2 ∧ (g = 1 → rd.toNat ≤ flC m'.2) ∧ (g = 0 → ∀ x, 0 ≤ x → x ≤ 251 → flV b m.2 60 61 m'.2 x)) := ⟨_, fun _ _ _ _ => Iff.rfl⟩
  obtain ⟨J1, hJ1⟩ : ∃ J : Int →Int →Int →Int → wk_M → Prop, ∀ ba g rd n m', J ba g rd n m' ↔ (b = ba ∧ ((0 ≤ rd ∧ rd < 300) ∧ (0 ≤ g ∧ g ≤ 1) ∧ 0 ≤ n ∧ n ≤ 252) ∧ flG b m.2 60 61 m'.2 g rd n) := ⟨_, fun _ _ _ _ _ => Iff.rfl⟩
  obtain ⟨J2, hJ2⟩ : ∃ J : Int →Int →Int →Int →Int → wk_M → Prop, ∀ ba g rd n k m', J ba g rd n k m' ↔ (b = ba ∧ ((0 ≤ rd ∧ rd < 300) ∧ (0 ≤ g ∧ g ≤ 1) ∧ (0 ≤ n ∧ n < 252) ∧ 0 ≤ k ∧ k ≤ 4) ∧ flG b m.2 60 61 m'.2 g rd n ∧ flK b m.2 60 61 m'.2 n k) := ⟨_, fun _ _ _ _ _ _ => Iff.rfl⟩
  refine wC.gen fun Q hQ => wk_E hZ (by exact rfl) [(6, [(3, 46), (3, 60), (3, 61), (1, 0), (1, 0), (1, 0), (0, 0), (0, 0), (0, 0), (0, 0)], fun vs _ m' => (match vs with
    | [ba, g, rd] => J0 ba g rd m'
    | _ => False), fun vs _ m' => (match vs with
    | [ba, g, rd] => ((300 - rd) * 10000 + 9999 : Int).toNat
    | _ => 0)), (25, [(3, 46), (3, 60), (3, 61), (1, 0), (1, 0), (1, 0), (1, 0), (0, 0), (0, 0), (0, 0)], fun vs _ m' => (match vs with
    | [ba, g, rd, n] => J1 ba g rd n m'
    | _ => False), fun vs _ m' => (match vs with
    | [ba, g, rd, n] => ((300 - rd) * 10000 + (252 - n) * 10 + 9 : Int).toNat
    | _ => 0)), (80, [(3, 46), (3, 60), (3, 61), (1, 0), (1, 0), (1, 0), (1, 0), (1, 0), (0, 0), (0, 0)], fun vs _ m' => (match vs with
    | [ba, g, rd, n, k] => J2 ba g rd n k m'
    | _ => False), fun vs _ m' => (match vs with
    | [ba, g, rd, n, k] => ((300 - rd) * 10000 + (252 - n) * 10 + (4 - k) : Int).toNat
    | _ => 0))] rfl (fun hr hs => ⟨?_, ⟨?_, ⟨?_, trivial⟩⟩⟩) (fun hr hs => ?_)
  · have e1 : ab_lo = -2147483648 := rfl
    have e2 : ab_hi = 2147483647 := rfl
    intro m2 hr2 hf2 ba bal bah g gl gh rd rdl rdh hI
    have hI := (hJ0 _ _ _ _).mp hI
    obtain ⟨rfl, ⟨⟨r0, r1⟩, g0, g1⟩, hT, hc, hv⟩ := hI
    have hle : flC m2.2 ≤ 252 := cnP_le _
    repeat' first | (intro z hz zl zh hq; have e := hq rfl (by omega) (by omega); subst e; clear hz hq) | (intro z hz zl zh h1 h2; have e := and63 (by omega) (by omega) hz; subst e; clear hz h1 h2) | (intro h; exact absurd h (by decide)) | (intro h; exact absurd rfl h) | refine And.intro ?_ ?_ | intro _ | refine Or.inl ⟨by omega, by omega, ?_⟩ | refine Or.inr ?_ | exact trivial
    all_goals first
      | omega
      | (show ((300 - (_ : Int)) * 10000 + 9999 : Int).toNat < ((300 - (_ : Int)) * 10000 + 9999 : Int).toNat; omega)
      | exact hQ _ _ ⟨rfl, hT.2.2, fl_fin hT (by by_cases z : g = 0; exact hv z; (exfalso; have := hc (by omega); omega))⟩
      | exact hQ _ _ ⟨rfl, hT.2.2, fl_fin hT (hv (by omega))⟩
      | (show J1 _ _ _ _ _; refine (hJ1 _ _ _ _ _).mpr ⟨rfl, ⟨⟨by omega, by omega⟩, ⟨by omega, by omega⟩, by omega, by omega⟩, hT, hc (by omega), (fun z => absurd z (by decide)), fun _ x x0 x1 => by omega⟩)
      | (show (_ : Nat) < (_ : Nat); dsimp only; omega)
  · have e1 : ab_lo = -2147483648 := rfl
    have e2 : ab_hi = 2147483647 := rfl
    intro m2 hr2 hf2 ba bal bah g gl gh rd rdl rdh n nl nh hI
    have hI := (hJ1 _ _ _ _ _).mp hI
    obtain ⟨rfl, ⟨⟨r0, r1⟩, ⟨g0, g1⟩, n0, n1⟩, hG⟩ := hI
    have eP : m2.2 60 = m.2 60 := (hf2 60 (by decide)).2
    have eQ : m2.2 61 = m.2 61 := (hf2 61 (by decide)).2
    have e1 : flR m2.2 60 61 = flR m.2 60 61 := by
      funext n c
      unfold flR rwB
      first
        | rw [eP, eQ]
        | rw [eP]
    repeat' first | (intro z hz zl zh hq; have e := hq rfl (by omega) (by omega); subst e; clear hz hq) | (intro z hz zl zh h1 h2; have e := and63 (by omega) (by omega) hz; subst e; clear hz h1 h2) | (intro h; exact absurd h (by decide)) | (intro h; exact absurd rfl h) | refine And.intro ?_ ?_ | intro _ | refine Or.inl ⟨by omega, by omega, ?_⟩ | refine Or.inr ?_ | exact trivial | (refine wk_use (k173x63 hZ _ _ (by omega) (by omega)) rfl rfl ?_; rintro - _ _ - - - ⟨_, rfl, hm, ⟨rfl, hs⟩ | ⟨rfl, hs⟩⟩ <;> refine Or.inl ⟨[], hm, ?_⟩ <;> clear hm) | (refine wk_use (k174xu hZ _ _ (by omega) (by omega) hG.1.2.2) rfl rfl ?_; rintro - _ _ - - - ⟨_, rfl, hm, ⟨rfl, hx⟩ | ⟨rfl, hx⟩⟩ <;> (rw [e1] at hx) <;> refine Or.inl ⟨[], hm, ?_⟩ <;> clear hm)
    all_goals first
      | omega
      | (show ((300 - (_ : Int)) * 10000 + (252 - (_ : Int)) * 10 + 9 : Int).toNat < ((300 - (_ : Int)) * 10000 + (252 - (_ : Int)) * 10 + 9 : Int).toNat; omega)
      | (show J0 _ _ _ _; refine (hJ0 _ _ _ _).mpr ⟨rfl, ⟨⟨by omega, by omega⟩, by omega, by omega⟩, hG.1, hG.2.2.1, fun z x x0 x1 => hG.2.2.2 z x x0 (by omega)⟩)
      | (show J1 _ _ _ _ _; refine (hJ1 _ _ _ _ _).mpr ⟨rfl, ⟨⟨by omega, by omega⟩, ⟨by omega, by omega⟩, by omega, by omega⟩, flG_n hG ⟨fun z => absurd z (by omega), fun _ _ => ⟨⟨by omega, by omega⟩, hs⟩⟩⟩)
      | (show J1 _ _ _ _ _; refine (hJ1 _ _ _ _ _).mpr ⟨rfl, ⟨⟨by omega, by omega⟩, ⟨by omega, by omega⟩, by omega, by omega⟩, flG_n hG ⟨fun z => absurd z (by omega), fun _ q => absurd q hx⟩⟩)
      | (show J1 _ _ _ _ _; refine (hJ1 _ _ _ _ _).mpr ⟨rfl, ⟨⟨by omega, by omega⟩, ⟨by omega, by omega⟩, by omega, by omega⟩, flG_n hG ⟨fun _ q => absurd q.2 hs, fun z => absurd (by omega) z⟩⟩)
      | (show J2 _ _ _ _ _ _; refine (hJ2 _ _ _ _ _ _).mpr ⟨rfl, ⟨⟨by omega, by omega⟩, ⟨by omega, by omega⟩, ⟨by omega, by omega⟩, by omega, by omega⟩, hG, Or.inl ⟨by omega, ⟨by omega, by omega⟩, hs⟩, fun c c0 c1 ck => by omega⟩)
      | (show J2 _ _ _ _ _ _; refine (hJ2 _ _ _ _ _ _).mpr ⟨rfl, ⟨⟨by omega, by omega⟩, ⟨by omega, by omega⟩, ⟨by omega, by omega⟩, by omega, by omega⟩, hG, Or.inr ⟨by omega, hx⟩, fun c c0 c1 ck => by omega⟩)
      | (show (_ : Nat) < (_ : Nat); dsimp only; omega)
  · have e1 : ab_lo = -2147483648 := rfl
    have e2 : ab_hi = 2147483647 := rfl
    intro m2 hr2 hf2 ba bal bah g gl gh rd rdl rdh n nl nh k kl kh hI
    have hI := (hJ2 _ _ _ _ _ _).mp hI
    obtain ⟨rfl, ⟨⟨r0, r1⟩, ⟨g0, g1⟩, ⟨n0, n1⟩, k0, k1⟩, hG, hK⟩ := hI
    have eP : m2.2 60 = m.2 60 := (hf2 60 (by decide)).2
    have eQ : m2.2 61 = m.2 61 := (hf2 61 (by decide)).2
    repeat' first | (intro z hz zl zh hq; have e := hq rfl (by omega) (by omega); subst e; clear hz hq) | (intro z hz zl zh h1 h2; have e := and63 (by omega) (by omega) hz; subst e; clear hz h1 h2) | (intro h; exact absurd h (by decide)) | (intro h; exact absurd rfl h) | refine And.intro ?_ ?_ | intro _ | refine Or.inl ⟨by omega, by omega, ?_⟩ | refine Or.inr ?_ | exact trivial
    all_goals first
      | omega
      | (show ((300 - (_ : Int)) * 10000 + (252 - (_ : Int)) * 10 + (4 - (_ : Int)) : Int).toNat < ((300 - (_ : Int)) * 10000 + (252 - (_ : Int)) * 10 + (4 - (_ : Int)) : Int).toNat; omega)
      | (show J1 _ _ _ _ _; refine (hJ1 _ _ _ _ _).mpr ⟨rfl, ⟨⟨by omega, by omega⟩, ⟨by omega, by omega⟩, by omega, by omega⟩, flG_n hG (flV_k n0 (by omega) (by omega) hK)⟩)
      | (show J2 _ _ _ _ _ _; refine (hJ2 _ _ _ _ _ _).mpr ⟨rfl, ⟨⟨by omega, by omega⟩, ⟨by omega, by omega⟩, ⟨by omega, by omega⟩, by omega, by omega⟩, fl_go k0 (by omega) n0 (by omega) r0 hw hG hK (fun _ => by simp (decide := true) only [wk_ul_at, wk_u_2, wk_ul_1, and_self, and_true, true_and, and_false, false_and, if_true, if_false] <;> rfl) (fun c c0 c1 ck => by (first | rw [fX_or, eP, eQ] | rw [fX_or, eP]); unfold flR rwB; rw [ck]; exact ⟨fun q => Or.inl ⟨by omega, q⟩, fun q => q.elim (fun q => q.2) (fun q => absurd (by omega) q.1)⟩) (by first | exact Or.inl ⟨rfl, Or.inl (by omega)⟩ | exact Or.inl ⟨rfl, Or.inr (fun z => absurd ((lg_e (by assumption)).mpr z) (by omega))⟩ | exact Or.inr ⟨rfl, by omega, (lg_e (by assumption)).mp (by omega)⟩)⟩)
      | (show J2 _ _ _ _ _ _; refine (hJ2 _ _ _ _ _ _).mpr ⟨rfl, ⟨⟨by omega, by omega⟩, ⟨by omega, by omega⟩, ⟨by omega, by omega⟩, by omega, by omega⟩, fl_go k0 (by omega) n0 (by omega) r0 hw hG hK (fun _ => by simp (decide := true) only [wk_ul_at, wk_u_2, wk_ul_1, and_self, and_true, true_and, and_false, false_and, if_true, if_false] <;> rfl) (fun c c0 c1 ck => (fX_one (a := n % 64) (by omega) (by omega)).trans ⟨fun q => Or.inr ⟨by omega, by omega⟩, fun q => q.elim (fun q => absurd q.1 (by omega)) (fun q => by omega)⟩) (by first | exact Or.inl ⟨rfl, Or.inl (by omega)⟩ | exact Or.inl ⟨rfl, Or.inr (fun z => absurd ((lg_e (by assumption)).mpr z) (by omega))⟩ | exact Or.inr ⟨rfl, by omega, (lg_e (by assumption)).mp (by omega)⟩)⟩)
      | (show J2 _ _ _ _ _ _; refine (hJ2 _ _ _ _ _ _).mpr ⟨rfl, ⟨⟨by omega, by omega⟩, ⟨by omega, by omega⟩, ⟨by omega, by omega⟩, by omega, by omega⟩, fl_go k0 (by omega) n0 (by omega) r0 hw hG hK (fun _ => by simp (decide := true) only [wk_ul_at, wk_u_2, wk_ul_1, and_self, and_true, true_and, and_false, false_and, if_true, if_false] <;> rfl) (T := Int64.ofNat 0) (fun c c0 c1 ck => ⟨fun q => absurd q fX_no, fun q => q.elim (fun q => absurd q.1 (by omega)) (fun q => by omega)⟩) (by first | exact Or.inl ⟨rfl, Or.inl (by omega)⟩ | exact Or.inl ⟨rfl, Or.inr (fun z => absurd ((lg_e (by assumption)).mpr z) (by omega))⟩ | exact Or.inr ⟨rfl, by omega, (lg_e (by assumption)).mp (by omega)⟩)⟩)
      | (show (_ : Nat) < (_ : Nat); dsimp only; omega)
  · have e1 : ab_lo = -2147483648 := rfl
    have e2 : ab_hi = 2147483647 := rfl
    repeat' first | (intro z hz zl zh hq; have e := hq rfl (by omega) (by omega); subst e; clear hz hq) | (intro z hz zl zh h1 h2; have e := and63 (by omega) (by omega) hz; subst e; clear hz h1 h2) | (intro h; exact absurd h (by decide)) | (intro h; exact absurd rfl h) | refine And.intro ?_ ?_ | intro _ | refine Or.inl ⟨by omega, by omega, ?_⟩ | refine Or.inr ?_ | exact trivial
    all_goals first
      | omega
      | trivial
      | (show J0 _ _ _ _; refine (hJ0 _ _ _ _).mpr ⟨rfl, ⟨⟨by omega, by omega⟩, by omega, by omega⟩, flT_0 h0, (fun _ => Nat.zero_le _), fun z => absurd z (by decide)⟩)

set_option maxHeartbeats 8000000 in
set_option maxRecDepth 20000 in
theorem k174xd {Z : sm_Z} (hZ : Z.2.2.2 = tb_N) (m : wk_M) (n : Int) (n0 : 0 ≤ n) (n1 : n ≤ 251) (h0 : fl0 m.2) : wC Z 1 174 [] [.inr (.inl 46), .inr (.inl 60), .inr (.inl 62), .inl n] m (fun r m' => ∃ v : Int, r = some (.inl v) ∧ m' = m ∧ ((v = 1 ∧ (∃ d, flX m.2 d ∧ flR m.2 60 62 n d)) ∨ (v = 0 ∧ ¬ (∃ d, flX m.2 d ∧ flR m.2 60 62 n d)))) := by
  obtain ⟨J0, hJ0⟩ : ∃ J : Int →Int →Int64 → wk_M → Prop, ∀ na k y m', J na k y m' ↔ (m' = m ∧ n = na ∧ (0 ≤ k ∧ k ≤ 4) ∧ ∀ j, fX y j ↔ tcA m.2 60 62 n k j) := ⟨_, fun _ _ _ _ => Iff.rfl⟩
  refine wC.gen fun Q hQ => wk_E hZ (by exact rfl) [(6, [(3, 46), (3, 60), (3, 62), (1, 0), (2, 0), (0, 0), (1, 0)], fun vs ls m' => (match vs, ls with
    | [na, k], [y] => J0 na k y m'
    | _, _ => False), fun vs _ m' => (match vs with
    | [na, k] => (4 - k : Int).toNat
    | _ => 0))] rfl (fun hr hs => ⟨?_, trivial⟩) (fun hr hs => ?_)
  · have e1 : ab_lo = -2147483648 := rfl
    have e2 : ab_hi = 2147483647 := rfl
    intro m2 hr2 hf2 na nal nah y k kl kh hI
    have hI := (hJ0 _ _ _ _).mp hI
    obtain ⟨rfl, rfl, ⟨k0, k1⟩, hy⟩ := hI
    repeat' first | (intro h; exact absurd h (by decide)) | (intro h; exact absurd rfl h) | refine And.intro ?_ ?_ | intro _ | refine Or.inl ⟨by omega, by omega, ?_⟩ | refine Or.inr ?_ | exact trivial
    all_goals first
      | omega
      | (show (4 - (_ : Int) : Int).toNat < (4 - (_ : Int) : Int).toNat; omega)
      | exact hQ _ _ ⟨_, rfl, rfl, Or.inl ⟨rfl, (tc_y (by omega) h0 hy).mp (fun z => absurd ((lg_y (by assumption)).mpr z) (by omega))⟩⟩
      | exact hQ _ _ ⟨_, rfl, rfl, Or.inr ⟨rfl, fun q => (tc_y (by omega) h0 hy).mpr q ((lg_y (by assumption)).mp (by omega))⟩⟩
      | (show J0 _ _ _ _; refine (hJ0 _ _ _ _).mpr ⟨rfl, rfl, ⟨by omega, by omega⟩, tc_s k0 hy⟩)
  · have e1 : ab_lo = -2147483648 := rfl
    have e2 : ab_hi = 2147483647 := rfl
    repeat' first | (intro h; exact absurd h (by decide)) | (intro h; exact absurd rfl h) | refine And.intro ?_ ?_ | intro _ | refine Or.inl ⟨by omega, by omega, ?_⟩ | refine Or.inr ?_ | exact trivial
    all_goals first
      | omega
      | trivial
      | (show J0 _ _ _ _; refine (hJ0 _ _ _ _).mpr ⟨rfl, rfl, ⟨by omega, by omega⟩, tc_0 (by omega)⟩)

set_option maxHeartbeats 8000000 in
set_option maxRecDepth 20000 in
theorem k172xd {Z : sm_Z} (hZ : Z.2.2.2 = tb_N) (m : wk_M) (b : Int) (b0 : 0 ≤ b) (b1 : b ≤ 1) (hw : rgW m.2 60 ∧ rgW m.2 62) (h0 : fl0 m.2) : wC Z 2 172 [63] [.inr (.inl 46), .inr (.inl 60), .inr (.inl 62), .inl b] m (fun r m' => r = none ∧ fl0 m'.2 ∧ ∀ c, flX m'.2 c ↔ rs (flQ b m.2 60 62) (flX m.2) nS c) := by
  obtain ⟨J0, hJ0⟩ : ∃ J : Int →Int →Int → wk_M → Prop, ∀ ba g rd m', J ba g rd m' ↔ (b = ba ∧ ((0 ≤ rd ∧ rd ≤ 300) ∧ 0 ≤ g ∧ g ≤ 1) ∧ flT b m.2 60 62 m'.2 ∧ (g = 1 → rd.toNat ≤ flC m'.2) ∧ (g = 0 → ∀ x, 0 ≤ x → x ≤ 251 → flV b m.2 60 62 m'.2 x)) := ⟨_, fun _ _ _ _ => Iff.rfl⟩
  obtain ⟨J1, hJ1⟩ : ∃ J : Int →Int →Int →Int → wk_M → Prop, ∀ ba g rd n m', J ba g rd n m' ↔ (b = ba ∧ ((0 ≤ rd ∧ rd < 300) ∧ (0 ≤ g ∧ g ≤ 1) ∧ 0 ≤ n ∧ n ≤ 252) ∧ flG b m.2 60 62 m'.2 g rd n) := ⟨_, fun _ _ _ _ _ => Iff.rfl⟩
  obtain ⟨J2, hJ2⟩ : ∃ J : Int →Int →Int →Int →Int → wk_M → Prop, ∀ ba g rd n k m', J ba g rd n k m' ↔ (b = ba ∧ ((0 ≤ rd ∧ rd < 300) ∧ (0 ≤ g ∧ g ≤ 1) ∧ (0 ≤ n ∧ n < 252) ∧ 0 ≤ k ∧ k ≤ 4) ∧ flG b m.2 60 62 m'.2 g rd n ∧ flK b m.2 60 62 m'.2 n k) := ⟨_, fun _ _ _ _ _ _ => Iff.rfl⟩
  refine wC.gen fun Q hQ => wk_E hZ (by exact rfl) [(6, [(3, 46), (3, 60), (3, 62), (1, 0), (1, 0), (1, 0), (0, 0), (0, 0), (0, 0), (0, 0)], fun vs _ m' => (match vs with
    | [ba, g, rd] => J0 ba g rd m'
    | _ => False), fun vs _ m' => (match vs with
    | [ba, g, rd] => ((300 - rd) * 10000 + 9999 : Int).toNat
    | _ => 0)), (25, [(3, 46), (3, 60), (3, 62), (1, 0), (1, 0), (1, 0), (1, 0), (0, 0), (0, 0), (0, 0)], fun vs _ m' => (match vs with
    | [ba, g, rd, n] => J1 ba g rd n m'
    | _ => False), fun vs _ m' => (match vs with
    | [ba, g, rd, n] => ((300 - rd) * 10000 + (252 - n) * 10 + 9 : Int).toNat
    | _ => 0)), (80, [(3, 46), (3, 60), (3, 62), (1, 0), (1, 0), (1, 0), (1, 0), (1, 0), (0, 0), (0, 0)], fun vs _ m' => (match vs with
    | [ba, g, rd, n, k] => J2 ba g rd n k m'
    | _ => False), fun vs _ m' => (match vs with
    | [ba, g, rd, n, k] => ((300 - rd) * 10000 + (252 - n) * 10 + (4 - k) : Int).toNat
    | _ => 0))] rfl (fun hr hs => ⟨?_, ⟨?_, ⟨?_, trivial⟩⟩⟩) (fun hr hs => ?_)
  · have e1 : ab_lo = -2147483648 := rfl
    have e2 : ab_hi = 2147483647 := rfl
    intro m2 hr2 hf2 ba bal bah g gl gh rd rdl rdh hI
    have hI := (hJ0 _ _ _ _).mp hI
    obtain ⟨rfl, ⟨⟨r0, r1⟩, g0, g1⟩, hT, hc, hv⟩ := hI
    have hle : flC m2.2 ≤ 252 := cnP_le _
    repeat' first | (intro z hz zl zh hq; have e := hq rfl (by omega) (by omega); subst e; clear hz hq) | (intro z hz zl zh h1 h2; have e := and63 (by omega) (by omega) hz; subst e; clear hz h1 h2) | (intro h; exact absurd h (by decide)) | (intro h; exact absurd rfl h) | refine And.intro ?_ ?_ | intro _ | refine Or.inl ⟨by omega, by omega, ?_⟩ | refine Or.inr ?_ | exact trivial
    all_goals first
      | omega
      | (show ((300 - (_ : Int)) * 10000 + 9999 : Int).toNat < ((300 - (_ : Int)) * 10000 + 9999 : Int).toNat; omega)
      | exact hQ _ _ ⟨rfl, hT.2.2, fl_fin hT (by by_cases z : g = 0; exact hv z; (exfalso; have := hc (by omega); omega))⟩
      | exact hQ _ _ ⟨rfl, hT.2.2, fl_fin hT (hv (by omega))⟩
      | (show J1 _ _ _ _ _; refine (hJ1 _ _ _ _ _).mpr ⟨rfl, ⟨⟨by omega, by omega⟩, ⟨by omega, by omega⟩, by omega, by omega⟩, hT, hc (by omega), (fun z => absurd z (by decide)), fun _ x x0 x1 => by omega⟩)
      | (show (_ : Nat) < (_ : Nat); dsimp only; omega)
  · have e1 : ab_lo = -2147483648 := rfl
    have e2 : ab_hi = 2147483647 := rfl
    intro m2 hr2 hf2 ba bal bah g gl gh rd rdl rdh n nl nh hI
    have hI := (hJ1 _ _ _ _ _).mp hI
    obtain ⟨rfl, ⟨⟨r0, r1⟩, ⟨g0, g1⟩, n0, n1⟩, hG⟩ := hI
    have eP : m2.2 60 = m.2 60 := (hf2 60 (by decide)).2
    have eQ : m2.2 62 = m.2 62 := (hf2 62 (by decide)).2
    have e1 : flR m2.2 60 62 = flR m.2 60 62 := by
      funext n c
      unfold flR rwB
      first
        | rw [eP, eQ]
        | rw [eP]
    repeat' first | (intro z hz zl zh hq; have e := hq rfl (by omega) (by omega); subst e; clear hz hq) | (intro z hz zl zh h1 h2; have e := and63 (by omega) (by omega) hz; subst e; clear hz h1 h2) | (intro h; exact absurd h (by decide)) | (intro h; exact absurd rfl h) | refine And.intro ?_ ?_ | intro _ | refine Or.inl ⟨by omega, by omega, ?_⟩ | refine Or.inr ?_ | exact trivial | (refine wk_use (k173x63 hZ _ _ (by omega) (by omega)) rfl rfl ?_; rintro - _ _ - - - ⟨_, rfl, hm, ⟨rfl, hs⟩ | ⟨rfl, hs⟩⟩ <;> refine Or.inl ⟨[], hm, ?_⟩ <;> clear hm) | (refine wk_use (k174xd hZ _ _ (by omega) (by omega) hG.1.2.2) rfl rfl ?_; rintro - _ _ - - - ⟨_, rfl, hm, ⟨rfl, hx⟩ | ⟨rfl, hx⟩⟩ <;> (rw [e1] at hx) <;> refine Or.inl ⟨[], hm, ?_⟩ <;> clear hm)
    all_goals first
      | omega
      | (show ((300 - (_ : Int)) * 10000 + (252 - (_ : Int)) * 10 + 9 : Int).toNat < ((300 - (_ : Int)) * 10000 + (252 - (_ : Int)) * 10 + 9 : Int).toNat; omega)
      | (show J0 _ _ _ _; refine (hJ0 _ _ _ _).mpr ⟨rfl, ⟨⟨by omega, by omega⟩, by omega, by omega⟩, hG.1, hG.2.2.1, fun z x x0 x1 => hG.2.2.2 z x x0 (by omega)⟩)
      | (show J1 _ _ _ _ _; refine (hJ1 _ _ _ _ _).mpr ⟨rfl, ⟨⟨by omega, by omega⟩, ⟨by omega, by omega⟩, by omega, by omega⟩, flG_n hG ⟨fun z => absurd z (by omega), fun _ _ => ⟨⟨by omega, by omega⟩, hs⟩⟩⟩)
      | (show J1 _ _ _ _ _; refine (hJ1 _ _ _ _ _).mpr ⟨rfl, ⟨⟨by omega, by omega⟩, ⟨by omega, by omega⟩, by omega, by omega⟩, flG_n hG ⟨fun z => absurd z (by omega), fun _ q => absurd q hx⟩⟩)
      | (show J1 _ _ _ _ _; refine (hJ1 _ _ _ _ _).mpr ⟨rfl, ⟨⟨by omega, by omega⟩, ⟨by omega, by omega⟩, by omega, by omega⟩, flG_n hG ⟨fun _ q => absurd q.2 hs, fun z => absurd (by omega) z⟩⟩)
      | (show J2 _ _ _ _ _ _; refine (hJ2 _ _ _ _ _ _).mpr ⟨rfl, ⟨⟨by omega, by omega⟩, ⟨by omega, by omega⟩, ⟨by omega, by omega⟩, by omega, by omega⟩, hG, Or.inl ⟨by omega, ⟨by omega, by omega⟩, hs⟩, fun c c0 c1 ck => by omega⟩)
      | (show J2 _ _ _ _ _ _; refine (hJ2 _ _ _ _ _ _).mpr ⟨rfl, ⟨⟨by omega, by omega⟩, ⟨by omega, by omega⟩, ⟨by omega, by omega⟩, by omega, by omega⟩, hG, Or.inr ⟨by omega, hx⟩, fun c c0 c1 ck => by omega⟩)
      | (show (_ : Nat) < (_ : Nat); dsimp only; omega)
  · have e1 : ab_lo = -2147483648 := rfl
    have e2 : ab_hi = 2147483647 := rfl
    intro m2 hr2 hf2 ba bal bah g gl gh rd rdl rdh n nl nh k kl kh hI
    have hI := (hJ2 _ _ _ _ _ _).mp hI
    obtain ⟨rfl, ⟨⟨r0, r1⟩, ⟨g0, g1⟩, ⟨n0, n1⟩, k0, k1⟩, hG, hK⟩ := hI
    have eP : m2.2 60 = m.2 60 := (hf2 60 (by decide)).2
    have eQ : m2.2 62 = m.2 62 := (hf2 62 (by decide)).2
    repeat' first | (intro z hz zl zh hq; have e := hq rfl (by omega) (by omega); subst e; clear hz hq) | (intro z hz zl zh h1 h2; have e := and63 (by omega) (by omega) hz; subst e; clear hz h1 h2) | (intro h; exact absurd h (by decide)) | (intro h; exact absurd rfl h) | refine And.intro ?_ ?_ | intro _ | refine Or.inl ⟨by omega, by omega, ?_⟩ | refine Or.inr ?_ | exact trivial
    all_goals first
      | omega
      | (show ((300 - (_ : Int)) * 10000 + (252 - (_ : Int)) * 10 + (4 - (_ : Int)) : Int).toNat < ((300 - (_ : Int)) * 10000 + (252 - (_ : Int)) * 10 + (4 - (_ : Int)) : Int).toNat; omega)
      | (show J1 _ _ _ _ _; refine (hJ1 _ _ _ _ _).mpr ⟨rfl, ⟨⟨by omega, by omega⟩, ⟨by omega, by omega⟩, by omega, by omega⟩, flG_n hG (flV_k n0 (by omega) (by omega) hK)⟩)
      | (show J2 _ _ _ _ _ _; refine (hJ2 _ _ _ _ _ _).mpr ⟨rfl, ⟨⟨by omega, by omega⟩, ⟨by omega, by omega⟩, ⟨by omega, by omega⟩, by omega, by omega⟩, fl_go k0 (by omega) n0 (by omega) r0 hw hG hK (fun _ => by simp (decide := true) only [wk_ul_at, wk_u_2, wk_ul_1, and_self, and_true, true_and, and_false, false_and, if_true, if_false] <;> rfl) (fun c c0 c1 ck => by (first | rw [fX_or, eP, eQ] | rw [fX_or, eP]); unfold flR rwB; rw [ck]; exact ⟨fun q => Or.inl ⟨by omega, q⟩, fun q => q.elim (fun q => q.2) (fun q => absurd (by omega) q.1)⟩) (by first | exact Or.inl ⟨rfl, Or.inl (by omega)⟩ | exact Or.inl ⟨rfl, Or.inr (fun z => absurd ((lg_e (by assumption)).mpr z) (by omega))⟩ | exact Or.inr ⟨rfl, by omega, (lg_e (by assumption)).mp (by omega)⟩)⟩)
      | (show J2 _ _ _ _ _ _; refine (hJ2 _ _ _ _ _ _).mpr ⟨rfl, ⟨⟨by omega, by omega⟩, ⟨by omega, by omega⟩, ⟨by omega, by omega⟩, by omega, by omega⟩, fl_go k0 (by omega) n0 (by omega) r0 hw hG hK (fun _ => by simp (decide := true) only [wk_ul_at, wk_u_2, wk_ul_1, and_self, and_true, true_and, and_false, false_and, if_true, if_false] <;> rfl) (fun c c0 c1 ck => (fX_one (a := n % 64) (by omega) (by omega)).trans ⟨fun q => Or.inr ⟨by omega, by omega⟩, fun q => q.elim (fun q => absurd q.1 (by omega)) (fun q => by omega)⟩) (by first | exact Or.inl ⟨rfl, Or.inl (by omega)⟩ | exact Or.inl ⟨rfl, Or.inr (fun z => absurd ((lg_e (by assumption)).mpr z) (by omega))⟩ | exact Or.inr ⟨rfl, by omega, (lg_e (by assumption)).mp (by omega)⟩)⟩)
      | (show J2 _ _ _ _ _ _; refine (hJ2 _ _ _ _ _ _).mpr ⟨rfl, ⟨⟨by omega, by omega⟩, ⟨by omega, by omega⟩, ⟨by omega, by omega⟩, by omega, by omega⟩, fl_go k0 (by omega) n0 (by omega) r0 hw hG hK (fun _ => by simp (decide := true) only [wk_ul_at, wk_u_2, wk_ul_1, and_self, and_true, true_and, and_false, false_and, if_true, if_false] <;> rfl) (T := Int64.ofNat 0) (fun c c0 c1 ck => ⟨fun q => absurd q fX_no, fun q => q.elim (fun q => absurd q.1 (by omega)) (fun q => by omega)⟩) (by first | exact Or.inl ⟨rfl, Or.inl (by omega)⟩ | exact Or.inl ⟨rfl, Or.inr (fun z => absurd ((lg_e (by assumption)).mpr z) (by omega))⟩ | exact Or.inr ⟨rfl, by omega, (lg_e (by assumption)).mp (by omega)⟩)⟩)
      | (show (_ : Nat) < (_ : Nat); dsimp only; omega)
  · have e1 : ab_lo = -2147483648 := rfl
    have e2 : ab_hi = 2147483647 := rfl
    repeat' first | (intro z hz zl zh hq; have e := hq rfl (by omega) (by omega); subst e; clear hz hq) | (intro z hz zl zh h1 h2; have e := and63 (by omega) (by omega) hz; subst e; clear hz h1 h2) | (intro h; exact absurd h (by decide)) | (intro h; exact absurd rfl h) | refine And.intro ?_ ?_ | intro _ | refine Or.inl ⟨by omega, by omega, ?_⟩ | refine Or.inr ?_ | exact trivial
    all_goals first
      | omega
      | trivial
      | (show J0 _ _ _ _; refine (hJ0 _ _ _ _).mpr ⟨rfl, ⟨⟨by omega, by omega⟩, by omega, by omega⟩, flT_0 h0, (fun _ => Nat.zero_le _), fun z => absurd z (by decide)⟩)
