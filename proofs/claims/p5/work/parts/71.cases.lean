theorem dp_nok_of {cl : List vw_C} {own : String} {Ts : List Cond} {i ci N : Nat} {fs : List (Option (Option Nat))} {Cn : String} {T : u_T} {t : Nat → FieldType} (hl : fs.length = N) (h1 : cl[ci]? = some (Cn, T, N)) (h2 : ∀ w ∈ u_ws Cn T N, w ∈ Ts) (h3 : ∀ k, k < N → parseFieldDescriptor (T k).2.2.1 = some (t k)) (h4 : Cond.classLink own i Cn ∈ Ts) (h5 : Cond.instantiable Cn N ∈ Ts) (h6 : Cond.initialized Cn ∈ Ts) (h7 : ∀ j, j < N → ∀ ad : Nat → Nat, defaultValue (t j) = vp_V (fs.mapIdx (sm_f ad (fun _ => 0))) j) (h8 : ∀ ad ad' : Nat → Nat, fs.mapIdx (sm_f ad (fun _ => 0)) = fs.mapIdx (sm_f ad' (fun _ => 0))) : dp_nok cl own Ts i (ci, fs) := by
  subst hl
  exact ⟨Cn, T, t, h1, h2, h3, h4, h5, h6, h7, h8⟩
theorem tb_lit0 (ad : Nat → Nat) : List.mapIdx (sm_f ad (fun _ => 0)) ([some none, some none, some none, some none, some none, some none, some none, none] : List (Option (Option Nat))) = [.null, .null, .null, .null, .null, .null, .null, .int 0] := by
  simp only [List.mapIdx_cons, List.mapIdx_nil, sm_f]
theorem tb_dv0 : ∀ j, j < 8 → defaultValue (tb_t0 j) = vp_V [.null, .null, .null, .null, .null, .null, .null, .int 0] j := by decide +kernel
theorem tb_lit10 (ad : Nat → Nat) : List.mapIdx (sm_f ad (fun _ => 0)) ([none, some none, some none, some none, some none, none, none, some none, some none, some none, some none, some none, some none, some none, some none, some none, some none, some none, some none, some none, none, none, some none, some none, none, none, none, some none, some none, some none, none, some none, some none, some none, none, some none, some none, some none] : List (Option (Option Nat))) = [.int 0, .null, .null, .null, .null, .int 0, .int 0, .null, .null, .null, .null, .null, .null, .null, .null, .null, .null, .null, .null, .null, .int 0, .int 0, .null, .null, .int 0, .int 0, .int 0, .null, .null, .null, .int 0, .null, .null, .null, .int 0, .null, .null, .null] := by
  simp only [List.mapIdx_cons, List.mapIdx_nil, sm_f]
theorem tb_dv10 : ∀ j, j < 38 → defaultValue (tb_t10 j) = vp_V [.int 0, .null, .null, .null, .null, .int 0, .int 0, .null, .null, .null, .null, .null, .null, .null, .null, .null, .null, .null, .null, .null, .int 0, .int 0, .null, .null, .int 0, .int 0, .int 0, .null, .null, .null, .int 0, .null, .null, .null, .int 0, .null, .null, .null] j := by decide +kernel
def tb_eL : List (Nat × Nat × List (Option (Option Nat))) := [(7, 0, [some none, some none, some none, some none, some none, some none, some none, none]), (10, 10, [none, some none, some none, some none, some none, none, none, some none, some none, some none, some none, some none, some none, some none, some none, some none, some none, some none, some none, some none, none, none, some none, some none, none, none, none, some none, some none, some none, none, some none, some none, some none, none, some none, some none, some none])]
theorem tb_eL_0 : dp_nok tb_cl "ProgramSlicesLaw" tb_W 7 (0, [some none, some none, some none, some none, some none, some none, some none, none]) := dp_nok_of (N := 8) rfl rfl tb_u0 tb_y0 tb_w1006 tb_w1007 tb_w89 (fun j hj ad => by rw [tb_lit0]; exact tb_dv0 j hj) (fun ad ad' => (tb_lit0 ad).trans (tb_lit0 ad').symm)
theorem tb_eL_1 : dp_nok tb_cl "ProgramSlicesLaw" tb_W 10 (10, [none, some none, some none, some none, some none, none, none, some none, some none, some none, some none, some none, some none, some none, some none, some none, some none, some none, some none, some none, none, none, some none, some none, none, none, none, some none, some none, some none, none, some none, some none, some none, none, some none, some none, some none]) := dp_nok_of (N := 38) rfl rfl tb_u10 tb_y10 tb_w1008 tb_w1009 tb_w677 (fun j hj ad => by rw [tb_lit10]; exact tb_dv10 j hj) (fun ad ad' => (tb_lit10 ad).trans (tb_lit10 ad').symm)
theorem tb_eL_ok : ∀ e ∈ tb_eL, dp_nok tb_cl "ProgramSlicesLaw" tb_W e.1 e.2 := List.forall_mem_cons.mpr ⟨tb_eL_0, List.forall_mem_cons.mpr ⟨tb_eL_1, fun _ h => absurd h List.not_mem_nil⟩⟩
/-! the script -/
def sm_scr (X : sm_X) (b Ln : Nat) (xs : Nat → Int32) : Prop := match X with
  | ((l, D, cA, NW), p, e, R, s, m, args, below, meth, c, nL, A, H0, Q, n0, s0) => va_X b Ln xs s H0 ∧ b < H0.size ∧ ¬ A b
theorem sm_sld {cl : List vw_C} {X : sm_X} {cc : ByteArray} {n : Nat} {own : String} {Ts : List Cond} {ret : Option FieldType} {rm : Room} {N S : Nat} {ini : Bool} (hX : sm_ok cl X cc n own Ts ret rm N S ini) {pc : Nat} {L : List (Option Value)} {r : List Value} {ad : Nat → Nat} {sh : sm_S} {μ : sm_M} {Ln : Nat} {xs : Nat → Int32} (hS : sm_scr X (ad 1000) Ln xs) {i : Int32} (hi : vp_in i Ln) (d : decode cc pc = .ok (.iaload, 1)) (k : sm_E cl X (pc + 1) L (.int (xs i.toNatClampNeg) :: r) ad sh μ) : sm_E cl X pc L (.int i :: .ref 1000 :: r) ad sh μ := by
  obtain ⟨⟨l, D, cA, NW⟩, pr, e, R, s, m, args, below, meth, c, nL, A, H0, Q, n0, s0⟩ := X
  obtain ⟨hx, hb, hml, hn, hown, hts, hK, hlk, hrt, hR, hA, hc0, hs0, hin, hnw⟩ := hX
  exact fun ls H locs cells slots g1 g2 h1 h2 h3 h4 => va_sld hx hb hS.1 hS.2.1 hS.2.2 h4 hi d (k ls H locs cells slots g1 g2 h1 h2 h3 h4)
theorem sm_slen {cl : List vw_C} {X : sm_X} {cc : ByteArray} {n : Nat} {own : String} {Ts : List Cond} {ret : Option FieldType} {rm : Room} {N S : Nat} {ini : Bool} (hX : sm_ok cl X cc n own Ts ret rm N S ini) {pc : Nat} {L : List (Option Value)} {r : List Value} {ad : Nat → Nat} {sh : sm_S} {μ : sm_M} {Ln : Nat} {xs : Nat → Int32} (hS : sm_scr X (ad 1000) Ln xs) (d : decode cc pc = .ok (.arraylength, 1)) (k : sm_E cl X (pc + 1) L (.int (Int32.ofNat Ln) :: r) ad sh μ) : sm_E cl X pc L (.ref 1000 :: r) ad sh μ := by
  obtain ⟨⟨l, D, cA, NW⟩, pr, e, R, s, m, args, below, meth, c, nL, A, H0, Q, n0, s0⟩ := X
  obtain ⟨hx, hb, hml, hn, hown, hts, hK, hlk, hrt, hR, hA, hc0, hs0, hin, hnw⟩ := hX
  exact fun ls H locs cells slots g1 g2 h1 h2 h3 h4 => va_slen hx hb hS.1 hS.2.1 hS.2.2 h4 d (k ls H locs cells slots g1 g2 h1 h2 h3 h4)
/-! what holds between the law's calls -/
def lwI (μ : sm_M) : Prop := ab_mu rG μ ∧ CI (wk_of μ).1 ∧ RI (wk_of μ).1
theorem lw_i {Z : sm_Z} {l j : Nat} {W : List Nat} {As : List wk_V} {m : wk_M} {P : Int → wk_M → Prop} (h : wC Z l j W As m (fun r m' => ∃ v : Int, r = some (.inl v) ∧ P v m')) {μ : sm_M} (e : wk_of μ = m) (gm : ab_mu rG μ) (hs : wk_sv As) {ad : Nat → Nat} {av : List Value} (ha : As.map wk_c = av) : sm_C tb_cl Z (tb_ys j) (tb_ws j) (dp_rm l (32 * l) ev_s2 ev_s2) av ad ev_s2 μ (fun r sh' μ' => (∃ v : Int32, r = some (.int v) ∧ P v.toInt (wk_of μ')) ∧ sh' = ev_s2 ∧ ab_mu rG μ' ∧ wk_fr W (wk_of μ') m) := by
  subst ha
  refine sm_C.imp (h μ ad e gm hs) (fun r sh' μ' q => ?_)
  obtain ⟨q1, q2, q3, r', q4, q5, v, q6, q7⟩ := q
  subst q6 q4
  have q5 : ab_lo ≤ v ∧ v ≤ ab_hi := q5
  have f := wk_fr_of q3
  rw [e] at f
  refine ⟨⟨Int32.ofInt v, rfl, ?_⟩, q1, q2, f⟩
  rw [wk_ti q5]
  exact q7
theorem wk_t1 {Z : sm_Z} {l j : Nat} {W : List Nat} {As : List wk_V} {m : wk_M} (h : wC Z l j W As m (fun r _ => ∃ v : Int, r = some (.inl v))) : wC Z l j W As m (fun r _ => ∃ v : Int, r = some (.inl v) ∧ True) := h.imp (fun _ _ _ _ _ _ q => q.elim fun v e => ⟨v, e, trivial⟩)
theorem lw_n {Z : sm_Z} {l j : Nat} {W : List Nat} {As : List wk_V} {m : wk_M} {P : Option wk_V → wk_M → Prop} (h : wC Z l j W As m P) {μ : sm_M} (e : wk_of μ = m) (gm : ab_mu rG μ) (hs : wk_sv As) {ad : Nat → Nat} {av : List Value} (ha : As.map wk_c = av) : sm_C tb_cl Z (tb_ys j) (tb_ws j) (dp_rm l (32 * l) ev_s2 ev_s2) av ad ev_s2 μ (fun r sh' μ' => (∃ r', r = Option.map wk_c r' ∧ P r' (wk_of μ')) ∧ sh' = ev_s2 ∧ ab_mu rG μ' ∧ wk_fr W (wk_of μ') m) := by
  subst ha
  refine sm_C.imp (h μ ad e gm hs) (fun r sh' μ' q => ?_)
  obtain ⟨q1, q2, q3, r', q4, q5, q6⟩ := q
  have f := wk_fr_of q3
  rw [e] at f
  exact ⟨⟨r', q4, q6⟩, q1, q2, f⟩
theorem lw_in {i : Int} {Ln : Nat} (i0 : 0 ≤ i) (i1 : i + 5 ≤ (Ln : Int)) (hN : Ln ≤ 2560) (k : Int) (k0 : 0 ≤ k) (k1 : k ≤ 4) : vp_in (Int32.ofInt i + Int32.ofInt k) Ln := by
  rw [← Int32.ofInt_add]
  exact wk_vin ⟨by show (-2147483648 : Int) ≤ _; omega, by show _ ≤ (2147483647 : Int); omega⟩ (by omega) (by omega)
theorem lw_in0 {i : Int} {Ln : Nat} (i0 : 0 ≤ i) (i1 : i + 5 ≤ (Ln : Int)) (hN : Ln ≤ 2560) : vp_in (Int32.ofInt i) Ln := wk_vin ⟨by show (-2147483648 : Int) ≤ _; omega, by show _ ≤ (2147483647 : Int); omega⟩ i0 (by omega)

theorem lw_10 {Z : sm_Z} (hZ : Z.2.2.2 = tb_N) {μ : sm_M} (h : lwI μ) (ad : Nat → Nat) (x0 x1 x2 x3 : Int32) : sm_C tb_cl Z (tb_ys 10) (tb_ws 10) (dp_rm 4 (32 * 4) ev_s2 ev_s2) [.ref 0, .int x0, .int x1, .int x2, .int x3] ad ev_s2 μ (fun r sh' μ' => (∃ v : Int32, r = some (.int v)) ∧ sh' = ev_s2 ∧ lwI μ') := by
  obtain ⟨gm, hC, hR⟩ := h
  refine sm_C.imp (lw_i (k10 hZ _ x0.toInt x1.toInt x2.toInt x3.toInt hC) rfl gm (As := [.inr (.inl 0), .inl x0.toInt, .inl x1.toInt, .inl x2.toInt, .inl x3.toInt]) ⟨trivial, ⟨ab_min x0, ab_max x0⟩, ⟨ab_min x1, ab_max x1⟩, ⟨ab_min x2, ab_max x2⟩, ⟨ab_min x3, ab_max x3⟩, trivial⟩ (ad := ad) (by show [Value.ref 0, .int (Int32.ofInt x0.toInt), .int (Int32.ofInt x1.toInt), .int (Int32.ofInt x2.toInt), .int (Int32.ofInt x3.toInt)] = _; rw [wk_io x0, wk_io x1, wk_io x2, wk_io x3])) (fun r sh' μ' q => ?_)
  obtain ⟨⟨v, q0, q1⟩, q2, q3, hf⟩ := q
  refine ⟨⟨v, q0⟩, q2, q3, q1, RI_fr hf (by decide) rfl hR⟩
theorem lw_19 {Z : sm_Z} (hZ : Z.2.2.2 = tb_N) {μ : sm_M} (h : lwI μ) (ad : Nat → Nat)  : sm_C tb_cl Z (tb_ys 19) (tb_ws 19) (dp_rm 3 (32 * 3) ev_s2 ev_s2) [.ref 0] ad ev_s2 μ (fun r sh' μ' => r = none ∧ sh' = ev_s2 ∧ lwI μ') := by
  obtain ⟨gm, hC, hR⟩ := h
  refine sm_C.imp (lw_n (k19 hZ _ ) rfl gm (As := [.inr (.inl 0)]) ⟨trivial, trivial⟩ (ad := ad) (rfl)) (fun r sh' μ' q => ?_)
  obtain ⟨⟨r', q0, e6, q1⟩, q2, q3, hf⟩ := q
  subst e6
  refine ⟨q0, q2, q3, q1, RI_fr hf (by decide) rfl hR⟩
theorem lw_25 {Z : sm_Z} (hZ : Z.2.2.2 = tb_N) {μ : sm_M} (h : lwI μ) (ad : Nat → Nat)  : sm_C tb_cl Z (tb_ys 25) (tb_ws 25) (dp_rm 6 (32 * 6) ev_s2 ev_s2) [.ref 0] ad ev_s2 μ (fun r sh' μ' => (∃ v : Int32, r = some (.int v)) ∧ sh' = ev_s2 ∧ lwI μ') := by
  obtain ⟨gm, hC, hR⟩ := h
  refine sm_C.imp (lw_i (k25 hZ _ hC) rfl gm (As := [.inr (.inl 0)]) ⟨trivial, trivial⟩ (ad := ad) (rfl)) (fun r sh' μ' q => ?_)
  obtain ⟨⟨v, q0, q1⟩, q2, q3, hf⟩ := q
  refine ⟨⟨v, q0⟩, q2, q3, q1, RI_fr hf (by decide) rfl hR⟩
theorem lw_80 {Z : sm_Z} (hZ : Z.2.2.2 = tb_N) {μ : sm_M} (h : lwI μ) (ad : Nat → Nat) (x0 : Int32) : sm_C tb_cl Z (tb_ys 80) (tb_ws 80) (dp_rm 2 (32 * 2) ev_s2 ev_s2) [.ref 0, .int x0] ad ev_s2 μ (fun r sh' μ' => (∃ v : Int32, r = some (.int v) ∧ ((v.toInt = 1 ∧ 1 ≤ x0.toInt ∧ x0.toInt ≤ 5) ∨ (v.toInt = 0 ∧ (x0.toInt < 1 ∨ 5 < x0.toInt)))) ∧ sh' = ev_s2 ∧ lwI μ') := by
  obtain ⟨gm, hC, hR⟩ := h
  refine sm_C.imp (lw_i (k80 hZ _ x0.toInt ) rfl gm (As := [.inr (.inl 0), .inl x0.toInt]) ⟨trivial, ⟨ab_min x0, ab_max x0⟩, trivial⟩ (ad := ad) (by show [Value.ref 0, .int (Int32.ofInt x0.toInt)] = _; rw [wk_io x0])) (fun r sh' μ' q => ?_)
  obtain ⟨⟨v, q0, q1⟩, q2, q3, hf⟩ := q
  refine ⟨⟨v, q0, q1⟩, q2, q3, CI_fr hf rfl (by decide) hC, RI_fr hf (by decide) rfl hR⟩
theorem lw_82 {Z : sm_Z} (hZ : Z.2.2.2 = tb_N) {μ : sm_M} (h : lwI μ) (ad : Nat → Nat) (x0 x1 : Int32) : sm_C tb_cl Z (tb_ys 82) (tb_ws 82) (dp_rm 4 (32 * 4) ev_s2 ev_s2) [.ref 0, .int x0, .int x1] ad ev_s2 μ (fun r sh' μ' => (∃ v : Int32, r = some (.int v)) ∧ sh' = ev_s2 ∧ lwI μ') := by
  obtain ⟨gm, hC, hR⟩ := h
  refine sm_C.imp (lw_i (wk_t1 (k82 hZ _ x0.toInt x1.toInt )) rfl gm (As := [.inr (.inl 0), .inl x0.toInt, .inl x1.toInt]) ⟨trivial, ⟨ab_min x0, ab_max x0⟩, ⟨ab_min x1, ab_max x1⟩, trivial⟩ (ad := ad) (by show [Value.ref 0, .int (Int32.ofInt x0.toInt), .int (Int32.ofInt x1.toInt)] = _; rw [wk_io x0, wk_io x1])) (fun r sh' μ' q => ?_)
  obtain ⟨⟨v, q0, q1⟩, q2, q3, hf⟩ := q
  refine ⟨⟨v, q0⟩, q2, q3, CI_fr hf rfl (by decide) hC, RI_fr hf (by decide) rfl hR⟩
theorem lw_86 {Z : sm_Z} (hZ : Z.2.2.2 = tb_N) {μ : sm_M} (h : lwI μ) (ad : Nat → Nat) (x0 x1 x2 : Int32) : sm_C tb_cl Z (tb_ys 86) (tb_ws 86) (dp_rm 2 (32 * 2) ev_s2 ev_s2) [.ref 0, .int x0, .int x1, .int x2] ad ev_s2 μ (fun r sh' μ' => (∃ v : Int32, r = some (.int v)) ∧ sh' = ev_s2 ∧ lwI μ') := by
  obtain ⟨gm, hC, hR⟩ := h
  refine sm_C.imp (lw_i (wk_t1 (k86 hZ _ x0.toInt x1.toInt x2.toInt )) rfl gm (As := [.inr (.inl 0), .inl x0.toInt, .inl x1.toInt, .inl x2.toInt]) ⟨trivial, ⟨ab_min x0, ab_max x0⟩, ⟨ab_min x1, ab_max x1⟩, ⟨ab_min x2, ab_max x2⟩, trivial⟩ (ad := ad) (by show [Value.ref 0, .int (Int32.ofInt x0.toInt), .int (Int32.ofInt x1.toInt), .int (Int32.ofInt x2.toInt)] = _; rw [wk_io x0, wk_io x1, wk_io x2])) (fun r sh' μ' q => ?_)
  obtain ⟨⟨v, q0, q1⟩, q2, q3, hf⟩ := q
  refine ⟨⟨v, q0⟩, q2, q3, CI_fr hf rfl (by decide) hC, RI_fr hf (by decide) rfl hR⟩
theorem lw_88 {Z : sm_Z} (hZ : Z.2.2.2 = tb_N) {μ : sm_M} (h : lwI μ) (ad : Nat → Nat)  : sm_C tb_cl Z (tb_ys 88) (tb_ws 88) (dp_rm 5 (32 * 5) ev_s2 ev_s2) [.ref 0] ad ev_s2 μ (fun r sh' μ' => (∃ v : Int32, r = some (.int v)) ∧ sh' = ev_s2 ∧ lwI μ') := by
  obtain ⟨gm, hC, hR⟩ := h
  refine sm_C.imp (lw_i (k88 hZ _ ) rfl gm (As := [.inr (.inl 0)]) ⟨trivial, trivial⟩ (ad := ad) (rfl)) (fun r sh' μ' q => ?_)
  obtain ⟨⟨v, q0, q1⟩, q2, q3, hf⟩ := q
  refine ⟨⟨v, q0⟩, q2, q3, CI_fr hf rfl (by decide) hC, RI_fr hf (by decide) rfl hR⟩
theorem lw_94 {Z : sm_Z} (hZ : Z.2.2.2 = tb_N) {μ : sm_M} (h : lwI μ) (ad : Nat → Nat) (x0 x1 : Int32) : sm_C tb_cl Z (tb_ys 94) (tb_ws 94) (dp_rm 3 (32 * 3) ev_s2 ev_s2) [.ref 0, .int x0, .int x1] ad ev_s2 μ (fun r sh' μ' => (∃ v : Int32, r = some (.int v)) ∧ sh' = ev_s2 ∧ lwI μ') := by
  obtain ⟨gm, hC, hR⟩ := h
  refine sm_C.imp (lw_i (k94 hZ _ x0.toInt x1.toInt ) rfl gm (As := [.inr (.inl 0), .inl x0.toInt, .inl x1.toInt]) ⟨trivial, ⟨ab_min x0, ab_max x0⟩, ⟨ab_min x1, ab_max x1⟩, trivial⟩ (ad := ad) (by show [Value.ref 0, .int (Int32.ofInt x0.toInt), .int (Int32.ofInt x1.toInt)] = _; rw [wk_io x0, wk_io x1])) (fun r sh' μ' q => ?_)
  obtain ⟨⟨v, q0, q1⟩, q2, q3, hf⟩ := q
  refine ⟨⟨v, q0⟩, q2, q3, CI_fr hf rfl (by decide) hC, RI_fr hf (by decide) rfl hR⟩
theorem lw_96 {Z : sm_Z} (hZ : Z.2.2.2 = tb_N) {μ : sm_M} (h : lwI μ) (ad : Nat → Nat) (x0 x1 x2 : Int32) : sm_C tb_cl Z (tb_ys 96) (tb_ws 96) (dp_rm 3 (32 * 3) ev_s2 ev_s2) [.ref 0, .int x0, .int x1, .int x2] ad ev_s2 μ (fun r sh' μ' => (∃ v : Int32, r = some (.int v)) ∧ sh' = ev_s2 ∧ lwI μ') := by
  obtain ⟨gm, hC, hR⟩ := h
  refine sm_C.imp (lw_i (k96 hZ _ x0.toInt x1.toInt x2.toInt ) rfl gm (As := [.inr (.inl 0), .inl x0.toInt, .inl x1.toInt, .inl x2.toInt]) ⟨trivial, ⟨ab_min x0, ab_max x0⟩, ⟨ab_min x1, ab_max x1⟩, ⟨ab_min x2, ab_max x2⟩, trivial⟩ (ad := ad) (by show [Value.ref 0, .int (Int32.ofInt x0.toInt), .int (Int32.ofInt x1.toInt), .int (Int32.ofInt x2.toInt)] = _; rw [wk_io x0, wk_io x1, wk_io x2])) (fun r sh' μ' q => ?_)
  obtain ⟨⟨v, q0, q1⟩, q2, q3, hf⟩ := q
  refine ⟨⟨v, q0⟩, q2, q3, CI_fr hf rfl (by decide) hC, RI_fr hf (by decide) rfl hR⟩
theorem lw_97 {Z : sm_Z} (hZ : Z.2.2.2 = tb_N) {μ : sm_M} (h : lwI μ) (ad : Nat → Nat) (x0 x1 : Int32) (b0 : 0 ≤ x1.toInt) (b1 : x1.toInt ≤ 1) : sm_C tb_cl Z (tb_ys 97) (tb_ws 97) (dp_rm 5 (32 * 5) ev_s2 ev_s2) [.ref 0, .int x0, .int x1] ad ev_s2 μ (fun r sh' μ' => (∃ v : Int32, r = some (.int v)) ∧ sh' = ev_s2 ∧ lwI μ') := by
  obtain ⟨gm, hC, hR⟩ := h
  refine sm_C.imp (lw_i (k97 hZ _ x0.toInt x1.toInt b0 b1 hC) rfl gm (As := [.inr (.inl 0), .inl x0.toInt, .inl x1.toInt]) ⟨trivial, ⟨ab_min x0, ab_max x0⟩, ⟨ab_min x1, ab_max x1⟩, trivial⟩ (ad := ad) (by show [Value.ref 0, .int (Int32.ofInt x0.toInt), .int (Int32.ofInt x1.toInt)] = _; rw [wk_io x0, wk_io x1])) (fun r sh' μ' q => ?_)
  obtain ⟨⟨v, q0, q1⟩, q2, q3, hf⟩ := q
  refine ⟨⟨v, q0⟩, q2, q3, q1, RI_fr hf (by decide) rfl hR⟩
theorem lw_101 {Z : sm_Z} (hZ : Z.2.2.2 = tb_N) {μ : sm_M} (h : lwI μ) (ad : Nat → Nat)  : sm_C tb_cl Z (tb_ys 101) (tb_ws 101) (dp_rm 7 (32 * 7) ev_s2 ev_s2) [.ref 0] ad ev_s2 μ (fun r sh' μ' => (∃ v : Int32, r = some (.int v)) ∧ sh' = ev_s2 ∧ lwI μ') := by
  obtain ⟨gm, hC, hR⟩ := h
  refine sm_C.imp (lw_i (k101 hZ _ hC) rfl gm (As := [.inr (.inl 0)]) ⟨trivial, trivial⟩ (ad := ad) (rfl)) (fun r sh' μ' q => ?_)
  obtain ⟨⟨v, q0, q1⟩, q2, q3, hf⟩ := q
  refine ⟨⟨v, q0⟩, q2, q3, q1, RI_fr hf (by decide) rfl hR⟩
theorem lw_106 {Z : sm_Z} (hZ : Z.2.2.2 = tb_N) {μ : sm_M} (h : lwI μ) (ad : Nat → Nat) (x0 : Int32) : sm_C tb_cl Z (tb_ys 106) (tb_ws 106) (dp_rm 2 (32 * 2) ev_s2 ev_s2) [.ref 0, .int x0] ad ev_s2 μ (fun r sh' μ' => (∃ v : Int32, r = some (.int v)) ∧ sh' = ev_s2 ∧ lwI μ') := by
  obtain ⟨gm, hC, hR⟩ := h
  refine sm_C.imp (lw_i (k106 hZ _ x0.toInt ) rfl gm (As := [.inr (.inl 0), .inl x0.toInt]) ⟨trivial, ⟨ab_min x0, ab_max x0⟩, trivial⟩ (ad := ad) (by show [Value.ref 0, .int (Int32.ofInt x0.toInt)] = _; rw [wk_io x0])) (fun r sh' μ' q => ?_)
  obtain ⟨⟨v, q0, q1⟩, q2, q3, hf⟩ := q
  refine ⟨⟨v, q0⟩, q2, q3, CI_fr hf rfl (by decide) hC, RI_fr hf (by decide) rfl hR⟩
theorem lw_109 {Z : sm_Z} (hZ : Z.2.2.2 = tb_N) {μ : sm_M} (h : lwI μ) (ad : Nat → Nat) (x0 x1 : Int32) : sm_C tb_cl Z (tb_ys 109) (tb_ws 109) (dp_rm 2 (32 * 2) ev_s2 ev_s2) [.ref 0, .int x0, .int x1] ad ev_s2 μ (fun r sh' μ' => (∃ v : Int32, r = some (.int v)) ∧ sh' = ev_s2 ∧ lwI μ') := by
  obtain ⟨gm, hC, hR⟩ := h
  refine sm_C.imp (lw_i (k109 hZ _ x0.toInt x1.toInt ) rfl gm (As := [.inr (.inl 0), .inl x0.toInt, .inl x1.toInt]) ⟨trivial, ⟨ab_min x0, ab_max x0⟩, ⟨ab_min x1, ab_max x1⟩, trivial⟩ (ad := ad) (by show [Value.ref 0, .int (Int32.ofInt x0.toInt), .int (Int32.ofInt x1.toInt)] = _; rw [wk_io x0, wk_io x1])) (fun r sh' μ' q => ?_)
  obtain ⟨⟨v, q0, q1⟩, q2, q3, hf⟩ := q
  refine ⟨⟨v, q0⟩, q2, q3, CI_fr hf rfl (by decide) hC, RI_fr hf (by decide) rfl hR⟩
theorem lw_111 {Z : sm_Z} (hZ : Z.2.2.2 = tb_N) {μ : sm_M} (h : lwI μ) (ad : Nat → Nat) (x0 x1 : Int32) : sm_C tb_cl Z (tb_ys 111) (tb_ws 111) (dp_rm 7 (32 * 7) ev_s2 ev_s2) [.ref 0, .int x0, .int x1] ad ev_s2 μ (fun r sh' μ' => (∃ v : Int32, r = some (.int v)) ∧ sh' = ev_s2 ∧ lwI μ') := by
  obtain ⟨gm, hC, hR⟩ := h
  refine sm_C.imp (lw_i (wk_t1 (k111 hZ _ x0.toInt x1.toInt hC)) rfl gm (As := [.inr (.inl 0), .inl x0.toInt, .inl x1.toInt]) ⟨trivial, ⟨ab_min x0, ab_max x0⟩, ⟨ab_min x1, ab_max x1⟩, trivial⟩ (ad := ad) (by show [Value.ref 0, .int (Int32.ofInt x0.toInt), .int (Int32.ofInt x1.toInt)] = _; rw [wk_io x0, wk_io x1])) (fun r sh' μ' q => ?_)
  obtain ⟨⟨v, q0, q1⟩, q2, q3, hf⟩ := q
  refine ⟨⟨v, q0⟩, q2, q3, CI_fr hf rfl (by decide) hC, RI_fr hf (by decide) rfl hR⟩
theorem lw_128 {Z : sm_Z} (hZ : Z.2.2.2 = tb_N) {μ : sm_M} (h : lwI μ) (ad : Nat → Nat)  : sm_C tb_cl Z (tb_ys 128) (tb_ws 128) (dp_rm 2 (32 * 2) ev_s2 ev_s2) [.ref 0] ad ev_s2 μ (fun r sh' μ' => (∃ v : Int32, r = some (.int v)) ∧ sh' = ev_s2 ∧ lwI μ') := by
  obtain ⟨gm, hC, hR⟩ := h
  refine sm_C.imp (lw_i (k128 hZ _ ) rfl gm (As := [.inr (.inl 0)]) ⟨trivial, trivial⟩ (ad := ad) (rfl)) (fun r sh' μ' q => ?_)
  obtain ⟨⟨v, q0, q1⟩, q2, q3, hf⟩ := q
  refine ⟨⟨v, q0⟩, q2, q3, CI_fr hf rfl (by decide) hC, RI_fr hf (by decide) rfl hR⟩
theorem lw_130 {Z : sm_Z} (hZ : Z.2.2.2 = tb_N) {μ : sm_M} (h : lwI μ) (ad : Nat → Nat) (x0 : Int32) : sm_C tb_cl Z (tb_ys 130) (tb_ws 130) (dp_rm 2 (32 * 2) ev_s2 ev_s2) [.ref 0, .int x0] ad ev_s2 μ (fun r sh' μ' => (∃ v : Int32, r = some (.int v)) ∧ sh' = ev_s2 ∧ lwI μ') := by
  obtain ⟨gm, hC, hR⟩ := h
  refine sm_C.imp (lw_i (k130 hZ _ x0.toInt ) rfl gm (As := [.inr (.inl 0), .inl x0.toInt]) ⟨trivial, ⟨ab_min x0, ab_max x0⟩, trivial⟩ (ad := ad) (by show [Value.ref 0, .int (Int32.ofInt x0.toInt)] = _; rw [wk_io x0])) (fun r sh' μ' q => ?_)
  obtain ⟨⟨v, q0, q1⟩, q2, q3, hf⟩ := q
  refine ⟨⟨v, q0⟩, q2, q3, CI_fr hf rfl (by decide) hC, RI_fr hf (by decide) rfl hR⟩
theorem lw_132 {Z : sm_Z} (hZ : Z.2.2.2 = tb_N) {μ : sm_M} (h : lwI μ) (ad : Nat → Nat) (x0 x1 : Int32) : sm_C tb_cl Z (tb_ys 132) (tb_ws 132) (dp_rm 2 (32 * 2) ev_s2 ev_s2) [.ref 0, .int x0, .int x1] ad ev_s2 μ (fun r sh' μ' => (∃ v : Int32, r = some (.int v)) ∧ sh' = ev_s2 ∧ lwI μ') := by
  obtain ⟨gm, hC, hR⟩ := h
  refine sm_C.imp (lw_i (k132 hZ _ x0.toInt x1.toInt ) rfl gm (As := [.inr (.inl 0), .inl x0.toInt, .inl x1.toInt]) ⟨trivial, ⟨ab_min x0, ab_max x0⟩, ⟨ab_min x1, ab_max x1⟩, trivial⟩ (ad := ad) (by show [Value.ref 0, .int (Int32.ofInt x0.toInt), .int (Int32.ofInt x1.toInt)] = _; rw [wk_io x0, wk_io x1])) (fun r sh' μ' q => ?_)
  obtain ⟨⟨v, q0, q1⟩, q2, q3, hf⟩ := q
  refine ⟨⟨v, q0⟩, q2, q3, CI_fr hf rfl (by decide) hC, RI_fr hf (by decide) rfl hR⟩
theorem lw_134 {Z : sm_Z} (hZ : Z.2.2.2 = tb_N) {μ : sm_M} (h : lwI μ) (ad : Nat → Nat)  : sm_C tb_cl Z (tb_ys 134) (tb_ws 134) (dp_rm 6 (32 * 6) ev_s2 ev_s2) [.ref 0] ad ev_s2 μ (fun r sh' μ' => (∃ v : Int32, r = some (.int v)) ∧ sh' = ev_s2 ∧ lwI μ') := by
  obtain ⟨gm, hC, hR⟩ := h
  refine sm_C.imp (lw_i (k134 hZ _ hC) rfl gm (As := [.inr (.inl 0)]) ⟨trivial, trivial⟩ (ad := ad) (rfl)) (fun r sh' μ' q => ?_)
  obtain ⟨⟨v, q0, q1⟩, q2, q3, hf⟩ := q
  refine ⟨⟨v, q0⟩, q2, q3, CI_fr hf rfl (by decide) hC, RI_fr hf (by decide) rfl hR⟩
theorem lw_140 {Z : sm_Z} (hZ : Z.2.2.2 = tb_N) {μ : sm_M} (h : lwI μ) (ad : Nat → Nat) (x0 : Int32) : sm_C tb_cl Z (tb_ys 140) (tb_ws 140) (dp_rm 6 (32 * 6) ev_s2 ev_s2) [.ref 0, .int x0] ad ev_s2 μ (fun r sh' μ' => (∃ v : Int32, r = some (.int v)) ∧ sh' = ev_s2 ∧ lwI μ') := by
  obtain ⟨gm, hC, hR⟩ := h
  refine sm_C.imp (lw_i (k140 hZ _ x0.toInt hC) rfl gm (As := [.inr (.inl 0), .inl x0.toInt]) ⟨trivial, ⟨ab_min x0, ab_max x0⟩, trivial⟩ (ad := ad) (by show [Value.ref 0, .int (Int32.ofInt x0.toInt)] = _; rw [wk_io x0])) (fun r sh' μ' q => ?_)
  obtain ⟨⟨v, q0, q1⟩, q2, q3, hf⟩ := q
  refine ⟨⟨v, q0⟩, q2, q3, CI_fr hf rfl (by decide) hC, RI_fr hf (by decide) rfl hR⟩
theorem lw_143 {Z : sm_Z} (hZ : Z.2.2.2 = tb_N) {μ : sm_M} (h : lwI μ) (ad : Nat → Nat) (x0 x1 x2 x3 : Int32) : sm_C tb_cl Z (tb_ys 143) (tb_ws 143) (dp_rm 2 (32 * 2) ev_s2 ev_s2) [.ref 46, .int x0, .int x1, .int x2, .int x3] ad ev_s2 μ (fun r sh' μ' => (∃ v : Int32, r = some (.int v)) ∧ sh' = ev_s2 ∧ lwI μ') := by
  obtain ⟨gm, hC, hR⟩ := h
  refine sm_C.imp (lw_i (k143 hZ _ x0.toInt x1.toInt x2.toInt x3.toInt hR) rfl gm (As := [.inr (.inl 46), .inl x0.toInt, .inl x1.toInt, .inl x2.toInt, .inl x3.toInt]) ⟨trivial, ⟨ab_min x0, ab_max x0⟩, ⟨ab_min x1, ab_max x1⟩, ⟨ab_min x2, ab_max x2⟩, ⟨ab_min x3, ab_max x3⟩, trivial⟩ (ad := ad) (by show [Value.ref 46, .int (Int32.ofInt x0.toInt), .int (Int32.ofInt x1.toInt), .int (Int32.ofInt x2.toInt), .int (Int32.ofInt x3.toInt)] = _; rw [wk_io x0, wk_io x1, wk_io x2, wk_io x3])) (fun r sh' μ' q => ?_)
  obtain ⟨⟨v, q0, q1⟩, q2, q3, hf⟩ := q
  refine ⟨⟨v, q0⟩, q2, q3, CI_fr hf rfl (by decide) hC, q1⟩
theorem lw_145 {Z : sm_Z} (hZ : Z.2.2.2 = tb_N) {μ : sm_M} (h : lwI μ) (ad : Nat → Nat)  : sm_C tb_cl Z (tb_ys 145) (tb_ws 145) (dp_rm 1 (32 * 1) ev_s2 ev_s2) [.ref 46] ad ev_s2 μ (fun r sh' μ' => r = none ∧ sh' = ev_s2 ∧ lwI μ') := by
  obtain ⟨gm, hC, hR⟩ := h
  refine sm_C.imp (lw_n (k145 hZ _ ) rfl gm (As := [.inr (.inl 46)]) ⟨trivial, trivial⟩ (ad := ad) (rfl)) (fun r sh' μ' q => ?_)
  obtain ⟨⟨r', q0, e6, q1⟩, q2, q3, hf⟩ := q
  subst e6
  refine ⟨q0, q2, q3, CI_fr hf rfl (by decide) hC, q1⟩
theorem lw_146 {Z : sm_Z} (hZ : Z.2.2.2 = tb_N) {μ : sm_M} (h : lwI μ) (ad : Nat → Nat)  : sm_C tb_cl Z (tb_ys 146) (tb_ws 146) (dp_rm 8 (32 * 8) ev_s2 ev_s2) [.ref 46] ad ev_s2 μ (fun r sh' μ' => (∃ v : Int32, r = some (.int v)) ∧ sh' = ev_s2 ∧ lwI μ') := by
  obtain ⟨gm, hC, hR⟩ := h
  refine sm_C.imp (lw_i (k146 hZ _ hR) rfl gm (As := [.inr (.inl 46)]) ⟨trivial, trivial⟩ (ad := ad) (rfl)) (fun r sh' μ' q => ?_)
  obtain ⟨⟨v, q0, q1⟩, q2, q3, hf⟩ := q
  refine ⟨⟨v, q0⟩, q2, q3, CI_fr hf rfl (by decide) hC, q1⟩
theorem lw_195 {Z : sm_Z} (hZ : Z.2.2.2 = tb_N) {μ : sm_M} (h : lwI μ) (ad : Nat → Nat) (x0 : Int32) : sm_C tb_cl Z (tb_ys 195) (tb_ws 195) (dp_rm 1 (32 * 1) ev_s2 ev_s2) [.ref 46, .int x0] ad ev_s2 μ (fun r sh' μ' => (∃ v : Int32, r = some (.int v) ∧ ((v.toInt = 1 ∧ 1 ≤ x0.toInt ∧ x0.toInt ≤ 5) ∨ (v.toInt = 0 ∧ (x0.toInt < 1 ∨ 5 < x0.toInt)))) ∧ sh' = ev_s2 ∧ lwI μ') := by
  obtain ⟨gm, hC, hR⟩ := h
  refine sm_C.imp (lw_i (k195 hZ _ x0.toInt ) rfl gm (As := [.inr (.inl 46), .inl x0.toInt]) ⟨trivial, ⟨ab_min x0, ab_max x0⟩, trivial⟩ (ad := ad) (by show [Value.ref 46, .int (Int32.ofInt x0.toInt)] = _; rw [wk_io x0])) (fun r sh' μ' q => ?_)
  obtain ⟨⟨v, q0, q1⟩, q2, q3, hf⟩ := q
  refine ⟨⟨v, q0, q1.1⟩, q2, q3, CI_fr hf rfl (by decide) hC, RI_of q1.2.1 q1.2.2.1 q1.2.2.2 (fr_57 hf rfl) hR⟩
theorem lw_196 {Z : sm_Z} (hZ : Z.2.2.2 = tb_N) {μ : sm_M} (h : lwI μ) (ad : Nat → Nat) (x0 x1 : Int32) : sm_C tb_cl Z (tb_ys 196) (tb_ws 196) (dp_rm 2 (32 * 2) ev_s2 ev_s2) [.ref 46, .int x0, .int x1] ad ev_s2 μ (fun r sh' μ' => (∃ v : Int32, r = some (.int v)) ∧ sh' = ev_s2 ∧ lwI μ') := by
  obtain ⟨gm, hC, hR⟩ := h
  refine sm_C.imp (lw_i (wk_t1 (k196 hZ _ x0.toInt x1.toInt )) rfl gm (As := [.inr (.inl 46), .inl x0.toInt, .inl x1.toInt]) ⟨trivial, ⟨ab_min x0, ab_max x0⟩, ⟨ab_min x1, ab_max x1⟩, trivial⟩ (ad := ad) (by show [Value.ref 46, .int (Int32.ofInt x0.toInt), .int (Int32.ofInt x1.toInt)] = _; rw [wk_io x0, wk_io x1])) (fun r sh' μ' q => ?_)
  obtain ⟨⟨v, q0, q1⟩, q2, q3, hf⟩ := q
  refine ⟨⟨v, q0⟩, q2, q3, CI_fr hf rfl (by decide) hC, RI_fr hf (by decide) rfl hR⟩
theorem lw_198 {Z : sm_Z} (hZ : Z.2.2.2 = tb_N) {μ : sm_M} (h : lwI μ) (ad : Nat → Nat) (x0 x1 x2 : Int32) : sm_C tb_cl Z (tb_ys 198) (tb_ws 198) (dp_rm 2 (32 * 2) ev_s2 ev_s2) [.ref 46, .int x0, .int x1, .int x2] ad ev_s2 μ (fun r sh' μ' => (∃ v : Int32, r = some (.int v)) ∧ sh' = ev_s2 ∧ lwI μ') := by
  obtain ⟨gm, hC, hR⟩ := h
  refine sm_C.imp (lw_i (wk_t1 (k198 hZ _ x0.toInt x1.toInt x2.toInt )) rfl gm (As := [.inr (.inl 46), .inl x0.toInt, .inl x1.toInt, .inl x2.toInt]) ⟨trivial, ⟨ab_min x0, ab_max x0⟩, ⟨ab_min x1, ab_max x1⟩, ⟨ab_min x2, ab_max x2⟩, trivial⟩ (ad := ad) (by show [Value.ref 46, .int (Int32.ofInt x0.toInt), .int (Int32.ofInt x1.toInt), .int (Int32.ofInt x2.toInt)] = _; rw [wk_io x0, wk_io x1, wk_io x2])) (fun r sh' μ' q => ?_)
  obtain ⟨⟨v, q0, q1⟩, q2, q3, hf⟩ := q
  refine ⟨⟨v, q0⟩, q2, q3, CI_fr hf rfl (by decide) hC, RI_fr hf (by decide) rfl hR⟩
theorem lw_199 {Z : sm_Z} (hZ : Z.2.2.2 = tb_N) {μ : sm_M} (h : lwI μ) (ad : Nat → Nat)  : sm_C tb_cl Z (tb_ys 199) (tb_ws 199) (dp_rm 3 (32 * 3) ev_s2 ev_s2) [.ref 46] ad ev_s2 μ (fun r sh' μ' => (∃ v : Int32, r = some (.int v)) ∧ sh' = ev_s2 ∧ lwI μ') := by
  obtain ⟨gm, hC, hR⟩ := h
  refine sm_C.imp (lw_i (k199x hZ _) rfl gm (As := [.inr (.inl 46)]) ⟨trivial, trivial⟩ (ad := ad) (rfl)) (fun r sh' μ' q => ?_)
  obtain ⟨⟨v, q0, q1⟩, q2, q3, hf⟩ := q
  refine ⟨⟨v, q0⟩, q2, q3, CI_fr hf rfl (by decide) hC, RI_fr hf (by decide) rfl hR⟩
theorem lw_175 {Z : sm_Z} (hZ : Z.2.2.2 = tb_N) {μ : sm_M} (h : lwI μ) (ad : Nat → Nat) (x0 x1 : Int32) : sm_C tb_cl Z (tb_ys 175) (tb_ws 175) (dp_rm 7 (32 * 7) ev_s2 ev_s2) [.ref 46, .int x0, .int x1] ad ev_s2 μ (fun r sh' μ' => (∃ v : Int32, r = some (.int v)) ∧ sh' = ev_s2 ∧ lwI μ') := by
  obtain ⟨gm, hC, hR⟩ := h
  refine sm_C.imp (lw_i (k175 hZ _ x0.toInt x1.toInt ) rfl gm (As := [.inr (.inl 46), .inl x0.toInt, .inl x1.toInt]) ⟨trivial, ⟨ab_min x0, ab_max x0⟩, ⟨ab_min x1, ab_max x1⟩, trivial⟩ (ad := ad) (by show [Value.ref 46, .int (Int32.ofInt x0.toInt), .int (Int32.ofInt x1.toInt)] = _; rw [wk_io x0, wk_io x1])) (fun r sh' μ' q => ?_)
  obtain ⟨⟨v, q0, q1⟩, q2, q3, hf⟩ := q
  refine ⟨⟨v, q0⟩, q2, q3, CI_fr hf rfl (by decide) hC, RI_fr hf (by decide) rfl hR⟩
theorem lw_176 {Z : sm_Z} (hZ : Z.2.2.2 = tb_N) {μ : sm_M} (h : lwI μ) (ad : Nat → Nat) (x0 x1 x2 : Int32) : sm_C tb_cl Z (tb_ys 176) (tb_ws 176) (dp_rm 2 (32 * 2) ev_s2 ev_s2) [.ref 46, .int x0, .int x1, .int x2] ad ev_s2 μ (fun r sh' μ' => (∃ v : Int32, r = some (.int v)) ∧ sh' = ev_s2 ∧ lwI μ') := by
  obtain ⟨gm, hC, hR⟩ := h
  refine sm_C.imp (lw_i (k176 hZ _ x0.toInt x1.toInt x2.toInt ) rfl gm (As := [.inr (.inl 46), .inl x0.toInt, .inl x1.toInt, .inl x2.toInt]) ⟨trivial, ⟨ab_min x0, ab_max x0⟩, ⟨ab_min x1, ab_max x1⟩, ⟨ab_min x2, ab_max x2⟩, trivial⟩ (ad := ad) (by show [Value.ref 46, .int (Int32.ofInt x0.toInt), .int (Int32.ofInt x1.toInt), .int (Int32.ofInt x2.toInt)] = _; rw [wk_io x0, wk_io x1, wk_io x2])) (fun r sh' μ' q => ?_)
  obtain ⟨⟨v, q0, q1⟩, q2, q3, hf⟩ := q
  refine ⟨⟨v, q0⟩, q2, q3, CI_fr hf rfl (by decide) hC, RI_fr hf (by decide) rfl hR⟩
theorem lw_177 {Z : sm_Z} (hZ : Z.2.2.2 = tb_N) {μ : sm_M} (h : lwI μ) (ad : Nat → Nat) (x0 x1 : Int32) : sm_C tb_cl Z (tb_ys 177) (tb_ws 177) (dp_rm 4 (32 * 4) ev_s2 ev_s2) [.ref 46, .int x0, .int x1] ad ev_s2 μ (fun r sh' μ' => (∃ v : Int32, r = some (.int v)) ∧ sh' = ev_s2 ∧ lwI μ') := by
  obtain ⟨gm, hC, hR⟩ := h
  refine sm_C.imp (lw_i (k177 hZ _ x0.toInt x1.toInt ) rfl gm (As := [.inr (.inl 46), .inl x0.toInt, .inl x1.toInt]) ⟨trivial, ⟨ab_min x0, ab_max x0⟩, ⟨ab_min x1, ab_max x1⟩, trivial⟩ (ad := ad) (by show [Value.ref 46, .int (Int32.ofInt x0.toInt), .int (Int32.ofInt x1.toInt)] = _; rw [wk_io x0, wk_io x1])) (fun r sh' μ' q => ?_)
  obtain ⟨⟨v, q0, q1⟩, q2, q3, hf⟩ := q
  refine ⟨⟨v, q0⟩, q2, q3, CI_fr hf rfl (by decide) hC, RI_of q1.1 q1.2.1 q1.2.2 (fr_57 hf rfl) hR⟩
theorem lw_180 {Z : sm_Z} (hZ : Z.2.2.2 = tb_N) {μ : sm_M} (h : lwI μ) (ad : Nat → Nat)  : sm_C tb_cl Z (tb_ys 180) (tb_ws 180) (dp_rm 4 (32 * 4) ev_s2 ev_s2) [.ref 46] ad ev_s2 μ (fun r sh' μ' => (∃ v : Int32, r = some (.int v)) ∧ sh' = ev_s2 ∧ lwI μ') := by
  obtain ⟨gm, hC, hR⟩ := h
  refine sm_C.imp (lw_i (k180 hZ _ ) rfl gm (As := [.inr (.inl 46)]) ⟨trivial, trivial⟩ (ad := ad) (rfl)) (fun r sh' μ' q => ?_)
  obtain ⟨⟨v, q0, q1⟩, q2, q3, hf⟩ := q
  refine ⟨⟨v, q0⟩, q2, q3, CI_fr hf rfl (by decide) hC, RI_of q1.1 q1.2.1 q1.2.2 (fr_57 hf rfl) hR⟩
theorem lw_182 {Z : sm_Z} (hZ : Z.2.2.2 = tb_N) {μ : sm_M} (h : lwI μ) (ad : Nat → Nat) (x0 : Int32) : sm_C tb_cl Z (tb_ys 182) (tb_ws 182) (dp_rm 2 (32 * 2) ev_s2 ev_s2) [.ref 46, .int x0] ad ev_s2 μ (fun r sh' μ' => (∃ v : Int32, r = some (.int v)) ∧ sh' = ev_s2 ∧ lwI μ') := by
  obtain ⟨gm, hC, hR⟩ := h
  refine sm_C.imp (lw_i (k182 hZ _ x0.toInt (ab_min x0) (ab_max x0)) rfl gm (As := [.inr (.inl 46), .inl x0.toInt]) ⟨trivial, ⟨ab_min x0, ab_max x0⟩, trivial⟩ (ad := ad) (by show [Value.ref 46, .int (Int32.ofInt x0.toInt)] = _; rw [wk_io x0])) (fun r sh' μ' q => ?_)
  obtain ⟨⟨v, q0, q1⟩, q2, q3, hf⟩ := q
  refine ⟨⟨v, q0⟩, q2, q3, CI_fr hf rfl (by decide) hC, RI_fr hf (by decide) rfl hR⟩
theorem lw_183 {Z : sm_Z} (hZ : Z.2.2.2 = tb_N) {μ : sm_M} (h : lwI μ) (ad : Nat → Nat) (x0 x1 : Int32) : sm_C tb_cl Z (tb_ys 183) (tb_ws 183) (dp_rm 2 (32 * 2) ev_s2 ev_s2) [.ref 46, .int x0, .int x1] ad ev_s2 μ (fun r sh' μ' => (∃ v : Int32, r = some (.int v)) ∧ sh' = ev_s2 ∧ lwI μ') := by
  obtain ⟨gm, hC, hR⟩ := h
  refine sm_C.imp (lw_i (k183 hZ _ x0.toInt x1.toInt ) rfl gm (As := [.inr (.inl 46), .inl x0.toInt, .inl x1.toInt]) ⟨trivial, ⟨ab_min x0, ab_max x0⟩, ⟨ab_min x1, ab_max x1⟩, trivial⟩ (ad := ad) (by show [Value.ref 46, .int (Int32.ofInt x0.toInt), .int (Int32.ofInt x1.toInt)] = _; rw [wk_io x0, wk_io x1])) (fun r sh' μ' q => ?_)
  obtain ⟨⟨v, q0, q1⟩, q2, q3, hf⟩ := q
  refine ⟨⟨v, q0⟩, q2, q3, CI_fr hf rfl (by decide) hC, RI_fr hf (by decide) rfl hR⟩
theorem lw_184 {Z : sm_Z} (hZ : Z.2.2.2 = tb_N) {μ : sm_M} (h : lwI μ) (ad : Nat → Nat) (x0 x1 : Int32) : sm_C tb_cl Z (tb_ys 184) (tb_ws 184) (dp_rm 4 (32 * 4) ev_s2 ev_s2) [.ref 46, .int x0, .int x1] ad ev_s2 μ (fun r sh' μ' => (∃ v : Int32, r = some (.int v)) ∧ sh' = ev_s2 ∧ lwI μ') := by
  obtain ⟨gm, hC, hR⟩ := h
  refine sm_C.imp (lw_i (k184 hZ _ x0.toInt x1.toInt hR.1 hR.2) rfl gm (As := [.inr (.inl 46), .inl x0.toInt, .inl x1.toInt]) ⟨trivial, ⟨ab_min x0, ab_max x0⟩, ⟨ab_min x1, ab_max x1⟩, trivial⟩ (ad := ad) (by show [Value.ref 46, .int (Int32.ofInt x0.toInt), .int (Int32.ofInt x1.toInt)] = _; rw [wk_io x0, wk_io x1])) (fun r sh' μ' q => ?_)
  obtain ⟨⟨v, q0, q1⟩, q2, q3, hf⟩ := q
  refine ⟨⟨v, q0⟩, q2, q3, CI_fr hf rfl (by decide) hC, RI_of q1.1 q1.2.1 q1.2.2 (fr_57 hf rfl) hR⟩
theorem lw_192 {Z : sm_Z} (hZ : Z.2.2.2 = tb_N) {μ : sm_M} (h : lwI μ) (ad : Nat → Nat)  : sm_C tb_cl Z (tb_ys 192) (tb_ws 192) (dp_rm 1 (32 * 1) ev_s2 ev_s2) [.ref 46] ad ev_s2 μ (fun r sh' μ' => (∃ v : Int32, r = some (.int v)) ∧ sh' = ev_s2 ∧ lwI μ') := by
  obtain ⟨gm, hC, hR⟩ := h
  refine sm_C.imp (lw_i (k192 hZ _ ) rfl gm (As := [.inr (.inl 46)]) ⟨trivial, trivial⟩ (ad := ad) (rfl)) (fun r sh' μ' q => ?_)
  obtain ⟨⟨v, q0, q1⟩, q2, q3, hf⟩ := q
  refine ⟨⟨v, q0⟩, q2, q3, CI_fr hf rfl (by decide) hC, RI_fr hf (by decide) rfl hR⟩
theorem lw_193 {Z : sm_Z} (hZ : Z.2.2.2 = tb_N) {μ : sm_M} (h : lwI μ) (ad : Nat → Nat) (x0 : Int32) : sm_C tb_cl Z (tb_ys 193) (tb_ws 193) (dp_rm 1 (32 * 1) ev_s2 ev_s2) [.ref 46, .int x0] ad ev_s2 μ (fun r sh' μ' => (∃ v : Int32, r = some (.int v)) ∧ sh' = ev_s2 ∧ lwI μ') := by
  obtain ⟨gm, hC, hR⟩ := h
  refine sm_C.imp (lw_i (k193 hZ _ x0.toInt ) rfl gm (As := [.inr (.inl 46), .inl x0.toInt]) ⟨trivial, ⟨ab_min x0, ab_max x0⟩, trivial⟩ (ad := ad) (by show [Value.ref 46, .int (Int32.ofInt x0.toInt)] = _; rw [wk_io x0])) (fun r sh' μ' q => ?_)
  obtain ⟨⟨v, q0, q1⟩, q2, q3, hf⟩ := q
  refine ⟨⟨v, q0⟩, q2, q3, CI_fr hf rfl (by decide) hC, RI_fr hf (by decide) rfl hR⟩
theorem lw_194 {Z : sm_Z} (hZ : Z.2.2.2 = tb_N) {μ : sm_M} (h : lwI μ) (ad : Nat → Nat) (x0 x1 : Int32) : sm_C tb_cl Z (tb_ys 194) (tb_ws 194) (dp_rm 2 (32 * 2) ev_s2 ev_s2) [.ref 46, .int x0, .int x1] ad ev_s2 μ (fun r sh' μ' => (∃ v : Int32, r = some (.int v)) ∧ sh' = ev_s2 ∧ lwI μ') := by
  obtain ⟨gm, hC, hR⟩ := h
  refine sm_C.imp (lw_i (k194 hZ _ x0.toInt x1.toInt ) rfl gm (As := [.inr (.inl 46), .inl x0.toInt, .inl x1.toInt]) ⟨trivial, ⟨ab_min x0, ab_max x0⟩, ⟨ab_min x1, ab_max x1⟩, trivial⟩ (ad := ad) (by show [Value.ref 46, .int (Int32.ofInt x0.toInt), .int (Int32.ofInt x1.toInt)] = _; rw [wk_io x0, wk_io x1])) (fun r sh' μ' q => ?_)
  obtain ⟨⟨v, q0, q1⟩, q2, q3, hf⟩ := q
  refine ⟨⟨v, q0⟩, q2, q3, CI_fr hf rfl (by decide) hC, RI_fr hf (by decide) rfl hR⟩
theorem lw_203 {Z : sm_Z} (hZ : Z.2.2.2 = tb_N) {μ : sm_M} (h : lwI μ) (ad : Nat → Nat)  : sm_C tb_cl Z (tb_ys 203) (tb_ws 203) (dp_rm 5 (32 * 5) ev_s2 ev_s2) [.ref 46] ad ev_s2 μ (fun r sh' μ' => (∃ v : Int32, r = some (.int v)) ∧ sh' = ev_s2 ∧ lwI μ') := by
  obtain ⟨gm, hC, hR⟩ := h
  refine sm_C.imp (lw_i (wk_t1 (k203 hZ _ hR.1)) rfl gm (As := [.inr (.inl 46)]) ⟨trivial, trivial⟩ (ad := ad) (rfl)) (fun r sh' μ' q => ?_)
  obtain ⟨⟨v, q0, q1⟩, q2, q3, hf⟩ := q
  refine ⟨⟨v, q0⟩, q2, q3, CI_fr hf rfl (by decide) hC, RI_fr hf (by decide) rfl hR⟩
theorem lw_205 {Z : sm_Z} (hZ : Z.2.2.2 = tb_N) {μ : sm_M} (h : lwI μ) (ad : Nat → Nat) (x0 : Int32) : sm_C tb_cl Z (tb_ys 205) (tb_ws 205) (dp_rm 5 (32 * 5) ev_s2 ev_s2) [.ref 46, .int x0] ad ev_s2 μ (fun r sh' μ' => (∃ v : Int32, r = some (.int v)) ∧ sh' = ev_s2 ∧ lwI μ') := by
  obtain ⟨gm, hC, hR⟩ := h
  refine sm_C.imp (lw_i (wk_t1 (k205 hZ _ x0.toInt hR.1)) rfl gm (As := [.inr (.inl 46), .inl x0.toInt]) ⟨trivial, ⟨ab_min x0, ab_max x0⟩, trivial⟩ (ad := ad) (by show [Value.ref 46, .int (Int32.ofInt x0.toInt)] = _; rw [wk_io x0])) (fun r sh' μ' q => ?_)
  obtain ⟨⟨v, q0, q1⟩, q2, q3, hf⟩ := q
  refine ⟨⟨v, q0⟩, q2, q3, CI_fr hf rfl (by decide) hC, RI_fr hf (by decide) rfl hR⟩
theorem lc_0 {X : sm_X} (hX : sm_ok tb_cl X code 4 "ProgramSlicesLaw" tb_W ret room_1 75 8909 false) (hZ : X.1.2.2.2 = tb_N) {ad : Nat → Nat} {xs : Nat → Int32} {Ln : Nat} (hN : Ln ≤ 2560) (hS : sm_scr X (ad 1000) Ln xs) {i : Int} (i0 : 0 ≤ i) (i1 : i + 5 ≤ (Ln : Int)) (next : ∀ μ : sm_M, lwI μ → sm_E tb_cl X 677 [some (.ref 1000), some (.ref 0), some (.ref 46), some (.int (Int32.ofInt i))] [] ad ev_s2 μ) {μ : sm_M} (h : lwI μ) : sm_E tb_cl X 124 [some (.ref 1000), some (.ref 0), some (.ref 46), some (.int (Int32.ofInt i))] [] ad ev_s2 μ := by
  refine sm_aloadN hX td_L_124 rfl ?_
  refine sm_aloadN hX td_L_125 rfl ?_
  refine sm_iloadN hX td_L_126 rfl ?_
  refine sm_iconst hX td_L_127 ?_
  refine sm_iadd hX td_L_128 ?_
  refine sm_sld hX hS (lw_in i0 i1 hN 1 (by decide) (by decide)) td_L_129 ?_
  refine sm_aloadN hX td_L_130 rfl ?_
  refine sm_iloadN hX td_L_131 rfl ?_
  refine sm_iconst hX td_L_132 ?_
  refine sm_iadd hX td_L_133 ?_
  refine sm_sld hX hS (lw_in i0 i1 hN 2 (by decide) (by decide)) td_L_134 ?_
  refine sm_aloadN hX td_L_135 rfl ?_
  refine sm_iloadN hX td_L_136 rfl ?_
  refine sm_iconst hX td_L_137 ?_
  refine sm_iadd hX td_L_138 ?_
  refine sm_sld hX hS (lw_in i0 i1 hN 3 (by decide) (by decide)) td_L_139 ?_
  refine sm_aloadN hX td_L_140 rfl ?_
  refine sm_iloadN hX td_L_141 rfl ?_
  refine sm_iconst hX td_L_142 ?_
  refine sm_iadd hX td_L_143 ?_
  refine sm_sld hX hS (lw_in i0 i1 hN 4 (by decide) (by decide)) td_L_144 ?_
  refine tb_vL_0 _ X _ _ _ _ _ _ hZ hX _ _ [] ad ev_s2 μ [.ref 0, .int (xs (Int32.ofInt i + Int32.ofInt (1)).toNatClampNeg), .int (xs (Int32.ofInt i + Int32.ofInt (2)).toNatClampNeg), .int (xs (Int32.ofInt i + Int32.ofInt (3)).toNatClampNeg), .int (xs (Int32.ofInt i + Int32.ofInt (4)).toNatClampNeg)] _ _ rfl ⟨0, _, _, rfl, rfl⟩ (lw_10 hZ h ad _ _ _ _) (by decide) (by decide) (by decide) (by decide) (Nat.le_of_ble_eq_true rfl) td_L_145 (fun v ad' sh' μ1 e1 e2 hag hq => ?_)
  obtain ⟨⟨v1, rfl⟩, rfl, h1⟩ := hq
  rw [sm_ag_eq hag]
  refine ⟨Or.inl (by decide), ?_⟩
  refine sm_pop hX td_L_148 rfl ?_
  refine sm_aloadN hX td_L_149 rfl ?_
  refine sm_aloadN hX td_L_150 rfl ?_
  refine sm_iloadN hX td_L_151 rfl ?_
  refine sm_iconst hX td_L_152 ?_
  refine sm_iadd hX td_L_153 ?_
  refine sm_sld hX hS (lw_in i0 i1 hN 1 (by decide) (by decide)) td_L_154 ?_
  refine sm_aloadN hX td_L_155 rfl ?_
  refine sm_iloadN hX td_L_156 rfl ?_
  refine sm_iconst hX td_L_157 ?_
  refine sm_iadd hX td_L_158 ?_
  refine sm_sld hX hS (lw_in i0 i1 hN 2 (by decide) (by decide)) td_L_159 ?_
  refine sm_aloadN hX td_L_160 rfl ?_
  refine sm_iloadN hX td_L_161 rfl ?_
  refine sm_iconst hX td_L_162 ?_
  refine sm_iadd hX td_L_163 ?_
  refine sm_sld hX hS (lw_in i0 i1 hN 3 (by decide) (by decide)) td_L_164 ?_
  refine sm_aloadN hX td_L_165 rfl ?_
  refine sm_iloadN hX td_L_166 rfl ?_
  refine sm_iconst hX td_L_167 ?_
  refine sm_iadd hX td_L_168 ?_
  refine sm_sld hX hS (lw_in i0 i1 hN 4 (by decide) (by decide)) td_L_169 ?_
  refine tb_vL_19 _ X _ _ _ _ _ _ hZ hX _ _ [] ad ev_s2 μ1 [.ref 46, .int (xs (Int32.ofInt i + Int32.ofInt (1)).toNatClampNeg), .int (xs (Int32.ofInt i + Int32.ofInt (2)).toNatClampNeg), .int (xs (Int32.ofInt i + Int32.ofInt (3)).toNatClampNeg), .int (xs (Int32.ofInt i + Int32.ofInt (4)).toNatClampNeg)] _ _ rfl ⟨46, _, _, rfl, rfl⟩ (lw_143 hZ h1 ad _ _ _ _) (by decide) (by decide) (by decide) (by decide) (Nat.le_of_ble_eq_true rfl) td_L_170 (fun v ad' sh' μ2 e1 e2 hag hq => ?_)
  obtain ⟨⟨v2, rfl⟩, rfl, h2⟩ := hq
  rw [sm_ag_eq hag]
  refine ⟨Or.inl (by decide), ?_⟩
  refine sm_pop hX td_L_173 rfl ?_
  refine sm_goto hX 677 td_L_174 (by decide) ?_
  exact next μ2 h2
theorem lc_1 {X : sm_X} (hX : sm_ok tb_cl X code 4 "ProgramSlicesLaw" tb_W ret room_1 75 8909 false) (hZ : X.1.2.2.2 = tb_N) {ad : Nat → Nat} {xs : Nat → Int32} {Ln : Nat} (hN : Ln ≤ 2560) (hS : sm_scr X (ad 1000) Ln xs) {i : Int} (i0 : 0 ≤ i) (i1 : i + 5 ≤ (Ln : Int)) (next : ∀ μ : sm_M, lwI μ → sm_E tb_cl X 677 [some (.ref 1000), some (.ref 0), some (.ref 46), some (.int (Int32.ofInt i))] [] ad ev_s2 μ) {μ : sm_M} (h : lwI μ) : sm_E tb_cl X 177 [some (.ref 1000), some (.ref 0), some (.ref 46), some (.int (Int32.ofInt i))] [] ad ev_s2 μ := by
  refine sm_aloadN hX td_L_177 rfl ?_
  refine tb_vL_1 _ X _ _ _ _ _ _ hZ hX _ _ [] ad ev_s2 μ [.ref 0] _ _ rfl ⟨0, _, _, rfl, rfl⟩ (lw_19 hZ h ad) (by decide) (by decide) (by decide) (by decide) (Nat.le_of_ble_eq_true rfl) td_L_178 (fun v ad' sh' μ1 e1 e2 hag hq => ?_)
  obtain ⟨rfl, rfl, h1⟩ := hq
  rw [sm_ag_eq hag]
  refine ⟨Or.inl (by decide), ?_⟩
  refine sm_aloadN hX td_L_181 rfl ?_
  refine tb_vL_20 _ X _ _ _ _ _ _ hZ hX _ _ [] ad ev_s2 μ1 [.ref 46] _ _ rfl ⟨46, _, _, rfl, rfl⟩ (lw_145 hZ h1 ad) (by decide) (by decide) (by decide) (by decide) (Nat.le_of_ble_eq_true rfl) td_L_182 (fun v ad' sh' μ2 e1 e2 hag hq => ?_)
  obtain ⟨rfl, rfl, h2⟩ := hq
  rw [sm_ag_eq hag]
  refine ⟨Or.inl (by decide), ?_⟩
  refine sm_goto hX 677 td_L_185 (by decide) ?_
  exact next μ2 h2
theorem lc_2 {X : sm_X} (hX : sm_ok tb_cl X code 4 "ProgramSlicesLaw" tb_W ret room_1 75 8909 false) (hZ : X.1.2.2.2 = tb_N) {ad : Nat → Nat} {xs : Nat → Int32} {Ln : Nat} (hN : Ln ≤ 2560) (hS : sm_scr X (ad 1000) Ln xs) {i : Int} (i0 : 0 ≤ i) (i1 : i + 5 ≤ (Ln : Int)) (next : ∀ μ : sm_M, lwI μ → sm_E tb_cl X 677 [some (.ref 1000), some (.ref 0), some (.ref 46), some (.int (Int32.ofInt i))] [] ad ev_s2 μ) {μ : sm_M} (h : lwI μ) : sm_E tb_cl X 188 [some (.ref 1000), some (.ref 0), some (.ref 46), some (.int (Int32.ofInt i))] [] ad ev_s2 μ := by
  refine sm_aloadN hX td_L_188 rfl ?_
  refine tb_vL_2 _ X _ _ _ _ _ _ hZ hX _ _ [] ad ev_s2 μ [.ref 0] _ _ rfl ⟨0, _, _, rfl, rfl⟩ (lw_25 hZ h ad) (by decide) (by decide) (by decide) (by decide) (Nat.le_of_ble_eq_true rfl) td_L_189 (fun v ad' sh' μ1 e1 e2 hag hq => ?_)
  obtain ⟨⟨v1, rfl⟩, rfl, h1⟩ := hq
  rw [sm_ag_eq hag]
  refine ⟨Or.inl (by decide), ?_⟩
  refine sm_pop hX td_L_192 rfl ?_
  refine sm_aloadN hX td_L_193 rfl ?_
  refine tb_vL_21 _ X _ _ _ _ _ _ hZ hX _ _ [] ad ev_s2 μ1 [.ref 46] _ _ rfl ⟨46, _, _, rfl, rfl⟩ (lw_146 hZ h1 ad) (by decide) (by decide) (by decide) (by decide) (Nat.le_of_ble_eq_true rfl) td_L_194 (fun v ad' sh' μ2 e1 e2 hag hq => ?_)
  obtain ⟨⟨v2, rfl⟩, rfl, h2⟩ := hq
  rw [sm_ag_eq hag]
  refine ⟨Or.inl (by decide), ?_⟩
  refine sm_pop hX td_L_197 rfl ?_
  refine sm_goto hX 677 td_L_198 (by decide) ?_
  exact next μ2 h2
theorem lc_3 {X : sm_X} (hX : sm_ok tb_cl X code 4 "ProgramSlicesLaw" tb_W ret room_1 75 8909 false) (hZ : X.1.2.2.2 = tb_N) {ad : Nat → Nat} {xs : Nat → Int32} {Ln : Nat} (hN : Ln ≤ 2560) (hS : sm_scr X (ad 1000) Ln xs) {i : Int} (i0 : 0 ≤ i) (i1 : i + 5 ≤ (Ln : Int)) (next : ∀ μ : sm_M, lwI μ → sm_E tb_cl X 677 [some (.ref 1000), some (.ref 0), some (.ref 46), some (.int (Int32.ofInt i))] [] ad ev_s2 μ) {μ : sm_M} (h : lwI μ) : sm_E tb_cl X 201 [some (.ref 1000), some (.ref 0), some (.ref 46), some (.int (Int32.ofInt i))] [] ad ev_s2 μ := by
  refine sm_aloadN hX td_L_201 rfl ?_
  refine sm_aloadN hX td_L_202 rfl ?_
  refine sm_iloadN hX td_L_203 rfl ?_
  refine sm_iconst hX td_L_204 ?_
  refine sm_iadd hX td_L_205 ?_
  refine sm_sld hX hS (lw_in i0 i1 hN 1 (by decide) (by decide)) td_L_206 ?_
  refine tb_vL_3 _ X _ _ _ _ _ _ hZ hX _ _ [] ad ev_s2 μ [.ref 0, .int (xs (Int32.ofInt i + Int32.ofInt (1)).toNatClampNeg)] _ _ rfl ⟨0, _, _, rfl, rfl⟩ (lw_80 hZ h ad _) (by decide) (by decide) (by decide) (by decide) (Nat.le_of_ble_eq_true rfl) td_L_207 (fun v ad' sh' μ1 e1 e2 hag hq => ?_)
  obtain ⟨⟨v1, rfl, f1⟩, rfl, h1⟩ := hq
  rw [sm_ag_eq hag]
  refine ⟨Or.inl (by decide), ?_⟩
  refine sm_aloadN hX td_L_210 rfl ?_
  refine sm_aloadN hX td_L_211 rfl ?_
  refine sm_iloadN hX td_L_212 rfl ?_
  refine sm_iconst hX td_L_213 ?_
  refine sm_iadd hX td_L_214 ?_
  refine sm_sld hX hS (lw_in i0 i1 hN 1 (by decide) (by decide)) td_L_215 ?_
  refine tb_vL_32 _ X _ _ _ _ _ _ hZ hX _ _ [.int (v1)] ad ev_s2 μ1 [.ref 46, .int (xs (Int32.ofInt i + Int32.ofInt (1)).toNatClampNeg)] _ _ rfl ⟨46, _, _, rfl, rfl⟩ (lw_195 hZ h1 ad _) (by decide) (by decide) (by decide) (by decide) (Nat.le_of_ble_eq_true rfl) td_L_216 (fun v ad' sh' μ2 e1 e2 hag hq => ?_)
  obtain ⟨⟨v2, rfl, f2⟩, rfl, h2⟩ := hq
  rw [sm_ag_eq hag]
  refine ⟨Or.inl (by decide), ?_⟩
  exact sm_icmp_eq hX 677 td_L_219 (by decide) (fun _ => next μ2 h2) (fun z => absurd (Int32.toInt_inj.mp (by omega)) z)
theorem lc_4 {X : sm_X} (hX : sm_ok tb_cl X code 4 "ProgramSlicesLaw" tb_W ret room_1 75 8909 false) (hZ : X.1.2.2.2 = tb_N) {ad : Nat → Nat} {xs : Nat → Int32} {Ln : Nat} (hN : Ln ≤ 2560) (hS : sm_scr X (ad 1000) Ln xs) {i : Int} (i0 : 0 ≤ i) (i1 : i + 5 ≤ (Ln : Int)) (next : ∀ μ : sm_M, lwI μ → sm_E tb_cl X 677 [some (.ref 1000), some (.ref 0), some (.ref 46), some (.int (Int32.ofInt i))] [] ad ev_s2 μ) {μ : sm_M} (h : lwI μ) : sm_E tb_cl X 224 [some (.ref 1000), some (.ref 0), some (.ref 46), some (.int (Int32.ofInt i))] [] ad ev_s2 μ := by
  refine sm_aloadN hX td_L_224 rfl ?_
  refine sm_aloadN hX td_L_225 rfl ?_
  refine sm_iloadN hX td_L_226 rfl ?_
  refine sm_iconst hX td_L_227 ?_
  refine sm_iadd hX td_L_228 ?_
  refine sm_sld hX hS (lw_in i0 i1 hN 1 (by decide) (by decide)) td_L_229 ?_
  refine sm_aloadN hX td_L_230 rfl ?_
  refine sm_iloadN hX td_L_231 rfl ?_
  refine sm_iconst hX td_L_232 ?_
  refine sm_iadd hX td_L_233 ?_
  refine sm_sld hX hS (lw_in i0 i1 hN 2 (by decide) (by decide)) td_L_234 ?_
  refine tb_vL_4 _ X _ _ _ _ _ _ hZ hX _ _ [] ad ev_s2 μ [.ref 0, .int (xs (Int32.ofInt i + Int32.ofInt (1)).toNatClampNeg), .int (xs (Int32.ofInt i + Int32.ofInt (2)).toNatClampNeg)] _ _ rfl ⟨0, _, _, rfl, rfl⟩ (lw_82 hZ h ad _ _) (by decide) (by decide) (by decide) (by decide) (Nat.le_of_ble_eq_true rfl) td_L_235 (fun v ad' sh' μ1 e1 e2 hag hq => ?_)
  obtain ⟨⟨v1, rfl⟩, rfl, h1⟩ := hq
  rw [sm_ag_eq hag]
  refine ⟨Or.inl (by decide), ?_⟩
  refine sm_pop hX td_L_238 rfl ?_
  refine sm_aloadN hX td_L_239 rfl ?_
  refine sm_aloadN hX td_L_240 rfl ?_
  refine sm_iloadN hX td_L_241 rfl ?_
  refine sm_iconst hX td_L_242 ?_
  refine sm_iadd hX td_L_243 ?_
  refine sm_sld hX hS (lw_in i0 i1 hN 1 (by decide) (by decide)) td_L_244 ?_
  refine sm_aloadN hX td_L_245 rfl ?_
  refine sm_iloadN hX td_L_246 rfl ?_
  refine sm_iconst hX td_L_247 ?_
  refine sm_iadd hX td_L_248 ?_
  refine sm_sld hX hS (lw_in i0 i1 hN 2 (by decide) (by decide)) td_L_249 ?_
  refine tb_vL_33 _ X _ _ _ _ _ _ hZ hX _ _ [] ad ev_s2 μ1 [.ref 46, .int (xs (Int32.ofInt i + Int32.ofInt (1)).toNatClampNeg), .int (xs (Int32.ofInt i + Int32.ofInt (2)).toNatClampNeg)] _ _ rfl ⟨46, _, _, rfl, rfl⟩ (lw_196 hZ h1 ad _ _) (by decide) (by decide) (by decide) (by decide) (Nat.le_of_ble_eq_true rfl) td_L_250 (fun v ad' sh' μ2 e1 e2 hag hq => ?_)
  obtain ⟨⟨v2, rfl⟩, rfl, h2⟩ := hq
  rw [sm_ag_eq hag]
  refine ⟨Or.inl (by decide), ?_⟩
  refine sm_pop hX td_L_253 rfl ?_
  refine sm_goto hX 677 td_L_254 (by decide) ?_
  exact next μ2 h2
theorem lc_5 {X : sm_X} (hX : sm_ok tb_cl X code 4 "ProgramSlicesLaw" tb_W ret room_1 75 8909 false) (hZ : X.1.2.2.2 = tb_N) {ad : Nat → Nat} {xs : Nat → Int32} {Ln : Nat} (hN : Ln ≤ 2560) (hS : sm_scr X (ad 1000) Ln xs) {i : Int} (i0 : 0 ≤ i) (i1 : i + 5 ≤ (Ln : Int)) (next : ∀ μ : sm_M, lwI μ → sm_E tb_cl X 677 [some (.ref 1000), some (.ref 0), some (.ref 46), some (.int (Int32.ofInt i))] [] ad ev_s2 μ) {μ : sm_M} (h : lwI μ) : sm_E tb_cl X 257 [some (.ref 1000), some (.ref 0), some (.ref 46), some (.int (Int32.ofInt i))] [] ad ev_s2 μ := by
  refine sm_aloadN hX td_L_257 rfl ?_
  refine sm_aloadN hX td_L_258 rfl ?_
  refine sm_iloadN hX td_L_259 rfl ?_
  refine sm_iconst hX td_L_260 ?_
  refine sm_iadd hX td_L_261 ?_
  refine sm_sld hX hS (lw_in i0 i1 hN 1 (by decide) (by decide)) td_L_262 ?_
  refine sm_if_eq hX 270 td_L_263 (by decide) (fun _ => ?_) (fun _ => ?_)
  · refine sm_iconst hX td_L_270 ?_
    refine sm_aloadN hX td_L_271 rfl ?_
    refine sm_iloadN hX td_L_272 rfl ?_
    refine sm_iconst hX td_L_273 ?_
    refine sm_iadd hX td_L_274 ?_
    refine sm_sld hX hS (lw_in i0 i1 hN 2 (by decide) (by decide)) td_L_275 ?_
    refine sm_aloadN hX td_L_276 rfl ?_
    refine sm_iloadN hX td_L_277 rfl ?_
    refine sm_iconst hX td_L_278 ?_
    refine sm_iadd hX td_L_279 ?_
    refine sm_sld hX hS (lw_in i0 i1 hN 3 (by decide) (by decide)) td_L_280 ?_
    refine tb_vL_5 _ X _ _ _ _ _ _ hZ hX _ _ [] ad ev_s2 μ [.ref 0, .int (Int32.ofInt (0)), .int (xs (Int32.ofInt i + Int32.ofInt (2)).toNatClampNeg), .int (xs (Int32.ofInt i + Int32.ofInt (3)).toNatClampNeg)] _ _ rfl ⟨0, _, _, rfl, rfl⟩ (lw_86 hZ h ad _ _ _) (by decide) (by decide) (by decide) (by decide) (Nat.le_of_ble_eq_true rfl) td_L_281 (fun v ad' sh' μ1 e1 e2 hag hq => ?_)
    obtain ⟨⟨v1, rfl⟩, rfl, h1⟩ := hq
    rw [sm_ag_eq hag]
    refine ⟨Or.inl (by decide), ?_⟩
    refine sm_pop hX td_L_284 rfl ?_
    refine sm_aloadN hX td_L_285 rfl ?_
    refine sm_aloadN hX td_L_286 rfl ?_
    refine sm_iloadN hX td_L_287 rfl ?_
    refine sm_iconst hX td_L_288 ?_
    refine sm_iadd hX td_L_289 ?_
    refine sm_sld hX hS (lw_in i0 i1 hN 1 (by decide) (by decide)) td_L_290 ?_
    refine sm_if_eq hX 298 td_L_291 (by decide) (fun _ => ?_) (fun _ => ?_)
    · refine sm_iconst hX td_L_298 ?_
      refine sm_aloadN hX td_L_299 rfl ?_
      refine sm_iloadN hX td_L_300 rfl ?_
      refine sm_iconst hX td_L_301 ?_
      refine sm_iadd hX td_L_302 ?_
      refine sm_sld hX hS (lw_in i0 i1 hN 2 (by decide) (by decide)) td_L_303 ?_
      refine sm_aloadN hX td_L_304 rfl ?_
      refine sm_iloadN hX td_L_305 rfl ?_
      refine sm_iconst hX td_L_306 ?_
      refine sm_iadd hX td_L_307 ?_
      refine sm_sld hX hS (lw_in i0 i1 hN 3 (by decide) (by decide)) td_L_308 ?_
      refine tb_vL_34 _ X _ _ _ _ _ _ hZ hX _ _ [] ad ev_s2 μ1 [.ref 46, .int (Int32.ofInt (0)), .int (xs (Int32.ofInt i + Int32.ofInt (2)).toNatClampNeg), .int (xs (Int32.ofInt i + Int32.ofInt (3)).toNatClampNeg)] _ _ rfl ⟨46, _, _, rfl, rfl⟩ (lw_198 hZ h1 ad _ _ _) (by decide) (by decide) (by decide) (by decide) (Nat.le_of_ble_eq_true rfl) td_L_309 (fun v ad' sh' μ2 e1 e2 hag hq => ?_)
      obtain ⟨⟨v2, rfl⟩, rfl, h2⟩ := hq
      rw [sm_ag_eq hag]
      refine ⟨Or.inl (by decide), ?_⟩
      refine sm_pop hX td_L_312 rfl ?_
      refine sm_goto hX 677 td_L_313 (by decide) ?_
      exact next μ2 h2
    · refine sm_iconst hX td_L_294 ?_
      refine sm_goto hX 299 td_L_295 (by decide) ?_
      refine sm_aloadN hX td_L_299 rfl ?_
      refine sm_iloadN hX td_L_300 rfl ?_
      refine sm_iconst hX td_L_301 ?_
      refine sm_iadd hX td_L_302 ?_
      refine sm_sld hX hS (lw_in i0 i1 hN 2 (by decide) (by decide)) td_L_303 ?_
      refine sm_aloadN hX td_L_304 rfl ?_
      refine sm_iloadN hX td_L_305 rfl ?_
      refine sm_iconst hX td_L_306 ?_
      refine sm_iadd hX td_L_307 ?_
      refine sm_sld hX hS (lw_in i0 i1 hN 3 (by decide) (by decide)) td_L_308 ?_
      refine tb_vL_34 _ X _ _ _ _ _ _ hZ hX _ _ [] ad ev_s2 μ1 [.ref 46, .int (Int32.ofInt (1)), .int (xs (Int32.ofInt i + Int32.ofInt (2)).toNatClampNeg), .int (xs (Int32.ofInt i + Int32.ofInt (3)).toNatClampNeg)] _ _ rfl ⟨46, _, _, rfl, rfl⟩ (lw_198 hZ h1 ad _ _ _) (by decide) (by decide) (by decide) (by decide) (Nat.le_of_ble_eq_true rfl) td_L_309 (fun v ad' sh' μ2 e1 e2 hag hq => ?_)
      obtain ⟨⟨v2, rfl⟩, rfl, h2⟩ := hq
      rw [sm_ag_eq hag]
      refine ⟨Or.inl (by decide), ?_⟩
      refine sm_pop hX td_L_312 rfl ?_
      refine sm_goto hX 677 td_L_313 (by decide) ?_
      exact next μ2 h2
  · refine sm_iconst hX td_L_266 ?_
    refine sm_goto hX 271 td_L_267 (by decide) ?_
    refine sm_aloadN hX td_L_271 rfl ?_
    refine sm_iloadN hX td_L_272 rfl ?_
    refine sm_iconst hX td_L_273 ?_
    refine sm_iadd hX td_L_274 ?_
    refine sm_sld hX hS (lw_in i0 i1 hN 2 (by decide) (by decide)) td_L_275 ?_
    refine sm_aloadN hX td_L_276 rfl ?_
    refine sm_iloadN hX td_L_277 rfl ?_
    refine sm_iconst hX td_L_278 ?_
    refine sm_iadd hX td_L_279 ?_
    refine sm_sld hX hS (lw_in i0 i1 hN 3 (by decide) (by decide)) td_L_280 ?_
    refine tb_vL_5 _ X _ _ _ _ _ _ hZ hX _ _ [] ad ev_s2 μ [.ref 0, .int (Int32.ofInt (1)), .int (xs (Int32.ofInt i + Int32.ofInt (2)).toNatClampNeg), .int (xs (Int32.ofInt i + Int32.ofInt (3)).toNatClampNeg)] _ _ rfl ⟨0, _, _, rfl, rfl⟩ (lw_86 hZ h ad _ _ _) (by decide) (by decide) (by decide) (by decide) (Nat.le_of_ble_eq_true rfl) td_L_281 (fun v ad' sh' μ1 e1 e2 hag hq => ?_)
    obtain ⟨⟨v1, rfl⟩, rfl, h1⟩ := hq
    rw [sm_ag_eq hag]
    refine ⟨Or.inl (by decide), ?_⟩
    refine sm_pop hX td_L_284 rfl ?_
    refine sm_aloadN hX td_L_285 rfl ?_
    refine sm_aloadN hX td_L_286 rfl ?_
    refine sm_iloadN hX td_L_287 rfl ?_
    refine sm_iconst hX td_L_288 ?_
    refine sm_iadd hX td_L_289 ?_
    refine sm_sld hX hS (lw_in i0 i1 hN 1 (by decide) (by decide)) td_L_290 ?_
    refine sm_if_eq hX 298 td_L_291 (by decide) (fun _ => ?_) (fun _ => ?_)
    · refine sm_iconst hX td_L_298 ?_
      refine sm_aloadN hX td_L_299 rfl ?_
      refine sm_iloadN hX td_L_300 rfl ?_
      refine sm_iconst hX td_L_301 ?_
      refine sm_iadd hX td_L_302 ?_
      refine sm_sld hX hS (lw_in i0 i1 hN 2 (by decide) (by decide)) td_L_303 ?_
      refine sm_aloadN hX td_L_304 rfl ?_
      refine sm_iloadN hX td_L_305 rfl ?_
      refine sm_iconst hX td_L_306 ?_
      refine sm_iadd hX td_L_307 ?_
      refine sm_sld hX hS (lw_in i0 i1 hN 3 (by decide) (by decide)) td_L_308 ?_
      refine tb_vL_34 _ X _ _ _ _ _ _ hZ hX _ _ [] ad ev_s2 μ1 [.ref 46, .int (Int32.ofInt (0)), .int (xs (Int32.ofInt i + Int32.ofInt (2)).toNatClampNeg), .int (xs (Int32.ofInt i + Int32.ofInt (3)).toNatClampNeg)] _ _ rfl ⟨46, _, _, rfl, rfl⟩ (lw_198 hZ h1 ad _ _ _) (by decide) (by decide) (by decide) (by decide) (Nat.le_of_ble_eq_true rfl) td_L_309 (fun v ad' sh' μ2 e1 e2 hag hq => ?_)
      obtain ⟨⟨v2, rfl⟩, rfl, h2⟩ := hq
      rw [sm_ag_eq hag]
      refine ⟨Or.inl (by decide), ?_⟩
      refine sm_pop hX td_L_312 rfl ?_
      refine sm_goto hX 677 td_L_313 (by decide) ?_
      exact next μ2 h2
    · refine sm_iconst hX td_L_294 ?_
      refine sm_goto hX 299 td_L_295 (by decide) ?_
      refine sm_aloadN hX td_L_299 rfl ?_
      refine sm_iloadN hX td_L_300 rfl ?_
      refine sm_iconst hX td_L_301 ?_
      refine sm_iadd hX td_L_302 ?_
      refine sm_sld hX hS (lw_in i0 i1 hN 2 (by decide) (by decide)) td_L_303 ?_
      refine sm_aloadN hX td_L_304 rfl ?_
      refine sm_iloadN hX td_L_305 rfl ?_
      refine sm_iconst hX td_L_306 ?_
      refine sm_iadd hX td_L_307 ?_
      refine sm_sld hX hS (lw_in i0 i1 hN 3 (by decide) (by decide)) td_L_308 ?_
      refine tb_vL_34 _ X _ _ _ _ _ _ hZ hX _ _ [] ad ev_s2 μ1 [.ref 46, .int (Int32.ofInt (1)), .int (xs (Int32.ofInt i + Int32.ofInt (2)).toNatClampNeg), .int (xs (Int32.ofInt i + Int32.ofInt (3)).toNatClampNeg)] _ _ rfl ⟨46, _, _, rfl, rfl⟩ (lw_198 hZ h1 ad _ _ _) (by decide) (by decide) (by decide) (by decide) (Nat.le_of_ble_eq_true rfl) td_L_309 (fun v ad' sh' μ2 e1 e2 hag hq => ?_)
      obtain ⟨⟨v2, rfl⟩, rfl, h2⟩ := hq
      rw [sm_ag_eq hag]
      refine ⟨Or.inl (by decide), ?_⟩
      refine sm_pop hX td_L_312 rfl ?_
      refine sm_goto hX 677 td_L_313 (by decide) ?_
      exact next μ2 h2
theorem lc_6 {X : sm_X} (hX : sm_ok tb_cl X code 4 "ProgramSlicesLaw" tb_W ret room_1 75 8909 false) (hZ : X.1.2.2.2 = tb_N) {ad : Nat → Nat} {xs : Nat → Int32} {Ln : Nat} (hN : Ln ≤ 2560) (hS : sm_scr X (ad 1000) Ln xs) {i : Int} (i0 : 0 ≤ i) (i1 : i + 5 ≤ (Ln : Int)) (next : ∀ μ : sm_M, lwI μ → sm_E tb_cl X 677 [some (.ref 1000), some (.ref 0), some (.ref 46), some (.int (Int32.ofInt i))] [] ad ev_s2 μ) {μ : sm_M} (h : lwI μ) : sm_E tb_cl X 316 [some (.ref 1000), some (.ref 0), some (.ref 46), some (.int (Int32.ofInt i))] [] ad ev_s2 μ := by
  refine sm_aloadN hX td_L_316 rfl ?_
  refine tb_vL_6 _ X _ _ _ _ _ _ hZ hX _ _ [] ad ev_s2 μ [.ref 0] _ _ rfl ⟨0, _, _, rfl, rfl⟩ (lw_88 hZ h ad) (by decide) (by decide) (by decide) (by decide) (Nat.le_of_ble_eq_true rfl) td_L_317 (fun v ad' sh' μ1 e1 e2 hag hq => ?_)
  obtain ⟨⟨v1, rfl⟩, rfl, h1⟩ := hq
  rw [sm_ag_eq hag]
  refine ⟨Or.inl (by decide), ?_⟩
  refine sm_pop hX td_L_320 rfl ?_
  refine sm_aloadN hX td_L_321 rfl ?_
  refine tb_vL_35 _ X _ _ _ _ _ _ hZ hX _ _ [] ad ev_s2 μ1 [.ref 46] _ _ rfl ⟨46, _, _, rfl, rfl⟩ (lw_199 hZ h1 ad) (by decide) (by decide) (by decide) (by decide) (Nat.le_of_ble_eq_true rfl) td_L_322 (fun v ad' sh' μ2 e1 e2 hag hq => ?_)
  obtain ⟨⟨v2, rfl⟩, rfl, h2⟩ := hq
  rw [sm_ag_eq hag]
  refine ⟨Or.inl (by decide), ?_⟩
  refine sm_pop hX td_L_325 rfl ?_
  refine sm_goto hX 677 td_L_326 (by decide) ?_
  exact next μ2 h2
theorem lc_7 {X : sm_X} (hX : sm_ok tb_cl X code 4 "ProgramSlicesLaw" tb_W ret room_1 75 8909 false) (hZ : X.1.2.2.2 = tb_N) {ad : Nat → Nat} {xs : Nat → Int32} {Ln : Nat} (hN : Ln ≤ 2560) (hS : sm_scr X (ad 1000) Ln xs) {i : Int} (i0 : 0 ≤ i) (i1 : i + 5 ≤ (Ln : Int)) (next : ∀ μ : sm_M, lwI μ → sm_E tb_cl X 677 [some (.ref 1000), some (.ref 0), some (.ref 46), some (.int (Int32.ofInt i))] [] ad ev_s2 μ) {μ : sm_M} (h : lwI μ) : sm_E tb_cl X 329 [some (.ref 1000), some (.ref 0), some (.ref 46), some (.int (Int32.ofInt i))] [] ad ev_s2 μ := by
  refine sm_aloadN hX td_L_329 rfl ?_
  refine sm_aloadN hX td_L_330 rfl ?_
  refine sm_iloadN hX td_L_331 rfl ?_
  refine sm_iconst hX td_L_332 ?_
  refine sm_iadd hX td_L_333 ?_
  refine sm_sld hX hS (lw_in i0 i1 hN 1 (by decide) (by decide)) td_L_334 ?_
  refine sm_aloadN hX td_L_335 rfl ?_
  refine sm_iloadN hX td_L_336 rfl ?_
  refine sm_iconst hX td_L_337 ?_
  refine sm_iadd hX td_L_338 ?_
  refine sm_sld hX hS (lw_in i0 i1 hN 2 (by decide) (by decide)) td_L_339 ?_
  refine tb_vL_7 _ X _ _ _ _ _ _ hZ hX _ _ [] ad ev_s2 μ [.ref 0, .int (xs (Int32.ofInt i + Int32.ofInt (1)).toNatClampNeg), .int (xs (Int32.ofInt i + Int32.ofInt (2)).toNatClampNeg)] _ _ rfl ⟨0, _, _, rfl, rfl⟩ (lw_94 hZ h ad _ _) (by decide) (by decide) (by decide) (by decide) (Nat.le_of_ble_eq_true rfl) td_L_340 (fun v ad' sh' μ1 e1 e2 hag hq => ?_)
  obtain ⟨⟨v1, rfl⟩, rfl, h1⟩ := hq
  rw [sm_ag_eq hag]
  refine ⟨Or.inl (by decide), ?_⟩
  refine sm_pop hX td_L_343 rfl ?_
  refine sm_aloadN hX td_L_344 rfl ?_
  refine sm_aloadN hX td_L_345 rfl ?_
  refine sm_iloadN hX td_L_346 rfl ?_
  refine sm_iconst hX td_L_347 ?_
  refine sm_iadd hX td_L_348 ?_
  refine sm_sld hX hS (lw_in i0 i1 hN 1 (by decide) (by decide)) td_L_349 ?_
  refine sm_aloadN hX td_L_350 rfl ?_
  refine sm_iloadN hX td_L_351 rfl ?_
  refine sm_iconst hX td_L_352 ?_
  refine sm_iadd hX td_L_353 ?_
  refine sm_sld hX hS (lw_in i0 i1 hN 2 (by decide) (by decide)) td_L_354 ?_
  refine tb_vL_22 _ X _ _ _ _ _ _ hZ hX _ _ [] ad ev_s2 μ1 [.ref 46, .int (xs (Int32.ofInt i + Int32.ofInt (1)).toNatClampNeg), .int (xs (Int32.ofInt i + Int32.ofInt (2)).toNatClampNeg)] _ _ rfl ⟨46, _, _, rfl, rfl⟩ (lw_175 hZ h1 ad _ _) (by decide) (by decide) (by decide) (by decide) (Nat.le_of_ble_eq_true rfl) td_L_355 (fun v ad' sh' μ2 e1 e2 hag hq => ?_)
  obtain ⟨⟨v2, rfl⟩, rfl, h2⟩ := hq
  rw [sm_ag_eq hag]
  refine ⟨Or.inl (by decide), ?_⟩
  refine sm_pop hX td_L_358 rfl ?_
  refine sm_goto hX 677 td_L_359 (by decide) ?_
  exact next μ2 h2
theorem lc_8 {X : sm_X} (hX : sm_ok tb_cl X code 4 "ProgramSlicesLaw" tb_W ret room_1 75 8909 false) (hZ : X.1.2.2.2 = tb_N) {ad : Nat → Nat} {xs : Nat → Int32} {Ln : Nat} (hN : Ln ≤ 2560) (hS : sm_scr X (ad 1000) Ln xs) {i : Int} (i0 : 0 ≤ i) (i1 : i + 5 ≤ (Ln : Int)) (next : ∀ μ : sm_M, lwI μ → sm_E tb_cl X 677 [some (.ref 1000), some (.ref 0), some (.ref 46), some (.int (Int32.ofInt i))] [] ad ev_s2 μ) {μ : sm_M} (h : lwI μ) : sm_E tb_cl X 362 [some (.ref 1000), some (.ref 0), some (.ref 46), some (.int (Int32.ofInt i))] [] ad ev_s2 μ := by
  refine sm_aloadN hX td_L_362 rfl ?_
  refine sm_aloadN hX td_L_363 rfl ?_
  refine sm_iloadN hX td_L_364 rfl ?_
  refine sm_iconst hX td_L_365 ?_
  refine sm_iadd hX td_L_366 ?_
  refine sm_sld hX hS (lw_in i0 i1 hN 1 (by decide) (by decide)) td_L_367 ?_
  refine sm_aloadN hX td_L_368 rfl ?_
  refine sm_iloadN hX td_L_369 rfl ?_
  refine sm_iconst hX td_L_370 ?_
  refine sm_iadd hX td_L_371 ?_
  refine sm_sld hX hS (lw_in i0 i1 hN 2 (by decide) (by decide)) td_L_372 ?_
  refine sm_aloadN hX td_L_373 rfl ?_
  refine sm_iloadN hX td_L_374 rfl ?_
  refine sm_iconst hX td_L_375 ?_
  refine sm_iadd hX td_L_376 ?_
  refine sm_sld hX hS (lw_in i0 i1 hN 3 (by decide) (by decide)) td_L_377 ?_
  refine tb_vL_8 _ X _ _ _ _ _ _ hZ hX _ _ [] ad ev_s2 μ [.ref 0, .int (xs (Int32.ofInt i + Int32.ofInt (1)).toNatClampNeg), .int (xs (Int32.ofInt i + Int32.ofInt (2)).toNatClampNeg), .int (xs (Int32.ofInt i + Int32.ofInt (3)).toNatClampNeg)] _ _ rfl ⟨0, _, _, rfl, rfl⟩ (lw_96 hZ h ad _ _ _) (by decide) (by decide) (by decide) (by decide) (Nat.le_of_ble_eq_true rfl) td_L_378 (fun v ad' sh' μ1 e1 e2 hag hq => ?_)
  obtain ⟨⟨v1, rfl⟩, rfl, h1⟩ := hq
  rw [sm_ag_eq hag]
  refine ⟨Or.inl (by decide), ?_⟩
  refine sm_pop hX td_L_381 rfl ?_
  refine sm_aloadN hX td_L_382 rfl ?_
  refine sm_aloadN hX td_L_383 rfl ?_
  refine sm_iloadN hX td_L_384 rfl ?_
  refine sm_iconst hX td_L_385 ?_
  refine sm_iadd hX td_L_386 ?_
  refine sm_sld hX hS (lw_in i0 i1 hN 1 (by decide) (by decide)) td_L_387 ?_
  refine sm_aloadN hX td_L_388 rfl ?_
  refine sm_iloadN hX td_L_389 rfl ?_
  refine sm_iconst hX td_L_390 ?_
  refine sm_iadd hX td_L_391 ?_
  refine sm_sld hX hS (lw_in i0 i1 hN 2 (by decide) (by decide)) td_L_392 ?_
  refine sm_aloadN hX td_L_393 rfl ?_
  refine sm_iloadN hX td_L_394 rfl ?_
  refine sm_iconst hX td_L_395 ?_
  refine sm_iadd hX td_L_396 ?_
  refine sm_sld hX hS (lw_in i0 i1 hN 3 (by decide) (by decide)) td_L_397 ?_
  refine tb_vL_23 _ X _ _ _ _ _ _ hZ hX _ _ [] ad ev_s2 μ1 [.ref 46, .int (xs (Int32.ofInt i + Int32.ofInt (1)).toNatClampNeg), .int (xs (Int32.ofInt i + Int32.ofInt (2)).toNatClampNeg), .int (xs (Int32.ofInt i + Int32.ofInt (3)).toNatClampNeg)] _ _ rfl ⟨46, _, _, rfl, rfl⟩ (lw_176 hZ h1 ad _ _ _) (by decide) (by decide) (by decide) (by decide) (Nat.le_of_ble_eq_true rfl) td_L_398 (fun v ad' sh' μ2 e1 e2 hag hq => ?_)
  obtain ⟨⟨v2, rfl⟩, rfl, h2⟩ := hq
  rw [sm_ag_eq hag]
  refine ⟨Or.inl (by decide), ?_⟩
  refine sm_pop hX td_L_401 rfl ?_
  refine sm_goto hX 677 td_L_402 (by decide) ?_
  exact next μ2 h2
theorem lc_9 {X : sm_X} (hX : sm_ok tb_cl X code 4 "ProgramSlicesLaw" tb_W ret room_1 75 8909 false) (hZ : X.1.2.2.2 = tb_N) {ad : Nat → Nat} {xs : Nat → Int32} {Ln : Nat} (hN : Ln ≤ 2560) (hS : sm_scr X (ad 1000) Ln xs) {i : Int} (i0 : 0 ≤ i) (i1 : i + 5 ≤ (Ln : Int)) (next : ∀ μ : sm_M, lwI μ → sm_E tb_cl X 677 [some (.ref 1000), some (.ref 0), some (.ref 46), some (.int (Int32.ofInt i))] [] ad ev_s2 μ) {μ : sm_M} (h : lwI μ) : sm_E tb_cl X 405 [some (.ref 1000), some (.ref 0), some (.ref 46), some (.int (Int32.ofInt i))] [] ad ev_s2 μ := by
  refine sm_aloadN hX td_L_405 rfl ?_
  refine sm_aloadN hX td_L_406 rfl ?_
  refine sm_iloadN hX td_L_407 rfl ?_
  refine sm_iconst hX td_L_408 ?_
  refine sm_iadd hX td_L_409 ?_
  refine sm_sld hX hS (lw_in i0 i1 hN 1 (by decide) (by decide)) td_L_410 ?_
  refine sm_aloadN hX td_L_411 rfl ?_
  refine sm_iloadN hX td_L_412 rfl ?_
  refine sm_iconst hX td_L_413 ?_
  refine sm_iadd hX td_L_414 ?_
  refine sm_sld hX hS (lw_in i0 i1 hN 2 (by decide) (by decide)) td_L_415 ?_
  refine sm_if_eq hX 423 td_L_416 (by decide) (fun _ => ?_) (fun _ => ?_)
  · refine sm_iconst hX td_L_423 ?_
    refine tb_vL_9 _ X _ _ _ _ _ _ hZ hX _ _ [] ad ev_s2 μ [.ref 0, .int (xs (Int32.ofInt i + Int32.ofInt (1)).toNatClampNeg), .int (Int32.ofInt (0))] _ _ rfl ⟨0, _, _, rfl, rfl⟩ (lw_97 hZ h ad _ _ (by decide) (by decide)) (by decide) (by decide) (by decide) (by decide) (Nat.le_of_ble_eq_true rfl) td_L_424 (fun v ad' sh' μ1 e1 e2 hag hq => ?_)
    obtain ⟨⟨v1, rfl⟩, rfl, h1⟩ := hq
    rw [sm_ag_eq hag]
    refine ⟨Or.inl (by decide), ?_⟩
    refine sm_pop hX td_L_427 rfl ?_
    refine sm_aloadN hX td_L_428 rfl ?_
    refine sm_aloadN hX td_L_429 rfl ?_
    refine sm_iloadN hX td_L_430 rfl ?_
    refine sm_iconst hX td_L_431 ?_
    refine sm_iadd hX td_L_432 ?_
    refine sm_sld hX hS (lw_in i0 i1 hN 1 (by decide) (by decide)) td_L_433 ?_
    refine sm_aloadN hX td_L_434 rfl ?_
    refine sm_iloadN hX td_L_435 rfl ?_
    refine sm_iconst hX td_L_436 ?_
    refine sm_iadd hX td_L_437 ?_
    refine sm_sld hX hS (lw_in i0 i1 hN 2 (by decide) (by decide)) td_L_438 ?_
    refine sm_if_eq hX 446 td_L_439 (by decide) (fun _ => ?_) (fun _ => ?_)
    · refine sm_iconst hX td_L_446 ?_
      refine tb_vL_24 _ X _ _ _ _ _ _ hZ hX _ _ [] ad ev_s2 μ1 [.ref 46, .int (xs (Int32.ofInt i + Int32.ofInt (1)).toNatClampNeg), .int (Int32.ofInt (0))] _ _ rfl ⟨46, _, _, rfl, rfl⟩ (lw_177 hZ h1 ad _ _) (by decide) (by decide) (by decide) (by decide) (Nat.le_of_ble_eq_true rfl) td_L_447 (fun v ad' sh' μ2 e1 e2 hag hq => ?_)
      obtain ⟨⟨v2, rfl⟩, rfl, h2⟩ := hq
      rw [sm_ag_eq hag]
      refine ⟨Or.inl (by decide), ?_⟩
      refine sm_pop hX td_L_450 rfl ?_
      refine sm_goto hX 677 td_L_451 (by decide) ?_
      exact next μ2 h2
    · refine sm_iconst hX td_L_442 ?_
      refine sm_goto hX 447 td_L_443 (by decide) ?_
      refine tb_vL_24 _ X _ _ _ _ _ _ hZ hX _ _ [] ad ev_s2 μ1 [.ref 46, .int (xs (Int32.ofInt i + Int32.ofInt (1)).toNatClampNeg), .int (Int32.ofInt (1))] _ _ rfl ⟨46, _, _, rfl, rfl⟩ (lw_177 hZ h1 ad _ _) (by decide) (by decide) (by decide) (by decide) (Nat.le_of_ble_eq_true rfl) td_L_447 (fun v ad' sh' μ2 e1 e2 hag hq => ?_)
      obtain ⟨⟨v2, rfl⟩, rfl, h2⟩ := hq
      rw [sm_ag_eq hag]
      refine ⟨Or.inl (by decide), ?_⟩
      refine sm_pop hX td_L_450 rfl ?_
      refine sm_goto hX 677 td_L_451 (by decide) ?_
      exact next μ2 h2
  · refine sm_iconst hX td_L_419 ?_
    refine sm_goto hX 424 td_L_420 (by decide) ?_
    refine tb_vL_9 _ X _ _ _ _ _ _ hZ hX _ _ [] ad ev_s2 μ [.ref 0, .int (xs (Int32.ofInt i + Int32.ofInt (1)).toNatClampNeg), .int (Int32.ofInt (1))] _ _ rfl ⟨0, _, _, rfl, rfl⟩ (lw_97 hZ h ad _ _ (by decide) (by decide)) (by decide) (by decide) (by decide) (by decide) (Nat.le_of_ble_eq_true rfl) td_L_424 (fun v ad' sh' μ1 e1 e2 hag hq => ?_)
    obtain ⟨⟨v1, rfl⟩, rfl, h1⟩ := hq
    rw [sm_ag_eq hag]
    refine ⟨Or.inl (by decide), ?_⟩
    refine sm_pop hX td_L_427 rfl ?_
    refine sm_aloadN hX td_L_428 rfl ?_
    refine sm_aloadN hX td_L_429 rfl ?_
    refine sm_iloadN hX td_L_430 rfl ?_
    refine sm_iconst hX td_L_431 ?_
    refine sm_iadd hX td_L_432 ?_
    refine sm_sld hX hS (lw_in i0 i1 hN 1 (by decide) (by decide)) td_L_433 ?_
    refine sm_aloadN hX td_L_434 rfl ?_
    refine sm_iloadN hX td_L_435 rfl ?_
    refine sm_iconst hX td_L_436 ?_
    refine sm_iadd hX td_L_437 ?_
    refine sm_sld hX hS (lw_in i0 i1 hN 2 (by decide) (by decide)) td_L_438 ?_
    refine sm_if_eq hX 446 td_L_439 (by decide) (fun _ => ?_) (fun _ => ?_)
    · refine sm_iconst hX td_L_446 ?_
      refine tb_vL_24 _ X _ _ _ _ _ _ hZ hX _ _ [] ad ev_s2 μ1 [.ref 46, .int (xs (Int32.ofInt i + Int32.ofInt (1)).toNatClampNeg), .int (Int32.ofInt (0))] _ _ rfl ⟨46, _, _, rfl, rfl⟩ (lw_177 hZ h1 ad _ _) (by decide) (by decide) (by decide) (by decide) (Nat.le_of_ble_eq_true rfl) td_L_447 (fun v ad' sh' μ2 e1 e2 hag hq => ?_)
      obtain ⟨⟨v2, rfl⟩, rfl, h2⟩ := hq
      rw [sm_ag_eq hag]
      refine ⟨Or.inl (by decide), ?_⟩
      refine sm_pop hX td_L_450 rfl ?_
      refine sm_goto hX 677 td_L_451 (by decide) ?_
      exact next μ2 h2
    · refine sm_iconst hX td_L_442 ?_
      refine sm_goto hX 447 td_L_443 (by decide) ?_
      refine tb_vL_24 _ X _ _ _ _ _ _ hZ hX _ _ [] ad ev_s2 μ1 [.ref 46, .int (xs (Int32.ofInt i + Int32.ofInt (1)).toNatClampNeg), .int (Int32.ofInt (1))] _ _ rfl ⟨46, _, _, rfl, rfl⟩ (lw_177 hZ h1 ad _ _) (by decide) (by decide) (by decide) (by decide) (Nat.le_of_ble_eq_true rfl) td_L_447 (fun v ad' sh' μ2 e1 e2 hag hq => ?_)
      obtain ⟨⟨v2, rfl⟩, rfl, h2⟩ := hq
      rw [sm_ag_eq hag]
      refine ⟨Or.inl (by decide), ?_⟩
      refine sm_pop hX td_L_450 rfl ?_
      refine sm_goto hX 677 td_L_451 (by decide) ?_
      exact next μ2 h2
theorem lc_10 {X : sm_X} (hX : sm_ok tb_cl X code 4 "ProgramSlicesLaw" tb_W ret room_1 75 8909 false) (hZ : X.1.2.2.2 = tb_N) {ad : Nat → Nat} {xs : Nat → Int32} {Ln : Nat} (hN : Ln ≤ 2560) (hS : sm_scr X (ad 1000) Ln xs) {i : Int} (i0 : 0 ≤ i) (i1 : i + 5 ≤ (Ln : Int)) (next : ∀ μ : sm_M, lwI μ → sm_E tb_cl X 677 [some (.ref 1000), some (.ref 0), some (.ref 46), some (.int (Int32.ofInt i))] [] ad ev_s2 μ) {μ : sm_M} (h : lwI μ) : sm_E tb_cl X 454 [some (.ref 1000), some (.ref 0), some (.ref 46), some (.int (Int32.ofInt i))] [] ad ev_s2 μ := by
  refine sm_aloadN hX td_L_454 rfl ?_
  refine tb_vL_10 _ X _ _ _ _ _ _ hZ hX _ _ [] ad ev_s2 μ [.ref 0] _ _ rfl ⟨0, _, _, rfl, rfl⟩ (lw_101 hZ h ad) (by decide) (by decide) (by decide) (by decide) (Nat.le_of_ble_eq_true rfl) td_L_455 (fun v ad' sh' μ1 e1 e2 hag hq => ?_)
  obtain ⟨⟨v1, rfl⟩, rfl, h1⟩ := hq
  rw [sm_ag_eq hag]
  refine ⟨Or.inl (by decide), ?_⟩
  refine sm_pop hX td_L_458 rfl ?_
  refine sm_aloadN hX td_L_459 rfl ?_
  refine tb_vL_25 _ X _ _ _ _ _ _ hZ hX _ _ [] ad ev_s2 μ1 [.ref 46] _ _ rfl ⟨46, _, _, rfl, rfl⟩ (lw_180 hZ h1 ad) (by decide) (by decide) (by decide) (by decide) (Nat.le_of_ble_eq_true rfl) td_L_460 (fun v ad' sh' μ2 e1 e2 hag hq => ?_)
  obtain ⟨⟨v2, rfl⟩, rfl, h2⟩ := hq
  rw [sm_ag_eq hag]
  refine ⟨Or.inl (by decide), ?_⟩
  refine sm_pop hX td_L_463 rfl ?_
  refine sm_goto hX 677 td_L_464 (by decide) ?_
  exact next μ2 h2
theorem lc_11 {X : sm_X} (hX : sm_ok tb_cl X code 4 "ProgramSlicesLaw" tb_W ret room_1 75 8909 false) (hZ : X.1.2.2.2 = tb_N) {ad : Nat → Nat} {xs : Nat → Int32} {Ln : Nat} (hN : Ln ≤ 2560) (hS : sm_scr X (ad 1000) Ln xs) {i : Int} (i0 : 0 ≤ i) (i1 : i + 5 ≤ (Ln : Int)) (next : ∀ μ : sm_M, lwI μ → sm_E tb_cl X 677 [some (.ref 1000), some (.ref 0), some (.ref 46), some (.int (Int32.ofInt i))] [] ad ev_s2 μ) {μ : sm_M} (h : lwI μ) : sm_E tb_cl X 467 [some (.ref 1000), some (.ref 0), some (.ref 46), some (.int (Int32.ofInt i))] [] ad ev_s2 μ := by
  refine sm_aloadN hX td_L_467 rfl ?_
  refine sm_aloadN hX td_L_468 rfl ?_
  refine sm_iloadN hX td_L_469 rfl ?_
  refine sm_iconst hX td_L_470 ?_
  refine sm_iadd hX td_L_471 ?_
  refine sm_sld hX hS (lw_in i0 i1 hN 1 (by decide) (by decide)) td_L_472 ?_
  refine tb_vL_11 _ X _ _ _ _ _ _ hZ hX _ _ [] ad ev_s2 μ [.ref 0, .int (xs (Int32.ofInt i + Int32.ofInt (1)).toNatClampNeg)] _ _ rfl ⟨0, _, _, rfl, rfl⟩ (lw_106 hZ h ad _) (by decide) (by decide) (by decide) (by decide) (Nat.le_of_ble_eq_true rfl) td_L_473 (fun v ad' sh' μ1 e1 e2 hag hq => ?_)
  obtain ⟨⟨v1, rfl⟩, rfl, h1⟩ := hq
  rw [sm_ag_eq hag]
  refine ⟨Or.inl (by decide), ?_⟩
  refine sm_pop hX td_L_476 rfl ?_
  refine sm_aloadN hX td_L_477 rfl ?_
  refine sm_aloadN hX td_L_478 rfl ?_
  refine sm_iloadN hX td_L_479 rfl ?_
  refine sm_iconst hX td_L_480 ?_
  refine sm_iadd hX td_L_481 ?_
  refine sm_sld hX hS (lw_in i0 i1 hN 1 (by decide) (by decide)) td_L_482 ?_
  refine tb_vL_26 _ X _ _ _ _ _ _ hZ hX _ _ [] ad ev_s2 μ1 [.ref 46, .int (xs (Int32.ofInt i + Int32.ofInt (1)).toNatClampNeg)] _ _ rfl ⟨46, _, _, rfl, rfl⟩ (lw_182 hZ h1 ad _) (by decide) (by decide) (by decide) (by decide) (Nat.le_of_ble_eq_true rfl) td_L_483 (fun v ad' sh' μ2 e1 e2 hag hq => ?_)
  obtain ⟨⟨v2, rfl⟩, rfl, h2⟩ := hq
  rw [sm_ag_eq hag]
  refine ⟨Or.inl (by decide), ?_⟩
  refine sm_pop hX td_L_486 rfl ?_
  refine sm_goto hX 677 td_L_487 (by decide) ?_
  exact next μ2 h2
theorem lc_12 {X : sm_X} (hX : sm_ok tb_cl X code 4 "ProgramSlicesLaw" tb_W ret room_1 75 8909 false) (hZ : X.1.2.2.2 = tb_N) {ad : Nat → Nat} {xs : Nat → Int32} {Ln : Nat} (hN : Ln ≤ 2560) (hS : sm_scr X (ad 1000) Ln xs) {i : Int} (i0 : 0 ≤ i) (i1 : i + 5 ≤ (Ln : Int)) (next : ∀ μ : sm_M, lwI μ → sm_E tb_cl X 677 [some (.ref 1000), some (.ref 0), some (.ref 46), some (.int (Int32.ofInt i))] [] ad ev_s2 μ) {μ : sm_M} (h : lwI μ) : sm_E tb_cl X 490 [some (.ref 1000), some (.ref 0), some (.ref 46), some (.int (Int32.ofInt i))] [] ad ev_s2 μ := by
  refine sm_aloadN hX td_L_490 rfl ?_
  refine sm_aloadN hX td_L_491 rfl ?_
  refine sm_iloadN hX td_L_492 rfl ?_
  refine sm_iconst hX td_L_493 ?_
  refine sm_iadd hX td_L_494 ?_
  refine sm_sld hX hS (lw_in i0 i1 hN 1 (by decide) (by decide)) td_L_495 ?_
  refine sm_aloadN hX td_L_496 rfl ?_
  refine sm_iloadN hX td_L_497 rfl ?_
  refine sm_iconst hX td_L_498 ?_
  refine sm_iadd hX td_L_499 ?_
  refine sm_sld hX hS (lw_in i0 i1 hN 2 (by decide) (by decide)) td_L_500 ?_
  refine tb_vL_12 _ X _ _ _ _ _ _ hZ hX _ _ [] ad ev_s2 μ [.ref 0, .int (xs (Int32.ofInt i + Int32.ofInt (1)).toNatClampNeg), .int (xs (Int32.ofInt i + Int32.ofInt (2)).toNatClampNeg)] _ _ rfl ⟨0, _, _, rfl, rfl⟩ (lw_109 hZ h ad _ _) (by decide) (by decide) (by decide) (by decide) (Nat.le_of_ble_eq_true rfl) td_L_501 (fun v ad' sh' μ1 e1 e2 hag hq => ?_)
  obtain ⟨⟨v1, rfl⟩, rfl, h1⟩ := hq
  rw [sm_ag_eq hag]
  refine ⟨Or.inl (by decide), ?_⟩
  refine sm_pop hX td_L_504 rfl ?_
  refine sm_aloadN hX td_L_505 rfl ?_
  refine sm_aloadN hX td_L_506 rfl ?_
  refine sm_iloadN hX td_L_507 rfl ?_
  refine sm_iconst hX td_L_508 ?_
  refine sm_iadd hX td_L_509 ?_
  refine sm_sld hX hS (lw_in i0 i1 hN 1 (by decide) (by decide)) td_L_510 ?_
  refine sm_aloadN hX td_L_511 rfl ?_
  refine sm_iloadN hX td_L_512 rfl ?_
  refine sm_iconst hX td_L_513 ?_
  refine sm_iadd hX td_L_514 ?_
  refine sm_sld hX hS (lw_in i0 i1 hN 2 (by decide) (by decide)) td_L_515 ?_
  refine tb_vL_27 _ X _ _ _ _ _ _ hZ hX _ _ [] ad ev_s2 μ1 [.ref 46, .int (xs (Int32.ofInt i + Int32.ofInt (1)).toNatClampNeg), .int (xs (Int32.ofInt i + Int32.ofInt (2)).toNatClampNeg)] _ _ rfl ⟨46, _, _, rfl, rfl⟩ (lw_183 hZ h1 ad _ _) (by decide) (by decide) (by decide) (by decide) (Nat.le_of_ble_eq_true rfl) td_L_516 (fun v ad' sh' μ2 e1 e2 hag hq => ?_)
  obtain ⟨⟨v2, rfl⟩, rfl, h2⟩ := hq
  rw [sm_ag_eq hag]
  refine ⟨Or.inl (by decide), ?_⟩
  refine sm_pop hX td_L_519 rfl ?_
  refine sm_goto hX 677 td_L_520 (by decide) ?_
  exact next μ2 h2
theorem lc_13 {X : sm_X} (hX : sm_ok tb_cl X code 4 "ProgramSlicesLaw" tb_W ret room_1 75 8909 false) (hZ : X.1.2.2.2 = tb_N) {ad : Nat → Nat} {xs : Nat → Int32} {Ln : Nat} (hN : Ln ≤ 2560) (hS : sm_scr X (ad 1000) Ln xs) {i : Int} (i0 : 0 ≤ i) (i1 : i + 5 ≤ (Ln : Int)) (next : ∀ μ : sm_M, lwI μ → sm_E tb_cl X 677 [some (.ref 1000), some (.ref 0), some (.ref 46), some (.int (Int32.ofInt i))] [] ad ev_s2 μ) {μ : sm_M} (h : lwI μ) : sm_E tb_cl X 523 [some (.ref 1000), some (.ref 0), some (.ref 46), some (.int (Int32.ofInt i))] [] ad ev_s2 μ := by
  refine sm_aloadN hX td_L_523 rfl ?_
  refine sm_aloadN hX td_L_524 rfl ?_
  refine sm_iloadN hX td_L_525 rfl ?_
  refine sm_iconst hX td_L_526 ?_
  refine sm_iadd hX td_L_527 ?_
  refine sm_sld hX hS (lw_in i0 i1 hN 1 (by decide) (by decide)) td_L_528 ?_
  refine sm_if_eq hX 536 td_L_529 (by decide) (fun _ => ?_) (fun _ => ?_)
  · refine sm_iconst hX td_L_536 ?_
    refine sm_aloadN hX td_L_537 rfl ?_
    refine sm_iloadN hX td_L_538 rfl ?_
    refine sm_iconst hX td_L_539 ?_
    refine sm_iadd hX td_L_540 ?_
    refine sm_sld hX hS (lw_in i0 i1 hN 2 (by decide) (by decide)) td_L_541 ?_
    refine tb_vL_13 _ X _ _ _ _ _ _ hZ hX _ _ [] ad ev_s2 μ [.ref 0, .int (Int32.ofInt (0)), .int (xs (Int32.ofInt i + Int32.ofInt (2)).toNatClampNeg)] _ _ rfl ⟨0, _, _, rfl, rfl⟩ (lw_111 hZ h ad _ _) (by decide) (by decide) (by decide) (by decide) (Nat.le_of_ble_eq_true rfl) td_L_542 (fun v ad' sh' μ1 e1 e2 hag hq => ?_)
    obtain ⟨⟨v1, rfl⟩, rfl, h1⟩ := hq
    rw [sm_ag_eq hag]
    refine ⟨Or.inl (by decide), ?_⟩
    refine sm_pop hX td_L_545 rfl ?_
    refine sm_aloadN hX td_L_546 rfl ?_
    refine sm_aloadN hX td_L_547 rfl ?_
    refine sm_iloadN hX td_L_548 rfl ?_
    refine sm_iconst hX td_L_549 ?_
    refine sm_iadd hX td_L_550 ?_
    refine sm_sld hX hS (lw_in i0 i1 hN 1 (by decide) (by decide)) td_L_551 ?_
    refine sm_if_eq hX 559 td_L_552 (by decide) (fun _ => ?_) (fun _ => ?_)
    · refine sm_iconst hX td_L_559 ?_
      refine sm_aloadN hX td_L_560 rfl ?_
      refine sm_iloadN hX td_L_561 rfl ?_
      refine sm_iconst hX td_L_562 ?_
      refine sm_iadd hX td_L_563 ?_
      refine sm_sld hX hS (lw_in i0 i1 hN 2 (by decide) (by decide)) td_L_564 ?_
      refine tb_vL_28 _ X _ _ _ _ _ _ hZ hX _ _ [] ad ev_s2 μ1 [.ref 46, .int (Int32.ofInt (0)), .int (xs (Int32.ofInt i + Int32.ofInt (2)).toNatClampNeg)] _ _ rfl ⟨46, _, _, rfl, rfl⟩ (lw_184 hZ h1 ad _ _) (by decide) (by decide) (by decide) (by decide) (Nat.le_of_ble_eq_true rfl) td_L_565 (fun v ad' sh' μ2 e1 e2 hag hq => ?_)
      obtain ⟨⟨v2, rfl⟩, rfl, h2⟩ := hq
      rw [sm_ag_eq hag]
      refine ⟨Or.inl (by decide), ?_⟩
      refine sm_pop hX td_L_568 rfl ?_
      refine sm_goto hX 677 td_L_569 (by decide) ?_
      exact next μ2 h2
    · refine sm_iconst hX td_L_555 ?_
      refine sm_goto hX 560 td_L_556 (by decide) ?_
      refine sm_aloadN hX td_L_560 rfl ?_
      refine sm_iloadN hX td_L_561 rfl ?_
      refine sm_iconst hX td_L_562 ?_
      refine sm_iadd hX td_L_563 ?_
      refine sm_sld hX hS (lw_in i0 i1 hN 2 (by decide) (by decide)) td_L_564 ?_
      refine tb_vL_28 _ X _ _ _ _ _ _ hZ hX _ _ [] ad ev_s2 μ1 [.ref 46, .int (Int32.ofInt (1)), .int (xs (Int32.ofInt i + Int32.ofInt (2)).toNatClampNeg)] _ _ rfl ⟨46, _, _, rfl, rfl⟩ (lw_184 hZ h1 ad _ _) (by decide) (by decide) (by decide) (by decide) (Nat.le_of_ble_eq_true rfl) td_L_565 (fun v ad' sh' μ2 e1 e2 hag hq => ?_)
      obtain ⟨⟨v2, rfl⟩, rfl, h2⟩ := hq
      rw [sm_ag_eq hag]
      refine ⟨Or.inl (by decide), ?_⟩
      refine sm_pop hX td_L_568 rfl ?_
      refine sm_goto hX 677 td_L_569 (by decide) ?_
      exact next μ2 h2
  · refine sm_iconst hX td_L_532 ?_
    refine sm_goto hX 537 td_L_533 (by decide) ?_
    refine sm_aloadN hX td_L_537 rfl ?_
    refine sm_iloadN hX td_L_538 rfl ?_
    refine sm_iconst hX td_L_539 ?_
    refine sm_iadd hX td_L_540 ?_
    refine sm_sld hX hS (lw_in i0 i1 hN 2 (by decide) (by decide)) td_L_541 ?_
    refine tb_vL_13 _ X _ _ _ _ _ _ hZ hX _ _ [] ad ev_s2 μ [.ref 0, .int (Int32.ofInt (1)), .int (xs (Int32.ofInt i + Int32.ofInt (2)).toNatClampNeg)] _ _ rfl ⟨0, _, _, rfl, rfl⟩ (lw_111 hZ h ad _ _) (by decide) (by decide) (by decide) (by decide) (Nat.le_of_ble_eq_true rfl) td_L_542 (fun v ad' sh' μ1 e1 e2 hag hq => ?_)
    obtain ⟨⟨v1, rfl⟩, rfl, h1⟩ := hq
    rw [sm_ag_eq hag]
    refine ⟨Or.inl (by decide), ?_⟩
    refine sm_pop hX td_L_545 rfl ?_
    refine sm_aloadN hX td_L_546 rfl ?_
    refine sm_aloadN hX td_L_547 rfl ?_
    refine sm_iloadN hX td_L_548 rfl ?_
    refine sm_iconst hX td_L_549 ?_
    refine sm_iadd hX td_L_550 ?_
    refine sm_sld hX hS (lw_in i0 i1 hN 1 (by decide) (by decide)) td_L_551 ?_
    refine sm_if_eq hX 559 td_L_552 (by decide) (fun _ => ?_) (fun _ => ?_)
    · refine sm_iconst hX td_L_559 ?_
      refine sm_aloadN hX td_L_560 rfl ?_
      refine sm_iloadN hX td_L_561 rfl ?_
      refine sm_iconst hX td_L_562 ?_
      refine sm_iadd hX td_L_563 ?_
      refine sm_sld hX hS (lw_in i0 i1 hN 2 (by decide) (by decide)) td_L_564 ?_
      refine tb_vL_28 _ X _ _ _ _ _ _ hZ hX _ _ [] ad ev_s2 μ1 [.ref 46, .int (Int32.ofInt (0)), .int (xs (Int32.ofInt i + Int32.ofInt (2)).toNatClampNeg)] _ _ rfl ⟨46, _, _, rfl, rfl⟩ (lw_184 hZ h1 ad _ _) (by decide) (by decide) (by decide) (by decide) (Nat.le_of_ble_eq_true rfl) td_L_565 (fun v ad' sh' μ2 e1 e2 hag hq => ?_)
      obtain ⟨⟨v2, rfl⟩, rfl, h2⟩ := hq
      rw [sm_ag_eq hag]
      refine ⟨Or.inl (by decide), ?_⟩
      refine sm_pop hX td_L_568 rfl ?_
      refine sm_goto hX 677 td_L_569 (by decide) ?_
      exact next μ2 h2
    · refine sm_iconst hX td_L_555 ?_
      refine sm_goto hX 560 td_L_556 (by decide) ?_
      refine sm_aloadN hX td_L_560 rfl ?_
      refine sm_iloadN hX td_L_561 rfl ?_
      refine sm_iconst hX td_L_562 ?_
      refine sm_iadd hX td_L_563 ?_
      refine sm_sld hX hS (lw_in i0 i1 hN 2 (by decide) (by decide)) td_L_564 ?_
      refine tb_vL_28 _ X _ _ _ _ _ _ hZ hX _ _ [] ad ev_s2 μ1 [.ref 46, .int (Int32.ofInt (1)), .int (xs (Int32.ofInt i + Int32.ofInt (2)).toNatClampNeg)] _ _ rfl ⟨46, _, _, rfl, rfl⟩ (lw_184 hZ h1 ad _ _) (by decide) (by decide) (by decide) (by decide) (Nat.le_of_ble_eq_true rfl) td_L_565 (fun v ad' sh' μ2 e1 e2 hag hq => ?_)
      obtain ⟨⟨v2, rfl⟩, rfl, h2⟩ := hq
      rw [sm_ag_eq hag]
      refine ⟨Or.inl (by decide), ?_⟩
      refine sm_pop hX td_L_568 rfl ?_
      refine sm_goto hX 677 td_L_569 (by decide) ?_
      exact next μ2 h2
theorem lc_14 {X : sm_X} (hX : sm_ok tb_cl X code 4 "ProgramSlicesLaw" tb_W ret room_1 75 8909 false) (hZ : X.1.2.2.2 = tb_N) {ad : Nat → Nat} {xs : Nat → Int32} {Ln : Nat} (hN : Ln ≤ 2560) (hS : sm_scr X (ad 1000) Ln xs) {i : Int} (i0 : 0 ≤ i) (i1 : i + 5 ≤ (Ln : Int)) (next : ∀ μ : sm_M, lwI μ → sm_E tb_cl X 677 [some (.ref 1000), some (.ref 0), some (.ref 46), some (.int (Int32.ofInt i))] [] ad ev_s2 μ) {μ : sm_M} (h : lwI μ) : sm_E tb_cl X 572 [some (.ref 1000), some (.ref 0), some (.ref 46), some (.int (Int32.ofInt i))] [] ad ev_s2 μ := by
  refine sm_aloadN hX td_L_572 rfl ?_
  refine tb_vL_14 _ X _ _ _ _ _ _ hZ hX _ _ [] ad ev_s2 μ [.ref 0] _ _ rfl ⟨0, _, _, rfl, rfl⟩ (lw_128 hZ h ad) (by decide) (by decide) (by decide) (by decide) (Nat.le_of_ble_eq_true rfl) td_L_573 (fun v ad' sh' μ1 e1 e2 hag hq => ?_)
  obtain ⟨⟨v1, rfl⟩, rfl, h1⟩ := hq
  rw [sm_ag_eq hag]
  refine ⟨Or.inl (by decide), ?_⟩
  refine sm_pop hX td_L_576 rfl ?_
  refine sm_aloadN hX td_L_577 rfl ?_
  refine tb_vL_29 _ X _ _ _ _ _ _ hZ hX _ _ [] ad ev_s2 μ1 [.ref 46] _ _ rfl ⟨46, _, _, rfl, rfl⟩ (lw_192 hZ h1 ad) (by decide) (by decide) (by decide) (by decide) (Nat.le_of_ble_eq_true rfl) td_L_578 (fun v ad' sh' μ2 e1 e2 hag hq => ?_)
  obtain ⟨⟨v2, rfl⟩, rfl, h2⟩ := hq
  rw [sm_ag_eq hag]
  refine ⟨Or.inl (by decide), ?_⟩
  refine sm_pop hX td_L_581 rfl ?_
  refine sm_goto hX 677 td_L_582 (by decide) ?_
  exact next μ2 h2
theorem lc_15 {X : sm_X} (hX : sm_ok tb_cl X code 4 "ProgramSlicesLaw" tb_W ret room_1 75 8909 false) (hZ : X.1.2.2.2 = tb_N) {ad : Nat → Nat} {xs : Nat → Int32} {Ln : Nat} (hN : Ln ≤ 2560) (hS : sm_scr X (ad 1000) Ln xs) {i : Int} (i0 : 0 ≤ i) (i1 : i + 5 ≤ (Ln : Int)) (next : ∀ μ : sm_M, lwI μ → sm_E tb_cl X 677 [some (.ref 1000), some (.ref 0), some (.ref 46), some (.int (Int32.ofInt i))] [] ad ev_s2 μ) {μ : sm_M} (h : lwI μ) : sm_E tb_cl X 585 [some (.ref 1000), some (.ref 0), some (.ref 46), some (.int (Int32.ofInt i))] [] ad ev_s2 μ := by
  refine sm_aloadN hX td_L_585 rfl ?_
  refine sm_aloadN hX td_L_586 rfl ?_
  refine sm_iloadN hX td_L_587 rfl ?_
  refine sm_iconst hX td_L_588 ?_
  refine sm_iadd hX td_L_589 ?_
  refine sm_sld hX hS (lw_in i0 i1 hN 1 (by decide) (by decide)) td_L_590 ?_
  refine tb_vL_15 _ X _ _ _ _ _ _ hZ hX _ _ [] ad ev_s2 μ [.ref 0, .int (xs (Int32.ofInt i + Int32.ofInt (1)).toNatClampNeg)] _ _ rfl ⟨0, _, _, rfl, rfl⟩ (lw_130 hZ h ad _) (by decide) (by decide) (by decide) (by decide) (Nat.le_of_ble_eq_true rfl) td_L_591 (fun v ad' sh' μ1 e1 e2 hag hq => ?_)
  obtain ⟨⟨v1, rfl⟩, rfl, h1⟩ := hq
  rw [sm_ag_eq hag]
  refine ⟨Or.inl (by decide), ?_⟩
  refine sm_pop hX td_L_594 rfl ?_
  refine sm_aloadN hX td_L_595 rfl ?_
  refine sm_aloadN hX td_L_596 rfl ?_
  refine sm_iloadN hX td_L_597 rfl ?_
  refine sm_iconst hX td_L_598 ?_
  refine sm_iadd hX td_L_599 ?_
  refine sm_sld hX hS (lw_in i0 i1 hN 1 (by decide) (by decide)) td_L_600 ?_
  refine tb_vL_30 _ X _ _ _ _ _ _ hZ hX _ _ [] ad ev_s2 μ1 [.ref 46, .int (xs (Int32.ofInt i + Int32.ofInt (1)).toNatClampNeg)] _ _ rfl ⟨46, _, _, rfl, rfl⟩ (lw_193 hZ h1 ad _) (by decide) (by decide) (by decide) (by decide) (Nat.le_of_ble_eq_true rfl) td_L_601 (fun v ad' sh' μ2 e1 e2 hag hq => ?_)
  obtain ⟨⟨v2, rfl⟩, rfl, h2⟩ := hq
  rw [sm_ag_eq hag]
  refine ⟨Or.inl (by decide), ?_⟩
  refine sm_pop hX td_L_604 rfl ?_
  refine sm_goto hX 677 td_L_605 (by decide) ?_
  exact next μ2 h2
theorem lc_16 {X : sm_X} (hX : sm_ok tb_cl X code 4 "ProgramSlicesLaw" tb_W ret room_1 75 8909 false) (hZ : X.1.2.2.2 = tb_N) {ad : Nat → Nat} {xs : Nat → Int32} {Ln : Nat} (hN : Ln ≤ 2560) (hS : sm_scr X (ad 1000) Ln xs) {i : Int} (i0 : 0 ≤ i) (i1 : i + 5 ≤ (Ln : Int)) (next : ∀ μ : sm_M, lwI μ → sm_E tb_cl X 677 [some (.ref 1000), some (.ref 0), some (.ref 46), some (.int (Int32.ofInt i))] [] ad ev_s2 μ) {μ : sm_M} (h : lwI μ) : sm_E tb_cl X 608 [some (.ref 1000), some (.ref 0), some (.ref 46), some (.int (Int32.ofInt i))] [] ad ev_s2 μ := by
  refine sm_aloadN hX td_L_608 rfl ?_
  refine sm_aloadN hX td_L_609 rfl ?_
  refine sm_iloadN hX td_L_610 rfl ?_
  refine sm_iconst hX td_L_611 ?_
  refine sm_iadd hX td_L_612 ?_
  refine sm_sld hX hS (lw_in i0 i1 hN 1 (by decide) (by decide)) td_L_613 ?_
  refine sm_aloadN hX td_L_614 rfl ?_
  refine sm_iloadN hX td_L_615 rfl ?_
  refine sm_iconst hX td_L_616 ?_
  refine sm_iadd hX td_L_617 ?_
  refine sm_sld hX hS (lw_in i0 i1 hN 2 (by decide) (by decide)) td_L_618 ?_
  refine tb_vL_16 _ X _ _ _ _ _ _ hZ hX _ _ [] ad ev_s2 μ [.ref 0, .int (xs (Int32.ofInt i + Int32.ofInt (1)).toNatClampNeg), .int (xs (Int32.ofInt i + Int32.ofInt (2)).toNatClampNeg)] _ _ rfl ⟨0, _, _, rfl, rfl⟩ (lw_132 hZ h ad _ _) (by decide) (by decide) (by decide) (by decide) (Nat.le_of_ble_eq_true rfl) td_L_619 (fun v ad' sh' μ1 e1 e2 hag hq => ?_)
  obtain ⟨⟨v1, rfl⟩, rfl, h1⟩ := hq
  rw [sm_ag_eq hag]
  refine ⟨Or.inl (by decide), ?_⟩
  refine sm_pop hX td_L_622 rfl ?_
  refine sm_aloadN hX td_L_623 rfl ?_
  refine sm_aloadN hX td_L_624 rfl ?_
  refine sm_iloadN hX td_L_625 rfl ?_
  refine sm_iconst hX td_L_626 ?_
  refine sm_iadd hX td_L_627 ?_
  refine sm_sld hX hS (lw_in i0 i1 hN 1 (by decide) (by decide)) td_L_628 ?_
  refine sm_aloadN hX td_L_629 rfl ?_
  refine sm_iloadN hX td_L_630 rfl ?_
  refine sm_iconst hX td_L_631 ?_
  refine sm_iadd hX td_L_632 ?_
  refine sm_sld hX hS (lw_in i0 i1 hN 2 (by decide) (by decide)) td_L_633 ?_
  refine tb_vL_31 _ X _ _ _ _ _ _ hZ hX _ _ [] ad ev_s2 μ1 [.ref 46, .int (xs (Int32.ofInt i + Int32.ofInt (1)).toNatClampNeg), .int (xs (Int32.ofInt i + Int32.ofInt (2)).toNatClampNeg)] _ _ rfl ⟨46, _, _, rfl, rfl⟩ (lw_194 hZ h1 ad _ _) (by decide) (by decide) (by decide) (by decide) (Nat.le_of_ble_eq_true rfl) td_L_634 (fun v ad' sh' μ2 e1 e2 hag hq => ?_)
  obtain ⟨⟨v2, rfl⟩, rfl, h2⟩ := hq
  rw [sm_ag_eq hag]
  refine ⟨Or.inl (by decide), ?_⟩
  refine sm_pop hX td_L_637 rfl ?_
  refine sm_goto hX 677 td_L_638 (by decide) ?_
  exact next μ2 h2
theorem lc_17 {X : sm_X} (hX : sm_ok tb_cl X code 4 "ProgramSlicesLaw" tb_W ret room_1 75 8909 false) (hZ : X.1.2.2.2 = tb_N) {ad : Nat → Nat} {xs : Nat → Int32} {Ln : Nat} (hN : Ln ≤ 2560) (hS : sm_scr X (ad 1000) Ln xs) {i : Int} (i0 : 0 ≤ i) (i1 : i + 5 ≤ (Ln : Int)) (next : ∀ μ : sm_M, lwI μ → sm_E tb_cl X 677 [some (.ref 1000), some (.ref 0), some (.ref 46), some (.int (Int32.ofInt i))] [] ad ev_s2 μ) {μ : sm_M} (h : lwI μ) : sm_E tb_cl X 641 [some (.ref 1000), some (.ref 0), some (.ref 46), some (.int (Int32.ofInt i))] [] ad ev_s2 μ := by
  refine sm_aloadN hX td_L_641 rfl ?_
  refine tb_vL_17 _ X _ _ _ _ _ _ hZ hX _ _ [] ad ev_s2 μ [.ref 0] _ _ rfl ⟨0, _, _, rfl, rfl⟩ (lw_134 hZ h ad) (by decide) (by decide) (by decide) (by decide) (Nat.le_of_ble_eq_true rfl) td_L_642 (fun v ad' sh' μ1 e1 e2 hag hq => ?_)
  obtain ⟨⟨v1, rfl⟩, rfl, h1⟩ := hq
  rw [sm_ag_eq hag]
  refine ⟨Or.inl (by decide), ?_⟩
  refine sm_pop hX td_L_645 rfl ?_
  refine sm_aloadN hX td_L_646 rfl ?_
  refine tb_vL_36 _ X _ _ _ _ _ _ hZ hX _ _ [] ad ev_s2 μ1 [.ref 46] _ _ rfl ⟨46, _, _, rfl, rfl⟩ (lw_203 hZ h1 ad) (by decide) (by decide) (by decide) (by decide) (Nat.le_of_ble_eq_true rfl) td_L_647 (fun v ad' sh' μ2 e1 e2 hag hq => ?_)
  obtain ⟨⟨v2, rfl⟩, rfl, h2⟩ := hq
  rw [sm_ag_eq hag]
  refine ⟨Or.inl (by decide), ?_⟩
  refine sm_pop hX td_L_650 rfl ?_
  refine sm_goto hX 677 td_L_651 (by decide) ?_
  exact next μ2 h2
theorem lc_18 {X : sm_X} (hX : sm_ok tb_cl X code 4 "ProgramSlicesLaw" tb_W ret room_1 75 8909 false) (hZ : X.1.2.2.2 = tb_N) {ad : Nat → Nat} {xs : Nat → Int32} {Ln : Nat} (hN : Ln ≤ 2560) (hS : sm_scr X (ad 1000) Ln xs) {i : Int} (i0 : 0 ≤ i) (i1 : i + 5 ≤ (Ln : Int)) (next : ∀ μ : sm_M, lwI μ → sm_E tb_cl X 677 [some (.ref 1000), some (.ref 0), some (.ref 46), some (.int (Int32.ofInt i))] [] ad ev_s2 μ) {μ : sm_M} (h : lwI μ) : sm_E tb_cl X 654 [some (.ref 1000), some (.ref 0), some (.ref 46), some (.int (Int32.ofInt i))] [] ad ev_s2 μ := by
  refine sm_aloadN hX td_L_654 rfl ?_
  refine sm_aloadN hX td_L_655 rfl ?_
  refine sm_iloadN hX td_L_656 rfl ?_
  refine sm_iconst hX td_L_657 ?_
  refine sm_iadd hX td_L_658 ?_
  refine sm_sld hX hS (lw_in i0 i1 hN 1 (by decide) (by decide)) td_L_659 ?_
  refine tb_vL_18 _ X _ _ _ _ _ _ hZ hX _ _ [] ad ev_s2 μ [.ref 0, .int (xs (Int32.ofInt i + Int32.ofInt (1)).toNatClampNeg)] _ _ rfl ⟨0, _, _, rfl, rfl⟩ (lw_140 hZ h ad _) (by decide) (by decide) (by decide) (by decide) (Nat.le_of_ble_eq_true rfl) td_L_660 (fun v ad' sh' μ1 e1 e2 hag hq => ?_)
  obtain ⟨⟨v1, rfl⟩, rfl, h1⟩ := hq
  rw [sm_ag_eq hag]
  refine ⟨Or.inl (by decide), ?_⟩
  refine sm_pop hX td_L_663 rfl ?_
  refine sm_aloadN hX td_L_664 rfl ?_
  refine sm_aloadN hX td_L_665 rfl ?_
  refine sm_iloadN hX td_L_666 rfl ?_
  refine sm_iconst hX td_L_667 ?_
  refine sm_iadd hX td_L_668 ?_
  refine sm_sld hX hS (lw_in i0 i1 hN 1 (by decide) (by decide)) td_L_669 ?_
  refine tb_vL_37 _ X _ _ _ _ _ _ hZ hX _ _ [] ad ev_s2 μ1 [.ref 46, .int (xs (Int32.ofInt i + Int32.ofInt (1)).toNatClampNeg)] _ _ rfl ⟨46, _, _, rfl, rfl⟩ (lw_205 hZ h1 ad _) (by decide) (by decide) (by decide) (by decide) (Nat.le_of_ble_eq_true rfl) td_L_670 (fun v ad' sh' μ2 e1 e2 hag hq => ?_)
  obtain ⟨⟨v2, rfl⟩, rfl, h2⟩ := hq
  rw [sm_ag_eq hag]
  refine ⟨Or.inl (by decide), ?_⟩
  refine sm_pop hX td_L_673 rfl ?_
  refine sm_goto hX 677 td_L_674 (by decide) ?_
  exact next μ2 h2
theorem and31 (x : Int32) : ∃ t : Nat, t < 32 ∧ x &&& (Int8.ofInt (31)).toInt32 = nI t := by
  refine ⟨x.toBitVec.toNat &&& 31, Nat.lt_of_le_of_lt Nat.and_le_right (by decide), ?_⟩
  apply Int32.toBitVec_inj.mp
  apply BitVec.eq_of_toNat_eq
  have h1 : (x &&& (Int8.ofInt (31)).toInt32).toBitVec = x.toBitVec &&& (31#32) := rfl
  have h2 : (nI (x.toBitVec.toNat &&& 31)).toBitVec = BitVec.ofNat 32 (x.toBitVec.toNat &&& 31) := rfl
  rw [h1, h2, BitVec.toNat_and, BitVec.toNat_ofNat, BitVec.toNat_ofNat, Nat.mod_eq_of_lt (a := x.toBitVec.toNat &&& 31) (Nat.lt_of_le_of_lt Nat.and_le_right (by decide))]
theorem law_sw {X : sm_X} (hX : sm_ok tb_cl X code 4 "ProgramSlicesLaw" tb_W ret room_1 75 8909 false) (hZ : X.1.2.2.2 = tb_N) {ad : Nat → Nat} {xs : Nat → Int32} {Ln : Nat} (hN : Ln ≤ 2560) (hS : sm_scr X (ad 1000) Ln xs) {i : Int} (i0 : 0 ≤ i) (i1 : i + 5 ≤ (Ln : Int)) (next : ∀ μ : sm_M, lwI μ → sm_E tb_cl X 677 [some (.ref 1000), some (.ref 0), some (.ref 46), some (.int (Int32.ofInt i))] [] ad ev_s2 μ) {μ : sm_M} (h : lwI μ) : sm_E tb_cl X 26 [some (.ref 1000), some (.ref 0), some (.ref 46), some (.int (Int32.ofInt i))] [] ad ev_s2 μ := by
  refine sm_aloadN hX td_L_26 rfl ?_
  refine sm_iloadN hX td_L_27 rfl ?_
  refine sm_sld hX hS (lw_in0 i0 i1 hN) td_L_28 ?_
  refine sm_bipush hX td_L_29 ?_
  refine sm_iand hX td_L_31 ?_
  obtain ⟨t, ht, e⟩ := and31 (xs (Int32.ofInt i).toNatClampNeg)
  rw [e]
  by_cases h19 : t < 19
  · rcases (show t = 0 ∨ t = 1 ∨ t = 2 ∨ t = 3 ∨ t = 4 ∨ t = 5 ∨ t = 6 ∨ t = 7 ∨ t = 8 ∨ t = 9 ∨ t = 10 ∨ t = 11 ∨ t = 12 ∨ t = 13 ∨ t = 14 ∨ t = 15 ∨ t = 16 ∨ t = 17 ∨ t = 18 by omega) with rfl | rfl | rfl | rfl | rfl | rfl | rfl | rfl | rfl | rfl | rfl | rfl | rfl | rfl | rfl | rfl | rfl | rfl | rfl
    · exact sm_tableIn hX 124 td_L_32 (by decide) (by decide) rfl (by decide) (lc_0 hX hZ hN hS i0 i1 next h)
    · exact sm_tableIn hX 177 td_L_32 (by decide) (by decide) rfl (by decide) (lc_1 hX hZ hN hS i0 i1 next h)
    · exact sm_tableIn hX 188 td_L_32 (by decide) (by decide) rfl (by decide) (lc_2 hX hZ hN hS i0 i1 next h)
    · exact sm_tableIn hX 201 td_L_32 (by decide) (by decide) rfl (by decide) (lc_3 hX hZ hN hS i0 i1 next h)
    · exact sm_tableIn hX 224 td_L_32 (by decide) (by decide) rfl (by decide) (lc_4 hX hZ hN hS i0 i1 next h)
    · exact sm_tableIn hX 257 td_L_32 (by decide) (by decide) rfl (by decide) (lc_5 hX hZ hN hS i0 i1 next h)
    · exact sm_tableIn hX 316 td_L_32 (by decide) (by decide) rfl (by decide) (lc_6 hX hZ hN hS i0 i1 next h)
    · exact sm_tableIn hX 329 td_L_32 (by decide) (by decide) rfl (by decide) (lc_7 hX hZ hN hS i0 i1 next h)
    · exact sm_tableIn hX 362 td_L_32 (by decide) (by decide) rfl (by decide) (lc_8 hX hZ hN hS i0 i1 next h)
    · exact sm_tableIn hX 405 td_L_32 (by decide) (by decide) rfl (by decide) (lc_9 hX hZ hN hS i0 i1 next h)
    · exact sm_tableIn hX 454 td_L_32 (by decide) (by decide) rfl (by decide) (lc_10 hX hZ hN hS i0 i1 next h)
    · exact sm_tableIn hX 467 td_L_32 (by decide) (by decide) rfl (by decide) (lc_11 hX hZ hN hS i0 i1 next h)
    · exact sm_tableIn hX 490 td_L_32 (by decide) (by decide) rfl (by decide) (lc_12 hX hZ hN hS i0 i1 next h)
    · exact sm_tableIn hX 523 td_L_32 (by decide) (by decide) rfl (by decide) (lc_13 hX hZ hN hS i0 i1 next h)
    · exact sm_tableIn hX 572 td_L_32 (by decide) (by decide) rfl (by decide) (lc_14 hX hZ hN hS i0 i1 next h)
    · exact sm_tableIn hX 585 td_L_32 (by decide) (by decide) rfl (by decide) (lc_15 hX hZ hN hS i0 i1 next h)
    · exact sm_tableIn hX 608 td_L_32 (by decide) (by decide) rfl (by decide) (lc_16 hX hZ hN hS i0 i1 next h)
    · exact sm_tableIn hX 641 td_L_32 (by decide) (by decide) rfl (by decide) (lc_17 hX hZ hN hS i0 i1 next h)
    · exact sm_tableIn hX 654 td_L_32 (by decide) (by decide) rfl (by decide) (lc_18 hX hZ hN hS i0 i1 next h)
  · refine sm_tableOut hX 677 td_L_32 (Or.inr ?_) (by decide) (next μ h)
    rw [nI_toInt (show t < 2 ^ 31 by omega)]
    omega
