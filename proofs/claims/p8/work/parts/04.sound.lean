/-! what is computed is so -/
def dp_J (cl : List vw_C) (X : sm_X) (ad0 : Nat → Nat) (sh0 : sm_S) (μ0 : sm_M) (s : dp_T) : Prop := match s with
  | (pc, L, st, sh, P, w) => ∀ (ad : Nat → Nat) (μ : sm_M), dp_le P μ → dp_ou w μ μ0 → sm_ag sh0.length sh.length ad ad0 → sh0.length ≤ sh.length → sm_E cl X pc L st ad sh μ
def dp_Q (μ : sm_M) (R : dp_R) : Option Value → sm_S → sm_M → Prop := fun r sh' μ' => r = R.1 ∧ sh' = R.2.1 ∧ dp_le R.2.2.1 μ' ∧ dp_ou R.2.2.2 μ' μ
def dp_rm (fr lo : Nat) (sh sh' : sm_S) : Room := { frames := fr, cells := sh'.length - sh.length, slots := sm_sl sh' - sm_sl sh, locals := lo }
def dp_cfok (cl : List vw_C) (Z : sm_Z) (ys : Nat → MethodName) (wss : Nat → List Cond) (fr lo : Nat) (cf : dp_F) : Prop := ∀ (j : Nat) (As : List Value) (sh : sm_S) (P : dp_P) (R : dp_R), cf j As sh P = some R → sh.length ≤ R.2.1.length ∧ sm_sl sh ≤ sm_sl R.2.1 ∧ ∀ (ad : Nat → Nat) (μ : sm_M), dp_le P μ → sm_C cl Z (ys j) (wss j) (dp_rm fr lo sh R.2.1) As ad sh μ (dp_Q μ R)
def dp_rcO : Nat → Option Nat
  | 0 => none
  | ci + 1 => some ci
def dp_fok (cl : List vw_C) (NW : List Cond) (own : String) (Ts : List Cond) (i : Nat) (F : Nat × Nat × Nat) : Prop := ∃ (C : String) (T : u_T) (N' : Nat) (t : Nat → FieldType), cl[F.1]? = some (C, T, N') ∧ F.2.1 < N' ∧ (∀ w ∈ u_ws C T N', w ∈ Ts) ∧ (∀ k, k < N' → parseFieldDescriptor (T k).2.2.1 = some (t k)) ∧ (∀ a, a < N' → ∀ b, b < N' → a ≠ b → (T a).2.1 ≠ (T b).2.1) ∧ (Cond.fieldLink own i (T F.2.1).1 (T F.2.1).2.1 (T F.2.1).2.2.1 ∈ Ts ∨ ∃ host, Cond.fieldLinkNest own i (T F.2.1).1 (T F.2.1).2.1 (T F.2.1).2.2.1 host ∈ NW) ∧ (F.2.2 = 0 → (T F.2.1).2.2.2 = false ∧ t F.2.1 = .int) ∧ (F.2.2 = 1 → (T F.2.1).2.2.2 = false ∧ t F.2.1 = .boolean) ∧ (F.2.2 = 2 → (T F.2.1).2.2.2 = true ∧ (T F.2.1).1 = own ∧ Cond.fieldLink own i (T F.2.1).1 (T F.2.1).2.1 (T F.2.1).2.2.1 ∈ Ts ∧ ∀ a : Nat, narrow (t F.2.1) (.ref a) = .ref a ∧ fits (t F.2.1) (.ref a) = true)
def dp_nok (cl : List vw_C) (own : String) (Ts : List Cond) (i : Nat) (C : Nat × List (Option (Option Nat))) : Prop := ∃ (Cn : String) (T : u_T) (t : Nat → FieldType), cl[C.1]? = some (Cn, T, C.2.length) ∧ (∀ w ∈ u_ws Cn T C.2.length, w ∈ Ts) ∧ (∀ k, k < C.2.length → parseFieldDescriptor (T k).2.2.1 = some (t k)) ∧ Cond.classLink own i Cn ∈ Ts ∧ Cond.instantiable Cn C.2.length ∈ Ts ∧ Cond.initialized Cn ∈ Ts ∧ (∀ j, j < C.2.length → ∀ ad : Nat → Nat, defaultValue (t j) = vp_V (C.2.mapIdx (sm_f ad (fun _ => 0))) j) ∧ ∀ ad ad' : Nat → Nat, C.2.mapIdx (sm_f ad (fun _ => 0)) = C.2.mapIdx (sm_f ad' (fun _ => 0))
def dp_Kok (cl : List vw_C) (NW : List Cond) (own : String) (Ts : List Cond) (ys : Nat → MethodName) (wss : Nat → List Cond) (K : dp_K) : Prop :=
  (∀ i F, K.1 i = some F → dp_fok cl NW own Ts i F) ∧ (∀ i v, K.2.1 i = some v → Jvm.Cond.constant own i v ∈ Ts) ∧ (∀ i v, K.2.2.1 i = some v → Jvm.Cond.constantLong own i v ∈ Ts) ∧
  (∀ i C, K.2.2.2.1 (3 * i) = some C → ∀ cc, sm_Cal cl NW cc own Ts (.invokestatic i) (ys C.1) (wss C.1) C.2.1 (dp_rcO C.2.2)) ∧ (∀ i C, K.2.2.2.1 (3 * i + 1) = some C → ∀ cc, sm_Cal cl NW cc own Ts (.invokevirtual i) (ys C.1) (wss C.1) C.2.1 (dp_rcO C.2.2)) ∧ (∀ i C, K.2.2.2.1 (3 * i + 2) = some C → ∀ cc, sm_Cal cl NW cc own Ts (.invokespecial i) (ys C.1) (wss C.1) C.2.1 (dp_rcO C.2.2)) ∧
  (∀ i C, K.2.2.2.2.1 i = some C → dp_nok cl own Ts i C) ∧ (Cond.methodLink own K.2.2.2.2.2 Lib.objectInit ∈ Ts ∧ Cond.instanceMethod Lib.objectInit ∈ Ts ∧ Cond.code Lib.objectInit ⟨#[0xb1]⟩ 1 none ∈ Ts) ∧ Cond.arrayClass .int ∈ Ts ∧ Cond.arrayClass .boolean ∈ Ts ∧ Cond.arrayClass .long ∈ Ts
theorem dp_rc_ok {sh : sm_S} {rc : Nat} {As : List Value} (h : dp_rc sh rc As = true) : sm_rcv sh (dp_rcO rc) As := by
  cases rc with
  | zero => exact trivial
  | succ ci =>
    unfold dp_rc at h
    simp only at h
    split at h
    · rename_i p t
      split at h
      · rename_i c fs hs
        have e := dp_beq h
        subst e
        exact ⟨p, t, fs, rfl, hs⟩
      · cases h
    · cases h
theorem dp_take {st : List Value} (n : Nat) : (st.take n).reverse.reverse ++ st.drop n = st := by rw [List.reverse_reverse, List.take_append_drop]

theorem dp_call_ok {cl : List vw_C} {X : sm_X} {cc : ByteArray} {own : String} {Ts : List Cond} {rm : Room} {N S : Nat} {M : dp_M} (hX : sm_ok cl X cc M.2.1 own Ts M.2.2.1 rm N S M.2.2.2) {ys : Nat → MethodName} {wss : Nat → List Cond} {cf : dp_F} {fr lo : Nat} (hcf : dp_cfok cl X.1 ys wss fr lo cf) (hfr : fr + 1 ≤ rm.frames) (hlo : 32 + lo ≤ rm.locals) {ad0 : Nat → Nat} {sh0 : sm_S} {μ0 : sm_M} {ins : Instr} {j na rc pc : Nat} (hC : sm_Cal cl X.1.2.2.2 cc own Ts ins (ys j) (wss j) na (dp_rcO rc)) (d : decode cc pc = .ok (ins, 3)) {L : List (Option Value)} {st : List Value} {sh : sm_S} {P : dp_P} {w : dp_w} {s' : dp_T} (h : dp_ca cf j na rc pc L st sh P w = some s') (hN : s'.2.2.2.1.length ≤ N) (hS : sm_sl s'.2.2.2.1 ≤ S) (k : dp_J cl X ad0 sh0 μ0 s') : dp_J cl X ad0 sh0 μ0 (pc, L, st, sh, P, w) := by
  unfold dp_ca at h
  obtain ⟨h1, h⟩ := dp_g_ok h
  obtain ⟨h2, h⟩ := dp_g_ok h
  obtain ⟨h3, h⟩ := dp_g_ok h
  obtain ⟨⟨v, sh', P', w'⟩, hR, h⟩ := dp_o_ok h
  obtain ⟨h4, h⟩ := dp_g_ok h
  cases h
  obtain ⟨q1, q2, q3⟩ := hcf _ _ _ _ _ hR
  simp only at q1 q2 q3 hN hS
  intro ad μ a b c e
  have h5 := hC X _ _ _ _ _ _ rfl hX pc L (st.drop na) ad sh μ (st.take na).reverse _ (dp_rm fr lo sh sh') (by rw [List.length_reverse]; exact dp_beq h1) (dp_rc_ok h2) (q3 ad μ a) hfr hlo (by simp only [dp_rm]; omega) (by simp only [dp_rm]; omega) (Nat.le_of_ble_eq_true h3) d (fun v' ad' sh'' μ' e1 e2 hag q => ?_)
  · rwa [dp_take] at h5
  · obtain ⟨rfl, rfl, g1, g2⟩ := q
    simp only at g1 g2
    refine ⟨?_, k ad' μ' g1 (b.tr g2) ?_ (by omega)⟩
    · rw [Bool.or_eq_true, Bool.and_eq_true] at h4
      rcases h4 with h4 | h4
      · left
        have := dp_beq h4
        simp only [dp_rm]
        omega
      · exact Or.inr h4
    · intro p hp
      rw [hag p (by omega), c p (by omega)]
theorem dp_nw_ag {a b : Nat} {ad'' ad ad0 : Nat → Nat} (h1 : sm_ag b (b + 1) ad'' ad) (h0 : sm_ag a b ad ad0) (hl : a ≤ b) : sm_ag a (b + 1) ad'' ad0 := by
  intro p hp
  rw [h1 p (by omega), h0 p (by omega)]
theorem dp_in_iadd {cl : List vw_C} {X : sm_X} {cc : ByteArray} {own : String} {Ts : List Cond} {rm : Room} {N S : Nat} {M : dp_M} (hX : sm_ok cl X cc M.2.1 own Ts M.2.2.1 rm N S M.2.2.2) {K : dp_K} {ys : Nat → MethodName} {wss : Nat → List Cond} {cf : dp_F} {fr lo : Nat} (hK : dp_Kok cl X.1.2.2.2 own Ts ys wss K) (hcf : dp_cfok cl X.1 ys wss fr lo cf) (hfr : fr + 1 ≤ rm.frames) (hlo : 32 + lo ≤ rm.locals) {ad0 : Nat → Nat} {sh0 : sm_S} {μ0 : sm_M} {pc len : Nat}  (d : decode cc pc = .ok (.iadd, len)) {L : List (Option Value)} {st : List Value} {sh : sm_S} {P : dp_P} {w : dp_w} {s' : dp_T} (h : dp_in K M cf pc L st sh P w .iadd len = some s') (hN : s'.2.2.2.1.length ≤ N) (hS : sm_sl s'.2.2.2.1 ≤ S) (k : dp_J cl X ad0 sh0 μ0 s') : dp_J cl X ad0 sh0 μ0 (pc, L, st, sh, P, w) := by
  obtain ⟨hl, hu1⟩ := dp_g_ok h
  clear h
  have hl := dp_beq hl
  subst hl
  obtain ⟨y, r, rfl, hu2⟩ := dp_1i_ok hu1
  clear hu1
  obtain ⟨x, r, rfl, hu3⟩ := dp_1i_ok hu2
  clear hu2
  rw [dp_fi_eq] at hu3
  cases hu3
  exact fun ad μ a b c e => sm_iadd hX d (k ad μ a b c e)
theorem dp_in_isub {cl : List vw_C} {X : sm_X} {cc : ByteArray} {own : String} {Ts : List Cond} {rm : Room} {N S : Nat} {M : dp_M} (hX : sm_ok cl X cc M.2.1 own Ts M.2.2.1 rm N S M.2.2.2) {K : dp_K} {ys : Nat → MethodName} {wss : Nat → List Cond} {cf : dp_F} {fr lo : Nat} (hK : dp_Kok cl X.1.2.2.2 own Ts ys wss K) (hcf : dp_cfok cl X.1 ys wss fr lo cf) (hfr : fr + 1 ≤ rm.frames) (hlo : 32 + lo ≤ rm.locals) {ad0 : Nat → Nat} {sh0 : sm_S} {μ0 : sm_M} {pc len : Nat}  (d : decode cc pc = .ok (.isub, len)) {L : List (Option Value)} {st : List Value} {sh : sm_S} {P : dp_P} {w : dp_w} {s' : dp_T} (h : dp_in K M cf pc L st sh P w .isub len = some s') (hN : s'.2.2.2.1.length ≤ N) (hS : sm_sl s'.2.2.2.1 ≤ S) (k : dp_J cl X ad0 sh0 μ0 s') : dp_J cl X ad0 sh0 μ0 (pc, L, st, sh, P, w) := by
  obtain ⟨hl, hu1⟩ := dp_g_ok h
  clear h
  have hl := dp_beq hl
  subst hl
  obtain ⟨y, r, rfl, hu2⟩ := dp_1i_ok hu1
  clear hu1
  obtain ⟨x, r, rfl, hu3⟩ := dp_1i_ok hu2
  clear hu2
  rw [dp_fi_eq] at hu3
  cases hu3
  exact fun ad μ a b c e => sm_isub hX d (k ad μ a b c e)
theorem dp_in_imul {cl : List vw_C} {X : sm_X} {cc : ByteArray} {own : String} {Ts : List Cond} {rm : Room} {N S : Nat} {M : dp_M} (hX : sm_ok cl X cc M.2.1 own Ts M.2.2.1 rm N S M.2.2.2) {K : dp_K} {ys : Nat → MethodName} {wss : Nat → List Cond} {cf : dp_F} {fr lo : Nat} (hK : dp_Kok cl X.1.2.2.2 own Ts ys wss K) (hcf : dp_cfok cl X.1 ys wss fr lo cf) (hfr : fr + 1 ≤ rm.frames) (hlo : 32 + lo ≤ rm.locals) {ad0 : Nat → Nat} {sh0 : sm_S} {μ0 : sm_M} {pc len : Nat}  (d : decode cc pc = .ok (.imul, len)) {L : List (Option Value)} {st : List Value} {sh : sm_S} {P : dp_P} {w : dp_w} {s' : dp_T} (h : dp_in K M cf pc L st sh P w .imul len = some s') (hN : s'.2.2.2.1.length ≤ N) (hS : sm_sl s'.2.2.2.1 ≤ S) (k : dp_J cl X ad0 sh0 μ0 s') : dp_J cl X ad0 sh0 μ0 (pc, L, st, sh, P, w) := by
  obtain ⟨hl, hu1⟩ := dp_g_ok h
  clear h
  have hl := dp_beq hl
  subst hl
  obtain ⟨y, r, rfl, hu2⟩ := dp_1i_ok hu1
  clear hu1
  obtain ⟨x, r, rfl, hu3⟩ := dp_1i_ok hu2
  clear hu2
  rw [dp_fi_eq] at hu3
  cases hu3
  exact fun ad μ a b c e => sm_imul hX d (k ad μ a b c e)
theorem dp_in_iand {cl : List vw_C} {X : sm_X} {cc : ByteArray} {own : String} {Ts : List Cond} {rm : Room} {N S : Nat} {M : dp_M} (hX : sm_ok cl X cc M.2.1 own Ts M.2.2.1 rm N S M.2.2.2) {K : dp_K} {ys : Nat → MethodName} {wss : Nat → List Cond} {cf : dp_F} {fr lo : Nat} (hK : dp_Kok cl X.1.2.2.2 own Ts ys wss K) (hcf : dp_cfok cl X.1 ys wss fr lo cf) (hfr : fr + 1 ≤ rm.frames) (hlo : 32 + lo ≤ rm.locals) {ad0 : Nat → Nat} {sh0 : sm_S} {μ0 : sm_M} {pc len : Nat}  (d : decode cc pc = .ok (.iand, len)) {L : List (Option Value)} {st : List Value} {sh : sm_S} {P : dp_P} {w : dp_w} {s' : dp_T} (h : dp_in K M cf pc L st sh P w .iand len = some s') (hN : s'.2.2.2.1.length ≤ N) (hS : sm_sl s'.2.2.2.1 ≤ S) (k : dp_J cl X ad0 sh0 μ0 s') : dp_J cl X ad0 sh0 μ0 (pc, L, st, sh, P, w) := by
  obtain ⟨hl, hu1⟩ := dp_g_ok h
  clear h
  have hl := dp_beq hl
  subst hl
  obtain ⟨y, r, rfl, hu2⟩ := dp_1i_ok hu1
  clear hu1
  obtain ⟨x, r, rfl, hu3⟩ := dp_1i_ok hu2
  clear hu2
  rw [dp_fi_eq] at hu3
  cases hu3
  exact fun ad μ a b c e => sm_iand hX d (k ad μ a b c e)
theorem dp_in_ior {cl : List vw_C} {X : sm_X} {cc : ByteArray} {own : String} {Ts : List Cond} {rm : Room} {N S : Nat} {M : dp_M} (hX : sm_ok cl X cc M.2.1 own Ts M.2.2.1 rm N S M.2.2.2) {K : dp_K} {ys : Nat → MethodName} {wss : Nat → List Cond} {cf : dp_F} {fr lo : Nat} (hK : dp_Kok cl X.1.2.2.2 own Ts ys wss K) (hcf : dp_cfok cl X.1 ys wss fr lo cf) (hfr : fr + 1 ≤ rm.frames) (hlo : 32 + lo ≤ rm.locals) {ad0 : Nat → Nat} {sh0 : sm_S} {μ0 : sm_M} {pc len : Nat}  (d : decode cc pc = .ok (.ior, len)) {L : List (Option Value)} {st : List Value} {sh : sm_S} {P : dp_P} {w : dp_w} {s' : dp_T} (h : dp_in K M cf pc L st sh P w .ior len = some s') (hN : s'.2.2.2.1.length ≤ N) (hS : sm_sl s'.2.2.2.1 ≤ S) (k : dp_J cl X ad0 sh0 μ0 s') : dp_J cl X ad0 sh0 μ0 (pc, L, st, sh, P, w) := by
  obtain ⟨hl, hu1⟩ := dp_g_ok h
  clear h
  have hl := dp_beq hl
  subst hl
  obtain ⟨y, r, rfl, hu2⟩ := dp_1i_ok hu1
  clear hu1
  obtain ⟨x, r, rfl, hu3⟩ := dp_1i_ok hu2
  clear hu2
  rw [dp_fi_eq] at hu3
  cases hu3
  exact fun ad μ a b c e => sm_ior hX d (k ad μ a b c e)
theorem dp_in_ixor {cl : List vw_C} {X : sm_X} {cc : ByteArray} {own : String} {Ts : List Cond} {rm : Room} {N S : Nat} {M : dp_M} (hX : sm_ok cl X cc M.2.1 own Ts M.2.2.1 rm N S M.2.2.2) {K : dp_K} {ys : Nat → MethodName} {wss : Nat → List Cond} {cf : dp_F} {fr lo : Nat} (hK : dp_Kok cl X.1.2.2.2 own Ts ys wss K) (hcf : dp_cfok cl X.1 ys wss fr lo cf) (hfr : fr + 1 ≤ rm.frames) (hlo : 32 + lo ≤ rm.locals) {ad0 : Nat → Nat} {sh0 : sm_S} {μ0 : sm_M} {pc len : Nat}  (d : decode cc pc = .ok (.ixor, len)) {L : List (Option Value)} {st : List Value} {sh : sm_S} {P : dp_P} {w : dp_w} {s' : dp_T} (h : dp_in K M cf pc L st sh P w .ixor len = some s') (hN : s'.2.2.2.1.length ≤ N) (hS : sm_sl s'.2.2.2.1 ≤ S) (k : dp_J cl X ad0 sh0 μ0 s') : dp_J cl X ad0 sh0 μ0 (pc, L, st, sh, P, w) := by
  obtain ⟨hl, hu1⟩ := dp_g_ok h
  clear h
  have hl := dp_beq hl
  subst hl
  obtain ⟨y, r, rfl, hu2⟩ := dp_1i_ok hu1
  clear hu1
  obtain ⟨x, r, rfl, hu3⟩ := dp_1i_ok hu2
  clear hu2
  rw [dp_fi_eq] at hu3
  cases hu3
  exact fun ad μ a b c e => sm_ixor hX d (k ad μ a b c e)
theorem dp_in_ishl {cl : List vw_C} {X : sm_X} {cc : ByteArray} {own : String} {Ts : List Cond} {rm : Room} {N S : Nat} {M : dp_M} (hX : sm_ok cl X cc M.2.1 own Ts M.2.2.1 rm N S M.2.2.2) {K : dp_K} {ys : Nat → MethodName} {wss : Nat → List Cond} {cf : dp_F} {fr lo : Nat} (hK : dp_Kok cl X.1.2.2.2 own Ts ys wss K) (hcf : dp_cfok cl X.1 ys wss fr lo cf) (hfr : fr + 1 ≤ rm.frames) (hlo : 32 + lo ≤ rm.locals) {ad0 : Nat → Nat} {sh0 : sm_S} {μ0 : sm_M} {pc len : Nat}  (d : decode cc pc = .ok (.ishl, len)) {L : List (Option Value)} {st : List Value} {sh : sm_S} {P : dp_P} {w : dp_w} {s' : dp_T} (h : dp_in K M cf pc L st sh P w .ishl len = some s') (hN : s'.2.2.2.1.length ≤ N) (hS : sm_sl s'.2.2.2.1 ≤ S) (k : dp_J cl X ad0 sh0 μ0 s') : dp_J cl X ad0 sh0 μ0 (pc, L, st, sh, P, w) := by
  obtain ⟨hl, hu1⟩ := dp_g_ok h
  clear h
  have hl := dp_beq hl
  subst hl
  obtain ⟨y, r, rfl, hu2⟩ := dp_1i_ok hu1
  clear hu1
  obtain ⟨x, r, rfl, hu3⟩ := dp_1i_ok hu2
  clear hu2
  rw [dp_fi_eq] at hu3
  cases hu3
  exact fun ad μ a b c e => sm_ishl hX d (k ad μ a b c e)
theorem dp_in_ishr {cl : List vw_C} {X : sm_X} {cc : ByteArray} {own : String} {Ts : List Cond} {rm : Room} {N S : Nat} {M : dp_M} (hX : sm_ok cl X cc M.2.1 own Ts M.2.2.1 rm N S M.2.2.2) {K : dp_K} {ys : Nat → MethodName} {wss : Nat → List Cond} {cf : dp_F} {fr lo : Nat} (hK : dp_Kok cl X.1.2.2.2 own Ts ys wss K) (hcf : dp_cfok cl X.1 ys wss fr lo cf) (hfr : fr + 1 ≤ rm.frames) (hlo : 32 + lo ≤ rm.locals) {ad0 : Nat → Nat} {sh0 : sm_S} {μ0 : sm_M} {pc len : Nat}  (d : decode cc pc = .ok (.ishr, len)) {L : List (Option Value)} {st : List Value} {sh : sm_S} {P : dp_P} {w : dp_w} {s' : dp_T} (h : dp_in K M cf pc L st sh P w .ishr len = some s') (hN : s'.2.2.2.1.length ≤ N) (hS : sm_sl s'.2.2.2.1 ≤ S) (k : dp_J cl X ad0 sh0 μ0 s') : dp_J cl X ad0 sh0 μ0 (pc, L, st, sh, P, w) := by
  obtain ⟨hl, hu1⟩ := dp_g_ok h
  clear h
  have hl := dp_beq hl
  subst hl
  obtain ⟨y, r, rfl, hu2⟩ := dp_1i_ok hu1
  clear hu1
  obtain ⟨x, r, rfl, hu3⟩ := dp_1i_ok hu2
  clear hu2
  rw [dp_fi_eq] at hu3
  cases hu3
  exact fun ad μ a b c e => sm_ishr hX d (k ad μ a b c e)
theorem dp_in_iushr {cl : List vw_C} {X : sm_X} {cc : ByteArray} {own : String} {Ts : List Cond} {rm : Room} {N S : Nat} {M : dp_M} (hX : sm_ok cl X cc M.2.1 own Ts M.2.2.1 rm N S M.2.2.2) {K : dp_K} {ys : Nat → MethodName} {wss : Nat → List Cond} {cf : dp_F} {fr lo : Nat} (hK : dp_Kok cl X.1.2.2.2 own Ts ys wss K) (hcf : dp_cfok cl X.1 ys wss fr lo cf) (hfr : fr + 1 ≤ rm.frames) (hlo : 32 + lo ≤ rm.locals) {ad0 : Nat → Nat} {sh0 : sm_S} {μ0 : sm_M} {pc len : Nat}  (d : decode cc pc = .ok (.iushr, len)) {L : List (Option Value)} {st : List Value} {sh : sm_S} {P : dp_P} {w : dp_w} {s' : dp_T} (h : dp_in K M cf pc L st sh P w .iushr len = some s') (hN : s'.2.2.2.1.length ≤ N) (hS : sm_sl s'.2.2.2.1 ≤ S) (k : dp_J cl X ad0 sh0 μ0 s') : dp_J cl X ad0 sh0 μ0 (pc, L, st, sh, P, w) := by
  obtain ⟨hl, hu1⟩ := dp_g_ok h
  clear h
  have hl := dp_beq hl
  subst hl
  obtain ⟨y, r, rfl, hu2⟩ := dp_1i_ok hu1
  clear hu1
  obtain ⟨x, r, rfl, hu3⟩ := dp_1i_ok hu2
  clear hu2
  rw [dp_fi_eq] at hu3
  cases hu3
  exact fun ad μ a b c e => sm_iushr hX d (k ad μ a b c e)
theorem dp_in_ladd {cl : List vw_C} {X : sm_X} {cc : ByteArray} {own : String} {Ts : List Cond} {rm : Room} {N S : Nat} {M : dp_M} (hX : sm_ok cl X cc M.2.1 own Ts M.2.2.1 rm N S M.2.2.2) {K : dp_K} {ys : Nat → MethodName} {wss : Nat → List Cond} {cf : dp_F} {fr lo : Nat} (hK : dp_Kok cl X.1.2.2.2 own Ts ys wss K) (hcf : dp_cfok cl X.1 ys wss fr lo cf) (hfr : fr + 1 ≤ rm.frames) (hlo : 32 + lo ≤ rm.locals) {ad0 : Nat → Nat} {sh0 : sm_S} {μ0 : sm_M} {pc len : Nat}  (d : decode cc pc = .ok (.ladd, len)) {L : List (Option Value)} {st : List Value} {sh : sm_S} {P : dp_P} {w : dp_w} {s' : dp_T} (h : dp_in K M cf pc L st sh P w .ladd len = some s') (hN : s'.2.2.2.1.length ≤ N) (hS : sm_sl s'.2.2.2.1 ≤ S) (k : dp_J cl X ad0 sh0 μ0 s') : dp_J cl X ad0 sh0 μ0 (pc, L, st, sh, P, w) := by
  obtain ⟨hl, hu1⟩ := dp_g_ok h
  clear h
  have hl := dp_beq hl
  subst hl
  obtain ⟨y, r, rfl, hu2⟩ := dp_1l_ok hu1
  clear hu1
  obtain ⟨x, r, rfl, hu3⟩ := dp_1l_ok hu2
  clear hu2
  rw [dp_fl_eq] at hu3
  cases hu3
  exact fun ad μ a b c e => sm_ladd hX d (k ad μ a b c e)
theorem dp_in_lsub {cl : List vw_C} {X : sm_X} {cc : ByteArray} {own : String} {Ts : List Cond} {rm : Room} {N S : Nat} {M : dp_M} (hX : sm_ok cl X cc M.2.1 own Ts M.2.2.1 rm N S M.2.2.2) {K : dp_K} {ys : Nat → MethodName} {wss : Nat → List Cond} {cf : dp_F} {fr lo : Nat} (hK : dp_Kok cl X.1.2.2.2 own Ts ys wss K) (hcf : dp_cfok cl X.1 ys wss fr lo cf) (hfr : fr + 1 ≤ rm.frames) (hlo : 32 + lo ≤ rm.locals) {ad0 : Nat → Nat} {sh0 : sm_S} {μ0 : sm_M} {pc len : Nat}  (d : decode cc pc = .ok (.lsub, len)) {L : List (Option Value)} {st : List Value} {sh : sm_S} {P : dp_P} {w : dp_w} {s' : dp_T} (h : dp_in K M cf pc L st sh P w .lsub len = some s') (hN : s'.2.2.2.1.length ≤ N) (hS : sm_sl s'.2.2.2.1 ≤ S) (k : dp_J cl X ad0 sh0 μ0 s') : dp_J cl X ad0 sh0 μ0 (pc, L, st, sh, P, w) := by
  obtain ⟨hl, hu1⟩ := dp_g_ok h
  clear h
  have hl := dp_beq hl
  subst hl
  obtain ⟨y, r, rfl, hu2⟩ := dp_1l_ok hu1
  clear hu1
  obtain ⟨x, r, rfl, hu3⟩ := dp_1l_ok hu2
  clear hu2
  rw [dp_fl_eq] at hu3
  cases hu3
  exact fun ad μ a b c e => sm_lsub hX d (k ad μ a b c e)
theorem dp_in_land {cl : List vw_C} {X : sm_X} {cc : ByteArray} {own : String} {Ts : List Cond} {rm : Room} {N S : Nat} {M : dp_M} (hX : sm_ok cl X cc M.2.1 own Ts M.2.2.1 rm N S M.2.2.2) {K : dp_K} {ys : Nat → MethodName} {wss : Nat → List Cond} {cf : dp_F} {fr lo : Nat} (hK : dp_Kok cl X.1.2.2.2 own Ts ys wss K) (hcf : dp_cfok cl X.1 ys wss fr lo cf) (hfr : fr + 1 ≤ rm.frames) (hlo : 32 + lo ≤ rm.locals) {ad0 : Nat → Nat} {sh0 : sm_S} {μ0 : sm_M} {pc len : Nat}  (d : decode cc pc = .ok (.land, len)) {L : List (Option Value)} {st : List Value} {sh : sm_S} {P : dp_P} {w : dp_w} {s' : dp_T} (h : dp_in K M cf pc L st sh P w .land len = some s') (hN : s'.2.2.2.1.length ≤ N) (hS : sm_sl s'.2.2.2.1 ≤ S) (k : dp_J cl X ad0 sh0 μ0 s') : dp_J cl X ad0 sh0 μ0 (pc, L, st, sh, P, w) := by
  obtain ⟨hl, hu1⟩ := dp_g_ok h
  clear h
  have hl := dp_beq hl
  subst hl
  obtain ⟨y, r, rfl, hu2⟩ := dp_1l_ok hu1
  clear hu1
  obtain ⟨x, r, rfl, hu3⟩ := dp_1l_ok hu2
  clear hu2
  rw [dp_fl_eq] at hu3
  cases hu3
  exact fun ad μ a b c e => sm_land hX d (k ad μ a b c e)
theorem dp_in_lor {cl : List vw_C} {X : sm_X} {cc : ByteArray} {own : String} {Ts : List Cond} {rm : Room} {N S : Nat} {M : dp_M} (hX : sm_ok cl X cc M.2.1 own Ts M.2.2.1 rm N S M.2.2.2) {K : dp_K} {ys : Nat → MethodName} {wss : Nat → List Cond} {cf : dp_F} {fr lo : Nat} (hK : dp_Kok cl X.1.2.2.2 own Ts ys wss K) (hcf : dp_cfok cl X.1 ys wss fr lo cf) (hfr : fr + 1 ≤ rm.frames) (hlo : 32 + lo ≤ rm.locals) {ad0 : Nat → Nat} {sh0 : sm_S} {μ0 : sm_M} {pc len : Nat}  (d : decode cc pc = .ok (.lor, len)) {L : List (Option Value)} {st : List Value} {sh : sm_S} {P : dp_P} {w : dp_w} {s' : dp_T} (h : dp_in K M cf pc L st sh P w .lor len = some s') (hN : s'.2.2.2.1.length ≤ N) (hS : sm_sl s'.2.2.2.1 ≤ S) (k : dp_J cl X ad0 sh0 μ0 s') : dp_J cl X ad0 sh0 μ0 (pc, L, st, sh, P, w) := by
  obtain ⟨hl, hu1⟩ := dp_g_ok h
  clear h
  have hl := dp_beq hl
  subst hl
  obtain ⟨y, r, rfl, hu2⟩ := dp_1l_ok hu1
  clear hu1
  obtain ⟨x, r, rfl, hu3⟩ := dp_1l_ok hu2
  clear hu2
  rw [dp_fl_eq] at hu3
  cases hu3
  exact fun ad μ a b c e => sm_lor hX d (k ad μ a b c e)
theorem dp_in_lxor {cl : List vw_C} {X : sm_X} {cc : ByteArray} {own : String} {Ts : List Cond} {rm : Room} {N S : Nat} {M : dp_M} (hX : sm_ok cl X cc M.2.1 own Ts M.2.2.1 rm N S M.2.2.2) {K : dp_K} {ys : Nat → MethodName} {wss : Nat → List Cond} {cf : dp_F} {fr lo : Nat} (hK : dp_Kok cl X.1.2.2.2 own Ts ys wss K) (hcf : dp_cfok cl X.1 ys wss fr lo cf) (hfr : fr + 1 ≤ rm.frames) (hlo : 32 + lo ≤ rm.locals) {ad0 : Nat → Nat} {sh0 : sm_S} {μ0 : sm_M} {pc len : Nat}  (d : decode cc pc = .ok (.lxor, len)) {L : List (Option Value)} {st : List Value} {sh : sm_S} {P : dp_P} {w : dp_w} {s' : dp_T} (h : dp_in K M cf pc L st sh P w .lxor len = some s') (hN : s'.2.2.2.1.length ≤ N) (hS : sm_sl s'.2.2.2.1 ≤ S) (k : dp_J cl X ad0 sh0 μ0 s') : dp_J cl X ad0 sh0 μ0 (pc, L, st, sh, P, w) := by
  obtain ⟨hl, hu1⟩ := dp_g_ok h
  clear h
  have hl := dp_beq hl
  subst hl
  obtain ⟨y, r, rfl, hu2⟩ := dp_1l_ok hu1
  clear hu1
  obtain ⟨x, r, rfl, hu3⟩ := dp_1l_ok hu2
  clear hu2
  rw [dp_fl_eq] at hu3
  cases hu3
  exact fun ad μ a b c e => sm_lxor hX d (k ad μ a b c e)
theorem dp_in_lushr {cl : List vw_C} {X : sm_X} {cc : ByteArray} {own : String} {Ts : List Cond} {rm : Room} {N S : Nat} {M : dp_M} (hX : sm_ok cl X cc M.2.1 own Ts M.2.2.1 rm N S M.2.2.2) {K : dp_K} {ys : Nat → MethodName} {wss : Nat → List Cond} {cf : dp_F} {fr lo : Nat} (hK : dp_Kok cl X.1.2.2.2 own Ts ys wss K) (hcf : dp_cfok cl X.1 ys wss fr lo cf) (hfr : fr + 1 ≤ rm.frames) (hlo : 32 + lo ≤ rm.locals) {ad0 : Nat → Nat} {sh0 : sm_S} {μ0 : sm_M} {pc len : Nat}  (d : decode cc pc = .ok (.lushr, len)) {L : List (Option Value)} {st : List Value} {sh : sm_S} {P : dp_P} {w : dp_w} {s' : dp_T} (h : dp_in K M cf pc L st sh P w .lushr len = some s') (hN : s'.2.2.2.1.length ≤ N) (hS : sm_sl s'.2.2.2.1 ≤ S) (k : dp_J cl X ad0 sh0 μ0 s') : dp_J cl X ad0 sh0 μ0 (pc, L, st, sh, P, w) := by
  obtain ⟨hl, hu1⟩ := dp_g_ok h
  clear h
  have hl := dp_beq hl
  subst hl
  obtain ⟨y, r, rfl, hu2⟩ := dp_1i_ok hu1
  clear hu1
  obtain ⟨x, r, rfl, hu3⟩ := dp_1l_ok hu2
  clear hu2
  rw [dp_fl_eq] at hu3
  cases hu3
  exact fun ad μ a b c e => sm_lushr hX d (k ad μ a b c e)
theorem dp_in_lshl {cl : List vw_C} {X : sm_X} {cc : ByteArray} {own : String} {Ts : List Cond} {rm : Room} {N S : Nat} {M : dp_M} (hX : sm_ok cl X cc M.2.1 own Ts M.2.2.1 rm N S M.2.2.2) {K : dp_K} {ys : Nat → MethodName} {wss : Nat → List Cond} {cf : dp_F} {fr lo : Nat} (hK : dp_Kok cl X.1.2.2.2 own Ts ys wss K) (hcf : dp_cfok cl X.1 ys wss fr lo cf) (hfr : fr + 1 ≤ rm.frames) (hlo : 32 + lo ≤ rm.locals) {ad0 : Nat → Nat} {sh0 : sm_S} {μ0 : sm_M} {pc len : Nat}  (d : decode cc pc = .ok (.lshl, len)) {L : List (Option Value)} {st : List Value} {sh : sm_S} {P : dp_P} {w : dp_w} {s' : dp_T} (h : dp_in K M cf pc L st sh P w .lshl len = some s') (hN : s'.2.2.2.1.length ≤ N) (hS : sm_sl s'.2.2.2.1 ≤ S) (k : dp_J cl X ad0 sh0 μ0 s') : dp_J cl X ad0 sh0 μ0 (pc, L, st, sh, P, w) := by
  obtain ⟨hl, hu1⟩ := dp_g_ok h
  clear h
  have hl := dp_beq hl
  subst hl
  obtain ⟨y, r, rfl, hu2⟩ := dp_1i_ok hu1
  clear hu1
  obtain ⟨x, r, rfl, hu3⟩ := dp_1l_ok hu2
  clear hu2
  rw [dp_fl_eq] at hu3
  cases hu3
  exact fun ad μ a b c e => sm_lshl hX d (k ad μ a b c e)
theorem dp_in_lshr {cl : List vw_C} {X : sm_X} {cc : ByteArray} {own : String} {Ts : List Cond} {rm : Room} {N S : Nat} {M : dp_M} (hX : sm_ok cl X cc M.2.1 own Ts M.2.2.1 rm N S M.2.2.2) {K : dp_K} {ys : Nat → MethodName} {wss : Nat → List Cond} {cf : dp_F} {fr lo : Nat} (hK : dp_Kok cl X.1.2.2.2 own Ts ys wss K) (hcf : dp_cfok cl X.1 ys wss fr lo cf) (hfr : fr + 1 ≤ rm.frames) (hlo : 32 + lo ≤ rm.locals) {ad0 : Nat → Nat} {sh0 : sm_S} {μ0 : sm_M} {pc len : Nat}  (d : decode cc pc = .ok (.lshr, len)) {L : List (Option Value)} {st : List Value} {sh : sm_S} {P : dp_P} {w : dp_w} {s' : dp_T} (h : dp_in K M cf pc L st sh P w .lshr len = some s') (hN : s'.2.2.2.1.length ≤ N) (hS : sm_sl s'.2.2.2.1 ≤ S) (k : dp_J cl X ad0 sh0 μ0 s') : dp_J cl X ad0 sh0 μ0 (pc, L, st, sh, P, w) := by
  obtain ⟨hl, hu1⟩ := dp_g_ok h
  clear h
  have hl := dp_beq hl
  subst hl
  obtain ⟨y, r, rfl, hu2⟩ := dp_1i_ok hu1
  clear hu1
  obtain ⟨x, r, rfl, hu3⟩ := dp_1l_ok hu2
  clear hu2
  rw [dp_fl_eq] at hu3
  cases hu3
  exact fun ad μ a b c e => sm_lshr hX d (k ad μ a b c e)
theorem dp_in_idiv {cl : List vw_C} {X : sm_X} {cc : ByteArray} {own : String} {Ts : List Cond} {rm : Room} {N S : Nat} {M : dp_M} (hX : sm_ok cl X cc M.2.1 own Ts M.2.2.1 rm N S M.2.2.2) {K : dp_K} {ys : Nat → MethodName} {wss : Nat → List Cond} {cf : dp_F} {fr lo : Nat} (hK : dp_Kok cl X.1.2.2.2 own Ts ys wss K) (hcf : dp_cfok cl X.1 ys wss fr lo cf) (hfr : fr + 1 ≤ rm.frames) (hlo : 32 + lo ≤ rm.locals) {ad0 : Nat → Nat} {sh0 : sm_S} {μ0 : sm_M} {pc len : Nat}  (d : decode cc pc = .ok (.idiv, len)) {L : List (Option Value)} {st : List Value} {sh : sm_S} {P : dp_P} {w : dp_w} {s' : dp_T} (h : dp_in K M cf pc L st sh P w .idiv len = some s') (hN : s'.2.2.2.1.length ≤ N) (hS : sm_sl s'.2.2.2.1 ≤ S) (k : dp_J cl X ad0 sh0 μ0 s') : dp_J cl X ad0 sh0 μ0 (pc, L, st, sh, P, w) := by
  obtain ⟨hl, hu1⟩ := dp_g_ok h
  clear h
  have hl := dp_beq hl
  subst hl
  obtain ⟨y, r, rfl, hu2⟩ := dp_1i_ok hu1
  clear hu1
  obtain ⟨x, r, rfl, hu3⟩ := dp_1i_ok hu2
  clear hu2
  obtain ⟨hne, hu4⟩ := dp_g_ok hu3
  clear hu3
  have hne : ¬ y = 0 := by simpa using hne
  rw [dp_fi_eq] at hu4
  cases hu4
  exact fun ad μ a b c e => sm_idiv hX d hne (k ad μ a b c e)
theorem dp_in_irem {cl : List vw_C} {X : sm_X} {cc : ByteArray} {own : String} {Ts : List Cond} {rm : Room} {N S : Nat} {M : dp_M} (hX : sm_ok cl X cc M.2.1 own Ts M.2.2.1 rm N S M.2.2.2) {K : dp_K} {ys : Nat → MethodName} {wss : Nat → List Cond} {cf : dp_F} {fr lo : Nat} (hK : dp_Kok cl X.1.2.2.2 own Ts ys wss K) (hcf : dp_cfok cl X.1 ys wss fr lo cf) (hfr : fr + 1 ≤ rm.frames) (hlo : 32 + lo ≤ rm.locals) {ad0 : Nat → Nat} {sh0 : sm_S} {μ0 : sm_M} {pc len : Nat}  (d : decode cc pc = .ok (.irem, len)) {L : List (Option Value)} {st : List Value} {sh : sm_S} {P : dp_P} {w : dp_w} {s' : dp_T} (h : dp_in K M cf pc L st sh P w .irem len = some s') (hN : s'.2.2.2.1.length ≤ N) (hS : sm_sl s'.2.2.2.1 ≤ S) (k : dp_J cl X ad0 sh0 μ0 s') : dp_J cl X ad0 sh0 μ0 (pc, L, st, sh, P, w) := by
  obtain ⟨hl, hu1⟩ := dp_g_ok h
  clear h
  have hl := dp_beq hl
  subst hl
  obtain ⟨y, r, rfl, hu2⟩ := dp_1i_ok hu1
  clear hu1
  obtain ⟨x, r, rfl, hu3⟩ := dp_1i_ok hu2
  clear hu2
  obtain ⟨hne, hu4⟩ := dp_g_ok hu3
  clear hu3
  have hne : ¬ y = 0 := by simpa using hne
  rw [dp_fi_eq] at hu4
  cases hu4
  exact fun ad μ a b c e => sm_irem hX d hne (k ad μ a b c e)
theorem dp_in_ineg {cl : List vw_C} {X : sm_X} {cc : ByteArray} {own : String} {Ts : List Cond} {rm : Room} {N S : Nat} {M : dp_M} (hX : sm_ok cl X cc M.2.1 own Ts M.2.2.1 rm N S M.2.2.2) {K : dp_K} {ys : Nat → MethodName} {wss : Nat → List Cond} {cf : dp_F} {fr lo : Nat} (hK : dp_Kok cl X.1.2.2.2 own Ts ys wss K) (hcf : dp_cfok cl X.1 ys wss fr lo cf) (hfr : fr + 1 ≤ rm.frames) (hlo : 32 + lo ≤ rm.locals) {ad0 : Nat → Nat} {sh0 : sm_S} {μ0 : sm_M} {pc len : Nat}  (d : decode cc pc = .ok (.ineg, len)) {L : List (Option Value)} {st : List Value} {sh : sm_S} {P : dp_P} {w : dp_w} {s' : dp_T} (h : dp_in K M cf pc L st sh P w .ineg len = some s') (hN : s'.2.2.2.1.length ≤ N) (hS : sm_sl s'.2.2.2.1 ≤ S) (k : dp_J cl X ad0 sh0 μ0 s') : dp_J cl X ad0 sh0 μ0 (pc, L, st, sh, P, w) := by
  obtain ⟨hl, hu1⟩ := dp_g_ok h
  clear h
  have hl := dp_beq hl
  subst hl
  obtain ⟨x, r, rfl, hu2⟩ := dp_1i_ok hu1
  clear hu1
  rw [dp_fi_eq] at hu2
  cases hu2
  exact fun ad μ a b c e => sm_ineg hX d (k ad μ a b c e)
theorem dp_in_lcmp {cl : List vw_C} {X : sm_X} {cc : ByteArray} {own : String} {Ts : List Cond} {rm : Room} {N S : Nat} {M : dp_M} (hX : sm_ok cl X cc M.2.1 own Ts M.2.2.1 rm N S M.2.2.2) {K : dp_K} {ys : Nat → MethodName} {wss : Nat → List Cond} {cf : dp_F} {fr lo : Nat} (hK : dp_Kok cl X.1.2.2.2 own Ts ys wss K) (hcf : dp_cfok cl X.1 ys wss fr lo cf) (hfr : fr + 1 ≤ rm.frames) (hlo : 32 + lo ≤ rm.locals) {ad0 : Nat → Nat} {sh0 : sm_S} {μ0 : sm_M} {pc len : Nat}  (d : decode cc pc = .ok (.lcmp, len)) {L : List (Option Value)} {st : List Value} {sh : sm_S} {P : dp_P} {w : dp_w} {s' : dp_T} (h : dp_in K M cf pc L st sh P w .lcmp len = some s') (hN : s'.2.2.2.1.length ≤ N) (hS : sm_sl s'.2.2.2.1 ≤ S) (k : dp_J cl X ad0 sh0 μ0 s') : dp_J cl X ad0 sh0 μ0 (pc, L, st, sh, P, w) := by
  obtain ⟨hl, hu1⟩ := dp_g_ok h
  clear h
  have hl := dp_beq hl
  subst hl
  obtain ⟨y, r, rfl, hu2⟩ := dp_1l_ok hu1
  clear hu1
  obtain ⟨x, r, rfl, hu3⟩ := dp_1l_ok hu2
  clear hu2
  rw [dp_fi_eq] at hu3
  cases hu3
  exact fun ad μ a b c e => sm_lcmp hX d (k ad μ a b c e)
theorem dp_in_i2l {cl : List vw_C} {X : sm_X} {cc : ByteArray} {own : String} {Ts : List Cond} {rm : Room} {N S : Nat} {M : dp_M} (hX : sm_ok cl X cc M.2.1 own Ts M.2.2.1 rm N S M.2.2.2) {K : dp_K} {ys : Nat → MethodName} {wss : Nat → List Cond} {cf : dp_F} {fr lo : Nat} (hK : dp_Kok cl X.1.2.2.2 own Ts ys wss K) (hcf : dp_cfok cl X.1 ys wss fr lo cf) (hfr : fr + 1 ≤ rm.frames) (hlo : 32 + lo ≤ rm.locals) {ad0 : Nat → Nat} {sh0 : sm_S} {μ0 : sm_M} {pc len : Nat}  (d : decode cc pc = .ok (.i2l, len)) {L : List (Option Value)} {st : List Value} {sh : sm_S} {P : dp_P} {w : dp_w} {s' : dp_T} (h : dp_in K M cf pc L st sh P w .i2l len = some s') (hN : s'.2.2.2.1.length ≤ N) (hS : sm_sl s'.2.2.2.1 ≤ S) (k : dp_J cl X ad0 sh0 μ0 s') : dp_J cl X ad0 sh0 μ0 (pc, L, st, sh, P, w) := by
  obtain ⟨hl, hu1⟩ := dp_g_ok h
  clear h
  have hl := dp_beq hl
  subst hl
  obtain ⟨x, r, rfl, hu2⟩ := dp_1i_ok hu1
  clear hu1
  rw [dp_fl_eq] at hu2
  cases hu2
  exact fun ad μ a b c e => sm_i2l hX d (k ad μ a b c e)
theorem dp_in_l2i {cl : List vw_C} {X : sm_X} {cc : ByteArray} {own : String} {Ts : List Cond} {rm : Room} {N S : Nat} {M : dp_M} (hX : sm_ok cl X cc M.2.1 own Ts M.2.2.1 rm N S M.2.2.2) {K : dp_K} {ys : Nat → MethodName} {wss : Nat → List Cond} {cf : dp_F} {fr lo : Nat} (hK : dp_Kok cl X.1.2.2.2 own Ts ys wss K) (hcf : dp_cfok cl X.1 ys wss fr lo cf) (hfr : fr + 1 ≤ rm.frames) (hlo : 32 + lo ≤ rm.locals) {ad0 : Nat → Nat} {sh0 : sm_S} {μ0 : sm_M} {pc len : Nat}  (d : decode cc pc = .ok (.l2i, len)) {L : List (Option Value)} {st : List Value} {sh : sm_S} {P : dp_P} {w : dp_w} {s' : dp_T} (h : dp_in K M cf pc L st sh P w .l2i len = some s') (hN : s'.2.2.2.1.length ≤ N) (hS : sm_sl s'.2.2.2.1 ≤ S) (k : dp_J cl X ad0 sh0 μ0 s') : dp_J cl X ad0 sh0 μ0 (pc, L, st, sh, P, w) := by
  obtain ⟨hl, hu1⟩ := dp_g_ok h
  clear h
  have hl := dp_beq hl
  subst hl
  obtain ⟨x, r, rfl, hu2⟩ := dp_1l_ok hu1
  clear hu1
  rw [dp_fi_eq] at hu2
  cases hu2
  exact fun ad μ a b c e => sm_l2i hX d (k ad μ a b c e)
theorem dp_in_iconst {cl : List vw_C} {X : sm_X} {cc : ByteArray} {own : String} {Ts : List Cond} {rm : Room} {N S : Nat} {M : dp_M} (hX : sm_ok cl X cc M.2.1 own Ts M.2.2.1 rm N S M.2.2.2) {K : dp_K} {ys : Nat → MethodName} {wss : Nat → List Cond} {cf : dp_F} {fr lo : Nat} (hK : dp_Kok cl X.1.2.2.2 own Ts ys wss K) (hcf : dp_cfok cl X.1 ys wss fr lo cf) (hfr : fr + 1 ≤ rm.frames) (hlo : 32 + lo ≤ rm.locals) {ad0 : Nat → Nat} {sh0 : sm_S} {μ0 : sm_M} {pc len : Nat} (i : Int) (d : decode cc pc = .ok ((.iconst i), len)) {L : List (Option Value)} {st : List Value} {sh : sm_S} {P : dp_P} {w : dp_w} {s' : dp_T} (h : dp_in K M cf pc L st sh P w (.iconst i) len = some s') (hN : s'.2.2.2.1.length ≤ N) (hS : sm_sl s'.2.2.2.1 ≤ S) (k : dp_J cl X ad0 sh0 μ0 s') : dp_J cl X ad0 sh0 μ0 (pc, L, st, sh, P, w) := by
  obtain ⟨hl, hu1⟩ := dp_g_ok h
  clear h
  have hl := dp_beq hl
  subst hl
  rw [dp_fi_eq] at hu1
  cases hu1
  exact fun ad μ a b c e => sm_iconst hX d (k ad μ a b c e)
theorem dp_in_bipush {cl : List vw_C} {X : sm_X} {cc : ByteArray} {own : String} {Ts : List Cond} {rm : Room} {N S : Nat} {M : dp_M} (hX : sm_ok cl X cc M.2.1 own Ts M.2.2.1 rm N S M.2.2.2) {K : dp_K} {ys : Nat → MethodName} {wss : Nat → List Cond} {cf : dp_F} {fr lo : Nat} (hK : dp_Kok cl X.1.2.2.2 own Ts ys wss K) (hcf : dp_cfok cl X.1 ys wss fr lo cf) (hfr : fr + 1 ≤ rm.frames) (hlo : 32 + lo ≤ rm.locals) {ad0 : Nat → Nat} {sh0 : sm_S} {μ0 : sm_M} {pc len : Nat} (i : Int) (d : decode cc pc = .ok ((.bipush i), len)) {L : List (Option Value)} {st : List Value} {sh : sm_S} {P : dp_P} {w : dp_w} {s' : dp_T} (h : dp_in K M cf pc L st sh P w (.bipush i) len = some s') (hN : s'.2.2.2.1.length ≤ N) (hS : sm_sl s'.2.2.2.1 ≤ S) (k : dp_J cl X ad0 sh0 μ0 s') : dp_J cl X ad0 sh0 μ0 (pc, L, st, sh, P, w) := by
  obtain ⟨hl, hu1⟩ := dp_g_ok h
  clear h
  have hl := dp_beq hl
  subst hl
  rw [dp_fi_eq] at hu1
  cases hu1
  exact fun ad μ a b c e => sm_bipush hX d (k ad μ a b c e)
theorem dp_in_sipush {cl : List vw_C} {X : sm_X} {cc : ByteArray} {own : String} {Ts : List Cond} {rm : Room} {N S : Nat} {M : dp_M} (hX : sm_ok cl X cc M.2.1 own Ts M.2.2.1 rm N S M.2.2.2) {K : dp_K} {ys : Nat → MethodName} {wss : Nat → List Cond} {cf : dp_F} {fr lo : Nat} (hK : dp_Kok cl X.1.2.2.2 own Ts ys wss K) (hcf : dp_cfok cl X.1 ys wss fr lo cf) (hfr : fr + 1 ≤ rm.frames) (hlo : 32 + lo ≤ rm.locals) {ad0 : Nat → Nat} {sh0 : sm_S} {μ0 : sm_M} {pc len : Nat} (i : Int) (d : decode cc pc = .ok ((.sipush i), len)) {L : List (Option Value)} {st : List Value} {sh : sm_S} {P : dp_P} {w : dp_w} {s' : dp_T} (h : dp_in K M cf pc L st sh P w (.sipush i) len = some s') (hN : s'.2.2.2.1.length ≤ N) (hS : sm_sl s'.2.2.2.1 ≤ S) (k : dp_J cl X ad0 sh0 μ0 s') : dp_J cl X ad0 sh0 μ0 (pc, L, st, sh, P, w) := by
  obtain ⟨hl, hu1⟩ := dp_g_ok h
  clear h
  have hl := dp_beq hl
  subst hl
  rw [dp_fi_eq] at hu1
  cases hu1
  exact fun ad μ a b c e => sm_sipush hX d (k ad μ a b c e)
theorem dp_in_lconst {cl : List vw_C} {X : sm_X} {cc : ByteArray} {own : String} {Ts : List Cond} {rm : Room} {N S : Nat} {M : dp_M} (hX : sm_ok cl X cc M.2.1 own Ts M.2.2.1 rm N S M.2.2.2) {K : dp_K} {ys : Nat → MethodName} {wss : Nat → List Cond} {cf : dp_F} {fr lo : Nat} (hK : dp_Kok cl X.1.2.2.2 own Ts ys wss K) (hcf : dp_cfok cl X.1 ys wss fr lo cf) (hfr : fr + 1 ≤ rm.frames) (hlo : 32 + lo ≤ rm.locals) {ad0 : Nat → Nat} {sh0 : sm_S} {μ0 : sm_M} {pc len : Nat} (i : Fin 2) (d : decode cc pc = .ok ((.lconst i), len)) {L : List (Option Value)} {st : List Value} {sh : sm_S} {P : dp_P} {w : dp_w} {s' : dp_T} (h : dp_in K M cf pc L st sh P w (.lconst i) len = some s') (hN : s'.2.2.2.1.length ≤ N) (hS : sm_sl s'.2.2.2.1 ≤ S) (k : dp_J cl X ad0 sh0 μ0 s') : dp_J cl X ad0 sh0 μ0 (pc, L, st, sh, P, w) := by
  obtain ⟨hl, hu1⟩ := dp_g_ok h
  clear h
  have hl := dp_beq hl
  subst hl
  rw [dp_fl_eq] at hu1
  cases hu1
  exact fun ad μ a b c e => sm_lconst hX d (k ad μ a b c e)
theorem dp_in_ldc {cl : List vw_C} {X : sm_X} {cc : ByteArray} {own : String} {Ts : List Cond} {rm : Room} {N S : Nat} {M : dp_M} (hX : sm_ok cl X cc M.2.1 own Ts M.2.2.1 rm N S M.2.2.2) {K : dp_K} {ys : Nat → MethodName} {wss : Nat → List Cond} {cf : dp_F} {fr lo : Nat} (hK : dp_Kok cl X.1.2.2.2 own Ts ys wss K) (hcf : dp_cfok cl X.1 ys wss fr lo cf) (hfr : fr + 1 ≤ rm.frames) (hlo : 32 + lo ≤ rm.locals) {ad0 : Nat → Nat} {sh0 : sm_S} {μ0 : sm_M} {pc len : Nat} (i : Nat) (d : decode cc pc = .ok ((.ldc i), len)) {L : List (Option Value)} {st : List Value} {sh : sm_S} {P : dp_P} {w : dp_w} {s' : dp_T} (h : dp_in K M cf pc L st sh P w (.ldc i) len = some s') (hN : s'.2.2.2.1.length ≤ N) (hS : sm_sl s'.2.2.2.1 ≤ S) (k : dp_J cl X ad0 sh0 μ0 s') : dp_J cl X ad0 sh0 μ0 (pc, L, st, sh, P, w) := by
  obtain ⟨hl, hu1⟩ := dp_g_ok h
  clear h
  have hl := dp_beq hl
  subst hl
  obtain ⟨v, hv, hu2⟩ := dp_o_ok hu1
  clear hu1
  cases hu2
  exact fun ad μ a b c e => sm_ldc hX d (hK.2.1 _ _ hv) (k ad μ a b c e)
theorem dp_in_ldc2_w {cl : List vw_C} {X : sm_X} {cc : ByteArray} {own : String} {Ts : List Cond} {rm : Room} {N S : Nat} {M : dp_M} (hX : sm_ok cl X cc M.2.1 own Ts M.2.2.1 rm N S M.2.2.2) {K : dp_K} {ys : Nat → MethodName} {wss : Nat → List Cond} {cf : dp_F} {fr lo : Nat} (hK : dp_Kok cl X.1.2.2.2 own Ts ys wss K) (hcf : dp_cfok cl X.1 ys wss fr lo cf) (hfr : fr + 1 ≤ rm.frames) (hlo : 32 + lo ≤ rm.locals) {ad0 : Nat → Nat} {sh0 : sm_S} {μ0 : sm_M} {pc len : Nat} (i : Nat) (d : decode cc pc = .ok ((.ldc2_w i), len)) {L : List (Option Value)} {st : List Value} {sh : sm_S} {P : dp_P} {w : dp_w} {s' : dp_T} (h : dp_in K M cf pc L st sh P w (.ldc2_w i) len = some s') (hN : s'.2.2.2.1.length ≤ N) (hS : sm_sl s'.2.2.2.1 ≤ S) (k : dp_J cl X ad0 sh0 μ0 s') : dp_J cl X ad0 sh0 μ0 (pc, L, st, sh, P, w) := by
  obtain ⟨hl, hu1⟩ := dp_g_ok h
  clear h
  have hl := dp_beq hl
  subst hl
  obtain ⟨v, hv, hu2⟩ := dp_o_ok hu1
  clear hu1
  cases hu2
  exact fun ad μ a b c e => sm_ldc2 hX d (hK.2.2.1 _ _ hv) (k ad μ a b c e)
theorem dp_in_dup {cl : List vw_C} {X : sm_X} {cc : ByteArray} {own : String} {Ts : List Cond} {rm : Room} {N S : Nat} {M : dp_M} (hX : sm_ok cl X cc M.2.1 own Ts M.2.2.1 rm N S M.2.2.2) {K : dp_K} {ys : Nat → MethodName} {wss : Nat → List Cond} {cf : dp_F} {fr lo : Nat} (hK : dp_Kok cl X.1.2.2.2 own Ts ys wss K) (hcf : dp_cfok cl X.1 ys wss fr lo cf) (hfr : fr + 1 ≤ rm.frames) (hlo : 32 + lo ≤ rm.locals) {ad0 : Nat → Nat} {sh0 : sm_S} {μ0 : sm_M} {pc len : Nat}  (d : decode cc pc = .ok (.dup, len)) {L : List (Option Value)} {st : List Value} {sh : sm_S} {P : dp_P} {w : dp_w} {s' : dp_T} (h : dp_in K M cf pc L st sh P w .dup len = some s') (hN : s'.2.2.2.1.length ≤ N) (hS : sm_sl s'.2.2.2.1 ≤ S) (k : dp_J cl X ad0 sh0 μ0 s') : dp_J cl X ad0 sh0 μ0 (pc, L, st, sh, P, w) := by
  obtain ⟨hl, hu1⟩ := dp_g_ok h
  clear h
  have hl := dp_beq hl
  subst hl
  obtain ⟨x, r, rfl, hu2⟩ := dp_1v_ok hu1
  clear hu1
  obtain ⟨h1, hu3⟩ := dp_g_ok hu2
  clear hu2
  have h1 := dp_beq h1
  cases hu3
  exact fun ad μ a b c e => sm_dup hX d h1 (k ad μ a b c e)
theorem dp_in_pop {cl : List vw_C} {X : sm_X} {cc : ByteArray} {own : String} {Ts : List Cond} {rm : Room} {N S : Nat} {M : dp_M} (hX : sm_ok cl X cc M.2.1 own Ts M.2.2.1 rm N S M.2.2.2) {K : dp_K} {ys : Nat → MethodName} {wss : Nat → List Cond} {cf : dp_F} {fr lo : Nat} (hK : dp_Kok cl X.1.2.2.2 own Ts ys wss K) (hcf : dp_cfok cl X.1 ys wss fr lo cf) (hfr : fr + 1 ≤ rm.frames) (hlo : 32 + lo ≤ rm.locals) {ad0 : Nat → Nat} {sh0 : sm_S} {μ0 : sm_M} {pc len : Nat}  (d : decode cc pc = .ok (.pop, len)) {L : List (Option Value)} {st : List Value} {sh : sm_S} {P : dp_P} {w : dp_w} {s' : dp_T} (h : dp_in K M cf pc L st sh P w .pop len = some s') (hN : s'.2.2.2.1.length ≤ N) (hS : sm_sl s'.2.2.2.1 ≤ S) (k : dp_J cl X ad0 sh0 μ0 s') : dp_J cl X ad0 sh0 μ0 (pc, L, st, sh, P, w) := by
  obtain ⟨hl, hu1⟩ := dp_g_ok h
  clear h
  have hl := dp_beq hl
  subst hl
  obtain ⟨x, r, rfl, hu2⟩ := dp_1v_ok hu1
  clear hu1
  obtain ⟨h1, hu3⟩ := dp_g_ok hu2
  clear hu2
  have h1 := dp_beq h1
  cases hu3
  exact fun ad μ a b c e => sm_pop hX d h1 (k ad μ a b c e)
theorem dp_in_dup_x1 {cl : List vw_C} {X : sm_X} {cc : ByteArray} {own : String} {Ts : List Cond} {rm : Room} {N S : Nat} {M : dp_M} (hX : sm_ok cl X cc M.2.1 own Ts M.2.2.1 rm N S M.2.2.2) {K : dp_K} {ys : Nat → MethodName} {wss : Nat → List Cond} {cf : dp_F} {fr lo : Nat} (hK : dp_Kok cl X.1.2.2.2 own Ts ys wss K) (hcf : dp_cfok cl X.1 ys wss fr lo cf) (hfr : fr + 1 ≤ rm.frames) (hlo : 32 + lo ≤ rm.locals) {ad0 : Nat → Nat} {sh0 : sm_S} {μ0 : sm_M} {pc len : Nat}  (d : decode cc pc = .ok (.dup_x1, len)) {L : List (Option Value)} {st : List Value} {sh : sm_S} {P : dp_P} {w : dp_w} {s' : dp_T} (h : dp_in K M cf pc L st sh P w .dup_x1 len = some s') (hN : s'.2.2.2.1.length ≤ N) (hS : sm_sl s'.2.2.2.1 ≤ S) (k : dp_J cl X ad0 sh0 μ0 s') : dp_J cl X ad0 sh0 μ0 (pc, L, st, sh, P, w) := by
  obtain ⟨hl, hu1⟩ := dp_g_ok h
  clear h
  have hl := dp_beq hl
  subst hl
  obtain ⟨x, r, rfl, hu2⟩ := dp_1v_ok hu1
  clear hu1
  obtain ⟨y, r, rfl, hu3⟩ := dp_1v_ok hu2
  clear hu2
  obtain ⟨h1, hu4⟩ := dp_g_ok hu3
  clear hu3
  have h1 := dp_beq h1
  obtain ⟨h2, hu5⟩ := dp_g_ok hu4
  clear hu4
  have h2 := dp_beq h2
  cases hu5
  exact fun ad μ a b c e => sm_dup_x1 hX d h1 h2 (k ad μ a b c e)
theorem dp_in_dup2 {cl : List vw_C} {X : sm_X} {cc : ByteArray} {own : String} {Ts : List Cond} {rm : Room} {N S : Nat} {M : dp_M} (hX : sm_ok cl X cc M.2.1 own Ts M.2.2.1 rm N S M.2.2.2) {K : dp_K} {ys : Nat → MethodName} {wss : Nat → List Cond} {cf : dp_F} {fr lo : Nat} (hK : dp_Kok cl X.1.2.2.2 own Ts ys wss K) (hcf : dp_cfok cl X.1 ys wss fr lo cf) (hfr : fr + 1 ≤ rm.frames) (hlo : 32 + lo ≤ rm.locals) {ad0 : Nat → Nat} {sh0 : sm_S} {μ0 : sm_M} {pc len : Nat}  (d : decode cc pc = .ok (.dup2, len)) {L : List (Option Value)} {st : List Value} {sh : sm_S} {P : dp_P} {w : dp_w} {s' : dp_T} (h : dp_in K M cf pc L st sh P w .dup2 len = some s') (hN : s'.2.2.2.1.length ≤ N) (hS : sm_sl s'.2.2.2.1 ≤ S) (k : dp_J cl X ad0 sh0 μ0 s') : dp_J cl X ad0 sh0 μ0 (pc, L, st, sh, P, w) := by
  obtain ⟨hl, hu1⟩ := dp_g_ok h
  clear h
  have hl := dp_beq hl
  subst hl
  obtain ⟨x, r, rfl, hu2⟩ := dp_1v_ok hu1
  clear hu1
  obtain ⟨y, r, rfl, hu3⟩ := dp_1v_ok hu2
  clear hu2
  obtain ⟨h1, hu4⟩ := dp_g_ok hu3
  clear hu3
  have h1 := dp_beq h1
  obtain ⟨h2, hu5⟩ := dp_g_ok hu4
  clear hu4
  have h2 := dp_beq h2
  cases hu5
  exact fun ad μ a b c e => sm_dup2 hX d h1 h2 (k ad μ a b c e)
theorem dp_in_iload {cl : List vw_C} {X : sm_X} {cc : ByteArray} {own : String} {Ts : List Cond} {rm : Room} {N S : Nat} {M : dp_M} (hX : sm_ok cl X cc M.2.1 own Ts M.2.2.1 rm N S M.2.2.2) {K : dp_K} {ys : Nat → MethodName} {wss : Nat → List Cond} {cf : dp_F} {fr lo : Nat} (hK : dp_Kok cl X.1.2.2.2 own Ts ys wss K) (hcf : dp_cfok cl X.1 ys wss fr lo cf) (hfr : fr + 1 ≤ rm.frames) (hlo : 32 + lo ≤ rm.locals) {ad0 : Nat → Nat} {sh0 : sm_S} {μ0 : sm_M} {pc len : Nat} (i : Nat) (d : decode cc pc = .ok ((.iload i), len)) {L : List (Option Value)} {st : List Value} {sh : sm_S} {P : dp_P} {w : dp_w} {s' : dp_T} (h : dp_in K M cf pc L st sh P w (.iload i) len = some s') (hN : s'.2.2.2.1.length ≤ N) (hS : sm_sl s'.2.2.2.1 ≤ S) (k : dp_J cl X ad0 sh0 μ0 s') : dp_J cl X ad0 sh0 μ0 (pc, L, st, sh, P, w) := by
  obtain ⟨hl, hu1⟩ := dp_g_ok h
  clear h
  have hl := dp_beq hl
  subst hl
  obtain ⟨x, hx, hu2⟩ := dp_li_ok hu1
  clear hu1
  cases hu2
  exact fun ad μ a b c e => sm_iloadG hX d hx (k ad μ a b c e)
theorem dp_in_iload_n {cl : List vw_C} {X : sm_X} {cc : ByteArray} {own : String} {Ts : List Cond} {rm : Room} {N S : Nat} {M : dp_M} (hX : sm_ok cl X cc M.2.1 own Ts M.2.2.1 rm N S M.2.2.2) {K : dp_K} {ys : Nat → MethodName} {wss : Nat → List Cond} {cf : dp_F} {fr lo : Nat} (hK : dp_Kok cl X.1.2.2.2 own Ts ys wss K) (hcf : dp_cfok cl X.1 ys wss fr lo cf) (hfr : fr + 1 ≤ rm.frames) (hlo : 32 + lo ≤ rm.locals) {ad0 : Nat → Nat} {sh0 : sm_S} {μ0 : sm_M} {pc len : Nat} (i : Fin 4) (d : decode cc pc = .ok ((.iload_n i), len)) {L : List (Option Value)} {st : List Value} {sh : sm_S} {P : dp_P} {w : dp_w} {s' : dp_T} (h : dp_in K M cf pc L st sh P w (.iload_n i) len = some s') (hN : s'.2.2.2.1.length ≤ N) (hS : sm_sl s'.2.2.2.1 ≤ S) (k : dp_J cl X ad0 sh0 μ0 s') : dp_J cl X ad0 sh0 μ0 (pc, L, st, sh, P, w) := by
  obtain ⟨hl, hu1⟩ := dp_g_ok h
  clear h
  have hl := dp_beq hl
  subst hl
  obtain ⟨x, hx, hu2⟩ := dp_li_ok hu1
  clear hu1
  cases hu2
  exact fun ad μ a b c e => sm_iloadN hX d hx (k ad μ a b c e)
theorem dp_in_istore {cl : List vw_C} {X : sm_X} {cc : ByteArray} {own : String} {Ts : List Cond} {rm : Room} {N S : Nat} {M : dp_M} (hX : sm_ok cl X cc M.2.1 own Ts M.2.2.1 rm N S M.2.2.2) {K : dp_K} {ys : Nat → MethodName} {wss : Nat → List Cond} {cf : dp_F} {fr lo : Nat} (hK : dp_Kok cl X.1.2.2.2 own Ts ys wss K) (hcf : dp_cfok cl X.1 ys wss fr lo cf) (hfr : fr + 1 ≤ rm.frames) (hlo : 32 + lo ≤ rm.locals) {ad0 : Nat → Nat} {sh0 : sm_S} {μ0 : sm_M} {pc len : Nat} (i : Nat) (d : decode cc pc = .ok ((.istore i), len)) {L : List (Option Value)} {st : List Value} {sh : sm_S} {P : dp_P} {w : dp_w} {s' : dp_T} (h : dp_in K M cf pc L st sh P w (.istore i) len = some s') (hN : s'.2.2.2.1.length ≤ N) (hS : sm_sl s'.2.2.2.1 ≤ S) (k : dp_J cl X ad0 sh0 μ0 s') : dp_J cl X ad0 sh0 μ0 (pc, L, st, sh, P, w) := by
  obtain ⟨hl, hu1⟩ := dp_g_ok h
  clear h
  have hl := dp_beq hl
  subst hl
  obtain ⟨x, r, rfl, hu2⟩ := dp_1i_ok hu1
  clear hu1
  obtain ⟨h1, hu3⟩ := dp_g_ok hu2
  clear hu2
  obtain ⟨h2, hu4⟩ := dp_g_ok hu3
  clear hu3
  have h2 := Nat.le_of_ble_eq_true h2
  cases hu4
  exact fun ad μ a b c e => sm_istoreG hX d h1 (by omega) (k ad μ a b c e)
theorem dp_in_istore_n {cl : List vw_C} {X : sm_X} {cc : ByteArray} {own : String} {Ts : List Cond} {rm : Room} {N S : Nat} {M : dp_M} (hX : sm_ok cl X cc M.2.1 own Ts M.2.2.1 rm N S M.2.2.2) {K : dp_K} {ys : Nat → MethodName} {wss : Nat → List Cond} {cf : dp_F} {fr lo : Nat} (hK : dp_Kok cl X.1.2.2.2 own Ts ys wss K) (hcf : dp_cfok cl X.1 ys wss fr lo cf) (hfr : fr + 1 ≤ rm.frames) (hlo : 32 + lo ≤ rm.locals) {ad0 : Nat → Nat} {sh0 : sm_S} {μ0 : sm_M} {pc len : Nat} (i : Fin 4) (d : decode cc pc = .ok ((.istore_n i), len)) {L : List (Option Value)} {st : List Value} {sh : sm_S} {P : dp_P} {w : dp_w} {s' : dp_T} (h : dp_in K M cf pc L st sh P w (.istore_n i) len = some s') (hN : s'.2.2.2.1.length ≤ N) (hS : sm_sl s'.2.2.2.1 ≤ S) (k : dp_J cl X ad0 sh0 μ0 s') : dp_J cl X ad0 sh0 μ0 (pc, L, st, sh, P, w) := by
  obtain ⟨hl, hu1⟩ := dp_g_ok h
  clear h
  have hl := dp_beq hl
  subst hl
  obtain ⟨x, r, rfl, hu2⟩ := dp_1i_ok hu1
  clear hu1
  obtain ⟨h1, hu3⟩ := dp_g_ok hu2
  clear hu2
  obtain ⟨h2, hu4⟩ := dp_g_ok hu3
  clear hu3
  have h2 := Nat.le_of_ble_eq_true h2
  cases hu4
  exact fun ad μ a b c e => sm_istoreN hX d h1 (by omega) (k ad μ a b c e)
theorem dp_in_lload {cl : List vw_C} {X : sm_X} {cc : ByteArray} {own : String} {Ts : List Cond} {rm : Room} {N S : Nat} {M : dp_M} (hX : sm_ok cl X cc M.2.1 own Ts M.2.2.1 rm N S M.2.2.2) {K : dp_K} {ys : Nat → MethodName} {wss : Nat → List Cond} {cf : dp_F} {fr lo : Nat} (hK : dp_Kok cl X.1.2.2.2 own Ts ys wss K) (hcf : dp_cfok cl X.1 ys wss fr lo cf) (hfr : fr + 1 ≤ rm.frames) (hlo : 32 + lo ≤ rm.locals) {ad0 : Nat → Nat} {sh0 : sm_S} {μ0 : sm_M} {pc len : Nat} (i : Nat) (d : decode cc pc = .ok ((.lload i), len)) {L : List (Option Value)} {st : List Value} {sh : sm_S} {P : dp_P} {w : dp_w} {s' : dp_T} (h : dp_in K M cf pc L st sh P w (.lload i) len = some s') (hN : s'.2.2.2.1.length ≤ N) (hS : sm_sl s'.2.2.2.1 ≤ S) (k : dp_J cl X ad0 sh0 μ0 s') : dp_J cl X ad0 sh0 μ0 (pc, L, st, sh, P, w) := by
  obtain ⟨hl, hu1⟩ := dp_g_ok h
  clear h
  have hl := dp_beq hl
  subst hl
  obtain ⟨x, hx, hu2⟩ := dp_ll_ok hu1
  clear hu1
  cases hu2
  exact fun ad μ a b c e => sm_lloadG hX d hx (k ad μ a b c e)
theorem dp_in_lload_n {cl : List vw_C} {X : sm_X} {cc : ByteArray} {own : String} {Ts : List Cond} {rm : Room} {N S : Nat} {M : dp_M} (hX : sm_ok cl X cc M.2.1 own Ts M.2.2.1 rm N S M.2.2.2) {K : dp_K} {ys : Nat → MethodName} {wss : Nat → List Cond} {cf : dp_F} {fr lo : Nat} (hK : dp_Kok cl X.1.2.2.2 own Ts ys wss K) (hcf : dp_cfok cl X.1 ys wss fr lo cf) (hfr : fr + 1 ≤ rm.frames) (hlo : 32 + lo ≤ rm.locals) {ad0 : Nat → Nat} {sh0 : sm_S} {μ0 : sm_M} {pc len : Nat} (i : Fin 4) (d : decode cc pc = .ok ((.lload_n i), len)) {L : List (Option Value)} {st : List Value} {sh : sm_S} {P : dp_P} {w : dp_w} {s' : dp_T} (h : dp_in K M cf pc L st sh P w (.lload_n i) len = some s') (hN : s'.2.2.2.1.length ≤ N) (hS : sm_sl s'.2.2.2.1 ≤ S) (k : dp_J cl X ad0 sh0 μ0 s') : dp_J cl X ad0 sh0 μ0 (pc, L, st, sh, P, w) := by
  obtain ⟨hl, hu1⟩ := dp_g_ok h
  clear h
  have hl := dp_beq hl
  subst hl
  obtain ⟨x, hx, hu2⟩ := dp_ll_ok hu1
  clear hu1
  cases hu2
  exact fun ad μ a b c e => sm_lloadN hX d hx (k ad μ a b c e)
theorem dp_in_lstore {cl : List vw_C} {X : sm_X} {cc : ByteArray} {own : String} {Ts : List Cond} {rm : Room} {N S : Nat} {M : dp_M} (hX : sm_ok cl X cc M.2.1 own Ts M.2.2.1 rm N S M.2.2.2) {K : dp_K} {ys : Nat → MethodName} {wss : Nat → List Cond} {cf : dp_F} {fr lo : Nat} (hK : dp_Kok cl X.1.2.2.2 own Ts ys wss K) (hcf : dp_cfok cl X.1 ys wss fr lo cf) (hfr : fr + 1 ≤ rm.frames) (hlo : 32 + lo ≤ rm.locals) {ad0 : Nat → Nat} {sh0 : sm_S} {μ0 : sm_M} {pc len : Nat} (i : Nat) (d : decode cc pc = .ok ((.lstore i), len)) {L : List (Option Value)} {st : List Value} {sh : sm_S} {P : dp_P} {w : dp_w} {s' : dp_T} (h : dp_in K M cf pc L st sh P w (.lstore i) len = some s') (hN : s'.2.2.2.1.length ≤ N) (hS : sm_sl s'.2.2.2.1 ≤ S) (k : dp_J cl X ad0 sh0 μ0 s') : dp_J cl X ad0 sh0 μ0 (pc, L, st, sh, P, w) := by
  obtain ⟨hl, hu1⟩ := dp_g_ok h
  clear h
  have hl := dp_beq hl
  subst hl
  obtain ⟨x, r, rfl, hu2⟩ := dp_1l_ok hu1
  clear hu1
  obtain ⟨h1, hu3⟩ := dp_g_ok hu2
  clear hu2
  obtain ⟨h2, hu4⟩ := dp_g_ok hu3
  clear hu3
  have h2 := Nat.le_of_ble_eq_true h2
  cases hu4
  exact fun ad μ a b c e => sm_lstoreG hX d h1 (by omega) (k ad μ a b c e)
theorem dp_in_lstore_n {cl : List vw_C} {X : sm_X} {cc : ByteArray} {own : String} {Ts : List Cond} {rm : Room} {N S : Nat} {M : dp_M} (hX : sm_ok cl X cc M.2.1 own Ts M.2.2.1 rm N S M.2.2.2) {K : dp_K} {ys : Nat → MethodName} {wss : Nat → List Cond} {cf : dp_F} {fr lo : Nat} (hK : dp_Kok cl X.1.2.2.2 own Ts ys wss K) (hcf : dp_cfok cl X.1 ys wss fr lo cf) (hfr : fr + 1 ≤ rm.frames) (hlo : 32 + lo ≤ rm.locals) {ad0 : Nat → Nat} {sh0 : sm_S} {μ0 : sm_M} {pc len : Nat} (i : Fin 4) (d : decode cc pc = .ok ((.lstore_n i), len)) {L : List (Option Value)} {st : List Value} {sh : sm_S} {P : dp_P} {w : dp_w} {s' : dp_T} (h : dp_in K M cf pc L st sh P w (.lstore_n i) len = some s') (hN : s'.2.2.2.1.length ≤ N) (hS : sm_sl s'.2.2.2.1 ≤ S) (k : dp_J cl X ad0 sh0 μ0 s') : dp_J cl X ad0 sh0 μ0 (pc, L, st, sh, P, w) := by
  obtain ⟨hl, hu1⟩ := dp_g_ok h
  clear h
  have hl := dp_beq hl
  subst hl
  obtain ⟨x, r, rfl, hu2⟩ := dp_1l_ok hu1
  clear hu1
  obtain ⟨h1, hu3⟩ := dp_g_ok hu2
  clear hu2
  obtain ⟨h2, hu4⟩ := dp_g_ok hu3
  clear hu3
  have h2 := Nat.le_of_ble_eq_true h2
  cases hu4
  exact fun ad μ a b c e => sm_lstoreN hX d h1 (by omega) (k ad μ a b c e)
theorem dp_in_aload {cl : List vw_C} {X : sm_X} {cc : ByteArray} {own : String} {Ts : List Cond} {rm : Room} {N S : Nat} {M : dp_M} (hX : sm_ok cl X cc M.2.1 own Ts M.2.2.1 rm N S M.2.2.2) {K : dp_K} {ys : Nat → MethodName} {wss : Nat → List Cond} {cf : dp_F} {fr lo : Nat} (hK : dp_Kok cl X.1.2.2.2 own Ts ys wss K) (hcf : dp_cfok cl X.1 ys wss fr lo cf) (hfr : fr + 1 ≤ rm.frames) (hlo : 32 + lo ≤ rm.locals) {ad0 : Nat → Nat} {sh0 : sm_S} {μ0 : sm_M} {pc len : Nat} (i : Nat) (d : decode cc pc = .ok ((.aload i), len)) {L : List (Option Value)} {st : List Value} {sh : sm_S} {P : dp_P} {w : dp_w} {s' : dp_T} (h : dp_in K M cf pc L st sh P w (.aload i) len = some s') (hN : s'.2.2.2.1.length ≤ N) (hS : sm_sl s'.2.2.2.1 ≤ S) (k : dp_J cl X ad0 sh0 μ0 s') : dp_J cl X ad0 sh0 μ0 (pc, L, st, sh, P, w) := by
  obtain ⟨hl, hu1⟩ := dp_g_ok h
  clear h
  have hl := dp_beq hl
  subst hl
  obtain ⟨x, hx, hu2⟩ := dp_la_ok hu1
  clear hu1
  cases hu2
  exact fun ad μ a b c e => sm_aloadG hX d hx (k ad μ a b c e)
theorem dp_in_aload_n {cl : List vw_C} {X : sm_X} {cc : ByteArray} {own : String} {Ts : List Cond} {rm : Room} {N S : Nat} {M : dp_M} (hX : sm_ok cl X cc M.2.1 own Ts M.2.2.1 rm N S M.2.2.2) {K : dp_K} {ys : Nat → MethodName} {wss : Nat → List Cond} {cf : dp_F} {fr lo : Nat} (hK : dp_Kok cl X.1.2.2.2 own Ts ys wss K) (hcf : dp_cfok cl X.1 ys wss fr lo cf) (hfr : fr + 1 ≤ rm.frames) (hlo : 32 + lo ≤ rm.locals) {ad0 : Nat → Nat} {sh0 : sm_S} {μ0 : sm_M} {pc len : Nat} (i : Fin 4) (d : decode cc pc = .ok ((.aload_n i), len)) {L : List (Option Value)} {st : List Value} {sh : sm_S} {P : dp_P} {w : dp_w} {s' : dp_T} (h : dp_in K M cf pc L st sh P w (.aload_n i) len = some s') (hN : s'.2.2.2.1.length ≤ N) (hS : sm_sl s'.2.2.2.1 ≤ S) (k : dp_J cl X ad0 sh0 μ0 s') : dp_J cl X ad0 sh0 μ0 (pc, L, st, sh, P, w) := by
  obtain ⟨hl, hu1⟩ := dp_g_ok h
  clear h
  have hl := dp_beq hl
  subst hl
  obtain ⟨x, hx, hu2⟩ := dp_la_ok hu1
  clear hu1
  cases hu2
  exact fun ad μ a b c e => sm_aloadN hX d hx (k ad μ a b c e)
theorem dp_in_astore {cl : List vw_C} {X : sm_X} {cc : ByteArray} {own : String} {Ts : List Cond} {rm : Room} {N S : Nat} {M : dp_M} (hX : sm_ok cl X cc M.2.1 own Ts M.2.2.1 rm N S M.2.2.2) {K : dp_K} {ys : Nat → MethodName} {wss : Nat → List Cond} {cf : dp_F} {fr lo : Nat} (hK : dp_Kok cl X.1.2.2.2 own Ts ys wss K) (hcf : dp_cfok cl X.1 ys wss fr lo cf) (hfr : fr + 1 ≤ rm.frames) (hlo : 32 + lo ≤ rm.locals) {ad0 : Nat → Nat} {sh0 : sm_S} {μ0 : sm_M} {pc len : Nat} (i : Nat) (d : decode cc pc = .ok ((.astore i), len)) {L : List (Option Value)} {st : List Value} {sh : sm_S} {P : dp_P} {w : dp_w} {s' : dp_T} (h : dp_in K M cf pc L st sh P w (.astore i) len = some s') (hN : s'.2.2.2.1.length ≤ N) (hS : sm_sl s'.2.2.2.1 ≤ S) (k : dp_J cl X ad0 sh0 μ0 s') : dp_J cl X ad0 sh0 μ0 (pc, L, st, sh, P, w) := by
  obtain ⟨hl, hu1⟩ := dp_g_ok h
  clear h
  have hl := dp_beq hl
  subst hl
  obtain ⟨x, r, rfl, hu2⟩ := dp_1r_ok hu1
  clear hu1
  obtain ⟨h1, hu3⟩ := dp_g_ok hu2
  clear hu2
  obtain ⟨h2, hu4⟩ := dp_g_ok hu3
  clear hu3
  have h2 := Nat.le_of_ble_eq_true h2
  cases hu4
  exact fun ad μ a b c e => sm_astoreG hX d h1 (by omega) (k ad μ a b c e)
theorem dp_in_astore_n {cl : List vw_C} {X : sm_X} {cc : ByteArray} {own : String} {Ts : List Cond} {rm : Room} {N S : Nat} {M : dp_M} (hX : sm_ok cl X cc M.2.1 own Ts M.2.2.1 rm N S M.2.2.2) {K : dp_K} {ys : Nat → MethodName} {wss : Nat → List Cond} {cf : dp_F} {fr lo : Nat} (hK : dp_Kok cl X.1.2.2.2 own Ts ys wss K) (hcf : dp_cfok cl X.1 ys wss fr lo cf) (hfr : fr + 1 ≤ rm.frames) (hlo : 32 + lo ≤ rm.locals) {ad0 : Nat → Nat} {sh0 : sm_S} {μ0 : sm_M} {pc len : Nat} (i : Fin 4) (d : decode cc pc = .ok ((.astore_n i), len)) {L : List (Option Value)} {st : List Value} {sh : sm_S} {P : dp_P} {w : dp_w} {s' : dp_T} (h : dp_in K M cf pc L st sh P w (.astore_n i) len = some s') (hN : s'.2.2.2.1.length ≤ N) (hS : sm_sl s'.2.2.2.1 ≤ S) (k : dp_J cl X ad0 sh0 μ0 s') : dp_J cl X ad0 sh0 μ0 (pc, L, st, sh, P, w) := by
  obtain ⟨hl, hu1⟩ := dp_g_ok h
  clear h
  have hl := dp_beq hl
  subst hl
  obtain ⟨x, r, rfl, hu2⟩ := dp_1r_ok hu1
  clear hu1
  obtain ⟨h1, hu3⟩ := dp_g_ok hu2
  clear hu2
  obtain ⟨h2, hu4⟩ := dp_g_ok hu3
  clear hu3
  have h2 := Nat.le_of_ble_eq_true h2
  cases hu4
  exact fun ad μ a b c e => sm_astoreN hX d h1 (by omega) (k ad μ a b c e)
theorem dp_in_iinc {cl : List vw_C} {X : sm_X} {cc : ByteArray} {own : String} {Ts : List Cond} {rm : Room} {N S : Nat} {M : dp_M} (hX : sm_ok cl X cc M.2.1 own Ts M.2.2.1 rm N S M.2.2.2) {K : dp_K} {ys : Nat → MethodName} {wss : Nat → List Cond} {cf : dp_F} {fr lo : Nat} (hK : dp_Kok cl X.1.2.2.2 own Ts ys wss K) (hcf : dp_cfok cl X.1 ys wss fr lo cf) (hfr : fr + 1 ≤ rm.frames) (hlo : 32 + lo ≤ rm.locals) {ad0 : Nat → Nat} {sh0 : sm_S} {μ0 : sm_M} {pc len : Nat} (i : Nat) (z : Int) (d : decode cc pc = .ok ((.iinc i z), len)) {L : List (Option Value)} {st : List Value} {sh : sm_S} {P : dp_P} {w : dp_w} {s' : dp_T} (h : dp_in K M cf pc L st sh P w (.iinc i z) len = some s') (hN : s'.2.2.2.1.length ≤ N) (hS : sm_sl s'.2.2.2.1 ≤ S) (k : dp_J cl X ad0 sh0 μ0 s') : dp_J cl X ad0 sh0 μ0 (pc, L, st, sh, P, w) := by
  obtain ⟨hl, hu1⟩ := dp_g_ok h
  clear h
  have hl := dp_beq hl
  subst hl
  obtain ⟨x, hx, hu2⟩ := dp_li_ok hu1
  clear hu1
  obtain ⟨h1, hu3⟩ := dp_g_ok hu2
  clear hu2
  obtain ⟨h2, hu4⟩ := dp_g_ok hu3
  clear hu3
  have h2 := Nat.le_of_ble_eq_true h2
  rw [dp_fi_eq] at hu4
  cases hu4
  exact fun ad μ a b c e => sm_iincG hX d hx h1 (by omega) (k ad μ a b c e)
theorem dp_in_ifCond {cl : List vw_C} {X : sm_X} {cc : ByteArray} {own : String} {Ts : List Cond} {rm : Room} {N S : Nat} {M : dp_M} (hX : sm_ok cl X cc M.2.1 own Ts M.2.2.1 rm N S M.2.2.2) {K : dp_K} {ys : Nat → MethodName} {wss : Nat → List Cond} {cf : dp_F} {fr lo : Nat} (hK : dp_Kok cl X.1.2.2.2 own Ts ys wss K) (hcf : dp_cfok cl X.1 ys wss fr lo cf) (hfr : fr + 1 ≤ rm.frames) (hlo : 32 + lo ≤ rm.locals) {ad0 : Nat → Nat} {sh0 : sm_S} {μ0 : sm_M} {pc len : Nat} (cn : Jvm.ClassFile.Cond) (off : Int) (d : decode cc pc = .ok ((.ifCond cn off), len)) {L : List (Option Value)} {st : List Value} {sh : sm_S} {P : dp_P} {w : dp_w} {s' : dp_T} (h : dp_in K M cf pc L st sh P w (.ifCond cn off) len = some s') (hN : s'.2.2.2.1.length ≤ N) (hS : sm_sl s'.2.2.2.1 ≤ S) (k : dp_J cl X ad0 sh0 μ0 s') : dp_J cl X ad0 sh0 μ0 (pc, L, st, sh, P, w) := by
  obtain ⟨hl, hu1⟩ := dp_g_ok h
  clear h
  have hl := dp_beq hl
  subst hl
  obtain ⟨x, r, rfl, hu2⟩ := dp_1i_ok hu1
  clear hu1
  obtain ⟨t, ht, hu3⟩ := dp_tg_ok hu2
  clear hu2
  cases hc : dp_c0 cn x with
  | true =>
    rw [hc] at hu3
    cases hu3
    intro ad μ a b c e
    cases cn with
    | eq =>
      have hc := of_decide_eq_true hc
      exact sm_if_eq hX t d ht (fun _ => k ad μ a b c e) (fun z => absurd hc z)
    | ne =>
      have hc := of_decide_eq_false ((Bool.not_eq_true' _).mp hc)
      exact sm_if_ne hX t d ht (fun _ => k ad μ a b c e) (fun z => absurd z hc)
    | lt =>
      have hc := of_decide_eq_true hc
      exact sm_if_lt hX t d ht (fun _ => k ad μ a b c e) (fun z => absurd hc z)
    | ge =>
      have hc := of_decide_eq_true hc
      exact sm_if_ge hX t d ht (fun _ => k ad μ a b c e) (fun z => absurd hc z)
    | gt =>
      have hc := of_decide_eq_true hc
      exact sm_if_gt hX t d ht (fun _ => k ad μ a b c e) (fun z => absurd hc z)
    | le =>
      have hc := of_decide_eq_true hc
      exact sm_if_le hX t d ht (fun _ => k ad μ a b c e) (fun z => absurd hc z)
  | false =>
    rw [hc] at hu3
    cases hu3
    intro ad μ a b c e
    cases cn with
    | eq =>
      have hc := of_decide_eq_false hc
      exact sm_if_eq hX t d ht (fun z => absurd z hc) (fun _ => k ad μ a b c e)
    | ne =>
      have hc := of_decide_eq_true ((Bool.not_eq_false' _).mp hc)
      exact sm_if_ne hX t d ht (fun z => absurd hc z) (fun _ => k ad μ a b c e)
    | lt =>
      have hc := of_decide_eq_false hc
      exact sm_if_lt hX t d ht (fun z => absurd z hc) (fun _ => k ad μ a b c e)
    | ge =>
      have hc := of_decide_eq_false hc
      exact sm_if_ge hX t d ht (fun z => absurd z hc) (fun _ => k ad μ a b c e)
    | gt =>
      have hc := of_decide_eq_false hc
      exact sm_if_gt hX t d ht (fun z => absurd z hc) (fun _ => k ad μ a b c e)
    | le =>
      have hc := of_decide_eq_false hc
      exact sm_if_le hX t d ht (fun z => absurd z hc) (fun _ => k ad μ a b c e)
theorem dp_in_if_icmp {cl : List vw_C} {X : sm_X} {cc : ByteArray} {own : String} {Ts : List Cond} {rm : Room} {N S : Nat} {M : dp_M} (hX : sm_ok cl X cc M.2.1 own Ts M.2.2.1 rm N S M.2.2.2) {K : dp_K} {ys : Nat → MethodName} {wss : Nat → List Cond} {cf : dp_F} {fr lo : Nat} (hK : dp_Kok cl X.1.2.2.2 own Ts ys wss K) (hcf : dp_cfok cl X.1 ys wss fr lo cf) (hfr : fr + 1 ≤ rm.frames) (hlo : 32 + lo ≤ rm.locals) {ad0 : Nat → Nat} {sh0 : sm_S} {μ0 : sm_M} {pc len : Nat} (cn : Jvm.ClassFile.Cond) (off : Int) (d : decode cc pc = .ok ((.if_icmp cn off), len)) {L : List (Option Value)} {st : List Value} {sh : sm_S} {P : dp_P} {w : dp_w} {s' : dp_T} (h : dp_in K M cf pc L st sh P w (.if_icmp cn off) len = some s') (hN : s'.2.2.2.1.length ≤ N) (hS : sm_sl s'.2.2.2.1 ≤ S) (k : dp_J cl X ad0 sh0 μ0 s') : dp_J cl X ad0 sh0 μ0 (pc, L, st, sh, P, w) := by
  obtain ⟨hl, hu1⟩ := dp_g_ok h
  clear h
  have hl := dp_beq hl
  subst hl
  obtain ⟨y, r, rfl, hu2⟩ := dp_1i_ok hu1
  clear hu1
  obtain ⟨x, r, rfl, hu3⟩ := dp_1i_ok hu2
  clear hu2
  obtain ⟨t, ht, hu4⟩ := dp_tg_ok hu3
  clear hu3
  cases hc : dp_c2 cn x y with
  | true =>
    rw [hc] at hu4
    cases hu4
    intro ad μ a b c e
    cases cn with
    | eq =>
      have hc := of_decide_eq_true hc
      exact sm_icmp_eq hX t d ht (fun _ => k ad μ a b c e) (fun z => absurd hc z)
    | ne =>
      have hc := of_decide_eq_false ((Bool.not_eq_true' _).mp hc)
      exact sm_icmp_ne hX t d ht (fun _ => k ad μ a b c e) (fun z => absurd z hc)
    | lt =>
      have hc := of_decide_eq_true hc
      exact sm_icmp_lt hX t d ht (fun _ => k ad μ a b c e) (fun z => absurd hc z)
    | ge =>
      have hc := of_decide_eq_true hc
      exact sm_icmp_ge hX t d ht (fun _ => k ad μ a b c e) (fun z => absurd hc z)
    | gt =>
      have hc := of_decide_eq_true hc
      exact sm_icmp_gt hX t d ht (fun _ => k ad μ a b c e) (fun z => absurd hc z)
    | le =>
      have hc := of_decide_eq_true hc
      exact sm_icmp_le hX t d ht (fun _ => k ad μ a b c e) (fun z => absurd hc z)
  | false =>
    rw [hc] at hu4
    cases hu4
    intro ad μ a b c e
    cases cn with
    | eq =>
      have hc := of_decide_eq_false hc
      exact sm_icmp_eq hX t d ht (fun z => absurd z hc) (fun _ => k ad μ a b c e)
    | ne =>
      have hc := of_decide_eq_true ((Bool.not_eq_false' _).mp hc)
      exact sm_icmp_ne hX t d ht (fun z => absurd hc z) (fun _ => k ad μ a b c e)
    | lt =>
      have hc := of_decide_eq_false hc
      exact sm_icmp_lt hX t d ht (fun z => absurd z hc) (fun _ => k ad μ a b c e)
    | ge =>
      have hc := of_decide_eq_false hc
      exact sm_icmp_ge hX t d ht (fun z => absurd z hc) (fun _ => k ad μ a b c e)
    | gt =>
      have hc := of_decide_eq_false hc
      exact sm_icmp_gt hX t d ht (fun z => absurd z hc) (fun _ => k ad μ a b c e)
    | le =>
      have hc := of_decide_eq_false hc
      exact sm_icmp_le hX t d ht (fun z => absurd z hc) (fun _ => k ad μ a b c e)
theorem dp_in_goto {cl : List vw_C} {X : sm_X} {cc : ByteArray} {own : String} {Ts : List Cond} {rm : Room} {N S : Nat} {M : dp_M} (hX : sm_ok cl X cc M.2.1 own Ts M.2.2.1 rm N S M.2.2.2) {K : dp_K} {ys : Nat → MethodName} {wss : Nat → List Cond} {cf : dp_F} {fr lo : Nat} (hK : dp_Kok cl X.1.2.2.2 own Ts ys wss K) (hcf : dp_cfok cl X.1 ys wss fr lo cf) (hfr : fr + 1 ≤ rm.frames) (hlo : 32 + lo ≤ rm.locals) {ad0 : Nat → Nat} {sh0 : sm_S} {μ0 : sm_M} {pc len : Nat} (off : Int) (d : decode cc pc = .ok ((.goto off), len)) {L : List (Option Value)} {st : List Value} {sh : sm_S} {P : dp_P} {w : dp_w} {s' : dp_T} (h : dp_in K M cf pc L st sh P w (.goto off) len = some s') (hN : s'.2.2.2.1.length ≤ N) (hS : sm_sl s'.2.2.2.1 ≤ S) (k : dp_J cl X ad0 sh0 μ0 s') : dp_J cl X ad0 sh0 μ0 (pc, L, st, sh, P, w) := by
  obtain ⟨hl, hu1⟩ := dp_g_ok h
  clear h
  have hl := dp_beq hl
  subst hl
  obtain ⟨t, ht, hu2⟩ := dp_tg_ok hu1
  clear hu1
  cases hu2
  exact fun ad μ a b c e => sm_goto hX t d ht (k ad μ a b c e)
theorem dp_in_lookupswitch {cl : List vw_C} {X : sm_X} {cc : ByteArray} {own : String} {Ts : List Cond} {rm : Room} {N S : Nat} {M : dp_M} (hX : sm_ok cl X cc M.2.1 own Ts M.2.2.1 rm N S M.2.2.2) {K : dp_K} {ys : Nat → MethodName} {wss : Nat → List Cond} {cf : dp_F} {fr lo : Nat} (hK : dp_Kok cl X.1.2.2.2 own Ts ys wss K) (hcf : dp_cfok cl X.1 ys wss fr lo cf) (hfr : fr + 1 ≤ rm.frames) (hlo : 32 + lo ≤ rm.locals) {ad0 : Nat → Nat} {sh0 : sm_S} {μ0 : sm_M} {pc len : Nat} (dflt : Int) (ps : Array (Int × Int)) (d : decode cc pc = .ok ((.lookupswitch dflt ps), len)) {L : List (Option Value)} {st : List Value} {sh : sm_S} {P : dp_P} {w : dp_w} {s' : dp_T} (h : dp_in K M cf pc L st sh P w (.lookupswitch dflt ps) len = some s') (hN : s'.2.2.2.1.length ≤ N) (hS : sm_sl s'.2.2.2.1 ≤ S) (k : dp_J cl X ad0 sh0 μ0 s') : dp_J cl X ad0 sh0 μ0 (pc, L, st, sh, P, w) := by
  obtain ⟨x, r, rfl, hu1⟩ := dp_1i_ok h
  clear h
  obtain ⟨hp, hu2⟩ := dp_g_ok hu1
  clear hu1
  obtain ⟨t, ht, hu3⟩ := dp_tg_ok hu2
  clear hu2
  cases hu3
  exact fun ad μ a b c e => sm_lookup hX t d hp ht (k ad μ a b c e)
theorem dp_in_tableswitch {cl : List vw_C} {X : sm_X} {cc : ByteArray} {own : String} {Ts : List Cond} {rm : Room} {N S : Nat} {M : dp_M} (hX : sm_ok cl X cc M.2.1 own Ts M.2.2.1 rm N S M.2.2.2) {K : dp_K} {ys : Nat → MethodName} {wss : Nat → List Cond} {cf : dp_F} {fr lo : Nat} (hK : dp_Kok cl X.1.2.2.2 own Ts ys wss K) (hcf : dp_cfok cl X.1 ys wss fr lo cf) (hfr : fr + 1 ≤ rm.frames) (hlo : 32 + lo ≤ rm.locals) {ad0 : Nat → Nat} {sh0 : sm_S} {μ0 : sm_M} {pc len : Nat} (dflt : Int) (lo : Int) (hi : Int) (offs : Array Int) (d : decode cc pc = .ok ((.tableswitch dflt lo hi offs), len)) {L : List (Option Value)} {st : List Value} {sh : sm_S} {P : dp_P} {w : dp_w} {s' : dp_T} (h : dp_in K M cf pc L st sh P w (.tableswitch dflt lo hi offs) len = some s') (hN : s'.2.2.2.1.length ≤ N) (hS : sm_sl s'.2.2.2.1 ≤ S) (k : dp_J cl X ad0 sh0 μ0 s') : dp_J cl X ad0 sh0 μ0 (pc, L, st, sh, P, w) := by
  obtain ⟨x, r, rfl, hu1⟩ := dp_1i_ok h
  clear h
  cases hc : decide (x.toInt < lo ∨ hi < x.toInt) with
  | true =>
    rw [hc] at hu1
    obtain ⟨t, ht, hu1⟩ := dp_tg_ok hu1
    cases hu1
    exact fun ad μ a b c e => sm_tableOut hX t d (of_decide_eq_true hc) ht (k ad μ a b c e)
  | false =>
    rw [hc] at hu1
    have hc := of_decide_eq_false hc
    obtain ⟨off, ho, hu1⟩ := dp_o_ok hu1
    obtain ⟨t, ht, hu1⟩ := dp_tg_ok hu1
    cases hu1
    exact fun ad μ a b c e => sm_tableIn hX t d (fun z => hc (Or.inl z)) (fun z => hc (Or.inr z)) ho ht (k ad μ a b c e)
theorem dp_in_getfield {cl : List vw_C} {X : sm_X} {cc : ByteArray} {own : String} {Ts : List Cond} {rm : Room} {N S : Nat} {M : dp_M} (hX : sm_ok cl X cc M.2.1 own Ts M.2.2.1 rm N S M.2.2.2) {K : dp_K} {ys : Nat → MethodName} {wss : Nat → List Cond} {cf : dp_F} {fr lo : Nat} (hK : dp_Kok cl X.1.2.2.2 own Ts ys wss K) (hcf : dp_cfok cl X.1 ys wss fr lo cf) (hfr : fr + 1 ≤ rm.frames) (hlo : 32 + lo ≤ rm.locals) {ad0 : Nat → Nat} {sh0 : sm_S} {μ0 : sm_M} {pc len : Nat} (i : Nat) (d : decode cc pc = .ok ((.getfield i), len)) {L : List (Option Value)} {st : List Value} {sh : sm_S} {P : dp_P} {w : dp_w} {s' : dp_T} (h : dp_in K M cf pc L st sh P w (.getfield i) len = some s') (hN : s'.2.2.2.1.length ≤ N) (hS : sm_sl s'.2.2.2.1 ≤ S) (k : dp_J cl X ad0 sh0 μ0 s') : dp_J cl X ad0 sh0 μ0 (pc, L, st, sh, P, w) := by
  obtain ⟨hl, hu1⟩ := dp_g_ok h
  clear h
  have hl := dp_beq hl
  subst hl
  obtain ⟨p, r, rfl, hu2⟩ := dp_1r_ok hu1
  clear hu1
  obtain ⟨⟨ci, kf, fl⟩, hF, hu3⟩ := dp_o_ok hu2
  clear hu2
  obtain ⟨fs, hs, hu4⟩ := dp_ob_ok hu3
  clear hu3
  obtain ⟨f, hf, hu5⟩ := dp_o_ok hu4
  clear hu4
  obtain ⟨C, T, N', t, e2, e3, e5, e7, e8, e6, -⟩ := hK.1 _ _ hF
  simp only at e2 e3 e5 e6 hs hf
  intro ad μ a b c e
  have key : ∀ v : Value, (∀ q, f = some (some q) → v = .ref q) → (f = none → v = .int (μ.1 p kf)) → sm_E cl X (pc + 3) L (v :: r) ad sh μ := by
    intro v hv1 hv2
    cases f with
    | none =>
      obtain ⟨u, hu, hu5⟩ := dp_o_ok hu5
      cases hu5
      rw [hv2 rfl, a.1 _ _ _ hu]
      exact k ad μ a b c e
    | some f =>
      cases f with
      | none => cases hu5
      | some q =>
        cases hu5
        rw [hv1 q rfl]
        exact k ad μ a b c e
  rcases e6 with e6 | ⟨host, e6⟩
  · exact sm_get hX hs e2 e3 hf e5 e6 d (fun v _ h1 h2 => key v h1 h2)
  · exact sm_getN hX hs e2 e3 hf e5 e6 d (fun v _ h1 h2 => key v h1 h2)
theorem dp_in_putfield {cl : List vw_C} {X : sm_X} {cc : ByteArray} {own : String} {Ts : List Cond} {rm : Room} {N S : Nat} {M : dp_M} (hX : sm_ok cl X cc M.2.1 own Ts M.2.2.1 rm N S M.2.2.2) {K : dp_K} {ys : Nat → MethodName} {wss : Nat → List Cond} {cf : dp_F} {fr lo : Nat} (hK : dp_Kok cl X.1.2.2.2 own Ts ys wss K) (hcf : dp_cfok cl X.1 ys wss fr lo cf) (hfr : fr + 1 ≤ rm.frames) (hlo : 32 + lo ≤ rm.locals) {ad0 : Nat → Nat} {sh0 : sm_S} {μ0 : sm_M} {pc len : Nat} (i : Nat) (d : decode cc pc = .ok ((.putfield i), len)) {L : List (Option Value)} {st : List Value} {sh : sm_S} {P : dp_P} {w : dp_w} {s' : dp_T} (h : dp_in K M cf pc L st sh P w (.putfield i) len = some s') (hN : s'.2.2.2.1.length ≤ N) (hS : sm_sl s'.2.2.2.1 ≤ S) (k : dp_J cl X ad0 sh0 μ0 s') : dp_J cl X ad0 sh0 μ0 (pc, L, st, sh, P, w) := by
  obtain ⟨hl, hu1⟩ := dp_g_ok h
  clear h
  have hl := dp_beq hl
  subst hl
  obtain ⟨u, r, rfl, hu2⟩ := dp_1v_ok hu1
  clear hu1
  obtain ⟨p, r, rfl, hu3⟩ := dp_1r_ok hu2
  clear hu2
  obtain ⟨⟨ci, kf, fl⟩, hF, hu4⟩ := dp_o_ok hu3
  clear hu3
  obtain ⟨fs, hs, hu5⟩ := dp_ob_ok hu4
  clear hu4
  obtain ⟨C, T, N', t, e2, e3, e5, e7, e8, e6, f0, f1, f2⟩ := hK.1 _ _ hF
  simp only at e2 e3 e5 e6 f0 f1 f2 hs hu5
  intro ad μ a b c e
  unfold dp_pf at hu5
  split at hu5
  · rename_i v
    split at hu5
    · rename_i hf
      have key : ∀ ty : FieldType, sm_fp cl Ts C ci N' kf false ty T → narrow ty (.int v) = .int v → fits ty (.int v) = true → sm_E cl X (pc + 3) L r ad sh (sm_ui μ p kf v) → sm_E cl X pc L (.int v :: .ref p :: r) ad sh μ := by
        intro ty g1 g2 g3 g5
        rcases e6 with e6 | ⟨host, e6⟩
        · exact sm_put hX hs hf g1 e6 g2 g3 d g5
        · exact sm_putN hX hs hf g1 e6 g2 g3 d g5
      split at hu5
      · cases hu5
        obtain ⟨z1, z2⟩ := f0 rfl
        exact key .int ⟨t, e2, e3, e5, e7, e8, z1, z2⟩ rfl rfl (k ad _ (a.ui p kf v) (b.ui p kf v) c e)
      · obtain ⟨z0, ha⟩ := dp_g_ok hu5
        cases ha
        obtain ⟨z1, z2⟩ := f1 rfl
        rw [Bool.or_eq_true, decide_eq_true_eq, decide_eq_true_eq] at z0
        refine key .boolean ⟨t, e2, e3, e5, e7, e8, z1, z2⟩ ?_ ?_ (k ad _ (a.ui p kf v) (b.ui p kf v) c e)
        · rcases z0 with rfl | rfl <;> rfl
        · rcases z0 with rfl | rfl <;> rfl
      · cases hu5
    · cases hu5
  · rename_i q
    obtain ⟨z0, ha⟩ := dp_g_ok hu5
    obtain ⟨z1, hb⟩ := dp_g_ok ha
    obtain ⟨z2, hc⟩ := dp_g_ok hb
    have z2 := Nat.le_of_ble_eq_true z2
    cases hc
    have z0 := dp_beq z0
    obtain ⟨z3, z4, z5, z6⟩ := f2 z0
    exact sm_putF hX hs (by omega) ⟨t, e2, e3, e5, e7, e8, z3, rfl⟩ z5 z1 z4 (z6 _).1 (z6 _).2 d (k ad μ a b (by rw [List.length_set]; exact c) (by rw [List.length_set]; exact e))
  · cases hu5
theorem dp_in_iaload {cl : List vw_C} {X : sm_X} {cc : ByteArray} {own : String} {Ts : List Cond} {rm : Room} {N S : Nat} {M : dp_M} (hX : sm_ok cl X cc M.2.1 own Ts M.2.2.1 rm N S M.2.2.2) {K : dp_K} {ys : Nat → MethodName} {wss : Nat → List Cond} {cf : dp_F} {fr lo : Nat} (hK : dp_Kok cl X.1.2.2.2 own Ts ys wss K) (hcf : dp_cfok cl X.1 ys wss fr lo cf) (hfr : fr + 1 ≤ rm.frames) (hlo : 32 + lo ≤ rm.locals) {ad0 : Nat → Nat} {sh0 : sm_S} {μ0 : sm_M} {pc len : Nat}  (d : decode cc pc = .ok (.iaload, len)) {L : List (Option Value)} {st : List Value} {sh : sm_S} {P : dp_P} {w : dp_w} {s' : dp_T} (h : dp_in K M cf pc L st sh P w .iaload len = some s') (hN : s'.2.2.2.1.length ≤ N) (hS : sm_sl s'.2.2.2.1 ≤ S) (k : dp_J cl X ad0 sh0 μ0 s') : dp_J cl X ad0 sh0 μ0 (pc, L, st, sh, P, w) := by
  obtain ⟨hl, hu1⟩ := dp_g_ok h
  clear h
  have hl := dp_beq hl
  subst hl
  obtain ⟨i, r, rfl, hu2⟩ := dp_1i_ok hu1
  clear hu1
  obtain ⟨p, r, rfl, hu3⟩ := dp_1r_ok hu2
  clear hu2
  obtain ⟨n, hs, hi, hu4⟩ := dp_ar_ok hu3
  clear hu3
  obtain ⟨v, hv, hu5⟩ := dp_o_ok hu4
  clear hu4
  cases hu5
  intro ad μ a b c e
  have k2 := k ad μ a b c e
  rw [← a.1 _ _ _ hv] at k2
  exact sm_iald hX hs hi d k2
theorem dp_in_baload {cl : List vw_C} {X : sm_X} {cc : ByteArray} {own : String} {Ts : List Cond} {rm : Room} {N S : Nat} {M : dp_M} (hX : sm_ok cl X cc M.2.1 own Ts M.2.2.1 rm N S M.2.2.2) {K : dp_K} {ys : Nat → MethodName} {wss : Nat → List Cond} {cf : dp_F} {fr lo : Nat} (hK : dp_Kok cl X.1.2.2.2 own Ts ys wss K) (hcf : dp_cfok cl X.1 ys wss fr lo cf) (hfr : fr + 1 ≤ rm.frames) (hlo : 32 + lo ≤ rm.locals) {ad0 : Nat → Nat} {sh0 : sm_S} {μ0 : sm_M} {pc len : Nat}  (d : decode cc pc = .ok (.baload, len)) {L : List (Option Value)} {st : List Value} {sh : sm_S} {P : dp_P} {w : dp_w} {s' : dp_T} (h : dp_in K M cf pc L st sh P w .baload len = some s') (hN : s'.2.2.2.1.length ≤ N) (hS : sm_sl s'.2.2.2.1 ≤ S) (k : dp_J cl X ad0 sh0 μ0 s') : dp_J cl X ad0 sh0 μ0 (pc, L, st, sh, P, w) := by
  obtain ⟨hl, hu1⟩ := dp_g_ok h
  clear h
  have hl := dp_beq hl
  subst hl
  obtain ⟨i, r, rfl, hu2⟩ := dp_1i_ok hu1
  clear hu1
  obtain ⟨p, r, rfl, hu3⟩ := dp_1r_ok hu2
  clear hu2
  obtain ⟨n, hs, hi, hu4⟩ := dp_ar_ok hu3
  clear hu3
  obtain ⟨v, hv, hu5⟩ := dp_o_ok hu4
  clear hu4
  cases hu5
  intro ad μ a b c e
  have k2 := k ad μ a b c e
  rw [← a.1 _ _ _ hv] at k2
  exact sm_zald hX hs hi d k2
theorem dp_in_laload {cl : List vw_C} {X : sm_X} {cc : ByteArray} {own : String} {Ts : List Cond} {rm : Room} {N S : Nat} {M : dp_M} (hX : sm_ok cl X cc M.2.1 own Ts M.2.2.1 rm N S M.2.2.2) {K : dp_K} {ys : Nat → MethodName} {wss : Nat → List Cond} {cf : dp_F} {fr lo : Nat} (hK : dp_Kok cl X.1.2.2.2 own Ts ys wss K) (hcf : dp_cfok cl X.1 ys wss fr lo cf) (hfr : fr + 1 ≤ rm.frames) (hlo : 32 + lo ≤ rm.locals) {ad0 : Nat → Nat} {sh0 : sm_S} {μ0 : sm_M} {pc len : Nat}  (d : decode cc pc = .ok (.laload, len)) {L : List (Option Value)} {st : List Value} {sh : sm_S} {P : dp_P} {w : dp_w} {s' : dp_T} (h : dp_in K M cf pc L st sh P w .laload len = some s') (hN : s'.2.2.2.1.length ≤ N) (hS : sm_sl s'.2.2.2.1 ≤ S) (k : dp_J cl X ad0 sh0 μ0 s') : dp_J cl X ad0 sh0 μ0 (pc, L, st, sh, P, w) := by
  obtain ⟨hl, hu1⟩ := dp_g_ok h
  clear h
  have hl := dp_beq hl
  subst hl
  obtain ⟨i, r, rfl, hu2⟩ := dp_1i_ok hu1
  clear hu1
  obtain ⟨p, r, rfl, hu3⟩ := dp_1r_ok hu2
  clear hu2
  obtain ⟨n, hs, hi, hu4⟩ := dp_ar_ok hu3
  clear hu3
  obtain ⟨v, hv, hu5⟩ := dp_o_ok hu4
  clear hu4
  cases hu5
  intro ad μ a b c e
  have k2 := k ad μ a b c e
  rw [← a.2 _ _ _ hv] at k2
  exact sm_lald hX hs hi d k2
theorem dp_in_iastore {cl : List vw_C} {X : sm_X} {cc : ByteArray} {own : String} {Ts : List Cond} {rm : Room} {N S : Nat} {M : dp_M} (hX : sm_ok cl X cc M.2.1 own Ts M.2.2.1 rm N S M.2.2.2) {K : dp_K} {ys : Nat → MethodName} {wss : Nat → List Cond} {cf : dp_F} {fr lo : Nat} (hK : dp_Kok cl X.1.2.2.2 own Ts ys wss K) (hcf : dp_cfok cl X.1 ys wss fr lo cf) (hfr : fr + 1 ≤ rm.frames) (hlo : 32 + lo ≤ rm.locals) {ad0 : Nat → Nat} {sh0 : sm_S} {μ0 : sm_M} {pc len : Nat}  (d : decode cc pc = .ok (.iastore, len)) {L : List (Option Value)} {st : List Value} {sh : sm_S} {P : dp_P} {w : dp_w} {s' : dp_T} (h : dp_in K M cf pc L st sh P w .iastore len = some s') (hN : s'.2.2.2.1.length ≤ N) (hS : sm_sl s'.2.2.2.1 ≤ S) (k : dp_J cl X ad0 sh0 μ0 s') : dp_J cl X ad0 sh0 μ0 (pc, L, st, sh, P, w) := by
  obtain ⟨hl, hu1⟩ := dp_g_ok h
  clear h
  have hl := dp_beq hl
  subst hl
  obtain ⟨x, r, rfl, hu2⟩ := dp_1i_ok hu1
  clear hu1
  obtain ⟨i, r, rfl, hu3⟩ := dp_1i_ok hu2
  clear hu2
  obtain ⟨p, r, rfl, hu4⟩ := dp_1r_ok hu3
  clear hu3
  obtain ⟨n, hs, hi, hu5⟩ := dp_ar_ok hu4
  clear hu4
  cases hu5
  exact fun ad μ a b c e => sm_iast hX hs hi d (k ad _ (a.ui _ _ _) (b.ui _ _ _) c e)
theorem dp_in_bastore {cl : List vw_C} {X : sm_X} {cc : ByteArray} {own : String} {Ts : List Cond} {rm : Room} {N S : Nat} {M : dp_M} (hX : sm_ok cl X cc M.2.1 own Ts M.2.2.1 rm N S M.2.2.2) {K : dp_K} {ys : Nat → MethodName} {wss : Nat → List Cond} {cf : dp_F} {fr lo : Nat} (hK : dp_Kok cl X.1.2.2.2 own Ts ys wss K) (hcf : dp_cfok cl X.1 ys wss fr lo cf) (hfr : fr + 1 ≤ rm.frames) (hlo : 32 + lo ≤ rm.locals) {ad0 : Nat → Nat} {sh0 : sm_S} {μ0 : sm_M} {pc len : Nat}  (d : decode cc pc = .ok (.bastore, len)) {L : List (Option Value)} {st : List Value} {sh : sm_S} {P : dp_P} {w : dp_w} {s' : dp_T} (h : dp_in K M cf pc L st sh P w .bastore len = some s') (hN : s'.2.2.2.1.length ≤ N) (hS : sm_sl s'.2.2.2.1 ≤ S) (k : dp_J cl X ad0 sh0 μ0 s') : dp_J cl X ad0 sh0 μ0 (pc, L, st, sh, P, w) := by
  obtain ⟨hl, hu1⟩ := dp_g_ok h
  clear h
  have hl := dp_beq hl
  subst hl
  obtain ⟨x, r, rfl, hu2⟩ := dp_1i_ok hu1
  clear hu1
  obtain ⟨i, r, rfl, hu3⟩ := dp_1i_ok hu2
  clear hu2
  obtain ⟨p, r, rfl, hu4⟩ := dp_1r_ok hu3
  clear hu3
  obtain ⟨n, hs, hi, hu5⟩ := dp_ar_ok hu4
  clear hu4
  rw [dp_fi_eq] at hu5
  cases hu5
  exact fun ad μ a b c e => sm_zast hX hs hi d (k ad _ (a.ui _ _ _) (b.ui _ _ _) c e)
theorem dp_in_lastore {cl : List vw_C} {X : sm_X} {cc : ByteArray} {own : String} {Ts : List Cond} {rm : Room} {N S : Nat} {M : dp_M} (hX : sm_ok cl X cc M.2.1 own Ts M.2.2.1 rm N S M.2.2.2) {K : dp_K} {ys : Nat → MethodName} {wss : Nat → List Cond} {cf : dp_F} {fr lo : Nat} (hK : dp_Kok cl X.1.2.2.2 own Ts ys wss K) (hcf : dp_cfok cl X.1 ys wss fr lo cf) (hfr : fr + 1 ≤ rm.frames) (hlo : 32 + lo ≤ rm.locals) {ad0 : Nat → Nat} {sh0 : sm_S} {μ0 : sm_M} {pc len : Nat}  (d : decode cc pc = .ok (.lastore, len)) {L : List (Option Value)} {st : List Value} {sh : sm_S} {P : dp_P} {w : dp_w} {s' : dp_T} (h : dp_in K M cf pc L st sh P w .lastore len = some s') (hN : s'.2.2.2.1.length ≤ N) (hS : sm_sl s'.2.2.2.1 ≤ S) (k : dp_J cl X ad0 sh0 μ0 s') : dp_J cl X ad0 sh0 μ0 (pc, L, st, sh, P, w) := by
  obtain ⟨hl, hu1⟩ := dp_g_ok h
  clear h
  have hl := dp_beq hl
  subst hl
  obtain ⟨x, r, rfl, hu2⟩ := dp_1l_ok hu1
  clear hu1
  obtain ⟨i, r, rfl, hu3⟩ := dp_1i_ok hu2
  clear hu2
  obtain ⟨p, r, rfl, hu4⟩ := dp_1r_ok hu3
  clear hu3
  obtain ⟨n, hs, hi, hu5⟩ := dp_ar_ok hu4
  clear hu4
  cases hu5
  exact fun ad μ a b c e => sm_last hX hs hi d (k ad _ (a.ul _ _ _) (b.ul _ _ _) c e)
theorem dp_in_arraylength {cl : List vw_C} {X : sm_X} {cc : ByteArray} {own : String} {Ts : List Cond} {rm : Room} {N S : Nat} {M : dp_M} (hX : sm_ok cl X cc M.2.1 own Ts M.2.2.1 rm N S M.2.2.2) {K : dp_K} {ys : Nat → MethodName} {wss : Nat → List Cond} {cf : dp_F} {fr lo : Nat} (hK : dp_Kok cl X.1.2.2.2 own Ts ys wss K) (hcf : dp_cfok cl X.1 ys wss fr lo cf) (hfr : fr + 1 ≤ rm.frames) (hlo : 32 + lo ≤ rm.locals) {ad0 : Nat → Nat} {sh0 : sm_S} {μ0 : sm_M} {pc len : Nat}  (d : decode cc pc = .ok (.arraylength, len)) {L : List (Option Value)} {st : List Value} {sh : sm_S} {P : dp_P} {w : dp_w} {s' : dp_T} (h : dp_in K M cf pc L st sh P w .arraylength len = some s') (hN : s'.2.2.2.1.length ≤ N) (hS : sm_sl s'.2.2.2.1 ≤ S) (k : dp_J cl X ad0 sh0 μ0 s') : dp_J cl X ad0 sh0 μ0 (pc, L, st, sh, P, w) := by
  obtain ⟨hl, hu1⟩ := dp_g_ok h
  clear h
  have hl := dp_beq hl
  subst hl
  obtain ⟨p, r, rfl, hu2⟩ := dp_1r_ok hu1
  clear hu1
  unfold dp_le' at hu2
  split at hu2
  · rename_i c0 n hs
    obtain ⟨h1, hu2⟩ := dp_g_ok hu2
    have h1 := Nat.le_of_ble_eq_true h1
    cases hu2
    exact fun ad μ a b c e => sm_alen hX hs (by omega) d (k ad μ a b c e)
  · cases hu2
theorem dp_in_new {cl : List vw_C} {X : sm_X} {cc : ByteArray} {own : String} {Ts : List Cond} {rm : Room} {N S : Nat} {M : dp_M} (hX : sm_ok cl X cc M.2.1 own Ts M.2.2.1 rm N S M.2.2.2) {K : dp_K} {ys : Nat → MethodName} {wss : Nat → List Cond} {cf : dp_F} {fr lo : Nat} (hK : dp_Kok cl X.1.2.2.2 own Ts ys wss K) (hcf : dp_cfok cl X.1 ys wss fr lo cf) (hfr : fr + 1 ≤ rm.frames) (hlo : 32 + lo ≤ rm.locals) {ad0 : Nat → Nat} {sh0 : sm_S} {μ0 : sm_M} {pc len : Nat} (i : Nat) (d : decode cc pc = .ok ((.new i), len)) {L : List (Option Value)} {st : List Value} {sh : sm_S} {P : dp_P} {w : dp_w} {s' : dp_T} (h : dp_in K M cf pc L st sh P w (.new i) len = some s') (hN : s'.2.2.2.1.length ≤ N) (hS : sm_sl s'.2.2.2.1 ≤ S) (k : dp_J cl X ad0 sh0 μ0 s') : dp_J cl X ad0 sh0 μ0 (pc, L, st, sh, P, w) := by
  obtain ⟨hl, hu1⟩ := dp_g_ok h
  clear h
  have hl := dp_beq hl
  subst hl
  obtain ⟨⟨ci, fs⟩, hC, hu2⟩ := dp_o_ok hu1
  clear hu1
  obtain ⟨Cn, T, t, e2, e5, e7, g1, g2, g3, g4, g5⟩ := hK.2.2.2.2.2.2.1 _ _ hC
  unfold dp_nw at hu2
  obtain ⟨h1, hu3⟩ := dp_g_ok hu2
  clear hu2
  obtain ⟨h2, hu4⟩ := dp_g_ok hu3
  clear hu3
  obtain ⟨h3, hu5⟩ := dp_g_ok hu4
  clear hu4
  cases hu5
  simp only [List.length_append, List.length_singleton, sm_sl_app] at hN hS
  exact fun ad μ a b c e => sm_new hX t e2 e5 e7 g1 g2 g3 rfl g4 g5 h1 h2 h3 hN (by simpa [sm_sl, sm_sz] using hS) d (fun ad' hag => k ad' _ (a.z _) (b.z _) (by simpa using dp_nw_ag hag c e) (by simp; omega))
theorem dp_in_newarray {cl : List vw_C} {X : sm_X} {cc : ByteArray} {own : String} {Ts : List Cond} {rm : Room} {N S : Nat} {M : dp_M} (hX : sm_ok cl X cc M.2.1 own Ts M.2.2.1 rm N S M.2.2.2) {K : dp_K} {ys : Nat → MethodName} {wss : Nat → List Cond} {cf : dp_F} {fr lo : Nat} (hK : dp_Kok cl X.1.2.2.2 own Ts ys wss K) (hcf : dp_cfok cl X.1 ys wss fr lo cf) (hfr : fr + 1 ≤ rm.frames) (hlo : 32 + lo ≤ rm.locals) {ad0 : Nat → Nat} {sh0 : sm_S} {μ0 : sm_M} {pc len : Nat} (at' : ArrayType) (d : decode cc pc = .ok ((.newarray at'), len)) {L : List (Option Value)} {st : List Value} {sh : sm_S} {P : dp_P} {w : dp_w} {s' : dp_T} (h : dp_in K M cf pc L st sh P w (.newarray at') len = some s') (hN : s'.2.2.2.1.length ≤ N) (hS : sm_sl s'.2.2.2.1 ≤ S) (k : dp_J cl X ad0 sh0 μ0 s') : dp_J cl X ad0 sh0 μ0 (pc, L, st, sh, P, w) := by
  obtain ⟨hl, hu1⟩ := dp_g_ok h
  clear h
  have hl := dp_beq hl
  subst hl
  obtain ⟨n, r, rfl, hu2⟩ := dp_1i_ok hu1
  clear hu1
  obtain ⟨kd, hkd, hu3⟩ := dp_o_ok hu2
  clear hu2
  obtain ⟨hn, hu4⟩ := dp_g_ok hu3
  clear hu3
  rw [dp_nf_eq] at hu4
  obtain ⟨hb, hu5⟩ := dp_g_ok hu4
  clear hu4
  have hb := Nat.le_of_ble_eq_true hb
  have hn := Int32.not_lt.mpr (of_decide_eq_true hn)
  unfold dp_nw at hu5
  obtain ⟨h1, hu6⟩ := dp_g_ok hu5
  clear hu5
  obtain ⟨h2, hu7⟩ := dp_g_ok hu6
  clear hu6
  obtain ⟨h3, hu8⟩ := dp_g_ok hu7
  clear hu7
  cases hu8
  simp only [List.length_append, List.length_singleton, sm_sl_app] at hN hS
  have hS : sm_sl sh + n.toNatClampNeg ≤ S := by simpa [sm_sl, sm_sz] using hS
  cases at' with
  | int =>
    cases hkd
    exact fun ad μ a b c e => sm_newa0 hX hK.2.2.2.2.2.2.2.2.1 hn rfl hb h1 h2 h3 hN hS d (fun ad' hag => k ad' _ (a.z _) (b.z _) (by simpa using dp_nw_ag hag c e) (by simp; omega))
  | boolean =>
    cases hkd
    exact fun ad μ a b c e => sm_newa1 hX hK.2.2.2.2.2.2.2.2.2.1 hn rfl hb h1 h2 h3 hN hS d (fun ad' hag => k ad' _ (a.z _) (b.z _) (by simpa using dp_nw_ag hag c e) (by simp; omega))
  | long =>
    cases hkd
    exact fun ad μ a b c e => sm_newa2 hX hK.2.2.2.2.2.2.2.2.2.2 hn rfl hb h1 h2 h3 hN hS d (fun ad' hag => k ad' _ (a.z _) (b.z _) (by simpa using dp_nw_ag hag c e) (by simp; omega))
  | _ => cases hkd
theorem dp_in_invokespecial {cl : List vw_C} {X : sm_X} {cc : ByteArray} {own : String} {Ts : List Cond} {rm : Room} {N S : Nat} {M : dp_M} (hX : sm_ok cl X cc M.2.1 own Ts M.2.2.1 rm N S M.2.2.2) {K : dp_K} {ys : Nat → MethodName} {wss : Nat → List Cond} {cf : dp_F} {fr lo : Nat} (hK : dp_Kok cl X.1.2.2.2 own Ts ys wss K) (hcf : dp_cfok cl X.1 ys wss fr lo cf) (hfr : fr + 1 ≤ rm.frames) (hlo : 32 + lo ≤ rm.locals) {ad0 : Nat → Nat} {sh0 : sm_S} {μ0 : sm_M} {pc len : Nat} (i : Nat) (d : decode cc pc = .ok ((.invokespecial i), len)) {L : List (Option Value)} {st : List Value} {sh : sm_S} {P : dp_P} {w : dp_w} {s' : dp_T} (h : dp_in K M cf pc L st sh P w (.invokespecial i) len = some s') (hN : s'.2.2.2.1.length ≤ N) (hS : sm_sl s'.2.2.2.1 ≤ S) (k : dp_J cl X ad0 sh0 μ0 s') : dp_J cl X ad0 sh0 μ0 (pc, L, st, sh, P, w) := by
  obtain ⟨hl, hu1⟩ := dp_g_ok h
  clear h
  have hl := dp_beq hl
  subst hl
  cases ho : Nat.beq i K.2.2.2.2.2 with
  | true =>
    rw [ho] at hu1
    have ho := dp_beq ho
    obtain ⟨p, r, rfl, hu1⟩ := dp_1r_ok hu1
    obtain ⟨h1, hu1⟩ := dp_g_ok hu1
    have h1 := Nat.le_of_ble_eq_true h1
    cases hu1
    obtain ⟨z1, z2, z3⟩ := hK.2.2.2.2.2.2.2.1
    rw [← ho] at z1
    exact fun ad μ a b c e => sm_objInit hX z1 z2 z3 (by omega) (by omega) h1 d (k ad μ a b c e)
  | false =>
    rw [ho] at hu1
    obtain ⟨C, hC, hu1⟩ := dp_o_ok hu1
    exact dp_call_ok hX hcf hfr hlo (hK.2.2.2.2.2.1 _ _ hC cc) d hu1 hN hS k
theorem dp_in_invokestatic {cl : List vw_C} {X : sm_X} {cc : ByteArray} {own : String} {Ts : List Cond} {rm : Room} {N S : Nat} {M : dp_M} (hX : sm_ok cl X cc M.2.1 own Ts M.2.2.1 rm N S M.2.2.2) {K : dp_K} {ys : Nat → MethodName} {wss : Nat → List Cond} {cf : dp_F} {fr lo : Nat} (hK : dp_Kok cl X.1.2.2.2 own Ts ys wss K) (hcf : dp_cfok cl X.1 ys wss fr lo cf) (hfr : fr + 1 ≤ rm.frames) (hlo : 32 + lo ≤ rm.locals) {ad0 : Nat → Nat} {sh0 : sm_S} {μ0 : sm_M} {pc len : Nat} (i : Nat) (d : decode cc pc = .ok ((.invokestatic i), len)) {L : List (Option Value)} {st : List Value} {sh : sm_S} {P : dp_P} {w : dp_w} {s' : dp_T} (h : dp_in K M cf pc L st sh P w (.invokestatic i) len = some s') (hN : s'.2.2.2.1.length ≤ N) (hS : sm_sl s'.2.2.2.1 ≤ S) (k : dp_J cl X ad0 sh0 μ0 s') : dp_J cl X ad0 sh0 μ0 (pc, L, st, sh, P, w) := by
  obtain ⟨hl, hu1⟩ := dp_g_ok h
  clear h
  have hl := dp_beq hl
  subst hl
  obtain ⟨C, hC, hu2⟩ := dp_o_ok hu1
  clear hu1
  exact dp_call_ok hX hcf hfr hlo (hK.2.2.2.1 _ _ hC cc) d hu2 hN hS k
theorem dp_in_invokevirtual {cl : List vw_C} {X : sm_X} {cc : ByteArray} {own : String} {Ts : List Cond} {rm : Room} {N S : Nat} {M : dp_M} (hX : sm_ok cl X cc M.2.1 own Ts M.2.2.1 rm N S M.2.2.2) {K : dp_K} {ys : Nat → MethodName} {wss : Nat → List Cond} {cf : dp_F} {fr lo : Nat} (hK : dp_Kok cl X.1.2.2.2 own Ts ys wss K) (hcf : dp_cfok cl X.1 ys wss fr lo cf) (hfr : fr + 1 ≤ rm.frames) (hlo : 32 + lo ≤ rm.locals) {ad0 : Nat → Nat} {sh0 : sm_S} {μ0 : sm_M} {pc len : Nat} (i : Nat) (d : decode cc pc = .ok ((.invokevirtual i), len)) {L : List (Option Value)} {st : List Value} {sh : sm_S} {P : dp_P} {w : dp_w} {s' : dp_T} (h : dp_in K M cf pc L st sh P w (.invokevirtual i) len = some s') (hN : s'.2.2.2.1.length ≤ N) (hS : sm_sl s'.2.2.2.1 ≤ S) (k : dp_J cl X ad0 sh0 μ0 s') : dp_J cl X ad0 sh0 μ0 (pc, L, st, sh, P, w) := by
  obtain ⟨hl, hu1⟩ := dp_g_ok h
  clear h
  have hl := dp_beq hl
  subst hl
  obtain ⟨C, hC, hu2⟩ := dp_o_ok hu1
  clear hu1
  exact dp_call_ok hX hcf hfr hlo (hK.2.2.2.2.1 _ _ hC cc) d hu2 hN hS k
theorem dp_in_ok {cl : List vw_C} {X : sm_X} {cc : ByteArray} {own : String} {Ts : List Cond} {rm : Room} {N S : Nat} {M : dp_M} (hX : sm_ok cl X cc M.2.1 own Ts M.2.2.1 rm N S M.2.2.2) {K : dp_K} {ys : Nat → MethodName} {wss : Nat → List Cond} {cf : dp_F} {fr lo : Nat} (hK : dp_Kok cl X.1.2.2.2 own Ts ys wss K) (hcf : dp_cfok cl X.1 ys wss fr lo cf) (hfr : fr + 1 ≤ rm.frames) (hlo : 32 + lo ≤ rm.locals) {ad0 : Nat → Nat} {sh0 : sm_S} {μ0 : sm_M} {pc len : Nat} {ins : Instr} (d : decode cc pc = .ok (ins, len)) {L : List (Option Value)} {st : List Value} {sh : sm_S} {P : dp_P} {w : dp_w} {s' : dp_T} (h : dp_in K M cf pc L st sh P w ins len = some s') (hN : s'.2.2.2.1.length ≤ N) (hS : sm_sl s'.2.2.2.1 ≤ S) (k : dp_J cl X ad0 sh0 μ0 s') : dp_J cl X ad0 sh0 μ0 (pc, L, st, sh, P, w) := by
  cases ins with
  | iadd => exact dp_in_iadd hX hK hcf hfr hlo  d h hN hS k
  | isub => exact dp_in_isub hX hK hcf hfr hlo  d h hN hS k
  | imul => exact dp_in_imul hX hK hcf hfr hlo  d h hN hS k
  | iand => exact dp_in_iand hX hK hcf hfr hlo  d h hN hS k
  | ior => exact dp_in_ior hX hK hcf hfr hlo  d h hN hS k
  | ixor => exact dp_in_ixor hX hK hcf hfr hlo  d h hN hS k
  | ishl => exact dp_in_ishl hX hK hcf hfr hlo  d h hN hS k
  | ishr => exact dp_in_ishr hX hK hcf hfr hlo  d h hN hS k
  | iushr => exact dp_in_iushr hX hK hcf hfr hlo  d h hN hS k
  | ladd => exact dp_in_ladd hX hK hcf hfr hlo  d h hN hS k
  | lsub => exact dp_in_lsub hX hK hcf hfr hlo  d h hN hS k
  | land => exact dp_in_land hX hK hcf hfr hlo  d h hN hS k
  | lor => exact dp_in_lor hX hK hcf hfr hlo  d h hN hS k
  | lxor => exact dp_in_lxor hX hK hcf hfr hlo  d h hN hS k
  | lushr => exact dp_in_lushr hX hK hcf hfr hlo  d h hN hS k
  | lshl => exact dp_in_lshl hX hK hcf hfr hlo  d h hN hS k
  | lshr => exact dp_in_lshr hX hK hcf hfr hlo  d h hN hS k
  | idiv => exact dp_in_idiv hX hK hcf hfr hlo  d h hN hS k
  | irem => exact dp_in_irem hX hK hcf hfr hlo  d h hN hS k
  | ineg => exact dp_in_ineg hX hK hcf hfr hlo  d h hN hS k
  | lcmp => exact dp_in_lcmp hX hK hcf hfr hlo  d h hN hS k
  | i2l => exact dp_in_i2l hX hK hcf hfr hlo  d h hN hS k
  | l2i => exact dp_in_l2i hX hK hcf hfr hlo  d h hN hS k
  | iconst i => exact dp_in_iconst hX hK hcf hfr hlo i d h hN hS k
  | bipush i => exact dp_in_bipush hX hK hcf hfr hlo i d h hN hS k
  | sipush i => exact dp_in_sipush hX hK hcf hfr hlo i d h hN hS k
  | lconst i => exact dp_in_lconst hX hK hcf hfr hlo i d h hN hS k
  | ldc i => exact dp_in_ldc hX hK hcf hfr hlo i d h hN hS k
  | ldc2_w i => exact dp_in_ldc2_w hX hK hcf hfr hlo i d h hN hS k
  | dup => exact dp_in_dup hX hK hcf hfr hlo  d h hN hS k
  | pop => exact dp_in_pop hX hK hcf hfr hlo  d h hN hS k
  | dup_x1 => exact dp_in_dup_x1 hX hK hcf hfr hlo  d h hN hS k
  | dup2 => exact dp_in_dup2 hX hK hcf hfr hlo  d h hN hS k
  | iload i => exact dp_in_iload hX hK hcf hfr hlo i d h hN hS k
  | iload_n i => exact dp_in_iload_n hX hK hcf hfr hlo i d h hN hS k
  | istore i => exact dp_in_istore hX hK hcf hfr hlo i d h hN hS k
  | istore_n i => exact dp_in_istore_n hX hK hcf hfr hlo i d h hN hS k
  | lload i => exact dp_in_lload hX hK hcf hfr hlo i d h hN hS k
  | lload_n i => exact dp_in_lload_n hX hK hcf hfr hlo i d h hN hS k
  | lstore i => exact dp_in_lstore hX hK hcf hfr hlo i d h hN hS k
  | lstore_n i => exact dp_in_lstore_n hX hK hcf hfr hlo i d h hN hS k
  | aload i => exact dp_in_aload hX hK hcf hfr hlo i d h hN hS k
  | aload_n i => exact dp_in_aload_n hX hK hcf hfr hlo i d h hN hS k
  | astore i => exact dp_in_astore hX hK hcf hfr hlo i d h hN hS k
  | astore_n i => exact dp_in_astore_n hX hK hcf hfr hlo i d h hN hS k
  | iinc i z => exact dp_in_iinc hX hK hcf hfr hlo i z d h hN hS k
  | ifCond cn off => exact dp_in_ifCond hX hK hcf hfr hlo cn off d h hN hS k
  | if_icmp cn off => exact dp_in_if_icmp hX hK hcf hfr hlo cn off d h hN hS k
  | goto off => exact dp_in_goto hX hK hcf hfr hlo off d h hN hS k
  | lookupswitch dflt ps => exact dp_in_lookupswitch hX hK hcf hfr hlo dflt ps d h hN hS k
  | tableswitch dflt lo hi offs => exact dp_in_tableswitch hX hK hcf hfr hlo dflt lo hi offs d h hN hS k
  | getfield i => exact dp_in_getfield hX hK hcf hfr hlo i d h hN hS k
  | putfield i => exact dp_in_putfield hX hK hcf hfr hlo i d h hN hS k
  | iaload => exact dp_in_iaload hX hK hcf hfr hlo  d h hN hS k
  | baload => exact dp_in_baload hX hK hcf hfr hlo  d h hN hS k
  | laload => exact dp_in_laload hX hK hcf hfr hlo  d h hN hS k
  | iastore => exact dp_in_iastore hX hK hcf hfr hlo  d h hN hS k
  | bastore => exact dp_in_bastore hX hK hcf hfr hlo  d h hN hS k
  | lastore => exact dp_in_lastore hX hK hcf hfr hlo  d h hN hS k
  | arraylength => exact dp_in_arraylength hX hK hcf hfr hlo  d h hN hS k
  | new i => exact dp_in_new hX hK hcf hfr hlo i d h hN hS k
  | newarray at' => exact dp_in_newarray hX hK hcf hfr hlo at' d h hN hS k
  | invokespecial i => exact dp_in_invokespecial hX hK hcf hfr hlo i d h hN hS k
  | invokestatic i => exact dp_in_invokestatic hX hK hcf hfr hlo i d h hN hS k
  | invokevirtual i => exact dp_in_invokevirtual hX hK hcf hfr hlo i d h hN hS k
  | _ => exact absurd h (by intro h; cases h)
theorem dp_rn_ok {cl : List vw_C} {X : sm_X} {cc : ByteArray} {own : String} {Ts : List Cond} {rm : Room} {N S : Nat} {M : dp_M} (hX : sm_ok cl X cc M.2.1 own Ts M.2.2.1 rm N S M.2.2.2) {ad0 : Nat → Nat} {sh0 : sm_S} {μ0 : sm_M} {pc len : Nat} {ins : Instr} (d : decode cc pc = .ok (ins, len)) {L : List (Option Value)} {st : List Value} {sh : sm_S} {P : dp_P} {w : dp_w} {R : dp_R} (h : dp_rn M st sh P w ins len = some R) : R.2 = (sh, P, w) ∧ (sh0.length ≤ sh.length → sm_sl sh0 ≤ sm_sl sh → sm_fin cl X ad0 sh0 (sh.length - sh0.length) (sm_sl sh - sm_sl sh0) (dp_Q μ0 R) → dp_J cl X ad0 sh0 μ0 (pc, L, st, sh, P, w)) := by
  cases ins with
  | ireturn =>
    obtain ⟨hl, ha⟩ := dp_g_ok h
    clear h
    have hl := dp_beq hl
    subst hl
    obtain ⟨v, r, rfl, hb⟩ := dp_1i_ok ha
    clear ha
    obtain ⟨hr, h⟩ := dp_g_ok hb
    clear hb
    have hr : r = [] := List.isEmpty_iff.mp hr
    subst hr
    unfold dp_rt at h
    split at h
    · rename_i hrt
      cases h
      exact ⟨rfl, fun g1 g2 hf ad μ a b c e => sm_iret hX hf (by omega) (by omega) c hrt d ⟨rfl, rfl, a, b⟩⟩
    · rename_i hrt
      obtain ⟨hv, hc⟩ := dp_g_ok h
      cases hc
      exact ⟨rfl, fun g1 g2 hf ad μ a b c e => sm_zret hX hf (by omega) (by omega) c hrt (of_decide_eq_true hv) d ⟨rfl, rfl, a, b⟩⟩
    · cases h
  | lreturn =>
    obtain ⟨hl, ha⟩ := dp_g_ok h
    clear h
    have hl := dp_beq hl
    subst hl
    obtain ⟨v, r, rfl, hb⟩ := dp_1l_ok ha
    clear ha
    obtain ⟨hr, h⟩ := dp_g_ok hb
    clear hb
    have hr : r = [] := List.isEmpty_iff.mp hr
    subst hr
    split at h
    · rename_i hrt
      cases h
      exact ⟨rfl, fun g1 g2 hf ad μ a b c e => sm_lret hX hf (by omega) (by omega) c hrt d ⟨rfl, rfl, a, b⟩⟩
    · cases h
  | return_ =>
    obtain ⟨hl, ha⟩ := dp_g_ok h
    clear h
    have hl := dp_beq hl
    subst hl
    obtain ⟨hr, h⟩ := dp_g_ok ha
    clear ha
    have hr : st = [] := List.isEmpty_iff.mp hr
    subst hr
    split at h
    · rename_i hrt
      cases h
      exact ⟨rfl, fun g1 g2 hf ad μ a b c e => sm_vret hX hf (by omega) (by omega) c hrt d ⟨rfl, rfl, a, b⟩⟩
    · cases h
  | _ => exact absurd h (by intro h; cases h)
theorem dp_ck_ok {sh sh' : sm_S} (h : dp_ck sh sh' = true) : sh.length ≤ sh'.length ∧ sm_sl sh ≤ sm_sl sh' := by
  unfold dp_ck at h
  rw [Bool.and_eq_true] at h
  exact ⟨Nat.le_of_ble_eq_true h.1, Nat.le_of_ble_eq_true h.2⟩
def dp_shp : dp_T ⊕ dp_R → sm_S
  | .inl s => s.2.2.2.1
  | .inr R => R.2.1
def dp_End (cl : List vw_C) (X : sm_X) (ad0 : Nat → Nat) (sh0 : sm_S) (μ0 : sm_M) : dp_T ⊕ dp_R → Prop
  | .inl s => dp_J cl X ad0 sh0 μ0 s
  | .inr R => sh0.length ≤ R.2.1.length ∧ sm_sl sh0 ≤ sm_sl R.2.1 ∧ sm_fin cl X ad0 sh0 (R.2.1.length - sh0.length) (sm_sl R.2.1 - sm_sl sh0) (dp_Q μ0 R)
theorem dp_st_ok {cl : List vw_C} {X : sm_X} {cc : ByteArray} {own : String} {Ts : List Cond} {rm : Room} {N S : Nat} {M : dp_M} (hX : sm_ok cl X cc M.2.1 own Ts M.2.2.1 rm N S M.2.2.2) (hM : ∀ e ∈ M.1, decode cc e.1 = .ok e.2) {K : dp_K} {ys : Nat → MethodName} {wss : Nat → List Cond} {cf : dp_F} {fr lo : Nat} (hK : dp_Kok cl X.1.2.2.2 own Ts ys wss K) (hcf : dp_cfok cl X.1 ys wss fr lo cf) (hfr : fr + 1 ≤ rm.frames) (hlo : 32 + lo ≤ rm.locals) {ad0 : Nat → Nat} {sh0 : sm_S} {μ0 : sm_M} {s : dp_T} {o : dp_T ⊕ dp_R} (h : dp_st K M cf s = some o) : (s.2.2.2.1.length ≤ (dp_shp o).length ∧ sm_sl s.2.2.2.1 ≤ sm_sl (dp_shp o)) ∧ ((dp_shp o).length ≤ N → sm_sl (dp_shp o) ≤ S → dp_End cl X ad0 sh0 μ0 o → dp_J cl X ad0 sh0 μ0 s) := by
  obtain ⟨pc, L, st, sh, P, w⟩ := s
  unfold dp_st at h
  simp only at h
  rw [dp_nf_eq] at h
  obtain ⟨⟨ins, len⟩, hi, h⟩ := dp_o_ok h
  have d := hM _ (dp_find_mem hi)
  simp only at h d
  split at h
  · rename_i R hR
    cases h
    obtain ⟨z1, z2⟩ := dp_rn_ok (ad0 := ad0) (sh0 := sh0) (μ0 := μ0) (L := L) hX d hR
    obtain ⟨r, sh', P', w'⟩ := R
    cases z1
    exact ⟨⟨Nat.le_refl _, Nat.le_refl _⟩, fun _ _ z => z2 z.1 z.2.1 z.2.2⟩
  · obtain ⟨s', hs, h⟩ := dp_o_ok h
    obtain ⟨hc, h⟩ := dp_g_ok h
    cases h
    exact ⟨dp_ck_ok hc, fun z1 z2 z3 => dp_in_ok hX hK hcf hfr hlo d hs z1 z2 z3⟩
theorem dp_go_ok {cl : List vw_C} {X : sm_X} {cc : ByteArray} {own : String} {Ts : List Cond} {rm : Room} {N S : Nat} {M : dp_M} (hX : sm_ok cl X cc M.2.1 own Ts M.2.2.1 rm N S M.2.2.2) (hM : ∀ e ∈ M.1, decode cc e.1 = .ok e.2) {K : dp_K} {ys : Nat → MethodName} {wss : Nat → List Cond} {cf : dp_F} {fr lo : Nat} (hK : dp_Kok cl X.1.2.2.2 own Ts ys wss K) (hcf : dp_cfok cl X.1 ys wss fr lo cf) (hfr : fr + 1 ≤ rm.frames) (hlo : 32 + lo ≤ rm.locals) {ad0 : Nat → Nat} {sh0 : sm_S} {μ0 : sm_M} : ∀ (k : Nat) (s : dp_T) (o : dp_T ⊕ dp_R), dp_go K M cf k s = some o → (s.2.2.2.1.length ≤ (dp_shp o).length ∧ sm_sl s.2.2.2.1 ≤ sm_sl (dp_shp o)) ∧ ((dp_shp o).length ≤ N → sm_sl (dp_shp o) ≤ S → dp_End cl X ad0 sh0 μ0 o → dp_J cl X ad0 sh0 μ0 s)
  | 0, s, o, h => dp_st_ok hX hM hK hcf hfr hlo h
  | k + 1, s, o, h => by
    unfold dp_go at h
    split at h
    · rename_i s' hs
      obtain ⟨⟨a1, a2⟩, a3⟩ := dp_go_ok hX hM hK hcf hfr hlo k s _ hs
      obtain ⟨⟨b1, b2⟩, b3⟩ := dp_go_ok hX hM hK hcf hfr hlo k s' o h
      simp only [dp_shp] at a1 a2 a3
      exact ⟨⟨Nat.le_trans a1 b1, Nat.le_trans a2 b2⟩, fun z1 z2 z3 => a3 (Nat.le_trans b1 z1) (Nat.le_trans b2 z2) (b3 z1 z2 z3)⟩
    · rename_i R hs
      cases h
      exact dp_go_ok hX hM hK hcf hfr hlo k s _ hs
    · cases h
theorem dp_rn_sh {M : dp_M} {st : List Value} {sh : sm_S} {P : dp_P} {w : dp_w} {ins : Instr} {len : Nat} {R : dp_R} (h : dp_rn M st sh P w ins len = some R) : R.2.1 = sh := by
  cases ins with
  | ireturn =>
    obtain ⟨hl, h⟩ := dp_g_ok h
    obtain ⟨v, r, rfl, h⟩ := dp_1i_ok h
    obtain ⟨hr, h⟩ := dp_g_ok h
    unfold dp_rt at h
    split at h
    · cases h; rfl
    · obtain ⟨hv, h⟩ := dp_g_ok h
      cases h; rfl
    · cases h
  | lreturn =>
    obtain ⟨hl, h⟩ := dp_g_ok h
    obtain ⟨v, r, rfl, h⟩ := dp_1l_ok h
    obtain ⟨hr, h⟩ := dp_g_ok h
    split at h
    · cases h; rfl
    · cases h
  | return_ =>
    obtain ⟨hl, h⟩ := dp_g_ok h
    obtain ⟨hr, h⟩ := dp_g_ok h
    split at h
    · cases h; rfl
    · cases h
  | _ => exact absurd h (by intro h; cases h)
theorem dp_st_gr {K : dp_K} {M : dp_M} {cf : dp_F} {s : dp_T} {o : dp_T ⊕ dp_R} (h : dp_st K M cf s = some o) : s.2.2.2.1.length ≤ (dp_shp o).length ∧ sm_sl s.2.2.2.1 ≤ sm_sl (dp_shp o) := by
  obtain ⟨pc, L, st, sh, P, w⟩ := s
  unfold dp_st at h
  simp only at h
  rw [dp_nf_eq] at h
  obtain ⟨⟨ins, len⟩, hi, h⟩ := dp_o_ok h
  simp only at h
  split at h
  · rename_i R hR
    cases h
    have z := dp_rn_sh hR
    simp only [dp_shp, z]
    exact ⟨Nat.le_refl _, Nat.le_refl _⟩
  · obtain ⟨s', hs, h⟩ := dp_o_ok h
    obtain ⟨hc, h⟩ := dp_g_ok h
    cases h
    exact dp_ck_ok hc
theorem dp_go_gr {K : dp_K} {M : dp_M} {cf : dp_F} : ∀ (k : Nat) (s : dp_T) (o : dp_T ⊕ dp_R), dp_go K M cf k s = some o → s.2.2.2.1.length ≤ (dp_shp o).length ∧ sm_sl s.2.2.2.1 ≤ sm_sl (dp_shp o)
  | 0, s, o, h => dp_st_gr h
  | k + 1, s, o, h => by
    unfold dp_go at h
    split at h
    · rename_i s' hs
      obtain ⟨a1, a2⟩ := dp_go_gr k s _ hs
      obtain ⟨b1, b2⟩ := dp_go_gr k s' o h
      exact ⟨Nat.le_trans a1 b1, Nat.le_trans a2 b2⟩
    · rename_i R hs
      cases h
      exact dp_go_gr k s _ hs
    · cases h
/-- a method: what a run from its beginning computes is its contract -/
theorem dp_meth {cl : List vw_C} {Z : sm_Z} {y : MethodName} {cc : ByteArray} {W' : List Cond} {M : dp_M} (hM : ∀ e ∈ M.1, decode cc e.1 = .ok e.2) {K : dp_K} {ys : Nat → MethodName} {wss : Nat → List Cond} {cf : dp_F} {fr lo : Nat} (hK : dp_Kok cl Z.2.2.2 y.cls W' ys wss K) (hcf : dp_cfok cl Z ys wss fr lo cf) (hy : plainName y.cls = true) (hini : (y.name == "<init>") = M.2.2.2) {As : List Value} (hlen : (lg_sl As).length ≤ M.2.1) {sh : sm_S} {P : dp_P} {R : dp_R} {k : Nat} (h : dp_go K M cf k (0, sm_L0 M.2.1 As, [], sh, P, dp_w0) = some (.inr R)) : sh.length ≤ R.2.1.length ∧ sm_sl sh ≤ sm_sl R.2.1 ∧ ∀ (ad : Nat → Nat) (μ : sm_M), dp_le P μ → sm_C cl Z y (Cond.code y cc M.2.1 M.2.2.1 :: W') (dp_rm (fr + 1) (lo + 32) sh R.2.1) As ad sh μ (dp_Q μ R) := by
  have g := dp_go_gr _ _ _ h
  simp only [dp_shp] at g
  refine ⟨g.1, g.2, fun ad μ hle => sm_enter hy hlen (fun X hZ hX hf => ?_)⟩
  subst hZ
  rw [hini] at hX
  exact (dp_go_ok hX hM hK hcf (Nat.le_refl _) (by simp only [dp_rm]; omega) k _ _ h).2 (by simp only [dp_shp, dp_rm]; omega) (by simp only [dp_shp, dp_rm]; omega) ⟨g.1, g.2, hf⟩ ad μ hle dp_ou.rf (fun _ _ => rfl) (Nat.le_refl _)
