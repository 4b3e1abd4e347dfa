theorem td_24_0 : decode prog_14_method_103_code 0 = .ok ((.iconst (0)), 1) := tb_b24_ok (0, (.iconst (0)), 1) (List.mem_of_getElem? (i := 0) rfl)
theorem td_24_1 : decode prog_14_method_103_code 1 = .ok ((.istore_n 2), 1) := tb_b24_ok (1, (.istore_n 2), 1) (List.mem_of_getElem? (i := 1) rfl)
theorem td_24_2 : decode prog_14_method_103_code 2 = .ok ((.aload_n 0), 1) := tb_b24_ok (2, (.aload_n 0), 1) (List.mem_of_getElem? (i := 2) rfl)
theorem td_24_3 : decode prog_14_method_103_code 3 = .ok (.arraylength, 1) := tb_b24_ok (3, .arraylength, 1) (List.mem_of_getElem? (i := 3) rfl)
theorem td_24_4 : decode prog_14_method_103_code 4 = .ok ((.istore_n 3), 1) := tb_b24_ok (4, (.istore_n 3), 1) (List.mem_of_getElem? (i := 4) rfl)
theorem td_24_5 : decode prog_14_method_103_code 5 = .ok ((.iload_n 2), 1) := tb_b24_ok (5, (.iload_n 2), 1) (List.mem_of_getElem? (i := 5) rfl)
theorem td_24_6 : decode prog_14_method_103_code 6 = .ok ((.iload_n 3), 1) := tb_b24_ok (6, (.iload_n 3), 1) (List.mem_of_getElem? (i := 6) rfl)
theorem td_24_7 : decode prog_14_method_103_code 7 = .ok ((.if_icmp .ge (13)), 3) := tb_b24_ok (7, (.if_icmp .ge (13)), 3) (List.mem_of_getElem? (i := 7) rfl)
theorem td_24_10 : decode prog_14_method_103_code 10 = .ok ((.aload_n 0), 1) := tb_b24_ok (10, (.aload_n 0), 1) (List.mem_of_getElem? (i := 8) rfl)
theorem td_24_11 : decode prog_14_method_103_code 11 = .ok ((.iload_n 2), 1) := tb_b24_ok (11, (.iload_n 2), 1) (List.mem_of_getElem? (i := 9) rfl)
theorem td_24_12 : decode prog_14_method_103_code 12 = .ok ((.iload_n 1), 1) := tb_b24_ok (12, (.iload_n 1), 1) (List.mem_of_getElem? (i := 10) rfl)
theorem td_24_13 : decode prog_14_method_103_code 13 = .ok (.iastore, 1) := tb_b24_ok (13, .iastore, 1) (List.mem_of_getElem? (i := 11) rfl)
theorem td_24_14 : decode prog_14_method_103_code 14 = .ok ((.iinc 2 (1)), 3) := tb_b24_ok (14, (.iinc 2 (1)), 3) (List.mem_of_getElem? (i := 12) rfl)
theorem td_24_17 : decode prog_14_method_103_code 17 = .ok ((.goto (-12)), 3) := tb_b24_ok (17, (.goto (-12)), 3) (List.mem_of_getElem? (i := 13) rfl)
theorem td_24_20 : decode prog_14_method_103_code 20 = .ok (.return_, 1) := tb_b24_ok (20, .return_, 1) (List.mem_of_getElem? (i := 14) rfl)
theorem td_37_0 : decode prog_14_method_101_code 0 = .ok ((.iconst (0)), 1) := tb_b37_ok (0, (.iconst (0)), 1) (List.mem_of_getElem? (i := 0) rfl)
theorem td_37_1 : decode prog_14_method_101_code 1 = .ok ((.istore_n 3), 1) := tb_b37_ok (1, (.istore_n 3), 1) (List.mem_of_getElem? (i := 1) rfl)
theorem td_37_2 : decode prog_14_method_101_code 2 = .ok ((.aload_n 0), 1) := tb_b37_ok (2, (.aload_n 0), 1) (List.mem_of_getElem? (i := 2) rfl)
theorem td_37_3 : decode prog_14_method_101_code 3 = .ok (.arraylength, 1) := tb_b37_ok (3, .arraylength, 1) (List.mem_of_getElem? (i := 3) rfl)
theorem td_37_4 : decode prog_14_method_101_code 4 = .ok ((.istore 4), 2) := tb_b37_ok (4, (.istore 4), 2) (List.mem_of_getElem? (i := 4) rfl)
theorem td_37_6 : decode prog_14_method_101_code 6 = .ok ((.iload_n 3), 1) := tb_b37_ok (6, (.iload_n 3), 1) (List.mem_of_getElem? (i := 5) rfl)
theorem td_37_7 : decode prog_14_method_101_code 7 = .ok ((.iload 4), 2) := tb_b37_ok (7, (.iload 4), 2) (List.mem_of_getElem? (i := 6) rfl)
theorem td_37_9 : decode prog_14_method_101_code 9 = .ok ((.if_icmp .ge (13)), 3) := tb_b37_ok (9, (.if_icmp .ge (13)), 3) (List.mem_of_getElem? (i := 7) rfl)
theorem td_37_12 : decode prog_14_method_101_code 12 = .ok ((.aload_n 0), 1) := tb_b37_ok (12, (.aload_n 0), 1) (List.mem_of_getElem? (i := 8) rfl)
theorem td_37_13 : decode prog_14_method_101_code 13 = .ok ((.iload_n 3), 1) := tb_b37_ok (13, (.iload_n 3), 1) (List.mem_of_getElem? (i := 9) rfl)
theorem td_37_14 : decode prog_14_method_101_code 14 = .ok ((.lload_n 1), 1) := tb_b37_ok (14, (.lload_n 1), 1) (List.mem_of_getElem? (i := 10) rfl)
theorem td_37_15 : decode prog_14_method_101_code 15 = .ok (.lastore, 1) := tb_b37_ok (15, .lastore, 1) (List.mem_of_getElem? (i := 11) rfl)
theorem td_37_16 : decode prog_14_method_101_code 16 = .ok ((.iinc 3 (1)), 3) := tb_b37_ok (16, (.iinc 3 (1)), 3) (List.mem_of_getElem? (i := 12) rfl)
theorem td_37_19 : decode prog_14_method_101_code 19 = .ok ((.goto (-13)), 3) := tb_b37_ok (19, (.goto (-13)), 3) (List.mem_of_getElem? (i := 13) rfl)
theorem td_37_22 : decode prog_14_method_101_code 22 = .ok (.return_, 1) := tb_b37_ok (22, .return_, 1) (List.mem_of_getElem? (i := 14) rfl)
/-! Arrays.fill -/
def sm_fI (μ : sm_M) (p n : Nat) (v : Int32) : sm_M := (fun q => if q = p then (fun j => if j < n then v else μ.1 p j) else μ.1 q, μ.2)
def sm_fL (μ : sm_M) (p n : Nat) (v : Int64) : sm_M := (μ.1, fun q => if q = p then (fun j => if j < n then v else μ.2 p j) else μ.2 q)
theorem sm_fI_0 (μ : sm_M) (p : Nat) (v : Int32) : sm_fI μ p 0 v = μ := by
  obtain ⟨a, b⟩ := μ
  unfold sm_fI
  congr 1
  funext q
  by_cases h : q = p
  · subst h; simp
  · simp [h]
theorem sm_fL_0 (μ : sm_M) (p : Nat) (v : Int64) : sm_fL μ p 0 v = μ := by
  obtain ⟨a, b⟩ := μ
  unfold sm_fL
  congr 1
  funext q
  by_cases h : q = p
  · subst h; simp
  · simp [h]
theorem sm_fI_s (μ : sm_M) (p k : Nat) (v : Int32) : sm_ui (sm_fI μ p k v) p k v = sm_fI μ p (k + 1) v := by
  unfold sm_ui sm_fI
  congr 1
  funext q
  by_cases h : q = p
  · subst h
    simp only [if_true]
    funext j
    unfold upd
    by_cases hj : j = k
    · subst hj; simp
    · have e : (j < k) = (j < k + 1) := propext ⟨fun _ => by omega, fun _ => by omega⟩
      simp [hj, e]
  · simp [h]
theorem sm_fL_s (μ : sm_M) (p k : Nat) (v : Int64) : sm_ul (sm_fL μ p k v) p k v = sm_fL μ p (k + 1) v := by
  unfold sm_ul sm_fL
  congr 1
  funext q
  by_cases h : q = p
  · subst h
    simp only [if_true]
    funext j
    unfold vp_updL
    by_cases hj : j = k
    · subst hj; simp
    · have e : (j < k) = (j < k + 1) := propext ⟨fun _ => by omega, fun _ => by omega⟩
      simp [hj, e]
  · simp [h]
theorem tb_fillI_C {Z : sm_Z} {rm : Room} (hc : rm.cells = 0) (hs : rm.slots = 0) {p n : Nat} {v : Int32} {sh : sm_S} (hsh : sh[p]? = some (.inr (0, n))) (hn : n ≤ 1000000) (ad : Nat → Nat) (μ : sm_M) : sm_C tb_cl Z (tb_ys 24) (tb_ws 24) rm [.ref p, .int v] ad sh μ (fun r sh' μ' => r = none ∧ sh' = sh ∧ μ' = sm_fI μ p n v) := by
  refine sm_enter (cc := prog_14_method_103_code) (nL := 4) (ret := none) (by decide +kernel) (Nat.le_of_ble_eq_true rfl) (fun X hZ hX hf => ?_)
  have loop : ∀ (m k : Nat), k + m = n → sm_E tb_cl X 5 [some (.ref p), some (.int v), some (.int (nI k)), some (.int (nI n))] [] ad sh (sm_fI μ p k v) := by
    intro m
    induction m with
    | zero =>
      intro k hk
      have hk : k = n := by omega
      subst hk
      refine sm_iloadN hX td_24_5 rfl ?_
      refine sm_iloadN hX td_24_6 rfl ?_
      refine sm_icmp_ge hX 20 td_24_7 (by decide) (fun _ => ?_) (fun h => absurd (Int32.le_refl _) h)
      exact sm_vret hX hf (by omega) (by omega) (fun _ _ => rfl) rfl td_24_20 ⟨rfl, rfl, rfl⟩
    | succ m ih =>
      intro k hk
      refine sm_iloadN hX td_24_5 rfl ?_
      refine sm_iloadN hX td_24_6 rfl ?_
      refine sm_icmp_ge hX 20 td_24_7 (by decide) (fun h => absurd h (nI_ge (by omega) (by omega))) (fun _ => ?_)
      refine sm_aloadN hX td_24_10 rfl ?_
      refine sm_iloadN hX td_24_11 rfl ?_
      refine sm_iloadN hX td_24_12 rfl ?_
      refine sm_iast hX hsh (nI_in (by omega) (by omega)) td_24_13 ?_
      refine sm_iincG hX td_24_14 rfl rfl (by decide) ?_
      refine sm_goto hX 5 td_24_17 (by decide) ?_
      have h := ih (k + 1) (by omega)
      rw [nI_clamp (show k < 2 ^ 31 by omega), sm_fI_s]
      have e : nI k + Int32.ofInt 1 = nI (k + 1) := nI_1 k
      rw [e]
      exact h
  refine sm_iconst hX td_24_0 ?_
  refine sm_istoreN hX td_24_1 rfl (by decide) ?_
  refine sm_aloadN hX td_24_2 rfl ?_
  refine sm_alen hX hsh (by decide) td_24_3 ?_
  refine sm_istoreN hX td_24_4 rfl (by decide) ?_
  have h := loop n 0 (by omega)
  rw [sm_fI_0] at h
  exact h
theorem tb_fillL_C {Z : sm_Z} {rm : Room} (hc : rm.cells = 0) (hs : rm.slots = 0) {p n : Nat} {v : Int64} {sh : sm_S} (hsh : sh[p]? = some (.inr (2, n))) (hn : n ≤ 1000000) (ad : Nat → Nat) (μ : sm_M) : sm_C tb_cl Z (tb_ys 37) (tb_ws 37) rm [.ref p, .long v] ad sh μ (fun r sh' μ' => r = none ∧ sh' = sh ∧ μ' = sm_fL μ p n v) := by
  refine sm_enter (cc := prog_14_method_101_code) (nL := 5) (ret := none) (by decide +kernel) (Nat.le_of_ble_eq_true rfl) (fun X hZ hX hf => ?_)
  have loop : ∀ (m k : Nat), k + m = n → sm_E tb_cl X 6 [some (.ref p), some (.long v), none, some (.int (nI k)), some (.int (nI n))] [] ad sh (sm_fL μ p k v) := by
    intro m
    induction m with
    | zero =>
      intro k hk
      have hk : k = n := by omega
      subst hk
      refine sm_iloadN hX td_37_6 rfl ?_
      refine sm_iloadG hX td_37_7 rfl ?_
      refine sm_icmp_ge hX 22 td_37_9 (by decide) (fun _ => ?_) (fun h => absurd (Int32.le_refl _) h)
      exact sm_vret hX hf (by omega) (by omega) (fun _ _ => rfl) rfl td_37_22 ⟨rfl, rfl, rfl⟩
    | succ m ih =>
      intro k hk
      refine sm_iloadN hX td_37_6 rfl ?_
      refine sm_iloadG hX td_37_7 rfl ?_
      refine sm_icmp_ge hX 22 td_37_9 (by decide) (fun h => absurd h (nI_ge (by omega) (by omega))) (fun _ => ?_)
      refine sm_aloadN hX td_37_12 rfl ?_
      refine sm_iloadN hX td_37_13 rfl ?_
      refine sm_lloadN hX td_37_14 rfl ?_
      refine sm_last hX hsh (nI_in (by omega) (by omega)) td_37_15 ?_
      refine sm_iincG hX td_37_16 rfl rfl (by decide) ?_
      refine sm_goto hX 6 td_37_19 (by decide) ?_
      have h := ih (k + 1) (by omega)
      rw [nI_clamp (show k < 2 ^ 31 by omega), sm_fL_s]
      have e : nI k + Int32.ofInt 1 = nI (k + 1) := nI_1 k
      rw [e]
      exact h
  refine sm_iconst hX td_37_0 ?_
  refine sm_istoreN hX td_37_1 rfl (by decide) ?_
  refine sm_aloadN hX td_37_2 rfl ?_
  refine sm_alen hX hsh (by decide) td_37_3 ?_
  refine sm_istoreG hX td_37_4 rfl (by decide) ?_
  have h := loop n 0 (by omega)
  rw [sm_fL_0] at h
  exact h
theorem sm_C.imp {cl : List vw_C} {Z : sm_Z} {y : MethodName} {ws : List Cond} {rm : Room} {av : List Value} {ad : Nat → Nat} {sh : sm_S} {μ : sm_M} {Q Q' : Option Value → sm_S → sm_M → Prop} (h : sm_C cl Z y ws rm av ad sh μ Q) (hq : ∀ r sh' μ', Q r sh' μ' → Q' r sh' μ') : sm_C cl Z y ws rm av ad sh μ Q' := by
  obtain ⟨l, D, cA, NW⟩ := Z
  intro sz
  intro p e g1 g2 g3 s m args below g4 g5 g6 g7
  obtain ⟨n, o, a1, a2, a3, ⟨⟨r, ad', sh', μ', h1, h2, h3, h4, h5, h6⟩, h7⟩, a5⟩ := h sz p e g1 g2 g3 s m args below g4 g5 g6 g7
  exact ⟨n, o, a1, a2, a3, ⟨⟨r, ad', sh', μ', h1, h2, h3, h4, hq _ _ _ h5, h6⟩, h7⟩, a5⟩
theorem dp_le.fI {P : dp_P} {μ : sm_M} (h : dp_le P μ) (p n : Nat) (v : Int32) : dp_le (dp_fillI P p n v) (sm_fI μ p n v) := by
  refine ⟨fun q j u hu0 => ?_, h.2⟩
  have hu : (bif Nat.beq q p then (bif Nat.ble (j + 1) n then some v else P.1 q j) else P.1 q j) = some u := hu0
  clear hu0
  cases h1 : Nat.beq q p with
  | false =>
    rw [h1] at hu
    have := dp_bne h1
    simp only [sm_fI, this, if_false]
    exact h.1 q j u hu
  | true =>
    rw [h1] at hu
    have e1 := dp_beq h1
    subst e1
    cases h2 : Nat.ble (j + 1) n with
    | false =>
      rw [h2] at hu
      have : ¬ j < n := fun z => by rw [Nat.ble_eq_true_of_le z] at h2; cases h2
      simp only [sm_fI, this, if_true, if_false]
      exact h.1 q j u hu
    | true =>
      rw [h2] at hu
      have : j < n := Nat.le_of_ble_eq_true h2
      simp only [sm_fI, this, if_true]
      exact Option.some.inj hu
theorem dp_le.fL {P : dp_P} {μ : sm_M} (h : dp_le P μ) (p n : Nat) (v : Int64) : dp_le (dp_fillL P p n v) (sm_fL μ p n v) := by
  refine ⟨h.1, fun q j u hu0 => ?_⟩
  have hu : (bif Nat.beq q p then (bif Nat.ble (j + 1) n then some v else P.2 q j) else P.2 q j) = some u := hu0
  clear hu0
  cases h1 : Nat.beq q p with
  | false =>
    rw [h1] at hu
    have := dp_bne h1
    simp only [sm_fL, this, if_false]
    exact h.2 q j u hu
  | true =>
    rw [h1] at hu
    have e1 := dp_beq h1
    subst e1
    cases h2 : Nat.ble (j + 1) n with
    | false =>
      rw [h2] at hu
      have : ¬ j < n := fun z => by rw [Nat.ble_eq_true_of_le z] at h2; cases h2
      simp only [sm_fL, this, if_true, if_false]
      exact h.2 q j u hu
    | true =>
      rw [h2] at hu
      have : j < n := Nat.le_of_ble_eq_true h2
      simp only [sm_fL, this, if_true]
      exact Option.some.inj hu
theorem tb_prs {Z : sm_Z} : tb_prok Z := by
  intro fr lo j As sh P R h
  unfold tb_pr at h
  split at h
  · rename_i p v
    obtain ⟨h1, ha⟩ := dp_g_ok h
    have h1 := dp_beq h1
    split at ha
    · rename_i c n hs
      obtain ⟨h2, hb⟩ := dp_g_ok ha
      obtain ⟨h3, hc⟩ := dp_g_ok hb
      have h2 := dp_beq h2
      have h3 := Nat.le_of_ble_eq_true h3
      cases hc
      subst h1 h2
      refine ⟨Nat.le_refl _, Nat.le_refl _, fun ad μ hle => (tb_fillI_C (Nat.sub_self _) (Nat.sub_self _) hs h3 ad μ).imp ?_⟩
      rintro r sh' μ' ⟨rfl, rfl, rfl⟩
      refine ⟨rfl, rfl, hle.fI p n v, fun q hq => ?_⟩
      obtain ⟨hne, -⟩ := dp_wu_out hq
      simp [sm_fI, hne]
    · cases ha
  · rename_i p v
    obtain ⟨h1, ha⟩ := dp_g_ok h
    have h1 := dp_beq h1
    split at ha
    · rename_i c n hs
      obtain ⟨h2, hb⟩ := dp_g_ok ha
      obtain ⟨h3, hc⟩ := dp_g_ok hb
      have h2 := dp_beq h2
      have h3 := Nat.le_of_ble_eq_true h3
      cases hc
      subst h1 h2
      refine ⟨Nat.le_refl _, Nat.le_refl _, fun ad μ hle => (tb_fillL_C (Nat.sub_self _) (Nat.sub_self _) hs h3 ad μ).imp ?_⟩
      rintro r sh' μ' ⟨rfl, rfl, rfl⟩
      refine ⟨rfl, rfl, hle.fL p n v, fun q hq => ?_⟩
      obtain ⟨hne, -⟩ := dp_wu_out hq
      simp [sm_fL, hne]
    · cases ha
  · cases h
