/-! put -/
theorem mb_ix1 : (List.range 252).all (fun n => decide (Int32.ofInt 4 * nI n = nI (4 * n))) = true := by decide +kernel
theorem mb_ix2 : (List.range 252).all (fun n => decide (nI n >>> ((Int8.ofInt 6).toInt32 &&& 31) = nI (n / 64))) = true := by decide +kernel
theorem mb_put_C {Z : sm_Z} {p n m : Nat} (hp : ev_s2[p]? = some (.inr (2, 1008))) (h60 : 60 ≤ p) (h62 : p ≤ 62) (hn : n < 252) (hm : m < 252) (ad : Nat → Nat) (μ : sm_M) (h : dp_le mb_F μ) : sm_C tb_cl Z (tb_ys 169) (tb_ws 169) (dp_rm 1 32 ev_s2 ev_s2) [.ref p, .int (nI n), .int (nI m)] ad ev_s2 μ (fun r sh' μ' => r = none ∧ sh' = ev_s2 ∧ dp_le mb_F μ') := by
  refine sm_enter (cc := prog_12_method_28_code) (nL := 3) (ret := none) (by decide +kernel) (Nat.le_of_ble_eq_true rfl) (fun X hXZ hX hf => ?_)
  rw [show (tb_ys 169).cls = "ProgramSlicesModel" by decide +kernel] at hX
  have i1 := of_decide_eq_true (List.all_eq_true.mp mb_ix1 n (List.mem_range.mpr hn))
  have i2 := of_decide_eq_true (List.all_eq_true.mp mb_ix2 m (List.mem_range.mpr hm))
  have hin : vp_in (Int32.ofInt 4 * nI n + nI m >>> ((Int8.ofInt 6).toInt32 &&& 31)) 1008 := by
    rw [i1, i2, nI_add]
    exact nI_in (by omega) (by omega)
  refine sm_aloadN hX td_169_0 rfl ?_
  refine sm_iconst hX td_169_1 ?_
  refine sm_iloadN hX td_169_2 rfl ?_
  refine sm_imul hX td_169_3 ?_
  refine sm_iloadN hX td_169_4 rfl ?_
  refine sm_bipush hX td_169_5 ?_
  refine sm_ishr hX td_169_7 ?_
  refine sm_iadd hX td_169_8 ?_
  refine sm_dup2 hX td_169_9 rfl rfl ?_
  refine sm_lald hX hp hin td_169_10 ?_
  refine sm_lconst hX td_169_11 ?_
  refine sm_iloadN hX td_169_12 rfl ?_
  refine sm_bipush hX td_169_13 ?_
  refine sm_iand hX td_169_15 ?_
  refine sm_lshl hX td_169_16 ?_
  refine sm_lor hX td_169_17 ?_
  refine sm_last hX hp hin td_169_18 ?_
  exact sm_vret hX hf rfl rfl (fun _ _ => rfl) rfl td_169_19 ⟨rfl, rfl, mb_f_ul h h60 h62⟩
/-! dependences -/
theorem mb_dep_C {Z : sm_Z} (hZ : Z.2.2.2 = tb_N) (ad : Nat → Nat) (μ : sm_M) (h : dp_le mb_F μ) : sm_C tb_cl Z (tb_ys 152) (tb_ws 152) (dp_rm 6 192 ev_s2 ev_s2) [.ref 46] ad ev_s2 μ (fun r sh' μ' => r = none ∧ sh' = ev_s2) := by
  refine sm_enter (cc := prog_12_method_29_code) (nL := 4) (ret := none) (by decide +kernel) (Nat.le_of_ble_eq_true rfl) (fun X hXZ hX hf => ?_)
  subst hXZ
  rw [show (tb_ys 152).cls = "ProgramSlicesModel" by decide +kernel] at hX
  -- behind the loops
  have tail : ∀ μ1 : sm_M, dp_le mb_F μ1 → sm_E tb_cl X 84 [some (.ref 46), none, none, none] [] ad ev_s2 μ1 := by
    intro μ1 h1
    refine ev_T_E hZ rfl hX ⟨rfl, by decide +kernel⟩ (n := 0) (j := 152) (stop := 256) (L' := [some (.ref 46), some (.int 0), some (.int 1), some (.int 0)]) (st' := []) (P := mb_F) (by decide) (by decide) (by decide) (by decide) (by decide +kernel) h1 (fun μ2 h2 h3 => ?_)
    exact sm_vret hX hf rfl rfl (fun _ _ => rfl) rfl td_152_256 ⟨rfl, rfl⟩
  -- the inner loop, with what follows it
  have inner : ∀ (n : Nat), n < 252 → (∀ μ1 : sm_M, dp_le mb_F μ1 → sm_E tb_cl X 38 [some (.ref 46), some (.int (nI (n + 1))), none, none] [] ad ev_s2 μ1) → ∀ (q k : Nat), k + q = 252 → ∀ μ1 : sm_M, dp_le mb_F μ1 → sm_E tb_cl X 47 [some (.ref 46), some (.int (nI n)), some (.int (nI k)), none] [] ad ev_s2 μ1 := by
    intro n hn next q
    induction q with
    | zero =>
      intro k hk μ1 h1
      have hk : k = 252 := by omega
      subst hk
      refine sm_iloadN hX td_152_47 rfl ?_
      refine sm_sipush hX td_152_48 ?_
      refine sm_icmp_ge hX 78 td_152_51 (by decide) (fun _ => ?_) (fun z => absurd (by decide) z)
      refine sm_iincG hX td_152_78 rfl rfl (by decide) ?_
      refine sm_goto hX 38 td_152_81 (by decide) ?_
      have e : nI n + Int32.ofInt 1 = nI (n + 1) := nI_1 n
      rw [e]
      refine sm_E.less ?_ (next μ1 h1)
      exact sm_l42
    | succ q ih =>
      intro k hk μ1 h1
      have more : ∀ μ2 : sm_M, dp_le mb_F μ2 → sm_E tb_cl X 72 [some (.ref 46), some (.int (nI n)), some (.int (nI k)), none] [] ad ev_s2 μ2 := by
        intro μ2 h2
        refine sm_iincG hX td_152_72 rfl rfl (by decide) ?_
        refine sm_goto hX 47 td_152_75 (by decide) ?_
        have e : nI k + Int32.ofInt 1 = nI (k + 1) := nI_1 k
        rw [e]
        exact ih (k + 1) (by omega) μ2 h2
      refine sm_iloadN hX td_152_47 rfl ?_
      refine sm_sipush hX td_152_48 ?_
      refine sm_icmp_ge hX 78 td_152_51 (by decide) (fun z => absurd z (nI_ge (a := k) (b := 252) (by omega) (by omega))) (fun _ => ?_)
      refine sm_aloadN hX td_152_54 rfl ?_
      refine sm_iloadN hX td_152_55 rfl ?_
      refine sm_iloadN hX td_152_56 rfl ?_
      refine tb_v11_6 _ X _ _ _ _ _ _ hZ hX _ _ [] ad ev_s2 μ1 [.ref 46, .int (nI n), .int (nI k)] _ (dp_rm 5 160 ev_s2 ev_s2) rfl ⟨46, _, _, rfl, rfl⟩ (mb_how_C hZ hn (by omega) ad μ1 h1) (by decide) (by decide) (by decide) (by decide) (by decide) td_152_57 (fun v ad' sh' μ' e1 e2 hag hq => ?_)
      obtain ⟨⟨v, rfl⟩, rfl, rfl⟩ := hq
      have ea : ad' = ad := sm_ag_eq hag
      subst ea
      refine ⟨Or.inl (by decide), ?_⟩
      refine sm_if_eq hX 72 td_152_60 (by decide) (fun _ => more μ' h1) (fun _ => ?_)
      refine sm_aloadN hX td_152_63 rfl ?_
      refine sm_getR hX (k := 16) (q := 60) (ci := 10) (T := tb_T10) (N' := 38) (C := "ProgramSlicesModel") rfl rfl (by decide) rfl tb_u10 tb_w647 td_152_64 ?_
      refine sm_iloadN hX td_152_67 rfl ?_
      refine sm_iloadN hX td_152_68 rfl ?_
      refine tb_s11_4 _ X _ _ _ _ _ _ hZ hX _ _ [] ad' ev_s2 μ' [.ref 60, .int (nI n), .int (nI k)] _ (dp_rm 1 32 ev_s2 ev_s2) rfl trivial (mb_put_C rfl (by decide) (by decide) hn (by omega) ad' μ' h1) (by decide) (by decide) (by decide) (by decide) (by decide) td_152_69 (fun v ad'' sh' μ'' e1 e2 hag hq => ?_)
      obtain ⟨rfl, rfl, h2⟩ := hq
      have ea : ad'' = ad' := sm_ag_eq hag
      subst ea
      exact ⟨Or.inl (by decide), more μ'' h2⟩
  -- the outer loop
  have outer : ∀ (q k : Nat), k + q = 252 → ∀ μ1 : sm_M, dp_le mb_F μ1 → sm_E tb_cl X 38 [some (.ref 46), some (.int (nI k)), none, none] [] ad ev_s2 μ1 := by
    intro q
    induction q with
    | zero =>
      intro k hk μ1 h1
      have hk : k = 252 := by omega
      subst hk
      refine sm_iloadN hX td_152_38 rfl ?_
      refine sm_sipush hX td_152_39 ?_
      refine sm_icmp_ge hX 84 td_152_42 (by decide) (fun _ => ?_) (fun z => absurd (by decide) z)
      refine sm_E.less ?_ (tail μ1 h1)
      exact sm_l41
    | succ q ih =>
      intro k hk μ1 h1
      refine sm_iloadN hX td_152_38 rfl ?_
      refine sm_sipush hX td_152_39 ?_
      refine sm_icmp_ge hX 84 td_152_42 (by decide) (fun z => absurd z (nI_ge (a := k) (b := 252) (by omega) (by omega))) (fun _ => ?_)
      refine sm_iconst hX td_152_45 ?_
      refine sm_istoreN hX td_152_46 rfl (by decide) ?_
      exact inner k (by omega) (ih (k + 1) (by omega)) 252 0 (by omega) μ1 h1
  -- the rows are emptied
  have clear : ∀ (q k : Nat), k + q = 1008 → ∀ μ1 : sm_M, dp_le mb_F μ1 → sm_E tb_cl X 2 [some (.ref 46), some (.int (nI k)), none, none] [] ad ev_s2 μ1 := by
    intro q
    induction q with
    | zero =>
      intro k hk μ1 h1
      have hk : k = 1008 := by omega
      subst hk
      refine sm_iloadN hX td_152_2 rfl ?_
      refine sm_sipush hX td_152_3 ?_
      refine sm_icmp_ge hX 36 td_152_6 (by decide) (fun _ => ?_) (fun z => absurd (by decide) z)
      refine sm_iconst hX td_152_36 ?_
      refine sm_istoreN hX td_152_37 rfl (by decide) ?_
      exact outer 252 0 (by omega) μ1 h1
    | succ q ih =>
      intro k hk μ1 h1
      refine sm_iloadN hX td_152_2 rfl ?_
      refine sm_sipush hX td_152_3 ?_
      refine sm_icmp_ge hX 36 td_152_6 (by decide) (fun z => absurd z (nI_ge (a := k) (b := 1008) (by omega) (by omega))) (fun _ => ?_)
      refine sm_aloadN hX td_152_9 rfl ?_
      refine sm_getR hX (k := 16) (q := 60) (ci := 10) (T := tb_T10) (N' := 38) (C := "ProgramSlicesModel") rfl rfl (by decide) rfl tb_u10 tb_w647 td_152_10 ?_
      refine sm_iloadN hX td_152_13 rfl ?_
      refine sm_lconst hX td_152_14 ?_
      refine sm_last hX (p := 60) (len := 1008) rfl (nI_in (by omega) (by omega)) td_152_15 ?_
      refine sm_aloadN hX td_152_16 rfl ?_
      refine sm_getR hX (k := 17) (q := 61) (ci := 10) (T := tb_T10) (N' := 38) (C := "ProgramSlicesModel") rfl rfl (by decide) rfl tb_u10 tb_w648 td_152_17 ?_
      refine sm_iloadN hX td_152_20 rfl ?_
      refine sm_lconst hX td_152_21 ?_
      refine sm_last hX (p := 61) (len := 1008) rfl (nI_in (by omega) (by omega)) td_152_22 ?_
      refine sm_aloadN hX td_152_23 rfl ?_
      refine sm_getR hX (k := 18) (q := 62) (ci := 10) (T := tb_T10) (N' := 38) (C := "ProgramSlicesModel") rfl rfl (by decide) rfl tb_u10 tb_w649 td_152_24 ?_
      refine sm_iloadN hX td_152_27 rfl ?_
      refine sm_lconst hX td_152_28 ?_
      refine sm_last hX (p := 62) (len := 1008) rfl (nI_in (by omega) (by omega)) td_152_29 ?_
      refine sm_iincG hX td_152_30 rfl rfl (by decide) ?_
      refine sm_goto hX 2 td_152_33 (by decide) ?_
      have e : nI k + Int32.ofInt 1 = nI (k + 1) := nI_1 k
      rw [e]
      exact ih (k + 1) (by omega) _ (mb_f_ul (mb_f_ul (mb_f_ul h1 (by decide) (by decide)) (by decide) (by decide)) (by decide) (by decide))
  refine sm_iconst hX td_152_0 ?_
  refine sm_istoreN hX td_152_1 rfl (by decide) ?_
  exact clear 1008 0 (by omega) μ h
theorem mb_C {Z : sm_Z} (hZ : Z.2.2.2 = tb_N) (ad : Nat → Nat) (μ : sm_M) (h : dp_le ev_Pm μ) : sm_C tb_cl Z (tb_ys 146) (tb_ws 146) (dp_rm 7 224 ev_s2 ev_s2) [.ref 46] ad ev_s2 μ (fun r sh' μ' => r = some (.int 0) ∧ sh' = ev_s2) := by
  refine sm_enter (cc := prog_12_method_7_code) (nL := 3) (ret := some .int) (by decide +kernel) (Nat.le_of_ble_eq_true rfl) (fun X hXZ hX hf => ?_)
  subst hXZ
  rw [show (tb_ys 146).cls = "ProgramSlicesModel" by decide +kernel] at hX
  refine ev_T_E hZ rfl hX ⟨rfl, by decide +kernel⟩ (n := 1) (j := 146) (by decide) (by decide) (by decide) (by decide) mb_T_ok h (fun μ1 h1 _ => ?_)
  have h1 := mb_f_le h1
  refine tb_v11_2 _ X _ _ _ _ _ _ hZ hX _ _ [] ad ev_s2 μ1 [.ref 46] _ (dp_rm 1 32 ev_s2 ev_s2) rfl ⟨46, _, _, rfl, rfl⟩ (mb_ways_C ad μ1 h1) (by decide) (by decide) (by decide) (by decide) (by decide) td_146_80 (fun v ad' sh' μ2 e1 e2 hag hq => ?_)
  obtain ⟨rfl, rfl, h1⟩ := hq
  have ea : ad' = ad := sm_ag_eq hag
  subst ea
  refine ⟨Or.inl (by decide), ?_⟩
  generalize μ2 = μ1 at h1 ⊢
  refine sm_aloadN hX td_146_83 rfl ?_
  refine tb_v11_5 _ X _ _ _ _ _ _ hZ hX _ _ [] ad' ev_s2 μ1 [.ref 46] _ (dp_rm 6 192 ev_s2 ev_s2) rfl ⟨46, _, _, rfl, rfl⟩ (mb_dep_C hZ ad' μ1 h1) (by decide) (by decide) (by decide) (by decide) (by decide) td_146_84 (fun v ad'' sh' μ' e1 e2 hag hq => ?_)
  obtain ⟨rfl, rfl⟩ := hq
  have ea : ad'' = ad' := sm_ag_eq hag
  subst ea
  refine ⟨Or.inl (by decide), ?_⟩
  refine sm_iconst hX td_146_87 ?_
  exact sm_iret hX hf rfl rfl (fun _ _ => rfl) rfl td_146_88 ⟨rfl, rfl⟩
