/-! how of two nodes that are there, by a table -/
def mb_isI : Option Value → Bool
  | some (.int _) => true
  | _ => false
def mb_okh (n m : Nat) : Bool := match tb_cf 5 153 [.ref 46, .int (nI n), .int (nI m)] ev_s2 mb_F with
  | some R => mb_isI R.1 && (decide (R.2.1 = ev_s2) && Nat.ble R.2.2.2.2 R.2.2.2.1)
  | none => false
theorem mb_okh_all : (List.range 7).all (fun a => (List.range 7).all (fun b => mb_okh (224 + a) (224 + b))) = true := by decide +kernel
theorem mb_how_C {Z : sm_Z} (hZ : Z.2.2.2 = tb_N) {n m : Nat} (hn : n < 252) (hm : m < 252) (ad : Nat → Nat) (μ : sm_M) (h : dp_le mb_F μ) : sm_C tb_cl Z (tb_ys 153) (tb_ws 153) (dp_rm 5 160 ev_s2 ev_s2) [.ref 46, .int (nI n), .int (nI m)] ad ev_s2 μ (fun r sh' μ' => (∃ v, r = some (.int v)) ∧ sh' = ev_s2 ∧ μ' = μ) := by
  by_cases hb : mb_ex n = true ∧ mb_ex m = true
  · obtain ⟨b1, b2⟩ := hb
    unfold mb_ex at b1 b2
    rw [Bool.and_eq_true] at b1 b2
    have c1 := Nat.le_of_ble_eq_true b1.1
    have c2 := Nat.le_of_ble_eq_true b1.2
    have c3 := Nat.le_of_ble_eq_true b2.1
    have c4 := Nat.le_of_ble_eq_true b2.2
    have h1 := List.all_eq_true.mp (List.all_eq_true.mp mb_okh_all (n - 224) (List.mem_range.mpr (by omega))) (m - 224) (List.mem_range.mpr (by omega))
    rw [show 224 + (n - 224) = n by omega, show 224 + (m - 224) = m by omega] at h1
    unfold mb_okh at h1
    split at h1
    · rename_i R hR
      rw [Bool.and_eq_true, Bool.and_eq_true] at h1
      obtain ⟨z1, z2, z3⟩ := h1
      have z2 := of_decide_eq_true z2
      have z3 := Nat.le_of_ble_eq_true z3
      have z1 : ∃ v, R.1 = some (.int v) := by
        cases hr : R.1 with
        | none => rw [hr] at z1; cases z1
        | some x =>
          cases x with
          | int v => exact ⟨v, rfl⟩
          | _ => rw [hr] at z1; cases z1
      obtain ⟨v, z1⟩ := z1
      have h5 := (tb_cfok hZ tb_prs 5 _ _ _ _ _ hR).2.2 ad μ h
      rw [z2] at h5
      exact h5.imp (fun r sh' μ' q => ⟨⟨v, q.1.trans z1⟩, q.2.1.trans z2, q.2.2.2.all z3⟩)
    · cases h1
  · refine sm_enter (cc := prog_12_method_26_code) (nL := 3) (ret := some .int) (by decide +kernel) (Nat.le_of_ble_eq_true rfl) (fun X hXZ hX hf => ?_)
    subst hXZ
    rw [show (tb_ys 153).cls = "ProgramSlicesModel" by decide +kernel] at hX
    have fin : ∀ L : List (Option Value), sm_E tb_cl X 29 L [] ad ev_s2 μ := by
      intro L
      refine sm_iconst hX td_153_29 ?_
      exact sm_iret hX hf rfl rfl (fun _ _ => rfl) rfl td_153_30 ⟨⟨_, rfl⟩, rfl, rfl⟩
    refine sm_aloadN hX td_153_0 rfl ?_
    refine sm_iloadN hX td_153_1 rfl ?_
    refine tb_v11_7 _ X _ _ _ _ _ _ hZ hX _ _ [] ad ev_s2 μ [.ref 46, .int (nI n)] _ (dp_rm 2 64 ev_s2 ev_s2) rfl ⟨46, _, _, rfl, rfl⟩ (mb_ex_C hZ hn ad μ h) (by decide) (by decide) (by decide) (by decide) (by decide) td_153_2 (fun v ad' sh' μ' e1 e2 hag q => ?_)
    obtain ⟨rfl, rfl, rfl⟩ := q
    have ea : ad' = ad := sm_ag_eq hag
    subst ea
    refine ⟨Or.inl (by decide), ?_⟩
    refine sm_if_eq hX 29 td_153_5 (by decide) (fun _ => fin _) (fun hne => ?_)
    have b1 : mb_ex n = true := by
      cases hb1 : mb_ex n with
      | true => rfl
      | false => rw [hb1] at hne; exact absurd rfl hne
    refine sm_aloadN hX td_153_8 rfl ?_
    refine sm_iloadN hX td_153_9 rfl ?_
    refine tb_v11_7 _ X _ _ _ _ _ _ hZ hX _ _ [] ad' ev_s2 μ' [.ref 46, .int (nI m)] _ (dp_rm 2 64 ev_s2 ev_s2) rfl ⟨46, _, _, rfl, rfl⟩ (mb_ex_C hZ hm ad' μ' h) (by decide) (by decide) (by decide) (by decide) (by decide) td_153_10 (fun v ad'' sh' μ'' e1 e2 hag q => ?_)
    obtain ⟨rfl, rfl, rfl⟩ := q
    have ea : ad'' = ad' := sm_ag_eq hag
    subst ea
    refine ⟨Or.inl (by decide), ?_⟩
    refine sm_if_eq hX 29 td_153_13 (by decide) (fun _ => fin _) (fun hne => ?_)
    exfalso
    apply hb
    refine ⟨b1, ?_⟩
    cases hb1 : mb_ex m with
    | true => rfl
    | false => rw [hb1] at hne; exact absurd rfl hne
