/-! contracts over ranges of the class's Order, as contracts here -/
theorem wk_fr_nil {m' m : wk_M} (h : wk_fr [] m' m) : m' = m := Prod.ext (funext fun p => (h p List.not_mem_nil).1) (funext fun p => (h p List.not_mem_nil).2)
theorem wk_p0 {Z : sm_Z} {l j : Nat} {As : List wk_V} {m : wk_M} {o : Option ab_A} (h : wC Z l j [] As m (fun r _ => wk_rv o r)) : wC Z l j [] As m (fun r m' => wk_rv o r ∧ m' = m) := h.imp (fun _ _ _ _ hf _ q => ⟨q, wk_fr_nil hf⟩)
theorem wk_pI {Z : sm_Z} {l j : Nat} {As : List wk_V} {m : wk_M} {a b : Int} (h : wC Z l j [] As m (fun r _ => wk_rv (some (.inl (a, b))) r)) : wC Z l j [] As m (fun r m' => ∃ v : Int, r = some (.inl v) ∧ m' = m ∧ (a ≤ v ∧ v ≤ b)) := (wk_p0 h).imp (fun _ _ _ _ _ _ q => by obtain ⟨⟨v, e, x, y⟩, d⟩ := q; exact ⟨v, e, d, x, y⟩)
theorem wk_pL {Z : sm_Z} {l j : Nat} {As : List wk_V} {m : wk_M} (h : wC Z l j [] As m (fun r _ => wk_rv (some (.inr (.inr ()))) r)) : wC Z l j [] As m (fun r m' => ∃ y : Int64, r = some (.inr (.inr y)) ∧ m' = m) := (wk_p0 h).imp (fun _ _ _ _ _ _ q => by obtain ⟨⟨v, e⟩, d⟩ := q; exact ⟨v, e, d⟩)
theorem mo_at {Z : sm_Z} (hZ : Z.2.2.2 = tb_N) (i : Nat) {x : ab_C × ab_N} (h : mo_order[i]? = some x) : ab_ok tb_cl Z tb_ys tb_ws rG x.1 := ab_all_ok hZ (fun _ he => absurd he List.not_mem_nil) mo_order_ok x (List.mem_of_getElem? h)
theorem k93 {Z : sm_Z} (hZ : Z.2.2.2 = tb_N) (m : wk_M) : wC Z 1 93 [] [.inr (.inl 38)] m (fun r m' => ∃ v : Int, r = some (.inl v) ∧ m' = m ∧ (-1 ≤ v ∧ v ≤ 4)) := by
  have h := mo_at hZ 3 rfl
  exact wk_pI (wk_ab (As := [.inr (.inl 38)]) h m ⟨rfl, trivial⟩)
theorem k89 {Z : sm_Z} (hZ : Z.2.2.2 = tb_N) (m : wk_M) : wC Z 4 89 [] [.inr (.inl 38)] m (fun r m' => ∃ v : Int, r = some (.inl v) ∧ m' = m ∧ (0 ≤ v ∧ v ≤ 3)) := by
  have h := mo_at hZ 8 rfl
  exact wk_pI (wk_ab (As := [.inr (.inl 38)]) h m ⟨rfl, trivial⟩)
theorem k84 {Z : sm_Z} (hZ : Z.2.2.2 = tb_N) (m : wk_M) (a b : Int) (a0 : 0 ≤ a) (a1 : a ≤ 4) (b0 : 0 ≤ b) (b1 : b ≤ 4) : wC Z 3 84 [39] [.inr (.inl 38), .inl a, .inl b] m (fun r m' => r = none) := by
  have h := mo_at hZ 4 rfl
  exact wk_ab (As := [.inr (.inl 38), .inl a, .inl b]) h m ⟨rfl, ⟨a0, a1⟩, ⟨b0, b1⟩, trivial⟩
