/-! contracts over ranges of the class's Order, as contracts here -/
theorem wk_fr_nil {m' m : wk_M} (h : wk_fr [] m' m) : m' = m := Prod.ext (funext fun p => (h p List.not_mem_nil).1) (funext fun p => (h p List.not_mem_nil).2)
theorem wk_p0 {Z : sm_Z} {l j : Nat} {As : List wk_V} {m : wk_M} {o : Option ab_A} (h : wC Z l j [] As m (fun r _ => wk_rv o r)) : wC Z l j [] As m (fun r m' => wk_rv o r ∧ m' = m) := h.imp (fun _ _ _ _ hf _ q => ⟨q, wk_fr_nil hf⟩)
theorem wk_pI {Z : sm_Z} {l j : Nat} {As : List wk_V} {m : wk_M} {a b : Int} (h : wC Z l j [] As m (fun r _ => wk_rv (some (.inl (a, b))) r)) : wC Z l j [] As m (fun r m' => ∃ v : Int, r = some (.inl v) ∧ m' = m ∧ (a ≤ v ∧ v ≤ b)) := (wk_p0 h).imp (fun _ _ _ _ _ _ q => by obtain ⟨⟨v, e, x, y⟩, d⟩ := q; exact ⟨v, e, d, x, y⟩)
