/-! contracts over ranges -/
def ab_av (a : ab_A) (v : Value) : Prop := match a, v with
  | .inl r, .int n => r.1 ≤ n.toInt ∧ n.toInt ≤ r.2
  | .inr (.inl p), .ref q => q = p
  | .inr (.inr _), .long _ => True
  | _, _ => False
def ab_avl : List ab_A → List Value → Prop
  | [], [] => True
  | a :: t, v :: u => ab_av a v ∧ ab_avl t u
  | _, _ => False
def ab_rv (o : Option ab_A) (r : Option Value) : Prop := match o, r with
  | none, none => True
  | some a, some v => ab_av a v
  | _, _ => False
def ab_ok (cl : List vw_C) (Z : sm_Z) (ys : Nat → MethodName) (wss : Nat → List Cond) (G : ab_G) (e : ab_C) : Prop := ∀ (As : List Value) (ad : Nat → Nat) (μ : sm_M), ab_avl e.2.2.1 As → ab_mu G μ → sm_C cl Z (ys e.1) (wss e.1) (dp_rm e.2.1 (32 * e.2.1) G.2 G.2) As ad G.2 μ (fun r sh' μ' => ab_rv e.2.2.2.1 r ∧ sh' = G.2 ∧ ab_mu G μ' ∧ ab_fr e.2.2.2.2 μ' μ)
theorem ab_sv_td {S : Nat → Int} {Lc : List (Option Value)} : ∀ (n : Nat) {st : List ab_V} {stc : List Value}, ab_sv S Lc st stc → ab_sv S Lc (st.take n) (stc.take n) ∧ ab_sv S Lc (st.drop n) (stc.drop n)
  | 0, st, stc, h => ⟨by simp [ab_sv], by simpa using h⟩
  | n + 1, [], [], _ => ⟨trivial, trivial⟩
  | n + 1, [], _ :: _, h => absurd h (fun z => z)
  | n + 1, _ :: _, [], h => absurd h (fun z => z)
  | n + 1, a :: t, v :: u, h => by
    obtain ⟨h1, h2⟩ := ab_sv_td n h.2
    exact ⟨⟨h.1, h1⟩, h2⟩
theorem ab_sv_snoc {S : Nat → Int} {Lc : List (Option Value)} {a : ab_V} {v : Value} (hv : ab_v S Lc a v) : ∀ {st : List ab_V} {stc : List Value}, ab_sv S Lc st stc → ab_sv S Lc (st ++ [a]) (stc ++ [v])
  | [], [], _ => ⟨hv, trivial⟩
  | [], _ :: _, h => absurd h (fun z => z)
  | _ :: _, [], h => absurd h (fun z => z)
  | _ :: _, _ :: _, h => ⟨h.1, ab_sv_snoc hv h.2⟩
theorem ab_sv_rev {S : Nat → Int} {Lc : List (Option Value)} : ∀ {st : List ab_V} {stc : List Value}, ab_sv S Lc st stc → ab_sv S Lc st.reverse stc.reverse
  | [], [], _ => trivial
  | [], _ :: _, h => absurd h (fun z => z)
  | _ :: _, [], h => absurd h (fun z => z)
  | a :: t, v :: u, h => by
    rw [List.reverse_cons, List.reverse_cons]
    exact ab_sv_snoc h.1 (ab_sv_rev h.2)
theorem ab_sv_len {S : Nat → Int} {Lc : List (Option Value)} : ∀ {st : List ab_V} {stc : List Value}, ab_sv S Lc st stc → stc.length = st.length
  | [], [], _ => rfl
  | [], _ :: _, h => absurd h (fun z => z)
  | _ :: _, [], h => absurd h (fun z => z)
  | a :: t, v :: u, h => by rw [List.length_cons, List.length_cons, ab_sv_len h.2]
theorem ab_sv_sum {S : Nat → Int} {Lc : List (Option Value)} : ∀ {st : List ab_V} {stc : List Value}, ab_sv S Lc st stc → (stc.map fun v => v.category).sum = (st.map ab_cat).sum
  | [], [], _ => rfl
  | [], _ :: _, h => absurd h (fun z => z)
  | _ :: _, [], h => absurd h (fun z => z)
  | a :: t, v :: u, h => by
    rw [List.map_cons, List.map_cons, List.sum_cons, List.sum_cons, ab_sv_sum h.2, ab_v_cat h.1]
theorem ab_fitl_ok {S : Nat → Int} {Lc : List (Option Value)} : ∀ {As : List ab_V} {T : List ab_A} {vs : List Value}, ab_fitl As T = true → ab_sv S Lc As vs → ab_avl T vs
  | [], [], [], _, _ => trivial
  | [], [], _ :: _, _, h => absurd h (fun z => z)
  | [], _ :: _, _, h, _ => by cases h
  | _ :: _, [], _, h, _ => by cases h
  | _ :: _, _ :: _, [], _, h => absurd h (fun z => z)
  | a :: t, b :: u, v :: vs, h, hs => by
    have h : (ab_fits a b && ab_fitl t u) = true := h
    rw [Bool.and_eq_true] at h
    refine ⟨?_, ab_fitl_ok h.2 hs.2⟩
    have h1 := h.1
    have h2 := hs.1
    cases a with
    | inl x =>
      obtain ⟨n, rfl, hn⟩ := ab_v_int h2
      cases b with
      | inl r =>
        have h1 : (decide (r.1 ≤ x.1) && decide (x.2.1 ≤ r.2)) = true := h1
        rw [Bool.and_eq_true] at h1
        exact ⟨Int.le_trans (of_decide_eq_true h1.1) hn.1, Int.le_trans hn.2.1 (of_decide_eq_true h1.2)⟩
      | inr r => cases h1
    | inr a =>
      cases a with
      | inl p =>
        have e := ab_v_ref h2
        subst e
        cases b with
        | inl r => cases h1
        | inr b =>
          cases b with
          | inl q => exact dp_beq h1
          | inr q => cases h1
      | inr p =>
        obtain ⟨n, rfl⟩ := ab_v_long h2
        cases b with
        | inl r => cases h1
        | inr b =>
          cases b with
          | inl q => cases h1
          | inr q => exact trivial
theorem ab_find_ok {j lvl : Nat} {As : List ab_V} : ∀ {CT : List ab_C} {e : ab_C}, ab_find j lvl As CT = some e → e ∈ CT ∧ e.1 = j ∧ e.2.1 + 1 ≤ lvl ∧ ab_fitl As e.2.2.1 = true
  | [], _, h => by cases h
  | c :: t, e, h => by
    unfold ab_find at h
    cases hb : (Nat.beq c.1 j && (Nat.ble (c.2.1 + 1) lvl && ab_fitl As c.2.2.1)) with
    | true =>
      rw [hb] at h
      cases h
      rw [Bool.and_eq_true, Bool.and_eq_true] at hb
      exact ⟨List.mem_cons_self, dp_beq hb.1, Nat.le_of_ble_eq_true hb.2.1, hb.2.2⟩
    | false =>
      rw [hb] at h
      obtain ⟨h1, h2⟩ := ab_find_ok h
      exact ⟨List.mem_cons_of_mem _ h1, h2⟩
theorem ab_of_ok {S : Nat → Int} {Lc : List (Option Value)} {a : ab_A} {v : Value} (h : ab_av a v) : ab_v S Lc (ab_of a) v := by
  cases a with
  | inl r =>
    cases v with
    | int n => exact ⟨h.1, h.2, fun _ _ e => (by cases e), fun _ e => (by cases e)⟩
    | _ => exact absurd h (fun z => z)
  | inr a =>
    cases a with
    | inl p =>
      cases v with
      | ref q => exact h
      | _ => exact absurd h (fun z => z)
    | inr p =>
      cases v with
      | long n => exact trivial
      | _ => exact absurd h (fun z => z)
theorem ab_sub_mem {w w' : List Nat} (h : ab_sub' w w' = true) {p : Nat} (hp : p ∈ w) : p ∈ w' := by
  have h1 := List.all_eq_true.mp h p hp
  obtain ⟨q, hq, e⟩ := List.any_eq_true.mp h1
  rw [dp_beq e]
  exact hq
theorem ab_w_mem {M : ab_M} {p : Nat} (h : ab_w M p = true) : p ∈ M.2.2.2.2 := by
  obtain ⟨q, hq, e⟩ := List.any_eq_true.mp h
  rw [dp_beq e]
  exact hq
theorem ab_mu_ui {G : ab_G} {μ : sm_M} (h : ab_mu G μ) {p i : Nat} {v : Int32} (h1 : (G.1 p i).1 ≤ v.toInt) (h2 : v.toInt ≤ (G.1 p i).2) : ab_mu G (sm_ui μ p i v) := by
  intro q j
  by_cases hq : q = p
  · subst hq
    by_cases hj : j = i
    · subst hj; simpa [sm_ui, upd] using ⟨h1, h2⟩
    · simpa [sm_ui, upd, hj] using h q j
  · simpa [sm_ui, hq] using h q j
theorem ab_fr_ui {W : List Nat} {μ μ0 : sm_M} (h : ab_fr W μ μ0) {p i : Nat} {v : Int32} (hp : p ∈ W) : ab_fr W (sm_ui μ p i v) μ0 := by
  intro q hq
  have hne : q ≠ p := fun e => hq (e ▸ hp)
  simpa [sm_ui, hne] using h q hq
theorem ab_fr_ul {W : List Nat} {μ μ0 : sm_M} (h : ab_fr W μ μ0) {p i : Nat} {v : Int64} (hp : p ∈ W) : ab_fr W (sm_ul μ p i v) μ0 := by
  intro q hq
  have hne : q ≠ p := fun e => hq (e ▸ hp)
  simpa [sm_ul, hne] using h q hq
theorem ab_ar_ok {β : Type} {sh : sm_S} {p kd : Nat} {i : ab_I} {k : Unit → Option β} {y : β} (h : ab_ar sh p kd i k = some y) : ∃ n, sh[p]? = some (.inr (kd, n)) ∧ 0 ≤ i.1 ∧ i.2.1 < (n : Int) ∧ k () = some y := by
  unfold ab_ar at h
  split at h
  · rename_i c n heq
    cases hb : (Nat.beq c kd && (decide (0 ≤ i.1) && decide (i.2.1 < (n : Int)))) with
    | false => rw [hb] at h; cases h
    | true =>
      rw [hb] at h
      rw [Bool.and_eq_true, Bool.and_eq_true] at hb
      have e := dp_beq hb.1
      subst e
      exact ⟨n, heq, of_decide_eq_true hb.2.1, of_decide_eq_true hb.2.2, h⟩
  · cases h
theorem ab_in_ok {S : Nat → Int} {Lc : List (Option Value)} {x : ab_I} {r : Int × Int} {v : Int32} (h : ab_in x r = true) (hx : ab_i S Lc x v) : r.1 ≤ v.toInt ∧ v.toInt ≤ r.2 := by
  unfold ab_in at h
  rw [Bool.and_eq_true] at h
  exact ⟨Int.le_trans (of_decide_eq_true h.1) hx.1, Int.le_trans hx.2.1 (of_decide_eq_true h.2)⟩

