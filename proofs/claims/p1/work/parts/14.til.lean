/-! a computed stretch inside a walk: until the run stands at a place -/
def dp_sts (stop : Nat) (K : dp_K) (M : dp_M) (cf : dp_F) (s : dp_T) : Option (dp_T ⊕ dp_R) := bif Nat.beq s.1 stop then some (.inl s) else dp_st K M cf s
def dp_til (stop : Nat) (K : dp_K) (M : dp_M) (cf : dp_F) : Nat → dp_T → Option (dp_T ⊕ dp_R)
  | 0, s => dp_sts stop K M cf s
  | k + 1, s => match dp_til stop K M cf k s with
    | some (.inl s') => bif Nat.beq s'.1 stop then some (.inl s') else dp_til stop K M cf k s'
    | some (.inr R) => some (.inr R)
    | none => none
theorem dp_sts_ok {stop : Nat} {cl : List vw_C} {X : sm_X} {cc : ByteArray} {own : String} {Ts : List Cond} {rm : Room} {N S : Nat} {M : dp_M} (hX : sm_ok cl X cc M.2.1 own Ts M.2.2.1 rm N S M.2.2.2) (hM : ∀ e ∈ M.1, decode cc e.1 = .ok e.2) {K : dp_K} {ys : Nat → MethodName} {wss : Nat → List Cond} {cf : dp_F} {fr lo : Nat} (hK : dp_Kok cl X.1.2.2.2 own Ts ys wss K) (hcf : dp_cfok cl X.1 ys wss fr lo cf) (hfr : fr + 1 ≤ rm.frames) (hlo : 32 + lo ≤ rm.locals) {ad0 : Nat → Nat} {sh0 : sm_S} {μ0 : sm_M} {s : dp_T} {o : dp_T ⊕ dp_R} (h : dp_sts stop K M cf s = some o) : (s.2.2.2.1.length ≤ (dp_shp o).length ∧ sm_sl s.2.2.2.1 ≤ sm_sl (dp_shp o)) ∧ ((dp_shp o).length ≤ N → sm_sl (dp_shp o) ≤ S → dp_End cl X ad0 sh0 μ0 o → dp_J cl X ad0 sh0 μ0 s) := by
  unfold dp_sts at h
  cases hb : Nat.beq s.1 stop with
  | true =>
    rw [hb] at h
    cases h
    exact ⟨⟨Nat.le_refl _, Nat.le_refl _⟩, fun _ _ z => z⟩
  | false =>
    rw [hb] at h
    exact dp_st_ok hX hM hK hcf hfr hlo h
theorem dp_til_ok {stop : Nat} {cl : List vw_C} {X : sm_X} {cc : ByteArray} {own : String} {Ts : List Cond} {rm : Room} {N S : Nat} {M : dp_M} (hX : sm_ok cl X cc M.2.1 own Ts M.2.2.1 rm N S M.2.2.2) (hM : ∀ e ∈ M.1, decode cc e.1 = .ok e.2) {K : dp_K} {ys : Nat → MethodName} {wss : Nat → List Cond} {cf : dp_F} {fr lo : Nat} (hK : dp_Kok cl X.1.2.2.2 own Ts ys wss K) (hcf : dp_cfok cl X.1 ys wss fr lo cf) (hfr : fr + 1 ≤ rm.frames) (hlo : 32 + lo ≤ rm.locals) {ad0 : Nat → Nat} {sh0 : sm_S} {μ0 : sm_M} : ∀ (k : Nat) (s : dp_T) (o : dp_T ⊕ dp_R), dp_til stop K M cf k s = some o → (s.2.2.2.1.length ≤ (dp_shp o).length ∧ sm_sl s.2.2.2.1 ≤ sm_sl (dp_shp o)) ∧ ((dp_shp o).length ≤ N → sm_sl (dp_shp o) ≤ S → dp_End cl X ad0 sh0 μ0 o → dp_J cl X ad0 sh0 μ0 s)
  | 0, s, o, h => dp_sts_ok hX hM hK hcf hfr hlo h
  | k + 1, s, o, h => by
    unfold dp_til at h
    split at h
    · rename_i s' hs
      cases hb : Nat.beq s'.1 stop with
      | true =>
        rw [hb] at h
        cases h
        exact dp_til_ok hX hM hK hcf hfr hlo k s _ hs
      | false =>
        rw [hb] at h
        obtain ⟨⟨a1, a2⟩, a3⟩ := dp_til_ok hX hM hK hcf hfr hlo k s _ hs
        obtain ⟨⟨b1, b2⟩, b3⟩ := dp_til_ok hX hM hK hcf hfr hlo k s' o h
        simp only [dp_shp] at a1 a2 a3
        exact ⟨⟨Nat.le_trans a1 b1, Nat.le_trans a2 b2⟩, fun z1 z2 z3 => a3 (Nat.le_trans b1 z1) (Nat.le_trans b2 z2) (b3 z1 z2 z3)⟩
    · rename_i R hs
      cases h
      exact dp_til_ok hX hM hK hcf hfr hlo k s _ hs
    · cases h
/-- of method j, at level n + 1, from s until 'stop' -/
def ev_T (n j stop : Nat) (q : Nat × Option FieldType × Bool) (s : dp_T) : Option (dp_T ⊕ dp_R) := dp_o (dp_lk tb_rec j) fun e => dp_g (decide (e.2.2 = q)) (dp_til stop e.1 e.2 (tb_cf n) 16 s)
def ev_getT (o : Option (dp_T ⊕ dp_R)) : dp_P × dp_w := match o with
  | some (.inl s) => s.2.2.2.2
  | _ => ((fun _ _ => none, fun _ _ => none), dp_w0)
def ev_okT (o : Option (dp_T ⊕ dp_R)) (pc : Nat) (L : List (Option Value)) (st : List Value) (sh : sm_S) : Bool := match o with
  | some (.inl s) => Nat.beq s.1 pc && (decide (s.2.1 = L) && (decide (s.2.2.1 = st) && decide (s.2.2.2.1 = sh)))
  | _ => false
theorem ev_okT_ok {o : Option (dp_T ⊕ dp_R)} {pc : Nat} {L : List (Option Value)} {st : List Value} {sh : sm_S} (h : ev_okT o pc L st sh = true) : o = some (.inl (pc, L, st, sh, (ev_getT o).1, (ev_getT o).2)) := by
  unfold ev_okT at h
  split at h
  · rename_i s
    obtain ⟨a, b, c, d, e, f⟩ := s
    rw [Bool.and_eq_true, Bool.and_eq_true, Bool.and_eq_true] at h
    obtain ⟨h1, h2, h3, h4⟩ := h
    have e1 := dp_beq h1
    have e2 := of_decide_eq_true h2
    have e3 := of_decide_eq_true h3
    have e4 := of_decide_eq_true h4
    simp only at e1 e2 e3 e4
    subst e1 e2 e3 e4
    rfl
  · cases h
/-- a stretch that makes no cell -/
theorem ev_T_E {Z : sm_Z} (hZ : Z.2.2.2 = tb_N) {X : sm_X} (hXZ : X.1 = Z) {n j stop : Nat} {cc : ByteArray} {nL : Nat} {own : String} {ret : Option FieldType} {rm : Room} {N S : Nat} {ini : Bool} (hX : sm_ok tb_cl X cc nL own tb_W ret rm N S ini) (hj : (tb_m j).2.1 = cc ∧ (tb_ys j).cls = own) (hfr : n + 1 ≤ rm.frames) (hlo : 32 + 32 * n ≤ rm.locals) {pc : Nat} {L L' : List (Option Value)} {st st' : List Value} {sh : sm_S} {P : dp_P} (hN : sh.length ≤ N) (hS : sm_sl sh ≤ S) (h : ev_okT (ev_T n j stop (nL, ret, ini) (pc, L, st, sh, P, dp_w0)) stop L' st' sh = true) {ad : Nat → Nat} {μ : sm_M} (hle : dp_le P μ) (k : ∀ μ' : sm_M, dp_le (ev_getT (ev_T n j stop (nL, ret, ini) (pc, L, st, sh, P, dp_w0))).1 μ' → dp_ou (ev_getT (ev_T n j stop (nL, ret, ini) (pc, L, st, sh, P, dp_w0))).2 μ' μ → sm_E tb_cl X stop L' st' ad sh μ') : sm_E tb_cl X pc L st ad sh μ := by
  have h1 := ev_okT_ok h
  obtain ⟨⟨K, M⟩, he, h1'⟩ := dp_o_ok h1
  obtain ⟨hjm, h2⟩ := dp_g_ok h1'
  have hjm := of_decide_eq_true hjm
  obtain ⟨g1, g2, g3, g4, g5⟩ := tb_rec_ok _ (dp_lk_mem he)
  simp only at g1 g2 g3 g4 g5 h2 hjm
  obtain ⟨hj1, hj2⟩ := hj
  subst hXZ hj1 hj2
  obtain ⟨tb, a, b, c⟩ := M
  simp only at hjm
  cases hjm
  have h3 := (dp_til_ok (ad0 := ad) (sh0 := sh) (μ0 := μ) hX g2 (hZ ▸ g1) (tb_cfok hZ tb_prs n) hfr hlo 16 _ _ h2).2 hN hS
  refine h3 ?_ ad μ hle dp_ou.rf (fun _ _ => rfl) (Nat.le_refl _)
  intro ad' μ' a1 a2 a3 a4
  have e : ad' = ad := sm_ag_eq a3
  subst e
  exact k μ' a1 a2
