theorem ab_tok_ok {S : Nat → Int} {n : Nat} {h : ab_L} {Lc : List (Option Value)} (hA : ab_lv S n (ab_self 0 h) Lc) {t : ab_Tm} (ht : ab_tok h t = true) : ab_tv S t < 4294967296 ∧ ∀ l c, t = .inr (l, c) → S l ≤ c := by
  cases t with
  | inl a =>
    have ht := Nat.le_of_ble_eq_true ht
    refine ⟨?_, fun l c e => by cases e⟩
    show a < 4294967296
    omega
  | inr q =>
    obtain ⟨l, c⟩ := q
    unfold ab_tok at ht
    simp only at ht
    split at ht
    · rename_i x hx
      rw [Bool.and_eq_true, Bool.and_eq_true] at ht
      have z1 := of_decide_eq_true ht.1
      have z2 := of_decide_eq_true ht.2.1
      have z3 := of_decide_eq_true ht.2.2
      have hs : (ab_self 0 h)[l]? = some (some (.inl (x.1, x.2.1, some (l, 0), none))) := by
        rw [ab_self_at, hx, Nat.zero_add]
        rfl
      obtain ⟨v, hv, hav⟩ := hA.2.2.1 _ _ hs
      obtain ⟨m, rfl, i1⟩ := ab_v_int hav
      have hr : m.toInt = S l + 0 := i1.2.2.1 l 0 rfl
      have a1 : x.1 ≤ m.toInt := i1.1
      have a2 : m.toInt ≤ x.2.1 := i1.2.1
      refine ⟨?_, fun l' c' e => by cases e; omega⟩
      show (c - S l).toNat < 4294967296
      omega
    · cases ht
def ab_msr (m0 : Option (List ab_Tm)) (S S' : Nat → Int) (t : List ab_Tm) : Prop := match m0 with
  | none => True
  | some s => ab_enc S' t < ab_enc S s
theorem ab_ret_ok {cl : List vw_C} {X : sm_X} {cc : ByteArray} {own : String} {Ts : List Cond} {rm : Room} {N Sz : Nat} {ini : Bool} {M : ab_M} (hX : sm_ok cl X cc M.1 own Ts M.2.1 rm N Sz ini) {G : ab_G} {ad : Nat → Nat} {μ0 : sm_M} (hf : sm_fin cl X ad G.2 0 0 (fun r sh' μ' => ab_rv M.2.2.1 r ∧ sh' = G.2 ∧ ab_mu G μ' ∧ ab_fr M.2.2.2.2 μ' μ0)) {S : Nat → Int} {pc len : Nat} {ins : Instr} (d : decode cc pc = .ok (ins, len)) {A : ab_L} {st : List ab_V} (h : ab_rt M st ins len = some true) : ab_J cl X G M ad μ0 S (pc, A, st) := by
  cases ins with
  | ireturn =>
    have ha := Option.some.inj h
    clear h
    rw [Bool.and_eq_true] at ha
    obtain ⟨hl, h⟩ := ha
    have hl2 := dp_beq hl
    clear hl
    subst hl2
    split at h
    · rename_i x r e1 e2
      intro Lc stc μ gl gs gm gf
      obtain ⟨v, u, rfl, cv, g2⟩ := ab_sv_cons gs
      obtain ⟨n, rfl, i1⟩ := ab_v_int cv
      cases u with
      | cons a b => exact absurd g2 (fun z => z)
      | nil => exact sm_iret hX hf rfl rfl (fun _ _ => rfl) e2 d ⟨by rw [e1]; exact ab_in_ok h i1, rfl, gm, gf⟩
    · rename_i x r e1 e2
      rw [Bool.and_eq_true] at h
      intro Lc stc μ gl gs gm gf
      obtain ⟨v, u, rfl, cv, g2⟩ := ab_sv_cons gs
      obtain ⟨n, rfl, i1⟩ := ab_v_int cv
      have bb := ab_bit_ok i1 h.2
      cases u with
      | cons a b => exact absurd g2 (fun z => z)
      | nil => exact sm_zret hX hf rfl rfl (fun _ _ => rfl) e2 (by rcases ab_bits bb.1 bb.2 with rfl | rfl <;> rfl) d ⟨by rw [e1]; exact ab_in_ok h.1 i1, rfl, gm, gf⟩
    · cases h
  | lreturn =>
    have ha := Option.some.inj h
    clear h
    rw [Bool.and_eq_true] at ha
    obtain ⟨hl, h⟩ := ha
    have hl2 := dp_beq hl
    clear hl
    subst hl2
    split at h
    · rename_i x r e1 e2
      intro Lc stc μ gl gs gm gf
      obtain ⟨v, u, rfl, cv, g2⟩ := ab_sv_cons gs
      obtain ⟨n, rfl⟩ := ab_v_long cv
      cases u with
      | cons a b => exact absurd g2 (fun z => z)
      | nil => exact sm_lret hX hf rfl rfl (fun _ _ => rfl) e2 d ⟨by rw [e1]; exact trivial, rfl, gm, gf⟩
    · cases h
  | return_ =>
    have ha := Option.some.inj h
    clear h
    rw [Bool.and_eq_true] at ha
    obtain ⟨hl, h⟩ := ha
    have hl2 := dp_beq hl
    clear hl
    subst hl2
    split at h
    · rename_i e1 e2
      intro Lc stc μ gl gs gm gf
      cases stc with
      | cons a b => exact absurd gs (fun z => z)
      | nil => exact sm_vret hX hf rfl rfl (fun _ _ => rfl) e2 d ⟨by rw [e1]; exact trivial, rfl, gm, gf⟩
    · cases h
  | _ => exact absurd h (by intro h; cases h)
theorem ab_ex_ok {cl : List vw_C} {X : sm_X} {cc : ByteArray} {own : String} {Ts : List Cond} {rm : Room} {N Sz : Nat} {ini : Bool} {M : ab_M} (hX : sm_ok cl X cc M.1 own Ts M.2.1 rm N Sz ini) {G : ab_G} (hG : ab_Gok G) {K : dp_K} {ys : Nat → MethodName} {wss : Nat → List Cond} (hK : dp_Kok cl X.1.2.2.2 own Ts ys wss K) {CT : List ab_C} (hCT : ∀ e ∈ CT, ab_ok cl X.1 ys wss G e) (hfr : M.2.2.2.1 ≤ rm.frames) (hlo : 32 * M.2.2.2.1 ≤ rm.locals) (hN : G.2.length ≤ N) (hSz : sm_sl G.2 ≤ Sz) {ad : Nat → Nat} {μ0 : sm_M} (hf : sm_fin cl X ad G.2 0 0 (fun r sh' μ' => ab_rv M.2.2.1 r ∧ sh' = G.2 ∧ ab_mu G μ' ∧ ab_fr M.2.2.2.2 μ' μ0)) {tb : List (Nat × Instr × Nat)} (hM : ∀ e ∈ tb, decode cc e.1 = .ok e.2) {H : ab_N} (hH : ∀ pc h, ab_head pc H = some h → h.2.all (ab_tok h.1) = true) {m0 : Option (List ab_Tm)} {S : Nat → Int} (hm : ∀ s, m0 = some s → (∀ x ∈ s, ab_tv S x < 4294967296) ∧ ∀ l c, .inr (l, c) ∈ s → S l ≤ c)
    (heads : ∀ (pc : Nat) (h : ab_H), ab_head pc H = some h → ∀ (S' : Nat → Int) (Lc : List (Option Value)) (μ : sm_M), ab_lv S' M.1 (ab_self 0 h.1) Lc → ab_mu G μ → ab_fr M.2.2.2.2 μ μ0 → ab_msr m0 S S' h.2 → sm_E cl X pc Lc [] ad G.2 μ) : ∀ (n : Nat) (a : ab_T), ab_ex K G M CT tb H m0 n a = true → ab_J cl X G M ad μ0 S a
  | 0, _, h => by cases h
  | n + 1, a, h => by
    obtain ⟨pc, A, st⟩ := a
    unfold ab_ex at h
    split at h
    · cases h
    · rename_i i hi
      obtain ⟨ins, len⟩ := i
      have d := hM _ (dp_find_mem hi)
      simp only at h d
      split at h
      · rename_i b hb
        subst h
        exact ab_ret_ok hX hf d hb
      · split at h
        · cases h
        · rename_i l hl
          refine ab_st_ok hX hG hK hCT hfr hlo hN hSz d hl (fun a' ha' => ?_)
          have h1 := List.all_eq_true.mp h a' ha'
          split at h1
          · rename_i hd hhd
            obtain ⟨pc', A', st'⟩ := a'
            unfold ab_arr at h1
            rw [Bool.and_eq_true, Bool.and_eq_true, Bool.and_eq_true] at h1
            obtain ⟨k1, k2, k3, k4⟩ := h1
            have k1 : st' = [] := List.isEmpty_iff.mp k1
            subst k1
            have k3 := dp_beq k3
            simp only at k2 k4 hhd
            intro Lc stc μ gl gs gm gf
            cases stc with
            | cons a b => exact absurd gs (fun z => z)
            | nil =>
              have arr := ab_arrive gl k3 k2
              have tok := List.all_eq_true.mp (hH _ _ hhd)
              refine sm_E.less (ab_drop_less k3 gl.1) (heads pc' hd hhd (ab_val Lc) _ μ arr gm gf ?_)
              cases m0 with
              | none => exact trivial
              | some s =>
                obtain ⟨b1, b2⟩ := hm s rfl
                exact (ab_fall_ok gl (fun l x _ => rfl) k4 b1 (fun x hx => (ab_tok_ok arr (tok x hx)).1) b2 (fun l c hx => (ab_tok_ok arr (tok _ hx)).2 l c rfl)).1
          · exact ab_ex_ok hX hG hK hCT hfr hlo hN hSz hf hM hH hm heads n a' h1
