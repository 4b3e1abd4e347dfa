/-! a contract over ranges, by computation -/
def ab_g1 (a : ab_A) : ab_L := match a with
  | .inr (.inr _) => [some (ab_of a), none]
  | _ => [some (ab_of a)]
def ab_g (args : List ab_A) : ab_L := args.flatMap ab_g1
def ab_L0 (n : Nat) (args : List ab_A) : ab_L := ab_g args ++ List.replicate (n - (ab_g args).length) none
def ab_f (av : List Value) : List (Option Value) := av.flatMap (fun v => if v.category = 2 then [some v, none] else [some v])
theorem ab_av_cat {a : ab_A} {v : Value} (h : ab_av a v) : v.category = (ab_g1 a).length := by
  cases a with
  | inl r =>
    cases v with
    | int n => rfl
    | _ => exact absurd h (fun z => z)
  | inr a =>
    cases a with
    | inl p =>
      cases v with
      | ref q => rfl
      | _ => exact absurd h (fun z => z)
    | inr p =>
      cases v with
      | long n => rfl
      | _ => exact absurd h (fun z => z)
theorem ab_f_len (av : List Value) : (lg_sl av).length = (ab_f av).length := by
  induction av with
  | nil => rfl
  | cons a t ih =>
    simp only [lg_sl, ab_f, List.flatMap_cons, List.length_append] at ih ⊢
    rw [ih]
    split <;> rfl
theorem ab_fl {S : Nat → Int} : ∀ {args : List ab_A} {As : List Value}, ab_avl args As → (ab_f As).length = (ab_g args).length ∧ (∀ (l : Nat) (a : ab_V), (ab_g args)[l]? = some (some a) → ∃ v, (ab_f As)[l]? = some (some v) ∧ ab_v S [] (ab_no a) v) ∧ ∀ l : Nat, (ab_g args)[l]? = some none → (ab_f As)[l]? = some none
  | [], [], _ => ⟨rfl, fun l a h => by simp [ab_g] at h, fun l h => by simp [ab_g] at h⟩
  | [], _ :: _, h => absurd h (fun z => z)
  | _ :: _, [], h => absurd h (fun z => z)
  | a :: t, v :: u, h => by
    obtain ⟨i1, i2, i3⟩ := ab_fl (S := S) h.2
    have hv : ab_v S [] (ab_no (ab_of a)) v := ab_no_any (ab_of_ok (S := S) (Lc := []) h.1)
    have hc := ab_av_cat h.1
    have eg : ab_g (a :: t) = ab_g1 a ++ ab_g t := rfl
    have ef : ab_f (v :: u) = (if v.category = 2 then [some v, none] else [some v]) ++ ab_f u := rfl
    rw [eg, ef]
    by_cases h2 : v.category = 2
    · have e1 : ab_g1 a = [some (ab_of a), none] := by
        cases a with
        | inl r => rw [hc] at h2; cases h2
        | inr a =>
          cases a with
          | inl p => rw [hc] at h2; cases h2
          | inr p => rfl
      rw [if_pos h2, e1]
      refine ⟨by simp [i1], fun l b hb => ?_, fun l hb => ?_⟩
      · match l, hb with
        | 0, hb =>
          have e : ab_of a = b := by simpa using hb
          rw [← e]
          exact ⟨v, rfl, hv⟩
        | 1, hb => simp at hb
        | l + 2, hb =>
          obtain ⟨w, q1, q2⟩ := i2 l b (by simpa using hb)
          exact ⟨w, by simpa using q1, q2⟩
      · match l, hb with
        | 0, hb => simp at hb
        | 1, hb => rfl
        | l + 2, hb => simpa using i3 l (by simpa using hb)
    · have e1 : ab_g1 a = [some (ab_of a)] := by
        cases a with
        | inl r => rfl
        | inr a =>
          cases a with
          | inl p => rfl
          | inr p => exact absurd hc (fun z => h2 z)
      rw [if_neg h2, e1]
      refine ⟨by simp [i1], fun l b hb => ?_, fun l hb => ?_⟩
      · match l, hb with
        | 0, hb =>
          have e : ab_of a = b := by simpa using hb
          rw [← e]
          exact ⟨v, rfl, hv⟩
        | l + 1, hb =>
          obtain ⟨w, q1, q2⟩ := i2 l b (by simpa using hb)
          exact ⟨w, by simpa using q1, q2⟩
      · match l, hb with
        | 0, hb => simp at hb
        | l + 1, hb => simpa using i3 l (by simpa using hb)
theorem ab_L0_ok {S : Nat → Int} {n : Nat} {args : List ab_A} {As : List Value} (h : ab_avl args As) (hn : (ab_g args).length ≤ n) : ab_lv S n (ab_L0 n args) (sm_L0 n As) := by
  obtain ⟨i1, i2, i3⟩ := ab_fl (S := S) h
  have e : sm_L0 n As = ab_f As ++ List.replicate (n - (ab_f As).length) none := rfl
  rw [e, i1]
  unfold ab_L0
  refine ⟨by simp [i1]; omega, by simp; omega, fun l a ha => ?_, fun l ha => ?_⟩
  · by_cases hl : l < (ab_g args).length
    · rw [List.getElem?_append_left hl] at ha
      rw [List.getElem?_append_left (by omega)]
      exact i2 l a ha
    · rw [List.getElem?_append_right (by omega)] at ha
      have := List.eq_of_mem_replicate (List.mem_of_getElem? ha)
      cases this
  · by_cases hl : l < (ab_g args).length
    · rw [List.getElem?_append_left hl] at ha
      rw [List.getElem?_append_left (by omega)]
      exact i3 l ha
    · rw [List.getElem?_append_right (by omega)] at ha ⊢
      rw [i1]
      rw [List.getElem?_replicate] at ha ⊢
      split at ha
      · rename_i hlt
        rw [if_pos hlt]
      · cases ha
def ab_chk (K : dp_K) (G : ab_G) (M : ab_M) (CT : List ab_C) (tb : List (Nat × Instr × Nat)) (H : ab_N) (args : List ab_A) : Bool :=
  Nat.ble (ab_g args).length M.1 && (H.all (fun e => Nat.beq e.2.1.length M.1 && (e.2.2.all (ab_tok e.2.1) && ab_ex K G M CT tb H (some e.2.2) 400 (e.1, ab_self 0 e.2.1, []))) && ab_ex K G M CT tb H none 400 (0, ab_L0 M.1 args, []))
theorem ab_head_mem {pc : Nat} {H : ab_N} {h : ab_H} (hh : ab_head pc H = some h) : (pc, h) ∈ H := by
  induction H with
  | nil => cases hh
  | cons a t ih =>
    obtain ⟨q, j⟩ := a
    have hh : (bif Nat.beq q pc then some j else ab_head pc t) = some h := hh
    cases hb : Nat.beq q pc with
    | false => rw [hb] at hh; exact List.mem_cons_of_mem _ (ih hh)
    | true =>
      rw [hb] at hh
      have e1 := dp_beq hb
      have e2 : j = h := Option.some.inj hh
      rw [e1, e2]
      exact List.mem_cons_self
theorem ab_meth {cl : List vw_C} {Z : sm_Z} {y : MethodName} {cc : ByteArray} {W' : List Cond} {M : ab_M} {G : ab_G} (hG : ab_Gok G) {tb : List (Nat × Instr × Nat)} (hM : ∀ e ∈ tb, decode cc e.1 = .ok e.2) {K : dp_K} {ys : Nat → MethodName} {wss : Nat → List Cond} (hK : dp_Kok cl Z.2.2.2 y.cls W' ys wss K) {CT : List ab_C} (hCT : ∀ e ∈ CT, ab_ok cl Z ys wss G e) (hy : plainName y.cls = true) {H : ab_N} {args : List ab_A} (h : ab_chk K G M CT tb H args = true) (As : List Value) (ad : Nat → Nat) (μ : sm_M) (ha : ab_avl args As) (hm : ab_mu G μ) : sm_C cl Z y (Cond.code y cc M.1 M.2.1 :: W') (dp_rm M.2.2.2.1 (32 * M.2.2.2.1) G.2 G.2) As ad G.2 μ (fun r sh' μ' => ab_rv M.2.2.1 r ∧ sh' = G.2 ∧ ab_mu G μ' ∧ ab_fr M.2.2.2.2 μ' μ) := by
  unfold ab_chk at h
  rw [Bool.and_eq_true, Bool.and_eq_true] at h
  obtain ⟨k1, k2, k3⟩ := h
  have k1 := Nat.le_of_ble_eq_true k1
  have k2 := List.all_eq_true.mp k2
  have hlen : (lg_sl As).length ≤ M.1 := by
    rw [ab_f_len, (ab_fl (S := fun _ => 0) ha).1]
    exact k1
  refine sm_enter hy hlen (fun X hXZ hX hf => ?_)
  subst hXZ
  have hf' : sm_fin cl X ad G.2 0 0 (fun r sh' μ' => ab_rv M.2.2.1 r ∧ sh' = G.2 ∧ ab_mu G μ' ∧ ab_fr M.2.2.2.2 μ' μ) := by
    have e1 : (dp_rm M.2.2.2.1 (32 * M.2.2.2.1) G.2 G.2).cells = 0 := Nat.sub_self _
    have e2 : (dp_rm M.2.2.2.1 (32 * M.2.2.2.1) G.2 G.2).slots = 0 := Nat.sub_self _
    rw [e1, e2] at hf
    exact hf
  have hH : ∀ pc h, ab_head pc H = some h → h.2.all (ab_tok h.1) = true := fun pc h hh => by
    have q := k2 _ (ab_head_mem hh)
    rw [Bool.and_eq_true, Bool.and_eq_true] at q
    exact q.2.1
  have heads : ∀ (N : Nat) (pc : Nat) (h : ab_H), ab_head pc H = some h → ∀ (S' : Nat → Int) (Lc : List (Option Value)) (μ1 : sm_M), ab_lv S' M.1 (ab_self 0 h.1) Lc → ab_mu G μ1 → ab_fr M.2.2.2.2 μ1 μ → ab_enc S' h.2 < N → sm_E cl X pc Lc [] ad G.2 μ1 := by
    intro N
    induction N with
    | zero => intro pc h hh S' Lc μ1 _ _ _ z; exact absurd z (Nat.not_lt_zero _)
    | succ N ih =>
      intro pc h hh S' Lc μ1 gl gm gf z
      have q := k2 _ (ab_head_mem hh)
      rw [Bool.and_eq_true, Bool.and_eq_true] at q
      have tok := List.all_eq_true.mp q.2.1
      exact ab_ex_ok hX hG hK hCT (Nat.le_refl _) (Nat.le_refl _) (Nat.le_add_right _ _) (Nat.le_add_right _ _) hf' hM hH (m0 := some h.2) (S := S') (fun s e => by cases e; exact ⟨fun x hx => (ab_tok_ok gl (tok x hx)).1, fun l c hx => (ab_tok_ok gl (tok _ hx)).2 l c rfl⟩) (fun pc2 h2 hh2 S2 Lc2 μ2 g1 g2 g3 g4 => ih pc2 h2 hh2 S2 Lc2 μ2 g1 g2 g3 (by have g4 : ab_enc S2 h2.2 < ab_enc S' h.2 := g4; omega)) 400 _ q.2.2 Lc [] μ1 gl trivial gm gf
  exact ab_ex_ok hX hG hK hCT (Nat.le_refl _) (Nat.le_refl _) (Nat.le_add_right _ _) (Nat.le_add_right _ _) hf' hM hH (m0 := none) (S := fun _ => 0) (fun s e => by cases e) (fun pc2 h2 hh2 S2 Lc2 μ2 g1 g2 g3 _ => heads _ pc2 h2 hh2 S2 Lc2 μ2 g1 g2 g3 (Nat.lt_succ_self _)) 400 _ k3 _ [] μ (ab_L0_ok ha k1) trivial hm (fun _ _ => ⟨rfl, rfl⟩)
