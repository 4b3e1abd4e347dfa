/-! the unfolded Prop is enough: helpers -/
theorem wk_1i_ok {st : List wk_V} {k : Int → List wk_V → Prop} (h : wk_1i st k) : ∃ x r, st = .inl x :: r ∧ k x r := by
  unfold wk_1i at h
  split at h
  · exact ⟨_, _, rfl, h⟩
  · exact h.elim
theorem wk_1l_ok {st : List wk_V} {k : Int64 → List wk_V → Prop} (h : wk_1l st k) : ∃ x r, st = .inr (.inr x) :: r ∧ k x r := by
  unfold wk_1l at h
  split at h
  · exact ⟨_, _, rfl, h⟩
  · exact h.elim
theorem wk_1r_ok {st : List wk_V} {k : Nat → List wk_V → Prop} (h : wk_1r st k) : ∃ x r, st = .inr (.inl x) :: r ∧ k x r := by
  unfold wk_1r at h
  split at h
  · exact ⟨_, _, rfl, h⟩
  · exact h.elim
theorem wk_1v_ok {st : List wk_V} {k : wk_V → List wk_V → Prop} (h : wk_1v st k) : ∃ x r, st = x :: r ∧ k x r := by
  unfold wk_1v at h
  split at h
  · exact ⟨_, _, rfl, h⟩
  · exact h.elim
theorem wk_g_ok {b : Bool} {P : Prop} (h : wk_g b P) : b = true ∧ P := by
  cases b with
  | true => exact ⟨rfl, h⟩
  | false => exact (show False from h).elim
theorem wk_o_ok {α : Type} {o : Option α} {k : α → Prop} (h : wk_o o k) : ∃ a, o = some a ∧ k a := by
  cases o with
  | some a => exact ⟨a, rfl, h⟩
  | none => exact (show False from h).elim
theorem wk_gt_ok : ∀ {L : wk_L} {i : Nat} {k : wk_V → Prop}, wk_gt L i k → ∃ v, L[i]? = some (some v) ∧ k v
  | [], 0, k, h => (show False from h).elim
  | [], i + 1, k, h => (show False from h).elim
  | some v :: t, 0, k, h => ⟨v, rfl, h⟩
  | none :: t, 0, k, h => (show False from h).elim
  | a :: t, i + 1, k, h => by
    have h : wk_gt t i k := by cases a <;> exact h
    obtain ⟨v, h1, h2⟩ := wk_gt_ok h
    exact ⟨v, by simpa using h1, h2⟩
theorem wk_st_ok : ∀ {L : wk_L} {i : Nat} {v : Option wk_V} {k : wk_L → Prop}, wk_st L i v k → i < L.length ∧ k (L.set i v)
  | [], 0, v, k, h => (show False from h).elim
  | [], i + 1, v, k, h => (show False from h).elim
  | a :: t, 0, v, k, h => ⟨by simp, h⟩
  | a :: t, i + 1, v, k, h => by
    have h : wk_st t i v (fun t' => k (a :: t')) := h
    obtain ⟨h1, h2⟩ := wk_st_ok h
    exact ⟨by simpa using h1, h2⟩
theorem wk_tk_ok : ∀ {n : Nat} {st acc : List wk_V} {k : List wk_V → List wk_V → Prop}, wk_tk n st acc k → ∃ T r, st = T ++ r ∧ T.length = n ∧ k (T.reverse ++ acc) r
  | 0, st, acc, k, h => ⟨[], st, rfl, rfl, h⟩
  | n + 1, [], acc, k, h => (show False from h).elim
  | n + 1, a :: t, acc, k, h => by
    have h : wk_tk n t (a :: acc) k := h
    obtain ⟨T, r, h1, h2, h3⟩ := wk_tk_ok h
    exact ⟨a :: T, r, by rw [h1]; rfl, by rw [List.length_cons, h2], by rw [List.reverse_cons, List.append_assoc]; exact h3⟩
theorem wk_tg_ok {pc : Nat} {off : Int} {k : Nat → Prop} (h : wk_tg pc off k) : ∃ n : Nat, (pc : Int) + off = (n : Int) ∧ k n := by
  unfold wk_tg at h
  split at h
  · exact ⟨_, by assumption, h⟩
  · exact h.elim
theorem wk_ti {n : Int} (h : ab_lo ≤ n ∧ n ≤ ab_hi) : (Int32.ofInt n).toInt = n := by
  rw [Int32.toInt_ofInt]
  exact ab_bm h.1 h.2
theorem wk_ex_ok {u : Int32} {k : Int → Prop} (h : wk_ex u k) : k u.toInt := h _ rfl (ab_min u) (ab_max u)
theorem wk_io (u : Int32) : Int32.ofInt u.toInt = u := Int32.ofInt_toInt u
theorem wk_ar_ok {e : Int} {k : Int → Prop} (h : wk_ar e k) : ∃ z, Int32.ofInt z = Int32.ofInt e ∧ ab_lo ≤ z ∧ z ≤ ab_hi ∧ k z := by
  rcases h with ⟨h1, h2, h3⟩ | h
  · exact ⟨e, rfl, h1, h2, h3⟩
  · exact ⟨_, wk_io _, ab_min _, ab_max _, h _ rfl (ab_min _) (ab_max _)⟩
theorem wk_eqI {x y : Int} (hx : ab_lo ≤ x ∧ x ≤ ab_hi) (hy : ab_lo ≤ y ∧ y ≤ ab_hi) : Int32.ofInt x = Int32.ofInt y ↔ x = y := by
  constructor
  · intro h
    have := congrArg Int32.toInt h
    rwa [wk_ti hx, wk_ti hy] at this
  · intro h
    rw [h]
theorem wk_ltI {x y : Int} (hx : ab_lo ≤ x ∧ x ≤ ab_hi) (hy : ab_lo ≤ y ∧ y ≤ ab_hi) : Int32.ofInt x < Int32.ofInt y ↔ x < y := by
  rw [Int32.lt_iff_toInt_lt, wk_ti hx, wk_ti hy]
theorem wk_leI {x y : Int} (hx : ab_lo ≤ x ∧ x ≤ ab_hi) (hy : ab_lo ≤ y ∧ y ≤ ab_hi) : Int32.ofInt x ≤ Int32.ofInt y ↔ x ≤ y := by
  rw [Int32.le_iff_toInt_le, wk_ti hx, wk_ti hy]
theorem wk_z0 : (0 : Int32) = Int32.ofInt 0 := by decide
theorem wk_v0 : ab_lo ≤ (0 : Int) ∧ (0 : Int) ≤ ab_hi := by decide
theorem wk_lc_at {L : wk_L} {i : Nat} {v : wk_V} (h : L[i]? = some (some v)) : (wk_lc L)[i]? = some (some (wk_c v)) := by
  unfold wk_lc
  rw [List.getElem?_map, h]
  rfl
theorem wk_lc_set {L : wk_L} {i : Nat} {o : Option wk_V} : wk_lc (L.set i o) = (wk_lc L).set i (o.map wk_c) := by
  unfold wk_lc
  rw [List.map_set]
theorem wk_lv_set {L : wk_L} {i : Nat} {v : wk_V} (h : wk_lv L) (hv : wk_v v) : wk_lv (L.set i (some v)) := by
  intro j u hj
  by_cases e : j = i
  · subst e
    by_cases hl : j < L.length
    · rw [List.getElem?_set_self hl] at hj
      cases hj
      exact hv
    · rw [List.getElem?_eq_none (by rw [List.length_set]; omega)] at hj
      cases hj
  · rw [List.getElem?_set_ne (Ne.symm e)] at hj
    exact h j u hj
theorem wk_lv_none {L : wk_L} {i : Nat} (h : wk_lv L) : wk_lv (L.set i none) := by
  intro j u hj
  by_cases e : j = i
  · subst e
    by_cases hl : j < L.length
    · rw [List.getElem?_set_self hl] at hj
      cases hj
    · rw [List.getElem?_eq_none (by rw [List.length_set]; omega)] at hj
      cases hj
  · rw [List.getElem?_set_ne (Ne.symm e)] at hj
    exact h j u hj
theorem wk_cat_ok (a : wk_V) : (wk_c a).category = wk_cat a := by
  rcases a with x | p | y <;> rfl
theorem wk_cats_ok : ∀ st : List wk_V, ((st.map wk_c).map fun v => v.category).sum = wk_cats st
  | [] => rfl
  | a :: t => by
    rw [List.map_cons, List.map_cons, List.sum_cons, wk_cats_ok t, wk_cat_ok]
    rfl
theorem wk_rdN {μ : sm_M} {m : wk_M} (e : wk_of μ = m) (p k : Nat) : m.1 p (k : Nat) = (μ.1 p k).toInt := by
  subst e
  have h : ¬ ((k : Int) < 0) := by omega
  simp [wk_of, h]
theorem wk_rdI {μ : sm_M} {m : wk_M} (e : wk_of μ = m) (p : Nat) {i : Int} (hi : 0 ≤ i) : m.1 p i = (μ.1 p i.toNat).toInt := by
  subst e
  have h : ¬ (i < 0) := by omega
  simp [wk_of, h]
theorem wk_rdL {μ : sm_M} {m : wk_M} (e : wk_of μ = m) (p : Nat) {i : Int} (hi : 0 ≤ i) : m.2 p i = μ.2 p i.toNat := by
  subst e
  have h : ¬ (i < 0) := by omega
  simp [wk_of, h]
theorem wk_of_ui {μ : sm_M} {m : wk_M} (e : wk_of μ = m) (p k : Nat) {x : Int} (hx : ab_lo ≤ x ∧ x ≤ ab_hi) : wk_of (sm_ui μ p k (Int32.ofInt x)) = wk_u m p (k : Nat) x := by
  subst e
  unfold wk_of wk_u
  refine Prod.ext (funext fun q => funext fun j => ?_) rfl
  show (if j < 0 then 0 else ((sm_ui μ p k (Int32.ofInt x)).1 q j.toNat).toInt) = if q = p ∧ j = (k : Int) then x else if j < 0 then 0 else (μ.1 q j.toNat).toInt
  by_cases hj : j < 0
  · rw [if_pos hj, if_neg (by omega), if_pos hj]
  · rw [if_neg hj]
    by_cases hq : q = p
    · subst hq
      by_cases hk : j = (k : Int)
      · subst hk
        simp [sm_ui, upd, wk_ti hx]
      · have hk2 : j.toNat ≠ k := by omega
        rw [if_neg (fun z => hk z.2), if_neg hj]
        simp [sm_ui, upd, hk2]
    · rw [if_neg (fun z => hq z.1), if_neg hj]
      simp [sm_ui, hq]
theorem wk_of_ul {μ : sm_M} {m : wk_M} (e : wk_of μ = m) (p k : Nat) (x : Int64) : wk_of (sm_ul μ p k x) = wk_ul m p (k : Nat) x := by
  subst e
  unfold wk_of wk_ul
  refine Prod.ext rfl (funext fun q => funext fun j => ?_)
  show (if j < 0 then 0 else (sm_ul μ p k x).2 q j.toNat) = if q = p ∧ j = (k : Int) then x else if j < 0 then 0 else μ.2 q j.toNat
  by_cases hj : j < 0
  · rw [if_pos hj, if_neg (by omega), if_pos hj]
  · rw [if_neg hj]
    by_cases hq : q = p
    · subst hq
      by_cases hk : j = (k : Int)
      · subst hk
        simp [sm_ul, vp_updL]
      · have hk2 : j.toNat ≠ k := by omega
        rw [if_neg (fun z => hk z.2), if_neg hj]
        simp [sm_ul, vp_updL, hk2]
    · rw [if_neg (fun z => hq z.1), if_neg hj]
      simp [sm_ul, hq]
theorem wk_cmpn {i : Int} (h : ab_lo ≤ i ∧ i ≤ ab_hi) : (Int32.ofInt i).toNatClampNeg = i.toNat := by
  show (Int32.ofInt i).toInt.toNat = i.toNat
  rw [wk_ti h]
theorem wk_vin {i : Int} {n : Nat} (h : ab_lo ≤ i ∧ i ≤ ab_hi) (h1 : 0 ≤ i) (h2 : i < (n : Int)) : vp_in (Int32.ofInt i) n := (ab_clamp (i := Int32.ofInt i) (n := n) (by rw [wk_ti h]; exact h1) (by rw [wk_ti h]; exact h2)).1
theorem wk_ob_ok {sh : sm_S} {p ci : Nat} {k : List (Option (Option Nat)) → Prop} (h : wk_ob sh p ci k) : ∃ fs, sh[p]? = some (.inl (ci, fs)) ∧ k fs := by
  unfold wk_ob at h
  split at h
  · rename_i c fs heq
    obtain ⟨h1, h2⟩ := wk_g_ok h
    have e := dp_beq h1
    subst e
    exact ⟨fs, heq, h2⟩
  · exact h.elim
theorem wk_ai_ok {sh : sm_S} {p kd : Nat} {i : Int} {k : Prop} (h : wk_ai sh p kd i k) : ∃ n, sh[p]? = some (.inr (kd, n)) ∧ 0 ≤ i ∧ i < (n : Int) ∧ k := by
  unfold wk_ai at h
  split at h
  · rename_i c n heq
    obtain ⟨h1, h2⟩ := wk_g_ok h
    have e := dp_beq h1
    subst e
    exact ⟨n, heq, h2⟩
  · exact h.elim
theorem wk_any {W : List Nat} {p : Nat} (h : (W.any fun q => Nat.beq p q) = true) : p ∈ W := by
  obtain ⟨q, hq, e⟩ := List.any_eq_true.mp h
  rw [dp_beq e]
  exact hq
theorem wk_tb_ok {pc : Nat} {x : Int} {k : Nat → Prop} : ∀ {lo : Int} {offs : List Int}, wk_tb pc x k lo offs → ∀ (n : Nat) (o : Int), offs[n]? = some o → x = lo + (n : Int) → wk_tg pc o k
  | lo, [], _, n, o, h, _ => by simp at h
  | lo, a :: t, hh, 0, o, h, e => by
    have hh : (x = lo → wk_tg pc a k) ∧ wk_tb pc x k (lo + 1) t := hh
    have e2 : a = o := by simpa using h
    rw [← e2]
    exact hh.1 (by omega)
  | lo, a :: t, hh, n + 1, o, h, e => by
    have hh : (x = lo → wk_tg pc a k) ∧ wk_tb pc x k (lo + 1) t := hh
    exact wk_tb_ok hh.2 n o (by simpa using h) (by omega)
theorem wk_sv_app : ∀ {s t : List wk_V}, wk_sv (s ++ t) → wk_sv s ∧ wk_sv t
  | [], t, h => ⟨trivial, h⟩
  | a :: s, t, h => by
    obtain ⟨h1, h2⟩ := wk_sv_app (s := s) h.2
    exact ⟨⟨h.1, h1⟩, h2⟩
theorem wk_sv_app' : ∀ {s t : List wk_V}, wk_sv s → wk_sv t → wk_sv (s ++ t)
  | [], t, _, h => h
  | a :: s, t, h, h2 => ⟨h.1, wk_sv_app' h.2 h2⟩
theorem wk_sv_rev : ∀ {s : List wk_V}, wk_sv s → wk_sv s.reverse
  | [], _ => trivial
  | a :: s, h => by
    rw [List.reverse_cons]
    exact wk_sv_app' (wk_sv_rev h.2) ⟨h.1, trivial⟩
theorem wk_cu_ok : ∀ {us : List (Nat × (Nat ⊕ Int) × Int)} {m : wk_M} {k : wk_M → Prop}, wk_cu us m k → k (wk_mu m us)
  | [], m, k, h => h
  | (p, .inl i, v) :: t, m, k, h => by
    have h : wk_cu t m (fun m' => k (wk_u m' p (i : Nat) v)) := h
    exact wk_cu_ok (us := t) (k := fun m' => k (wk_u m' p (i : Nat) v)) h
  | (p, .inr i, v) :: t, m, k, h => by
    have h : wk_cu t m (fun m' => k (wk_u m' p i v)) := h
    exact wk_cu_ok (us := t) (k := fun m' => k (wk_u m' p i v)) h
theorem wk_cg_ok : ∀ {gl : List (Nat × Int × Int64)} {m : wk_M} {k : wk_M → Prop}, wk_cg gl m k → k (wk_mg m gl)
  | [], m, k, h => h
  | (p, i, v) :: t, m, k, h => by
    have h : wk_cg t m (fun m' => k (wk_ul m' p i v)) := h
    exact wk_cg_ok (gl := t) (k := fun m' => k (wk_ul m' p i v)) h
theorem wk_co_ok {n : wk_N} {k : wk_M → Prop} (h : wk_co n k) : k (wk_mk n) := by
  obtain ⟨m, us, gl⟩ := n
  have h : wk_cu us m (fun m' => wk_cg gl m' k) := h
  exact wk_cg_ok (wk_cu_ok h)
theorem wk_mg_1 : ∀ (m : wk_M) (gl : List (Nat × Int × Int64)), (wk_mg m gl).1 = m.1
  | m, [] => rfl
  | m, u :: t => by
    show (wk_mg m t).1 = m.1
    exact wk_mg_1 m t
theorem wk_mu_2 : ∀ (m : wk_M) (us : List (Nat × (Nat ⊕ Int) × Int)), (wk_mu m us).2 = m.2
  | m, [] => rfl
  | m, u :: t => by
    show (wk_mu m t).2 = m.2
    exact wk_mu_2 m t
theorem wk_mg_u (m : wk_M) (p : Nat) (i v : Int) : ∀ gl : List (Nat × Int × Int64), wk_mg (wk_u m p i v) gl = wk_u (wk_mg m gl) p i v
  | [] => rfl
  | u :: t => by
    show wk_ul (wk_mg (wk_u m p i v) t) u.1 u.2.1 u.2.2 = wk_u (wk_ul (wk_mg m t) u.1 u.2.1 u.2.2) p i v
    rw [wk_mg_u m p i v t]
    rfl
def wk_Rok (G : ab_G) (R : wk_R) : Prop := ∀ (p i : Nat) (K : Int → Int → Prop), R p i K → K (G.1 p i).1 (G.1 p i).2
theorem wk_mu_app (m : wk_M) (us : List (Nat × (Nat ⊕ Int) × Int)) : ∀ us' : List (Nat × (Nat ⊕ Int) × Int), wk_mu m (us' ++ us) = wk_mu (wk_mu m us) us'
  | [] => rfl
  | u :: t => by
    show wk_u (wk_mu m (t ++ us)) u.1 (wk_ix u.2.1) u.2.2 = wk_u (wk_mu (wk_mu m us) t) u.1 (wk_ix u.2.1) u.2.2
    rw [wk_mu_app m us t]
theorem wk_mg_mu (m : wk_M) (gl : List (Nat × Int × Int64)) : ∀ us : List (Nat × (Nat ⊕ Int) × Int), wk_mg (wk_mu m us) gl = wk_mu (wk_mg m gl) us
  | [] => rfl
  | u :: t => by
    show wk_mg (wk_u (wk_mu m t) u.1 (wk_ix u.2.1) u.2.2) gl = wk_u (wk_mu (wk_mg m gl) t) u.1 (wk_ix u.2.1) u.2.2
    rw [wk_mg_u, wk_mg_mu m gl t]
theorem wk_af_ok {n : wk_N} {m' : wk_M} {k : wk_N → Prop} (h : wk_af n (wk_mk n) m' k) : ∃ n', wk_mk n' = m' ∧ k n' := by
  obtain ⟨m0, us, gl⟩ := n
  rcases h with ⟨us', h1, h2⟩ | h
  · refine ⟨_, ?_, h2⟩
    rw [h1]
    show wk_mg (wk_mu m0 (us' ++ us)) gl = wk_mu (wk_mg (wk_mu m0 us) gl) us'
    rw [wk_mu_app, wk_mg_mu]
  · exact ⟨_, rfl, h⟩
theorem wk_rd_ok {G : ab_G} {R : wk_R} (hR : wk_Rok G R) {p i : Nat} {x : Int} {k : Prop} (h : wk_rd R p i x k) (h1 : (G.1 p i).1 ≤ x) (h2 : x ≤ (G.1 p i).2) : k := hR p i _ h h1 h2
theorem wk_wr_ok {G : ab_G} {R : wk_R} (hR : wk_Rok G R) {p i : Nat} {x : Int} {k : Prop} (h : wk_wr R p i x k) : ((G.1 p i).1 ≤ x ∧ x ≤ (G.1 p i).2) ∧ k := hR p i _ h
theorem wk_u_s (m : wk_M) (p : Nat) (i v : Int) : (wk_u m p i v).1 p i = v := if_pos ⟨rfl, rfl⟩
theorem wk_u_n {m : wk_M} {p : Nat} {i v : Int} {q : Nat} {j : Int} (h : ¬ (q = p ∧ j = i)) : (wk_u m p i v).1 q j = m.1 q j := if_neg h
theorem wk_rF_ok {G : ab_G} {R : wk_R} (hR : wk_Rok G R) {m : wk_M} {p k : Nat} {K : Int → Prop} : ∀ {us : List (Nat × (Nat ⊕ Int) × Int)}, wk_rF R m p k K us → (G.1 p k).1 ≤ (wk_mu m us).1 p (k : Nat) → (wk_mu m us).1 p (k : Nat) ≤ (G.1 p k).2 → K ((wk_mu m us).1 p (k : Nat))
  | [], h, h1, h2 => wk_rd_ok hR h h1 h2
  | (q, .inl k', v) :: t, h0, h1, h2 => by
    have h : (match Nat.beq q p with
      | true => (match Nat.beq k' k with
        | true => K v
        | false => wk_rF R m p k K t)
      | false => wk_rF R m p k K t) := h0
    clear h0
    show K ((wk_u (wk_mu m t) q (k' : Nat) v).1 p (k : Nat))
    have h1 : (G.1 p k).1 ≤ (wk_u (wk_mu m t) q (k' : Nat) v).1 p (k : Nat) := h1
    have h2 : (wk_u (wk_mu m t) q (k' : Nat) v).1 p (k : Nat) ≤ (G.1 p k).2 := h2
    cases hb : Nat.beq q p with
    | true =>
      rw [hb] at h
      have e := dp_beq hb
      subst e
      cases hc : Nat.beq k' k with
      | true =>
        simp only [hc] at h
        have e := dp_beq hc
        subst e
        rw [wk_u_s]
        exact h
      | false =>
        simp only [hc] at h
        have ne := dp_bne hc
        have z : ¬ (q = q ∧ (k : Int) = (k' : Int)) := fun z => ne (by have := z.2; omega)
        rw [wk_u_n z] at h1 h2 ⊢
        exact wk_rF_ok hR h h1 h2
    | false =>
      rw [hb] at h
      have ne := dp_bne hb
      have z : ¬ (p = q ∧ (k : Int) = (k' : Int)) := fun z => ne z.1.symm
      rw [wk_u_n z] at h1 h2 ⊢
      exact wk_rF_ok hR h h1 h2
  | (q, .inr i, v) :: t, h0, h1, h2 => by
    have h : (match Nat.beq q p with
      | true => False
      | false => wk_rF R m p k K t) := h0
    clear h0
    show K ((wk_u (wk_mu m t) q i v).1 p (k : Nat))
    have h1 : (G.1 p k).1 ≤ (wk_u (wk_mu m t) q i v).1 p (k : Nat) := h1
    have h2 : (wk_u (wk_mu m t) q i v).1 p (k : Nat) ≤ (G.1 p k).2 := h2
    cases hb : Nat.beq q p with
    | true => rw [hb] at h; exact h.elim
    | false =>
      rw [hb] at h
      have ne := dp_bne hb
      have z : ¬ (p = q ∧ (k : Int) = i) := fun z => ne z.1.symm
      rw [wk_u_n z] at h1 h2 ⊢
      exact wk_rF_ok hR h h1 h2
theorem wk_rA_ok {G : ab_G} {R : wk_R} (hR : wk_Rok G R) {m : wk_M} {p : Nat} {i : Int} {K : Int → Prop} : ∀ {us : List (Nat × (Nat ⊕ Int) × Int)}, wk_rA R m p i K us → (G.1 p 0).1 ≤ (wk_mu m us).1 p i → (wk_mu m us).1 p i ≤ (G.1 p 0).2 → K ((wk_mu m us).1 p i)
  | [], h, h1, h2 => wk_rd_ok hR h h1 h2
  | (q, .inr j, v) :: t, h0, h1, h2 => by
    have h : (match Nat.beq q p with
      | true => (i = j → K v) ∧ (¬ i = j → wk_rA R m p i K t)
      | false => wk_rA R m p i K t) := h0
    clear h0
    show K ((wk_u (wk_mu m t) q j v).1 p i)
    have h1 : (G.1 p 0).1 ≤ (wk_u (wk_mu m t) q j v).1 p i := h1
    have h2 : (wk_u (wk_mu m t) q j v).1 p i ≤ (G.1 p 0).2 := h2
    cases hb : Nat.beq q p with
    | true =>
      rw [hb] at h
      have e := dp_beq hb
      subst e
      by_cases hc : i = j
      · subst hc
        rw [wk_u_s]
        exact h.1 rfl
      · have z : ¬ (q = q ∧ i = j) := fun z => hc z.2
        rw [wk_u_n z] at h1 h2 ⊢
        exact wk_rA_ok hR (h.2 hc) h1 h2
    | false =>
      rw [hb] at h
      have ne := dp_bne hb
      have z : ¬ (p = q ∧ i = j) := fun z => ne z.1.symm
      rw [wk_u_n z] at h1 h2 ⊢
      exact wk_rA_ok hR h h1 h2
  | (q, .inl k', v) :: t, h0, h1, h2 => by
    have h : (match Nat.beq q p with
      | true => False
      | false => wk_rA R m p i K t) := h0
    clear h0
    show K ((wk_u (wk_mu m t) q (k' : Nat) v).1 p i)
    have h1 : (G.1 p 0).1 ≤ (wk_u (wk_mu m t) q (k' : Nat) v).1 p i := h1
    have h2 : (wk_u (wk_mu m t) q (k' : Nat) v).1 p i ≤ (G.1 p 0).2 := h2
    cases hb : Nat.beq q p with
    | true => rw [hb] at h; exact h.elim
    | false =>
      rw [hb] at h
      have ne := dp_bne hb
      have z : ¬ (p = q ∧ i = (k' : Int)) := fun z => ne z.1.symm
      rw [wk_u_n z] at h1 h2 ⊢
      exact wk_rA_ok hR h h1 h2
theorem wk_rL_ok {m : wk_M} {p : Nat} {i : Int} {K : Int64 → Prop} : ∀ {gl : List (Nat × Int × Int64)}, wk_rL m p i K gl → K ((wk_mg m gl).2 p i)
  | [], h => h
  | (q, j, v) :: t, h0 => by
    have h : (match Nat.beq q p with
      | true => (i = j → K v) ∧ (¬ i = j → wk_rL m p i K t)
      | false => wk_rL m p i K t) := h0
    clear h0
    show K (if p = q ∧ i = j then v else (wk_mg m t).2 p i)
    cases hb : Nat.beq q p with
    | true =>
      rw [hb] at h
      have e := dp_beq hb
      subst e
      by_cases hc : i = j
      · rw [if_pos ⟨rfl, hc⟩]
        exact h.1 hc
      · rw [if_neg (fun z => hc z.2)]
        exact wk_rL_ok (h.2 hc)
    | false =>
      rw [hb] at h
      have ne := dp_bne hb
      rw [if_neg (fun z => ne z.1.symm)]
      exact wk_rL_ok h
theorem wk_mg_2 : ∀ (m m' : wk_M) (_ : m.2 = m'.2) (gl : List (Nat × Int × Int64)), (wk_mg m gl).2 = (wk_mg m' gl).2
  | m, m', e, [] => e
  | m, m', e, u :: t => by
    show (fun q j => if q = u.1 ∧ j = u.2.1 then u.2.2 else (wk_mg m t).2 q j) = fun q j => if q = u.1 ∧ j = u.2.1 then u.2.2 else (wk_mg m' t).2 q j
    rw [wk_mg_2 m m' e t]
def wk_J (cl : List vw_C) (X : sm_X) (G : ab_G) (W : List Nat) (nl : Nat) (ad : Nat → Nat) (μ0 : sm_M) (pc : Nat) (L : wk_L) (st : List wk_V) (n : wk_N) : Prop := ∀ μ : sm_M, wk_of μ = wk_mk n → ab_mu G μ → ab_fr W μ μ0 → wk_lv L → wk_sv st → L.length = nl → sm_E cl X pc (wk_lc L) (st.map wk_c) ad G.2 μ
def wk_Q (G : ab_G) (W : List Nat) (μ0 : sm_M) (fin : Option wk_V → wk_M → Prop) (r : Option Value) (sh' : sm_S) (μ' : sm_M) : Prop := sh' = G.2 ∧ ab_mu G μ' ∧ ab_fr W μ' μ0 ∧ ∃ r', r = Option.map wk_c r' ∧ wk_ov r' ∧ fin r' (wk_of μ')
theorem wk_shr6 {x y : Int} (ix : ab_lo ≤ x ∧ x ≤ ab_hi) (a : y = 6) (b : 0 ≤ x) (c : x ≤ 1023) : (Int32.ofInt x >>> (Int32.ofInt y &&& 31)).toInt = x / 64 := by
  subst a
  obtain ⟨n, hn, e, en⟩ := ab_nat (x := Int32.ofInt x) (by rw [wk_ti ix]; exact b)
  rw [wk_ti ix] at en
  have h6 : Int32.ofInt 6 = (6 : Int32) := by decide
  have hn2 : n < 1024 := by omega
  have q := of_decide_eq_true (List.all_eq_true.mp ab_shr_t n (List.mem_range.mpr hn2))
  rw [e, h6, q, nI_toInt (by omega), en]
  omega
theorem wk_dv {x y : Int} (ix : ab_lo ≤ x ∧ x ≤ ab_hi) (iy : ab_lo ≤ y ∧ y ≤ ab_hi) (h1 : 0 ≤ x) (h2 : 0 < y) : 0 ≤ x / y ∧ x / y ≤ x ∧ Int32.ofInt (x / y) = Int32.ofInt x / Int32.ofInt y := by
  have q := ab_tdiv (x := Int32.ofInt x) (y := Int32.ofInt y) (by rw [wk_ti ix]; exact h1) (by rw [wk_ti iy]; exact h2)
  rw [wk_ti ix, wk_ti iy] at q
  have h3 : 0 ≤ x / y := Int.ediv_nonneg h1 (Int.le_of_lt h2)
  have h4 : x / y ≤ x := Int.ediv_le_self y h1
  exact ⟨h3, h4, by rw [← q, wk_io]⟩
theorem wk_rm {x y : Int} (ix : ab_lo ≤ x ∧ x ≤ ab_hi) (iy : ab_lo ≤ y ∧ y ≤ ab_hi) (h1 : 0 ≤ x) (h2 : 0 < y) : 0 ≤ x % y ∧ x % y < y ∧ Int32.ofInt (x % y) = Int32.ofInt x - Int32.ofInt x / Int32.ofInt y * Int32.ofInt y := by
  obtain ⟨a, b, c⟩ := wk_dv ix iy h1 h2
  refine ⟨Int.emod_nonneg _ (by omega), Int.emod_lt_of_pos _ h2, ?_⟩
  rw [← c, ← Int32.ofInt_mul, ← Int32.ofInt_sub]
  congr 1
  have hm : x / y * y + x % y = x := Int.ediv_mul_add_emod x y
  omega
theorem wk_i8 {i : Int} (h1 : -128 ≤ i) (h2 : i ≤ 127) : (Int8.ofInt i).toInt32 = Int32.ofInt i := by
  apply Int32.toInt_inj.mp
  rw [Int8.toInt_toInt32, Int8.toInt_ofInt, show Int8.size = 256 from rfl, wk_ti ⟨by show (-2147483648 : Int) ≤ i; omega, by show i ≤ (2147483647 : Int); omega⟩]
  apply Int.bmod_eq_of_le <;> omega
theorem wk_i16 {i : Int} (h1 : -32768 ≤ i) (h2 : i ≤ 32767) : (Int16.ofInt i).toInt32 = Int32.ofInt i := by
  apply Int32.toInt_inj.mp
  rw [Int16.toInt_toInt32, Int16.toInt_ofInt, show Int16.size = 65536 from rfl, wk_ti ⟨by show (-2147483648 : Int) ≤ i; omega, by show i ≤ (2147483647 : Int); omega⟩]
  apply Int.bmod_eq_of_le <;> omega
theorem wk_call_ok {cl : List vw_C} {X : sm_X} {cc : ByteArray} {own : String} {Ts : List Cond} {rm : Room} {N Sz : Nat} {ini : Bool} {nl : Nat} {ret : Option FieldType} (hX : sm_ok cl X cc nl own Ts ret rm N Sz ini) {G : ab_G} (hG : ab_Gok G) {R : wk_R} (hR : wk_Rok G R) {K : dp_K} {ys : Nat → MethodName} {wss : Nat → List Cond} (hK : dp_Kok cl X.1.2.2.2 own Ts ys wss K) {lvl : Nat} (hfr : lvl ≤ rm.frames) (hlo : 32 * lvl ≤ rm.locals) (hN : G.2.length ≤ N) (hSz : sm_sl G.2 ≤ Sz) {W : List Nat} {ad : Nat → Nat} {μ0 : sm_M} {fin : Option wk_V → wk_M → Prop} (hf : sm_fin cl X ad G.2 0 0 (wk_Q G W μ0 fin)) {pc : Nat} {L : wk_L} {st : List wk_V} {n : wk_N} {k : wk_K} (kk : ∀ (pc' : Nat) (L' : wk_L) (st' : List wk_V) (n' : wk_N), k pc' L' st' n' → wk_J cl X G W nl ad μ0 pc' L' st' n') {ins : Instr} {C : Nat × Nat × Nat} (hC : sm_Cal cl X.1.2.2.2 cc own Ts ins (ys C.1) (wss C.1) C.2.1 (dp_rcO C.2.2)) (d : decode cc pc = .ok (ins, 3)) (h : wk_ca G (wk_cl cl X.1 ys wss G lvl W) C pc L st n k) : wk_J cl X G W nl ad μ0 pc L st n := by
  obtain ⟨j, na, rc⟩ := C
  have h : wk_tk na st [] _ := h
  obtain ⟨T, r, rfl, hT, h⟩ := wk_tk_ok h
  rw [List.append_nil] at h
  obtain ⟨h2, h⟩ := wk_g_ok h
  obtain ⟨h3, h⟩ := wk_g_ok h
  have h := wk_co_ok h
  obtain ⟨l, W', ⟨h4, h5⟩, h6⟩ := h
  simp only at hC
  intro μ e gm gf gl gs gn
  obtain ⟨g1, g2⟩ := wk_sv_app gs
  have hcon := h6 μ ad e gm (wk_sv_rev g1)
  have hrc : sm_rcv G.2 (dp_rcO rc) (T.reverse.map wk_c) := by
    cases rc with
    | zero => exact trivial
    | succ ci =>
      unfold wk_rc at h2
      simp only at h2
      split at h2
      · rename_i p u0 hu
        split at h2
        · rename_i c fs hs
          have ec := dp_beq h2
          subst ec
          rw [hu]
          exact ⟨p, u0.map wk_c, fs, rfl, hs⟩
        · cases h2
      · cases h2
  have h7 := hC X _ _ _ _ _ _ rfl hX pc (wk_lc L) (r.map wk_c) ad G.2 μ (T.reverse.map wk_c) _ _ (by rw [List.length_map, List.length_reverse]; exact hT) hrc hcon (by simp only [dp_rm]; omega) (by simp only [dp_rm]; omega) (by simp only [dp_rm]; omega) (by simp only [dp_rm]; omega) (by rw [wk_cats_ok]; exact Nat.le_of_ble_eq_true h3) d (fun v ad' sh' μ' e1 e2 hag q => ?_)
  · rw [← List.map_reverse, List.reverse_reverse, ← List.map_append] at h7
    exact h7
  · obtain ⟨q1, q2, q3, r', q4, q5, q6⟩ := q
    subst q1
    rw [sm_ag_eq hag]
    refine ⟨Or.inl (by simp only [dp_rm]; omega), ?_⟩
    have gf' : ab_fr W μ' μ0 := fun x hx => by
      have z1 := q3 x (fun z => hx (ab_sub_mem h5 z))
      have z2 := gf x hx
      exact ⟨z1.1.trans z2.1, z1.2.trans z2.2⟩
    subst q4
    cases r' with
    | none =>
      obtain ⟨n', z1, z2⟩ := wk_af_ok q6
      exact kk _ _ _ _ z2 μ' z1.symm q2 gf' gl g2 gn
    | some x =>
      obtain ⟨n', z1, z2⟩ := wk_af_ok q6
      exact kk _ _ _ _ z2 μ' z1.symm q2 gf' gl ⟨q5, g2⟩ gn
theorem wk_in_iadd {cl : List vw_C} {X : sm_X} {cc : ByteArray} {own : String} {Ts : List Cond} {rm : Room} {N Sz : Nat} {ini : Bool} {nl : Nat} {ret : Option FieldType} (hX : sm_ok cl X cc nl own Ts ret rm N Sz ini) {G : ab_G} (hG : ab_Gok G) {R : wk_R} (hR : wk_Rok G R) {K : dp_K} {ys : Nat → MethodName} {wss : Nat → List Cond} (hK : dp_Kok cl X.1.2.2.2 own Ts ys wss K) {lvl : Nat} (hfr : lvl ≤ rm.frames) (hlo : 32 * lvl ≤ rm.locals) (hN : G.2.length ≤ N) (hSz : sm_sl G.2 ≤ Sz) {W : List Nat} {ad : Nat → Nat} {μ0 : sm_M} {fin : Option wk_V → wk_M → Prop} (hf : sm_fin cl X ad G.2 0 0 (wk_Q G W μ0 fin)) {pc len : Nat} {L : wk_L} {st : List wk_V} {n : wk_N} {k : wk_K} (kk : ∀ (pc' : Nat) (L' : wk_L) (st' : List wk_V) (n' : wk_N), k pc' L' st' n' → wk_J cl X G W nl ad μ0 pc' L' st' n')  (d : decode cc pc = .ok (.iadd, len)) (h : wk_in K G R nl ret W (wk_cl cl X.1 ys wss G lvl W) fin pc L st n .iadd len k) : wk_J cl X G W nl ad μ0 pc L st n := by
  obtain ⟨hl, hu1⟩ := wk_g_ok h
  clear h
  have hl := dp_beq hl
  subst hl
  obtain ⟨y, r, rfl, hu2⟩ := wk_1i_ok hu1
  clear hu1
  obtain ⟨x, r, rfl, hu3⟩ := wk_1i_ok hu2
  clear hu2
  intro μ e gm gf gl gs gn
  obtain ⟨z, hz, z1, z2, hu4⟩ := wk_ar_ok hu3
  clear hu3
  show sm_E cl X pc (wk_lc L) (.int (Int32.ofInt y) :: .int (Int32.ofInt x) :: r.map wk_c) ad G.2 μ
  refine sm_iadd hX d ?_
  rw [← Int32.ofInt_add, ← hz]
  exact kk _ _ _ _ hu4 μ e gm gf gl ⟨⟨z1, z2⟩, gs.2.2⟩ gn
theorem wk_in_isub {cl : List vw_C} {X : sm_X} {cc : ByteArray} {own : String} {Ts : List Cond} {rm : Room} {N Sz : Nat} {ini : Bool} {nl : Nat} {ret : Option FieldType} (hX : sm_ok cl X cc nl own Ts ret rm N Sz ini) {G : ab_G} (hG : ab_Gok G) {R : wk_R} (hR : wk_Rok G R) {K : dp_K} {ys : Nat → MethodName} {wss : Nat → List Cond} (hK : dp_Kok cl X.1.2.2.2 own Ts ys wss K) {lvl : Nat} (hfr : lvl ≤ rm.frames) (hlo : 32 * lvl ≤ rm.locals) (hN : G.2.length ≤ N) (hSz : sm_sl G.2 ≤ Sz) {W : List Nat} {ad : Nat → Nat} {μ0 : sm_M} {fin : Option wk_V → wk_M → Prop} (hf : sm_fin cl X ad G.2 0 0 (wk_Q G W μ0 fin)) {pc len : Nat} {L : wk_L} {st : List wk_V} {n : wk_N} {k : wk_K} (kk : ∀ (pc' : Nat) (L' : wk_L) (st' : List wk_V) (n' : wk_N), k pc' L' st' n' → wk_J cl X G W nl ad μ0 pc' L' st' n')  (d : decode cc pc = .ok (.isub, len)) (h : wk_in K G R nl ret W (wk_cl cl X.1 ys wss G lvl W) fin pc L st n .isub len k) : wk_J cl X G W nl ad μ0 pc L st n := by
  obtain ⟨hl, hu1⟩ := wk_g_ok h
  clear h
  have hl := dp_beq hl
  subst hl
  obtain ⟨y, r, rfl, hu2⟩ := wk_1i_ok hu1
  clear hu1
  obtain ⟨x, r, rfl, hu3⟩ := wk_1i_ok hu2
  clear hu2
  intro μ e gm gf gl gs gn
  obtain ⟨z, hz, z1, z2, hu4⟩ := wk_ar_ok hu3
  clear hu3
  show sm_E cl X pc (wk_lc L) (.int (Int32.ofInt y) :: .int (Int32.ofInt x) :: r.map wk_c) ad G.2 μ
  refine sm_isub hX d ?_
  rw [← Int32.ofInt_sub, ← hz]
  exact kk _ _ _ _ hu4 μ e gm gf gl ⟨⟨z1, z2⟩, gs.2.2⟩ gn
theorem wk_in_imul {cl : List vw_C} {X : sm_X} {cc : ByteArray} {own : String} {Ts : List Cond} {rm : Room} {N Sz : Nat} {ini : Bool} {nl : Nat} {ret : Option FieldType} (hX : sm_ok cl X cc nl own Ts ret rm N Sz ini) {G : ab_G} (hG : ab_Gok G) {R : wk_R} (hR : wk_Rok G R) {K : dp_K} {ys : Nat → MethodName} {wss : Nat → List Cond} (hK : dp_Kok cl X.1.2.2.2 own Ts ys wss K) {lvl : Nat} (hfr : lvl ≤ rm.frames) (hlo : 32 * lvl ≤ rm.locals) (hN : G.2.length ≤ N) (hSz : sm_sl G.2 ≤ Sz) {W : List Nat} {ad : Nat → Nat} {μ0 : sm_M} {fin : Option wk_V → wk_M → Prop} (hf : sm_fin cl X ad G.2 0 0 (wk_Q G W μ0 fin)) {pc len : Nat} {L : wk_L} {st : List wk_V} {n : wk_N} {k : wk_K} (kk : ∀ (pc' : Nat) (L' : wk_L) (st' : List wk_V) (n' : wk_N), k pc' L' st' n' → wk_J cl X G W nl ad μ0 pc' L' st' n')  (d : decode cc pc = .ok (.imul, len)) (h : wk_in K G R nl ret W (wk_cl cl X.1 ys wss G lvl W) fin pc L st n .imul len k) : wk_J cl X G W nl ad μ0 pc L st n := by
  obtain ⟨hl, hu1⟩ := wk_g_ok h
  clear h
  have hl := dp_beq hl
  subst hl
  obtain ⟨y, r, rfl, hu2⟩ := wk_1i_ok hu1
  clear hu1
  obtain ⟨x, r, rfl, hu3⟩ := wk_1i_ok hu2
  clear hu2
  intro μ e gm gf gl gs gn
  obtain ⟨z, hz, z1, z2, hu4⟩ := wk_ar_ok hu3
  clear hu3
  show sm_E cl X pc (wk_lc L) (.int (Int32.ofInt y) :: .int (Int32.ofInt x) :: r.map wk_c) ad G.2 μ
  refine sm_imul hX d ?_
  rw [← Int32.ofInt_mul, ← hz]
  exact kk _ _ _ _ hu4 μ e gm gf gl ⟨⟨z1, z2⟩, gs.2.2⟩ gn
theorem wk_in_ineg {cl : List vw_C} {X : sm_X} {cc : ByteArray} {own : String} {Ts : List Cond} {rm : Room} {N Sz : Nat} {ini : Bool} {nl : Nat} {ret : Option FieldType} (hX : sm_ok cl X cc nl own Ts ret rm N Sz ini) {G : ab_G} (hG : ab_Gok G) {R : wk_R} (hR : wk_Rok G R) {K : dp_K} {ys : Nat → MethodName} {wss : Nat → List Cond} (hK : dp_Kok cl X.1.2.2.2 own Ts ys wss K) {lvl : Nat} (hfr : lvl ≤ rm.frames) (hlo : 32 * lvl ≤ rm.locals) (hN : G.2.length ≤ N) (hSz : sm_sl G.2 ≤ Sz) {W : List Nat} {ad : Nat → Nat} {μ0 : sm_M} {fin : Option wk_V → wk_M → Prop} (hf : sm_fin cl X ad G.2 0 0 (wk_Q G W μ0 fin)) {pc len : Nat} {L : wk_L} {st : List wk_V} {n : wk_N} {k : wk_K} (kk : ∀ (pc' : Nat) (L' : wk_L) (st' : List wk_V) (n' : wk_N), k pc' L' st' n' → wk_J cl X G W nl ad μ0 pc' L' st' n')  (d : decode cc pc = .ok (.ineg, len)) (h : wk_in K G R nl ret W (wk_cl cl X.1 ys wss G lvl W) fin pc L st n .ineg len k) : wk_J cl X G W nl ad μ0 pc L st n := by
  obtain ⟨hl, hu1⟩ := wk_g_ok h
  clear h
  have hl := dp_beq hl
  subst hl
  obtain ⟨x, r, rfl, hu2⟩ := wk_1i_ok hu1
  clear hu1
  intro μ e gm gf gl gs gn
  obtain ⟨z, hz, z1, z2, hu3⟩ := wk_ar_ok hu2
  clear hu2
  show sm_E cl X pc (wk_lc L) (.int (Int32.ofInt x) :: r.map wk_c) ad G.2 μ
  refine sm_ineg hX d ?_
  rw [← Int32.ofInt_neg, ← hz]
  exact kk _ _ _ _ hu3 μ e gm gf gl ⟨⟨z1, z2⟩, gs.2⟩ gn
theorem wk_in_iand {cl : List vw_C} {X : sm_X} {cc : ByteArray} {own : String} {Ts : List Cond} {rm : Room} {N Sz : Nat} {ini : Bool} {nl : Nat} {ret : Option FieldType} (hX : sm_ok cl X cc nl own Ts ret rm N Sz ini) {G : ab_G} (hG : ab_Gok G) {R : wk_R} (hR : wk_Rok G R) {K : dp_K} {ys : Nat → MethodName} {wss : Nat → List Cond} (hK : dp_Kok cl X.1.2.2.2 own Ts ys wss K) {lvl : Nat} (hfr : lvl ≤ rm.frames) (hlo : 32 * lvl ≤ rm.locals) (hN : G.2.length ≤ N) (hSz : sm_sl G.2 ≤ Sz) {W : List Nat} {ad : Nat → Nat} {μ0 : sm_M} {fin : Option wk_V → wk_M → Prop} (hf : sm_fin cl X ad G.2 0 0 (wk_Q G W μ0 fin)) {pc len : Nat} {L : wk_L} {st : List wk_V} {n : wk_N} {k : wk_K} (kk : ∀ (pc' : Nat) (L' : wk_L) (st' : List wk_V) (n' : wk_N), k pc' L' st' n' → wk_J cl X G W nl ad μ0 pc' L' st' n')  (d : decode cc pc = .ok (.iand, len)) (h : wk_in K G R nl ret W (wk_cl cl X.1 ys wss G lvl W) fin pc L st n .iand len k) : wk_J cl X G W nl ad μ0 pc L st n := by
  obtain ⟨hl, hu1⟩ := wk_g_ok h
  clear h
  have hl := dp_beq hl
  subst hl
  obtain ⟨y, r, rfl, hu2⟩ := wk_1i_ok hu1
  clear hu1
  obtain ⟨x, r, rfl, hu3⟩ := wk_1i_ok hu2
  clear hu2
  intro μ e gm gf gl gs gn
  have hu3 := wk_ex_ok hu3
  have ix : ab_lo ≤ x ∧ x ≤ ab_hi := gs.2.1
  have iy : ab_lo ≤ y ∧ y ≤ ab_hi := gs.1
  show sm_E cl X pc (wk_lc L) (.int (Int32.ofInt y) :: .int (Int32.ofInt x) :: r.map wk_c) ad G.2 μ
  refine sm_iand hX d ?_
  have q := kk _ _ _ _ (hu3 (fun z => by have q := ab_tand (x := Int32.ofInt x) (y := Int32.ofInt y) (by rw [wk_ti iy]; exact z); rw [wk_ti iy] at q; exact q) (fun z => by have q := ab_tand' (x := Int32.ofInt x) (y := Int32.ofInt y) (by rw [wk_ti ix]; exact z); rw [wk_ti ix] at q; exact q)) μ e gm gf gl ⟨⟨ab_min _, ab_max _⟩, gs.2.2⟩ gn
  have q : sm_E cl X (pc + 1) (wk_lc L) (.int (Int32.ofInt (Int32.ofInt x &&& Int32.ofInt y).toInt) :: r.map wk_c) ad G.2 μ := q
  rw [wk_io] at q
  exact q
theorem wk_in_ior {cl : List vw_C} {X : sm_X} {cc : ByteArray} {own : String} {Ts : List Cond} {rm : Room} {N Sz : Nat} {ini : Bool} {nl : Nat} {ret : Option FieldType} (hX : sm_ok cl X cc nl own Ts ret rm N Sz ini) {G : ab_G} (hG : ab_Gok G) {R : wk_R} (hR : wk_Rok G R) {K : dp_K} {ys : Nat → MethodName} {wss : Nat → List Cond} (hK : dp_Kok cl X.1.2.2.2 own Ts ys wss K) {lvl : Nat} (hfr : lvl ≤ rm.frames) (hlo : 32 * lvl ≤ rm.locals) (hN : G.2.length ≤ N) (hSz : sm_sl G.2 ≤ Sz) {W : List Nat} {ad : Nat → Nat} {μ0 : sm_M} {fin : Option wk_V → wk_M → Prop} (hf : sm_fin cl X ad G.2 0 0 (wk_Q G W μ0 fin)) {pc len : Nat} {L : wk_L} {st : List wk_V} {n : wk_N} {k : wk_K} (kk : ∀ (pc' : Nat) (L' : wk_L) (st' : List wk_V) (n' : wk_N), k pc' L' st' n' → wk_J cl X G W nl ad μ0 pc' L' st' n')  (d : decode cc pc = .ok (.ior, len)) (h : wk_in K G R nl ret W (wk_cl cl X.1 ys wss G lvl W) fin pc L st n .ior len k) : wk_J cl X G W nl ad μ0 pc L st n := by
  obtain ⟨hl, hu1⟩ := wk_g_ok h
  clear h
  have hl := dp_beq hl
  subst hl
  obtain ⟨y, r, rfl, hu2⟩ := wk_1i_ok hu1
  clear hu1
  obtain ⟨x, r, rfl, hu3⟩ := wk_1i_ok hu2
  clear hu2
  intro μ e gm gf gl gs gn
  have hu3 := wk_ex_ok hu3
  have ix : ab_lo ≤ x ∧ x ≤ ab_hi := gs.2.1
  have iy : ab_lo ≤ y ∧ y ≤ ab_hi := gs.1
  show sm_E cl X pc (wk_lc L) (.int (Int32.ofInt y) :: .int (Int32.ofInt x) :: r.map wk_c) ad G.2 μ
  refine sm_ior hX d ?_
  have q := kk _ _ _ _ (hu3 (fun a b c f => ab_tor (x := Int32.ofInt x) (y := Int32.ofInt y) (by rw [wk_ti ix]; exact a) (by rw [wk_ti ix]; exact b) (by rw [wk_ti iy]; exact c) (by rw [wk_ti iy]; exact f))) μ e gm gf gl ⟨⟨ab_min _, ab_max _⟩, gs.2.2⟩ gn
  have q : sm_E cl X (pc + 1) (wk_lc L) (.int (Int32.ofInt (Int32.ofInt x ||| Int32.ofInt y).toInt) :: r.map wk_c) ad G.2 μ := q
  rw [wk_io] at q
  exact q
theorem wk_in_ishr {cl : List vw_C} {X : sm_X} {cc : ByteArray} {own : String} {Ts : List Cond} {rm : Room} {N Sz : Nat} {ini : Bool} {nl : Nat} {ret : Option FieldType} (hX : sm_ok cl X cc nl own Ts ret rm N Sz ini) {G : ab_G} (hG : ab_Gok G) {R : wk_R} (hR : wk_Rok G R) {K : dp_K} {ys : Nat → MethodName} {wss : Nat → List Cond} (hK : dp_Kok cl X.1.2.2.2 own Ts ys wss K) {lvl : Nat} (hfr : lvl ≤ rm.frames) (hlo : 32 * lvl ≤ rm.locals) (hN : G.2.length ≤ N) (hSz : sm_sl G.2 ≤ Sz) {W : List Nat} {ad : Nat → Nat} {μ0 : sm_M} {fin : Option wk_V → wk_M → Prop} (hf : sm_fin cl X ad G.2 0 0 (wk_Q G W μ0 fin)) {pc len : Nat} {L : wk_L} {st : List wk_V} {n : wk_N} {k : wk_K} (kk : ∀ (pc' : Nat) (L' : wk_L) (st' : List wk_V) (n' : wk_N), k pc' L' st' n' → wk_J cl X G W nl ad μ0 pc' L' st' n')  (d : decode cc pc = .ok (.ishr, len)) (h : wk_in K G R nl ret W (wk_cl cl X.1 ys wss G lvl W) fin pc L st n .ishr len k) : wk_J cl X G W nl ad μ0 pc L st n := by
  obtain ⟨hl, hu1⟩ := wk_g_ok h
  clear h
  have hl := dp_beq hl
  subst hl
  obtain ⟨y, r, rfl, hu2⟩ := wk_1i_ok hu1
  clear hu1
  obtain ⟨x, r, rfl, hu3⟩ := wk_1i_ok hu2
  clear hu2
  intro μ e gm gf gl gs gn
  have hu3 := wk_ex_ok hu3
  have ix : ab_lo ≤ x ∧ x ≤ ab_hi := gs.2.1
  have iy : ab_lo ≤ y ∧ y ≤ ab_hi := gs.1
  show sm_E cl X pc (wk_lc L) (.int (Int32.ofInt y) :: .int (Int32.ofInt x) :: r.map wk_c) ad G.2 μ
  refine sm_ishr hX d ?_
  have q := kk _ _ _ _ (hu3 (fun a b c => wk_shr6 ix a b c)) μ e gm gf gl ⟨⟨ab_min _, ab_max _⟩, gs.2.2⟩ gn
  have q : sm_E cl X (pc + 1) (wk_lc L) (.int (Int32.ofInt (Int32.ofInt x >>> (Int32.ofInt y &&& 31)).toInt) :: r.map wk_c) ad G.2 μ := q
  rw [wk_io] at q
  exact q
theorem wk_in_ixor {cl : List vw_C} {X : sm_X} {cc : ByteArray} {own : String} {Ts : List Cond} {rm : Room} {N Sz : Nat} {ini : Bool} {nl : Nat} {ret : Option FieldType} (hX : sm_ok cl X cc nl own Ts ret rm N Sz ini) {G : ab_G} (hG : ab_Gok G) {R : wk_R} (hR : wk_Rok G R) {K : dp_K} {ys : Nat → MethodName} {wss : Nat → List Cond} (hK : dp_Kok cl X.1.2.2.2 own Ts ys wss K) {lvl : Nat} (hfr : lvl ≤ rm.frames) (hlo : 32 * lvl ≤ rm.locals) (hN : G.2.length ≤ N) (hSz : sm_sl G.2 ≤ Sz) {W : List Nat} {ad : Nat → Nat} {μ0 : sm_M} {fin : Option wk_V → wk_M → Prop} (hf : sm_fin cl X ad G.2 0 0 (wk_Q G W μ0 fin)) {pc len : Nat} {L : wk_L} {st : List wk_V} {n : wk_N} {k : wk_K} (kk : ∀ (pc' : Nat) (L' : wk_L) (st' : List wk_V) (n' : wk_N), k pc' L' st' n' → wk_J cl X G W nl ad μ0 pc' L' st' n')  (d : decode cc pc = .ok (.ixor, len)) (h : wk_in K G R nl ret W (wk_cl cl X.1 ys wss G lvl W) fin pc L st n .ixor len k) : wk_J cl X G W nl ad μ0 pc L st n := by
  obtain ⟨hl, hu1⟩ := wk_g_ok h
  clear h
  have hl := dp_beq hl
  subst hl
  obtain ⟨y, r, rfl, hu2⟩ := wk_1i_ok hu1
  clear hu1
  obtain ⟨x, r, rfl, hu3⟩ := wk_1i_ok hu2
  clear hu2
  intro μ e gm gf gl gs gn
  have hu3 := wk_ex_ok hu3
  have ix : ab_lo ≤ x ∧ x ≤ ab_hi := gs.2.1
  have iy : ab_lo ≤ y ∧ y ≤ ab_hi := gs.1
  show sm_E cl X pc (wk_lc L) (.int (Int32.ofInt y) :: .int (Int32.ofInt x) :: r.map wk_c) ad G.2 μ
  refine sm_ixor hX d ?_
  have q := kk _ _ _ _ (hu3 ) μ e gm gf gl ⟨⟨ab_min _, ab_max _⟩, gs.2.2⟩ gn
  have q : sm_E cl X (pc + 1) (wk_lc L) (.int (Int32.ofInt (Int32.ofInt x ^^^ Int32.ofInt y).toInt) :: r.map wk_c) ad G.2 μ := q
  rw [wk_io] at q
  exact q
theorem wk_in_ishl {cl : List vw_C} {X : sm_X} {cc : ByteArray} {own : String} {Ts : List Cond} {rm : Room} {N Sz : Nat} {ini : Bool} {nl : Nat} {ret : Option FieldType} (hX : sm_ok cl X cc nl own Ts ret rm N Sz ini) {G : ab_G} (hG : ab_Gok G) {R : wk_R} (hR : wk_Rok G R) {K : dp_K} {ys : Nat → MethodName} {wss : Nat → List Cond} (hK : dp_Kok cl X.1.2.2.2 own Ts ys wss K) {lvl : Nat} (hfr : lvl ≤ rm.frames) (hlo : 32 * lvl ≤ rm.locals) (hN : G.2.length ≤ N) (hSz : sm_sl G.2 ≤ Sz) {W : List Nat} {ad : Nat → Nat} {μ0 : sm_M} {fin : Option wk_V → wk_M → Prop} (hf : sm_fin cl X ad G.2 0 0 (wk_Q G W μ0 fin)) {pc len : Nat} {L : wk_L} {st : List wk_V} {n : wk_N} {k : wk_K} (kk : ∀ (pc' : Nat) (L' : wk_L) (st' : List wk_V) (n' : wk_N), k pc' L' st' n' → wk_J cl X G W nl ad μ0 pc' L' st' n')  (d : decode cc pc = .ok (.ishl, len)) (h : wk_in K G R nl ret W (wk_cl cl X.1 ys wss G lvl W) fin pc L st n .ishl len k) : wk_J cl X G W nl ad μ0 pc L st n := by
  obtain ⟨hl, hu1⟩ := wk_g_ok h
  clear h
  have hl := dp_beq hl
  subst hl
  obtain ⟨y, r, rfl, hu2⟩ := wk_1i_ok hu1
  clear hu1
  obtain ⟨x, r, rfl, hu3⟩ := wk_1i_ok hu2
  clear hu2
  intro μ e gm gf gl gs gn
  have hu3 := wk_ex_ok hu3
  have ix : ab_lo ≤ x ∧ x ≤ ab_hi := gs.2.1
  have iy : ab_lo ≤ y ∧ y ≤ ab_hi := gs.1
  show sm_E cl X pc (wk_lc L) (.int (Int32.ofInt y) :: .int (Int32.ofInt x) :: r.map wk_c) ad G.2 μ
  refine sm_ishl hX d ?_
  have q := kk _ _ _ _ (hu3 ) μ e gm gf gl ⟨⟨ab_min _, ab_max _⟩, gs.2.2⟩ gn
  have q : sm_E cl X (pc + 1) (wk_lc L) (.int (Int32.ofInt (Int32.ofInt x <<< (Int32.ofInt y &&& 31)).toInt) :: r.map wk_c) ad G.2 μ := q
  rw [wk_io] at q
  exact q
theorem wk_in_iushr {cl : List vw_C} {X : sm_X} {cc : ByteArray} {own : String} {Ts : List Cond} {rm : Room} {N Sz : Nat} {ini : Bool} {nl : Nat} {ret : Option FieldType} (hX : sm_ok cl X cc nl own Ts ret rm N Sz ini) {G : ab_G} (hG : ab_Gok G) {R : wk_R} (hR : wk_Rok G R) {K : dp_K} {ys : Nat → MethodName} {wss : Nat → List Cond} (hK : dp_Kok cl X.1.2.2.2 own Ts ys wss K) {lvl : Nat} (hfr : lvl ≤ rm.frames) (hlo : 32 * lvl ≤ rm.locals) (hN : G.2.length ≤ N) (hSz : sm_sl G.2 ≤ Sz) {W : List Nat} {ad : Nat → Nat} {μ0 : sm_M} {fin : Option wk_V → wk_M → Prop} (hf : sm_fin cl X ad G.2 0 0 (wk_Q G W μ0 fin)) {pc len : Nat} {L : wk_L} {st : List wk_V} {n : wk_N} {k : wk_K} (kk : ∀ (pc' : Nat) (L' : wk_L) (st' : List wk_V) (n' : wk_N), k pc' L' st' n' → wk_J cl X G W nl ad μ0 pc' L' st' n')  (d : decode cc pc = .ok (.iushr, len)) (h : wk_in K G R nl ret W (wk_cl cl X.1 ys wss G lvl W) fin pc L st n .iushr len k) : wk_J cl X G W nl ad μ0 pc L st n := by
  obtain ⟨hl, hu1⟩ := wk_g_ok h
  clear h
  have hl := dp_beq hl
  subst hl
  obtain ⟨y, r, rfl, hu2⟩ := wk_1i_ok hu1
  clear hu1
  obtain ⟨x, r, rfl, hu3⟩ := wk_1i_ok hu2
  clear hu2
  intro μ e gm gf gl gs gn
  have hu3 := wk_ex_ok hu3
  have ix : ab_lo ≤ x ∧ x ≤ ab_hi := gs.2.1
  have iy : ab_lo ≤ y ∧ y ≤ ab_hi := gs.1
  show sm_E cl X pc (wk_lc L) (.int (Int32.ofInt y) :: .int (Int32.ofInt x) :: r.map wk_c) ad G.2 μ
  refine sm_iushr hX d ?_
  have q := kk _ _ _ _ (hu3 ) μ e gm gf gl ⟨⟨ab_min _, ab_max _⟩, gs.2.2⟩ gn
  have q : sm_E cl X (pc + 1) (wk_lc L) (.int (Int32.ofInt (((Int32.ofInt x).toUInt32 >>> ((Int32.ofInt y).toUInt32 &&& Int32.toUInt32 31)).toInt32).toInt) :: r.map wk_c) ad G.2 μ := q
  rw [wk_io] at q
  exact q
theorem wk_in_idiv {cl : List vw_C} {X : sm_X} {cc : ByteArray} {own : String} {Ts : List Cond} {rm : Room} {N Sz : Nat} {ini : Bool} {nl : Nat} {ret : Option FieldType} (hX : sm_ok cl X cc nl own Ts ret rm N Sz ini) {G : ab_G} (hG : ab_Gok G) {R : wk_R} (hR : wk_Rok G R) {K : dp_K} {ys : Nat → MethodName} {wss : Nat → List Cond} (hK : dp_Kok cl X.1.2.2.2 own Ts ys wss K) {lvl : Nat} (hfr : lvl ≤ rm.frames) (hlo : 32 * lvl ≤ rm.locals) (hN : G.2.length ≤ N) (hSz : sm_sl G.2 ≤ Sz) {W : List Nat} {ad : Nat → Nat} {μ0 : sm_M} {fin : Option wk_V → wk_M → Prop} (hf : sm_fin cl X ad G.2 0 0 (wk_Q G W μ0 fin)) {pc len : Nat} {L : wk_L} {st : List wk_V} {n : wk_N} {k : wk_K} (kk : ∀ (pc' : Nat) (L' : wk_L) (st' : List wk_V) (n' : wk_N), k pc' L' st' n' → wk_J cl X G W nl ad μ0 pc' L' st' n')  (d : decode cc pc = .ok (.idiv, len)) (h : wk_in K G R nl ret W (wk_cl cl X.1 ys wss G lvl W) fin pc L st n .idiv len k) : wk_J cl X G W nl ad μ0 pc L st n := by
  obtain ⟨hl, hu1⟩ := wk_g_ok h
  clear h
  have hl := dp_beq hl
  subst hl
  obtain ⟨y, r, rfl, hu2⟩ := wk_1i_ok hu1
  clear hu1
  obtain ⟨x, r, rfl, hu3⟩ := wk_1i_ok hu2
  clear hu2
  intro μ e gm gf gl gs gn
  have ix : ab_lo ≤ x ∧ x ≤ ab_hi := gs.2.1
  have iy : ab_lo ≤ y ∧ y ≤ ab_hi := gs.1
  show sm_E cl X pc (wk_lc L) (.int (Int32.ofInt y) :: .int (Int32.ofInt x) :: r.map wk_c) ad G.2 μ
  rcases hu3 with ⟨h1, h2, hu3⟩ | ⟨h1, hu3⟩
  · obtain ⟨a, b, c⟩ := wk_dv ix iy h1 h2
    refine sm_idiv hX d (fun z => ?_) ?_
    · rw [wk_z0, wk_eqI iy wk_v0] at z
      omega
    · rw [← c]
      exact kk _ _ _ _ (hu3 a b) μ e gm gf gl ⟨⟨by have z := wk_v0.1; exact Int.le_trans z a, Int.le_trans b ix.2⟩, gs.2.2⟩ gn
  · have hu3 := wk_ex_ok hu3
    refine sm_idiv hX d (fun z => h1 ((wk_eqI iy wk_v0).mp (z.trans wk_z0))) ?_
    have q := kk _ _ _ _ hu3 μ e gm gf gl ⟨⟨ab_min _, ab_max _⟩, gs.2.2⟩ gn
    have q : sm_E cl X (pc + 1) (wk_lc L) (.int (Int32.ofInt (Int32.ofInt x / Int32.ofInt y).toInt) :: r.map wk_c) ad G.2 μ := q
    rw [wk_io] at q
    exact q
theorem wk_in_irem {cl : List vw_C} {X : sm_X} {cc : ByteArray} {own : String} {Ts : List Cond} {rm : Room} {N Sz : Nat} {ini : Bool} {nl : Nat} {ret : Option FieldType} (hX : sm_ok cl X cc nl own Ts ret rm N Sz ini) {G : ab_G} (hG : ab_Gok G) {R : wk_R} (hR : wk_Rok G R) {K : dp_K} {ys : Nat → MethodName} {wss : Nat → List Cond} (hK : dp_Kok cl X.1.2.2.2 own Ts ys wss K) {lvl : Nat} (hfr : lvl ≤ rm.frames) (hlo : 32 * lvl ≤ rm.locals) (hN : G.2.length ≤ N) (hSz : sm_sl G.2 ≤ Sz) {W : List Nat} {ad : Nat → Nat} {μ0 : sm_M} {fin : Option wk_V → wk_M → Prop} (hf : sm_fin cl X ad G.2 0 0 (wk_Q G W μ0 fin)) {pc len : Nat} {L : wk_L} {st : List wk_V} {n : wk_N} {k : wk_K} (kk : ∀ (pc' : Nat) (L' : wk_L) (st' : List wk_V) (n' : wk_N), k pc' L' st' n' → wk_J cl X G W nl ad μ0 pc' L' st' n')  (d : decode cc pc = .ok (.irem, len)) (h : wk_in K G R nl ret W (wk_cl cl X.1 ys wss G lvl W) fin pc L st n .irem len k) : wk_J cl X G W nl ad μ0 pc L st n := by
  obtain ⟨hl, hu1⟩ := wk_g_ok h
  clear h
  have hl := dp_beq hl
  subst hl
  obtain ⟨y, r, rfl, hu2⟩ := wk_1i_ok hu1
  clear hu1
  obtain ⟨x, r, rfl, hu3⟩ := wk_1i_ok hu2
  clear hu2
  intro μ e gm gf gl gs gn
  have ix : ab_lo ≤ x ∧ x ≤ ab_hi := gs.2.1
  have iy : ab_lo ≤ y ∧ y ≤ ab_hi := gs.1
  show sm_E cl X pc (wk_lc L) (.int (Int32.ofInt y) :: .int (Int32.ofInt x) :: r.map wk_c) ad G.2 μ
  rcases hu3 with ⟨h1, h2, hu3⟩ | ⟨h1, hu3⟩
  · obtain ⟨a, b, c⟩ := wk_rm ix iy h1 h2
    refine sm_irem hX d (fun z => ?_) ?_
    · rw [wk_z0, wk_eqI iy wk_v0] at z
      omega
    · rw [← c]
      exact kk _ _ _ _ (hu3 a b) μ e gm gf gl ⟨⟨by have z := wk_v0.1; exact Int.le_trans z a, Int.le_trans (Int.le_of_lt b) iy.2⟩, gs.2.2⟩ gn
  · have hu3 := wk_ex_ok hu3
    refine sm_irem hX d (fun z => h1 ((wk_eqI iy wk_v0).mp (z.trans wk_z0))) ?_
    have q := kk _ _ _ _ hu3 μ e gm gf gl ⟨⟨ab_min _, ab_max _⟩, gs.2.2⟩ gn
    have q : sm_E cl X (pc + 1) (wk_lc L) (.int (Int32.ofInt (Int32.ofInt x - Int32.ofInt x / Int32.ofInt y * Int32.ofInt y).toInt) :: r.map wk_c) ad G.2 μ := q
    rw [wk_io] at q
    exact q
theorem wk_in_land {cl : List vw_C} {X : sm_X} {cc : ByteArray} {own : String} {Ts : List Cond} {rm : Room} {N Sz : Nat} {ini : Bool} {nl : Nat} {ret : Option FieldType} (hX : sm_ok cl X cc nl own Ts ret rm N Sz ini) {G : ab_G} (hG : ab_Gok G) {R : wk_R} (hR : wk_Rok G R) {K : dp_K} {ys : Nat → MethodName} {wss : Nat → List Cond} (hK : dp_Kok cl X.1.2.2.2 own Ts ys wss K) {lvl : Nat} (hfr : lvl ≤ rm.frames) (hlo : 32 * lvl ≤ rm.locals) (hN : G.2.length ≤ N) (hSz : sm_sl G.2 ≤ Sz) {W : List Nat} {ad : Nat → Nat} {μ0 : sm_M} {fin : Option wk_V → wk_M → Prop} (hf : sm_fin cl X ad G.2 0 0 (wk_Q G W μ0 fin)) {pc len : Nat} {L : wk_L} {st : List wk_V} {n : wk_N} {k : wk_K} (kk : ∀ (pc' : Nat) (L' : wk_L) (st' : List wk_V) (n' : wk_N), k pc' L' st' n' → wk_J cl X G W nl ad μ0 pc' L' st' n')  (d : decode cc pc = .ok (.land, len)) (h : wk_in K G R nl ret W (wk_cl cl X.1 ys wss G lvl W) fin pc L st n .land len k) : wk_J cl X G W nl ad μ0 pc L st n := by
  obtain ⟨hl, hu1⟩ := wk_g_ok h
  clear h
  have hl := dp_beq hl
  subst hl
  obtain ⟨y, r, rfl, hu2⟩ := wk_1l_ok hu1
  clear hu1
  obtain ⟨x, r, rfl, hu3⟩ := wk_1l_ok hu2
  clear hu2
  intro μ e gm gf gl gs gn
  show sm_E cl X pc (wk_lc L) (.long y :: .long x :: r.map wk_c) ad G.2 μ
  exact sm_land hX d (kk _ _ _ _ hu3 μ e gm gf gl ⟨trivial, gs.2.2⟩ gn)
theorem wk_in_lor {cl : List vw_C} {X : sm_X} {cc : ByteArray} {own : String} {Ts : List Cond} {rm : Room} {N Sz : Nat} {ini : Bool} {nl : Nat} {ret : Option FieldType} (hX : sm_ok cl X cc nl own Ts ret rm N Sz ini) {G : ab_G} (hG : ab_Gok G) {R : wk_R} (hR : wk_Rok G R) {K : dp_K} {ys : Nat → MethodName} {wss : Nat → List Cond} (hK : dp_Kok cl X.1.2.2.2 own Ts ys wss K) {lvl : Nat} (hfr : lvl ≤ rm.frames) (hlo : 32 * lvl ≤ rm.locals) (hN : G.2.length ≤ N) (hSz : sm_sl G.2 ≤ Sz) {W : List Nat} {ad : Nat → Nat} {μ0 : sm_M} {fin : Option wk_V → wk_M → Prop} (hf : sm_fin cl X ad G.2 0 0 (wk_Q G W μ0 fin)) {pc len : Nat} {L : wk_L} {st : List wk_V} {n : wk_N} {k : wk_K} (kk : ∀ (pc' : Nat) (L' : wk_L) (st' : List wk_V) (n' : wk_N), k pc' L' st' n' → wk_J cl X G W nl ad μ0 pc' L' st' n')  (d : decode cc pc = .ok (.lor, len)) (h : wk_in K G R nl ret W (wk_cl cl X.1 ys wss G lvl W) fin pc L st n .lor len k) : wk_J cl X G W nl ad μ0 pc L st n := by
  obtain ⟨hl, hu1⟩ := wk_g_ok h
  clear h
  have hl := dp_beq hl
  subst hl
  obtain ⟨y, r, rfl, hu2⟩ := wk_1l_ok hu1
  clear hu1
  obtain ⟨x, r, rfl, hu3⟩ := wk_1l_ok hu2
  clear hu2
  intro μ e gm gf gl gs gn
  show sm_E cl X pc (wk_lc L) (.long y :: .long x :: r.map wk_c) ad G.2 μ
  exact sm_lor hX d (kk _ _ _ _ hu3 μ e gm gf gl ⟨trivial, gs.2.2⟩ gn)
theorem wk_in_lxor {cl : List vw_C} {X : sm_X} {cc : ByteArray} {own : String} {Ts : List Cond} {rm : Room} {N Sz : Nat} {ini : Bool} {nl : Nat} {ret : Option FieldType} (hX : sm_ok cl X cc nl own Ts ret rm N Sz ini) {G : ab_G} (hG : ab_Gok G) {R : wk_R} (hR : wk_Rok G R) {K : dp_K} {ys : Nat → MethodName} {wss : Nat → List Cond} (hK : dp_Kok cl X.1.2.2.2 own Ts ys wss K) {lvl : Nat} (hfr : lvl ≤ rm.frames) (hlo : 32 * lvl ≤ rm.locals) (hN : G.2.length ≤ N) (hSz : sm_sl G.2 ≤ Sz) {W : List Nat} {ad : Nat → Nat} {μ0 : sm_M} {fin : Option wk_V → wk_M → Prop} (hf : sm_fin cl X ad G.2 0 0 (wk_Q G W μ0 fin)) {pc len : Nat} {L : wk_L} {st : List wk_V} {n : wk_N} {k : wk_K} (kk : ∀ (pc' : Nat) (L' : wk_L) (st' : List wk_V) (n' : wk_N), k pc' L' st' n' → wk_J cl X G W nl ad μ0 pc' L' st' n')  (d : decode cc pc = .ok (.lxor, len)) (h : wk_in K G R nl ret W (wk_cl cl X.1 ys wss G lvl W) fin pc L st n .lxor len k) : wk_J cl X G W nl ad μ0 pc L st n := by
  obtain ⟨hl, hu1⟩ := wk_g_ok h
  clear h
  have hl := dp_beq hl
  subst hl
  obtain ⟨y, r, rfl, hu2⟩ := wk_1l_ok hu1
  clear hu1
  obtain ⟨x, r, rfl, hu3⟩ := wk_1l_ok hu2
  clear hu2
  intro μ e gm gf gl gs gn
  show sm_E cl X pc (wk_lc L) (.long y :: .long x :: r.map wk_c) ad G.2 μ
  exact sm_lxor hX d (kk _ _ _ _ hu3 μ e gm gf gl ⟨trivial, gs.2.2⟩ gn)
theorem wk_in_ladd {cl : List vw_C} {X : sm_X} {cc : ByteArray} {own : String} {Ts : List Cond} {rm : Room} {N Sz : Nat} {ini : Bool} {nl : Nat} {ret : Option FieldType} (hX : sm_ok cl X cc nl own Ts ret rm N Sz ini) {G : ab_G} (hG : ab_Gok G) {R : wk_R} (hR : wk_Rok G R) {K : dp_K} {ys : Nat → MethodName} {wss : Nat → List Cond} (hK : dp_Kok cl X.1.2.2.2 own Ts ys wss K) {lvl : Nat} (hfr : lvl ≤ rm.frames) (hlo : 32 * lvl ≤ rm.locals) (hN : G.2.length ≤ N) (hSz : sm_sl G.2 ≤ Sz) {W : List Nat} {ad : Nat → Nat} {μ0 : sm_M} {fin : Option wk_V → wk_M → Prop} (hf : sm_fin cl X ad G.2 0 0 (wk_Q G W μ0 fin)) {pc len : Nat} {L : wk_L} {st : List wk_V} {n : wk_N} {k : wk_K} (kk : ∀ (pc' : Nat) (L' : wk_L) (st' : List wk_V) (n' : wk_N), k pc' L' st' n' → wk_J cl X G W nl ad μ0 pc' L' st' n')  (d : decode cc pc = .ok (.ladd, len)) (h : wk_in K G R nl ret W (wk_cl cl X.1 ys wss G lvl W) fin pc L st n .ladd len k) : wk_J cl X G W nl ad μ0 pc L st n := by
  obtain ⟨hl, hu1⟩ := wk_g_ok h
  clear h
  have hl := dp_beq hl
  subst hl
  obtain ⟨y, r, rfl, hu2⟩ := wk_1l_ok hu1
  clear hu1
  obtain ⟨x, r, rfl, hu3⟩ := wk_1l_ok hu2
  clear hu2
  intro μ e gm gf gl gs gn
  show sm_E cl X pc (wk_lc L) (.long y :: .long x :: r.map wk_c) ad G.2 μ
  exact sm_ladd hX d (kk _ _ _ _ hu3 μ e gm gf gl ⟨trivial, gs.2.2⟩ gn)
theorem wk_in_lsub {cl : List vw_C} {X : sm_X} {cc : ByteArray} {own : String} {Ts : List Cond} {rm : Room} {N Sz : Nat} {ini : Bool} {nl : Nat} {ret : Option FieldType} (hX : sm_ok cl X cc nl own Ts ret rm N Sz ini) {G : ab_G} (hG : ab_Gok G) {R : wk_R} (hR : wk_Rok G R) {K : dp_K} {ys : Nat → MethodName} {wss : Nat → List Cond} (hK : dp_Kok cl X.1.2.2.2 own Ts ys wss K) {lvl : Nat} (hfr : lvl ≤ rm.frames) (hlo : 32 * lvl ≤ rm.locals) (hN : G.2.length ≤ N) (hSz : sm_sl G.2 ≤ Sz) {W : List Nat} {ad : Nat → Nat} {μ0 : sm_M} {fin : Option wk_V → wk_M → Prop} (hf : sm_fin cl X ad G.2 0 0 (wk_Q G W μ0 fin)) {pc len : Nat} {L : wk_L} {st : List wk_V} {n : wk_N} {k : wk_K} (kk : ∀ (pc' : Nat) (L' : wk_L) (st' : List wk_V) (n' : wk_N), k pc' L' st' n' → wk_J cl X G W nl ad μ0 pc' L' st' n')  (d : decode cc pc = .ok (.lsub, len)) (h : wk_in K G R nl ret W (wk_cl cl X.1 ys wss G lvl W) fin pc L st n .lsub len k) : wk_J cl X G W nl ad μ0 pc L st n := by
  obtain ⟨hl, hu1⟩ := wk_g_ok h
  clear h
  have hl := dp_beq hl
  subst hl
  obtain ⟨y, r, rfl, hu2⟩ := wk_1l_ok hu1
  clear hu1
  obtain ⟨x, r, rfl, hu3⟩ := wk_1l_ok hu2
  clear hu2
  intro μ e gm gf gl gs gn
  show sm_E cl X pc (wk_lc L) (.long y :: .long x :: r.map wk_c) ad G.2 μ
  exact sm_lsub hX d (kk _ _ _ _ hu3 μ e gm gf gl ⟨trivial, gs.2.2⟩ gn)
theorem wk_in_lshl {cl : List vw_C} {X : sm_X} {cc : ByteArray} {own : String} {Ts : List Cond} {rm : Room} {N Sz : Nat} {ini : Bool} {nl : Nat} {ret : Option FieldType} (hX : sm_ok cl X cc nl own Ts ret rm N Sz ini) {G : ab_G} (hG : ab_Gok G) {R : wk_R} (hR : wk_Rok G R) {K : dp_K} {ys : Nat → MethodName} {wss : Nat → List Cond} (hK : dp_Kok cl X.1.2.2.2 own Ts ys wss K) {lvl : Nat} (hfr : lvl ≤ rm.frames) (hlo : 32 * lvl ≤ rm.locals) (hN : G.2.length ≤ N) (hSz : sm_sl G.2 ≤ Sz) {W : List Nat} {ad : Nat → Nat} {μ0 : sm_M} {fin : Option wk_V → wk_M → Prop} (hf : sm_fin cl X ad G.2 0 0 (wk_Q G W μ0 fin)) {pc len : Nat} {L : wk_L} {st : List wk_V} {n : wk_N} {k : wk_K} (kk : ∀ (pc' : Nat) (L' : wk_L) (st' : List wk_V) (n' : wk_N), k pc' L' st' n' → wk_J cl X G W nl ad μ0 pc' L' st' n')  (d : decode cc pc = .ok (.lshl, len)) (h : wk_in K G R nl ret W (wk_cl cl X.1 ys wss G lvl W) fin pc L st n .lshl len k) : wk_J cl X G W nl ad μ0 pc L st n := by
  obtain ⟨hl, hu1⟩ := wk_g_ok h
  clear h
  have hl := dp_beq hl
  subst hl
  obtain ⟨y, r, rfl, hu2⟩ := wk_1i_ok hu1
  clear hu1
  obtain ⟨x, r, rfl, hu3⟩ := wk_1l_ok hu2
  clear hu2
  intro μ e gm gf gl gs gn
  show sm_E cl X pc (wk_lc L) (.int (Int32.ofInt y) :: .long x :: r.map wk_c) ad G.2 μ
  exact sm_lshl hX d (kk _ _ _ _ hu3 μ e gm gf gl ⟨trivial, gs.2.2⟩ gn)
theorem wk_in_lshr {cl : List vw_C} {X : sm_X} {cc : ByteArray} {own : String} {Ts : List Cond} {rm : Room} {N Sz : Nat} {ini : Bool} {nl : Nat} {ret : Option FieldType} (hX : sm_ok cl X cc nl own Ts ret rm N Sz ini) {G : ab_G} (hG : ab_Gok G) {R : wk_R} (hR : wk_Rok G R) {K : dp_K} {ys : Nat → MethodName} {wss : Nat → List Cond} (hK : dp_Kok cl X.1.2.2.2 own Ts ys wss K) {lvl : Nat} (hfr : lvl ≤ rm.frames) (hlo : 32 * lvl ≤ rm.locals) (hN : G.2.length ≤ N) (hSz : sm_sl G.2 ≤ Sz) {W : List Nat} {ad : Nat → Nat} {μ0 : sm_M} {fin : Option wk_V → wk_M → Prop} (hf : sm_fin cl X ad G.2 0 0 (wk_Q G W μ0 fin)) {pc len : Nat} {L : wk_L} {st : List wk_V} {n : wk_N} {k : wk_K} (kk : ∀ (pc' : Nat) (L' : wk_L) (st' : List wk_V) (n' : wk_N), k pc' L' st' n' → wk_J cl X G W nl ad μ0 pc' L' st' n')  (d : decode cc pc = .ok (.lshr, len)) (h : wk_in K G R nl ret W (wk_cl cl X.1 ys wss G lvl W) fin pc L st n .lshr len k) : wk_J cl X G W nl ad μ0 pc L st n := by
  obtain ⟨hl, hu1⟩ := wk_g_ok h
  clear h
  have hl := dp_beq hl
  subst hl
  obtain ⟨y, r, rfl, hu2⟩ := wk_1i_ok hu1
  clear hu1
  obtain ⟨x, r, rfl, hu3⟩ := wk_1l_ok hu2
  clear hu2
  intro μ e gm gf gl gs gn
  show sm_E cl X pc (wk_lc L) (.int (Int32.ofInt y) :: .long x :: r.map wk_c) ad G.2 μ
  exact sm_lshr hX d (kk _ _ _ _ hu3 μ e gm gf gl ⟨trivial, gs.2.2⟩ gn)
theorem wk_in_lushr {cl : List vw_C} {X : sm_X} {cc : ByteArray} {own : String} {Ts : List Cond} {rm : Room} {N Sz : Nat} {ini : Bool} {nl : Nat} {ret : Option FieldType} (hX : sm_ok cl X cc nl own Ts ret rm N Sz ini) {G : ab_G} (hG : ab_Gok G) {R : wk_R} (hR : wk_Rok G R) {K : dp_K} {ys : Nat → MethodName} {wss : Nat → List Cond} (hK : dp_Kok cl X.1.2.2.2 own Ts ys wss K) {lvl : Nat} (hfr : lvl ≤ rm.frames) (hlo : 32 * lvl ≤ rm.locals) (hN : G.2.length ≤ N) (hSz : sm_sl G.2 ≤ Sz) {W : List Nat} {ad : Nat → Nat} {μ0 : sm_M} {fin : Option wk_V → wk_M → Prop} (hf : sm_fin cl X ad G.2 0 0 (wk_Q G W μ0 fin)) {pc len : Nat} {L : wk_L} {st : List wk_V} {n : wk_N} {k : wk_K} (kk : ∀ (pc' : Nat) (L' : wk_L) (st' : List wk_V) (n' : wk_N), k pc' L' st' n' → wk_J cl X G W nl ad μ0 pc' L' st' n')  (d : decode cc pc = .ok (.lushr, len)) (h : wk_in K G R nl ret W (wk_cl cl X.1 ys wss G lvl W) fin pc L st n .lushr len k) : wk_J cl X G W nl ad μ0 pc L st n := by
  obtain ⟨hl, hu1⟩ := wk_g_ok h
  clear h
  have hl := dp_beq hl
  subst hl
  obtain ⟨y, r, rfl, hu2⟩ := wk_1i_ok hu1
  clear hu1
  obtain ⟨x, r, rfl, hu3⟩ := wk_1l_ok hu2
  clear hu2
  intro μ e gm gf gl gs gn
  show sm_E cl X pc (wk_lc L) (.int (Int32.ofInt y) :: .long x :: r.map wk_c) ad G.2 μ
  exact sm_lushr hX d (kk _ _ _ _ hu3 μ e gm gf gl ⟨trivial, gs.2.2⟩ gn)
theorem wk_in_lcmp {cl : List vw_C} {X : sm_X} {cc : ByteArray} {own : String} {Ts : List Cond} {rm : Room} {N Sz : Nat} {ini : Bool} {nl : Nat} {ret : Option FieldType} (hX : sm_ok cl X cc nl own Ts ret rm N Sz ini) {G : ab_G} (hG : ab_Gok G) {R : wk_R} (hR : wk_Rok G R) {K : dp_K} {ys : Nat → MethodName} {wss : Nat → List Cond} (hK : dp_Kok cl X.1.2.2.2 own Ts ys wss K) {lvl : Nat} (hfr : lvl ≤ rm.frames) (hlo : 32 * lvl ≤ rm.locals) (hN : G.2.length ≤ N) (hSz : sm_sl G.2 ≤ Sz) {W : List Nat} {ad : Nat → Nat} {μ0 : sm_M} {fin : Option wk_V → wk_M → Prop} (hf : sm_fin cl X ad G.2 0 0 (wk_Q G W μ0 fin)) {pc len : Nat} {L : wk_L} {st : List wk_V} {n : wk_N} {k : wk_K} (kk : ∀ (pc' : Nat) (L' : wk_L) (st' : List wk_V) (n' : wk_N), k pc' L' st' n' → wk_J cl X G W nl ad μ0 pc' L' st' n')  (d : decode cc pc = .ok (.lcmp, len)) (h : wk_in K G R nl ret W (wk_cl cl X.1 ys wss G lvl W) fin pc L st n .lcmp len k) : wk_J cl X G W nl ad μ0 pc L st n := by
  obtain ⟨hl, hu1⟩ := wk_g_ok h
  clear h
  have hl := dp_beq hl
  subst hl
  obtain ⟨y, r, rfl, hu2⟩ := wk_1l_ok hu1
  clear hu1
  obtain ⟨x, r, rfl, hu3⟩ := wk_1l_ok hu2
  clear hu2
  intro μ e gm gf gl gs gn
  show sm_E cl X pc (wk_lc L) (.long y :: .long x :: r.map wk_c) ad G.2 μ
  have lc := ab_lcmp (S := fun _ => 0) (Lc := []) x y
  have q := kk _ _ _ _ (hu3 _ rfl lc.1 lc.2.1) μ e gm gf gl ⟨⟨ab_min _, ab_max _⟩, gs.2.2⟩ gn
  have q : sm_E cl X (pc + 1) (wk_lc L) (.int (Int32.ofInt (lg_cmp x y).toInt) :: r.map wk_c) ad G.2 μ := q
  rw [wk_io] at q
  exact sm_lcmp hX d q
theorem wk_in_i2l {cl : List vw_C} {X : sm_X} {cc : ByteArray} {own : String} {Ts : List Cond} {rm : Room} {N Sz : Nat} {ini : Bool} {nl : Nat} {ret : Option FieldType} (hX : sm_ok cl X cc nl own Ts ret rm N Sz ini) {G : ab_G} (hG : ab_Gok G) {R : wk_R} (hR : wk_Rok G R) {K : dp_K} {ys : Nat → MethodName} {wss : Nat → List Cond} (hK : dp_Kok cl X.1.2.2.2 own Ts ys wss K) {lvl : Nat} (hfr : lvl ≤ rm.frames) (hlo : 32 * lvl ≤ rm.locals) (hN : G.2.length ≤ N) (hSz : sm_sl G.2 ≤ Sz) {W : List Nat} {ad : Nat → Nat} {μ0 : sm_M} {fin : Option wk_V → wk_M → Prop} (hf : sm_fin cl X ad G.2 0 0 (wk_Q G W μ0 fin)) {pc len : Nat} {L : wk_L} {st : List wk_V} {n : wk_N} {k : wk_K} (kk : ∀ (pc' : Nat) (L' : wk_L) (st' : List wk_V) (n' : wk_N), k pc' L' st' n' → wk_J cl X G W nl ad μ0 pc' L' st' n')  (d : decode cc pc = .ok (.i2l, len)) (h : wk_in K G R nl ret W (wk_cl cl X.1 ys wss G lvl W) fin pc L st n .i2l len k) : wk_J cl X G W nl ad μ0 pc L st n := by
  obtain ⟨hl, hu1⟩ := wk_g_ok h
  clear h
  have hl := dp_beq hl
  subst hl
  obtain ⟨x, r, rfl, hu2⟩ := wk_1i_ok hu1
  clear hu1
  intro μ e gm gf gl gs gn
  show sm_E cl X pc (wk_lc L) (.int (Int32.ofInt x) :: r.map wk_c) ad G.2 μ
  exact sm_i2l hX d (kk _ _ _ _ hu2 μ e gm gf gl ⟨trivial, gs.2⟩ gn)
theorem wk_in_l2i {cl : List vw_C} {X : sm_X} {cc : ByteArray} {own : String} {Ts : List Cond} {rm : Room} {N Sz : Nat} {ini : Bool} {nl : Nat} {ret : Option FieldType} (hX : sm_ok cl X cc nl own Ts ret rm N Sz ini) {G : ab_G} (hG : ab_Gok G) {R : wk_R} (hR : wk_Rok G R) {K : dp_K} {ys : Nat → MethodName} {wss : Nat → List Cond} (hK : dp_Kok cl X.1.2.2.2 own Ts ys wss K) {lvl : Nat} (hfr : lvl ≤ rm.frames) (hlo : 32 * lvl ≤ rm.locals) (hN : G.2.length ≤ N) (hSz : sm_sl G.2 ≤ Sz) {W : List Nat} {ad : Nat → Nat} {μ0 : sm_M} {fin : Option wk_V → wk_M → Prop} (hf : sm_fin cl X ad G.2 0 0 (wk_Q G W μ0 fin)) {pc len : Nat} {L : wk_L} {st : List wk_V} {n : wk_N} {k : wk_K} (kk : ∀ (pc' : Nat) (L' : wk_L) (st' : List wk_V) (n' : wk_N), k pc' L' st' n' → wk_J cl X G W nl ad μ0 pc' L' st' n')  (d : decode cc pc = .ok (.l2i, len)) (h : wk_in K G R nl ret W (wk_cl cl X.1 ys wss G lvl W) fin pc L st n .l2i len k) : wk_J cl X G W nl ad μ0 pc L st n := by
  obtain ⟨hl, hu1⟩ := wk_g_ok h
  clear h
  have hl := dp_beq hl
  subst hl
  obtain ⟨x, r, rfl, hu2⟩ := wk_1l_ok hu1
  clear hu1
  intro μ e gm gf gl gs gn
  show sm_E cl X pc (wk_lc L) (.long x :: r.map wk_c) ad G.2 μ
  have q := kk _ _ _ _ (wk_ex_ok hu2) μ e gm gf gl ⟨⟨ab_min _, ab_max _⟩, gs.2⟩ gn
  have q : sm_E cl X (pc + 1) (wk_lc L) (.int (Int32.ofInt x.toInt32.toInt) :: r.map wk_c) ad G.2 μ := q
  rw [wk_io] at q
  exact sm_l2i hX d q
theorem wk_in_iconst {cl : List vw_C} {X : sm_X} {cc : ByteArray} {own : String} {Ts : List Cond} {rm : Room} {N Sz : Nat} {ini : Bool} {nl : Nat} {ret : Option FieldType} (hX : sm_ok cl X cc nl own Ts ret rm N Sz ini) {G : ab_G} (hG : ab_Gok G) {R : wk_R} (hR : wk_Rok G R) {K : dp_K} {ys : Nat → MethodName} {wss : Nat → List Cond} (hK : dp_Kok cl X.1.2.2.2 own Ts ys wss K) {lvl : Nat} (hfr : lvl ≤ rm.frames) (hlo : 32 * lvl ≤ rm.locals) (hN : G.2.length ≤ N) (hSz : sm_sl G.2 ≤ Sz) {W : List Nat} {ad : Nat → Nat} {μ0 : sm_M} {fin : Option wk_V → wk_M → Prop} (hf : sm_fin cl X ad G.2 0 0 (wk_Q G W μ0 fin)) {pc len : Nat} {L : wk_L} {st : List wk_V} {n : wk_N} {k : wk_K} (kk : ∀ (pc' : Nat) (L' : wk_L) (st' : List wk_V) (n' : wk_N), k pc' L' st' n' → wk_J cl X G W nl ad μ0 pc' L' st' n') (i : Int) (d : decode cc pc = .ok ((.iconst i), len)) (h : wk_in K G R nl ret W (wk_cl cl X.1 ys wss G lvl W) fin pc L st n (.iconst i) len k) : wk_J cl X G W nl ad μ0 pc L st n := by
  obtain ⟨hl, hu1⟩ := wk_g_ok h
  clear h
  rw [Bool.and_eq_true, Bool.and_eq_true] at hl
  obtain ⟨hl, b1, b2⟩ := hl
  have hl := dp_beq hl
  have b1 := of_decide_eq_true b1
  have b2 := of_decide_eq_true b2
  subst hl
  intro μ e gm gf gl gs gn
  exact sm_iconst hX d (kk _ _ _ _ hu1 μ e gm gf gl ⟨⟨by show (-2147483648 : Int) ≤ i; omega, by show i ≤ (2147483647 : Int); omega⟩, gs⟩ gn)
theorem wk_in_bipush {cl : List vw_C} {X : sm_X} {cc : ByteArray} {own : String} {Ts : List Cond} {rm : Room} {N Sz : Nat} {ini : Bool} {nl : Nat} {ret : Option FieldType} (hX : sm_ok cl X cc nl own Ts ret rm N Sz ini) {G : ab_G} (hG : ab_Gok G) {R : wk_R} (hR : wk_Rok G R) {K : dp_K} {ys : Nat → MethodName} {wss : Nat → List Cond} (hK : dp_Kok cl X.1.2.2.2 own Ts ys wss K) {lvl : Nat} (hfr : lvl ≤ rm.frames) (hlo : 32 * lvl ≤ rm.locals) (hN : G.2.length ≤ N) (hSz : sm_sl G.2 ≤ Sz) {W : List Nat} {ad : Nat → Nat} {μ0 : sm_M} {fin : Option wk_V → wk_M → Prop} (hf : sm_fin cl X ad G.2 0 0 (wk_Q G W μ0 fin)) {pc len : Nat} {L : wk_L} {st : List wk_V} {n : wk_N} {k : wk_K} (kk : ∀ (pc' : Nat) (L' : wk_L) (st' : List wk_V) (n' : wk_N), k pc' L' st' n' → wk_J cl X G W nl ad μ0 pc' L' st' n') (i : Int) (d : decode cc pc = .ok ((.bipush i), len)) (h : wk_in K G R nl ret W (wk_cl cl X.1 ys wss G lvl W) fin pc L st n (.bipush i) len k) : wk_J cl X G W nl ad μ0 pc L st n := by
  obtain ⟨hl, hu1⟩ := wk_g_ok h
  clear h
  rw [Bool.and_eq_true, Bool.and_eq_true] at hl
  obtain ⟨hl, b1, b2⟩ := hl
  have hl := dp_beq hl
  have b1 := of_decide_eq_true b1
  have b2 := of_decide_eq_true b2
  subst hl
  intro μ e gm gf gl gs gn
  refine sm_bipush hX d ?_
  rw [wk_i8 b1 b2]
  exact kk _ _ _ _ hu1 μ e gm gf gl ⟨⟨by show (-2147483648 : Int) ≤ i; omega, by show i ≤ (2147483647 : Int); omega⟩, gs⟩ gn
theorem wk_in_sipush {cl : List vw_C} {X : sm_X} {cc : ByteArray} {own : String} {Ts : List Cond} {rm : Room} {N Sz : Nat} {ini : Bool} {nl : Nat} {ret : Option FieldType} (hX : sm_ok cl X cc nl own Ts ret rm N Sz ini) {G : ab_G} (hG : ab_Gok G) {R : wk_R} (hR : wk_Rok G R) {K : dp_K} {ys : Nat → MethodName} {wss : Nat → List Cond} (hK : dp_Kok cl X.1.2.2.2 own Ts ys wss K) {lvl : Nat} (hfr : lvl ≤ rm.frames) (hlo : 32 * lvl ≤ rm.locals) (hN : G.2.length ≤ N) (hSz : sm_sl G.2 ≤ Sz) {W : List Nat} {ad : Nat → Nat} {μ0 : sm_M} {fin : Option wk_V → wk_M → Prop} (hf : sm_fin cl X ad G.2 0 0 (wk_Q G W μ0 fin)) {pc len : Nat} {L : wk_L} {st : List wk_V} {n : wk_N} {k : wk_K} (kk : ∀ (pc' : Nat) (L' : wk_L) (st' : List wk_V) (n' : wk_N), k pc' L' st' n' → wk_J cl X G W nl ad μ0 pc' L' st' n') (i : Int) (d : decode cc pc = .ok ((.sipush i), len)) (h : wk_in K G R nl ret W (wk_cl cl X.1 ys wss G lvl W) fin pc L st n (.sipush i) len k) : wk_J cl X G W nl ad μ0 pc L st n := by
  obtain ⟨hl, hu1⟩ := wk_g_ok h
  clear h
  rw [Bool.and_eq_true, Bool.and_eq_true] at hl
  obtain ⟨hl, b1, b2⟩ := hl
  have hl := dp_beq hl
  have b1 := of_decide_eq_true b1
  have b2 := of_decide_eq_true b2
  subst hl
  intro μ e gm gf gl gs gn
  refine sm_sipush hX d ?_
  rw [wk_i16 b1 b2]
  exact kk _ _ _ _ hu1 μ e gm gf gl ⟨⟨by show (-2147483648 : Int) ≤ i; omega, by show i ≤ (2147483647 : Int); omega⟩, gs⟩ gn
theorem wk_in_lconst {cl : List vw_C} {X : sm_X} {cc : ByteArray} {own : String} {Ts : List Cond} {rm : Room} {N Sz : Nat} {ini : Bool} {nl : Nat} {ret : Option FieldType} (hX : sm_ok cl X cc nl own Ts ret rm N Sz ini) {G : ab_G} (hG : ab_Gok G) {R : wk_R} (hR : wk_Rok G R) {K : dp_K} {ys : Nat → MethodName} {wss : Nat → List Cond} (hK : dp_Kok cl X.1.2.2.2 own Ts ys wss K) {lvl : Nat} (hfr : lvl ≤ rm.frames) (hlo : 32 * lvl ≤ rm.locals) (hN : G.2.length ≤ N) (hSz : sm_sl G.2 ≤ Sz) {W : List Nat} {ad : Nat → Nat} {μ0 : sm_M} {fin : Option wk_V → wk_M → Prop} (hf : sm_fin cl X ad G.2 0 0 (wk_Q G W μ0 fin)) {pc len : Nat} {L : wk_L} {st : List wk_V} {n : wk_N} {k : wk_K} (kk : ∀ (pc' : Nat) (L' : wk_L) (st' : List wk_V) (n' : wk_N), k pc' L' st' n' → wk_J cl X G W nl ad μ0 pc' L' st' n') (i : Fin 2) (d : decode cc pc = .ok ((.lconst i), len)) (h : wk_in K G R nl ret W (wk_cl cl X.1 ys wss G lvl W) fin pc L st n (.lconst i) len k) : wk_J cl X G W nl ad μ0 pc L st n := by
  obtain ⟨hl, hu1⟩ := wk_g_ok h
  clear h
  have hl := dp_beq hl
  subst hl
  intro μ e gm gf gl gs gn
  exact sm_lconst hX d (kk _ _ _ _ hu1 μ e gm gf gl ⟨trivial, gs⟩ gn)
theorem wk_in_ldc {cl : List vw_C} {X : sm_X} {cc : ByteArray} {own : String} {Ts : List Cond} {rm : Room} {N Sz : Nat} {ini : Bool} {nl : Nat} {ret : Option FieldType} (hX : sm_ok cl X cc nl own Ts ret rm N Sz ini) {G : ab_G} (hG : ab_Gok G) {R : wk_R} (hR : wk_Rok G R) {K : dp_K} {ys : Nat → MethodName} {wss : Nat → List Cond} (hK : dp_Kok cl X.1.2.2.2 own Ts ys wss K) {lvl : Nat} (hfr : lvl ≤ rm.frames) (hlo : 32 * lvl ≤ rm.locals) (hN : G.2.length ≤ N) (hSz : sm_sl G.2 ≤ Sz) {W : List Nat} {ad : Nat → Nat} {μ0 : sm_M} {fin : Option wk_V → wk_M → Prop} (hf : sm_fin cl X ad G.2 0 0 (wk_Q G W μ0 fin)) {pc len : Nat} {L : wk_L} {st : List wk_V} {n : wk_N} {k : wk_K} (kk : ∀ (pc' : Nat) (L' : wk_L) (st' : List wk_V) (n' : wk_N), k pc' L' st' n' → wk_J cl X G W nl ad μ0 pc' L' st' n') (i : Nat) (d : decode cc pc = .ok ((.ldc i), len)) (h : wk_in K G R nl ret W (wk_cl cl X.1 ys wss G lvl W) fin pc L st n (.ldc i) len k) : wk_J cl X G W nl ad μ0 pc L st n := by
  obtain ⟨hl, hu1⟩ := wk_g_ok h
  clear h
  have hl := dp_beq hl
  subst hl
  obtain ⟨v, hv, hu2⟩ := wk_o_ok hu1
  clear hu1
  intro μ e gm gf gl gs gn
  refine sm_ldc hX d (hK.2.1 _ _ hv) ?_
  have q := kk _ _ _ _ (wk_ex_ok hu2) μ e gm gf gl ⟨⟨ab_min _, ab_max _⟩, gs⟩ gn
  have q : sm_E cl X (pc + 2) (wk_lc L) (.int (Int32.ofInt v.toInt) :: st.map wk_c) ad G.2 μ := q
  rw [wk_io] at q
  exact q
theorem wk_in_ldc2_w {cl : List vw_C} {X : sm_X} {cc : ByteArray} {own : String} {Ts : List Cond} {rm : Room} {N Sz : Nat} {ini : Bool} {nl : Nat} {ret : Option FieldType} (hX : sm_ok cl X cc nl own Ts ret rm N Sz ini) {G : ab_G} (hG : ab_Gok G) {R : wk_R} (hR : wk_Rok G R) {K : dp_K} {ys : Nat → MethodName} {wss : Nat → List Cond} (hK : dp_Kok cl X.1.2.2.2 own Ts ys wss K) {lvl : Nat} (hfr : lvl ≤ rm.frames) (hlo : 32 * lvl ≤ rm.locals) (hN : G.2.length ≤ N) (hSz : sm_sl G.2 ≤ Sz) {W : List Nat} {ad : Nat → Nat} {μ0 : sm_M} {fin : Option wk_V → wk_M → Prop} (hf : sm_fin cl X ad G.2 0 0 (wk_Q G W μ0 fin)) {pc len : Nat} {L : wk_L} {st : List wk_V} {n : wk_N} {k : wk_K} (kk : ∀ (pc' : Nat) (L' : wk_L) (st' : List wk_V) (n' : wk_N), k pc' L' st' n' → wk_J cl X G W nl ad μ0 pc' L' st' n') (i : Nat) (d : decode cc pc = .ok ((.ldc2_w i), len)) (h : wk_in K G R nl ret W (wk_cl cl X.1 ys wss G lvl W) fin pc L st n (.ldc2_w i) len k) : wk_J cl X G W nl ad μ0 pc L st n := by
  obtain ⟨hl, hu1⟩ := wk_g_ok h
  clear h
  have hl := dp_beq hl
  subst hl
  obtain ⟨v, hv, hu2⟩ := wk_o_ok hu1
  clear hu1
  intro μ e gm gf gl gs gn
  exact sm_ldc2 hX d (hK.2.2.1 _ _ hv) (kk _ _ _ _ hu2 μ e gm gf gl ⟨trivial, gs⟩ gn)
theorem wk_in_dup {cl : List vw_C} {X : sm_X} {cc : ByteArray} {own : String} {Ts : List Cond} {rm : Room} {N Sz : Nat} {ini : Bool} {nl : Nat} {ret : Option FieldType} (hX : sm_ok cl X cc nl own Ts ret rm N Sz ini) {G : ab_G} (hG : ab_Gok G) {R : wk_R} (hR : wk_Rok G R) {K : dp_K} {ys : Nat → MethodName} {wss : Nat → List Cond} (hK : dp_Kok cl X.1.2.2.2 own Ts ys wss K) {lvl : Nat} (hfr : lvl ≤ rm.frames) (hlo : 32 * lvl ≤ rm.locals) (hN : G.2.length ≤ N) (hSz : sm_sl G.2 ≤ Sz) {W : List Nat} {ad : Nat → Nat} {μ0 : sm_M} {fin : Option wk_V → wk_M → Prop} (hf : sm_fin cl X ad G.2 0 0 (wk_Q G W μ0 fin)) {pc len : Nat} {L : wk_L} {st : List wk_V} {n : wk_N} {k : wk_K} (kk : ∀ (pc' : Nat) (L' : wk_L) (st' : List wk_V) (n' : wk_N), k pc' L' st' n' → wk_J cl X G W nl ad μ0 pc' L' st' n')  (d : decode cc pc = .ok (.dup, len)) (h : wk_in K G R nl ret W (wk_cl cl X.1 ys wss G lvl W) fin pc L st n .dup len k) : wk_J cl X G W nl ad μ0 pc L st n := by
  obtain ⟨hl, hu1⟩ := wk_g_ok h
  clear h
  have hl := dp_beq hl
  subst hl
  obtain ⟨a, r, rfl, hu2⟩ := wk_1v_ok hu1
  clear hu1
  obtain ⟨h1, hu3⟩ := wk_g_ok hu2
  clear hu2
  intro μ e gm gf gl gs gn
  exact sm_dup hX d ((wk_cat_ok a).trans (dp_beq h1)) (kk _ _ _ _ hu3 μ e gm gf gl ⟨gs.1, gs.1, gs.2⟩ gn)
theorem wk_in_pop {cl : List vw_C} {X : sm_X} {cc : ByteArray} {own : String} {Ts : List Cond} {rm : Room} {N Sz : Nat} {ini : Bool} {nl : Nat} {ret : Option FieldType} (hX : sm_ok cl X cc nl own Ts ret rm N Sz ini) {G : ab_G} (hG : ab_Gok G) {R : wk_R} (hR : wk_Rok G R) {K : dp_K} {ys : Nat → MethodName} {wss : Nat → List Cond} (hK : dp_Kok cl X.1.2.2.2 own Ts ys wss K) {lvl : Nat} (hfr : lvl ≤ rm.frames) (hlo : 32 * lvl ≤ rm.locals) (hN : G.2.length ≤ N) (hSz : sm_sl G.2 ≤ Sz) {W : List Nat} {ad : Nat → Nat} {μ0 : sm_M} {fin : Option wk_V → wk_M → Prop} (hf : sm_fin cl X ad G.2 0 0 (wk_Q G W μ0 fin)) {pc len : Nat} {L : wk_L} {st : List wk_V} {n : wk_N} {k : wk_K} (kk : ∀ (pc' : Nat) (L' : wk_L) (st' : List wk_V) (n' : wk_N), k pc' L' st' n' → wk_J cl X G W nl ad μ0 pc' L' st' n')  (d : decode cc pc = .ok (.pop, len)) (h : wk_in K G R nl ret W (wk_cl cl X.1 ys wss G lvl W) fin pc L st n .pop len k) : wk_J cl X G W nl ad μ0 pc L st n := by
  obtain ⟨hl, hu1⟩ := wk_g_ok h
  clear h
  have hl := dp_beq hl
  subst hl
  obtain ⟨a, r, rfl, hu2⟩ := wk_1v_ok hu1
  clear hu1
  obtain ⟨h1, hu3⟩ := wk_g_ok hu2
  clear hu2
  intro μ e gm gf gl gs gn
  exact sm_pop hX d ((wk_cat_ok a).trans (dp_beq h1)) (kk _ _ _ _ hu3 μ e gm gf gl gs.2 gn)
theorem wk_in_dup_x1 {cl : List vw_C} {X : sm_X} {cc : ByteArray} {own : String} {Ts : List Cond} {rm : Room} {N Sz : Nat} {ini : Bool} {nl : Nat} {ret : Option FieldType} (hX : sm_ok cl X cc nl own Ts ret rm N Sz ini) {G : ab_G} (hG : ab_Gok G) {R : wk_R} (hR : wk_Rok G R) {K : dp_K} {ys : Nat → MethodName} {wss : Nat → List Cond} (hK : dp_Kok cl X.1.2.2.2 own Ts ys wss K) {lvl : Nat} (hfr : lvl ≤ rm.frames) (hlo : 32 * lvl ≤ rm.locals) (hN : G.2.length ≤ N) (hSz : sm_sl G.2 ≤ Sz) {W : List Nat} {ad : Nat → Nat} {μ0 : sm_M} {fin : Option wk_V → wk_M → Prop} (hf : sm_fin cl X ad G.2 0 0 (wk_Q G W μ0 fin)) {pc len : Nat} {L : wk_L} {st : List wk_V} {n : wk_N} {k : wk_K} (kk : ∀ (pc' : Nat) (L' : wk_L) (st' : List wk_V) (n' : wk_N), k pc' L' st' n' → wk_J cl X G W nl ad μ0 pc' L' st' n')  (d : decode cc pc = .ok (.dup_x1, len)) (h : wk_in K G R nl ret W (wk_cl cl X.1 ys wss G lvl W) fin pc L st n .dup_x1 len k) : wk_J cl X G W nl ad μ0 pc L st n := by
  obtain ⟨hl, hu1⟩ := wk_g_ok h
  clear h
  have hl := dp_beq hl
  subst hl
  obtain ⟨a, r, rfl, hu2⟩ := wk_1v_ok hu1
  clear hu1
  obtain ⟨b, r, rfl, hu3⟩ := wk_1v_ok hu2
  clear hu2
  obtain ⟨h1, hu4⟩ := wk_g_ok hu3
  clear hu3
  rw [Bool.and_eq_true] at h1
  intro μ e gm gf gl gs gn
  exact sm_dup_x1 hX d ((wk_cat_ok a).trans (dp_beq h1.1)) ((wk_cat_ok b).trans (dp_beq h1.2)) (kk _ _ _ _ hu4 μ e gm gf gl ⟨gs.1, gs.2.1, gs.1, gs.2.2⟩ gn)
theorem wk_in_dup2 {cl : List vw_C} {X : sm_X} {cc : ByteArray} {own : String} {Ts : List Cond} {rm : Room} {N Sz : Nat} {ini : Bool} {nl : Nat} {ret : Option FieldType} (hX : sm_ok cl X cc nl own Ts ret rm N Sz ini) {G : ab_G} (hG : ab_Gok G) {R : wk_R} (hR : wk_Rok G R) {K : dp_K} {ys : Nat → MethodName} {wss : Nat → List Cond} (hK : dp_Kok cl X.1.2.2.2 own Ts ys wss K) {lvl : Nat} (hfr : lvl ≤ rm.frames) (hlo : 32 * lvl ≤ rm.locals) (hN : G.2.length ≤ N) (hSz : sm_sl G.2 ≤ Sz) {W : List Nat} {ad : Nat → Nat} {μ0 : sm_M} {fin : Option wk_V → wk_M → Prop} (hf : sm_fin cl X ad G.2 0 0 (wk_Q G W μ0 fin)) {pc len : Nat} {L : wk_L} {st : List wk_V} {n : wk_N} {k : wk_K} (kk : ∀ (pc' : Nat) (L' : wk_L) (st' : List wk_V) (n' : wk_N), k pc' L' st' n' → wk_J cl X G W nl ad μ0 pc' L' st' n')  (d : decode cc pc = .ok (.dup2, len)) (h : wk_in K G R nl ret W (wk_cl cl X.1 ys wss G lvl W) fin pc L st n .dup2 len k) : wk_J cl X G W nl ad μ0 pc L st n := by
  obtain ⟨hl, hu1⟩ := wk_g_ok h
  clear h
  have hl := dp_beq hl
  subst hl
  obtain ⟨a, r, rfl, hu2⟩ := wk_1v_ok hu1
  clear hu1
  obtain ⟨b, r, rfl, hu3⟩ := wk_1v_ok hu2
  clear hu2
  obtain ⟨h1, hu4⟩ := wk_g_ok hu3
  clear hu3
  rw [Bool.and_eq_true] at h1
  intro μ e gm gf gl gs gn
  exact sm_dup2 hX d ((wk_cat_ok a).trans (dp_beq h1.1)) ((wk_cat_ok b).trans (dp_beq h1.2)) (kk _ _ _ _ hu4 μ e gm gf gl ⟨gs.1, gs.2.1, gs.1, gs.2.1, gs.2.2⟩ gn)
theorem wk_in_iload {cl : List vw_C} {X : sm_X} {cc : ByteArray} {own : String} {Ts : List Cond} {rm : Room} {N Sz : Nat} {ini : Bool} {nl : Nat} {ret : Option FieldType} (hX : sm_ok cl X cc nl own Ts ret rm N Sz ini) {G : ab_G} (hG : ab_Gok G) {R : wk_R} (hR : wk_Rok G R) {K : dp_K} {ys : Nat → MethodName} {wss : Nat → List Cond} (hK : dp_Kok cl X.1.2.2.2 own Ts ys wss K) {lvl : Nat} (hfr : lvl ≤ rm.frames) (hlo : 32 * lvl ≤ rm.locals) (hN : G.2.length ≤ N) (hSz : sm_sl G.2 ≤ Sz) {W : List Nat} {ad : Nat → Nat} {μ0 : sm_M} {fin : Option wk_V → wk_M → Prop} (hf : sm_fin cl X ad G.2 0 0 (wk_Q G W μ0 fin)) {pc len : Nat} {L : wk_L} {st : List wk_V} {n : wk_N} {k : wk_K} (kk : ∀ (pc' : Nat) (L' : wk_L) (st' : List wk_V) (n' : wk_N), k pc' L' st' n' → wk_J cl X G W nl ad μ0 pc' L' st' n') (i : Nat) (d : decode cc pc = .ok ((.iload i), len)) (h : wk_in K G R nl ret W (wk_cl cl X.1 ys wss G lvl W) fin pc L st n (.iload i) len k) : wk_J cl X G W nl ad μ0 pc L st n := by
  obtain ⟨hl, hu1⟩ := wk_g_ok h
  clear h
  have hl := dp_beq hl
  subst hl
  obtain ⟨v, hv, hu2⟩ := wk_gt_ok hu1
  clear hu1
  intro μ e gm gf gl gs gn
  rcases v with x | x | x
  · exact sm_iloadG hX d (wk_lc_at hv) (kk _ _ _ _ hu2 μ e gm gf gl ⟨gl _ _ hv, gs⟩ gn)
  · exact (show False from hu2).elim
  · exact (show False from hu2).elim
theorem wk_in_aload {cl : List vw_C} {X : sm_X} {cc : ByteArray} {own : String} {Ts : List Cond} {rm : Room} {N Sz : Nat} {ini : Bool} {nl : Nat} {ret : Option FieldType} (hX : sm_ok cl X cc nl own Ts ret rm N Sz ini) {G : ab_G} (hG : ab_Gok G) {R : wk_R} (hR : wk_Rok G R) {K : dp_K} {ys : Nat → MethodName} {wss : Nat → List Cond} (hK : dp_Kok cl X.1.2.2.2 own Ts ys wss K) {lvl : Nat} (hfr : lvl ≤ rm.frames) (hlo : 32 * lvl ≤ rm.locals) (hN : G.2.length ≤ N) (hSz : sm_sl G.2 ≤ Sz) {W : List Nat} {ad : Nat → Nat} {μ0 : sm_M} {fin : Option wk_V → wk_M → Prop} (hf : sm_fin cl X ad G.2 0 0 (wk_Q G W μ0 fin)) {pc len : Nat} {L : wk_L} {st : List wk_V} {n : wk_N} {k : wk_K} (kk : ∀ (pc' : Nat) (L' : wk_L) (st' : List wk_V) (n' : wk_N), k pc' L' st' n' → wk_J cl X G W nl ad μ0 pc' L' st' n') (i : Nat) (d : decode cc pc = .ok ((.aload i), len)) (h : wk_in K G R nl ret W (wk_cl cl X.1 ys wss G lvl W) fin pc L st n (.aload i) len k) : wk_J cl X G W nl ad μ0 pc L st n := by
  obtain ⟨hl, hu1⟩ := wk_g_ok h
  clear h
  have hl := dp_beq hl
  subst hl
  obtain ⟨v, hv, hu2⟩ := wk_gt_ok hu1
  clear hu1
  intro μ e gm gf gl gs gn
  rcases v with x | x | x
  · exact (show False from hu2).elim
  · exact sm_aloadG hX d (wk_lc_at hv) (kk _ _ _ _ hu2 μ e gm gf gl ⟨gl _ _ hv, gs⟩ gn)
  · exact (show False from hu2).elim
theorem wk_in_lload {cl : List vw_C} {X : sm_X} {cc : ByteArray} {own : String} {Ts : List Cond} {rm : Room} {N Sz : Nat} {ini : Bool} {nl : Nat} {ret : Option FieldType} (hX : sm_ok cl X cc nl own Ts ret rm N Sz ini) {G : ab_G} (hG : ab_Gok G) {R : wk_R} (hR : wk_Rok G R) {K : dp_K} {ys : Nat → MethodName} {wss : Nat → List Cond} (hK : dp_Kok cl X.1.2.2.2 own Ts ys wss K) {lvl : Nat} (hfr : lvl ≤ rm.frames) (hlo : 32 * lvl ≤ rm.locals) (hN : G.2.length ≤ N) (hSz : sm_sl G.2 ≤ Sz) {W : List Nat} {ad : Nat → Nat} {μ0 : sm_M} {fin : Option wk_V → wk_M → Prop} (hf : sm_fin cl X ad G.2 0 0 (wk_Q G W μ0 fin)) {pc len : Nat} {L : wk_L} {st : List wk_V} {n : wk_N} {k : wk_K} (kk : ∀ (pc' : Nat) (L' : wk_L) (st' : List wk_V) (n' : wk_N), k pc' L' st' n' → wk_J cl X G W nl ad μ0 pc' L' st' n') (i : Nat) (d : decode cc pc = .ok ((.lload i), len)) (h : wk_in K G R nl ret W (wk_cl cl X.1 ys wss G lvl W) fin pc L st n (.lload i) len k) : wk_J cl X G W nl ad μ0 pc L st n := by
  obtain ⟨hl, hu1⟩ := wk_g_ok h
  clear h
  have hl := dp_beq hl
  subst hl
  obtain ⟨v, hv, hu2⟩ := wk_gt_ok hu1
  clear hu1
  intro μ e gm gf gl gs gn
  rcases v with x | x | x
  · exact (show False from hu2).elim
  · exact (show False from hu2).elim
  · exact sm_lloadG hX d (wk_lc_at hv) (kk _ _ _ _ hu2 μ e gm gf gl ⟨gl _ _ hv, gs⟩ gn)
theorem wk_in_istore {cl : List vw_C} {X : sm_X} {cc : ByteArray} {own : String} {Ts : List Cond} {rm : Room} {N Sz : Nat} {ini : Bool} {nl : Nat} {ret : Option FieldType} (hX : sm_ok cl X cc nl own Ts ret rm N Sz ini) {G : ab_G} (hG : ab_Gok G) {R : wk_R} (hR : wk_Rok G R) {K : dp_K} {ys : Nat → MethodName} {wss : Nat → List Cond} (hK : dp_Kok cl X.1.2.2.2 own Ts ys wss K) {lvl : Nat} (hfr : lvl ≤ rm.frames) (hlo : 32 * lvl ≤ rm.locals) (hN : G.2.length ≤ N) (hSz : sm_sl G.2 ≤ Sz) {W : List Nat} {ad : Nat → Nat} {μ0 : sm_M} {fin : Option wk_V → wk_M → Prop} (hf : sm_fin cl X ad G.2 0 0 (wk_Q G W μ0 fin)) {pc len : Nat} {L : wk_L} {st : List wk_V} {n : wk_N} {k : wk_K} (kk : ∀ (pc' : Nat) (L' : wk_L) (st' : List wk_V) (n' : wk_N), k pc' L' st' n' → wk_J cl X G W nl ad μ0 pc' L' st' n') (i : Nat) (d : decode cc pc = .ok ((.istore i), len)) (h : wk_in K G R nl ret W (wk_cl cl X.1 ys wss G lvl W) fin pc L st n (.istore i) len k) : wk_J cl X G W nl ad μ0 pc L st n := by
  obtain ⟨hl, hu1⟩ := wk_g_ok h
  clear h
  have hl := dp_beq hl
  subst hl
  obtain ⟨x, r, rfl, hu2⟩ := wk_1i_ok hu1
  clear hu1
  obtain ⟨h1, hu3⟩ := wk_g_ok hu2
  clear hu2
  obtain ⟨h2, hu4⟩ := wk_st_ok hu3
  clear hu3
  intro μ e gm gf gl gs gn
  have q := kk _ _ _ _ hu4 μ e gm gf (wk_lv_set gl gs.1) gs.2 (by rw [List.length_set]; exact gn)
  rw [wk_lc_set] at q
  exact sm_istoreG hX d h1 (by omega) q
theorem wk_in_astore {cl : List vw_C} {X : sm_X} {cc : ByteArray} {own : String} {Ts : List Cond} {rm : Room} {N Sz : Nat} {ini : Bool} {nl : Nat} {ret : Option FieldType} (hX : sm_ok cl X cc nl own Ts ret rm N Sz ini) {G : ab_G} (hG : ab_Gok G) {R : wk_R} (hR : wk_Rok G R) {K : dp_K} {ys : Nat → MethodName} {wss : Nat → List Cond} (hK : dp_Kok cl X.1.2.2.2 own Ts ys wss K) {lvl : Nat} (hfr : lvl ≤ rm.frames) (hlo : 32 * lvl ≤ rm.locals) (hN : G.2.length ≤ N) (hSz : sm_sl G.2 ≤ Sz) {W : List Nat} {ad : Nat → Nat} {μ0 : sm_M} {fin : Option wk_V → wk_M → Prop} (hf : sm_fin cl X ad G.2 0 0 (wk_Q G W μ0 fin)) {pc len : Nat} {L : wk_L} {st : List wk_V} {n : wk_N} {k : wk_K} (kk : ∀ (pc' : Nat) (L' : wk_L) (st' : List wk_V) (n' : wk_N), k pc' L' st' n' → wk_J cl X G W nl ad μ0 pc' L' st' n') (i : Nat) (d : decode cc pc = .ok ((.astore i), len)) (h : wk_in K G R nl ret W (wk_cl cl X.1 ys wss G lvl W) fin pc L st n (.astore i) len k) : wk_J cl X G W nl ad μ0 pc L st n := by
  obtain ⟨hl, hu1⟩ := wk_g_ok h
  clear h
  have hl := dp_beq hl
  subst hl
  obtain ⟨x, r, rfl, hu2⟩ := wk_1r_ok hu1
  clear hu1
  obtain ⟨h1, hu3⟩ := wk_g_ok hu2
  clear hu2
  obtain ⟨h2, hu4⟩ := wk_st_ok hu3
  clear hu3
  intro μ e gm gf gl gs gn
  have q := kk _ _ _ _ hu4 μ e gm gf (wk_lv_set gl gs.1) gs.2 (by rw [List.length_set]; exact gn)
  rw [wk_lc_set] at q
  exact sm_astoreG hX d h1 (by omega) q
theorem wk_in_lstore {cl : List vw_C} {X : sm_X} {cc : ByteArray} {own : String} {Ts : List Cond} {rm : Room} {N Sz : Nat} {ini : Bool} {nl : Nat} {ret : Option FieldType} (hX : sm_ok cl X cc nl own Ts ret rm N Sz ini) {G : ab_G} (hG : ab_Gok G) {R : wk_R} (hR : wk_Rok G R) {K : dp_K} {ys : Nat → MethodName} {wss : Nat → List Cond} (hK : dp_Kok cl X.1.2.2.2 own Ts ys wss K) {lvl : Nat} (hfr : lvl ≤ rm.frames) (hlo : 32 * lvl ≤ rm.locals) (hN : G.2.length ≤ N) (hSz : sm_sl G.2 ≤ Sz) {W : List Nat} {ad : Nat → Nat} {μ0 : sm_M} {fin : Option wk_V → wk_M → Prop} (hf : sm_fin cl X ad G.2 0 0 (wk_Q G W μ0 fin)) {pc len : Nat} {L : wk_L} {st : List wk_V} {n : wk_N} {k : wk_K} (kk : ∀ (pc' : Nat) (L' : wk_L) (st' : List wk_V) (n' : wk_N), k pc' L' st' n' → wk_J cl X G W nl ad μ0 pc' L' st' n') (i : Nat) (d : decode cc pc = .ok ((.lstore i), len)) (h : wk_in K G R nl ret W (wk_cl cl X.1 ys wss G lvl W) fin pc L st n (.lstore i) len k) : wk_J cl X G W nl ad μ0 pc L st n := by
  obtain ⟨hl, hu1⟩ := wk_g_ok h
  clear h
  have hl := dp_beq hl
  subst hl
  obtain ⟨x, r, rfl, hu2⟩ := wk_1l_ok hu1
  clear hu1
  obtain ⟨h1, hu3⟩ := wk_g_ok hu2
  clear hu2
  obtain ⟨h2, hu4⟩ := wk_st_ok hu3
  clear hu3
  obtain ⟨h3, hu5⟩ := wk_st_ok hu4
  clear hu4
  intro μ e gm gf gl gs gn
  rw [List.length_set] at h3
  have q := kk _ _ _ _ hu5 μ e gm gf (wk_lv_none (wk_lv_set gl gs.1)) gs.2 (by rw [List.length_set, List.length_set]; exact gn)
  rw [wk_lc_set, wk_lc_set] at q
  exact sm_lstoreG hX d h1 (by omega) q
theorem wk_in_iload_n {cl : List vw_C} {X : sm_X} {cc : ByteArray} {own : String} {Ts : List Cond} {rm : Room} {N Sz : Nat} {ini : Bool} {nl : Nat} {ret : Option FieldType} (hX : sm_ok cl X cc nl own Ts ret rm N Sz ini) {G : ab_G} (hG : ab_Gok G) {R : wk_R} (hR : wk_Rok G R) {K : dp_K} {ys : Nat → MethodName} {wss : Nat → List Cond} (hK : dp_Kok cl X.1.2.2.2 own Ts ys wss K) {lvl : Nat} (hfr : lvl ≤ rm.frames) (hlo : 32 * lvl ≤ rm.locals) (hN : G.2.length ≤ N) (hSz : sm_sl G.2 ≤ Sz) {W : List Nat} {ad : Nat → Nat} {μ0 : sm_M} {fin : Option wk_V → wk_M → Prop} (hf : sm_fin cl X ad G.2 0 0 (wk_Q G W μ0 fin)) {pc len : Nat} {L : wk_L} {st : List wk_V} {n : wk_N} {k : wk_K} (kk : ∀ (pc' : Nat) (L' : wk_L) (st' : List wk_V) (n' : wk_N), k pc' L' st' n' → wk_J cl X G W nl ad μ0 pc' L' st' n') (i : Fin 4) (d : decode cc pc = .ok ((.iload_n i), len)) (h : wk_in K G R nl ret W (wk_cl cl X.1 ys wss G lvl W) fin pc L st n (.iload_n i) len k) : wk_J cl X G W nl ad μ0 pc L st n := by
  obtain ⟨hl, hu1⟩ := wk_g_ok h
  clear h
  have hl := dp_beq hl
  subst hl
  obtain ⟨v, hv, hu2⟩ := wk_gt_ok hu1
  clear hu1
  intro μ e gm gf gl gs gn
  rcases v with x | x | x
  · exact sm_iloadN hX d (wk_lc_at hv) (kk _ _ _ _ hu2 μ e gm gf gl ⟨gl _ _ hv, gs⟩ gn)
  · exact (show False from hu2).elim
  · exact (show False from hu2).elim
theorem wk_in_aload_n {cl : List vw_C} {X : sm_X} {cc : ByteArray} {own : String} {Ts : List Cond} {rm : Room} {N Sz : Nat} {ini : Bool} {nl : Nat} {ret : Option FieldType} (hX : sm_ok cl X cc nl own Ts ret rm N Sz ini) {G : ab_G} (hG : ab_Gok G) {R : wk_R} (hR : wk_Rok G R) {K : dp_K} {ys : Nat → MethodName} {wss : Nat → List Cond} (hK : dp_Kok cl X.1.2.2.2 own Ts ys wss K) {lvl : Nat} (hfr : lvl ≤ rm.frames) (hlo : 32 * lvl ≤ rm.locals) (hN : G.2.length ≤ N) (hSz : sm_sl G.2 ≤ Sz) {W : List Nat} {ad : Nat → Nat} {μ0 : sm_M} {fin : Option wk_V → wk_M → Prop} (hf : sm_fin cl X ad G.2 0 0 (wk_Q G W μ0 fin)) {pc len : Nat} {L : wk_L} {st : List wk_V} {n : wk_N} {k : wk_K} (kk : ∀ (pc' : Nat) (L' : wk_L) (st' : List wk_V) (n' : wk_N), k pc' L' st' n' → wk_J cl X G W nl ad μ0 pc' L' st' n') (i : Fin 4) (d : decode cc pc = .ok ((.aload_n i), len)) (h : wk_in K G R nl ret W (wk_cl cl X.1 ys wss G lvl W) fin pc L st n (.aload_n i) len k) : wk_J cl X G W nl ad μ0 pc L st n := by
  obtain ⟨hl, hu1⟩ := wk_g_ok h
  clear h
  have hl := dp_beq hl
  subst hl
  obtain ⟨v, hv, hu2⟩ := wk_gt_ok hu1
  clear hu1
  intro μ e gm gf gl gs gn
  rcases v with x | x | x
  · exact (show False from hu2).elim
  · exact sm_aloadN hX d (wk_lc_at hv) (kk _ _ _ _ hu2 μ e gm gf gl ⟨gl _ _ hv, gs⟩ gn)
  · exact (show False from hu2).elim
theorem wk_in_lload_n {cl : List vw_C} {X : sm_X} {cc : ByteArray} {own : String} {Ts : List Cond} {rm : Room} {N Sz : Nat} {ini : Bool} {nl : Nat} {ret : Option FieldType} (hX : sm_ok cl X cc nl own Ts ret rm N Sz ini) {G : ab_G} (hG : ab_Gok G) {R : wk_R} (hR : wk_Rok G R) {K : dp_K} {ys : Nat → MethodName} {wss : Nat → List Cond} (hK : dp_Kok cl X.1.2.2.2 own Ts ys wss K) {lvl : Nat} (hfr : lvl ≤ rm.frames) (hlo : 32 * lvl ≤ rm.locals) (hN : G.2.length ≤ N) (hSz : sm_sl G.2 ≤ Sz) {W : List Nat} {ad : Nat → Nat} {μ0 : sm_M} {fin : Option wk_V → wk_M → Prop} (hf : sm_fin cl X ad G.2 0 0 (wk_Q G W μ0 fin)) {pc len : Nat} {L : wk_L} {st : List wk_V} {n : wk_N} {k : wk_K} (kk : ∀ (pc' : Nat) (L' : wk_L) (st' : List wk_V) (n' : wk_N), k pc' L' st' n' → wk_J cl X G W nl ad μ0 pc' L' st' n') (i : Fin 4) (d : decode cc pc = .ok ((.lload_n i), len)) (h : wk_in K G R nl ret W (wk_cl cl X.1 ys wss G lvl W) fin pc L st n (.lload_n i) len k) : wk_J cl X G W nl ad μ0 pc L st n := by
  obtain ⟨hl, hu1⟩ := wk_g_ok h
  clear h
  have hl := dp_beq hl
  subst hl
  obtain ⟨v, hv, hu2⟩ := wk_gt_ok hu1
  clear hu1
  intro μ e gm gf gl gs gn
  rcases v with x | x | x
  · exact (show False from hu2).elim
  · exact (show False from hu2).elim
  · exact sm_lloadN hX d (wk_lc_at hv) (kk _ _ _ _ hu2 μ e gm gf gl ⟨gl _ _ hv, gs⟩ gn)
theorem wk_in_istore_n {cl : List vw_C} {X : sm_X} {cc : ByteArray} {own : String} {Ts : List Cond} {rm : Room} {N Sz : Nat} {ini : Bool} {nl : Nat} {ret : Option FieldType} (hX : sm_ok cl X cc nl own Ts ret rm N Sz ini) {G : ab_G} (hG : ab_Gok G) {R : wk_R} (hR : wk_Rok G R) {K : dp_K} {ys : Nat → MethodName} {wss : Nat → List Cond} (hK : dp_Kok cl X.1.2.2.2 own Ts ys wss K) {lvl : Nat} (hfr : lvl ≤ rm.frames) (hlo : 32 * lvl ≤ rm.locals) (hN : G.2.length ≤ N) (hSz : sm_sl G.2 ≤ Sz) {W : List Nat} {ad : Nat → Nat} {μ0 : sm_M} {fin : Option wk_V → wk_M → Prop} (hf : sm_fin cl X ad G.2 0 0 (wk_Q G W μ0 fin)) {pc len : Nat} {L : wk_L} {st : List wk_V} {n : wk_N} {k : wk_K} (kk : ∀ (pc' : Nat) (L' : wk_L) (st' : List wk_V) (n' : wk_N), k pc' L' st' n' → wk_J cl X G W nl ad μ0 pc' L' st' n') (i : Fin 4) (d : decode cc pc = .ok ((.istore_n i), len)) (h : wk_in K G R nl ret W (wk_cl cl X.1 ys wss G lvl W) fin pc L st n (.istore_n i) len k) : wk_J cl X G W nl ad μ0 pc L st n := by
  obtain ⟨hl, hu1⟩ := wk_g_ok h
  clear h
  have hl := dp_beq hl
  subst hl
  obtain ⟨x, r, rfl, hu2⟩ := wk_1i_ok hu1
  clear hu1
  obtain ⟨h1, hu3⟩ := wk_g_ok hu2
  clear hu2
  obtain ⟨h2, hu4⟩ := wk_st_ok hu3
  clear hu3
  intro μ e gm gf gl gs gn
  have q := kk _ _ _ _ hu4 μ e gm gf (wk_lv_set gl gs.1) gs.2 (by rw [List.length_set]; exact gn)
  rw [wk_lc_set] at q
  exact sm_istoreN hX d h1 (by omega) q
theorem wk_in_astore_n {cl : List vw_C} {X : sm_X} {cc : ByteArray} {own : String} {Ts : List Cond} {rm : Room} {N Sz : Nat} {ini : Bool} {nl : Nat} {ret : Option FieldType} (hX : sm_ok cl X cc nl own Ts ret rm N Sz ini) {G : ab_G} (hG : ab_Gok G) {R : wk_R} (hR : wk_Rok G R) {K : dp_K} {ys : Nat → MethodName} {wss : Nat → List Cond} (hK : dp_Kok cl X.1.2.2.2 own Ts ys wss K) {lvl : Nat} (hfr : lvl ≤ rm.frames) (hlo : 32 * lvl ≤ rm.locals) (hN : G.2.length ≤ N) (hSz : sm_sl G.2 ≤ Sz) {W : List Nat} {ad : Nat → Nat} {μ0 : sm_M} {fin : Option wk_V → wk_M → Prop} (hf : sm_fin cl X ad G.2 0 0 (wk_Q G W μ0 fin)) {pc len : Nat} {L : wk_L} {st : List wk_V} {n : wk_N} {k : wk_K} (kk : ∀ (pc' : Nat) (L' : wk_L) (st' : List wk_V) (n' : wk_N), k pc' L' st' n' → wk_J cl X G W nl ad μ0 pc' L' st' n') (i : Fin 4) (d : decode cc pc = .ok ((.astore_n i), len)) (h : wk_in K G R nl ret W (wk_cl cl X.1 ys wss G lvl W) fin pc L st n (.astore_n i) len k) : wk_J cl X G W nl ad μ0 pc L st n := by
  obtain ⟨hl, hu1⟩ := wk_g_ok h
  clear h
  have hl := dp_beq hl
  subst hl
  obtain ⟨x, r, rfl, hu2⟩ := wk_1r_ok hu1
  clear hu1
  obtain ⟨h1, hu3⟩ := wk_g_ok hu2
  clear hu2
  obtain ⟨h2, hu4⟩ := wk_st_ok hu3
  clear hu3
  intro μ e gm gf gl gs gn
  have q := kk _ _ _ _ hu4 μ e gm gf (wk_lv_set gl gs.1) gs.2 (by rw [List.length_set]; exact gn)
  rw [wk_lc_set] at q
  exact sm_astoreN hX d h1 (by omega) q
theorem wk_in_lstore_n {cl : List vw_C} {X : sm_X} {cc : ByteArray} {own : String} {Ts : List Cond} {rm : Room} {N Sz : Nat} {ini : Bool} {nl : Nat} {ret : Option FieldType} (hX : sm_ok cl X cc nl own Ts ret rm N Sz ini) {G : ab_G} (hG : ab_Gok G) {R : wk_R} (hR : wk_Rok G R) {K : dp_K} {ys : Nat → MethodName} {wss : Nat → List Cond} (hK : dp_Kok cl X.1.2.2.2 own Ts ys wss K) {lvl : Nat} (hfr : lvl ≤ rm.frames) (hlo : 32 * lvl ≤ rm.locals) (hN : G.2.length ≤ N) (hSz : sm_sl G.2 ≤ Sz) {W : List Nat} {ad : Nat → Nat} {μ0 : sm_M} {fin : Option wk_V → wk_M → Prop} (hf : sm_fin cl X ad G.2 0 0 (wk_Q G W μ0 fin)) {pc len : Nat} {L : wk_L} {st : List wk_V} {n : wk_N} {k : wk_K} (kk : ∀ (pc' : Nat) (L' : wk_L) (st' : List wk_V) (n' : wk_N), k pc' L' st' n' → wk_J cl X G W nl ad μ0 pc' L' st' n') (i : Fin 4) (d : decode cc pc = .ok ((.lstore_n i), len)) (h : wk_in K G R nl ret W (wk_cl cl X.1 ys wss G lvl W) fin pc L st n (.lstore_n i) len k) : wk_J cl X G W nl ad μ0 pc L st n := by
  obtain ⟨hl, hu1⟩ := wk_g_ok h
  clear h
  have hl := dp_beq hl
  subst hl
  obtain ⟨x, r, rfl, hu2⟩ := wk_1l_ok hu1
  clear hu1
  obtain ⟨h1, hu3⟩ := wk_g_ok hu2
  clear hu2
  obtain ⟨h2, hu4⟩ := wk_st_ok hu3
  clear hu3
  obtain ⟨h3, hu5⟩ := wk_st_ok hu4
  clear hu4
  intro μ e gm gf gl gs gn
  rw [List.length_set] at h3
  have q := kk _ _ _ _ hu5 μ e gm gf (wk_lv_none (wk_lv_set gl gs.1)) gs.2 (by rw [List.length_set, List.length_set]; exact gn)
  rw [wk_lc_set, wk_lc_set] at q
  exact sm_lstoreN hX d h1 (by omega) q
theorem wk_in_iinc {cl : List vw_C} {X : sm_X} {cc : ByteArray} {own : String} {Ts : List Cond} {rm : Room} {N Sz : Nat} {ini : Bool} {nl : Nat} {ret : Option FieldType} (hX : sm_ok cl X cc nl own Ts ret rm N Sz ini) {G : ab_G} (hG : ab_Gok G) {R : wk_R} (hR : wk_Rok G R) {K : dp_K} {ys : Nat → MethodName} {wss : Nat → List Cond} (hK : dp_Kok cl X.1.2.2.2 own Ts ys wss K) {lvl : Nat} (hfr : lvl ≤ rm.frames) (hlo : 32 * lvl ≤ rm.locals) (hN : G.2.length ≤ N) (hSz : sm_sl G.2 ≤ Sz) {W : List Nat} {ad : Nat → Nat} {μ0 : sm_M} {fin : Option wk_V → wk_M → Prop} (hf : sm_fin cl X ad G.2 0 0 (wk_Q G W μ0 fin)) {pc len : Nat} {L : wk_L} {st : List wk_V} {n : wk_N} {k : wk_K} (kk : ∀ (pc' : Nat) (L' : wk_L) (st' : List wk_V) (n' : wk_N), k pc' L' st' n' → wk_J cl X G W nl ad μ0 pc' L' st' n') (i : Nat) (z : Int) (d : decode cc pc = .ok ((.iinc i z), len)) (h : wk_in K G R nl ret W (wk_cl cl X.1 ys wss G lvl W) fin pc L st n (.iinc i z) len k) : wk_J cl X G W nl ad μ0 pc L st n := by
  obtain ⟨hl, hu1⟩ := wk_g_ok h
  clear h
  have hl := dp_beq hl
  subst hl
  obtain ⟨v, hv, hu2⟩ := wk_gt_ok hu1
  clear hu1
  intro μ e gm gf gl gs gn
  rcases v with x | x | x
  · have hu2 : wk_ar (x + z) fun y => wk_g (sm_ah (wk_lc L) i) (wk_st L i (some (.inl y)) fun L' => k (pc + 3) L' st n) := hu2
    obtain ⟨y, hy, y1, y2, hu2⟩ := wk_ar_ok hu2
    obtain ⟨h1, hu2⟩ := wk_g_ok hu2
    obtain ⟨h2, hu2⟩ := wk_st_ok hu2
    have q := kk _ _ _ _ hu2 μ e gm gf (wk_lv_set (v := .inl y) gl ⟨y1, y2⟩) gs (by rw [List.length_set]; exact gn)
    rw [wk_lc_set] at q
    refine sm_iincG hX d (wk_lc_at hv) h1 (by omega) ?_
    rw [← Int32.ofInt_add, ← hy]
    exact q
  · exact (show False from hu2).elim
  · exact (show False from hu2).elim
theorem wk_in_goto {cl : List vw_C} {X : sm_X} {cc : ByteArray} {own : String} {Ts : List Cond} {rm : Room} {N Sz : Nat} {ini : Bool} {nl : Nat} {ret : Option FieldType} (hX : sm_ok cl X cc nl own Ts ret rm N Sz ini) {G : ab_G} (hG : ab_Gok G) {R : wk_R} (hR : wk_Rok G R) {K : dp_K} {ys : Nat → MethodName} {wss : Nat → List Cond} (hK : dp_Kok cl X.1.2.2.2 own Ts ys wss K) {lvl : Nat} (hfr : lvl ≤ rm.frames) (hlo : 32 * lvl ≤ rm.locals) (hN : G.2.length ≤ N) (hSz : sm_sl G.2 ≤ Sz) {W : List Nat} {ad : Nat → Nat} {μ0 : sm_M} {fin : Option wk_V → wk_M → Prop} (hf : sm_fin cl X ad G.2 0 0 (wk_Q G W μ0 fin)) {pc len : Nat} {L : wk_L} {st : List wk_V} {n : wk_N} {k : wk_K} (kk : ∀ (pc' : Nat) (L' : wk_L) (st' : List wk_V) (n' : wk_N), k pc' L' st' n' → wk_J cl X G W nl ad μ0 pc' L' st' n') (off : Int) (d : decode cc pc = .ok ((.goto off), len)) (h : wk_in K G R nl ret W (wk_cl cl X.1 ys wss G lvl W) fin pc L st n (.goto off) len k) : wk_J cl X G W nl ad μ0 pc L st n := by
  obtain ⟨hl, hu1⟩ := wk_g_ok h
  clear h
  have hl := dp_beq hl
  subst hl
  obtain ⟨tg, ht, hu2⟩ := wk_tg_ok hu1
  clear hu1
  intro μ e gm gf gl gs gn
  exact sm_goto hX tg d ht (kk _ _ _ _ hu2 μ e gm gf gl gs gn)
theorem wk_in_ifCond {cl : List vw_C} {X : sm_X} {cc : ByteArray} {own : String} {Ts : List Cond} {rm : Room} {N Sz : Nat} {ini : Bool} {nl : Nat} {ret : Option FieldType} (hX : sm_ok cl X cc nl own Ts ret rm N Sz ini) {G : ab_G} (hG : ab_Gok G) {R : wk_R} (hR : wk_Rok G R) {K : dp_K} {ys : Nat → MethodName} {wss : Nat → List Cond} (hK : dp_Kok cl X.1.2.2.2 own Ts ys wss K) {lvl : Nat} (hfr : lvl ≤ rm.frames) (hlo : 32 * lvl ≤ rm.locals) (hN : G.2.length ≤ N) (hSz : sm_sl G.2 ≤ Sz) {W : List Nat} {ad : Nat → Nat} {μ0 : sm_M} {fin : Option wk_V → wk_M → Prop} (hf : sm_fin cl X ad G.2 0 0 (wk_Q G W μ0 fin)) {pc len : Nat} {L : wk_L} {st : List wk_V} {n : wk_N} {k : wk_K} (kk : ∀ (pc' : Nat) (L' : wk_L) (st' : List wk_V) (n' : wk_N), k pc' L' st' n' → wk_J cl X G W nl ad μ0 pc' L' st' n') (cn : Jvm.ClassFile.Cond) (off : Int) (d : decode cc pc = .ok ((.ifCond cn off), len)) (h : wk_in K G R nl ret W (wk_cl cl X.1 ys wss G lvl W) fin pc L st n (.ifCond cn off) len k) : wk_J cl X G W nl ad μ0 pc L st n := by
  obtain ⟨hl, hu1⟩ := wk_g_ok h
  clear h
  have hl := dp_beq hl
  subst hl
  obtain ⟨x, r, rfl, hu2⟩ := wk_1i_ok hu1
  clear hu1
  obtain ⟨tg, ht, hu3⟩ := wk_tg_ok hu2
  clear hu2
  intro μ e gm gf gl gs gn
  have ix : ab_lo ≤ x ∧ x ≤ ab_hi := gs.1
  have iy := wk_v0
  have gr := gs.2
  show sm_E cl X pc (wk_lc L) (.int (Int32.ofInt x) :: r.map wk_c) ad G.2 μ
  cases cn with
  | eq => exact sm_if_eq hX tg d ht (fun q => kk _ _ _ _ (hu3.1 (by rw [wk_z0] at q; exact (wk_eqI ix iy).mp q)) μ e gm gf gl gr gn) (fun q => kk _ _ _ _ (hu3.2 (by rw [wk_z0, wk_eqI ix iy] at q; exact q)) μ e gm gf gl gr gn)
  | ne => exact sm_if_ne hX tg d ht (fun q => kk _ _ _ _ (hu3.1 (fun z => q ((wk_eqI ix iy).mpr z |>.trans wk_z0.symm))) μ e gm gf gl gr gn) (fun q => kk _ _ _ _ (hu3.2 (by rw [wk_z0] at q; exact (wk_eqI ix iy).mp q)) μ e gm gf gl gr gn)
  | lt => exact sm_if_lt hX tg d ht (fun q => kk _ _ _ _ (hu3.1 (by rw [wk_z0] at q; exact (wk_ltI ix iy).mp q)) μ e gm gf gl gr gn) (fun q => kk _ _ _ _ (hu3.2 (by rw [wk_z0, wk_ltI ix iy] at q; omega)) μ e gm gf gl gr gn)
  | ge => exact sm_if_ge hX tg d ht (fun q => kk _ _ _ _ (hu3.1 (by rw [wk_z0] at q; exact (wk_leI iy ix).mp q)) μ e gm gf gl gr gn) (fun q => kk _ _ _ _ (hu3.2 (by rw [wk_z0, wk_leI iy ix] at q; omega)) μ e gm gf gl gr gn)
  | gt => exact sm_if_gt hX tg d ht (fun q => kk _ _ _ _ (hu3.1 (by rw [wk_z0] at q; exact (wk_ltI iy ix).mp q)) μ e gm gf gl gr gn) (fun q => kk _ _ _ _ (hu3.2 (by rw [wk_z0, wk_ltI iy ix] at q; omega)) μ e gm gf gl gr gn)
  | le => exact sm_if_le hX tg d ht (fun q => kk _ _ _ _ (hu3.1 (by rw [wk_z0] at q; exact (wk_leI ix iy).mp q)) μ e gm gf gl gr gn) (fun q => kk _ _ _ _ (hu3.2 (by rw [wk_z0, wk_leI ix iy] at q; omega)) μ e gm gf gl gr gn)
theorem wk_in_if_icmp {cl : List vw_C} {X : sm_X} {cc : ByteArray} {own : String} {Ts : List Cond} {rm : Room} {N Sz : Nat} {ini : Bool} {nl : Nat} {ret : Option FieldType} (hX : sm_ok cl X cc nl own Ts ret rm N Sz ini) {G : ab_G} (hG : ab_Gok G) {R : wk_R} (hR : wk_Rok G R) {K : dp_K} {ys : Nat → MethodName} {wss : Nat → List Cond} (hK : dp_Kok cl X.1.2.2.2 own Ts ys wss K) {lvl : Nat} (hfr : lvl ≤ rm.frames) (hlo : 32 * lvl ≤ rm.locals) (hN : G.2.length ≤ N) (hSz : sm_sl G.2 ≤ Sz) {W : List Nat} {ad : Nat → Nat} {μ0 : sm_M} {fin : Option wk_V → wk_M → Prop} (hf : sm_fin cl X ad G.2 0 0 (wk_Q G W μ0 fin)) {pc len : Nat} {L : wk_L} {st : List wk_V} {n : wk_N} {k : wk_K} (kk : ∀ (pc' : Nat) (L' : wk_L) (st' : List wk_V) (n' : wk_N), k pc' L' st' n' → wk_J cl X G W nl ad μ0 pc' L' st' n') (cn : Jvm.ClassFile.Cond) (off : Int) (d : decode cc pc = .ok ((.if_icmp cn off), len)) (h : wk_in K G R nl ret W (wk_cl cl X.1 ys wss G lvl W) fin pc L st n (.if_icmp cn off) len k) : wk_J cl X G W nl ad μ0 pc L st n := by
  obtain ⟨hl, hu1⟩ := wk_g_ok h
  clear h
  have hl := dp_beq hl
  subst hl
  obtain ⟨y, r, rfl, hu2⟩ := wk_1i_ok hu1
  clear hu1
  obtain ⟨x, r, rfl, hu3⟩ := wk_1i_ok hu2
  clear hu2
  obtain ⟨tg, ht, hu4⟩ := wk_tg_ok hu3
  clear hu3
  intro μ e gm gf gl gs gn
  have ix : ab_lo ≤ x ∧ x ≤ ab_hi := gs.2.1
  have iy : ab_lo ≤ y ∧ y ≤ ab_hi := gs.1
  have gr := gs.2.2
  show sm_E cl X pc (wk_lc L) (.int (Int32.ofInt y) :: .int (Int32.ofInt x) :: r.map wk_c) ad G.2 μ
  cases cn with
  | eq => exact sm_icmp_eq hX tg d ht (fun q => kk _ _ _ _ (hu4.1 ((wk_eqI ix iy).mp q)) μ e gm gf gl gr gn) (fun q => kk _ _ _ _ (hu4.2 (by rw [wk_eqI ix iy] at q; exact q)) μ e gm gf gl gr gn)
  | ne => exact sm_icmp_ne hX tg d ht (fun q => kk _ _ _ _ (hu4.1 (fun z => q ((wk_eqI ix iy).mpr z))) μ e gm gf gl gr gn) (fun q => kk _ _ _ _ (hu4.2 ((wk_eqI ix iy).mp q)) μ e gm gf gl gr gn)
  | lt => exact sm_icmp_lt hX tg d ht (fun q => kk _ _ _ _ (hu4.1 ((wk_ltI ix iy).mp q)) μ e gm gf gl gr gn) (fun q => kk _ _ _ _ (hu4.2 (by rw [wk_ltI ix iy] at q; omega)) μ e gm gf gl gr gn)
  | ge => exact sm_icmp_ge hX tg d ht (fun q => kk _ _ _ _ (hu4.1 ((wk_leI iy ix).mp q)) μ e gm gf gl gr gn) (fun q => kk _ _ _ _ (hu4.2 (by rw [wk_leI iy ix] at q; omega)) μ e gm gf gl gr gn)
  | gt => exact sm_icmp_gt hX tg d ht (fun q => kk _ _ _ _ (hu4.1 ((wk_ltI iy ix).mp q)) μ e gm gf gl gr gn) (fun q => kk _ _ _ _ (hu4.2 (by rw [wk_ltI iy ix] at q; omega)) μ e gm gf gl gr gn)
  | le => exact sm_icmp_le hX tg d ht (fun q => kk _ _ _ _ (hu4.1 ((wk_leI ix iy).mp q)) μ e gm gf gl gr gn) (fun q => kk _ _ _ _ (hu4.2 (by rw [wk_leI ix iy] at q; omega)) μ e gm gf gl gr gn)
theorem wk_in_tableswitch {cl : List vw_C} {X : sm_X} {cc : ByteArray} {own : String} {Ts : List Cond} {rm : Room} {N Sz : Nat} {ini : Bool} {nl : Nat} {ret : Option FieldType} (hX : sm_ok cl X cc nl own Ts ret rm N Sz ini) {G : ab_G} (hG : ab_Gok G) {R : wk_R} (hR : wk_Rok G R) {K : dp_K} {ys : Nat → MethodName} {wss : Nat → List Cond} (hK : dp_Kok cl X.1.2.2.2 own Ts ys wss K) {lvl : Nat} (hfr : lvl ≤ rm.frames) (hlo : 32 * lvl ≤ rm.locals) (hN : G.2.length ≤ N) (hSz : sm_sl G.2 ≤ Sz) {W : List Nat} {ad : Nat → Nat} {μ0 : sm_M} {fin : Option wk_V → wk_M → Prop} (hf : sm_fin cl X ad G.2 0 0 (wk_Q G W μ0 fin)) {pc len : Nat} {L : wk_L} {st : List wk_V} {n : wk_N} {k : wk_K} (kk : ∀ (pc' : Nat) (L' : wk_L) (st' : List wk_V) (n' : wk_N), k pc' L' st' n' → wk_J cl X G W nl ad μ0 pc' L' st' n') (dflt : Int) (lo : Int) (hi : Int) (offs : Array Int) (d : decode cc pc = .ok ((.tableswitch dflt lo hi offs), len)) (h : wk_in K G R nl ret W (wk_cl cl X.1 ys wss G lvl W) fin pc L st n (.tableswitch dflt lo hi offs) len k) : wk_J cl X G W nl ad μ0 pc L st n := by
  obtain ⟨x, r, rfl, hu1⟩ := wk_1i_ok h
  clear h
  obtain ⟨h0, hu2⟩ := wk_g_ok hu1
  clear hu1
  have h0 := of_decide_eq_true h0
  intro μ e gm gf gl gs gn
  have ix : ab_lo ≤ x ∧ x ≤ ab_hi := gs.1
  show sm_E cl X pc (wk_lc L) (.int (Int32.ofInt x) :: r.map wk_c) ad G.2 μ
  by_cases hx : x < lo ∨ hi < x
  · obtain ⟨tg, ht, hu2⟩ := wk_tg_ok (hu2.2 hx)
    exact sm_tableOut hX tg d (by rw [wk_ti ix]; exact hx) ht (kk _ _ _ _ hu2 μ e gm gf gl gs.2 gn)
  · have h1 : (x - lo).toNat < offs.size := by omega
    have ho : offs[(x - lo).toNat]? = some offs[(x - lo).toNat] := Array.getElem?_eq_getElem h1
    obtain ⟨tg, ht, hu2⟩ := wk_tg_ok (wk_tb_ok hu2.1 (x - lo).toNat offs[(x - lo).toNat] (by rw [Array.getElem?_toList]; exact ho) (by omega))
    exact sm_tableIn hX tg d (by rw [wk_ti ix]; omega) (by rw [wk_ti ix]; omega) (by rw [wk_ti ix]; exact ho) ht (kk _ _ _ _ hu2 μ e gm gf gl gs.2 gn)
theorem wk_in_getfield {cl : List vw_C} {X : sm_X} {cc : ByteArray} {own : String} {Ts : List Cond} {rm : Room} {N Sz : Nat} {ini : Bool} {nl : Nat} {ret : Option FieldType} (hX : sm_ok cl X cc nl own Ts ret rm N Sz ini) {G : ab_G} (hG : ab_Gok G) {R : wk_R} (hR : wk_Rok G R) {K : dp_K} {ys : Nat → MethodName} {wss : Nat → List Cond} (hK : dp_Kok cl X.1.2.2.2 own Ts ys wss K) {lvl : Nat} (hfr : lvl ≤ rm.frames) (hlo : 32 * lvl ≤ rm.locals) (hN : G.2.length ≤ N) (hSz : sm_sl G.2 ≤ Sz) {W : List Nat} {ad : Nat → Nat} {μ0 : sm_M} {fin : Option wk_V → wk_M → Prop} (hf : sm_fin cl X ad G.2 0 0 (wk_Q G W μ0 fin)) {pc len : Nat} {L : wk_L} {st : List wk_V} {n : wk_N} {k : wk_K} (kk : ∀ (pc' : Nat) (L' : wk_L) (st' : List wk_V) (n' : wk_N), k pc' L' st' n' → wk_J cl X G W nl ad μ0 pc' L' st' n') (i : Nat) (d : decode cc pc = .ok ((.getfield i), len)) (h : wk_in K G R nl ret W (wk_cl cl X.1 ys wss G lvl W) fin pc L st n (.getfield i) len k) : wk_J cl X G W nl ad μ0 pc L st n := by
  obtain ⟨hl, hu1⟩ := wk_g_ok h
  clear h
  have hl := dp_beq hl
  subst hl
  obtain ⟨p, r, rfl, hu2⟩ := wk_1r_ok hu1
  clear hu1
  obtain ⟨⟨ci, kf, fl⟩, hF, hu3⟩ := wk_o_ok hu2
  clear hu2
  have hu3 : wk_ob G.2 p ci _ := hu3
  obtain ⟨fs, hs, hu4⟩ := wk_ob_ok hu3
  clear hu3
  obtain ⟨C, T, N', tt, e2, e3, e5, e7, e8, e6, -⟩ := hK.1 _ _ hF
  simp only at e2 e3 e5 e6
  intro μ e gm gf gl gs gn
  show sm_E cl X pc (wk_lc L) (.ref p :: r.map wk_c) ad G.2 μ
  split at hu4
  · rename_i hfk
    obtain ⟨m, us, gl0⟩ := n
    have hu4 : wk_rF R m p kf (fun x => k (pc + 3) L (.inl x :: r) (m, us, gl0)) us := hu4
    have rd := wk_rdN e p kf
    have e1 : (wk_mk (m, us, gl0)).1 = (wk_mu m us).1 := wk_mg_1 _ _
    rw [e1] at rd
    have q : sm_E cl X (pc + 3) (wk_lc L) (.int (Int32.ofInt ((wk_mu m us).1 p (kf : Nat))) :: r.map wk_c) ad G.2 μ := by
      have h1 := (gm p kf).1
      have h2 := (gm p kf).2
      rw [← rd] at h1 h2
      exact kk _ _ _ _ (wk_rF_ok hR hu4 h1 h2) μ e gm gf gl ⟨⟨by rw [rd]; exact ab_min _, by rw [rd]; exact ab_max _⟩, gs.2⟩ gn
    rw [rd, wk_io] at q
    rcases e6 with e6 | ⟨host, e6⟩
    · exact sm_getI hX hs e2 e3 hfk e5 e6 d q
    · exact sm_getIN hX hs e2 e3 hfk e5 e6 d q
  · rename_i qq hfk
    have q := kk _ _ _ _ hu4 μ e gm gf gl ⟨trivial, gs.2⟩ gn
    rcases e6 with e6 | ⟨host, e6⟩
    · exact sm_getR hX hs e2 e3 hfk e5 e6 d q
    · exact sm_getRN hX hs e2 e3 hfk e5 e6 d q
  · exact hu4.elim
theorem wk_in_putfield {cl : List vw_C} {X : sm_X} {cc : ByteArray} {own : String} {Ts : List Cond} {rm : Room} {N Sz : Nat} {ini : Bool} {nl : Nat} {ret : Option FieldType} (hX : sm_ok cl X cc nl own Ts ret rm N Sz ini) {G : ab_G} (hG : ab_Gok G) {R : wk_R} (hR : wk_Rok G R) {K : dp_K} {ys : Nat → MethodName} {wss : Nat → List Cond} (hK : dp_Kok cl X.1.2.2.2 own Ts ys wss K) {lvl : Nat} (hfr : lvl ≤ rm.frames) (hlo : 32 * lvl ≤ rm.locals) (hN : G.2.length ≤ N) (hSz : sm_sl G.2 ≤ Sz) {W : List Nat} {ad : Nat → Nat} {μ0 : sm_M} {fin : Option wk_V → wk_M → Prop} (hf : sm_fin cl X ad G.2 0 0 (wk_Q G W μ0 fin)) {pc len : Nat} {L : wk_L} {st : List wk_V} {n : wk_N} {k : wk_K} (kk : ∀ (pc' : Nat) (L' : wk_L) (st' : List wk_V) (n' : wk_N), k pc' L' st' n' → wk_J cl X G W nl ad μ0 pc' L' st' n') (i : Nat) (d : decode cc pc = .ok ((.putfield i), len)) (h : wk_in K G R nl ret W (wk_cl cl X.1 ys wss G lvl W) fin pc L st n (.putfield i) len k) : wk_J cl X G W nl ad μ0 pc L st n := by
  obtain ⟨hl, hu1⟩ := wk_g_ok h
  clear h
  have hl := dp_beq hl
  subst hl
  obtain ⟨x, r, rfl, hu2⟩ := wk_1i_ok hu1
  clear hu1
  obtain ⟨p, r, rfl, hu3⟩ := wk_1r_ok hu2
  clear hu2
  obtain ⟨⟨ci, kf, fl⟩, hF, hu4⟩ := wk_o_ok hu3
  clear hu3
  have hu4 : wk_ob G.2 p ci _ := hu4
  obtain ⟨fs, hs, hu5⟩ := wk_ob_ok hu4
  clear hu4
  obtain ⟨C, T, N', tt, e2, e3, e5, e7, e8, e6, f0, f1, f2⟩ := hK.1 _ _ hF
  simp only at e2 e3 e5 e6 f0 f1 f2
  intro μ e gm gf gl gs gn
  have ix : ab_lo ≤ x ∧ x ≤ ab_hi := gs.1
  show sm_E cl X pc (wk_lc L) (.int (Int32.ofInt x) :: .ref p :: r.map wk_c) ad G.2 μ
  split at hu5
  · rename_i hfk
    obtain ⟨hw, hu5⟩ := wk_g_ok hu5
    have wm := wk_any hw
    obtain ⟨rg, hu5⟩ := wk_wr_ok hR hu5
    obtain ⟨m, us, gl0⟩ := n
    have gm' := ab_mu_ui (v := Int32.ofInt x) gm (by rw [wk_ti ix]; exact rg.1) (by rw [wk_ti ix]; exact rg.2)
    have gf' := ab_fr_ui (i := kf) (v := Int32.ofInt x) gf wm
    have key : ∀ ty : FieldType, sm_fp cl Ts C ci N' kf false ty T → narrow ty (.int (Int32.ofInt x)) = .int (Int32.ofInt x) → fits ty (.int (Int32.ofInt x)) = true → k (pc + 3) L r (m, (p, .inl kf, x) :: us, gl0) → sm_E cl X pc (wk_lc L) (.int (Int32.ofInt x) :: .ref p :: r.map wk_c) ad G.2 μ := by
      intro ty g1 g2 g3 g4
      have eu : wk_of (sm_ui μ p kf (Int32.ofInt x)) = wk_mk (m, (p, .inl kf, x) :: us, gl0) := (wk_of_ui e p kf ix).trans (wk_mg_u _ _ _ _ _).symm
      have g5 := kk _ _ _ _ g4 _ eu gm' gf' gl gs.2.2 gn
      rcases e6 with e6 | ⟨host, e6⟩
      · exact sm_put hX hs hfk g1 e6 g2 g3 d g5
      · exact sm_putN hX hs hfk g1 e6 g2 g3 d g5
    split at hu5
    · obtain ⟨z1, z2⟩ := f0 rfl
      exact key .int ⟨tt, e2, e3, e5, e7, e8, z1, z2⟩ rfl rfl hu5
    · obtain ⟨z1, z2⟩ := f1 rfl
      have bb := ab_bits (x := Int32.ofInt x) (by rw [wk_ti ix]; exact hu5.1.1) (by rw [wk_ti ix]; exact hu5.1.2)
      refine key .boolean ⟨tt, e2, e3, e5, e7, e8, z1, z2⟩ ?_ ?_ hu5.2
      · rcases bb with bb | bb <;> rw [bb] <;> rfl
      · rcases bb with bb | bb <;> rw [bb] <;> rfl
    · exact hu5.elim
  · exact hu5.elim
theorem wk_in_iaload {cl : List vw_C} {X : sm_X} {cc : ByteArray} {own : String} {Ts : List Cond} {rm : Room} {N Sz : Nat} {ini : Bool} {nl : Nat} {ret : Option FieldType} (hX : sm_ok cl X cc nl own Ts ret rm N Sz ini) {G : ab_G} (hG : ab_Gok G) {R : wk_R} (hR : wk_Rok G R) {K : dp_K} {ys : Nat → MethodName} {wss : Nat → List Cond} (hK : dp_Kok cl X.1.2.2.2 own Ts ys wss K) {lvl : Nat} (hfr : lvl ≤ rm.frames) (hlo : 32 * lvl ≤ rm.locals) (hN : G.2.length ≤ N) (hSz : sm_sl G.2 ≤ Sz) {W : List Nat} {ad : Nat → Nat} {μ0 : sm_M} {fin : Option wk_V → wk_M → Prop} (hf : sm_fin cl X ad G.2 0 0 (wk_Q G W μ0 fin)) {pc len : Nat} {L : wk_L} {st : List wk_V} {n : wk_N} {k : wk_K} (kk : ∀ (pc' : Nat) (L' : wk_L) (st' : List wk_V) (n' : wk_N), k pc' L' st' n' → wk_J cl X G W nl ad μ0 pc' L' st' n')  (d : decode cc pc = .ok (.iaload, len)) (h : wk_in K G R nl ret W (wk_cl cl X.1 ys wss G lvl W) fin pc L st n .iaload len k) : wk_J cl X G W nl ad μ0 pc L st n := by
  obtain ⟨hl, hu1⟩ := wk_g_ok h
  clear h
  have hl := dp_beq hl
  subst hl
  obtain ⟨i, r, rfl, hu2⟩ := wk_1i_ok hu1
  clear hu1
  obtain ⟨p, r, rfl, hu3⟩ := wk_1r_ok hu2
  clear hu2
  obtain ⟨ln, hs, i1, i2, hu4⟩ := wk_ai_ok hu3
  clear hu3
  intro μ e gm gf gl gs gn
  have ii : ab_lo ≤ i ∧ i ≤ ab_hi := gs.1
  show sm_E cl X pc (wk_lc L) (.int (Int32.ofInt i) :: .ref p :: r.map wk_c) ad G.2 μ
  refine sm_iald hX hs (wk_vin ii i1 i2) d ?_
  rw [wk_cmpn ii]
  obtain ⟨m, us, gl0⟩ := n
  have hu4 : wk_rA R m p i (fun x => k (pc + 1) L (.inl x :: r) (m, us, gl0)) us := hu4
  have rd := wk_rdI e p i1
  have e1 : (wk_mk (m, us, gl0)).1 = (wk_mu m us).1 := wk_mg_1 _ _
  rw [e1] at rd
  have g0 := hG _ _ _ hs i.toNat
  have h1 := (gm p i.toNat).1
  have h2 := (gm p i.toNat).2
  rw [g0, ← rd] at h1 h2
  have q : sm_E cl X (pc + 1) (wk_lc L) (.int (Int32.ofInt ((wk_mu m us).1 p i)) :: r.map wk_c) ad G.2 μ := kk _ _ _ _ (wk_rA_ok hR hu4 h1 h2) μ e gm gf gl ⟨⟨by rw [rd]; exact ab_min _, by rw [rd]; exact ab_max _⟩, gs.2.2⟩ gn
  rw [rd, wk_io] at q
  exact q
theorem wk_in_baload {cl : List vw_C} {X : sm_X} {cc : ByteArray} {own : String} {Ts : List Cond} {rm : Room} {N Sz : Nat} {ini : Bool} {nl : Nat} {ret : Option FieldType} (hX : sm_ok cl X cc nl own Ts ret rm N Sz ini) {G : ab_G} (hG : ab_Gok G) {R : wk_R} (hR : wk_Rok G R) {K : dp_K} {ys : Nat → MethodName} {wss : Nat → List Cond} (hK : dp_Kok cl X.1.2.2.2 own Ts ys wss K) {lvl : Nat} (hfr : lvl ≤ rm.frames) (hlo : 32 * lvl ≤ rm.locals) (hN : G.2.length ≤ N) (hSz : sm_sl G.2 ≤ Sz) {W : List Nat} {ad : Nat → Nat} {μ0 : sm_M} {fin : Option wk_V → wk_M → Prop} (hf : sm_fin cl X ad G.2 0 0 (wk_Q G W μ0 fin)) {pc len : Nat} {L : wk_L} {st : List wk_V} {n : wk_N} {k : wk_K} (kk : ∀ (pc' : Nat) (L' : wk_L) (st' : List wk_V) (n' : wk_N), k pc' L' st' n' → wk_J cl X G W nl ad μ0 pc' L' st' n')  (d : decode cc pc = .ok (.baload, len)) (h : wk_in K G R nl ret W (wk_cl cl X.1 ys wss G lvl W) fin pc L st n .baload len k) : wk_J cl X G W nl ad μ0 pc L st n := by
  obtain ⟨hl, hu1⟩ := wk_g_ok h
  clear h
  have hl := dp_beq hl
  subst hl
  obtain ⟨i, r, rfl, hu2⟩ := wk_1i_ok hu1
  clear hu1
  obtain ⟨p, r, rfl, hu3⟩ := wk_1r_ok hu2
  clear hu2
  obtain ⟨ln, hs, i1, i2, hu4⟩ := wk_ai_ok hu3
  clear hu3
  intro μ e gm gf gl gs gn
  have ii : ab_lo ≤ i ∧ i ≤ ab_hi := gs.1
  show sm_E cl X pc (wk_lc L) (.int (Int32.ofInt i) :: .ref p :: r.map wk_c) ad G.2 μ
  refine sm_zald hX hs (wk_vin ii i1 i2) d ?_
  rw [wk_cmpn ii]
  obtain ⟨m, us, gl0⟩ := n
  have hu4 : wk_rA R m p i (fun x => k (pc + 1) L (.inl x :: r) (m, us, gl0)) us := hu4
  have rd := wk_rdI e p i1
  have e1 : (wk_mk (m, us, gl0)).1 = (wk_mu m us).1 := wk_mg_1 _ _
  rw [e1] at rd
  have g0 := hG _ _ _ hs i.toNat
  have h1 := (gm p i.toNat).1
  have h2 := (gm p i.toNat).2
  rw [g0, ← rd] at h1 h2
  have q : sm_E cl X (pc + 1) (wk_lc L) (.int (Int32.ofInt ((wk_mu m us).1 p i)) :: r.map wk_c) ad G.2 μ := kk _ _ _ _ (wk_rA_ok hR hu4 h1 h2) μ e gm gf gl ⟨⟨by rw [rd]; exact ab_min _, by rw [rd]; exact ab_max _⟩, gs.2.2⟩ gn
  rw [rd, wk_io] at q
  exact q
theorem wk_in_laload {cl : List vw_C} {X : sm_X} {cc : ByteArray} {own : String} {Ts : List Cond} {rm : Room} {N Sz : Nat} {ini : Bool} {nl : Nat} {ret : Option FieldType} (hX : sm_ok cl X cc nl own Ts ret rm N Sz ini) {G : ab_G} (hG : ab_Gok G) {R : wk_R} (hR : wk_Rok G R) {K : dp_K} {ys : Nat → MethodName} {wss : Nat → List Cond} (hK : dp_Kok cl X.1.2.2.2 own Ts ys wss K) {lvl : Nat} (hfr : lvl ≤ rm.frames) (hlo : 32 * lvl ≤ rm.locals) (hN : G.2.length ≤ N) (hSz : sm_sl G.2 ≤ Sz) {W : List Nat} {ad : Nat → Nat} {μ0 : sm_M} {fin : Option wk_V → wk_M → Prop} (hf : sm_fin cl X ad G.2 0 0 (wk_Q G W μ0 fin)) {pc len : Nat} {L : wk_L} {st : List wk_V} {n : wk_N} {k : wk_K} (kk : ∀ (pc' : Nat) (L' : wk_L) (st' : List wk_V) (n' : wk_N), k pc' L' st' n' → wk_J cl X G W nl ad μ0 pc' L' st' n')  (d : decode cc pc = .ok (.laload, len)) (h : wk_in K G R nl ret W (wk_cl cl X.1 ys wss G lvl W) fin pc L st n .laload len k) : wk_J cl X G W nl ad μ0 pc L st n := by
  obtain ⟨hl, hu1⟩ := wk_g_ok h
  clear h
  have hl := dp_beq hl
  subst hl
  obtain ⟨i, r, rfl, hu2⟩ := wk_1i_ok hu1
  clear hu1
  obtain ⟨p, r, rfl, hu3⟩ := wk_1r_ok hu2
  clear hu2
  obtain ⟨ln, hs, i1, i2, hu4⟩ := wk_ai_ok hu3
  clear hu3
  intro μ e gm gf gl gs gn
  have ii : ab_lo ≤ i ∧ i ≤ ab_hi := gs.1
  show sm_E cl X pc (wk_lc L) (.int (Int32.ofInt i) :: .ref p :: r.map wk_c) ad G.2 μ
  refine sm_lald hX hs (wk_vin ii i1 i2) d ?_
  rw [wk_cmpn ii]
  obtain ⟨m, us, gl0⟩ := n
  have hu4 : wk_rL m p i (fun x => k (pc + 1) L (.inr (.inr x) :: r) (m, us, gl0)) gl0 := hu4
  have rd := wk_rdL e p i1
  have e1 : (wk_mk (m, us, gl0)).2 = (wk_mg m gl0).2 := wk_mg_2 _ _ (wk_mu_2 m us) gl0
  rw [e1] at rd
  have q : sm_E cl X (pc + 1) (wk_lc L) (.long ((wk_mg m gl0).2 p i) :: r.map wk_c) ad G.2 μ := kk _ _ _ _ (wk_rL_ok hu4) μ e gm gf gl ⟨trivial, gs.2.2⟩ gn
  rw [rd] at q
  exact q
theorem wk_in_iastore {cl : List vw_C} {X : sm_X} {cc : ByteArray} {own : String} {Ts : List Cond} {rm : Room} {N Sz : Nat} {ini : Bool} {nl : Nat} {ret : Option FieldType} (hX : sm_ok cl X cc nl own Ts ret rm N Sz ini) {G : ab_G} (hG : ab_Gok G) {R : wk_R} (hR : wk_Rok G R) {K : dp_K} {ys : Nat → MethodName} {wss : Nat → List Cond} (hK : dp_Kok cl X.1.2.2.2 own Ts ys wss K) {lvl : Nat} (hfr : lvl ≤ rm.frames) (hlo : 32 * lvl ≤ rm.locals) (hN : G.2.length ≤ N) (hSz : sm_sl G.2 ≤ Sz) {W : List Nat} {ad : Nat → Nat} {μ0 : sm_M} {fin : Option wk_V → wk_M → Prop} (hf : sm_fin cl X ad G.2 0 0 (wk_Q G W μ0 fin)) {pc len : Nat} {L : wk_L} {st : List wk_V} {n : wk_N} {k : wk_K} (kk : ∀ (pc' : Nat) (L' : wk_L) (st' : List wk_V) (n' : wk_N), k pc' L' st' n' → wk_J cl X G W nl ad μ0 pc' L' st' n')  (d : decode cc pc = .ok (.iastore, len)) (h : wk_in K G R nl ret W (wk_cl cl X.1 ys wss G lvl W) fin pc L st n .iastore len k) : wk_J cl X G W nl ad μ0 pc L st n := by
  obtain ⟨hl, hu1⟩ := wk_g_ok h
  clear h
  have hl := dp_beq hl
  subst hl
  obtain ⟨x, r, rfl, hu2⟩ := wk_1i_ok hu1
  clear hu1
  obtain ⟨i, r, rfl, hu3⟩ := wk_1i_ok hu2
  clear hu2
  obtain ⟨p, r, rfl, hu4⟩ := wk_1r_ok hu3
  clear hu3
  obtain ⟨ln, hs, i1, i2, hu5⟩ := wk_ai_ok hu4
  clear hu4
  obtain ⟨hw, hu6⟩ := wk_g_ok hu5
  clear hu5
  intro μ e gm gf gl gs gn
  have ix : ab_lo ≤ x ∧ x ≤ ab_hi := gs.1
  have ii : ab_lo ≤ i ∧ i ≤ ab_hi := gs.2.1
  have wm := wk_any hw
  obtain ⟨rg, hu6⟩ := wk_wr_ok hR hu6
  obtain ⟨m, us, gl0⟩ := n
  have g0 := hG _ _ _ hs i.toNat
  have gm' := ab_mu_ui (p := p) (i := i.toNat) (v := Int32.ofInt x) gm (by rw [wk_ti ix, g0]; exact rg.1) (by rw [wk_ti ix, g0]; exact rg.2)
  have gf' := ab_fr_ui (i := i.toNat) (v := Int32.ofInt x) gf wm
  show sm_E cl X pc (wk_lc L) (.int (Int32.ofInt x) :: .int (Int32.ofInt i) :: .ref p :: r.map wk_c) ad G.2 μ
  have eu := wk_of_ui e p i.toNat ix
  rw [Int.toNat_of_nonneg i1] at eu
  have eu : wk_of (sm_ui μ p i.toNat (Int32.ofInt x)) = wk_mk (m, (p, .inr i, x) :: us, gl0) := eu.trans (wk_mg_u _ _ _ _ _).symm
  refine sm_iast hX hs (wk_vin ii i1 i2) d ?_
  rw [wk_cmpn ii]
  exact kk _ _ _ _ hu6 _ eu gm' gf' gl gs.2.2.2 gn
theorem wk_in_bastore {cl : List vw_C} {X : sm_X} {cc : ByteArray} {own : String} {Ts : List Cond} {rm : Room} {N Sz : Nat} {ini : Bool} {nl : Nat} {ret : Option FieldType} (hX : sm_ok cl X cc nl own Ts ret rm N Sz ini) {G : ab_G} (hG : ab_Gok G) {R : wk_R} (hR : wk_Rok G R) {K : dp_K} {ys : Nat → MethodName} {wss : Nat → List Cond} (hK : dp_Kok cl X.1.2.2.2 own Ts ys wss K) {lvl : Nat} (hfr : lvl ≤ rm.frames) (hlo : 32 * lvl ≤ rm.locals) (hN : G.2.length ≤ N) (hSz : sm_sl G.2 ≤ Sz) {W : List Nat} {ad : Nat → Nat} {μ0 : sm_M} {fin : Option wk_V → wk_M → Prop} (hf : sm_fin cl X ad G.2 0 0 (wk_Q G W μ0 fin)) {pc len : Nat} {L : wk_L} {st : List wk_V} {n : wk_N} {k : wk_K} (kk : ∀ (pc' : Nat) (L' : wk_L) (st' : List wk_V) (n' : wk_N), k pc' L' st' n' → wk_J cl X G W nl ad μ0 pc' L' st' n')  (d : decode cc pc = .ok (.bastore, len)) (h : wk_in K G R nl ret W (wk_cl cl X.1 ys wss G lvl W) fin pc L st n .bastore len k) : wk_J cl X G W nl ad μ0 pc L st n := by
  obtain ⟨hl, hu1⟩ := wk_g_ok h
  clear h
  have hl := dp_beq hl
  subst hl
  obtain ⟨x, r, rfl, hu2⟩ := wk_1i_ok hu1
  clear hu1
  obtain ⟨i, r, rfl, hu3⟩ := wk_1i_ok hu2
  clear hu2
  obtain ⟨p, r, rfl, hu4⟩ := wk_1r_ok hu3
  clear hu3
  obtain ⟨ln, hs, i1, i2, hu5⟩ := wk_ai_ok hu4
  clear hu4
  obtain ⟨hw, hu6⟩ := wk_g_ok hu5
  clear hu5
  intro μ e gm gf gl gs gn
  have ix : ab_lo ≤ x ∧ x ≤ ab_hi := gs.1
  have ii : ab_lo ≤ i ∧ i ≤ ab_hi := gs.2.1
  have wm := wk_any hw
  obtain ⟨rg, hu6⟩ := wk_wr_ok hR hu6
  obtain ⟨m, us, gl0⟩ := n
  have g0 := hG _ _ _ hs i.toNat
  have gm' := ab_mu_ui (p := p) (i := i.toNat) (v := Int32.ofInt x) gm (by rw [wk_ti ix, g0]; exact rg.1) (by rw [wk_ti ix, g0]; exact rg.2)
  have gf' := ab_fr_ui (i := i.toNat) (v := Int32.ofInt x) gf wm
  show sm_E cl X pc (wk_lc L) (.int (Int32.ofInt x) :: .int (Int32.ofInt i) :: .ref p :: r.map wk_c) ad G.2 μ
  have eu := wk_of_ui e p i.toNat ix
  rw [Int.toNat_of_nonneg i1] at eu
  have eu : wk_of (sm_ui μ p i.toNat (Int32.ofInt x)) = wk_mk (m, (p, .inr i, x) :: us, gl0) := eu.trans (wk_mg_u _ _ _ _ _).symm
  have bb := ab_bits (x := Int32.ofInt x) (by rw [wk_ti ix]; exact hu6.1.1) (by rw [wk_ti ix]; exact hu6.1.2)
  have en : vp_nar .boolean (Int32.ofInt x) = Int32.ofInt x := by rcases bb with bb | bb <;> rw [bb] <;> rfl
  refine sm_zast hX hs (wk_vin ii i1 i2) d ?_
  rw [wk_cmpn ii, en]
  exact kk _ _ _ _ hu6.2 _ eu gm' gf' gl gs.2.2.2 gn
theorem wk_in_lastore {cl : List vw_C} {X : sm_X} {cc : ByteArray} {own : String} {Ts : List Cond} {rm : Room} {N Sz : Nat} {ini : Bool} {nl : Nat} {ret : Option FieldType} (hX : sm_ok cl X cc nl own Ts ret rm N Sz ini) {G : ab_G} (hG : ab_Gok G) {R : wk_R} (hR : wk_Rok G R) {K : dp_K} {ys : Nat → MethodName} {wss : Nat → List Cond} (hK : dp_Kok cl X.1.2.2.2 own Ts ys wss K) {lvl : Nat} (hfr : lvl ≤ rm.frames) (hlo : 32 * lvl ≤ rm.locals) (hN : G.2.length ≤ N) (hSz : sm_sl G.2 ≤ Sz) {W : List Nat} {ad : Nat → Nat} {μ0 : sm_M} {fin : Option wk_V → wk_M → Prop} (hf : sm_fin cl X ad G.2 0 0 (wk_Q G W μ0 fin)) {pc len : Nat} {L : wk_L} {st : List wk_V} {n : wk_N} {k : wk_K} (kk : ∀ (pc' : Nat) (L' : wk_L) (st' : List wk_V) (n' : wk_N), k pc' L' st' n' → wk_J cl X G W nl ad μ0 pc' L' st' n')  (d : decode cc pc = .ok (.lastore, len)) (h : wk_in K G R nl ret W (wk_cl cl X.1 ys wss G lvl W) fin pc L st n .lastore len k) : wk_J cl X G W nl ad μ0 pc L st n := by
  obtain ⟨hl, hu1⟩ := wk_g_ok h
  clear h
  have hl := dp_beq hl
  subst hl
  obtain ⟨x, r, rfl, hu2⟩ := wk_1l_ok hu1
  clear hu1
  obtain ⟨i, r, rfl, hu3⟩ := wk_1i_ok hu2
  clear hu2
  obtain ⟨p, r, rfl, hu4⟩ := wk_1r_ok hu3
  clear hu3
  obtain ⟨ln, hs, i1, i2, hu5⟩ := wk_ai_ok hu4
  clear hu4
  obtain ⟨hw, hu6⟩ := wk_g_ok hu5
  clear hu5
  intro μ e gm gf gl gs gn
  have ii : ab_lo ≤ i ∧ i ≤ ab_hi := gs.2.1
  have wm := wk_any hw
  show sm_E cl X pc (wk_lc L) (.long x :: .int (Int32.ofInt i) :: .ref p :: r.map wk_c) ad G.2 μ
  have eu := wk_of_ul e p i.toNat x
  rw [Int.toNat_of_nonneg i1] at eu
  obtain ⟨m, us, gl0⟩ := n
  have eu : wk_of (sm_ul μ p i.toNat x) = wk_mk (m, us, (p, i, x) :: gl0) := eu
  refine sm_last hX hs (wk_vin ii i1 i2) d ?_
  rw [wk_cmpn ii]
  exact kk _ _ _ _ hu6 _ eu gm (ab_fr_ul gf wm) gl gs.2.2.2 gn
theorem wk_in_arraylength {cl : List vw_C} {X : sm_X} {cc : ByteArray} {own : String} {Ts : List Cond} {rm : Room} {N Sz : Nat} {ini : Bool} {nl : Nat} {ret : Option FieldType} (hX : sm_ok cl X cc nl own Ts ret rm N Sz ini) {G : ab_G} (hG : ab_Gok G) {R : wk_R} (hR : wk_Rok G R) {K : dp_K} {ys : Nat → MethodName} {wss : Nat → List Cond} (hK : dp_Kok cl X.1.2.2.2 own Ts ys wss K) {lvl : Nat} (hfr : lvl ≤ rm.frames) (hlo : 32 * lvl ≤ rm.locals) (hN : G.2.length ≤ N) (hSz : sm_sl G.2 ≤ Sz) {W : List Nat} {ad : Nat → Nat} {μ0 : sm_M} {fin : Option wk_V → wk_M → Prop} (hf : sm_fin cl X ad G.2 0 0 (wk_Q G W μ0 fin)) {pc len : Nat} {L : wk_L} {st : List wk_V} {n : wk_N} {k : wk_K} (kk : ∀ (pc' : Nat) (L' : wk_L) (st' : List wk_V) (n' : wk_N), k pc' L' st' n' → wk_J cl X G W nl ad μ0 pc' L' st' n')  (d : decode cc pc = .ok (.arraylength, len)) (h : wk_in K G R nl ret W (wk_cl cl X.1 ys wss G lvl W) fin pc L st n .arraylength len k) : wk_J cl X G W nl ad μ0 pc L st n := by
  obtain ⟨hl, hu1⟩ := wk_g_ok h
  clear h
  have hl := dp_beq hl
  subst hl
  obtain ⟨p, r, rfl, hu2⟩ := wk_1r_ok hu1
  clear hu1
  intro μ e gm gf gl gs gn
  show sm_E cl X pc (wk_lc L) (.ref p :: r.map wk_c) ad G.2 μ
  split at hu2
  · rename_i c ln hs
    obtain ⟨h1, hu2⟩ := wk_g_ok hu2
    rw [Bool.and_eq_true] at h1
    have q1 := Nat.le_of_ble_eq_true h1.1
    have q2 := Nat.le_of_ble_eq_true h1.2
    have en : Int32.ofNat ln = Int32.ofInt (ln : Int) := rfl
    refine sm_alen hX hs (by omega) d ?_
    rw [en]
    exact kk _ _ _ _ hu2 μ e gm gf gl ⟨⟨by show (-2147483648 : Int) ≤ _; omega, by show _ ≤ (2147483647 : Int); omega⟩, gs.2⟩ gn
  · exact hu2.elim
theorem wk_in_invokestatic {cl : List vw_C} {X : sm_X} {cc : ByteArray} {own : String} {Ts : List Cond} {rm : Room} {N Sz : Nat} {ini : Bool} {nl : Nat} {ret : Option FieldType} (hX : sm_ok cl X cc nl own Ts ret rm N Sz ini) {G : ab_G} (hG : ab_Gok G) {R : wk_R} (hR : wk_Rok G R) {K : dp_K} {ys : Nat → MethodName} {wss : Nat → List Cond} (hK : dp_Kok cl X.1.2.2.2 own Ts ys wss K) {lvl : Nat} (hfr : lvl ≤ rm.frames) (hlo : 32 * lvl ≤ rm.locals) (hN : G.2.length ≤ N) (hSz : sm_sl G.2 ≤ Sz) {W : List Nat} {ad : Nat → Nat} {μ0 : sm_M} {fin : Option wk_V → wk_M → Prop} (hf : sm_fin cl X ad G.2 0 0 (wk_Q G W μ0 fin)) {pc len : Nat} {L : wk_L} {st : List wk_V} {n : wk_N} {k : wk_K} (kk : ∀ (pc' : Nat) (L' : wk_L) (st' : List wk_V) (n' : wk_N), k pc' L' st' n' → wk_J cl X G W nl ad μ0 pc' L' st' n') (i : Nat) (d : decode cc pc = .ok ((.invokestatic i), len)) (h : wk_in K G R nl ret W (wk_cl cl X.1 ys wss G lvl W) fin pc L st n (.invokestatic i) len k) : wk_J cl X G W nl ad μ0 pc L st n := by
  obtain ⟨hl, hu1⟩ := wk_g_ok h
  clear h
  have hl := dp_beq hl
  subst hl
  obtain ⟨C, hC, hu2⟩ := wk_o_ok hu1
  clear hu1
  exact wk_call_ok hX hG hR hK hfr hlo hN hSz hf kk (hK.2.2.2.1 _ _ hC cc) d hu2
theorem wk_in_invokevirtual {cl : List vw_C} {X : sm_X} {cc : ByteArray} {own : String} {Ts : List Cond} {rm : Room} {N Sz : Nat} {ini : Bool} {nl : Nat} {ret : Option FieldType} (hX : sm_ok cl X cc nl own Ts ret rm N Sz ini) {G : ab_G} (hG : ab_Gok G) {R : wk_R} (hR : wk_Rok G R) {K : dp_K} {ys : Nat → MethodName} {wss : Nat → List Cond} (hK : dp_Kok cl X.1.2.2.2 own Ts ys wss K) {lvl : Nat} (hfr : lvl ≤ rm.frames) (hlo : 32 * lvl ≤ rm.locals) (hN : G.2.length ≤ N) (hSz : sm_sl G.2 ≤ Sz) {W : List Nat} {ad : Nat → Nat} {μ0 : sm_M} {fin : Option wk_V → wk_M → Prop} (hf : sm_fin cl X ad G.2 0 0 (wk_Q G W μ0 fin)) {pc len : Nat} {L : wk_L} {st : List wk_V} {n : wk_N} {k : wk_K} (kk : ∀ (pc' : Nat) (L' : wk_L) (st' : List wk_V) (n' : wk_N), k pc' L' st' n' → wk_J cl X G W nl ad μ0 pc' L' st' n') (i : Nat) (d : decode cc pc = .ok ((.invokevirtual i), len)) (h : wk_in K G R nl ret W (wk_cl cl X.1 ys wss G lvl W) fin pc L st n (.invokevirtual i) len k) : wk_J cl X G W nl ad μ0 pc L st n := by
  obtain ⟨hl, hu1⟩ := wk_g_ok h
  clear h
  have hl := dp_beq hl
  subst hl
  obtain ⟨C, hC, hu2⟩ := wk_o_ok hu1
  clear hu1
  exact wk_call_ok hX hG hR hK hfr hlo hN hSz hf kk (hK.2.2.2.2.1 _ _ hC cc) d hu2
theorem wk_in_ireturn {cl : List vw_C} {X : sm_X} {cc : ByteArray} {own : String} {Ts : List Cond} {rm : Room} {N Sz : Nat} {ini : Bool} {nl : Nat} {ret : Option FieldType} (hX : sm_ok cl X cc nl own Ts ret rm N Sz ini) {G : ab_G} (hG : ab_Gok G) {R : wk_R} (hR : wk_Rok G R) {K : dp_K} {ys : Nat → MethodName} {wss : Nat → List Cond} (hK : dp_Kok cl X.1.2.2.2 own Ts ys wss K) {lvl : Nat} (hfr : lvl ≤ rm.frames) (hlo : 32 * lvl ≤ rm.locals) (hN : G.2.length ≤ N) (hSz : sm_sl G.2 ≤ Sz) {W : List Nat} {ad : Nat → Nat} {μ0 : sm_M} {fin : Option wk_V → wk_M → Prop} (hf : sm_fin cl X ad G.2 0 0 (wk_Q G W μ0 fin)) {pc len : Nat} {L : wk_L} {st : List wk_V} {n : wk_N} {k : wk_K} (kk : ∀ (pc' : Nat) (L' : wk_L) (st' : List wk_V) (n' : wk_N), k pc' L' st' n' → wk_J cl X G W nl ad μ0 pc' L' st' n')  (d : decode cc pc = .ok (.ireturn, len)) (h : wk_in K G R nl ret W (wk_cl cl X.1 ys wss G lvl W) fin pc L st n .ireturn len k) : wk_J cl X G W nl ad μ0 pc L st n := by
  obtain ⟨hl, hu1⟩ := wk_g_ok h
  clear h
  have hl := dp_beq hl
  subst hl
  intro μ e gm gf gl gs gn
  split at hu1
  · rename_i x
    exact sm_iret hX hf rfl rfl (fun _ _ => rfl) rfl d ⟨rfl, gm, gf, some (.inl x), rfl, gs.1, by rw [e]; exact wk_co_ok hu1⟩
  · rename_i x
    have ix : ab_lo ≤ x ∧ x ≤ ab_hi := gs.1
    have bb := ab_bits (x := Int32.ofInt x) (by rw [wk_ti ix]; exact hu1.1.1) (by rw [wk_ti ix]; exact hu1.1.2)
    exact sm_zret hX hf rfl rfl (fun _ _ => rfl) rfl (by rcases bb with bb | bb <;> rw [bb] <;> rfl) d ⟨rfl, gm, gf, some (.inl x), rfl, gs.1, by rw [e]; exact wk_co_ok hu1.2⟩
  · exact hu1.elim
theorem wk_in_lreturn {cl : List vw_C} {X : sm_X} {cc : ByteArray} {own : String} {Ts : List Cond} {rm : Room} {N Sz : Nat} {ini : Bool} {nl : Nat} {ret : Option FieldType} (hX : sm_ok cl X cc nl own Ts ret rm N Sz ini) {G : ab_G} (hG : ab_Gok G) {R : wk_R} (hR : wk_Rok G R) {K : dp_K} {ys : Nat → MethodName} {wss : Nat → List Cond} (hK : dp_Kok cl X.1.2.2.2 own Ts ys wss K) {lvl : Nat} (hfr : lvl ≤ rm.frames) (hlo : 32 * lvl ≤ rm.locals) (hN : G.2.length ≤ N) (hSz : sm_sl G.2 ≤ Sz) {W : List Nat} {ad : Nat → Nat} {μ0 : sm_M} {fin : Option wk_V → wk_M → Prop} (hf : sm_fin cl X ad G.2 0 0 (wk_Q G W μ0 fin)) {pc len : Nat} {L : wk_L} {st : List wk_V} {n : wk_N} {k : wk_K} (kk : ∀ (pc' : Nat) (L' : wk_L) (st' : List wk_V) (n' : wk_N), k pc' L' st' n' → wk_J cl X G W nl ad μ0 pc' L' st' n')  (d : decode cc pc = .ok (.lreturn, len)) (h : wk_in K G R nl ret W (wk_cl cl X.1 ys wss G lvl W) fin pc L st n .lreturn len k) : wk_J cl X G W nl ad μ0 pc L st n := by
  obtain ⟨hl, hu1⟩ := wk_g_ok h
  clear h
  have hl := dp_beq hl
  subst hl
  intro μ e gm gf gl gs gn
  split at hu1
  · rename_i x
    exact sm_lret hX hf rfl rfl (fun _ _ => rfl) rfl d ⟨rfl, gm, gf, some (.inr (.inr x)), rfl, gs.1, by rw [e]; exact wk_co_ok hu1⟩
  · exact hu1.elim
theorem wk_in_return_ {cl : List vw_C} {X : sm_X} {cc : ByteArray} {own : String} {Ts : List Cond} {rm : Room} {N Sz : Nat} {ini : Bool} {nl : Nat} {ret : Option FieldType} (hX : sm_ok cl X cc nl own Ts ret rm N Sz ini) {G : ab_G} (hG : ab_Gok G) {R : wk_R} (hR : wk_Rok G R) {K : dp_K} {ys : Nat → MethodName} {wss : Nat → List Cond} (hK : dp_Kok cl X.1.2.2.2 own Ts ys wss K) {lvl : Nat} (hfr : lvl ≤ rm.frames) (hlo : 32 * lvl ≤ rm.locals) (hN : G.2.length ≤ N) (hSz : sm_sl G.2 ≤ Sz) {W : List Nat} {ad : Nat → Nat} {μ0 : sm_M} {fin : Option wk_V → wk_M → Prop} (hf : sm_fin cl X ad G.2 0 0 (wk_Q G W μ0 fin)) {pc len : Nat} {L : wk_L} {st : List wk_V} {n : wk_N} {k : wk_K} (kk : ∀ (pc' : Nat) (L' : wk_L) (st' : List wk_V) (n' : wk_N), k pc' L' st' n' → wk_J cl X G W nl ad μ0 pc' L' st' n')  (d : decode cc pc = .ok (.return_, len)) (h : wk_in K G R nl ret W (wk_cl cl X.1 ys wss G lvl W) fin pc L st n .return_ len k) : wk_J cl X G W nl ad μ0 pc L st n := by
  obtain ⟨hl, hu1⟩ := wk_g_ok h
  clear h
  have hl := dp_beq hl
  subst hl
  intro μ e gm gf gl gs gn
  split at hu1
  · exact sm_vret hX hf rfl rfl (fun _ _ => rfl) rfl d ⟨rfl, gm, gf, none, rfl, trivial, by rw [e]; exact wk_co_ok hu1⟩
  · exact hu1.elim
theorem wk_in_ok {cl : List vw_C} {X : sm_X} {cc : ByteArray} {own : String} {Ts : List Cond} {rm : Room} {N Sz : Nat} {ini : Bool} {nl : Nat} {ret : Option FieldType} (hX : sm_ok cl X cc nl own Ts ret rm N Sz ini) {G : ab_G} (hG : ab_Gok G) {R : wk_R} (hR : wk_Rok G R) {K : dp_K} {ys : Nat → MethodName} {wss : Nat → List Cond} (hK : dp_Kok cl X.1.2.2.2 own Ts ys wss K) {lvl : Nat} (hfr : lvl ≤ rm.frames) (hlo : 32 * lvl ≤ rm.locals) (hN : G.2.length ≤ N) (hSz : sm_sl G.2 ≤ Sz) {W : List Nat} {ad : Nat → Nat} {μ0 : sm_M} {fin : Option wk_V → wk_M → Prop} (hf : sm_fin cl X ad G.2 0 0 (wk_Q G W μ0 fin)) {pc len : Nat} {L : wk_L} {st : List wk_V} {n : wk_N} {k : wk_K} (kk : ∀ (pc' : Nat) (L' : wk_L) (st' : List wk_V) (n' : wk_N), k pc' L' st' n' → wk_J cl X G W nl ad μ0 pc' L' st' n') {ins : Instr} (d : decode cc pc = .ok (ins, len)) (h : wk_in K G R nl ret W (wk_cl cl X.1 ys wss G lvl W) fin pc L st n ins len k) : wk_J cl X G W nl ad μ0 pc L st n := by
  cases ins with
  | iadd => exact wk_in_iadd hX hG hR hK hfr hlo hN hSz hf kk  d h
  | isub => exact wk_in_isub hX hG hR hK hfr hlo hN hSz hf kk  d h
  | imul => exact wk_in_imul hX hG hR hK hfr hlo hN hSz hf kk  d h
  | ineg => exact wk_in_ineg hX hG hR hK hfr hlo hN hSz hf kk  d h
  | iand => exact wk_in_iand hX hG hR hK hfr hlo hN hSz hf kk  d h
  | ior => exact wk_in_ior hX hG hR hK hfr hlo hN hSz hf kk  d h
  | ishr => exact wk_in_ishr hX hG hR hK hfr hlo hN hSz hf kk  d h
  | ixor => exact wk_in_ixor hX hG hR hK hfr hlo hN hSz hf kk  d h
  | ishl => exact wk_in_ishl hX hG hR hK hfr hlo hN hSz hf kk  d h
  | iushr => exact wk_in_iushr hX hG hR hK hfr hlo hN hSz hf kk  d h
  | idiv => exact wk_in_idiv hX hG hR hK hfr hlo hN hSz hf kk  d h
  | irem => exact wk_in_irem hX hG hR hK hfr hlo hN hSz hf kk  d h
  | land => exact wk_in_land hX hG hR hK hfr hlo hN hSz hf kk  d h
  | lor => exact wk_in_lor hX hG hR hK hfr hlo hN hSz hf kk  d h
  | lxor => exact wk_in_lxor hX hG hR hK hfr hlo hN hSz hf kk  d h
  | ladd => exact wk_in_ladd hX hG hR hK hfr hlo hN hSz hf kk  d h
  | lsub => exact wk_in_lsub hX hG hR hK hfr hlo hN hSz hf kk  d h
  | lshl => exact wk_in_lshl hX hG hR hK hfr hlo hN hSz hf kk  d h
  | lshr => exact wk_in_lshr hX hG hR hK hfr hlo hN hSz hf kk  d h
  | lushr => exact wk_in_lushr hX hG hR hK hfr hlo hN hSz hf kk  d h
  | lcmp => exact wk_in_lcmp hX hG hR hK hfr hlo hN hSz hf kk  d h
  | i2l => exact wk_in_i2l hX hG hR hK hfr hlo hN hSz hf kk  d h
  | l2i => exact wk_in_l2i hX hG hR hK hfr hlo hN hSz hf kk  d h
  | iconst i => exact wk_in_iconst hX hG hR hK hfr hlo hN hSz hf kk i d h
  | bipush i => exact wk_in_bipush hX hG hR hK hfr hlo hN hSz hf kk i d h
  | sipush i => exact wk_in_sipush hX hG hR hK hfr hlo hN hSz hf kk i d h
  | lconst i => exact wk_in_lconst hX hG hR hK hfr hlo hN hSz hf kk i d h
  | ldc i => exact wk_in_ldc hX hG hR hK hfr hlo hN hSz hf kk i d h
  | ldc2_w i => exact wk_in_ldc2_w hX hG hR hK hfr hlo hN hSz hf kk i d h
  | dup => exact wk_in_dup hX hG hR hK hfr hlo hN hSz hf kk  d h
  | pop => exact wk_in_pop hX hG hR hK hfr hlo hN hSz hf kk  d h
  | dup_x1 => exact wk_in_dup_x1 hX hG hR hK hfr hlo hN hSz hf kk  d h
  | dup2 => exact wk_in_dup2 hX hG hR hK hfr hlo hN hSz hf kk  d h
  | iload i => exact wk_in_iload hX hG hR hK hfr hlo hN hSz hf kk i d h
  | aload i => exact wk_in_aload hX hG hR hK hfr hlo hN hSz hf kk i d h
  | lload i => exact wk_in_lload hX hG hR hK hfr hlo hN hSz hf kk i d h
  | istore i => exact wk_in_istore hX hG hR hK hfr hlo hN hSz hf kk i d h
  | astore i => exact wk_in_astore hX hG hR hK hfr hlo hN hSz hf kk i d h
  | lstore i => exact wk_in_lstore hX hG hR hK hfr hlo hN hSz hf kk i d h
  | iload_n i => exact wk_in_iload_n hX hG hR hK hfr hlo hN hSz hf kk i d h
  | aload_n i => exact wk_in_aload_n hX hG hR hK hfr hlo hN hSz hf kk i d h
  | lload_n i => exact wk_in_lload_n hX hG hR hK hfr hlo hN hSz hf kk i d h
  | istore_n i => exact wk_in_istore_n hX hG hR hK hfr hlo hN hSz hf kk i d h
  | astore_n i => exact wk_in_astore_n hX hG hR hK hfr hlo hN hSz hf kk i d h
  | lstore_n i => exact wk_in_lstore_n hX hG hR hK hfr hlo hN hSz hf kk i d h
  | iinc i z => exact wk_in_iinc hX hG hR hK hfr hlo hN hSz hf kk i z d h
  | goto off => exact wk_in_goto hX hG hR hK hfr hlo hN hSz hf kk off d h
  | ifCond cn off => exact wk_in_ifCond hX hG hR hK hfr hlo hN hSz hf kk cn off d h
  | if_icmp cn off => exact wk_in_if_icmp hX hG hR hK hfr hlo hN hSz hf kk cn off d h
  | tableswitch dflt lo hi offs => exact wk_in_tableswitch hX hG hR hK hfr hlo hN hSz hf kk dflt lo hi offs d h
  | getfield i => exact wk_in_getfield hX hG hR hK hfr hlo hN hSz hf kk i d h
  | putfield i => exact wk_in_putfield hX hG hR hK hfr hlo hN hSz hf kk i d h
  | iaload => exact wk_in_iaload hX hG hR hK hfr hlo hN hSz hf kk  d h
  | baload => exact wk_in_baload hX hG hR hK hfr hlo hN hSz hf kk  d h
  | laload => exact wk_in_laload hX hG hR hK hfr hlo hN hSz hf kk  d h
  | iastore => exact wk_in_iastore hX hG hR hK hfr hlo hN hSz hf kk  d h
  | bastore => exact wk_in_bastore hX hG hR hK hfr hlo hN hSz hf kk  d h
  | lastore => exact wk_in_lastore hX hG hR hK hfr hlo hN hSz hf kk  d h
  | arraylength => exact wk_in_arraylength hX hG hR hK hfr hlo hN hSz hf kk  d h
  | invokestatic i => exact wk_in_invokestatic hX hG hR hK hfr hlo hN hSz hf kk i d h
  | invokevirtual i => exact wk_in_invokevirtual hX hG hR hK hfr hlo hN hSz hf kk i d h
  | ireturn => exact wk_in_ireturn hX hG hR hK hfr hlo hN hSz hf kk  d h
  | lreturn => exact wk_in_lreturn hX hG hR hK hfr hlo hN hSz hf kk  d h
  | return_ => exact wk_in_return_ hX hG hR hK hfr hlo hN hSz hf kk  d h
  | _ => exact (show False from h).elim
