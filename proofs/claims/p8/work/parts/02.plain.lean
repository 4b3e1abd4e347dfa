/-! The plain world: all cells of both systems in one list of shapes, a memory of ints and longs by place and number, references as places. -/
abbrev sm_S : Type := List ((Nat × List (Option (Option Nat))) ⊕ (Nat × Nat))
abbrev sm_M : Type := (Nat → Nat → Int32) × (Nat → Nat → Int64)
def sm_ui (μ : sm_M) (p i : Nat) (v : Int32) : sm_M := (fun q => if q = p then upd (μ.1 p) i v else μ.1 q, μ.2)
def sm_ul (μ : sm_M) (p i : Nat) (v : Int64) : sm_M := (μ.1, fun q => if q = p then vp_updL (μ.2 p) i v else μ.2 q)
def sm_z (μ : sm_M) (p : Nat) : sm_M := (fun q => if q = p then fun _ => 0 else μ.1 q, fun q => if q = p then fun _ => 0 else μ.2 q)
def sm_v (ad : Nat → Nat) : Value → Value
  | .ref k => .ref (ad k)
  | v => v
theorem sm_v_cat (ad : Nat → Nat) (v : Value) : (sm_v ad v).category = v.category := by cases v <;> rfl
def sm_f (ad : Nat → Nat) (g : Nat → Int32) (k : Nat) (f : Option (Option Nat)) : Value := match f with
  | none => .int (g k)
  | some none => .null
  | some (some q) => .ref (ad q)
def sm_e (ad : Nat → Nat) (cA : Nat → ClassId) (μ : sm_M) (p : Nat) (x : (Nat × List (Option (Option Nat))) ⊕ (Nat × Nat)) : Nat × va_E := match x with
  | .inl o => (ad p, .inr (o.1, o.2.mapIdx (sm_f ad (μ.1 p))))
  | .inr a => (ad p, .inl (cA a.1, a.2, if a.1 = 2 then .inr (.inl (μ.2 p)) else .inl (μ.1 p)))
def sm_w (ad : Nat → Nat) (cA : Nat → ClassId) (sh : sm_S) (μ : sm_M) : va_W := sh.mapIdx (sm_e ad cA μ)
def sm_ty (cA : Nat → ClassId) : List (ClassId × FieldType) := [(cA 0, .int), (cA 1, .boolean), (cA 2, .long)]
def sm_A (ad : Nat → Nat) (sh : sm_S) (sz : Nat) : Nat → Prop := fun q => (∃ p, p < sh.length ∧ q = ad p) ∨ sz ≤ q
def sm_sz : ((Nat × List (Option (Option Nat))) ⊕ (Nat × Nat)) → Nat
  | .inl o => o.2.length
  | .inr a => a.2
def sm_sl (sh : sm_S) : Nat := (sh.map sm_sz).sum
theorem sm_sl_app (sh sh' : sm_S) : sm_sl (sh ++ sh') = sm_sl sh + sm_sl sh' := by simp [sm_sl]
theorem sm_w_at {ad : Nat → Nat} {cA : Nat → ClassId} {sh : sm_S} {μ : sm_M} (p : Nat) : (sm_w ad cA sh μ)[p]? = (sh[p]?).map (sm_e ad cA μ p) := by
  simp [sm_w, List.getElem?_mapIdx]
theorem sm_w_len {ad : Nat → Nat} {cA : Nat → ClassId} {sh : sm_S} {μ : sm_M} : (sm_w ad cA sh μ).length = sh.length := by simp [sm_w]
theorem sm_w_ui {ad : Nat → Nat} {cA : Nat → ClassId} {sh : sm_S} {μ : sm_M} {p k ci : Nat} {fs : List (Option (Option Nat))} {v : Int32} (h : sh[p]? = some (.inl (ci, fs))) (hk : fs[k]? = some none) :
    (sm_w ad cA sh μ).set p (ad p, .inr (ci, (fs.mapIdx (sm_f ad (μ.1 p))).set k (.int v))) = sm_w ad cA sh (sm_ui μ p k v) := by
  apply List.ext_getElem?
  intro i
  by_cases hi : i = p
  · subst hi
    have hlt : i < (sm_w ad cA sh μ).length := by rw [sm_w_len]; exact (List.getElem?_eq_some_iff.mp h).1
    rw [List.getElem?_set_self hlt, sm_w_at, h]
    have hl : (fs.mapIdx (sm_f ad (μ.1 i))).set k (.int v) = fs.mapIdx (sm_f ad ((sm_ui μ i k v).1 i)) := by
      apply List.ext_getElem?
      intro j
      by_cases hj : j = k
      · subst hj
        have hlt2 : j < (fs.mapIdx (sm_f ad (μ.1 i))).length := by rw [List.length_mapIdx]; exact (List.getElem?_eq_some_iff.mp hk).1
        rw [List.getElem?_set_self hlt2, List.getElem?_mapIdx, hk]
        simp [sm_f, sm_ui, upd]
      · rw [List.getElem?_set_ne (Ne.symm hj), List.getElem?_mapIdx, List.getElem?_mapIdx]
        cases fs[j]? with
        | none => rfl
        | some f =>
          cases f with
          | none => simp [sm_f, sm_ui, upd, hj]
          | some f => cases f <;> rfl
    simp only [Option.map, sm_e]
    rw [hl]
  · rw [List.getElem?_set_ne (Ne.symm hi), sm_w_at, sm_w_at]
    cases sh[i]? with
    | none => rfl
    | some x => cases x <;> simp [sm_e, sm_ui, hi]
/-- a reference field becomes a reference -/
theorem sm_w_ur {ad : Nat → Nat} {cA : Nat → ClassId} {sh : sm_S} {μ : sm_M} {p k ci q : Nat} {fs : List (Option (Option Nat))} (h : sh[p]? = some (.inl (ci, fs))) (hk : k < fs.length) :
    (sm_w ad cA sh μ).set p (ad p, .inr (ci, (fs.mapIdx (sm_f ad (μ.1 p))).set k (.ref (ad q)))) = sm_w ad cA (sh.set p (.inl (ci, fs.set k (some (some q))))) μ := by
  apply List.ext_getElem?
  intro i
  by_cases hi : i = p
  · subst hi
    have hs := (List.getElem?_eq_some_iff.mp h).1
    have hlt : i < (sm_w ad cA sh μ).length := by rw [sm_w_len]; exact hs
    rw [List.getElem?_set_self hlt, sm_w_at, List.getElem?_set_self hs]
    have hl : (fs.mapIdx (sm_f ad (μ.1 i))).set k (.ref (ad q)) = (fs.set k (some (some q))).mapIdx (sm_f ad (μ.1 i)) := by
      apply List.ext_getElem?
      intro j
      by_cases hj : j = k
      · subst hj
        have hlt2 : j < (fs.mapIdx (sm_f ad (μ.1 i))).length := by rw [List.length_mapIdx]; exact hk
        rw [List.getElem?_set_self hlt2, List.getElem?_mapIdx, List.getElem?_set_self hk]
        rfl
      · rw [List.getElem?_set_ne (Ne.symm hj), List.getElem?_mapIdx, List.getElem?_mapIdx, List.getElem?_set_ne (Ne.symm hj)]
    simp only [Option.map, sm_e]
    rw [hl]
  · rw [List.getElem?_set_ne (Ne.symm hi), sm_w_at, sm_w_at, List.getElem?_set_ne (Ne.symm hi)]
theorem sm_w_ai {ad : Nat → Nat} {cA : Nat → ClassId} {sh : sm_S} {μ : sm_M} {p i kd n : Nat} {v : Int32} (h : sh[p]? = some (.inr (kd, n))) (hkd : kd ≠ 2) :
    (sm_w ad cA sh μ).set p (ad p, .inl (cA kd, n, .inl (upd (μ.1 p) i v))) = sm_w ad cA sh (sm_ui μ p i v) := by
  apply List.ext_getElem?
  intro j
  by_cases hj : j = p
  · subst hj
    have hlt : j < (sm_w ad cA sh μ).length := by rw [sm_w_len]; exact (List.getElem?_eq_some_iff.mp h).1
    rw [List.getElem?_set_self hlt, sm_w_at, h]
    simp [sm_e, sm_ui, hkd]
  · rw [List.getElem?_set_ne (Ne.symm hj), sm_w_at, sm_w_at]
    cases sh[j]? with
    | none => rfl
    | some x => cases x <;> simp [sm_e, sm_ui, hj]
theorem sm_w_al {ad : Nat → Nat} {cA : Nat → ClassId} {sh : sm_S} {μ : sm_M} {p i n : Nat} {v : Int64} (h : sh[p]? = some (.inr (2, n))) :
    (sm_w ad cA sh μ).set p (ad p, .inl (cA 2, n, .inr (.inl (vp_updL (μ.2 p) i v)))) = sm_w ad cA sh (sm_ul μ p i v) := by
  apply List.ext_getElem?
  intro j
  by_cases hj : j = p
  · subst hj
    have hlt : j < (sm_w ad cA sh μ).length := by rw [sm_w_len]; exact (List.getElem?_eq_some_iff.mp h).1
    rw [List.getElem?_set_self hlt, sm_w_at, h]
    simp [sm_e, sm_ul]
  · rw [List.getElem?_set_ne (Ne.symm hj), sm_w_at, sm_w_at]
    cases sh[j]? with
    | none => rfl
    | some x => cases x <;> simp [sm_e, sm_ul, hj]
/-! no reference in the locals, on the stack, in the shape, to places a .. b - 1 -/
def sm_nv (a b : Nat) : Value → Bool
  | .ref k => k < a || b ≤ k
  | _ => true
def sm_no (a b : Nat) : Option Value → Bool
  | some v => sm_nv a b v
  | none => true
def sm_nf (a b : Nat) : Option (Option Nat) → Bool
  | some (some k) => k < a || b ≤ k
  | _ => true
def sm_ns (a b : Nat) : ((Nat × List (Option (Option Nat))) ⊕ (Nat × Nat)) → Bool
  | .inl o => o.2.all (sm_nf a b)
  | .inr _ => true
def sm_ag (a b : Nat) (ad' ad : Nat → Nat) : Prop := ∀ p, p < a ∨ b ≤ p → ad' p = ad p
theorem sm_nv_eq {a b : Nat} {ad' ad : Nat → Nat} (h : sm_ag a b ad' ad) {v : Value} (hv : sm_nv a b v = true) : sm_v ad' v = sm_v ad v := by
  cases v with
  | ref k =>
    have h2 : k < a ∨ b ≤ k := by simpa [sm_nv] using hv
    show Value.ref _ = Value.ref _
    rw [h k h2]
  | _ => rfl
theorem sm_nf_eq {a b : Nat} {ad' ad : Nat → Nat} (h : sm_ag a b ad' ad) {g : Nat → Int32} {k : Nat} {f : Option (Option Nat)} (hv : sm_nf a b f = true) : sm_f ad' g k f = sm_f ad g k f := by
  cases f with
  | none => rfl
  | some f =>
    cases f with
    | none => rfl
    | some q =>
      have h2 : q < a ∨ b ≤ q := by simpa [sm_nf] using hv
      show Value.ref _ = Value.ref _
      rw [h q h2]
theorem sm_ns_map {a b : Nat} {ad' ad : Nat → Nat} (h : sm_ag a b ad' ad) {g : Nat → Int32} {fs : List (Option (Option Nat))} (hv : fs.all (sm_nf a b) = true) : fs.mapIdx (sm_f ad' g) = fs.mapIdx (sm_f ad g) := by
  apply List.ext_getElem?
  intro i
  rw [List.getElem?_mapIdx, List.getElem?_mapIdx]
  cases hf : fs[i]? with
  | none => rfl
  | some f => simp only [Option.map]; rw [sm_nf_eq h (List.all_eq_true.mp hv f (List.mem_of_getElem? hf))]
/-- one more cell, all of it 0 -/
theorem sm_w_new {ad : Nat → Nat} {cA : Nat → ClassId} {sh : sm_S} {μ : sm_M} {x : (Nat × List (Option (Option Nat))) ⊕ (Nat × Nat)} {a : Nat} {ad' : Nat → Nat} (ha : ad' sh.length = a) (hag : sm_ag sh.length (sh.length + 1) ad' ad) (hn : sh.all (sm_ns sh.length (sh.length + 1)) = true) :
    sm_w ad' cA (sh ++ [x]) (sm_z μ sh.length) = sm_w ad cA sh μ ++ [(a, (sm_e ad' cA (sm_z μ sh.length) sh.length x).2)] := by
  apply List.ext_getElem?
  intro i
  rw [sm_w_at]
  by_cases hi : i < sh.length
  · rw [List.getElem?_append_left hi, List.getElem?_append_left (by rw [sm_w_len]; exact hi), sm_w_at]
    cases hs : sh[i]? with
    | none => rfl
    | some y =>
      have hy := List.all_eq_true.mp hn y (List.mem_of_getElem? hs)
      have hne : i ≠ sh.length := by omega
      have h1 : ad' i = ad i := hag i (Or.inl hi)
      cases y with
      | inl o =>
        simp only [Option.map, sm_e]
        rw [sm_ns_map hag hy, h1]
        simp [sm_z, hne]
      | inr o =>
        simp only [Option.map, sm_e]
        rw [h1]
        simp [sm_z, hne]
  · by_cases he : i = sh.length
    · subst he
      rw [List.getElem?_append_right (Nat.le_refl _), List.getElem?_append_right (by rw [sm_w_len]; exact Nat.le_refl _), sm_w_len, Nat.sub_self]
      simp only [List.getElem?_cons_zero, Option.map]
      rw [← ha]
      cases x <;> rfl
    · rw [List.getElem?_eq_none (by simp; omega), List.getElem?_eq_none (by simp [sm_w_len]; omega)]
      rfl
/-! the locals: a list of places, a value or nothing -/
def sm_has (ls : Array Slot) (nL : Nat) (ad : Nat → Nat) (L : List (Option Value)) : Prop := ls.size = nL ∧ lv_wf ls ∧ ∀ (i : Nat) (v : Value), L[i]? = some (some v) → ls[i]? = some (.val (sm_v ad v))
theorem sm_has.ag {ls : Array Slot} {nL a b : Nat} {ad ad' : Nat → Nat} {L : List (Option Value)} (h : sm_has ls nL ad L) (hag : sm_ag a b ad' ad) (hL : L.all (sm_no a b) = true) : sm_has ls nL ad' L := by
  refine ⟨h.1, h.2.1, fun i v hi => ?_⟩
  rw [sm_nv_eq hag (show sm_nv a b v = true from List.all_eq_true.mp hL (some v) (List.mem_of_getElem? hi))]
  exact h.2.2 i v hi
theorem sm_st_ag {a b : Nat} {ad ad' : Nat → Nat} {r : List Value} (hag : sm_ag a b ad' ad) (hr : r.all (sm_nv a b) = true) : r.map (sm_v ad') = r.map (sm_v ad) := by
  apply List.map_congr_left
  intro v hv
  exact sm_nv_eq hag (List.all_eq_true.mp hr v hv)
def sm_l (ad : Nat → Nat) (L : List (Option Value)) : List (Nat × Value) := (L.mapIdx (fun i v => (i, v))).filterMap (fun q => q.2.map (fun v => (q.1, sm_v ad v)))
theorem sm_l_mem {ad : Nat → Nat} {L : List (Option Value)} {i : Nat} {w : Value} : (i, w) ∈ sm_l ad L ↔ ∃ v, L[i]? = some (some v) ∧ w = sm_v ad v := by
  unfold sm_l
  rw [List.mem_filterMap]
  constructor
  · rintro ⟨⟨j, o⟩, hm, ho⟩
    obtain ⟨k, hk⟩ := List.getElem?_of_mem hm
    rw [List.getElem?_mapIdx] at hk
    cases hL : L[k]? with
    | none => rw [hL] at hk; cases hk
    | some x =>
      rw [hL] at hk
      cases hk
      cases o with
      | none => cases ho
      | some v => cases ho; exact ⟨v, hL, rfl⟩
  · rintro ⟨v, hL, rfl⟩
    refine ⟨(i, some v), ?_, rfl⟩
    apply List.mem_of_getElem? (i := i)
    rw [List.getElem?_mapIdx, hL]
    rfl
theorem sm_has.lv {ls : Array Slot} {nL : Nat} {ad : Nat → Nat} {L : List (Option Value)} (h : sm_has ls nL ad L) : lv_has ls nL (sm_l ad L) := by
  refine ⟨h.1, h.2.1, fun q hq => ?_⟩
  obtain ⟨v, h1, h2⟩ := sm_l_mem.mp (show (q.1, q.2) ∈ sm_l ad L from hq)
  rw [h2]
  exact h.2.2 _ _ h1
def sm_c1 : Option Value → Bool
  | some (.long _) => false
  | some (.double _) => false
  | _ => true
/-- the place ahead of i holds no long -/
def sm_ah (L : List (Option Value)) : Nat → Bool
  | 0 => true
  | i + 1 => sm_c1 (L.getD i none)
theorem sm_ah_ok {L : List (Option Value)} {i j : Nat} {w : Value} (h : sm_ah L i = true) (hj : j + 1 = i) (hw : L[j]? = some (some w)) : ¬ w.category = 2 := by
  subst hj
  have h1 : sm_c1 (L.getD j none) = true := h
  rw [List.getD_eq_getElem?_getD, hw] at h1
  cases w <;> simp_all [sm_c1, Value.category]
theorem sm_has.st1 {ls' : Array Slot} {nL : Nat} {ad : Nat → Nat} {L : List (Option Value)} {i : Nat} {v : Value} (ha : sm_ah L i = true)
    (h : lv_has ls' nL ((i, sm_v ad v) :: (sm_l ad L).filter (fun q => !(q.1 == i) && !(q.1 + 1 == i && q.2.category == 2)))) : sm_has ls' nL ad (L.set i (some v)) := by
  refine ⟨h.1, h.2.1, fun j w hj => ?_⟩
  by_cases hji : j = i
  · subst hji
    have hlt : j < L.length := by
      have := (List.getElem?_eq_some_iff.mp hj).1
      simpa using this
    rw [List.getElem?_set_self hlt] at hj
    cases hj
    exact h.2.2 (j, sm_v ad v) List.mem_cons_self
  · rw [List.getElem?_set_ne (Ne.symm hji)] at hj
    refine h.2.2 (j, sm_v ad w) (List.mem_cons_of_mem _ (List.mem_filter.mpr ⟨sm_l_mem.mpr ⟨w, hj, rfl⟩, ?_⟩))
    have h2 : ¬ (j + 1 = i ∧ w.category = 2) := fun q => sm_ah_ok ha q.1 hj q.2
    by_cases h3 : j + 1 = i
    · have h4 : ¬ w.category = 2 := fun q => h2 ⟨h3, q⟩
      simp [hji, h3, sm_v_cat, h4]
    · simp [hji, h3]
theorem sm_has.st2 {ls' : Array Slot} {nL : Nat} {ad : Nat → Nat} {L : List (Option Value)} {i : Nat} {v : Value} (ha : sm_ah L i = true)
    (h : lv_has ls' nL ((i, sm_v ad v) :: (sm_l ad L).filter (fun q => !(q.1 == i) && (!(q.1 == i + 1) && !(q.1 + 1 == i && q.2.category == 2))))) : sm_has ls' nL ad ((L.set i (some v)).set (i + 1) none) := by
  refine ⟨h.1, h.2.1, fun j w hj => ?_⟩
  by_cases hj1 : j = i + 1
  · subst hj1
    have hlt : i + 1 < (L.set i (some v)).length := (by have := (List.getElem?_eq_some_iff.mp hj).1; simpa using this)
    rw [List.getElem?_set_self hlt] at hj
    cases hj
  · rw [List.getElem?_set_ne (Ne.symm hj1)] at hj
    by_cases hji : j = i
    · subst hji
      have hlt : j < L.length := by
        have := (List.getElem?_eq_some_iff.mp hj).1
        simpa using this
      rw [List.getElem?_set_self hlt] at hj
      cases hj
      exact h.2.2 (j, sm_v ad v) List.mem_cons_self
    · rw [List.getElem?_set_ne (Ne.symm hji)] at hj
      refine h.2.2 (j, sm_v ad w) (List.mem_cons_of_mem _ (List.mem_filter.mpr ⟨sm_l_mem.mpr ⟨w, hj, rfl⟩, ?_⟩))
      have h2 : ¬ (j + 1 = i ∧ w.category = 2) := fun q => sm_ah_ok ha q.1 hj q.2
      by_cases h3 : j + 1 = i
      · have h4 : ¬ w.category = 2 := fun q => h2 ⟨h3, q⟩
        simp [hji, hj1, h3, sm_v_cat, h4]
      · simp [hji, hj1, h3]
/-! words of nest mates: they go with the state -/
def sm_isN : Cond → Bool
  | .fieldLinkNest _ _ _ _ _ _ => true
  | .methodLinkNest _ _ _ _ => true
  | _ => false
def sm_nw (NW : List Cond) (U : State) : Prop := ∀ w ∈ NW, sm_isN w = true ∧ va_Nw w U
theorem sm_nw.warm {NW : List Cond} {s U : State} (h : sm_nw NW s) (hW : s.WarmedH U.vm) : sm_nw NW U := by
  intro w hw
  obtain ⟨h1, h2⟩ := h w hw
  refine ⟨h1, ?_⟩
  cases w with
  | fieldLinkNest a i b n d k => exact va_Nw.warmF hW h2
  | methodLinkNest a i x k => exact va_Nw.warmM hW h2
  | _ => cases h1
theorem sm_nw.same {NW : List Cond} {s U : State} (h : sm_nw NW s) (hv : s.vm = U.vm) : sm_nw NW U := by
  intro w hw
  obtain ⟨h1, h2⟩ := h w hw
  refine ⟨h1, ?_⟩
  cases w with
  | fieldLinkNest a i b n d k => exact va_Nw.same rfl hv h2
  | methodLinkNest a i x k => exact va_Nw.same rfl hv h2
  | _ => cases h1
/-! the judgement: where a method stands, in plain words -/
abbrev sm_Z : Type := Launch × va_G × (Nat → ClassId) × List Cond
abbrev sm_X : Type := sm_Z × Program × Env × Room × State × MethodId × Array Value × List Frame × Method × Code × Nat × (Nat → Prop) × Heap × (State → Prop) × Nat × Nat
def sm_E (cl : List vw_C) (X : sm_X) (pc : Nat) (L : List (Option Value)) (st : List Value) (ad : Nat → Nat) (sh : sm_S) (μ : sm_M) : Prop := match X with
  | ((l, D, cA, NW), p, e, R, s, m, args, below, meth, c, nL, A, H0, Q, n0, s0) => ∀ (ls : Array Slot) (H : Heap) (locs : List Loc) (cells slots : Nat), cells + n0 = sh.length → slots + s0 = sm_sl sh → sm_has ls nL ad L → va_P D cl (sm_w ad cA sh μ) H → va_D A (sm_w ad cA sh μ) → va_S A H0 H locs → W p l e R s m args below meth c H locs cells slots Q (F0 m pc ls (st.map (sm_v ad)))
def sm_ok (cl : List vw_C) (X : sm_X) (cc : ByteArray) (n : Nat) (own : String) (Ts : List Cond) (ret : Option FieldType) (rm : Room) (N S : Nat) (ini : Bool) : Prop := match X with
  | ((l, D, cA, NW), p, e, R, s, m, args, below, meth, c, nL, A, H0, Q, n0, s0) => p.tables.exec = Jvm.exec ∧ c.code = cc ∧ c.maxLocals = nL ∧ nL = n ∧ s.vm.findClass own = some m.cls ∧ (∀ w ∈ Ts, w.before args s = true) ∧ va_K D cl (sm_ty cA) s ∧ meth.locks = false ∧ meth.sig.returnType = ret ∧ R = rm ∧ (∀ q, H0.size ≤ q → A q) ∧ n0 + rm.cells = N ∧ s0 + rm.slots = S ∧ (ini = true → meth.name = "<init>") ∧ sm_nw NW s
def sm_Q (cl : List vw_C) (Z : sm_Z) (ad : Nat → Nat) (sh : sm_S) (mc ms : Nat) (A : Nat → Prop) (Q : Option Value → sm_S → sm_M → Prop) : Array Value → State → Outcome → State → Prop := match Z with
  | (l, D, cA, NW) => fun _ st oc t => (∃ (r : Option Value) (ad' : Nat → Nat) (sh' : sm_S) (μ' : sm_M), oc = .returned (r.map (sm_v ad')) ∧ sh'.length = sh.length + mc ∧ sm_sl sh' = sm_sl sh + ms ∧ sm_ag sh.length sh'.length ad' ad ∧ Q r sh' μ' ∧ va_P D cl (sm_w ad' cA sh' μ') t.heap ∧ va_K D cl (sm_ty cA) t ∧ va_D A (sm_w ad' cA sh' μ')) ∧ va_F A st t
def sm_fin (cl : List vw_C) (X : sm_X) (ad0 : Nat → Nat) (sh0 : sm_S) (mc ms : Nat) (Q0 : Option Value → sm_S → sm_M → Prop) : Prop := match X with
  | ((l, D, cA, NW), p, e, R, s, m, args, below, meth, c, nL, A, H0, Q, n0, s0) => Q = MQ below (sm_Q cl (l, D, cA, NW) ad0 sh0 mc ms A Q0) args s mc ms A ∧ H0 = s.heap ∧ n0 = sh0.length ∧ s0 = sm_sl sh0
/-- a method's contract: called so, at this world, it returns so that Q -/
def sm_C (cl : List vw_C) (Z : sm_Z) (y : MethodName) (ws : List Cond) (rm : Room) (av : List Value) (ad : Nat → Nat) (sh : sm_S) (μ : sm_M) (Q : Option Value → sm_S → sm_M → Prop) : Prop := match Z with
  | (l, D, cA, NW) => ∀ sz : Nat, Met l y ws rm (va_Pc (av.map (sm_v ad)) (fun U => U.heap.size = sz ∧ va_P D cl (sm_w ad cA sh μ) U.heap ∧ va_K D cl (sm_ty cA) U ∧ va_D (fun _ => True) (sm_w ad cA sh μ) ∧ sm_nw NW U)) (sm_Q cl (l, D, cA, NW) ad sh rm.cells rm.slots (sm_A ad sh sz) Q) rm.cells rm.slots (sm_A ad sh sz)
/-- fewer locals are known -/
theorem sm_E.less {cl : List vw_C} {X : sm_X} {pc : Nat} {L L' : List (Option Value)} {st : List Value} {ad : Nat → Nat} {sh : sm_S} {μ : sm_M} (h : ∀ (i : Nat) (v : Value), L'[i]? = some (some v) → L[i]? = some (some v)) (k : sm_E cl X pc L' st ad sh μ) : sm_E cl X pc L st ad sh μ := by
  obtain ⟨⟨l, D, cA, NW⟩, p, e, R, s, m, args, below, meth, c, nL, A, H0, Q, n0, s0⟩ := X
  exact fun ls H locs cells slots g1 g2 h1 h2 h3 h4 => k ls H locs cells slots g1 g2 ⟨h1.1, h1.2.1, fun i v q => h1.2.2 i v (h i v q)⟩ h2 h3 h4
def sm_L0 (n : Nat) (av : List Value) : List (Option Value) := let f := av.flatMap (fun v => if v.category = 2 then [some v, none] else [some v]); f ++ List.replicate (n - f.length) none
theorem sm_L0_args {ad : Nat → Nat} {v : Value} : ∀ (av : List Value) (o i : Nat), (av.flatMap (fun v => if v.category = 2 then [some v, none] else [some v]))[i]? = some (some v) → (o + i, sm_v ad v) ∈ lv_args o (av.map (sm_v ad))
  | [], o, i, h => by simp at h
  | a :: t, o, i, h => by
    rw [List.flatMap_cons] at h
    show _ ∈ (o, sm_v ad a) :: lv_args (if (sm_v ad a).category = 2 then o + 2 else o + 1) (t.map (sm_v ad))
    rw [sm_v_cat]
    by_cases hc : a.category = 2
    · rw [if_pos hc] at h ⊢
      match i, h with
      | 0, h =>
        have h2 : a = v := by simpa using h
        subst h2
        exact List.mem_cons_self
      | 1, h => simp at h
      | j + 2, h =>
        refine List.mem_cons_of_mem _ ?_
        have h2 := sm_L0_args (ad := ad) t (o + 2) j (by simpa using h)
        rwa [show o + 2 + j = o + (j + 2) by omega] at h2
    · rw [if_neg hc] at h ⊢
      match i, h with
      | 0, h =>
        have h2 : a = v := by simpa using h
        subst h2
        exact List.mem_cons_self
      | j + 1, h =>
        refine List.mem_cons_of_mem _ ?_
        have h2 := sm_L0_args (ad := ad) t (o + 1) j (by simpa using h)
        rwa [show o + 1 + j = o + (j + 1) by omega] at h2
theorem sm_sl_len {ad : Nat → Nat} (av : List Value) : (lg_sl (av.map (sm_v ad))).length = (lg_sl av).length := by
  induction av with
  | nil => rfl
  | cons a t ih =>
    simp only [lg_sl, List.map_cons, List.flatMap_cons, List.length_append, sm_v_cat] at ih ⊢
    rw [ih]
    split <;> rfl
theorem sm_enter {cl : List vw_C} {Z : sm_Z} {y : MethodName} {cc : ByteArray} {nL : Nat} {ret : Option FieldType} {W' : List Cond} {rm : Room} {av : List Value} {ad : Nat → Nat} {sh : sm_S} {μ : sm_M} {Q : Option Value → sm_S → sm_M → Prop} (hy : plainName y.cls = true) (hlen : (lg_sl av).length ≤ nL)
    (body : ∀ X : sm_X, X.1 = Z → sm_ok cl X cc nL y.cls W' ret rm (sh.length + rm.cells) (sm_sl sh + rm.slots) (y.name == "<init>") → sm_fin cl X ad sh rm.cells rm.slots Q → sm_E cl X 0 (sm_L0 nL av) [] ad sh μ) : sm_C cl Z y (Cond.code y cc nL ret :: W') rm av ad sh μ Q := by
  obtain ⟨l, D, cA, NW⟩ := Z
  intro sz
  refine Met.ofW (cc := cc) (maxL := nL) (ret := ret) hy rfl ?_
  intro p e s m args below meth c s₁ B hml hv
  obtain ⟨rfl, hsz, hP, hK, hD0, hnw⟩ := hv
  subst hsz
  have hD : va_D (sm_A ad sh s.heap.size) (sm_w ad cA sh μ) := ⟨hD0.1, fun k q hk => by
    rw [sm_w_at] at hk
    cases hs : sh[k]? with
    | none => rw [hs] at hk; cases hk
    | some x =>
      rw [hs] at hk
      cases hk
      refine Or.inl ⟨k, (List.getElem?_eq_some_iff.mp hs).1, ?_⟩
      cases x <;> rfl⟩
  have hl := lv_entry (av.map (sm_v ad)) (n := nL) (by rw [sm_sl_len]; exact hlen)
  rw [lg_entry_eq]
  have h := body ((l, D, cA, NW), p, e, rm, s, m, (av.map (sm_v ad)).toArray, below, meth, c, nL, sm_A ad sh s.heap.size, s.heap, MQ below (sm_Q cl (l, D, cA, NW) ad sh rm.cells rm.slots (sm_A ad sh s.heap.size) Q) (av.map (sm_v ad)).toArray s rm.cells rm.slots (sm_A ad sh s.heap.size), sh.length, sm_sl sh) rfl ⟨B.exec, B.bytes, hml, rfl, findClass_of_methodNamed B.named, fun w hw => atoms_spec (ws := Cond.code y cc nL ret :: W') B.pre w (List.mem_cons_of_mem _ hw), hK, B.notSynchronized, B.returns, rfl, fun _ h => Or.inr h, rfl, rfl, fun h => (name_of_methodNamed B.named B.method).1.trans (eq_of_beq h), hnw⟩ ⟨rfl, rfl, rfl, rfl⟩
  refine h _ s.heap [] 0 0 (Nat.zero_add _) (Nat.zero_add _) ⟨hl.1, hl.2.1, fun i v hi => hl.2.2 (i, sm_v ad v) ?_⟩ hP hD va_S.rf
  have h2 : (av.flatMap (fun v => if v.category = 2 then [some v, none] else [some v]))[i]? = some (some v) := by
    unfold sm_L0 at hi
    rw [List.getElem?_append] at hi
    split at hi
    · exact hi
    · exfalso
      have := List.eq_of_mem_replicate (List.mem_of_getElem? hi)
      cases this
  have h3 := sm_L0_args (ad := ad) av 0 i h2
  rwa [Nat.zero_add] at h3
theorem sm_call_core {cl : List vw_C} {sh : sm_S} {l : Launch} {D : va_G} {NW : List Cond} {ad : Nat → Nat} {cA : Nat → ClassId} {p : Program} {e : Env} {R : Room} {s : State} {m : MethodId} {args : Array Value} {below : List Frame} {meth : Method} {c : Code} {H H0 : Heap} {locs : List Loc} {cells slots pc mc ms sz : Nat} {Q : State → Prop} {ls : Array Slot} {st0 rest : List Value} {A : Nat → Prop} {Q' : Option Value → sm_S → sm_M → Prop} {a : Array Value}
    (hr : va_Run p l e R s m args below meth c H locs cells slots mc ms (F0 m pc ls st0) rest (sm_Q cl (l, D, cA, NW) ad sh mc ms (sm_A ad sh sz) Q' a) (sm_A ad sh sz)) (hS : va_S A H0 H locs) (hA : ∀ q, sm_A ad sh sz q → A q)
    (kk : ∀ (r : Option Value) (ad' : Nat → Nat) (sh' : sm_S) (μ' : sm_M) (H1 : Heap) (locs1 : List Loc), sh'.length = sh.length + mc → sm_sl sh' = sm_sl sh + ms → sm_ag sh.length sh'.length ad' ad → Q' r sh' μ' → va_P D cl (sm_w ad' cA sh' μ') H1 → va_D A (sm_w ad' cA sh' μ') → va_S A H0 H1 locs1 → W p l e R s m args below meth c H1 locs1 (cells + mc) (slots + ms) Q (F0 m (pc + 3) ls ((r.map (sm_v ad')).toList ++ rest))) : W p l e R s m args below meth c H locs cells slots Q (F0 m pc ls st0) := by
  intro T hT X
  obtain ⟨v, st₀, t, T', L, h0, X', hL, e1, e2, ⟨⟨r, ad', sh', μ', hv, hn, hs, hag, hq, hP, hK, hD⟩, hz, hk⟩, st⟩ := hr T hT X
  have hv : v = r.map (sm_v ad') := Outcome.returned.inj hv
  subst hv
  rw [h0] at hz hk
  obtain ⟨t2, a1, b1⟩ := kk r ad' sh' μ' T'.heap (locs ++ L) hn hs hag hq (by rw [e1]; exact hP) (hD.weaken (fun k q _ h => hA q.1 h))
    ⟨Nat.le_trans hS.1 (by rw [e1]; exact hz), fun q g1 g2 => by rw [e1, hk q (Nat.lt_of_lt_of_le g1 hS.1) (fun z => g2 (hA q z))]; exact hS.2.1 q g1 g2, fun q hq => by
      rcases List.mem_append.mp hq with h | h
      · exact hS.2.2 q h
      · exact hA _ (hL q h)⟩ T' rfl X'
  exact ⟨t2, st t2 a1, b1⟩
theorem sm_A_in {A : Nat → Prop} {ad : Nat → Nat} {cA : Nat → ClassId} {sh : sm_S} {μ : sm_M} {H0 H : Heap} {locs : List Loc} (hD : va_D A (sm_w ad cA sh μ)) (hS : va_S A H0 H locs) (hA : ∀ q, H0.size ≤ q → A q) : ∀ q, sm_A ad sh H.size q → A q := by
  intro q h
  rcases h with ⟨k, hk, rfl⟩ | h
  · have h1 : (sm_w ad cA sh μ)[k]? = some (sm_e ad cA μ k sh[k]) := by rw [sm_w_at, List.getElem?_eq_getElem hk]; rfl
    have h2 := hD.2 k _ h1
    have h3 : (sm_e ad cA μ k sh[k]).1 = ad k := by cases sh[k] <;> rfl
    rwa [h3] at h2
  · exact hA q (Nat.le_trans hS.1 h)

theorem sm_iadd {cl : List vw_C} {X : sm_X} {cc : ByteArray} {n : Nat} {own : String} {Ts : List Cond} {ret : Option FieldType} {rm : Room} {N S : Nat} {ini : Bool} (hX : sm_ok cl X cc n own Ts ret rm N S ini) {pc : Nat} {L : List (Option Value)} {r : List Value} {ad : Nat → Nat} {sh : sm_S} {μ : sm_M} {x y : Int32} (d : decode cc pc = .ok (.iadd, 1)) (k : sm_E cl X (pc + 1) L (.int (x + y) :: r) ad sh μ) : sm_E cl X pc L (.int y :: .int x :: r) ad sh μ := by
  obtain ⟨⟨l, D, cA, NW⟩, pr, e, R, s, m, args, below, meth, c, nL, A, H0, Q, n0, s0⟩ := X
  obtain ⟨hx, hb, hml, hn, hown, hts, hK, hlk, hrt, hR, hA, hc0, hs0, hin, hnw⟩ := hX
  exact fun ls H locs cells slots g1 g2 h1 h2 h3 h4 => lv_iadd hx hb d (k ls H locs cells slots g1 g2 h1 h2 h3 h4)
theorem sm_isub {cl : List vw_C} {X : sm_X} {cc : ByteArray} {n : Nat} {own : String} {Ts : List Cond} {ret : Option FieldType} {rm : Room} {N S : Nat} {ini : Bool} (hX : sm_ok cl X cc n own Ts ret rm N S ini) {pc : Nat} {L : List (Option Value)} {r : List Value} {ad : Nat → Nat} {sh : sm_S} {μ : sm_M} {x y : Int32} (d : decode cc pc = .ok (.isub, 1)) (k : sm_E cl X (pc + 1) L (.int (x - y) :: r) ad sh μ) : sm_E cl X pc L (.int y :: .int x :: r) ad sh μ := by
  obtain ⟨⟨l, D, cA, NW⟩, pr, e, R, s, m, args, below, meth, c, nL, A, H0, Q, n0, s0⟩ := X
  obtain ⟨hx, hb, hml, hn, hown, hts, hK, hlk, hrt, hR, hA, hc0, hs0, hin, hnw⟩ := hX
  exact fun ls H locs cells slots g1 g2 h1 h2 h3 h4 => lv_isub hx hb d (k ls H locs cells slots g1 g2 h1 h2 h3 h4)
theorem sm_imul {cl : List vw_C} {X : sm_X} {cc : ByteArray} {n : Nat} {own : String} {Ts : List Cond} {ret : Option FieldType} {rm : Room} {N S : Nat} {ini : Bool} (hX : sm_ok cl X cc n own Ts ret rm N S ini) {pc : Nat} {L : List (Option Value)} {r : List Value} {ad : Nat → Nat} {sh : sm_S} {μ : sm_M} {x y : Int32} (d : decode cc pc = .ok (.imul, 1)) (k : sm_E cl X (pc + 1) L (.int (x * y) :: r) ad sh μ) : sm_E cl X pc L (.int y :: .int x :: r) ad sh μ := by
  obtain ⟨⟨l, D, cA, NW⟩, pr, e, R, s, m, args, below, meth, c, nL, A, H0, Q, n0, s0⟩ := X
  obtain ⟨hx, hb, hml, hn, hown, hts, hK, hlk, hrt, hR, hA, hc0, hs0, hin, hnw⟩ := hX
  exact fun ls H locs cells slots g1 g2 h1 h2 h3 h4 => lv_imul hx hb d (k ls H locs cells slots g1 g2 h1 h2 h3 h4)
theorem sm_iand {cl : List vw_C} {X : sm_X} {cc : ByteArray} {n : Nat} {own : String} {Ts : List Cond} {ret : Option FieldType} {rm : Room} {N S : Nat} {ini : Bool} (hX : sm_ok cl X cc n own Ts ret rm N S ini) {pc : Nat} {L : List (Option Value)} {r : List Value} {ad : Nat → Nat} {sh : sm_S} {μ : sm_M} {x y : Int32} (d : decode cc pc = .ok (.iand, 1)) (k : sm_E cl X (pc + 1) L (.int (x &&& y) :: r) ad sh μ) : sm_E cl X pc L (.int y :: .int x :: r) ad sh μ := by
  obtain ⟨⟨l, D, cA, NW⟩, pr, e, R, s, m, args, below, meth, c, nL, A, H0, Q, n0, s0⟩ := X
  obtain ⟨hx, hb, hml, hn, hown, hts, hK, hlk, hrt, hR, hA, hc0, hs0, hin, hnw⟩ := hX
  exact fun ls H locs cells slots g1 g2 h1 h2 h3 h4 => lv_iand hx hb d (k ls H locs cells slots g1 g2 h1 h2 h3 h4)
theorem sm_ior {cl : List vw_C} {X : sm_X} {cc : ByteArray} {n : Nat} {own : String} {Ts : List Cond} {ret : Option FieldType} {rm : Room} {N S : Nat} {ini : Bool} (hX : sm_ok cl X cc n own Ts ret rm N S ini) {pc : Nat} {L : List (Option Value)} {r : List Value} {ad : Nat → Nat} {sh : sm_S} {μ : sm_M} {x y : Int32} (d : decode cc pc = .ok (.ior, 1)) (k : sm_E cl X (pc + 1) L (.int (x ||| y) :: r) ad sh μ) : sm_E cl X pc L (.int y :: .int x :: r) ad sh μ := by
  obtain ⟨⟨l, D, cA, NW⟩, pr, e, R, s, m, args, below, meth, c, nL, A, H0, Q, n0, s0⟩ := X
  obtain ⟨hx, hb, hml, hn, hown, hts, hK, hlk, hrt, hR, hA, hc0, hs0, hin, hnw⟩ := hX
  exact fun ls H locs cells slots g1 g2 h1 h2 h3 h4 => lv_ior hx hb d (k ls H locs cells slots g1 g2 h1 h2 h3 h4)
theorem sm_ixor {cl : List vw_C} {X : sm_X} {cc : ByteArray} {n : Nat} {own : String} {Ts : List Cond} {ret : Option FieldType} {rm : Room} {N S : Nat} {ini : Bool} (hX : sm_ok cl X cc n own Ts ret rm N S ini) {pc : Nat} {L : List (Option Value)} {r : List Value} {ad : Nat → Nat} {sh : sm_S} {μ : sm_M} {x y : Int32} (d : decode cc pc = .ok (.ixor, 1)) (k : sm_E cl X (pc + 1) L (.int (x ^^^ y) :: r) ad sh μ) : sm_E cl X pc L (.int y :: .int x :: r) ad sh μ := by
  obtain ⟨⟨l, D, cA, NW⟩, pr, e, R, s, m, args, below, meth, c, nL, A, H0, Q, n0, s0⟩ := X
  obtain ⟨hx, hb, hml, hn, hown, hts, hK, hlk, hrt, hR, hA, hc0, hs0, hin, hnw⟩ := hX
  exact fun ls H locs cells slots g1 g2 h1 h2 h3 h4 => lv_ixor hx hb d (k ls H locs cells slots g1 g2 h1 h2 h3 h4)
theorem sm_ladd {cl : List vw_C} {X : sm_X} {cc : ByteArray} {n : Nat} {own : String} {Ts : List Cond} {ret : Option FieldType} {rm : Room} {N S : Nat} {ini : Bool} (hX : sm_ok cl X cc n own Ts ret rm N S ini) {pc : Nat} {L : List (Option Value)} {r : List Value} {ad : Nat → Nat} {sh : sm_S} {μ : sm_M} {x y : Int64} (d : decode cc pc = .ok (.ladd, 1)) (k : sm_E cl X (pc + 1) L (.long (x + y) :: r) ad sh μ) : sm_E cl X pc L (.long y :: .long x :: r) ad sh μ := by
  obtain ⟨⟨l, D, cA, NW⟩, pr, e, R, s, m, args, below, meth, c, nL, A, H0, Q, n0, s0⟩ := X
  obtain ⟨hx, hb, hml, hn, hown, hts, hK, hlk, hrt, hR, hA, hc0, hs0, hin, hnw⟩ := hX
  exact fun ls H locs cells slots g1 g2 h1 h2 h3 h4 => lv_ladd hx hb d (k ls H locs cells slots g1 g2 h1 h2 h3 h4)
theorem sm_lsub {cl : List vw_C} {X : sm_X} {cc : ByteArray} {n : Nat} {own : String} {Ts : List Cond} {ret : Option FieldType} {rm : Room} {N S : Nat} {ini : Bool} (hX : sm_ok cl X cc n own Ts ret rm N S ini) {pc : Nat} {L : List (Option Value)} {r : List Value} {ad : Nat → Nat} {sh : sm_S} {μ : sm_M} {x y : Int64} (d : decode cc pc = .ok (.lsub, 1)) (k : sm_E cl X (pc + 1) L (.long (x - y) :: r) ad sh μ) : sm_E cl X pc L (.long y :: .long x :: r) ad sh μ := by
  obtain ⟨⟨l, D, cA, NW⟩, pr, e, R, s, m, args, below, meth, c, nL, A, H0, Q, n0, s0⟩ := X
  obtain ⟨hx, hb, hml, hn, hown, hts, hK, hlk, hrt, hR, hA, hc0, hs0, hin, hnw⟩ := hX
  exact fun ls H locs cells slots g1 g2 h1 h2 h3 h4 => lv_lsub hx hb d (k ls H locs cells slots g1 g2 h1 h2 h3 h4)
theorem sm_lmul {cl : List vw_C} {X : sm_X} {cc : ByteArray} {n : Nat} {own : String} {Ts : List Cond} {ret : Option FieldType} {rm : Room} {N S : Nat} {ini : Bool} (hX : sm_ok cl X cc n own Ts ret rm N S ini) {pc : Nat} {L : List (Option Value)} {r : List Value} {ad : Nat → Nat} {sh : sm_S} {μ : sm_M} {x y : Int64} (d : decode cc pc = .ok (.lmul, 1)) (k : sm_E cl X (pc + 1) L (.long (x * y) :: r) ad sh μ) : sm_E cl X pc L (.long y :: .long x :: r) ad sh μ := by
  obtain ⟨⟨l, D, cA, NW⟩, pr, e, R, s, m, args, below, meth, c, nL, A, H0, Q, n0, s0⟩ := X
  obtain ⟨hx, hb, hml, hn, hown, hts, hK, hlk, hrt, hR, hA, hc0, hs0, hin, hnw⟩ := hX
  exact fun ls H locs cells slots g1 g2 h1 h2 h3 h4 => lv_lmul hx hb d (k ls H locs cells slots g1 g2 h1 h2 h3 h4)
theorem sm_land {cl : List vw_C} {X : sm_X} {cc : ByteArray} {n : Nat} {own : String} {Ts : List Cond} {ret : Option FieldType} {rm : Room} {N S : Nat} {ini : Bool} (hX : sm_ok cl X cc n own Ts ret rm N S ini) {pc : Nat} {L : List (Option Value)} {r : List Value} {ad : Nat → Nat} {sh : sm_S} {μ : sm_M} {x y : Int64} (d : decode cc pc = .ok (.land, 1)) (k : sm_E cl X (pc + 1) L (.long (x &&& y) :: r) ad sh μ) : sm_E cl X pc L (.long y :: .long x :: r) ad sh μ := by
  obtain ⟨⟨l, D, cA, NW⟩, pr, e, R, s, m, args, below, meth, c, nL, A, H0, Q, n0, s0⟩ := X
  obtain ⟨hx, hb, hml, hn, hown, hts, hK, hlk, hrt, hR, hA, hc0, hs0, hin, hnw⟩ := hX
  exact fun ls H locs cells slots g1 g2 h1 h2 h3 h4 => lv_land hx hb d (k ls H locs cells slots g1 g2 h1 h2 h3 h4)
theorem sm_lor {cl : List vw_C} {X : sm_X} {cc : ByteArray} {n : Nat} {own : String} {Ts : List Cond} {ret : Option FieldType} {rm : Room} {N S : Nat} {ini : Bool} (hX : sm_ok cl X cc n own Ts ret rm N S ini) {pc : Nat} {L : List (Option Value)} {r : List Value} {ad : Nat → Nat} {sh : sm_S} {μ : sm_M} {x y : Int64} (d : decode cc pc = .ok (.lor, 1)) (k : sm_E cl X (pc + 1) L (.long (x ||| y) :: r) ad sh μ) : sm_E cl X pc L (.long y :: .long x :: r) ad sh μ := by
  obtain ⟨⟨l, D, cA, NW⟩, pr, e, R, s, m, args, below, meth, c, nL, A, H0, Q, n0, s0⟩ := X
  obtain ⟨hx, hb, hml, hn, hown, hts, hK, hlk, hrt, hR, hA, hc0, hs0, hin, hnw⟩ := hX
  exact fun ls H locs cells slots g1 g2 h1 h2 h3 h4 => lv_lor hx hb d (k ls H locs cells slots g1 g2 h1 h2 h3 h4)
theorem sm_lxor {cl : List vw_C} {X : sm_X} {cc : ByteArray} {n : Nat} {own : String} {Ts : List Cond} {ret : Option FieldType} {rm : Room} {N S : Nat} {ini : Bool} (hX : sm_ok cl X cc n own Ts ret rm N S ini) {pc : Nat} {L : List (Option Value)} {r : List Value} {ad : Nat → Nat} {sh : sm_S} {μ : sm_M} {x y : Int64} (d : decode cc pc = .ok (.lxor, 1)) (k : sm_E cl X (pc + 1) L (.long (x ^^^ y) :: r) ad sh μ) : sm_E cl X pc L (.long y :: .long x :: r) ad sh μ := by
  obtain ⟨⟨l, D, cA, NW⟩, pr, e, R, s, m, args, below, meth, c, nL, A, H0, Q, n0, s0⟩ := X
  obtain ⟨hx, hb, hml, hn, hown, hts, hK, hlk, hrt, hR, hA, hc0, hs0, hin, hnw⟩ := hX
  exact fun ls H locs cells slots g1 g2 h1 h2 h3 h4 => lv_lxor hx hb d (k ls H locs cells slots g1 g2 h1 h2 h3 h4)
theorem sm_idiv {cl : List vw_C} {X : sm_X} {cc : ByteArray} {n : Nat} {own : String} {Ts : List Cond} {ret : Option FieldType} {rm : Room} {N S : Nat} {ini : Bool} (hX : sm_ok cl X cc n own Ts ret rm N S ini) {pc : Nat} {L : List (Option Value)} {r : List Value} {ad : Nat → Nat} {sh : sm_S} {μ : sm_M} {x y : Int32} (d : decode cc pc = .ok (.idiv, 1)) (hne : ¬ y = 0) (k : sm_E cl X (pc + 1) L (.int (x / y) :: r) ad sh μ) : sm_E cl X pc L (.int y :: .int x :: r) ad sh μ := by
  obtain ⟨⟨l, D, cA, NW⟩, pr, e, R, s, m, args, below, meth, c, nL, A, H0, Q, n0, s0⟩ := X
  obtain ⟨hx, hb, hml, hn, hown, hts, hK, hlk, hrt, hR, hA, hc0, hs0, hin, hnw⟩ := hX
  exact fun ls H locs cells slots g1 g2 h1 h2 h3 h4 => lv_idiv hx hb d hne (k ls H locs cells slots g1 g2 h1 h2 h3 h4)
theorem sm_irem {cl : List vw_C} {X : sm_X} {cc : ByteArray} {n : Nat} {own : String} {Ts : List Cond} {ret : Option FieldType} {rm : Room} {N S : Nat} {ini : Bool} (hX : sm_ok cl X cc n own Ts ret rm N S ini) {pc : Nat} {L : List (Option Value)} {r : List Value} {ad : Nat → Nat} {sh : sm_S} {μ : sm_M} {x y : Int32} (d : decode cc pc = .ok (.irem, 1)) (hne : ¬ y = 0) (k : sm_E cl X (pc + 1) L (.int (x - x / y * y) :: r) ad sh μ) : sm_E cl X pc L (.int y :: .int x :: r) ad sh μ := by
  obtain ⟨⟨l, D, cA, NW⟩, pr, e, R, s, m, args, below, meth, c, nL, A, H0, Q, n0, s0⟩ := X
  obtain ⟨hx, hb, hml, hn, hown, hts, hK, hlk, hrt, hR, hA, hc0, hs0, hin, hnw⟩ := hX
  exact fun ls H locs cells slots g1 g2 h1 h2 h3 h4 => lv_irem hx hb d hne (k ls H locs cells slots g1 g2 h1 h2 h3 h4)
theorem sm_ineg {cl : List vw_C} {X : sm_X} {cc : ByteArray} {n : Nat} {own : String} {Ts : List Cond} {ret : Option FieldType} {rm : Room} {N S : Nat} {ini : Bool} (hX : sm_ok cl X cc n own Ts ret rm N S ini) {pc : Nat} {L : List (Option Value)} {r : List Value} {ad : Nat → Nat} {sh : sm_S} {μ : sm_M} {x : Int32} (d : decode cc pc = .ok (.ineg, 1)) (k : sm_E cl X (pc + 1) L (.int (-x) :: r) ad sh μ) : sm_E cl X pc L (.int x :: r) ad sh μ := by
  obtain ⟨⟨l, D, cA, NW⟩, pr, e, R, s, m, args, below, meth, c, nL, A, H0, Q, n0, s0⟩ := X
  obtain ⟨hx, hb, hml, hn, hown, hts, hK, hlk, hrt, hR, hA, hc0, hs0, hin, hnw⟩ := hX
  exact fun ls H locs cells slots g1 g2 h1 h2 h3 h4 => lv_ineg hx hb d (k ls H locs cells slots g1 g2 h1 h2 h3 h4)
theorem sm_iconst {cl : List vw_C} {X : sm_X} {cc : ByteArray} {n : Nat} {own : String} {Ts : List Cond} {ret : Option FieldType} {rm : Room} {N S : Nat} {ini : Bool} (hX : sm_ok cl X cc n own Ts ret rm N S ini) {pc : Nat} {L : List (Option Value)} {r : List Value} {ad : Nat → Nat} {sh : sm_S} {μ : sm_M} {i : Int} (d : decode cc pc = .ok (.iconst i, 1)) (k : sm_E cl X (pc + 1) L (.int (Int32.ofInt i) :: r) ad sh μ) : sm_E cl X pc L (r) ad sh μ := by
  obtain ⟨⟨l, D, cA, NW⟩, pr, e, R, s, m, args, below, meth, c, nL, A, H0, Q, n0, s0⟩ := X
  obtain ⟨hx, hb, hml, hn, hown, hts, hK, hlk, hrt, hR, hA, hc0, hs0, hin, hnw⟩ := hX
  exact fun ls H locs cells slots g1 g2 h1 h2 h3 h4 => lv_iconst hx hb d rfl (k ls H locs cells slots g1 g2 h1 h2 h3 h4)
theorem sm_bipush {cl : List vw_C} {X : sm_X} {cc : ByteArray} {n : Nat} {own : String} {Ts : List Cond} {ret : Option FieldType} {rm : Room} {N S : Nat} {ini : Bool} (hX : sm_ok cl X cc n own Ts ret rm N S ini) {pc : Nat} {L : List (Option Value)} {r : List Value} {ad : Nat → Nat} {sh : sm_S} {μ : sm_M} {i : Int} (d : decode cc pc = .ok (.bipush i, 2)) (k : sm_E cl X (pc + 2) L (.int (Int8.ofInt i).toInt32 :: r) ad sh μ) : sm_E cl X pc L (r) ad sh μ := by
  obtain ⟨⟨l, D, cA, NW⟩, pr, e, R, s, m, args, below, meth, c, nL, A, H0, Q, n0, s0⟩ := X
  obtain ⟨hx, hb, hml, hn, hown, hts, hK, hlk, hrt, hR, hA, hc0, hs0, hin, hnw⟩ := hX
  exact fun ls H locs cells slots g1 g2 h1 h2 h3 h4 => lv_bipush hx hb d rfl (k ls H locs cells slots g1 g2 h1 h2 h3 h4)
theorem sm_sipush {cl : List vw_C} {X : sm_X} {cc : ByteArray} {n : Nat} {own : String} {Ts : List Cond} {ret : Option FieldType} {rm : Room} {N S : Nat} {ini : Bool} (hX : sm_ok cl X cc n own Ts ret rm N S ini) {pc : Nat} {L : List (Option Value)} {r : List Value} {ad : Nat → Nat} {sh : sm_S} {μ : sm_M} {i : Int} (d : decode cc pc = .ok (.sipush i, 3)) (k : sm_E cl X (pc + 3) L (.int (Int16.ofInt i).toInt32 :: r) ad sh μ) : sm_E cl X pc L (r) ad sh μ := by
  obtain ⟨⟨l, D, cA, NW⟩, pr, e, R, s, m, args, below, meth, c, nL, A, H0, Q, n0, s0⟩ := X
  obtain ⟨hx, hb, hml, hn, hown, hts, hK, hlk, hrt, hR, hA, hc0, hs0, hin, hnw⟩ := hX
  exact fun ls H locs cells slots g1 g2 h1 h2 h3 h4 => lv_sipush hx hb d rfl (k ls H locs cells slots g1 g2 h1 h2 h3 h4)
theorem sm_lconst {cl : List vw_C} {X : sm_X} {cc : ByteArray} {n : Nat} {own : String} {Ts : List Cond} {ret : Option FieldType} {rm : Room} {N S : Nat} {ini : Bool} (hX : sm_ok cl X cc n own Ts ret rm N S ini) {pc : Nat} {L : List (Option Value)} {r : List Value} {ad : Nat → Nat} {sh : sm_S} {μ : sm_M} {i : Fin 2} (d : decode cc pc = .ok (.lconst i, 1)) (k : sm_E cl X (pc + 1) L (.long (Int64.ofNat (i : Nat)) :: r) ad sh μ) : sm_E cl X pc L (r) ad sh μ := by
  obtain ⟨⟨l, D, cA, NW⟩, pr, e, R, s, m, args, below, meth, c, nL, A, H0, Q, n0, s0⟩ := X
  obtain ⟨hx, hb, hml, hn, hown, hts, hK, hlk, hrt, hR, hA, hc0, hs0, hin, hnw⟩ := hX
  exact fun ls H locs cells slots g1 g2 h1 h2 h3 h4 => lv_lconst hx hb d rfl (k ls H locs cells slots g1 g2 h1 h2 h3 h4)
theorem sm_ldc {cl : List vw_C} {X : sm_X} {cc : ByteArray} {n : Nat} {own : String} {Ts : List Cond} {ret : Option FieldType} {rm : Room} {N S : Nat} {ini : Bool} (hX : sm_ok cl X cc n own Ts ret rm N S ini) {pc : Nat} {L : List (Option Value)} {r : List Value} {ad : Nat → Nat} {sh : sm_S} {μ : sm_M} {idx : Nat} {v : Int32} (d : decode cc pc = .ok (.ldc idx, 2)) (hc : Jvm.Cond.constant own idx v ∈ Ts) (k : sm_E cl X (pc + 2) L (.int v :: r) ad sh μ) : sm_E cl X pc L (r) ad sh μ := by
  obtain ⟨⟨l, D, cA, NW⟩, pr, e, R, s, m, args, below, meth, c, nL, A, H0, Q, n0, s0⟩ := X
  obtain ⟨hx, hb, hml, hn, hown, hts, hK, hlk, hrt, hR, hA, hc0, hs0, hin, hnw⟩ := hX
  exact fun ls H locs cells slots g1 g2 h1 h2 h3 h4 => lv_ldc hx hb hown (hts _ hc) d (k ls H locs cells slots g1 g2 h1 h2 h3 h4)
theorem sm_ldc2 {cl : List vw_C} {X : sm_X} {cc : ByteArray} {n : Nat} {own : String} {Ts : List Cond} {ret : Option FieldType} {rm : Room} {N S : Nat} {ini : Bool} (hX : sm_ok cl X cc n own Ts ret rm N S ini) {pc : Nat} {L : List (Option Value)} {r : List Value} {ad : Nat → Nat} {sh : sm_S} {μ : sm_M} {idx : Nat} {v : Int64} (d : decode cc pc = .ok (.ldc2_w idx, 3)) (hc : Jvm.Cond.constantLong own idx v ∈ Ts) (k : sm_E cl X (pc + 3) L (.long v :: r) ad sh μ) : sm_E cl X pc L (r) ad sh μ := by
  obtain ⟨⟨l, D, cA, NW⟩, pr, e, R, s, m, args, below, meth, c, nL, A, H0, Q, n0, s0⟩ := X
  obtain ⟨hx, hb, hml, hn, hown, hts, hK, hlk, hrt, hR, hA, hc0, hs0, hin, hnw⟩ := hX
  exact fun ls H locs cells slots g1 g2 h1 h2 h3 h4 => lv_ldc2 hx hb hown (hts _ hc) d (k ls H locs cells slots g1 g2 h1 h2 h3 h4)
theorem sm_i2l {cl : List vw_C} {X : sm_X} {cc : ByteArray} {n : Nat} {own : String} {Ts : List Cond} {ret : Option FieldType} {rm : Room} {N S : Nat} {ini : Bool} (hX : sm_ok cl X cc n own Ts ret rm N S ini) {pc : Nat} {L : List (Option Value)} {r : List Value} {ad : Nat → Nat} {sh : sm_S} {μ : sm_M} {x : Int32} (d : decode cc pc = .ok (.i2l, 1)) (k : sm_E cl X (pc + 1) L (.long x.toInt64 :: r) ad sh μ) : sm_E cl X pc L (.int x :: r) ad sh μ := by
  obtain ⟨⟨l, D, cA, NW⟩, pr, e, R, s, m, args, below, meth, c, nL, A, H0, Q, n0, s0⟩ := X
  obtain ⟨hx, hb, hml, hn, hown, hts, hK, hlk, hrt, hR, hA, hc0, hs0, hin, hnw⟩ := hX
  exact fun ls H locs cells slots g1 g2 h1 h2 h3 h4 => lv_i2l hx hb d rfl (k ls H locs cells slots g1 g2 h1 h2 h3 h4)
theorem sm_l2i {cl : List vw_C} {X : sm_X} {cc : ByteArray} {n : Nat} {own : String} {Ts : List Cond} {ret : Option FieldType} {rm : Room} {N S : Nat} {ini : Bool} (hX : sm_ok cl X cc n own Ts ret rm N S ini) {pc : Nat} {L : List (Option Value)} {r : List Value} {ad : Nat → Nat} {sh : sm_S} {μ : sm_M} {x : Int64} (d : decode cc pc = .ok (.l2i, 1)) (k : sm_E cl X (pc + 1) L (.int x.toInt32 :: r) ad sh μ) : sm_E cl X pc L (.long x :: r) ad sh μ := by
  obtain ⟨⟨l, D, cA, NW⟩, pr, e, R, s, m, args, below, meth, c, nL, A, H0, Q, n0, s0⟩ := X
  obtain ⟨hx, hb, hml, hn, hown, hts, hK, hlk, hrt, hR, hA, hc0, hs0, hin, hnw⟩ := hX
  exact fun ls H locs cells slots g1 g2 h1 h2 h3 h4 => lv_l2i hx hb d rfl (k ls H locs cells slots g1 g2 h1 h2 h3 h4)
theorem sm_iushr {cl : List vw_C} {X : sm_X} {cc : ByteArray} {n : Nat} {own : String} {Ts : List Cond} {ret : Option FieldType} {rm : Room} {N S : Nat} {ini : Bool} (hX : sm_ok cl X cc n own Ts ret rm N S ini) {pc : Nat} {L : List (Option Value)} {r : List Value} {ad : Nat → Nat} {sh : sm_S} {μ : sm_M} {x y : Int32} (d : decode cc pc = .ok (.iushr, 1)) (k : sm_E cl X (pc + 1) L (.int (x.toUInt32 >>> (y.toUInt32 &&& Int32.toUInt32 31)).toInt32 :: r) ad sh μ) : sm_E cl X pc L (.int y :: .int x :: r) ad sh μ := by
  obtain ⟨⟨l, D, cA, NW⟩, pr, e, R, s, m, args, below, meth, c, nL, A, H0, Q, n0, s0⟩ := X
  obtain ⟨hx, hb, hml, hn, hown, hts, hK, hlk, hrt, hR, hA, hc0, hs0, hin, hnw⟩ := hX
  exact fun ls H locs cells slots g1 g2 h1 h2 h3 h4 => lv_iushr hx hb d rfl (k ls H locs cells slots g1 g2 h1 h2 h3 h4)
theorem sm_lushr {cl : List vw_C} {X : sm_X} {cc : ByteArray} {n : Nat} {own : String} {Ts : List Cond} {ret : Option FieldType} {rm : Room} {N S : Nat} {ini : Bool} (hX : sm_ok cl X cc n own Ts ret rm N S ini) {pc : Nat} {L : List (Option Value)} {r : List Value} {ad : Nat → Nat} {sh : sm_S} {μ : sm_M} {x : Int64} {y : Int32} (d : decode cc pc = .ok (.lushr, 1)) (k : sm_E cl X (pc + 1) L (.long (x.toUInt64 >>> (y.toInt64.toUInt64 &&& Int64.toUInt64 63)).toInt64 :: r) ad sh μ) : sm_E cl X pc L (.int y :: .long x :: r) ad sh μ := by
  obtain ⟨⟨l, D, cA, NW⟩, pr, e, R, s, m, args, below, meth, c, nL, A, H0, Q, n0, s0⟩ := X
  obtain ⟨hx, hb, hml, hn, hown, hts, hK, hlk, hrt, hR, hA, hc0, hs0, hin, hnw⟩ := hX
  exact fun ls H locs cells slots g1 g2 h1 h2 h3 h4 => lv_lushr hx hb d rfl (k ls H locs cells slots g1 g2 h1 h2 h3 h4)
theorem sm_lshl {cl : List vw_C} {X : sm_X} {cc : ByteArray} {n : Nat} {own : String} {Ts : List Cond} {ret : Option FieldType} {rm : Room} {N S : Nat} {ini : Bool} (hX : sm_ok cl X cc n own Ts ret rm N S ini) {pc : Nat} {L : List (Option Value)} {r : List Value} {ad : Nat → Nat} {sh : sm_S} {μ : sm_M} {x : Int64} {y : Int32} (d : decode cc pc = .ok (.lshl, 1)) (k : sm_E cl X (pc + 1) L (.long (x <<< (y.toInt64 &&& 63)) :: r) ad sh μ) : sm_E cl X pc L (.int y :: .long x :: r) ad sh μ := by
  obtain ⟨⟨l, D, cA, NW⟩, pr, e, R, s, m, args, below, meth, c, nL, A, H0, Q, n0, s0⟩ := X
  obtain ⟨hx, hb, hml, hn, hown, hts, hK, hlk, hrt, hR, hA, hc0, hs0, hin, hnw⟩ := hX
  exact fun ls H locs cells slots g1 g2 h1 h2 h3 h4 => lv_lshl hx hb d rfl (k ls H locs cells slots g1 g2 h1 h2 h3 h4)
theorem sm_lshr {cl : List vw_C} {X : sm_X} {cc : ByteArray} {n : Nat} {own : String} {Ts : List Cond} {ret : Option FieldType} {rm : Room} {N S : Nat} {ini : Bool} (hX : sm_ok cl X cc n own Ts ret rm N S ini) {pc : Nat} {L : List (Option Value)} {r : List Value} {ad : Nat → Nat} {sh : sm_S} {μ : sm_M} {x : Int64} {y : Int32} (d : decode cc pc = .ok (.lshr, 1)) (k : sm_E cl X (pc + 1) L (.long (x >>> (y.toInt64 &&& 63)) :: r) ad sh μ) : sm_E cl X pc L (.int y :: .long x :: r) ad sh μ := by
  obtain ⟨⟨l, D, cA, NW⟩, pr, e, R, s, m, args, below, meth, c, nL, A, H0, Q, n0, s0⟩ := X
  obtain ⟨hx, hb, hml, hn, hown, hts, hK, hlk, hrt, hR, hA, hc0, hs0, hin, hnw⟩ := hX
  exact fun ls H locs cells slots g1 g2 h1 h2 h3 h4 => lv_lshr hx hb d rfl (k ls H locs cells slots g1 g2 h1 h2 h3 h4)
theorem sm_ishl {cl : List vw_C} {X : sm_X} {cc : ByteArray} {n : Nat} {own : String} {Ts : List Cond} {ret : Option FieldType} {rm : Room} {N S : Nat} {ini : Bool} (hX : sm_ok cl X cc n own Ts ret rm N S ini) {pc : Nat} {L : List (Option Value)} {r : List Value} {ad : Nat → Nat} {sh : sm_S} {μ : sm_M} {x y : Int32} (d : decode cc pc = .ok (.ishl, 1)) (k : sm_E cl X (pc + 1) L (.int (x <<< (y &&& 31)) :: r) ad sh μ) : sm_E cl X pc L (.int y :: .int x :: r) ad sh μ := by
  obtain ⟨⟨l, D, cA, NW⟩, pr, e, R, s, m, args, below, meth, c, nL, A, H0, Q, n0, s0⟩ := X
  obtain ⟨hx, hb, hml, hn, hown, hts, hK, hlk, hrt, hR, hA, hc0, hs0, hin, hnw⟩ := hX
  exact fun ls H locs cells slots g1 g2 h1 h2 h3 h4 => lv_ishl hx hb d (k ls H locs cells slots g1 g2 h1 h2 h3 h4)
theorem sm_ishr {cl : List vw_C} {X : sm_X} {cc : ByteArray} {n : Nat} {own : String} {Ts : List Cond} {ret : Option FieldType} {rm : Room} {N S : Nat} {ini : Bool} (hX : sm_ok cl X cc n own Ts ret rm N S ini) {pc : Nat} {L : List (Option Value)} {r : List Value} {ad : Nat → Nat} {sh : sm_S} {μ : sm_M} {x y : Int32} (d : decode cc pc = .ok (.ishr, 1)) (k : sm_E cl X (pc + 1) L (.int (x >>> (y &&& 31)) :: r) ad sh μ) : sm_E cl X pc L (.int y :: .int x :: r) ad sh μ := by
  obtain ⟨⟨l, D, cA, NW⟩, pr, e, R, s, m, args, below, meth, c, nL, A, H0, Q, n0, s0⟩ := X
  obtain ⟨hx, hb, hml, hn, hown, hts, hK, hlk, hrt, hR, hA, hc0, hs0, hin, hnw⟩ := hX
  exact fun ls H locs cells slots g1 g2 h1 h2 h3 h4 => lv_ishr hx hb d (k ls H locs cells slots g1 g2 h1 h2 h3 h4)
theorem sm_lcmp {cl : List vw_C} {X : sm_X} {cc : ByteArray} {n : Nat} {own : String} {Ts : List Cond} {ret : Option FieldType} {rm : Room} {N S : Nat} {ini : Bool} (hX : sm_ok cl X cc n own Ts ret rm N S ini) {pc : Nat} {L : List (Option Value)} {r : List Value} {ad : Nat → Nat} {sh : sm_S} {μ : sm_M} {x y : Int64} (d : decode cc pc = .ok (.lcmp, 1)) (k : sm_E cl X (pc + 1) L (.int (lg_cmp x y) :: r) ad sh μ) : sm_E cl X pc L (.long y :: .long x :: r) ad sh μ := by
  obtain ⟨⟨l, D, cA, NW⟩, pr, e, R, s, m, args, below, meth, c, nL, A, H0, Q, n0, s0⟩ := X
  obtain ⟨hx, hb, hml, hn, hown, hts, hK, hlk, hrt, hR, hA, hc0, hs0, hin, hnw⟩ := hX
  exact fun ls H locs cells slots g1 g2 h1 h2 h3 h4 => W.lcmp hx hb d (k ls H locs cells slots g1 g2 h1 h2 h3 h4)
theorem sm_dup {cl : List vw_C} {X : sm_X} {cc : ByteArray} {n : Nat} {own : String} {Ts : List Cond} {ret : Option FieldType} {rm : Room} {N S : Nat} {ini : Bool} (hX : sm_ok cl X cc n own Ts ret rm N S ini) {pc : Nat} {L : List (Option Value)} {r : List Value} {ad : Nat → Nat} {sh : sm_S} {μ : sm_M} {a : Value} (d : decode cc pc = .ok (.dup, 1)) (h : a.category = 1) (k : sm_E cl X (pc + 1) L (a :: a :: r) ad sh μ) : sm_E cl X pc L (a :: r) ad sh μ := by
  obtain ⟨⟨l, D, cA, NW⟩, pr, e, R, s, m, args, below, meth, c, nL, A, H0, Q, n0, s0⟩ := X
  obtain ⟨hx, hb, hml, hn, hown, hts, hK, hlk, hrt, hR, hA, hc0, hs0, hin, hnw⟩ := hX
  exact fun ls H locs cells slots g1 g2 h1 h2 h3 h4 => lv_dup hx hb d (by rw [sm_v_cat]; exact h) (k ls H locs cells slots g1 g2 h1 h2 h3 h4)
theorem sm_pop {cl : List vw_C} {X : sm_X} {cc : ByteArray} {n : Nat} {own : String} {Ts : List Cond} {ret : Option FieldType} {rm : Room} {N S : Nat} {ini : Bool} (hX : sm_ok cl X cc n own Ts ret rm N S ini) {pc : Nat} {L : List (Option Value)} {r : List Value} {ad : Nat → Nat} {sh : sm_S} {μ : sm_M} {a : Value} (d : decode cc pc = .ok (.pop, 1)) (h : a.category = 1) (k : sm_E cl X (pc + 1) L (r) ad sh μ) : sm_E cl X pc L (a :: r) ad sh μ := by
  obtain ⟨⟨l, D, cA, NW⟩, pr, e, R, s, m, args, below, meth, c, nL, A, H0, Q, n0, s0⟩ := X
  obtain ⟨hx, hb, hml, hn, hown, hts, hK, hlk, hrt, hR, hA, hc0, hs0, hin, hnw⟩ := hX
  exact fun ls H locs cells slots g1 g2 h1 h2 h3 h4 => lv_pop hx hb d (by rw [sm_v_cat]; exact h) (k ls H locs cells slots g1 g2 h1 h2 h3 h4)
theorem sm_dup_x1 {cl : List vw_C} {X : sm_X} {cc : ByteArray} {n : Nat} {own : String} {Ts : List Cond} {ret : Option FieldType} {rm : Room} {N S : Nat} {ini : Bool} (hX : sm_ok cl X cc n own Ts ret rm N S ini) {pc : Nat} {L : List (Option Value)} {r : List Value} {ad : Nat → Nat} {sh : sm_S} {μ : sm_M} {a b : Value} (d : decode cc pc = .ok (.dup_x1, 1)) (h : a.category = 1) (h' : b.category = 1) (k : sm_E cl X (pc + 1) L (a :: b :: a :: r) ad sh μ) : sm_E cl X pc L (a :: b :: r) ad sh μ := by
  obtain ⟨⟨l, D, cA, NW⟩, pr, e, R, s, m, args, below, meth, c, nL, A, H0, Q, n0, s0⟩ := X
  obtain ⟨hx, hb, hml, hn, hown, hts, hK, hlk, hrt, hR, hA, hc0, hs0, hin, hnw⟩ := hX
  exact fun ls H locs cells slots g1 g2 h1 h2 h3 h4 => lv_dup_x1 hx hb d (by rw [sm_v_cat]; exact h) (by rw [sm_v_cat]; exact h') (k ls H locs cells slots g1 g2 h1 h2 h3 h4)
theorem sm_dup2 {cl : List vw_C} {X : sm_X} {cc : ByteArray} {n : Nat} {own : String} {Ts : List Cond} {ret : Option FieldType} {rm : Room} {N S : Nat} {ini : Bool} (hX : sm_ok cl X cc n own Ts ret rm N S ini) {pc : Nat} {L : List (Option Value)} {r : List Value} {ad : Nat → Nat} {sh : sm_S} {μ : sm_M} {a b : Value} (d : decode cc pc = .ok (.dup2, 1)) (h : a.category = 1) (h' : b.category = 1) (k : sm_E cl X (pc + 1) L (a :: b :: a :: b :: r) ad sh μ) : sm_E cl X pc L (a :: b :: r) ad sh μ := by
  obtain ⟨⟨l, D, cA, NW⟩, pr, e, R, s, m, args, below, meth, c, nL, A, H0, Q, n0, s0⟩ := X
  obtain ⟨hx, hb, hml, hn, hown, hts, hK, hlk, hrt, hR, hA, hc0, hs0, hin, hnw⟩ := hX
  exact fun ls H locs cells slots g1 g2 h1 h2 h3 h4 => lv_dup2_11 hx hb d (by rw [sm_v_cat]; exact h) (by rw [sm_v_cat]; exact h') (k ls H locs cells slots g1 g2 h1 h2 h3 h4)
theorem sm_dup2L {cl : List vw_C} {X : sm_X} {cc : ByteArray} {n : Nat} {own : String} {Ts : List Cond} {ret : Option FieldType} {rm : Room} {N S : Nat} {ini : Bool} (hX : sm_ok cl X cc n own Ts ret rm N S ini) {pc : Nat} {L : List (Option Value)} {r : List Value} {ad : Nat → Nat} {sh : sm_S} {μ : sm_M} {a : Value} (d : decode cc pc = .ok (.dup2, 1)) (h : a.category = 2) (k : sm_E cl X (pc + 1) L (a :: a :: r) ad sh μ) : sm_E cl X pc L (a :: r) ad sh μ := by
  obtain ⟨⟨l, D, cA, NW⟩, pr, e, R, s, m, args, below, meth, c, nL, A, H0, Q, n0, s0⟩ := X
  obtain ⟨hx, hb, hml, hn, hown, hts, hK, hlk, hrt, hR, hA, hc0, hs0, hin, hnw⟩ := hX
  exact fun ls H locs cells slots g1 g2 h1 h2 h3 h4 => lv_dup2_2 hx hb d (by rw [sm_v_cat]; exact h) (k ls H locs cells slots g1 g2 h1 h2 h3 h4)
theorem sm_iloadG {cl : List vw_C} {X : sm_X} {cc : ByteArray} {n : Nat} {own : String} {Ts : List Cond} {ret : Option FieldType} {rm : Room} {N S : Nat} {ini : Bool} (hX : sm_ok cl X cc n own Ts ret rm N S ini) {pc : Nat} {L : List (Option Value)} {r : List Value} {ad : Nat → Nat} {sh : sm_S} {μ : sm_M} {i : Nat} {x : Int32} (d : decode cc pc = .ok (.iload i, 2)) (hl : L[i]? = some (some (.int x))) (k : sm_E cl X (pc + 2) L (.int x :: r) ad sh μ) : sm_E cl X pc L r ad sh μ := by
  obtain ⟨⟨l, D, cA, NW⟩, pr, e, R, s, m, args, below, meth, c, nL, A, H0, Q, n0, s0⟩ := X
  obtain ⟨hx, hb, hml, hn, hown, hts, hK, hlk, hrt, hR, hA, hc0, hs0, hin, hnw⟩ := hX
  exact fun ls H locs cells slots g1 g2 h1 h2 h3 h4 => lv_iload hx hb d (h1.2.2 _ _ hl) (k ls H locs cells slots g1 g2 h1 h2 h3 h4)
theorem sm_iloadN {cl : List vw_C} {X : sm_X} {cc : ByteArray} {n : Nat} {own : String} {Ts : List Cond} {ret : Option FieldType} {rm : Room} {N S : Nat} {ini : Bool} (hX : sm_ok cl X cc n own Ts ret rm N S ini) {pc : Nat} {L : List (Option Value)} {r : List Value} {ad : Nat → Nat} {sh : sm_S} {μ : sm_M} {i : Fin 4} {x : Int32} (d : decode cc pc = .ok (.iload_n i, 1)) (hl : L[(i : Nat)]? = some (some (.int x))) (k : sm_E cl X (pc + 1) L (.int x :: r) ad sh μ) : sm_E cl X pc L r ad sh μ := by
  obtain ⟨⟨l, D, cA, NW⟩, pr, e, R, s, m, args, below, meth, c, nL, A, H0, Q, n0, s0⟩ := X
  obtain ⟨hx, hb, hml, hn, hown, hts, hK, hlk, hrt, hR, hA, hc0, hs0, hin, hnw⟩ := hX
  exact fun ls H locs cells slots g1 g2 h1 h2 h3 h4 => lv_iload_n hx hb d rfl (h1.2.2 _ _ hl) (k ls H locs cells slots g1 g2 h1 h2 h3 h4)
theorem sm_istoreG {cl : List vw_C} {X : sm_X} {cc : ByteArray} {n : Nat} {own : String} {Ts : List Cond} {ret : Option FieldType} {rm : Room} {N S : Nat} {ini : Bool} (hX : sm_ok cl X cc n own Ts ret rm N S ini) {pc : Nat} {L : List (Option Value)} {r : List Value} {ad : Nat → Nat} {sh : sm_S} {μ : sm_M} {i : Nat} {x : Int32} (d : decode cc pc = .ok (.istore i, 2)) (ha : sm_ah L i = true) (hi : i < n) (k : sm_E cl X (pc + 2) (L.set i (some (.int x))) r ad sh μ) : sm_E cl X pc L (.int x :: r) ad sh μ := by
  obtain ⟨⟨l, D, cA, NW⟩, pr, e, R, s, m, args, below, meth, c, nL, A, H0, Q, n0, s0⟩ := X
  obtain ⟨hx, hb, hml, hn, hown, hts, hK, hlk, hrt, hR, hA, hc0, hs0, hin, hnw⟩ := hX
  subst hn
  exact fun ls H locs cells slots g1 g2 h1 h2 h3 h4 => lv_istore hx hb d h1.lv hi rfl (fun ls' h' => k ls' H locs cells slots g1 g2 (sm_has.st1 (v := .int x) ha h') h2 h3 h4)
theorem sm_istoreN {cl : List vw_C} {X : sm_X} {cc : ByteArray} {n : Nat} {own : String} {Ts : List Cond} {ret : Option FieldType} {rm : Room} {N S : Nat} {ini : Bool} (hX : sm_ok cl X cc n own Ts ret rm N S ini) {pc : Nat} {L : List (Option Value)} {r : List Value} {ad : Nat → Nat} {sh : sm_S} {μ : sm_M} {i : Fin 4} {x : Int32} (d : decode cc pc = .ok (.istore_n i, 1)) (ha : sm_ah L (i : Nat) = true) (hi : (i : Nat) < n) (k : sm_E cl X (pc + 1) (L.set (i : Nat) (some (.int x))) r ad sh μ) : sm_E cl X pc L (.int x :: r) ad sh μ := by
  obtain ⟨⟨l, D, cA, NW⟩, pr, e, R, s, m, args, below, meth, c, nL, A, H0, Q, n0, s0⟩ := X
  obtain ⟨hx, hb, hml, hn, hown, hts, hK, hlk, hrt, hR, hA, hc0, hs0, hin, hnw⟩ := hX
  subst hn
  exact fun ls H locs cells slots g1 g2 h1 h2 h3 h4 => lv_istore_n hx hb d rfl h1.lv hi rfl (fun ls' h' => k ls' H locs cells slots g1 g2 (sm_has.st1 (v := .int x) ha h') h2 h3 h4)
theorem sm_lloadG {cl : List vw_C} {X : sm_X} {cc : ByteArray} {n : Nat} {own : String} {Ts : List Cond} {ret : Option FieldType} {rm : Room} {N S : Nat} {ini : Bool} (hX : sm_ok cl X cc n own Ts ret rm N S ini) {pc : Nat} {L : List (Option Value)} {r : List Value} {ad : Nat → Nat} {sh : sm_S} {μ : sm_M} {i : Nat} {x : Int64} (d : decode cc pc = .ok (.lload i, 2)) (hl : L[i]? = some (some (.long x))) (k : sm_E cl X (pc + 2) L (.long x :: r) ad sh μ) : sm_E cl X pc L r ad sh μ := by
  obtain ⟨⟨l, D, cA, NW⟩, pr, e, R, s, m, args, below, meth, c, nL, A, H0, Q, n0, s0⟩ := X
  obtain ⟨hx, hb, hml, hn, hown, hts, hK, hlk, hrt, hR, hA, hc0, hs0, hin, hnw⟩ := hX
  exact fun ls H locs cells slots g1 g2 h1 h2 h3 h4 => lv_lload hx hb d (h1.2.2 _ _ hl) (k ls H locs cells slots g1 g2 h1 h2 h3 h4)
theorem sm_lloadN {cl : List vw_C} {X : sm_X} {cc : ByteArray} {n : Nat} {own : String} {Ts : List Cond} {ret : Option FieldType} {rm : Room} {N S : Nat} {ini : Bool} (hX : sm_ok cl X cc n own Ts ret rm N S ini) {pc : Nat} {L : List (Option Value)} {r : List Value} {ad : Nat → Nat} {sh : sm_S} {μ : sm_M} {i : Fin 4} {x : Int64} (d : decode cc pc = .ok (.lload_n i, 1)) (hl : L[(i : Nat)]? = some (some (.long x))) (k : sm_E cl X (pc + 1) L (.long x :: r) ad sh μ) : sm_E cl X pc L r ad sh μ := by
  obtain ⟨⟨l, D, cA, NW⟩, pr, e, R, s, m, args, below, meth, c, nL, A, H0, Q, n0, s0⟩ := X
  obtain ⟨hx, hb, hml, hn, hown, hts, hK, hlk, hrt, hR, hA, hc0, hs0, hin, hnw⟩ := hX
  exact fun ls H locs cells slots g1 g2 h1 h2 h3 h4 => lv_lload_n hx hb d rfl (h1.2.2 _ _ hl) (k ls H locs cells slots g1 g2 h1 h2 h3 h4)
theorem sm_lstoreG {cl : List vw_C} {X : sm_X} {cc : ByteArray} {n : Nat} {own : String} {Ts : List Cond} {ret : Option FieldType} {rm : Room} {N S : Nat} {ini : Bool} (hX : sm_ok cl X cc n own Ts ret rm N S ini) {pc : Nat} {L : List (Option Value)} {r : List Value} {ad : Nat → Nat} {sh : sm_S} {μ : sm_M} {i : Nat} {x : Int64} (d : decode cc pc = .ok (.lstore i, 2)) (ha : sm_ah L i = true) (hi : i + 1 < n) (k : sm_E cl X (pc + 2) ((L.set i (some (.long x))).set (i + 1) none) r ad sh μ) : sm_E cl X pc L (.long x :: r) ad sh μ := by
  obtain ⟨⟨l, D, cA, NW⟩, pr, e, R, s, m, args, below, meth, c, nL, A, H0, Q, n0, s0⟩ := X
  obtain ⟨hx, hb, hml, hn, hown, hts, hK, hlk, hrt, hR, hA, hc0, hs0, hin, hnw⟩ := hX
  subst hn
  exact fun ls H locs cells slots g1 g2 h1 h2 h3 h4 => lv_lstore hx hb d h1.lv hi rfl (fun ls' h' => k ls' H locs cells slots g1 g2 (sm_has.st2 (v := .long x) ha h') h2 h3 h4)
theorem sm_lstoreN {cl : List vw_C} {X : sm_X} {cc : ByteArray} {n : Nat} {own : String} {Ts : List Cond} {ret : Option FieldType} {rm : Room} {N S : Nat} {ini : Bool} (hX : sm_ok cl X cc n own Ts ret rm N S ini) {pc : Nat} {L : List (Option Value)} {r : List Value} {ad : Nat → Nat} {sh : sm_S} {μ : sm_M} {i : Fin 4} {x : Int64} (d : decode cc pc = .ok (.lstore_n i, 1)) (ha : sm_ah L (i : Nat) = true) (hi : (i : Nat) + 1 < n) (k : sm_E cl X (pc + 1) ((L.set (i : Nat) (some (.long x))).set ((i : Nat) + 1) none) r ad sh μ) : sm_E cl X pc L (.long x :: r) ad sh μ := by
  obtain ⟨⟨l, D, cA, NW⟩, pr, e, R, s, m, args, below, meth, c, nL, A, H0, Q, n0, s0⟩ := X
  obtain ⟨hx, hb, hml, hn, hown, hts, hK, hlk, hrt, hR, hA, hc0, hs0, hin, hnw⟩ := hX
  subst hn
  exact fun ls H locs cells slots g1 g2 h1 h2 h3 h4 => lv_lstore_n hx hb d rfl h1.lv hi rfl (fun ls' h' => k ls' H locs cells slots g1 g2 (sm_has.st2 (v := .long x) ha h') h2 h3 h4)
theorem sm_aloadG {cl : List vw_C} {X : sm_X} {cc : ByteArray} {n : Nat} {own : String} {Ts : List Cond} {ret : Option FieldType} {rm : Room} {N S : Nat} {ini : Bool} (hX : sm_ok cl X cc n own Ts ret rm N S ini) {pc : Nat} {L : List (Option Value)} {r : List Value} {ad : Nat → Nat} {sh : sm_S} {μ : sm_M} {i : Nat} {x : Nat} (d : decode cc pc = .ok (.aload i, 2)) (hl : L[i]? = some (some (.ref x))) (k : sm_E cl X (pc + 2) L (.ref x :: r) ad sh μ) : sm_E cl X pc L r ad sh μ := by
  obtain ⟨⟨l, D, cA, NW⟩, pr, e, R, s, m, args, below, meth, c, nL, A, H0, Q, n0, s0⟩ := X
  obtain ⟨hx, hb, hml, hn, hown, hts, hK, hlk, hrt, hR, hA, hc0, hs0, hin, hnw⟩ := hX
  exact fun ls H locs cells slots g1 g2 h1 h2 h3 h4 => lv_aload hx hb d (h1.2.2 _ _ hl) (k ls H locs cells slots g1 g2 h1 h2 h3 h4)
theorem sm_aloadN {cl : List vw_C} {X : sm_X} {cc : ByteArray} {n : Nat} {own : String} {Ts : List Cond} {ret : Option FieldType} {rm : Room} {N S : Nat} {ini : Bool} (hX : sm_ok cl X cc n own Ts ret rm N S ini) {pc : Nat} {L : List (Option Value)} {r : List Value} {ad : Nat → Nat} {sh : sm_S} {μ : sm_M} {i : Fin 4} {x : Nat} (d : decode cc pc = .ok (.aload_n i, 1)) (hl : L[(i : Nat)]? = some (some (.ref x))) (k : sm_E cl X (pc + 1) L (.ref x :: r) ad sh μ) : sm_E cl X pc L r ad sh μ := by
  obtain ⟨⟨l, D, cA, NW⟩, pr, e, R, s, m, args, below, meth, c, nL, A, H0, Q, n0, s0⟩ := X
  obtain ⟨hx, hb, hml, hn, hown, hts, hK, hlk, hrt, hR, hA, hc0, hs0, hin, hnw⟩ := hX
  exact fun ls H locs cells slots g1 g2 h1 h2 h3 h4 => lv_aload_n hx hb d rfl (h1.2.2 _ _ hl) (k ls H locs cells slots g1 g2 h1 h2 h3 h4)
theorem sm_astoreG {cl : List vw_C} {X : sm_X} {cc : ByteArray} {n : Nat} {own : String} {Ts : List Cond} {ret : Option FieldType} {rm : Room} {N S : Nat} {ini : Bool} (hX : sm_ok cl X cc n own Ts ret rm N S ini) {pc : Nat} {L : List (Option Value)} {r : List Value} {ad : Nat → Nat} {sh : sm_S} {μ : sm_M} {i : Nat} {x : Nat} (d : decode cc pc = .ok (.astore i, 2)) (ha : sm_ah L i = true) (hi : i < n) (k : sm_E cl X (pc + 2) (L.set i (some (.ref x))) r ad sh μ) : sm_E cl X pc L (.ref x :: r) ad sh μ := by
  obtain ⟨⟨l, D, cA, NW⟩, pr, e, R, s, m, args, below, meth, c, nL, A, H0, Q, n0, s0⟩ := X
  obtain ⟨hx, hb, hml, hn, hown, hts, hK, hlk, hrt, hR, hA, hc0, hs0, hin, hnw⟩ := hX
  subst hn
  exact fun ls H locs cells slots g1 g2 h1 h2 h3 h4 => lv_astore hx hb d h1.lv hi rfl (fun ls' h' => k ls' H locs cells slots g1 g2 (sm_has.st1 (v := .ref x) ha h') h2 h3 h4)
theorem sm_astoreN {cl : List vw_C} {X : sm_X} {cc : ByteArray} {n : Nat} {own : String} {Ts : List Cond} {ret : Option FieldType} {rm : Room} {N S : Nat} {ini : Bool} (hX : sm_ok cl X cc n own Ts ret rm N S ini) {pc : Nat} {L : List (Option Value)} {r : List Value} {ad : Nat → Nat} {sh : sm_S} {μ : sm_M} {i : Fin 4} {x : Nat} (d : decode cc pc = .ok (.astore_n i, 1)) (ha : sm_ah L (i : Nat) = true) (hi : (i : Nat) < n) (k : sm_E cl X (pc + 1) (L.set (i : Nat) (some (.ref x))) r ad sh μ) : sm_E cl X pc L (.ref x :: r) ad sh μ := by
  obtain ⟨⟨l, D, cA, NW⟩, pr, e, R, s, m, args, below, meth, c, nL, A, H0, Q, n0, s0⟩ := X
  obtain ⟨hx, hb, hml, hn, hown, hts, hK, hlk, hrt, hR, hA, hc0, hs0, hin, hnw⟩ := hX
  subst hn
  exact fun ls H locs cells slots g1 g2 h1 h2 h3 h4 => lv_astore_n hx hb d rfl h1.lv hi rfl (fun ls' h' => k ls' H locs cells slots g1 g2 (sm_has.st1 (v := .ref x) ha h') h2 h3 h4)
theorem sm_iincG {cl : List vw_C} {X : sm_X} {cc : ByteArray} {n : Nat} {own : String} {Ts : List Cond} {ret : Option FieldType} {rm : Room} {N S : Nat} {ini : Bool} (hX : sm_ok cl X cc n own Ts ret rm N S ini) {pc : Nat} {L : List (Option Value)} {r : List Value} {ad : Nat → Nat} {sh : sm_S} {μ : sm_M} {i : Nat} {z : Int} {x : Int32} (d : decode cc pc = .ok (.iinc i z, 3)) (hl : L[i]? = some (some (.int x))) (ha : sm_ah L i = true) (hi : i < n) (k : sm_E cl X (pc + 3) (L.set i (some (.int (x + Int32.ofInt z)))) r ad sh μ) : sm_E cl X pc L r ad sh μ := by
  obtain ⟨⟨l, D, cA, NW⟩, pr, e, R, s, m, args, below, meth, c, nL, A, H0, Q, n0, s0⟩ := X
  obtain ⟨hx, hb, hml, hn, hown, hts, hK, hlk, hrt, hR, hA, hc0, hs0, hin, hnw⟩ := hX
  subst hn
  intro ls H locs cells slots g1 g2 h1 h2 h3 h4
  obtain ⟨q, hq⟩ := List.getElem?_of_mem (sm_l_mem.mpr ⟨_, hl, rfl⟩ : (i, sm_v ad (.int x)) ∈ sm_l ad L)
  exact lv_iinc hx hb d h1.lv hq rfl hi rfl (fun ls' h' => k ls' H locs cells slots g1 g2 (sm_has.st1 (v := .int (x + Int32.ofInt z)) ha h') h2 h3 h4)
theorem sm_if_eq {cl : List vw_C} {X : sm_X} {cc : ByteArray} {n : Nat} {own : String} {Ts : List Cond} {ret : Option FieldType} {rm : Room} {N S : Nat} {ini : Bool} (hX : sm_ok cl X cc n own Ts ret rm N S ini) {pc : Nat} {L : List (Option Value)} {r : List Value} {ad : Nat → Nat} {sh : sm_S} {μ : sm_M} {x : Int32} {off : Int} (tgt : Nat) (d : decode cc pc = .ok (.ifCond .eq off, 3)) (ht : (pc : Int) + off = (tgt : Int)) (kt : x = 0 → sm_E cl X tgt L r ad sh μ) (kf : ¬ (x = 0) → sm_E cl X (pc + 3) L r ad sh μ) : sm_E cl X pc L (.int x :: r) ad sh μ := by
  obtain ⟨⟨l, D, cA, NW⟩, pr, e, R, s, m, args, below, meth, c, nL, A, H0, Q, n0, s0⟩ := X
  obtain ⟨hx, hb, hml, hn, hown, hts, hK, hlk, hrt, hR, hA, hc0, hs0, hin, hnw⟩ := hX
  exact fun ls H locs cells slots g1 g2 h1 h2 h3 h4 => lv_if_eq hx hb d ht (fun q => kt q ls H locs cells slots g1 g2 h1 h2 h3 h4) (fun q => kf q ls H locs cells slots g1 g2 h1 h2 h3 h4)
theorem sm_icmp_eq {cl : List vw_C} {X : sm_X} {cc : ByteArray} {n : Nat} {own : String} {Ts : List Cond} {ret : Option FieldType} {rm : Room} {N S : Nat} {ini : Bool} (hX : sm_ok cl X cc n own Ts ret rm N S ini) {pc : Nat} {L : List (Option Value)} {r : List Value} {ad : Nat → Nat} {sh : sm_S} {μ : sm_M} {x y : Int32} {off : Int} (tgt : Nat) (d : decode cc pc = .ok (.if_icmp .eq off, 3)) (ht : (pc : Int) + off = (tgt : Int)) (kt : x = y → sm_E cl X tgt L r ad sh μ) (kf : ¬ (x = y) → sm_E cl X (pc + 3) L r ad sh μ) : sm_E cl X pc L (.int y :: .int x :: r) ad sh μ := by
  obtain ⟨⟨l, D, cA, NW⟩, pr, e, R, s, m, args, below, meth, c, nL, A, H0, Q, n0, s0⟩ := X
  obtain ⟨hx, hb, hml, hn, hown, hts, hK, hlk, hrt, hR, hA, hc0, hs0, hin, hnw⟩ := hX
  exact fun ls H locs cells slots g1 g2 h1 h2 h3 h4 => lv_icmp_eq hx hb d ht (fun q => kt q ls H locs cells slots g1 g2 h1 h2 h3 h4) (fun q => kf q ls H locs cells slots g1 g2 h1 h2 h3 h4)
theorem sm_if_ne {cl : List vw_C} {X : sm_X} {cc : ByteArray} {n : Nat} {own : String} {Ts : List Cond} {ret : Option FieldType} {rm : Room} {N S : Nat} {ini : Bool} (hX : sm_ok cl X cc n own Ts ret rm N S ini) {pc : Nat} {L : List (Option Value)} {r : List Value} {ad : Nat → Nat} {sh : sm_S} {μ : sm_M} {x : Int32} {off : Int} (tgt : Nat) (d : decode cc pc = .ok (.ifCond .ne off, 3)) (ht : (pc : Int) + off = (tgt : Int)) (kt : ¬ x = 0 → sm_E cl X tgt L r ad sh μ) (kf : x = 0 → sm_E cl X (pc + 3) L r ad sh μ) : sm_E cl X pc L (.int x :: r) ad sh μ := by
  obtain ⟨⟨l, D, cA, NW⟩, pr, e, R, s, m, args, below, meth, c, nL, A, H0, Q, n0, s0⟩ := X
  obtain ⟨hx, hb, hml, hn, hown, hts, hK, hlk, hrt, hR, hA, hc0, hs0, hin, hnw⟩ := hX
  exact fun ls H locs cells slots g1 g2 h1 h2 h3 h4 => lv_if_ne hx hb d ht (fun q => kt q ls H locs cells slots g1 g2 h1 h2 h3 h4) (fun q => kf q ls H locs cells slots g1 g2 h1 h2 h3 h4)
theorem sm_icmp_ne {cl : List vw_C} {X : sm_X} {cc : ByteArray} {n : Nat} {own : String} {Ts : List Cond} {ret : Option FieldType} {rm : Room} {N S : Nat} {ini : Bool} (hX : sm_ok cl X cc n own Ts ret rm N S ini) {pc : Nat} {L : List (Option Value)} {r : List Value} {ad : Nat → Nat} {sh : sm_S} {μ : sm_M} {x y : Int32} {off : Int} (tgt : Nat) (d : decode cc pc = .ok (.if_icmp .ne off, 3)) (ht : (pc : Int) + off = (tgt : Int)) (kt : ¬ x = y → sm_E cl X tgt L r ad sh μ) (kf : x = y → sm_E cl X (pc + 3) L r ad sh μ) : sm_E cl X pc L (.int y :: .int x :: r) ad sh μ := by
  obtain ⟨⟨l, D, cA, NW⟩, pr, e, R, s, m, args, below, meth, c, nL, A, H0, Q, n0, s0⟩ := X
  obtain ⟨hx, hb, hml, hn, hown, hts, hK, hlk, hrt, hR, hA, hc0, hs0, hin, hnw⟩ := hX
  exact fun ls H locs cells slots g1 g2 h1 h2 h3 h4 => lv_icmp_ne hx hb d ht (fun q => kt q ls H locs cells slots g1 g2 h1 h2 h3 h4) (fun q => kf q ls H locs cells slots g1 g2 h1 h2 h3 h4)
theorem sm_if_lt {cl : List vw_C} {X : sm_X} {cc : ByteArray} {n : Nat} {own : String} {Ts : List Cond} {ret : Option FieldType} {rm : Room} {N S : Nat} {ini : Bool} (hX : sm_ok cl X cc n own Ts ret rm N S ini) {pc : Nat} {L : List (Option Value)} {r : List Value} {ad : Nat → Nat} {sh : sm_S} {μ : sm_M} {x : Int32} {off : Int} (tgt : Nat) (d : decode cc pc = .ok (.ifCond .lt off, 3)) (ht : (pc : Int) + off = (tgt : Int)) (kt : x < 0 → sm_E cl X tgt L r ad sh μ) (kf : ¬ (x < 0) → sm_E cl X (pc + 3) L r ad sh μ) : sm_E cl X pc L (.int x :: r) ad sh μ := by
  obtain ⟨⟨l, D, cA, NW⟩, pr, e, R, s, m, args, below, meth, c, nL, A, H0, Q, n0, s0⟩ := X
  obtain ⟨hx, hb, hml, hn, hown, hts, hK, hlk, hrt, hR, hA, hc0, hs0, hin, hnw⟩ := hX
  exact fun ls H locs cells slots g1 g2 h1 h2 h3 h4 => lv_if_lt hx hb d ht (fun q => kt q ls H locs cells slots g1 g2 h1 h2 h3 h4) (fun q => kf q ls H locs cells slots g1 g2 h1 h2 h3 h4)
theorem sm_icmp_lt {cl : List vw_C} {X : sm_X} {cc : ByteArray} {n : Nat} {own : String} {Ts : List Cond} {ret : Option FieldType} {rm : Room} {N S : Nat} {ini : Bool} (hX : sm_ok cl X cc n own Ts ret rm N S ini) {pc : Nat} {L : List (Option Value)} {r : List Value} {ad : Nat → Nat} {sh : sm_S} {μ : sm_M} {x y : Int32} {off : Int} (tgt : Nat) (d : decode cc pc = .ok (.if_icmp .lt off, 3)) (ht : (pc : Int) + off = (tgt : Int)) (kt : x < y → sm_E cl X tgt L r ad sh μ) (kf : ¬ (x < y) → sm_E cl X (pc + 3) L r ad sh μ) : sm_E cl X pc L (.int y :: .int x :: r) ad sh μ := by
  obtain ⟨⟨l, D, cA, NW⟩, pr, e, R, s, m, args, below, meth, c, nL, A, H0, Q, n0, s0⟩ := X
  obtain ⟨hx, hb, hml, hn, hown, hts, hK, hlk, hrt, hR, hA, hc0, hs0, hin, hnw⟩ := hX
  exact fun ls H locs cells slots g1 g2 h1 h2 h3 h4 => lv_icmp_lt hx hb d ht (fun q => kt q ls H locs cells slots g1 g2 h1 h2 h3 h4) (fun q => kf q ls H locs cells slots g1 g2 h1 h2 h3 h4)
theorem sm_if_ge {cl : List vw_C} {X : sm_X} {cc : ByteArray} {n : Nat} {own : String} {Ts : List Cond} {ret : Option FieldType} {rm : Room} {N S : Nat} {ini : Bool} (hX : sm_ok cl X cc n own Ts ret rm N S ini) {pc : Nat} {L : List (Option Value)} {r : List Value} {ad : Nat → Nat} {sh : sm_S} {μ : sm_M} {x : Int32} {off : Int} (tgt : Nat) (d : decode cc pc = .ok (.ifCond .ge off, 3)) (ht : (pc : Int) + off = (tgt : Int)) (kt : 0 ≤ x → sm_E cl X tgt L r ad sh μ) (kf : ¬ (0 ≤ x) → sm_E cl X (pc + 3) L r ad sh μ) : sm_E cl X pc L (.int x :: r) ad sh μ := by
  obtain ⟨⟨l, D, cA, NW⟩, pr, e, R, s, m, args, below, meth, c, nL, A, H0, Q, n0, s0⟩ := X
  obtain ⟨hx, hb, hml, hn, hown, hts, hK, hlk, hrt, hR, hA, hc0, hs0, hin, hnw⟩ := hX
  exact fun ls H locs cells slots g1 g2 h1 h2 h3 h4 => lv_if_ge hx hb d ht (fun q => kt q ls H locs cells slots g1 g2 h1 h2 h3 h4) (fun q => kf q ls H locs cells slots g1 g2 h1 h2 h3 h4)
theorem sm_icmp_ge {cl : List vw_C} {X : sm_X} {cc : ByteArray} {n : Nat} {own : String} {Ts : List Cond} {ret : Option FieldType} {rm : Room} {N S : Nat} {ini : Bool} (hX : sm_ok cl X cc n own Ts ret rm N S ini) {pc : Nat} {L : List (Option Value)} {r : List Value} {ad : Nat → Nat} {sh : sm_S} {μ : sm_M} {x y : Int32} {off : Int} (tgt : Nat) (d : decode cc pc = .ok (.if_icmp .ge off, 3)) (ht : (pc : Int) + off = (tgt : Int)) (kt : y ≤ x → sm_E cl X tgt L r ad sh μ) (kf : ¬ (y ≤ x) → sm_E cl X (pc + 3) L r ad sh μ) : sm_E cl X pc L (.int y :: .int x :: r) ad sh μ := by
  obtain ⟨⟨l, D, cA, NW⟩, pr, e, R, s, m, args, below, meth, c, nL, A, H0, Q, n0, s0⟩ := X
  obtain ⟨hx, hb, hml, hn, hown, hts, hK, hlk, hrt, hR, hA, hc0, hs0, hin, hnw⟩ := hX
  exact fun ls H locs cells slots g1 g2 h1 h2 h3 h4 => lv_icmp_ge hx hb d ht (fun q => kt q ls H locs cells slots g1 g2 h1 h2 h3 h4) (fun q => kf q ls H locs cells slots g1 g2 h1 h2 h3 h4)
theorem sm_if_gt {cl : List vw_C} {X : sm_X} {cc : ByteArray} {n : Nat} {own : String} {Ts : List Cond} {ret : Option FieldType} {rm : Room} {N S : Nat} {ini : Bool} (hX : sm_ok cl X cc n own Ts ret rm N S ini) {pc : Nat} {L : List (Option Value)} {r : List Value} {ad : Nat → Nat} {sh : sm_S} {μ : sm_M} {x : Int32} {off : Int} (tgt : Nat) (d : decode cc pc = .ok (.ifCond .gt off, 3)) (ht : (pc : Int) + off = (tgt : Int)) (kt : 0 < x → sm_E cl X tgt L r ad sh μ) (kf : ¬ (0 < x) → sm_E cl X (pc + 3) L r ad sh μ) : sm_E cl X pc L (.int x :: r) ad sh μ := by
  obtain ⟨⟨l, D, cA, NW⟩, pr, e, R, s, m, args, below, meth, c, nL, A, H0, Q, n0, s0⟩ := X
  obtain ⟨hx, hb, hml, hn, hown, hts, hK, hlk, hrt, hR, hA, hc0, hs0, hin, hnw⟩ := hX
  exact fun ls H locs cells slots g1 g2 h1 h2 h3 h4 => lv_if_gt hx hb d ht (fun q => kt q ls H locs cells slots g1 g2 h1 h2 h3 h4) (fun q => kf q ls H locs cells slots g1 g2 h1 h2 h3 h4)
theorem sm_icmp_gt {cl : List vw_C} {X : sm_X} {cc : ByteArray} {n : Nat} {own : String} {Ts : List Cond} {ret : Option FieldType} {rm : Room} {N S : Nat} {ini : Bool} (hX : sm_ok cl X cc n own Ts ret rm N S ini) {pc : Nat} {L : List (Option Value)} {r : List Value} {ad : Nat → Nat} {sh : sm_S} {μ : sm_M} {x y : Int32} {off : Int} (tgt : Nat) (d : decode cc pc = .ok (.if_icmp .gt off, 3)) (ht : (pc : Int) + off = (tgt : Int)) (kt : y < x → sm_E cl X tgt L r ad sh μ) (kf : ¬ (y < x) → sm_E cl X (pc + 3) L r ad sh μ) : sm_E cl X pc L (.int y :: .int x :: r) ad sh μ := by
  obtain ⟨⟨l, D, cA, NW⟩, pr, e, R, s, m, args, below, meth, c, nL, A, H0, Q, n0, s0⟩ := X
  obtain ⟨hx, hb, hml, hn, hown, hts, hK, hlk, hrt, hR, hA, hc0, hs0, hin, hnw⟩ := hX
  exact fun ls H locs cells slots g1 g2 h1 h2 h3 h4 => lv_icmp_gt hx hb d ht (fun q => kt q ls H locs cells slots g1 g2 h1 h2 h3 h4) (fun q => kf q ls H locs cells slots g1 g2 h1 h2 h3 h4)
theorem sm_if_le {cl : List vw_C} {X : sm_X} {cc : ByteArray} {n : Nat} {own : String} {Ts : List Cond} {ret : Option FieldType} {rm : Room} {N S : Nat} {ini : Bool} (hX : sm_ok cl X cc n own Ts ret rm N S ini) {pc : Nat} {L : List (Option Value)} {r : List Value} {ad : Nat → Nat} {sh : sm_S} {μ : sm_M} {x : Int32} {off : Int} (tgt : Nat) (d : decode cc pc = .ok (.ifCond .le off, 3)) (ht : (pc : Int) + off = (tgt : Int)) (kt : x ≤ 0 → sm_E cl X tgt L r ad sh μ) (kf : ¬ (x ≤ 0) → sm_E cl X (pc + 3) L r ad sh μ) : sm_E cl X pc L (.int x :: r) ad sh μ := by
  obtain ⟨⟨l, D, cA, NW⟩, pr, e, R, s, m, args, below, meth, c, nL, A, H0, Q, n0, s0⟩ := X
  obtain ⟨hx, hb, hml, hn, hown, hts, hK, hlk, hrt, hR, hA, hc0, hs0, hin, hnw⟩ := hX
  exact fun ls H locs cells slots g1 g2 h1 h2 h3 h4 => lv_if_le hx hb d ht (fun q => kt q ls H locs cells slots g1 g2 h1 h2 h3 h4) (fun q => kf q ls H locs cells slots g1 g2 h1 h2 h3 h4)
theorem sm_icmp_le {cl : List vw_C} {X : sm_X} {cc : ByteArray} {n : Nat} {own : String} {Ts : List Cond} {ret : Option FieldType} {rm : Room} {N S : Nat} {ini : Bool} (hX : sm_ok cl X cc n own Ts ret rm N S ini) {pc : Nat} {L : List (Option Value)} {r : List Value} {ad : Nat → Nat} {sh : sm_S} {μ : sm_M} {x y : Int32} {off : Int} (tgt : Nat) (d : decode cc pc = .ok (.if_icmp .le off, 3)) (ht : (pc : Int) + off = (tgt : Int)) (kt : x ≤ y → sm_E cl X tgt L r ad sh μ) (kf : ¬ (x ≤ y) → sm_E cl X (pc + 3) L r ad sh μ) : sm_E cl X pc L (.int y :: .int x :: r) ad sh μ := by
  obtain ⟨⟨l, D, cA, NW⟩, pr, e, R, s, m, args, below, meth, c, nL, A, H0, Q, n0, s0⟩ := X
  obtain ⟨hx, hb, hml, hn, hown, hts, hK, hlk, hrt, hR, hA, hc0, hs0, hin, hnw⟩ := hX
  exact fun ls H locs cells slots g1 g2 h1 h2 h3 h4 => lv_icmp_le hx hb d ht (fun q => kt q ls H locs cells slots g1 g2 h1 h2 h3 h4) (fun q => kf q ls H locs cells slots g1 g2 h1 h2 h3 h4)
theorem sm_goto {cl : List vw_C} {X : sm_X} {cc : ByteArray} {n : Nat} {own : String} {Ts : List Cond} {ret : Option FieldType} {rm : Room} {N S : Nat} {ini : Bool} (hX : sm_ok cl X cc n own Ts ret rm N S ini) {pc : Nat} {L : List (Option Value)} {r : List Value} {ad : Nat → Nat} {sh : sm_S} {μ : sm_M} {off : Int} (tgt : Nat) (d : decode cc pc = .ok (.goto off, 3)) (ht : (pc : Int) + off = (tgt : Int)) (k : sm_E cl X tgt L r ad sh μ) : sm_E cl X pc L r ad sh μ := by
  obtain ⟨⟨l, D, cA, NW⟩, pr, e, R, s, m, args, below, meth, c, nL, A, H0, Q, n0, s0⟩ := X
  obtain ⟨hx, hb, hml, hn, hown, hts, hK, hlk, hrt, hR, hA, hc0, hs0, hin, hnw⟩ := hX
  exact fun ls H locs cells slots g1 g2 h1 h2 h3 h4 => lv_goto hx hb d ht (k ls H locs cells slots g1 g2 h1 h2 h3 h4)
theorem sm_lookup {cl : List vw_C} {X : sm_X} {cc : ByteArray} {n : Nat} {own : String} {Ts : List Cond} {ret : Option FieldType} {rm : Room} {N S : Nat} {ini : Bool} (hX : sm_ok cl X cc n own Ts ret rm N S ini) {pc : Nat} {L : List (Option Value)} {r : List Value} {ad : Nat → Nat} {sh : sm_S} {μ : sm_M} {dflt : Int} {ps : Array (Int × Int)} {len : Nat} {x : Int32} (tgt : Nat) (d : decode cc pc = .ok (.lookupswitch dflt ps, len)) (hp : (ps.toList.zip (ps.toList.drop 1)).all (fun (a, next) => a.1 < next.1) = true) (ht : (pc : Int) + Op.lookupswitch.offset ps.toList dflt x.toInt = (tgt : Int)) (k : sm_E cl X tgt L r ad sh μ) : sm_E cl X pc L (.int x :: r) ad sh μ := by
  obtain ⟨⟨l, D, cA, NW⟩, pr, e, R, s, m, args, below, meth, c, nL, A, H0, Q, n0, s0⟩ := X
  obtain ⟨hx, hb, hml, hn, hown, hts, hK, hlk, hrt, hR, hA, hc0, hs0, hin, hnw⟩ := hX
  exact fun ls H locs cells slots g1 g2 h1 h2 h3 h4 => lv_lookup hx hb d hp rfl ht (k ls H locs cells slots g1 g2 h1 h2 h3 h4)
theorem sm_tableOut {cl : List vw_C} {X : sm_X} {cc : ByteArray} {n : Nat} {own : String} {Ts : List Cond} {ret : Option FieldType} {rm : Room} {N S : Nat} {ini : Bool} (hX : sm_ok cl X cc n own Ts ret rm N S ini) {pc : Nat} {L : List (Option Value)} {r : List Value} {ad : Nat → Nat} {sh : sm_S} {μ : sm_M} {dflt lo hi : Int} {offs : Array Int} {len : Nat} {x : Int32} (tgt : Nat) (d : decode cc pc = .ok (.tableswitch dflt lo hi offs, len)) (h : x.toInt < lo ∨ hi < x.toInt) (ht : (pc : Int) + dflt = (tgt : Int)) (k : sm_E cl X tgt L r ad sh μ) : sm_E cl X pc L (.int x :: r) ad sh μ := by
  obtain ⟨⟨l, D, cA, NW⟩, pr, e, R, s, m, args, below, meth, c, nL, A, H0, Q, n0, s0⟩ := X
  obtain ⟨hx, hb, hml, hn, hown, hts, hK, hlk, hrt, hR, hA, hc0, hs0, hin, hnw⟩ := hX
  exact fun ls H locs cells slots g1 g2 h1 h2 h3 h4 => lv_tableOut hx hb d h ht (k ls H locs cells slots g1 g2 h1 h2 h3 h4)
theorem sm_tableIn {cl : List vw_C} {X : sm_X} {cc : ByteArray} {n : Nat} {own : String} {Ts : List Cond} {ret : Option FieldType} {rm : Room} {N S : Nat} {ini : Bool} (hX : sm_ok cl X cc n own Ts ret rm N S ini) {pc : Nat} {L : List (Option Value)} {r : List Value} {ad : Nat → Nat} {sh : sm_S} {μ : sm_M} {dflt lo hi : Int} {offs : Array Int} {len : Nat} {x : Int32} {off : Int} (tgt : Nat) (d : decode cc pc = .ok (.tableswitch dflt lo hi offs, len)) (hl : ¬ x.toInt < lo) (hh : ¬ hi < x.toInt) (ho : offs[(x.toInt - lo).toNat]? = some off) (ht : (pc : Int) + off = (tgt : Int)) (k : sm_E cl X tgt L r ad sh μ) : sm_E cl X pc L (.int x :: r) ad sh μ := by
  obtain ⟨⟨l, D, cA, NW⟩, pr, e, R, s, m, args, below, meth, c, nL, A, H0, Q, n0, s0⟩ := X
  obtain ⟨hx, hb, hml, hn, hown, hts, hK, hlk, hrt, hR, hA, hc0, hs0, hin, hnw⟩ := hX
  exact fun ls H locs cells slots g1 g2 h1 h2 h3 h4 => lv_tableIn hx hb d hl hh ho ht (k ls H locs cells slots g1 g2 h1 h2 h3 h4)
def sm_fl (cl : List vw_C) (sh : sm_S) (Ts : List Cond) (C nm ds : String) (p k : Nat) (f : Option (Option Nat)) : Prop := ∃ (T : u_T) (N ci : Nat) (fs : List (Option (Option Nat))), sh[p]? = some (.inl (ci, fs)) ∧ cl[ci]? = some (C, T, N) ∧ k < N ∧ fs[k]? = some f ∧ (∀ w ∈ u_ws C T N, w ∈ Ts) ∧ (T k).1 = C ∧ (T k).2.1 = nm ∧ (T k).2.2.1 = ds
def sm_fp (cl : List vw_C) (Ts : List Cond) (C : String) (ci N k : Nat) (fin : Bool) (ty : FieldType) (T : u_T) : Prop := ∃ t : Nat → FieldType, cl[ci]? = some (C, T, N) ∧ k < N ∧ (∀ w ∈ u_ws C T N, w ∈ Ts) ∧ (∀ k, k < N → parseFieldDescriptor (T k).2.2.1 = some (t k)) ∧ (∀ a, a < N → ∀ b, b < N → a ≠ b → (T a).2.1 ≠ (T b).2.1) ∧ (T k).2.2.2 = fin ∧ t k = ty
def sm_fk (own : String) (Ts : List Cond) (idx : Nat) (ref nm ds : String) : Prop := Cond.fieldLink own idx ref nm ds ∈ Ts
def sm_fn (own : String) (Ts : List Cond) (idx : Nat) (ref nm ds : String) : Prop := ∃ host, Cond.fieldLinkNest own idx ref nm ds host ∈ Ts
theorem sm_get {cl : List vw_C} {X : sm_X} {cc : ByteArray} {n : Nat} {own : String} {Ts : List Cond} {ret : Option FieldType} {rm : Room} {N S : Nat} {ini : Bool} (hX : sm_ok cl X cc n own Ts ret rm N S ini) {pc : Nat} {L : List (Option Value)} {r : List Value} {ad : Nat → Nat} {sh : sm_S} {μ : sm_M} {idx p k ci N' : Nat} {C : String} {T : u_T} {fs : List (Option (Option Nat))} {f : Option (Option Nat)} (e1 : sh[p]? = some (.inl (ci, fs))) (e2 : cl[ci]? = some (C, T, N')) (e3 : k < N') (e4 : fs[k]? = some f) (e5 : ∀ w ∈ u_ws C T N', w ∈ Ts) (e6 : Cond.fieldLink own idx (T k).1 (T k).2.1 (T k).2.2.1 ∈ Ts) (d : decode cc pc = .ok (.getfield idx, 3)) (kk : ∀ v : Value, sm_v ad v = sm_f ad (μ.1 p) k f → (∀ q, f = some (some q) → v = .ref q) → (f = none → v = .int (μ.1 p k)) → sm_E cl X (pc + 3) L (v :: r) ad sh μ) : sm_E cl X pc L (.ref p :: r) ad sh μ := by
  obtain ⟨⟨l, D, cA, NW⟩, pr, e, R, s, m, args, below, meth, c, nL, A, H0, Q, n0, s0⟩ := X
  obtain ⟨hx, hb, hml, hn, hown, hts, hK, hlk, hrt, hR, hA, hc0, hs0, hin, hnw⟩ := hX
  have hv : ∃ v : Value, sm_v ad v = sm_f ad (μ.1 p) k f ∧ (∀ q, f = some (some q) → v = .ref q) ∧ (f = none → v = .int (μ.1 p k)) := by
    cases f with
    | none => exact ⟨.int (μ.1 p k), rfl, fun q h => (by cases h), fun _ => rfl⟩
    | some f =>
      cases f with
      | none => exact ⟨.null, rfl, fun q h => (by cases h), fun h => (by cases h)⟩
      | some q => exact ⟨.ref q, rfl, fun q' h => (by cases h; rfl), fun h => (by cases h)⟩
  obtain ⟨v, hv1, hv2, hv3⟩ := hv
  intro ls H locs cells slots g1 g2 h1 h2 h3 h4
  have k := kk v hv1 hv2 hv3 ls H locs cells slots g1 g2 h1 h2 h3 h4
  rw [List.map_cons, hv1] at k
  exact va_get (D := D) (v := sm_f ad (μ.1 p) _ f) hx hb hts e5 hown hK h2 p (by rw [sm_w_at, e1]; rfl) e2 _ e3 (hts _ e6) (fun _ h => h) (by rw [List.getElem?_mapIdx, e4]; rfl) d k
theorem sm_getI {cl : List vw_C} {X : sm_X} {cc : ByteArray} {n : Nat} {own : String} {Ts : List Cond} {ret : Option FieldType} {rm : Room} {N S : Nat} {ini : Bool} (hX : sm_ok cl X cc n own Ts ret rm N S ini) {pc : Nat} {L : List (Option Value)} {r : List Value} {ad : Nat → Nat} {sh : sm_S} {μ : sm_M} {idx p k ci N' : Nat} {C : String} {T : u_T} {fs : List (Option (Option Nat))} (e1 : sh[p]? = some (.inl (ci, fs))) (e2 : cl[ci]? = some (C, T, N')) (e3 : k < N') (e4 : fs[k]? = some none) (e5 : ∀ w ∈ u_ws C T N', w ∈ Ts) (e6 : Cond.fieldLink own idx (T k).1 (T k).2.1 (T k).2.2.1 ∈ Ts) (d : decode cc pc = .ok (.getfield idx, 3)) (kk : sm_E cl X (pc + 3) L (.int (μ.1 p k) :: r) ad sh μ) : sm_E cl X pc L (.ref p :: r) ad sh μ :=
  sm_get hX e1 e2 e3 e4 e5 e6 d (fun v _ _ h => by rw [h rfl]; exact kk)
theorem sm_getR {cl : List vw_C} {X : sm_X} {cc : ByteArray} {n : Nat} {own : String} {Ts : List Cond} {ret : Option FieldType} {rm : Room} {N S : Nat} {ini : Bool} (hX : sm_ok cl X cc n own Ts ret rm N S ini) {pc : Nat} {L : List (Option Value)} {r : List Value} {ad : Nat → Nat} {sh : sm_S} {μ : sm_M} {idx p k ci N' q : Nat} {C : String} {T : u_T} {fs : List (Option (Option Nat))} (e1 : sh[p]? = some (.inl (ci, fs))) (e2 : cl[ci]? = some (C, T, N')) (e3 : k < N') (e4 : fs[k]? = some (some (some q))) (e5 : ∀ w ∈ u_ws C T N', w ∈ Ts) (e6 : Cond.fieldLink own idx (T k).1 (T k).2.1 (T k).2.2.1 ∈ Ts) (d : decode cc pc = .ok (.getfield idx, 3)) (kk : sm_E cl X (pc + 3) L (.ref q :: r) ad sh μ) : sm_E cl X pc L (.ref p :: r) ad sh μ :=
  sm_get hX e1 e2 e3 e4 e5 e6 d (fun v _ h _ => by rw [h q rfl]; exact kk)
theorem sm_getN {cl : List vw_C} {X : sm_X} {cc : ByteArray} {n : Nat} {own : String} {Ts : List Cond} {ret : Option FieldType} {rm : Room} {N S : Nat} {ini : Bool} (hX : sm_ok cl X cc n own Ts ret rm N S ini) {pc : Nat} {L : List (Option Value)} {r : List Value} {ad : Nat → Nat} {sh : sm_S} {μ : sm_M} {idx p k ci N' : Nat} {C : String} {T : u_T} {fs : List (Option (Option Nat))} {f : Option (Option Nat)} {host : String} (e1 : sh[p]? = some (.inl (ci, fs))) (e2 : cl[ci]? = some (C, T, N')) (e3 : k < N') (e4 : fs[k]? = some f) (e5 : ∀ w ∈ u_ws C T N', w ∈ Ts) (e6 : Cond.fieldLinkNest own idx (T k).1 (T k).2.1 (T k).2.2.1 host ∈ X.1.2.2.2) (d : decode cc pc = .ok (.getfield idx, 3)) (kk : ∀ v : Value, sm_v ad v = sm_f ad (μ.1 p) k f → (∀ q, f = some (some q) → v = .ref q) → (f = none → v = .int (μ.1 p k)) → sm_E cl X (pc + 3) L (v :: r) ad sh μ) : sm_E cl X pc L (.ref p :: r) ad sh μ := by
  obtain ⟨⟨l, D, cA, NW⟩, pr, e, R, s, m, args, below, meth, c, nL, A, H0, Q, n0, s0⟩ := X
  obtain ⟨hx, hb, hml, hn, hown, hts, hK, hlk, hrt, hR, hA, hc0, hs0, hin, hnw⟩ := hX
  have hv : ∃ v : Value, sm_v ad v = sm_f ad (μ.1 p) k f ∧ (∀ q, f = some (some q) → v = .ref q) ∧ (f = none → v = .int (μ.1 p k)) := by
    cases f with
    | none => exact ⟨.int (μ.1 p k), rfl, fun q h => (by cases h), fun _ => rfl⟩
    | some f =>
      cases f with
      | none => exact ⟨.null, rfl, fun q h => (by cases h), fun h => (by cases h)⟩
      | some q => exact ⟨.ref q, rfl, fun q' h => (by cases h; rfl), fun h => (by cases h)⟩
  obtain ⟨v, hv1, hv2, hv3⟩ := hv
  intro ls H locs cells slots g1 g2 h1 h2 h3 h4
  have k := kk v hv1 hv2 hv3 ls H locs cells slots g1 g2 h1 h2 h3 h4
  rw [List.map_cons, hv1] at k
  exact va_getN (D := D) (v := sm_f ad (μ.1 p) _ f) hx hb hts e5 hown hK h2 p (by rw [sm_w_at, e1]; rfl) e2 _ e3 (va_Nw.use rfl (hnw _ e6).2) (fun _ h => h) (by rw [List.getElem?_mapIdx, e4]; rfl) d k
theorem sm_getIN {cl : List vw_C} {X : sm_X} {cc : ByteArray} {n : Nat} {own : String} {Ts : List Cond} {ret : Option FieldType} {rm : Room} {N S : Nat} {ini : Bool} (hX : sm_ok cl X cc n own Ts ret rm N S ini) {pc : Nat} {L : List (Option Value)} {r : List Value} {ad : Nat → Nat} {sh : sm_S} {μ : sm_M} {idx p k ci N' : Nat} {C : String} {T : u_T} {fs : List (Option (Option Nat))} {host : String} (e1 : sh[p]? = some (.inl (ci, fs))) (e2 : cl[ci]? = some (C, T, N')) (e3 : k < N') (e4 : fs[k]? = some none) (e5 : ∀ w ∈ u_ws C T N', w ∈ Ts) (e6 : Cond.fieldLinkNest own idx (T k).1 (T k).2.1 (T k).2.2.1 host ∈ X.1.2.2.2) (d : decode cc pc = .ok (.getfield idx, 3)) (kk : sm_E cl X (pc + 3) L (.int (μ.1 p k) :: r) ad sh μ) : sm_E cl X pc L (.ref p :: r) ad sh μ :=
  sm_getN hX e1 e2 e3 e4 e5 e6 d (fun v _ _ h => by rw [h rfl]; exact kk)
theorem sm_getRN {cl : List vw_C} {X : sm_X} {cc : ByteArray} {n : Nat} {own : String} {Ts : List Cond} {ret : Option FieldType} {rm : Room} {N S : Nat} {ini : Bool} (hX : sm_ok cl X cc n own Ts ret rm N S ini) {pc : Nat} {L : List (Option Value)} {r : List Value} {ad : Nat → Nat} {sh : sm_S} {μ : sm_M} {idx p k ci N' q : Nat} {C : String} {T : u_T} {fs : List (Option (Option Nat))} {host : String} (e1 : sh[p]? = some (.inl (ci, fs))) (e2 : cl[ci]? = some (C, T, N')) (e3 : k < N') (e4 : fs[k]? = some (some (some q))) (e5 : ∀ w ∈ u_ws C T N', w ∈ Ts) (e6 : Cond.fieldLinkNest own idx (T k).1 (T k).2.1 (T k).2.2.1 host ∈ X.1.2.2.2) (d : decode cc pc = .ok (.getfield idx, 3)) (kk : sm_E cl X (pc + 3) L (.ref q :: r) ad sh μ) : sm_E cl X pc L (.ref p :: r) ad sh μ :=
  sm_getN hX e1 e2 e3 e4 e5 e6 d (fun v _ h _ => by rw [h q rfl]; exact kk)
theorem sm_put {cl : List vw_C} {X : sm_X} {cc : ByteArray} {n : Nat} {own : String} {Ts : List Cond} {ret : Option FieldType} {rm : Room} {N S : Nat} {ini : Bool} (hX : sm_ok cl X cc n own Ts ret rm N S ini) {pc : Nat} {L : List (Option Value)} {r : List Value} {ad : Nat → Nat} {sh : sm_S} {μ : sm_M} {idx p k ci N' : Nat} {C : String} {T : u_T} {fs : List (Option (Option Nat))} {ty : FieldType} {v : Int32} (e1 : sh[p]? = some (.inl (ci, fs))) (e4 : fs[k]? = some none) (hf : sm_fp cl Ts C ci N' k false ty T) (e6 : Cond.fieldLink own idx (T k).1 (T k).2.1 (T k).2.2.1 ∈ Ts) (hn0 : narrow ty (.int v) = .int v) (hfit : fits ty (.int v) = true) (d : decode cc pc = .ok (.putfield idx, 3)) (kk : sm_E cl X (pc + 3) L r ad sh (sm_ui μ p k v)) : sm_E cl X pc L (.int v :: .ref p :: r) ad sh μ := by
  obtain ⟨⟨l, D, cA, NW⟩, pr, e, R, s, m, args, below, meth, c, nL, A, H0, Q, n0, s0⟩ := X
  obtain ⟨hx, hb, hml, hn, hown, hts, hK, hlk, hrt, hR, hA, hc0, hs0, hin, hnw⟩ := hX
  obtain ⟨t, e2, e3, e5, e7, e8, e9, e10⟩ := hf
  intro ls H locs cells slots g1 g2 h1 h2 h3 h4
  refine va_put (D := D) (v := .int v) (ty := ty) hx hb hts e5 t e7 e8 hown hK h2 h3 h4 p (by rw [sm_w_at, e1]; rfl) e2 k e3 (hts _ e6) (fun _ h => h) e9 (by rw [e7 k e3, e10]) hn0 hfit (by rw [List.length_mapIdx]; exact (List.getElem?_eq_some_iff.mp e4).1) d (fun H1 locs1 q1 q2 q3 => ?_)
  rw [sm_w_ui e1 e4] at q1 q2
  exact kk ls H1 locs1 cells slots g1 g2 h1 q1 q2 q3
theorem sm_putN {cl : List vw_C} {X : sm_X} {cc : ByteArray} {n : Nat} {own : String} {Ts : List Cond} {ret : Option FieldType} {rm : Room} {N S : Nat} {ini : Bool} (hX : sm_ok cl X cc n own Ts ret rm N S ini) {pc : Nat} {L : List (Option Value)} {r : List Value} {ad : Nat → Nat} {sh : sm_S} {μ : sm_M} {idx p k ci N' : Nat} {C : String} {T : u_T} {fs : List (Option (Option Nat))} {ty : FieldType} {v : Int32} {host : String} (e1 : sh[p]? = some (.inl (ci, fs))) (e4 : fs[k]? = some none) (hf : sm_fp cl Ts C ci N' k false ty T) (e6 : Cond.fieldLinkNest own idx (T k).1 (T k).2.1 (T k).2.2.1 host ∈ X.1.2.2.2) (hn0 : narrow ty (.int v) = .int v) (hfit : fits ty (.int v) = true) (d : decode cc pc = .ok (.putfield idx, 3)) (kk : sm_E cl X (pc + 3) L r ad sh (sm_ui μ p k v)) : sm_E cl X pc L (.int v :: .ref p :: r) ad sh μ := by
  obtain ⟨⟨l, D, cA, NW⟩, pr, e, R, s, m, args, below, meth, c, nL, A, H0, Q, n0, s0⟩ := X
  obtain ⟨hx, hb, hml, hn, hown, hts, hK, hlk, hrt, hR, hA, hc0, hs0, hin, hnw⟩ := hX
  obtain ⟨t, e2, e3, e5, e7, e8, e9, e10⟩ := hf
  intro ls H locs cells slots g1 g2 h1 h2 h3 h4
  refine va_putN (D := D) (v := .int v) (ty := ty) hx hb hts e5 t e7 e8 hown hK h2 h3 h4 p (by rw [sm_w_at, e1]; rfl) e2 k e3 (va_Nw.use rfl (hnw _ e6).2) (fun _ h => h) e9 (by rw [e7 k e3, e10]) hn0 hfit (by rw [List.length_mapIdx]; exact (List.getElem?_eq_some_iff.mp e4).1) d (fun H1 locs1 q1 q2 q3 => ?_)
  rw [sm_w_ui e1 e4] at q1 q2
  exact kk ls H1 locs1 cells slots g1 g2 h1 q1 q2 q3
theorem sm_sl_set {sh : sm_S} {p ci : Nat} {fs fs' : List (Option (Option Nat))} (h : sh[p]? = some (.inl (ci, fs))) (hl : fs'.length = fs.length) : sm_sl (sh.set p (.inl (ci, fs'))) = sm_sl sh := by
  unfold sm_sl
  congr 1
  apply List.ext_getElem?
  intro i
  rw [List.getElem?_map, List.getElem?_map]
  by_cases hi : i = p
  · subst hi
    rw [List.getElem?_set_self (List.getElem?_eq_some_iff.mp h).1, h]
    simp [sm_sz, hl]
  · rw [List.getElem?_set_ne (Ne.symm hi)]
theorem sm_putF {cl : List vw_C} {X : sm_X} {cc : ByteArray} {n : Nat} {own : String} {Ts : List Cond} {ret : Option FieldType} {rm : Room} {N S : Nat} {ini : Bool} (hX : sm_ok cl X cc n own Ts ret rm N S ini) {pc : Nat} {L : List (Option Value)} {r : List Value} {ad : Nat → Nat} {sh : sm_S} {μ : sm_M} {idx p k ci N' q : Nat} {C : String} {T : u_T} {fs : List (Option (Option Nat))} {ty : FieldType} (e1 : sh[p]? = some (.inl (ci, fs))) (e4 : k < fs.length) (hf : sm_fp cl Ts C ci N' k true ty T) (e6 : Cond.fieldLink own idx (T k).1 (T k).2.1 (T k).2.2.1 ∈ Ts) (hii : ini = true) (hdec : (T k).1 = own) (hn0 : narrow ty (.ref (ad q)) = .ref (ad q)) (hfit : fits ty (.ref (ad q)) = true) (d : decode cc pc = .ok (.putfield idx, 3)) (kk : sm_E cl X (pc + 3) L r ad (sh.set p (.inl (ci, fs.set k (some (some q))))) μ) : sm_E cl X pc L (.ref q :: .ref p :: r) ad sh μ := by
  obtain ⟨⟨l, D, cA, NW⟩, pr, e, R, s, m, args, below, meth, c, nL, A, H0, Q, n0, s0⟩ := X
  obtain ⟨hx, hb, hml, hn, hown, hts, hK, hlk, hrt, hR, hA, hc0, hs0, hin, hnw⟩ := hX
  obtain ⟨t, e2, e3, e5, e7, e8, e9, e10⟩ := hf
  intro ls H locs cells slots g1 g2 h1 h2 h3 h4
  refine va_putF (D := D) (v := .ref (ad q)) (ty := ty) hx hb hts e5 t e7 e8 hown hK h2 h3 h4 p (by rw [sm_w_at, e1]; rfl) e2 k e3 (hts _ e6) (fun _ h => h) e9 (hin hii) hdec (by rw [e7 k e3, e10]) hn0 hfit (by rw [List.length_mapIdx]; exact e4) d (fun H1 locs1 q1 q2 q3 => ?_)
  rw [sm_w_ur e1 e4] at q1 q2
  exact kk ls H1 locs1 cells slots (by rw [List.length_set]; exact g1) (by rw [sm_sl_set e1 (by rw [List.length_set])]; exact g2) h1 q1 q2 q3
theorem sm_iald {cl : List vw_C} {X : sm_X} {cc : ByteArray} {n : Nat} {own : String} {Ts : List Cond} {ret : Option FieldType} {rm : Room} {N S : Nat} {ini : Bool} (hX : sm_ok cl X cc n own Ts ret rm N S ini) {pc : Nat} {L : List (Option Value)} {r : List Value} {ad : Nat → Nat} {sh : sm_S} {μ : sm_M} {p len : Nat} {i : Int32} (hs : sh[p]? = some (.inr (0, len))) (hi : vp_in i len) (d : decode cc pc = .ok (.iaload, 1)) (kk : sm_E cl X (pc + 1) L (.int (μ.1 p i.toNatClampNeg) :: r) ad sh μ) : sm_E cl X pc L (.int i :: .ref p :: r) ad sh μ := by
  obtain ⟨⟨l, D, cA, NW⟩, pr, e, R, s, m, args, below, meth, c, nL, A, H0, Q, n0, s0⟩ := X
  obtain ⟨hx, hb, hml, hn, hown, hts, hK, hlk, hrt, hR, hA, hc0, hs0, hin, hnw⟩ := hX
  exact fun ls H locs cells slots g1 g2 h1 h2 h3 h4 => va_iald (D := D) (f := μ.1 p) hx hb hK h2 p 0 (by rw [sm_w_at, hs]; rfl) rfl hi d (kk ls H locs cells slots g1 g2 h1 h2 h3 h4)
theorem sm_zald {cl : List vw_C} {X : sm_X} {cc : ByteArray} {n : Nat} {own : String} {Ts : List Cond} {ret : Option FieldType} {rm : Room} {N S : Nat} {ini : Bool} (hX : sm_ok cl X cc n own Ts ret rm N S ini) {pc : Nat} {L : List (Option Value)} {r : List Value} {ad : Nat → Nat} {sh : sm_S} {μ : sm_M} {p len : Nat} {i : Int32} (hs : sh[p]? = some (.inr (1, len))) (hi : vp_in i len) (d : decode cc pc = .ok (.baload, 1)) (kk : sm_E cl X (pc + 1) L (.int (μ.1 p i.toNatClampNeg) :: r) ad sh μ) : sm_E cl X pc L (.int i :: .ref p :: r) ad sh μ := by
  obtain ⟨⟨l, D, cA, NW⟩, pr, e, R, s, m, args, below, meth, c, nL, A, H0, Q, n0, s0⟩ := X
  obtain ⟨hx, hb, hml, hn, hown, hts, hK, hlk, hrt, hR, hA, hc0, hs0, hin, hnw⟩ := hX
  exact fun ls H locs cells slots g1 g2 h1 h2 h3 h4 => va_zald (D := D) (f := μ.1 p) hx hb hK h2 p 1 (by rw [sm_w_at, hs]; rfl) rfl hi d (kk ls H locs cells slots g1 g2 h1 h2 h3 h4)
theorem sm_lald {cl : List vw_C} {X : sm_X} {cc : ByteArray} {n : Nat} {own : String} {Ts : List Cond} {ret : Option FieldType} {rm : Room} {N S : Nat} {ini : Bool} (hX : sm_ok cl X cc n own Ts ret rm N S ini) {pc : Nat} {L : List (Option Value)} {r : List Value} {ad : Nat → Nat} {sh : sm_S} {μ : sm_M} {p len : Nat} {i : Int32} (hs : sh[p]? = some (.inr (2, len))) (hi : vp_in i len) (d : decode cc pc = .ok (.laload, 1)) (kk : sm_E cl X (pc + 1) L (.long (μ.2 p i.toNatClampNeg) :: r) ad sh μ) : sm_E cl X pc L (.int i :: .ref p :: r) ad sh μ := by
  obtain ⟨⟨l, D, cA, NW⟩, pr, e, R, s, m, args, below, meth, c, nL, A, H0, Q, n0, s0⟩ := X
  obtain ⟨hx, hb, hml, hn, hown, hts, hK, hlk, hrt, hR, hA, hc0, hs0, hin, hnw⟩ := hX
  exact fun ls H locs cells slots g1 g2 h1 h2 h3 h4 => va_lald (D := D) (f := μ.2 p) hx hb hK h2 p 2 (by rw [sm_w_at, hs]; rfl) rfl hi d (kk ls H locs cells slots g1 g2 h1 h2 h3 h4)
theorem sm_iast {cl : List vw_C} {X : sm_X} {cc : ByteArray} {n : Nat} {own : String} {Ts : List Cond} {ret : Option FieldType} {rm : Room} {N S : Nat} {ini : Bool} (hX : sm_ok cl X cc n own Ts ret rm N S ini) {pc : Nat} {L : List (Option Value)} {r : List Value} {ad : Nat → Nat} {sh : sm_S} {μ : sm_M} {p len : Nat} {i x : Int32} (hs : sh[p]? = some (.inr (0, len))) (hi : vp_in i len) (d : decode cc pc = .ok (.iastore, 1)) (kk : sm_E cl X (pc + 1) L r ad sh (sm_ui μ p i.toNatClampNeg x)) : sm_E cl X pc L (.int x :: .int i :: .ref p :: r) ad sh μ := by
  obtain ⟨⟨l, D, cA, NW⟩, pr, e, R, s, m, args, below, meth, c, nL, A, H0, Q, n0, s0⟩ := X
  obtain ⟨hx, hb, hml, hn, hown, hts, hK, hlk, hrt, hR, hA, hc0, hs0, hin, hnw⟩ := hX
  intro ls H locs cells slots g1 g2 h1 h2 h3 h4
  refine va_iast (D := D) (f := μ.1 p) hx hb hK h2 h3 h4 p 0 (by rw [sm_w_at, hs]; rfl) rfl hi d (fun H1 locs1 q1 q2 q3 => ?_)
  rw [sm_w_ai hs (by decide)] at q1 q2
  exact kk ls H1 locs1 cells slots g1 g2 h1 q1 q2 q3
theorem sm_zast {cl : List vw_C} {X : sm_X} {cc : ByteArray} {n : Nat} {own : String} {Ts : List Cond} {ret : Option FieldType} {rm : Room} {N S : Nat} {ini : Bool} (hX : sm_ok cl X cc n own Ts ret rm N S ini) {pc : Nat} {L : List (Option Value)} {r : List Value} {ad : Nat → Nat} {sh : sm_S} {μ : sm_M} {p len : Nat} {i x : Int32} (hs : sh[p]? = some (.inr (1, len))) (hi : vp_in i len) (d : decode cc pc = .ok (.bastore, 1)) (kk : sm_E cl X (pc + 1) L r ad sh (sm_ui μ p i.toNatClampNeg (vp_nar .boolean x))) : sm_E cl X pc L (.int x :: .int i :: .ref p :: r) ad sh μ := by
  obtain ⟨⟨l, D, cA, NW⟩, pr, e, R, s, m, args, below, meth, c, nL, A, H0, Q, n0, s0⟩ := X
  obtain ⟨hx, hb, hml, hn, hown, hts, hK, hlk, hrt, hR, hA, hc0, hs0, hin, hnw⟩ := hX
  intro ls H locs cells slots g1 g2 h1 h2 h3 h4
  refine va_zast (D := D) (f := μ.1 p) hx hb hK h2 h3 h4 p 1 (by rw [sm_w_at, hs]; rfl) rfl hi d (fun H1 locs1 q1 q2 q3 => ?_)
  rw [sm_w_ai hs (by decide)] at q1 q2
  exact kk ls H1 locs1 cells slots g1 g2 h1 q1 q2 q3
theorem sm_last {cl : List vw_C} {X : sm_X} {cc : ByteArray} {n : Nat} {own : String} {Ts : List Cond} {ret : Option FieldType} {rm : Room} {N S : Nat} {ini : Bool} (hX : sm_ok cl X cc n own Ts ret rm N S ini) {pc : Nat} {L : List (Option Value)} {r : List Value} {ad : Nat → Nat} {sh : sm_S} {μ : sm_M} {p len : Nat} {i : Int32} {x : Int64} (hs : sh[p]? = some (.inr (2, len))) (hi : vp_in i len) (d : decode cc pc = .ok (.lastore, 1)) (kk : sm_E cl X (pc + 1) L r ad sh (sm_ul μ p i.toNatClampNeg x)) : sm_E cl X pc L (.long x :: .int i :: .ref p :: r) ad sh μ := by
  obtain ⟨⟨l, D, cA, NW⟩, pr, e, R, s, m, args, below, meth, c, nL, A, H0, Q, n0, s0⟩ := X
  obtain ⟨hx, hb, hml, hn, hown, hts, hK, hlk, hrt, hR, hA, hc0, hs0, hin, hnw⟩ := hX
  intro ls H locs cells slots g1 g2 h1 h2 h3 h4
  refine va_last (D := D) (f := μ.2 p) hx hb hK h2 h3 h4 p 2 (by rw [sm_w_at, hs]; rfl) rfl hi d (fun H1 locs1 q1 q2 q3 => ?_)
  rw [sm_w_al hs] at q1 q2
  exact kk ls H1 locs1 cells slots g1 g2 h1 q1 q2 q3
theorem sm_alen {cl : List vw_C} {X : sm_X} {cc : ByteArray} {n : Nat} {own : String} {Ts : List Cond} {ret : Option FieldType} {rm : Room} {N S : Nat} {ini : Bool} (hX : sm_ok cl X cc n own Ts ret rm N S ini) {pc : Nat} {L : List (Option Value)} {r : List Value} {ad : Nat → Nat} {sh : sm_S} {μ : sm_M} {p kd len : Nat} (hs : sh[p]? = some (.inr (kd, len))) (hkd : kd < 3) (d : decode cc pc = .ok (.arraylength, 1)) (kk : sm_E cl X (pc + 1) L (.int (Int32.ofNat len) :: r) ad sh μ) : sm_E cl X pc L (.ref p :: r) ad sh μ := by
  obtain ⟨⟨l, D, cA, NW⟩, pr, e, R, s, m, args, below, meth, c, nL, A, H0, Q, n0, s0⟩ := X
  obtain ⟨hx, hb, hml, hn, hown, hts, hK, hlk, hrt, hR, hA, hc0, hs0, hin, hnw⟩ := hX
  have ht : ∃ ty, (sm_ty cA)[kd]? = some (cA kd, ty) := by
    rcases (show kd = 0 ∨ kd = 1 ∨ kd = 2 by omega) with rfl | rfl | rfl <;> exact ⟨_, rfl⟩
  obtain ⟨ty, ht⟩ := ht
  exact fun ls H locs cells slots g1 g2 h1 h2 h3 h4 => va_alen (D := D) (x := (len, if kd = 2 then .inr (.inl (μ.2 p)) else .inl (μ.1 p))) hx hb hK h2 p kd (by rw [sm_w_at, hs]; rfl) ht rfl d (kk ls H locs cells slots g1 g2 h1 h2 h3 h4)
theorem sm_iret {cl : List vw_C} {X : sm_X} {cc : ByteArray} {n : Nat} {own : String} {Ts : List Cond} {ret : Option FieldType} {rm : Room} {N S : Nat} {ini : Bool} (hX : sm_ok cl X cc n own Ts ret rm N S ini) {pc : Nat} {L : List (Option Value)} {ad : Nat → Nat} {sh : sm_S} {μ : sm_M} {ad0 : Nat → Nat} {sh0 : sm_S} {mc ms : Nat} {Q0 : Option Value → sm_S → sm_M → Prop} {v : Int32} (hf : sm_fin cl X ad0 sh0 mc ms Q0) (hN : sh.length = sh0.length + mc) (hS : sm_sl sh = sm_sl sh0 + ms) (hag : sm_ag sh0.length sh.length ad ad0) (hi : ret = some .int) (d : decode cc pc = .ok (.ireturn, 1)) (hq : Q0 (some (.int v)) sh μ) : sm_E cl X pc L [.int v] ad sh μ := by
  obtain ⟨⟨l, D, cA, NW⟩, pr, e, R, s, m, args, below, meth, c, nL, A, H0, Q, n0, s0⟩ := X
  obtain ⟨hx, hb, hml, hn, hown, hts, hK, hlk, hrt, hR, hA, hc0, hs0, hin, hnw⟩ := hX
  obtain ⟨rfl, rfl, rfl, rfl⟩ := hf
  subst hi
  intro ls H locs cells slots g1 g2 h1 h2 h3 h4
  have e1 : cells = mc := by omega
  have e2 : slots = ms := by omega
  subst e1 e2
  exact W.iret hx hb hrt (fun t ht hW => ⟨⟨(some (.int v)), ad, sh, μ, rfl, hN, hS, hag, hq, by rw [ht]; exact h2, va_K.moved hW.alike hK, h3⟩, h4.F ht⟩) h4.2.2 d hlk
theorem sm_zret {cl : List vw_C} {X : sm_X} {cc : ByteArray} {n : Nat} {own : String} {Ts : List Cond} {ret : Option FieldType} {rm : Room} {N S : Nat} {ini : Bool} (hX : sm_ok cl X cc n own Ts ret rm N S ini) {pc : Nat} {L : List (Option Value)} {ad : Nat → Nat} {sh : sm_S} {μ : sm_M} {ad0 : Nat → Nat} {sh0 : sm_S} {mc ms : Nat} {Q0 : Option Value → sm_S → sm_M → Prop} {v : Int32} (hf : sm_fin cl X ad0 sh0 mc ms Q0) (hN : sh.length = sh0.length + mc) (hS : sm_sl sh = sm_sl sh0 + ms) (hag : sm_ag sh0.length sh.length ad ad0) (hi : ret = some .boolean) (hv : v &&& 1 = v) (d : decode cc pc = .ok (.ireturn, 1)) (hq : Q0 (some (.int v)) sh μ) : sm_E cl X pc L [.int v] ad sh μ := by
  obtain ⟨⟨l, D, cA, NW⟩, pr, e, R, s, m, args, below, meth, c, nL, A, H0, Q, n0, s0⟩ := X
  obtain ⟨hx, hb, hml, hn, hown, hts, hK, hlk, hrt, hR, hA, hc0, hs0, hin, hnw⟩ := hX
  obtain ⟨rfl, rfl, rfl, rfl⟩ := hf
  subst hi
  intro ls H locs cells slots g1 g2 h1 h2 h3 h4
  have e1 : cells = mc := by omega
  have e2 : slots = ms := by omega
  subst e1 e2
  exact W.zret hx hb hrt (by simp [narrow, hv]) (fun t ht hW => ⟨⟨(some (.int v)), ad, sh, μ, rfl, hN, hS, hag, hq, by rw [ht]; exact h2, va_K.moved hW.alike hK, h3⟩, h4.F ht⟩) h4.2.2 d hlk
theorem sm_lret {cl : List vw_C} {X : sm_X} {cc : ByteArray} {n : Nat} {own : String} {Ts : List Cond} {ret : Option FieldType} {rm : Room} {N S : Nat} {ini : Bool} (hX : sm_ok cl X cc n own Ts ret rm N S ini) {pc : Nat} {L : List (Option Value)} {ad : Nat → Nat} {sh : sm_S} {μ : sm_M} {ad0 : Nat → Nat} {sh0 : sm_S} {mc ms : Nat} {Q0 : Option Value → sm_S → sm_M → Prop} {v : Int64} (hf : sm_fin cl X ad0 sh0 mc ms Q0) (hN : sh.length = sh0.length + mc) (hS : sm_sl sh = sm_sl sh0 + ms) (hag : sm_ag sh0.length sh.length ad ad0) (hi : ret = some .long) (d : decode cc pc = .ok (.lreturn, 1)) (hq : Q0 (some (.long v)) sh μ) : sm_E cl X pc L [.long v] ad sh μ := by
  obtain ⟨⟨l, D, cA, NW⟩, pr, e, R, s, m, args, below, meth, c, nL, A, H0, Q, n0, s0⟩ := X
  obtain ⟨hx, hb, hml, hn, hown, hts, hK, hlk, hrt, hR, hA, hc0, hs0, hin, hnw⟩ := hX
  obtain ⟨rfl, rfl, rfl, rfl⟩ := hf
  subst hi
  intro ls H locs cells slots g1 g2 h1 h2 h3 h4
  have e1 : cells = mc := by omega
  have e2 : slots = ms := by omega
  subst e1 e2
  exact W.lret hx hb hrt (fun t ht hW => ⟨⟨(some (.long v)), ad, sh, μ, rfl, hN, hS, hag, hq, by rw [ht]; exact h2, va_K.moved hW.alike hK, h3⟩, h4.F ht⟩) h4.2.2 d hlk
theorem sm_vret {cl : List vw_C} {X : sm_X} {cc : ByteArray} {n : Nat} {own : String} {Ts : List Cond} {ret : Option FieldType} {rm : Room} {N S : Nat} {ini : Bool} (hX : sm_ok cl X cc n own Ts ret rm N S ini) {pc : Nat} {L : List (Option Value)} {ad : Nat → Nat} {sh : sm_S} {μ : sm_M} {ad0 : Nat → Nat} {sh0 : sm_S} {mc ms : Nat} {Q0 : Option Value → sm_S → sm_M → Prop} (hf : sm_fin cl X ad0 sh0 mc ms Q0) (hN : sh.length = sh0.length + mc) (hS : sm_sl sh = sm_sl sh0 + ms) (hag : sm_ag sh0.length sh.length ad ad0) (hi : ret = none) (d : decode cc pc = .ok (.return_, 1)) (hq : Q0 none sh μ) : sm_E cl X pc L [] ad sh μ := by
  obtain ⟨⟨l, D, cA, NW⟩, pr, e, R, s, m, args, below, meth, c, nL, A, H0, Q, n0, s0⟩ := X
  obtain ⟨hx, hb, hml, hn, hown, hts, hK, hlk, hrt, hR, hA, hc0, hs0, hin, hnw⟩ := hX
  obtain ⟨rfl, rfl, rfl, rfl⟩ := hf
  subst hi
  intro ls H locs cells slots g1 g2 h1 h2 h3 h4
  have e1 : cells = mc := by omega
  have e2 : slots = ms := by omega
  subst e1 e2
  exact W.vret hx hb hrt (fun t ht hW => ⟨⟨none, ad, sh, μ, rfl, hN, hS, hag, hq, by rw [ht]; exact h2, va_K.moved hW.alike hK, h3⟩, h4.F ht⟩) h4.2.2 d hlk
/-! calls: what a call instruction needs of the tables, so that a contract of the called method takes the walk over it -/
theorem sm_ag_eq {a : Nat} {ad' ad : Nat → Nat} (h : sm_ag a a ad' ad) : ad' = ad := funext fun p => h p (Nat.lt_or_ge p a)
theorem sm_stab {L : List (Option Value)} {r : List Value} {a b c : Nat} {ad' ad : Nat → Nat} (hl : b = a + c) (hag : sm_ag a b ad' ad) (h : c = 0 ∨ (L.all (sm_no a b) = true ∧ r.all (sm_nv a b) = true)) : (∀ (ls : Array Slot) (nL : Nat), sm_has ls nL ad L → sm_has ls nL ad' L) ∧ r.map (sm_v ad') = r.map (sm_v ad) := by
  rcases h with h | ⟨h1, h2⟩
  · have hb : b = a := by omega
    subst hb
    rw [sm_ag_eq hag]
    exact ⟨fun _ _ h => h, rfl⟩
  · exact ⟨fun _ _ h => h.ag hag h1, sm_st_ag hag h2⟩
def sm_rcv (sh : sm_S) (rc : Option Nat) (As : List Value) : Prop := match rc with
  | none => True
  | some ci => ∃ (p : Nat) (t : List Value) (fs : List (Option (Option Nat))), As = .ref p :: t ∧ sh[p]? = some (.inl (ci, fs))
def sm_Cal (cl : List vw_C) (NW : List Cond) (cc : ByteArray) (own : String) (Ts : List Cond) (ins : Instr) (y : MethodName) (ws : List Cond) (na : Nat) (rc : Option Nat) : Prop := ∀ (X : sm_X) (n : Nat) (ret : Option FieldType) (rm : Room) (N S : Nat) (ini : Bool), X.1.2.2.2 = NW → sm_ok cl X cc n own Ts ret rm N S ini → ∀ (pc : Nat) (L : List (Option Value)) (r : List Value) (ad : Nat → Nat) (sh : sm_S) (μ : sm_M) (As : List Value) (Q' : Option Value → sm_S → sm_M → Prop) (rm' : Room), As.length = na → sm_rcv sh rc As → sm_C cl X.1 y ws rm' As ad sh μ Q' → rm'.frames + 1 ≤ rm.frames → 32 + rm'.locals ≤ rm.locals → sh.length + rm'.cells ≤ N → sm_sl sh + rm'.slots ≤ S → (r.map fun v => v.category).sum ≤ 8 → decode cc pc = .ok (ins, 3) →
  (∀ (v : Option Value) (ad' : Nat → Nat) (sh' : sm_S) (μ' : sm_M), sh'.length = sh.length + rm'.cells → sm_sl sh' = sm_sl sh + rm'.slots → sm_ag sh.length sh'.length ad' ad → Q' v sh' μ' → (rm'.cells = 0 ∨ (L.all (sm_no sh.length sh'.length) = true ∧ r.all (sm_nv sh.length sh'.length) = true)) ∧ sm_E cl X (pc + 3) L (v.toList ++ r) ad' sh' μ') → sm_E cl X pc L (As.reverse ++ r) ad sh μ
theorem sm_recv {cl : List vw_C} {D : va_G} {cA : Nat → ClassId} {ad : Nat → Nat} {sh : sm_S} {μ : sm_M} {H : Heap} {s : State} {tys : List (ClassId × FieldType)} {p ci N : Nat} {C : String} {T : u_T} {fs : List (Option (Option Nat))} (hK : va_K D cl tys s) (hP : va_P D cl (sm_w ad cA sh μ) H) (hs : sh[p]? = some (.inl (ci, fs))) (hc : cl[ci]? = some (C, T, N)) : ∃ cellB : Cell, H[ad p]? = some cellB ∧ cellB.vm.isStatics = false ∧ s.vm.findClass C = some cellB.cls := by
  obtain ⟨r, h1, cell, q1, q2, q3, -⟩ := hP p (ad p, .inr (ci, fs.mapIdx (sm_f ad (μ.1 p)))) (by rw [sm_w_at, hs]; rfl)
  refine ⟨cell, q1, by rw [q3]; rfl, ?_⟩
  rw [q2]
  exact (hK.1 ci _ hc).2.1
theorem sm_cal_S {cl : List vw_C} {NW : List Cond} {cc : ByteArray} {own : String} {Ts : List Cond} {y : MethodName} {bytes : ByteArray} {maxL idx n' : Nat} {ret' : Option FieldType} {W' : List Cond} (hG : GoodIn Ts (va_wsS own idx y (Cond.code y bytes maxL ret' :: W'))) (hd : y.cls ≠ "java/lang/invoke/MethodHandle" ∧ y.cls ≠ "java/lang/invoke/VarHandle" ∧ (parseMethodDescriptor y.desc).map (fun d => d.parameters.length) = some n') (hm : maxL ≤ 13) : sm_Cal cl NW cc own Ts (.invokestatic idx) y (Cond.code y bytes maxL ret' :: W') n' none := by
  intro X n ret rm N S ini hNW hX pc L r ad sh μ As Q' rm' hna hrc hC hfr hlo hN hS hw d kk
  obtain ⟨⟨l, D, cA, NW'⟩, pr, e, R, s, m, args, below, meth, c, nL, A, H0, Q, n0, s0⟩ := X
  obtain ⟨hx, hb, hml, hn, hown, hts, hK, hlk, hrt, hR, hA, hc0, hs0, hin, hnw⟩ := hX
  subst hNW hR
  intro ls H locs cells slots g1 g2 h1 h2 h3 h4
  refine sm_call_core (Q' := Q') (sz := H.size) (va_runS (As := As.map (sm_v ad)) (rest := r.map (sm_v ad)) ⟨hx, hb, hml, hown, hts⟩ (hC H.size) (va_cwS _ hts hG rfl rfl rfl hd ⟨hfr, by omega⟩) (⟨fun a U g mk q => by obtain ⟨q0, q1, qP, qK, qD, qN⟩ := q; exact ⟨q0, q1, qP, va_K.moved (u := U) (U := U.calling g mk a) (Vm.Alike.refl U.vm) qK, qD, qN.same rfl⟩, fun U hU hW => ⟨rfl, by rw [hU], by rw [hU]; exact h2, va_K.moved hW.alike hK, h3.weaken (fun _ _ _ _ => trivial), hnw.warm hW⟩⟩) rfl (by simpa using hna) h1.1 (by simp [F0, List.map_append, List.map_reverse]) (lv_room (by simpa [sm_v_cat, Function.comp_def] using hw)) d ⟨by omega, by omega⟩) h4 (sm_A_in h3 h4 hA) (fun v ad' sh' μ' H1 locs1 e1 e2 hag q p1 p2 p3 => ?_)
  obtain ⟨hst, kE⟩ := kk v ad' sh' μ' e1 e2 hag q
  obtain ⟨hh, hr⟩ := sm_stab e1 hag hst
  have k2 := kE ls H1 locs1 (cells + rm'.cells) (slots + rm'.slots) (by omega) (by omega) (hh _ _ h1) p1 p2 p3
  rw [List.map_append, hr] at k2
  have e9 : (v.map (sm_v ad')).toList = v.toList.map (sm_v ad') := by cases v <;> rfl
  rw [e9]
  exact k2
theorem sm_cal_SN {cl : List vw_C} {NW : List Cond} {cc : ByteArray} {own : String} {Ts : List Cond} {y : MethodName} {bytes : ByteArray} {maxL idx n' : Nat} {ret' : Option FieldType} {W' : List Cond} {host : String} (hG : GoodIn Ts (Cond.code y bytes maxL ret' :: W')) (hst : Cond.static y ∈ Ts) (hi : Cond.initialized y.cls ∈ Ts) (hl : Cond.methodLinkNest own idx y host ∈ NW) (hd : y.cls ≠ "java/lang/invoke/MethodHandle" ∧ y.cls ≠ "java/lang/invoke/VarHandle" ∧ (parseMethodDescriptor y.desc).map (fun d => d.parameters.length) = some n') (hm : maxL ≤ 13) : sm_Cal cl NW cc own Ts (.invokestatic idx) y (Cond.code y bytes maxL ret' :: W') n' none := by
  intro X n ret rm N S ini hNW hX pc L r ad sh μ As Q' rm' hna hrc hC hfr hlo hN hS hw d kk
  obtain ⟨⟨l, D, cA, NW'⟩, pr, e, R, s, m, args, below, meth, c, nL, A, H0, Q, n0, s0⟩ := X
  obtain ⟨hx, hb, hml, hn, hown, hts, hK, hlk, hrt, hR, hA, hc0, hs0, hin, hnw⟩ := hX
  subst hNW hR
  intro ls H locs cells slots g1 g2 h1 h2 h3 h4
  refine sm_call_core (Q' := Q') (sz := H.size) (va_runSN (As := As.map (sm_v ad)) (rest := r.map (sm_v ad)) ⟨hx, hb, hml, hown, hts⟩ (hC H.size) (⟨va_cnB _ hts hG rfl rfl rfl (hnw _ hl).2 (hts _ hi) hd ⟨hfr, by omega⟩, hts _ hst, trivial⟩) (⟨fun a U g mk q => by obtain ⟨q0, q1, qP, qK, qD, qN⟩ := q; exact ⟨q0, q1, qP, va_K.moved (u := U) (U := U.calling g mk a) (Vm.Alike.refl U.vm) qK, qD, qN.same rfl⟩, fun U hU hW => ⟨rfl, by rw [hU], by rw [hU]; exact h2, va_K.moved hW.alike hK, h3.weaken (fun _ _ _ _ => trivial), hnw.warm hW⟩⟩) rfl (by simpa using hna) h1.1 (by simp [F0, List.map_append, List.map_reverse]) (lv_room (by simpa [sm_v_cat, Function.comp_def] using hw)) d ⟨by omega, by omega⟩) h4 (sm_A_in h3 h4 hA) (fun v ad' sh' μ' H1 locs1 e1 e2 hag q p1 p2 p3 => ?_)
  obtain ⟨hst, kE⟩ := kk v ad' sh' μ' e1 e2 hag q
  obtain ⟨hh, hr⟩ := sm_stab e1 hag hst
  have k2 := kE ls H1 locs1 (cells + rm'.cells) (slots + rm'.slots) (by omega) (by omega) (hh _ _ h1) p1 p2 p3
  rw [List.map_append, hr] at k2
  have e9 : (v.map (sm_v ad')).toList = v.toList.map (sm_v ad') := by cases v <;> rfl
  rw [e9]
  exact k2
theorem sm_cal_V {cl : List vw_C} {NW : List Cond} {cc : ByteArray} {own : String} {Ts : List Cond} {y : MethodName} {bytes : ByteArray} {maxL idx n' : Nat} {ret' : Option FieldType} {W' : List Cond} {ci N0 : Nat} {T0 : u_T} (hcl : cl[ci]? = some (y.cls, T0, N0)) (hG : GoodIn Ts (wsV own idx y.cls y (Cond.code y bytes maxL ret' :: W'))) (hd : y.cls ≠ "java/lang/invoke/MethodHandle" ∧ y.cls ≠ "java/lang/invoke/VarHandle" ∧ (parseMethodDescriptor y.desc).map (fun d => d.parameters.length) = some n') (hm : maxL ≤ 13) : sm_Cal cl NW cc own Ts (.invokevirtual idx) y (Cond.code y bytes maxL ret' :: W') (n' + 1) (some ci) := by
  intro X n ret rm N S ini hNW hX pc L r ad sh μ As Q' rm' hna hrc hC hfr hlo hN hS hw d kk
  obtain ⟨⟨l, D, cA, NW'⟩, pr, e, R, s, m, args, below, meth, c, nL, A, H0, Q, n0, s0⟩ := X
  obtain ⟨hx, hb, hml, hn, hown, hts, hK, hlk, hrt, hR, hA, hc0, hs0, hin, hnw⟩ := hX
  subst hNW hR
  obtain ⟨p0, As, fs0, rfl, hs0'⟩ := hrc
  have hna : As.length = n' := by simpa using hna
  intro ls H locs cells slots g1 g2 h1 h2 h3 h4
  refine sm_call_core (Q' := Q') (sz := H.size) (va_runV (As := As.map (sm_v ad)) (rest := r.map (sm_v ad)) ⟨hx, hb, hml, hown, hts⟩ (hC H.size) (cwV _ hts hG rfl rfl rfl ⟨rfl, hd⟩ ⟨hfr, by omega⟩) ((show PreV s H _ (ad p0) _ (As.map (sm_v ad)) from ⟨fun a U g mk q => by obtain ⟨q0, q1, qP, qK, qD, qN⟩ := q; exact ⟨q0, q1, qP, va_K.moved (u := U) (U := U.calling g mk a) (Vm.Alike.refl U.vm) qK, qD, qN.same rfl⟩, sm_recv hK h2 hs0' hcl, fun U hU hW => ⟨rfl, by rw [hU], by rw [hU]; exact h2, va_K.moved hW.alike hK, h3.weaken (fun _ _ _ _ => trivial), hnw.warm hW⟩⟩)) rfl (by simpa using hna) h1.1 (by simp [F0, sm_v, List.map_append, List.map_reverse]) (lv_room (by simpa [sm_v_cat, Function.comp_def] using hw)) d ⟨by omega, by omega⟩) h4 (sm_A_in h3 h4 hA) (fun v ad' sh' μ' H1 locs1 e1 e2 hag q p1 p2 p3 => ?_)
  obtain ⟨hst, kE⟩ := kk v ad' sh' μ' e1 e2 hag q
  obtain ⟨hh, hr⟩ := sm_stab e1 hag hst
  have k2 := kE ls H1 locs1 (cells + rm'.cells) (slots + rm'.slots) (by omega) (by omega) (hh _ _ h1) p1 p2 p3
  rw [List.map_append, hr] at k2
  have e9 : (v.map (sm_v ad')).toList = v.toList.map (sm_v ad') := by cases v <;> rfl
  rw [e9]
  exact k2
theorem sm_cal_VN {cl : List vw_C} {NW : List Cond} {cc : ByteArray} {own : String} {Ts : List Cond} {y : MethodName} {bytes : ByteArray} {maxL idx n' : Nat} {ret' : Option FieldType} {W' : List Cond} {host : String} {ci N0 : Nat} {T0 : u_T} (hcl : cl[ci]? = some (y.cls, T0, N0)) (hG : GoodIn Ts (Cond.code y bytes maxL ret' :: W')) (him : Cond.instanceMethod y ∈ Ts) (hse : Cond.selects y.cls y y ∈ Ts) (hi : Cond.initialized y.cls ∈ Ts) (hl : Cond.methodLinkNest own idx y host ∈ NW) (hd : y.cls ≠ "java/lang/invoke/MethodHandle" ∧ y.cls ≠ "java/lang/invoke/VarHandle" ∧ (parseMethodDescriptor y.desc).map (fun d => d.parameters.length) = some n') (hm : maxL ≤ 13) : sm_Cal cl NW cc own Ts (.invokevirtual idx) y (Cond.code y bytes maxL ret' :: W') (n' + 1) (some ci) := by
  intro X n ret rm N S ini hNW hX pc L r ad sh μ As Q' rm' hna hrc hC hfr hlo hN hS hw d kk
  obtain ⟨⟨l, D, cA, NW'⟩, pr, e, R, s, m, args, below, meth, c, nL, A, H0, Q, n0, s0⟩ := X
  obtain ⟨hx, hb, hml, hn, hown, hts, hK, hlk, hrt, hR, hA, hc0, hs0, hin, hnw⟩ := hX
  subst hNW hR
  obtain ⟨p0, As, fs0, rfl, hs0'⟩ := hrc
  have hna : As.length = n' := by simpa using hna
  intro ls H locs cells slots g1 g2 h1 h2 h3 h4
  refine sm_call_core (Q' := Q') (sz := H.size) (va_runVN (As := As.map (sm_v ad)) (rest := r.map (sm_v ad)) ⟨hx, hb, hml, hown, hts⟩ (hC H.size) (⟨va_cnB _ hts hG rfl rfl rfl (hnw _ hl).2 (hts _ hi) hd ⟨hfr, by omega⟩, hts _ him, hts _ hse⟩) ((show PreV s H _ (ad p0) _ (As.map (sm_v ad)) from ⟨fun a U g mk q => by obtain ⟨q0, q1, qP, qK, qD, qN⟩ := q; exact ⟨q0, q1, qP, va_K.moved (u := U) (U := U.calling g mk a) (Vm.Alike.refl U.vm) qK, qD, qN.same rfl⟩, sm_recv hK h2 hs0' hcl, fun U hU hW => ⟨rfl, by rw [hU], by rw [hU]; exact h2, va_K.moved hW.alike hK, h3.weaken (fun _ _ _ _ => trivial), hnw.warm hW⟩⟩)) rfl (by simpa using hna) h1.1 (by simp [F0, sm_v, List.map_append, List.map_reverse]) (lv_room (by simpa [sm_v_cat, Function.comp_def] using hw)) d ⟨by omega, by omega⟩) h4 (sm_A_in h3 h4 hA) (fun v ad' sh' μ' H1 locs1 e1 e2 hag q p1 p2 p3 => ?_)
  obtain ⟨hst, kE⟩ := kk v ad' sh' μ' e1 e2 hag q
  obtain ⟨hh, hr⟩ := sm_stab e1 hag hst
  have k2 := kE ls H1 locs1 (cells + rm'.cells) (slots + rm'.slots) (by omega) (by omega) (hh _ _ h1) p1 p2 p3
  rw [List.map_append, hr] at k2
  have e9 : (v.map (sm_v ad')).toList = v.toList.map (sm_v ad') := by cases v <;> rfl
  rw [e9]
  exact k2
theorem sm_cal_I {cl : List vw_C} {NW : List Cond} {cc : ByteArray} {own : String} {Ts : List Cond} {y : MethodName} {bytes : ByteArray} {maxL idx n' : Nat} {ret' : Option FieldType} {W' : List Cond} {ci : Nat} (hG : GoodIn Ts (Cond.code y bytes maxL none :: W')) (hi : Cond.initialized y.cls ∈ Ts) (hl : Cond.methodLink own idx y ∈ Ts) (him : Cond.instanceMethod y ∈ Ts) (hy1 : y.name = "<init>") (hd : y.cls ≠ "java/lang/invoke/MethodHandle" ∧ y.cls ≠ "java/lang/invoke/VarHandle" ∧ (parseMethodDescriptor y.desc).map (fun d => d.parameters.length) = some n') (hm : maxL ≤ 13) : sm_Cal cl NW cc own Ts (.invokespecial idx) y (Cond.code y bytes maxL none :: W') (n' + 1) (some ci) := by
  intro X n ret rm N S ini hNW hX pc L r ad sh μ As Q' rm' hna hrc hC hfr hlo hN hS hw d kk
  obtain ⟨⟨l, D, cA, NW'⟩, pr, e, R, s, m, args, below, meth, c, nL, A, H0, Q, n0, s0⟩ := X
  obtain ⟨hx, hb, hml, hn, hown, hts, hK, hlk, hrt, hR, hA, hc0, hs0, hin, hnw⟩ := hX
  subst hNW hR
  obtain ⟨p0, As, fs0, rfl, hs0'⟩ := hrc
  have hna : As.length = n' := by simpa using hna
  intro ls H locs cells slots g1 g2 h1 h2 h3 h4
  refine sm_call_core (Q' := Q') (sz := H.size) (va_runI (As := As.map (sm_v ad)) (rest := r.map (sm_v ad)) ⟨hx, hb, hml, hown, hts⟩ (hC H.size) (cwI _ hts hG rfl rfl rfl (hts _ hi) (hts _ hl) (hts _ him) hy1 hd ⟨hfr, by omega⟩) (⟨fun a U g mk q => by obtain ⟨q0, q1, qP, qK, qD, qN⟩ := q; exact ⟨q0, q1, qP, va_K.moved (u := U) (U := U.calling g mk a) (Vm.Alike.refl U.vm) qK, qD, qN.same rfl⟩, fun U hU hW => ⟨rfl, by rw [hU], by rw [hU]; exact h2, va_K.moved hW.alike hK, h3.weaken (fun _ _ _ _ => trivial), hnw.warm hW⟩⟩) rfl (by simpa using hna) h1.1 (by simp [F0, sm_v, List.map_append, List.map_reverse]) (lv_room (by simpa [sm_v_cat, Function.comp_def] using hw)) d ⟨by omega, by omega⟩) h4 (sm_A_in h3 h4 hA) (fun v ad' sh' μ' H1 locs1 e1 e2 hag q p1 p2 p3 => ?_)
  obtain ⟨hst, kE⟩ := kk v ad' sh' μ' e1 e2 hag q
  obtain ⟨hh, hr⟩ := sm_stab e1 hag hst
  have k2 := kE ls H1 locs1 (cells + rm'.cells) (slots + rm'.slots) (by omega) (by omega) (hh _ _ h1) p1 p2 p3
  rw [List.map_append, hr] at k2
  have e9 : (v.map (sm_v ad')).toList = v.toList.map (sm_v ad') := by cases v <;> rfl
  rw [e9]
  exact k2
theorem sm_cal_IN {cl : List vw_C} {NW : List Cond} {cc : ByteArray} {own : String} {Ts : List Cond} {y : MethodName} {bytes : ByteArray} {maxL idx n' : Nat} {ret' : Option FieldType} {W' : List Cond} {host : String} {ci : Nat} (hG : GoodIn Ts (Cond.code y bytes maxL none :: W')) (hi : Cond.initialized y.cls ∈ Ts) (hl : Cond.methodLinkNest own idx y host ∈ NW) (him : Cond.instanceMethod y ∈ Ts) (hy1 : y.name = "<init>") (hd : y.cls ≠ "java/lang/invoke/MethodHandle" ∧ y.cls ≠ "java/lang/invoke/VarHandle" ∧ (parseMethodDescriptor y.desc).map (fun d => d.parameters.length) = some n') (hm : maxL ≤ 13) : sm_Cal cl NW cc own Ts (.invokespecial idx) y (Cond.code y bytes maxL none :: W') (n' + 1) (some ci) := by
  intro X n ret rm N S ini hNW hX pc L r ad sh μ As Q' rm' hna hrc hC hfr hlo hN hS hw d kk
  obtain ⟨⟨l, D, cA, NW'⟩, pr, e, R, s, m, args, below, meth, c, nL, A, H0, Q, n0, s0⟩ := X
  obtain ⟨hx, hb, hml, hn, hown, hts, hK, hlk, hrt, hR, hA, hc0, hs0, hin, hnw⟩ := hX
  subst hNW hR
  obtain ⟨p0, As, fs0, rfl, hs0'⟩ := hrc
  have hna : As.length = n' := by simpa using hna
  intro ls H locs cells slots g1 g2 h1 h2 h3 h4
  refine sm_call_core (Q' := Q') (sz := H.size) (va_runIN (As := As.map (sm_v ad)) (rest := r.map (sm_v ad)) ⟨hx, hb, hml, hown, hts⟩ (hC H.size) (⟨va_cnB _ hts hG rfl rfl rfl (hnw _ hl).2 (hts _ hi) hd ⟨hfr, by omega⟩, hy1, hts _ him⟩) (⟨fun a U g mk q => by obtain ⟨q0, q1, qP, qK, qD, qN⟩ := q; exact ⟨q0, q1, qP, va_K.moved (u := U) (U := U.calling g mk a) (Vm.Alike.refl U.vm) qK, qD, qN.same rfl⟩, fun U hU hW => ⟨rfl, by rw [hU], by rw [hU]; exact h2, va_K.moved hW.alike hK, h3.weaken (fun _ _ _ _ => trivial), hnw.warm hW⟩⟩) rfl (by simpa using hna) h1.1 (by simp [F0, sm_v, List.map_append, List.map_reverse]) (lv_room (by simpa [sm_v_cat, Function.comp_def] using hw)) d ⟨by omega, by omega⟩) h4 (sm_A_in h3 h4 hA) (fun v ad' sh' μ' H1 locs1 e1 e2 hag q p1 p2 p3 => ?_)
  obtain ⟨hst, kE⟩ := kk v ad' sh' μ' e1 e2 hag q
  obtain ⟨hh, hr⟩ := sm_stab e1 hag hst
  have k2 := kE ls H1 locs1 (cells + rm'.cells) (slots + rm'.slots) (by omega) (by omega) (hh _ _ h1) p1 p2 p3
  rw [List.map_append, hr] at k2
  have e9 : (v.map (sm_v ad')).toList = v.toList.map (sm_v ad') := by cases v <;> rfl
  rw [e9]
  exact k2
theorem sm_objInit {cl : List vw_C} {X : sm_X} {cc : ByteArray} {n : Nat} {own : String} {Ts : List Cond} {ret : Option FieldType} {rm : Room} {N S : Nat} {ini : Bool} (hX : sm_ok cl X cc n own Ts ret rm N S ini) {pc : Nat} {L : List (Option Value)} {r : List Value} {ad : Nat → Nat} {sh : sm_S} {μ : sm_M} {idx p : Nat} (hl : Cond.methodLink own idx Lib.objectInit ∈ Ts) (hi : Cond.instanceMethod Lib.objectInit ∈ Ts) (hc : Cond.code Lib.objectInit ⟨#[0xb1]⟩ 1 none ∈ Ts) (hf : 1 ≤ rm.frames) (hlo : 20 ≤ rm.locals) (hw : (r.map fun v => v.category).sum ≤ 8) (d : decode cc pc = .ok (.invokespecial idx, 3)) (k : sm_E cl X (pc + 3) L r ad sh μ) : sm_E cl X pc L (.ref p :: r) ad sh μ := by
  obtain ⟨⟨l, D, cA, NW⟩, pr, e, R, s, m, args, below, meth, c, nL, A, H0, Q, n0, s0⟩ := X
  obtain ⟨hx, hb, hml, hn, hown, hts, hK, hlk, hrt, hR, hA, hc0, hs0, hin, hnw⟩ := hX
  subst hR
  intro ls H locs cells slots g1 g2 h1 h2 h3 h4
  have hw2 := lv_room (m := m) (pc := pc) (ls := ls) (rest := (.ref (ad p) :: r.map (sm_v ad))) (st := r.map (sm_v ad)) (by simpa [sm_v_cat, Function.comp_def] using hw)
  exact W.objInit hx hb hown (hts _ hl) (hts _ hi) (hts _ hc) (g := F0 m pc ls (.ref (ad p) :: r.map (sm_v ad))) rfl (h1.1.trans hml.symm) rfl d hf (by omega) (k ls H locs cells slots g1 g2 h1 h2 h3 h4)
theorem sm_new_ag {sh : sm_S} {ad : Nat → Nat} (a : Nat) : sm_ag sh.length (sh.length + 1) (fun q => if q = sh.length then a else ad q) ad := by
  intro p hp
  have h : p ≠ sh.length := by omega
  simp [h]
theorem sm_new {cl : List vw_C} {X : sm_X} {cc : ByteArray} {n : Nat} {own : String} {Ts : List Cond} {ret : Option FieldType} {rm : Room} {N S : Nat} {ini : Bool} (hX : sm_ok cl X cc n own Ts ret rm N S ini) {pc : Nat} {L : List (Option Value)} {r : List Value} {ad : Nat → Nat} {sh : sm_S} {μ : sm_M} {idx ci N' : Nat} {C : String} {T : u_T} {fs : List (Option (Option Nat))} (t : Nat → FieldType) (e2 : cl[ci]? = some (C, T, N')) (e5 : ∀ w ∈ u_ws C T N', w ∈ Ts) (e7 : ∀ k, k < N' → parseFieldDescriptor (T k).2.2.1 = some (t k)) (hl : Cond.classLink own idx C ∈ Ts) (hi : Cond.instantiable C N' ∈ Ts) (hz : Cond.initialized C ∈ Ts) (hfl : fs.length = N') (hfs : ∀ j, j < N' → ∀ ad : Nat → Nat, defaultValue (t j) = vp_V (fs.mapIdx (sm_f ad (fun _ => 0))) j) (hno : ∀ ad ad' : Nat → Nat, fs.mapIdx (sm_f ad (fun _ => 0)) = fs.mapIdx (sm_f ad' (fun _ => 0))) (hnL : L.all (sm_no sh.length (sh.length + 1)) = true) (hnr : r.all (sm_nv sh.length (sh.length + 1)) = true) (hns : sh.all (sm_ns sh.length (sh.length + 1)) = true) (hN : sh.length + 1 ≤ N) (hS : sm_sl sh + N' ≤ S) (d : decode cc pc = .ok (.new idx, 3)) (k : ∀ ad' : Nat → Nat, sm_ag sh.length (sh.length + 1) ad' ad → sm_E cl X (pc + 3) L (.ref sh.length :: r) ad' (sh ++ [.inl (ci, fs)]) (sm_z μ sh.length)) : sm_E cl X pc L r ad sh μ := by
  obtain ⟨⟨l, D, cA, NW⟩, pr, e, R, s, m, args, below, meth, c, nL, A, H0, Q, n0, s0⟩ := X
  obtain ⟨hx, hb, hml, hn, hown, hts, hK, hlk, hrt, hR, hA, hc0, hs0, hin, hnw⟩ := hX
  subst hR hfl
  intro ls H locs cells slots g1 g2 h1 h2 h3 h4
  refine va_new (ci := ci) (fs := fs.mapIdx (sm_f (fun q' => ad q') (fun _ => 0))) (C := C) (T := T) (N := fs.length) hx hb hts e5 t e7 hown (hts _ hl) (hts _ hi) (hts _ hz) hK h2 h3 h4 hA e2 (fun j hj => hfs j hj _) (by omega) (by omega) d (fun q H1 p1 p2 p3 => ?_)
  have ha : (fun q' => if q' = sh.length then q else ad q') sh.length = q := by simp
  have hag := sm_new_ag (sh := sh) (ad := ad) q
  have hw := sm_w_new (cA := cA) (μ := μ) (x := .inl (ci, fs)) ha hag hns
  have he : (sm_e (fun q' => if q' = sh.length then q else ad q') cA (sm_z μ sh.length) sh.length (.inl (ci, fs))).2 = .inr (ci, fs.mapIdx (sm_f (fun q' => ad q') (fun _ => 0))) := by
    have hz0 : (sm_z μ sh.length).1 sh.length = fun _ => 0 := by simp [sm_z]
    show Sum.inr (ci, fs.mapIdx (sm_f _ ((sm_z μ sh.length).1 sh.length))) = _
    rw [hz0, hno _ (fun q' => ad q')]
  have k2 := k (fun q' => if q' = sh.length then q else ad q') hag ls H1 locs (cells + 1) (slots + fs.length) (by simp; omega) (by rw [sm_sl_app]; simp [sm_sl, sm_sz]; simp [sm_sl] at g2; omega) (h1.ag hag hnL) (by rw [hw, he]; exact p1) (by rw [hw, he]; exact p2) p3
  rw [List.map_cons, sm_st_ag hag hnr] at k2
  have e8 : sm_v (fun q' => if q' = sh.length then q else ad q') (.ref sh.length) = .ref q := by simp [sm_v]
  rw [e8] at k2
  exact k2
theorem sm_newa0 {cl : List vw_C} {X : sm_X} {cc : ByteArray} {n : Nat} {own : String} {Ts : List Cond} {ret : Option FieldType} {rm : Room} {N S : Nat} {ini : Bool} (hX : sm_ok cl X cc n own Ts ret rm N S ini) {pc : Nat} {L : List (Option Value)} {r : List Value} {ad : Nat → Nat} {sh : sm_S} {μ : sm_M} {n0' : Int32} {len : Nat} (harr : Cond.arrayClass .int ∈ Ts) (hn0 : ¬ n0' < 0) (hlen : n0'.toNatClampNeg = len) (hbig : len ≤ 100000) (hnL : L.all (sm_no sh.length (sh.length + 1)) = true) (hnr : r.all (sm_nv sh.length (sh.length + 1)) = true) (hns : sh.all (sm_ns sh.length (sh.length + 1)) = true) (hN : sh.length + 1 ≤ N) (hS : sm_sl sh + len ≤ S) (d : decode cc pc = .ok (.newarray .int, 2)) (k : ∀ ad' : Nat → Nat, sm_ag sh.length (sh.length + 1) ad' ad → sm_E cl X (pc + 2) L (.ref sh.length :: r) ad' (sh ++ [.inr (0, len)]) (sm_z μ sh.length)) : sm_E cl X pc L (.int n0' :: r) ad sh μ := by
  obtain ⟨⟨l, D, cA, NW⟩, pr, e, R, s, m, args, below, meth, c, nL, A, H0, Q, n0, s0⟩ := X
  obtain ⟨hx, hb, hml, hn, hown, hts, hK, hlk, hrt, hR, hA, hc0, hs0, hin, hnw⟩ := hX
  subst hR
  intro ls H locs cells slots g1 g2 h1 h2 h3 h4
  refine va_newa (atype := .int) (a0 := (len, .inl (fun _ => 0))) (N' := len) (ty := .int) hx hb (hts _ harr) rfl hK h2 h3 h4 hA (fun cA => rfl) hn0 hlen (by simp [componentBytes]; omega) (by omega) (by omega) d (fun q cA' H1 hK' p1 p2 p3 => ?_)
  have hcA : cA' = cA 0 := by
    have z1 := (hK'.2 3 _ rfl).2
    have z2 := (hK.2 0 _ rfl).2
    exact Option.some.inj (z1.symm.trans z2)
  subst hcA
  have ha : (fun q' => if q' = sh.length then q else ad q') sh.length = q := by simp
  have hag := sm_new_ag (sh := sh) (ad := ad) q
  have hw := sm_w_new (cA := cA) (μ := μ) (x := .inr (0, len)) ha hag hns
  have he : (sm_e (fun q' => if q' = sh.length then q else ad q') cA (sm_z μ sh.length) sh.length (.inr (0, len))).2 = .inl (cA 0, len, .inl (fun _ => 0)) := by
    simp [sm_e, sm_z]
  have k2 := k (fun q' => if q' = sh.length then q else ad q') hag ls H1 locs (cells + 1) (slots + len) (by simp; omega) (by rw [sm_sl_app]; simp [sm_sl, sm_sz]; simp [sm_sl] at g2; omega) (h1.ag hag hnL) (by rw [hw, he]; exact p1) (by rw [hw, he]; exact p2) p3
  rw [List.map_cons, sm_st_ag hag hnr] at k2
  have e8 : sm_v (fun q' => if q' = sh.length then q else ad q') (.ref sh.length) = .ref q := by simp [sm_v]
  rw [e8] at k2
  exact k2
theorem sm_newa1 {cl : List vw_C} {X : sm_X} {cc : ByteArray} {n : Nat} {own : String} {Ts : List Cond} {ret : Option FieldType} {rm : Room} {N S : Nat} {ini : Bool} (hX : sm_ok cl X cc n own Ts ret rm N S ini) {pc : Nat} {L : List (Option Value)} {r : List Value} {ad : Nat → Nat} {sh : sm_S} {μ : sm_M} {n0' : Int32} {len : Nat} (harr : Cond.arrayClass .boolean ∈ Ts) (hn0 : ¬ n0' < 0) (hlen : n0'.toNatClampNeg = len) (hbig : len ≤ 100000) (hnL : L.all (sm_no sh.length (sh.length + 1)) = true) (hnr : r.all (sm_nv sh.length (sh.length + 1)) = true) (hns : sh.all (sm_ns sh.length (sh.length + 1)) = true) (hN : sh.length + 1 ≤ N) (hS : sm_sl sh + len ≤ S) (d : decode cc pc = .ok (.newarray .boolean, 2)) (k : ∀ ad' : Nat → Nat, sm_ag sh.length (sh.length + 1) ad' ad → sm_E cl X (pc + 2) L (.ref sh.length :: r) ad' (sh ++ [.inr (1, len)]) (sm_z μ sh.length)) : sm_E cl X pc L (.int n0' :: r) ad sh μ := by
  obtain ⟨⟨l, D, cA, NW⟩, pr, e, R, s, m, args, below, meth, c, nL, A, H0, Q, n0, s0⟩ := X
  obtain ⟨hx, hb, hml, hn, hown, hts, hK, hlk, hrt, hR, hA, hc0, hs0, hin, hnw⟩ := hX
  subst hR
  intro ls H locs cells slots g1 g2 h1 h2 h3 h4
  refine va_newa (atype := .boolean) (a0 := (len, .inl (fun _ => 0))) (N' := len) (ty := .boolean) hx hb (hts _ harr) rfl hK h2 h3 h4 hA (fun cA => rfl) hn0 hlen (by simp [componentBytes]; omega) (by omega) (by omega) d (fun q cA' H1 hK' p1 p2 p3 => ?_)
  have hcA : cA' = cA 1 := by
    have z1 := (hK'.2 3 _ rfl).2
    have z2 := (hK.2 1 _ rfl).2
    exact Option.some.inj (z1.symm.trans z2)
  subst hcA
  have ha : (fun q' => if q' = sh.length then q else ad q') sh.length = q := by simp
  have hag := sm_new_ag (sh := sh) (ad := ad) q
  have hw := sm_w_new (cA := cA) (μ := μ) (x := .inr (1, len)) ha hag hns
  have he : (sm_e (fun q' => if q' = sh.length then q else ad q') cA (sm_z μ sh.length) sh.length (.inr (1, len))).2 = .inl (cA 1, len, .inl (fun _ => 0)) := by
    simp [sm_e, sm_z]
  have k2 := k (fun q' => if q' = sh.length then q else ad q') hag ls H1 locs (cells + 1) (slots + len) (by simp; omega) (by rw [sm_sl_app]; simp [sm_sl, sm_sz]; simp [sm_sl] at g2; omega) (h1.ag hag hnL) (by rw [hw, he]; exact p1) (by rw [hw, he]; exact p2) p3
  rw [List.map_cons, sm_st_ag hag hnr] at k2
  have e8 : sm_v (fun q' => if q' = sh.length then q else ad q') (.ref sh.length) = .ref q := by simp [sm_v]
  rw [e8] at k2
  exact k2
theorem sm_newa2 {cl : List vw_C} {X : sm_X} {cc : ByteArray} {n : Nat} {own : String} {Ts : List Cond} {ret : Option FieldType} {rm : Room} {N S : Nat} {ini : Bool} (hX : sm_ok cl X cc n own Ts ret rm N S ini) {pc : Nat} {L : List (Option Value)} {r : List Value} {ad : Nat → Nat} {sh : sm_S} {μ : sm_M} {n0' : Int32} {len : Nat} (harr : Cond.arrayClass .long ∈ Ts) (hn0 : ¬ n0' < 0) (hlen : n0'.toNatClampNeg = len) (hbig : len ≤ 100000) (hnL : L.all (sm_no sh.length (sh.length + 1)) = true) (hnr : r.all (sm_nv sh.length (sh.length + 1)) = true) (hns : sh.all (sm_ns sh.length (sh.length + 1)) = true) (hN : sh.length + 1 ≤ N) (hS : sm_sl sh + len ≤ S) (d : decode cc pc = .ok (.newarray .long, 2)) (k : ∀ ad' : Nat → Nat, sm_ag sh.length (sh.length + 1) ad' ad → sm_E cl X (pc + 2) L (.ref sh.length :: r) ad' (sh ++ [.inr (2, len)]) (sm_z μ sh.length)) : sm_E cl X pc L (.int n0' :: r) ad sh μ := by
  obtain ⟨⟨l, D, cA, NW⟩, pr, e, R, s, m, args, below, meth, c, nL, A, H0, Q, n0, s0⟩ := X
  obtain ⟨hx, hb, hml, hn, hown, hts, hK, hlk, hrt, hR, hA, hc0, hs0, hin, hnw⟩ := hX
  subst hR
  intro ls H locs cells slots g1 g2 h1 h2 h3 h4
  refine va_newa (atype := .long) (a0 := (len, .inr (.inl (fun _ => 0)))) (N' := len) (ty := .long) hx hb (hts _ harr) rfl hK h2 h3 h4 hA (fun cA => rfl) hn0 hlen (by simp [componentBytes]; omega) (by omega) (by omega) d (fun q cA' H1 hK' p1 p2 p3 => ?_)
  have hcA : cA' = cA 2 := by
    have z1 := (hK'.2 3 _ rfl).2
    have z2 := (hK.2 2 _ rfl).2
    exact Option.some.inj (z1.symm.trans z2)
  subst hcA
  have ha : (fun q' => if q' = sh.length then q else ad q') sh.length = q := by simp
  have hag := sm_new_ag (sh := sh) (ad := ad) q
  have hw := sm_w_new (cA := cA) (μ := μ) (x := .inr (2, len)) ha hag hns
  have he : (sm_e (fun q' => if q' = sh.length then q else ad q') cA (sm_z μ sh.length) sh.length (.inr (2, len))).2 = .inl (cA 2, len, .inr (.inl (fun _ => 0))) := by
    simp [sm_e, sm_z]
  have k2 := k (fun q' => if q' = sh.length then q else ad q') hag ls H1 locs (cells + 1) (slots + len) (by simp; omega) (by rw [sm_sl_app]; simp [sm_sl, sm_sz]; simp [sm_sl] at g2; omega) (h1.ag hag hnL) (by rw [hw, he]; exact p1) (by rw [hw, he]; exact p2) p3
  rw [List.map_cons, sm_st_ag hag hnr] at k2
  have e8 : sm_v (fun q' => if q' = sh.length then q else ad q') (.ref sh.length) = .ref q := by simp [sm_v]
  rw [e8] at k2
  exact k2
