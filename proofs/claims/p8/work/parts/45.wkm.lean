/-! a method's contract out of the unfolded Prop -/
theorem wk_find_ok {pc : Nat} {k : Nat → Instr → Nat → Prop} : ∀ {tb : List (Nat × Instr × Nat)}, wk_find pc k tb → ∃ ins len, (pc, ins, len) ∈ tb ∧ k pc ins len
  | [], h => (show False from h).elim
  | (q, i, n) :: t, h => by
    have h : (match Nat.beq q pc with
      | true => k q i n
      | false => wk_find pc k t) := h
    cases hb : Nat.beq q pc with
    | true =>
      rw [hb] at h
      have e := dp_beq hb
      subst e
      exact ⟨i, n, List.mem_cons_self, h⟩
    | false =>
      rw [hb] at h
      obtain ⟨a, b, h1, h2⟩ := wk_find_ok h
      exact ⟨a, b, List.mem_cons_of_mem _ h1, h2⟩
theorem wk_succ {K : dp_K} {G : ab_G} {R : wk_R} {nl : Nat} {ret : Option FieldType} {W : List Nat} {F : wk_F} {fin : Option wk_V → wk_M → Prop} {tb : List (Nat × Instr × Nat)} {HD : List wk_H} {lt : Nat → Prop} {n pc : Nat} {L : wk_L} {st : List wk_V} {m : wk_N} : wk K G R nl ret W F fin tb HD lt (n + 1) pc L st m = wk_find pc (fun q ins len => wk_in K G R nl ret W F fin q L st m ins len (fun pc' L' st' m' => match wk_hd pc' HD with
    | some h => (match st' with
      | [] => wk_co m' fun m1 => wk_pk h.2.1 L' (fun vs ls => h.2.2.1 vs ls m1 ∧ lt (h.2.2.2 vs ls m1))
      | _ => False)
    | none => wk K G R nl ret W F fin tb HD lt n pc' L' st' m')) tb := rfl
theorem wk_ok {cl : List vw_C} {X : sm_X} {cc : ByteArray} {own : String} {Ts : List Cond} {rm : Room} {N Sz : Nat} {ini : Bool} {nl : Nat} {ret : Option FieldType} (hX : sm_ok cl X cc nl own Ts ret rm N Sz ini) {G : ab_G} (hG : ab_Gok G) {R : wk_R} (hR : wk_Rok G R) {K : dp_K} {ys : Nat → MethodName} {wss : Nat → List Cond} (hK : dp_Kok cl X.1.2.2.2 own Ts ys wss K) {lvl : Nat} (hfr : lvl ≤ rm.frames) (hlo : 32 * lvl ≤ rm.locals) (hN : G.2.length ≤ N) (hSz : sm_sl G.2 ≤ Sz) {W : List Nat} {ad : Nat → Nat} {μ0 : sm_M} {fin : Option wk_V → wk_M → Prop} (hf : sm_fin cl X ad G.2 0 0 (wk_Q G W μ0 fin)) {tb : List (Nat × Instr × Nat)} (hM : ∀ e ∈ tb, decode cc e.1 = .ok e.2) {HD : List wk_H} {lt : Nat → Prop}
    (heads : ∀ (pc : Nat) (h : wk_H), wk_hd pc HD = some h → ∀ (L : wk_L) (m : wk_M), wk_pk h.2.1 L (fun vs ls => h.2.2.1 vs ls m ∧ lt (h.2.2.2 vs ls m)) → wk_J cl X G W nl ad μ0 pc L [] (m, [], [])) : ∀ (n pc : Nat) (L : wk_L) (st : List wk_V) (m : wk_N), wk K G R nl ret W (wk_cl cl X.1 ys wss G lvl W) fin tb HD lt n pc L st m → wk_J cl X G W nl ad μ0 pc L st m  := by
  intro n
  induction n with
  | zero => exact fun pc L st m h => (show False from h).elim
  | succ n ih =>
    intro pc L st m h
    rw [wk_succ] at h
    obtain ⟨ins, len, h1, h2⟩ := wk_find_ok h
    have d : decode cc pc = .ok (ins, len) := hM (pc, ins, len) h1
    refine wk_in_ok hX hG hR hK hfr hlo hN hSz hf (fun pc' L' st' m' hk => ?_) d h2
    cases hh : wk_hd pc' HD with
    | some h0 =>
      rw [hh] at hk
      cases st' with
      | nil =>
        have hk := wk_co_ok hk
        exact heads pc' h0 hh L' (wk_mk m') hk
      | cons a b => exact (show False from hk).elim
    | none =>
      rw [hh] at hk
      exact ih pc' L' st' m' hk
theorem wk_pk_sp : ∀ {pat : List (Nat × Nat)} {L : wk_L} {P : List Int → List Int64 → Prop} {R : wk_L → List Int → List Int64 → Prop}, wk_pk pat L P → wk_sp pat R → wk_lv L → ∃ L' vs ls, P vs ls ∧ R L' vs ls ∧ L'.length = L.length ∧ ∀ (i : Nat) (v : wk_V), L'[i]? = some (some v) → L[i]? = some (some v)
  | [], [], P, R, h, hR, _ => ⟨[], [], [], h, hR, rfl, fun _ _ z => z⟩
  | [], a :: L, P, R, h, _, _ => (show False from h).elim
  | (0, _) :: t, [], P, R, h, _, _ => (show False from h).elim
  | (0, _) :: t, a :: L, P, R, h, hR, hl => by
    have h : wk_pk t L P := h
    have hR : wk_sp t (fun L vs ls => R (none :: L) vs ls) := hR
    obtain ⟨L', vs, ls, q1, q2, q3, q4⟩ := wk_pk_sp h hR (fun i v z => hl (i + 1) v z)
    refine ⟨none :: L', vs, ls, q1, q2, by simp [q3], fun i v z => ?_⟩
    cases i with
    | zero => simp at z
    | succ i => exact q4 i v (by simpa using z)
  | (1, _) :: t, [], P, R, h, _, _ => (show False from h).elim
  | (1, _) :: t, none :: L, P, R, h, _, _ => (show False from h).elim
  | (1, _) :: t, some (.inr (.inl _)) :: L, P, R, h, _, _ => (show False from h).elim
  | (1, _) :: t, some (.inr (.inr _)) :: L, P, R, h, _, _ => (show False from h).elim
  | (1, _) :: t, some (.inl x) :: L, P, R, h, hR, hl => by
    have h : wk_pk t L (fun vs ls => P (x :: vs) ls) := h
    have hx : wk_v (.inl x) := hl 0 _ rfl
    have hR : wk_sp t (fun L vs ls => R (some (.inl x) :: L) (x :: vs) ls) := hR x hx.1 hx.2
    obtain ⟨L', vs, ls, q1, q2, q3, q4⟩ := wk_pk_sp h hR (fun i v z => hl (i + 1) v z)
    refine ⟨some (.inl x) :: L', x :: vs, ls, q1, q2, by simp [q3], fun i v z => ?_⟩
    cases i with
    | zero => exact z
    | succ i => exact q4 i v (by simpa using z)
  | (2, _) :: t, [], P, R, h, _, _ => (show False from h).elim
  | (2, _) :: t, none :: L, P, R, h, _, _ => (show False from h).elim
  | (2, _) :: t, some (.inl _) :: L, P, R, h, _, _ => (show False from h).elim
  | (2, _) :: t, some (.inr (.inl _)) :: L, P, R, h, _, _ => (show False from h).elim
  | (2, _) :: t, some (.inr (.inr y)) :: L, P, R, h, hR, hl => by
    have h : wk_pk t L (fun vs ls => P vs (y :: ls)) := h
    have hR : wk_sp t (fun L vs ls => R (some (.inr (.inr y)) :: L) vs (y :: ls)) := hR y
    obtain ⟨L', vs, ls, q1, q2, q3, q4⟩ := wk_pk_sp h hR (fun i v z => hl (i + 1) v z)
    refine ⟨some (.inr (.inr y)) :: L', vs, y :: ls, q1, q2, by simp [q3], fun i v z => ?_⟩
    cases i with
    | zero => exact z
    | succ i => exact q4 i v (by simpa using z)
  | (_ + 3, q) :: t, [], P, R, h, _, _ => (show False from h).elim
  | (_ + 3, q) :: t, none :: L, P, R, h, _, _ => (show False from h).elim
  | (_ + 3, q) :: t, some (.inl _) :: L, P, R, h, _, _ => (show False from h).elim
  | (_ + 3, q) :: t, some (.inr (.inr _)) :: L, P, R, h, _, _ => (show False from h).elim
  | (_ + 3, q) :: t, some (.inr (.inl p)) :: L, P, R, h, hR, hl => by
    have h : wk_g (Nat.beq p q) (wk_pk t L P) := h
    obtain ⟨h0, h⟩ := wk_g_ok h
    have e := dp_beq h0
    have hR : wk_sp t (fun L vs ls => R (some (.inr (.inl q)) :: L) vs ls) := hR
    obtain ⟨L', vs, ls, q1, q2, q3, q4⟩ := wk_pk_sp h hR (fun i v z => hl (i + 1) v z)
    refine ⟨some (.inr (.inl q)) :: L', vs, ls, q1, q2, by simp [q3], fun i v z => ?_⟩
    cases i with
    | zero => rw [e]; exact z
    | succ i => exact q4 i v (by simpa using z)
theorem wk_pk_imp : ∀ {pat : List (Nat × Nat)} {L : wk_L} {P P' : List Int → List Int64 → Prop}, (∀ vs ls, P vs ls → P' vs ls) → wk_pk pat L P → wk_pk pat L P'
  | [], [], P, P', hi, h => hi _ _ h
  | [], a :: L, P, P', _, h => (show False from h).elim
  | (0, _) :: t, [], P, P', _, h => (show False from h).elim
  | (0, _) :: t, a :: L, P, P', hi, h => wk_pk_imp (pat := t) (L := L) hi h
  | (1, _) :: t, [], P, P', _, h => (show False from h).elim
  | (1, _) :: t, none :: L, P, P', _, h => (show False from h).elim
  | (1, _) :: t, some (.inr (.inl _)) :: L, P, P', _, h => (show False from h).elim
  | (1, _) :: t, some (.inr (.inr _)) :: L, P, P', _, h => (show False from h).elim
  | (1, _) :: t, some (.inl x) :: L, P, P', hi, h => wk_pk_imp (pat := t) (L := L) (P := fun vs ls => P (x :: vs) ls) (P' := fun vs ls => P' (x :: vs) ls) (fun vs ls z => hi _ _ z) h
  | (2, _) :: t, [], P, P', _, h => (show False from h).elim
  | (2, _) :: t, none :: L, P, P', _, h => (show False from h).elim
  | (2, _) :: t, some (.inl _) :: L, P, P', _, h => (show False from h).elim
  | (2, _) :: t, some (.inr (.inl _)) :: L, P, P', _, h => (show False from h).elim
  | (2, _) :: t, some (.inr (.inr y)) :: L, P, P', hi, h => wk_pk_imp (pat := t) (L := L) (P := fun vs ls => P vs (y :: ls)) (P' := fun vs ls => P' vs (y :: ls)) (fun vs ls z => hi _ _ z) h
  | (_ + 3, q) :: t, [], P, P', _, h => (show False from h).elim
  | (_ + 3, q) :: t, none :: L, P, P', _, h => (show False from h).elim
  | (_ + 3, q) :: t, some (.inl _) :: L, P, P', _, h => (show False from h).elim
  | (_ + 3, q) :: t, some (.inr (.inr _)) :: L, P, P', _, h => (show False from h).elim
  | (_ + 3, q) :: t, some (.inr (.inl p)) :: L, P, P', hi, h => by
    have h : wk_g (Nat.beq p q) (wk_pk t L P) := h
    obtain ⟨h0, h⟩ := wk_g_ok h
    show wk_g (Nat.beq p q) (wk_pk t L P')
    rw [h0]
    exact wk_pk_imp (pat := t) (L := L) hi h
theorem wk_pk_ex : ∀ {pat : List (Nat × Nat)} {L : wk_L} {P : List Int → List Int64 → Prop}, wk_pk pat L P → ∃ vs ls, P vs ls ∧ ∀ P' : List Int → List Int64 → Prop, P' vs ls → wk_pk pat L P'
  | [], [], P, h => ⟨[], [], h, fun _ z => z⟩
  | [], a :: L, P, h => (show False from h).elim
  | (0, _) :: t, [], P, h => (show False from h).elim
  | (0, _) :: t, a :: L, P, h => wk_pk_ex (pat := t) (L := L) h
  | (1, _) :: t, [], P, h => (show False from h).elim
  | (1, _) :: t, none :: L, P, h => (show False from h).elim
  | (1, _) :: t, some (.inr (.inl _)) :: L, P, h => (show False from h).elim
  | (1, _) :: t, some (.inr (.inr _)) :: L, P, h => (show False from h).elim
  | (1, _) :: t, some (.inl x) :: L, P, h => by
    obtain ⟨vs, ls, h1, h2⟩ := wk_pk_ex (pat := t) (L := L) (P := fun vs ls => P (x :: vs) ls) h
    exact ⟨x :: vs, ls, h1, fun P' z => h2 (fun vs ls => P' (x :: vs) ls) z⟩
  | (2, _) :: t, [], P, h => (show False from h).elim
  | (2, _) :: t, none :: L, P, h => (show False from h).elim
  | (2, _) :: t, some (.inl _) :: L, P, h => (show False from h).elim
  | (2, _) :: t, some (.inr (.inl _)) :: L, P, h => (show False from h).elim
  | (2, _) :: t, some (.inr (.inr y)) :: L, P, h => by
    obtain ⟨vs, ls, h1, h2⟩ := wk_pk_ex (pat := t) (L := L) (P := fun vs ls => P vs (y :: ls)) h
    exact ⟨vs, y :: ls, h1, fun P' z => h2 (fun vs ls => P' vs (y :: ls)) z⟩
  | (_ + 3, q) :: t, [], P, h => (show False from h).elim
  | (_ + 3, q) :: t, none :: L, P, h => (show False from h).elim
  | (_ + 3, q) :: t, some (.inl _) :: L, P, h => (show False from h).elim
  | (_ + 3, q) :: t, some (.inr (.inr _)) :: L, P, h => (show False from h).elim
  | (_ + 3, q) :: t, some (.inr (.inl p)) :: L, P, h => by
    have h : wk_g (Nat.beq p q) (wk_pk t L P) := h
    obtain ⟨h0, h⟩ := wk_g_ok h
    obtain ⟨vs, ls, h1, h2⟩ := wk_pk_ex (pat := t) (L := L) h
    refine ⟨vs, ls, h1, fun P' z => ?_⟩
    show wk_g (Nat.beq p q) (wk_pk t L P')
    rw [h0]
    exact h2 P' z
theorem wk_pk_bd {pat : List (Nat × Nat)} {L : wk_L} {P : List Int → List Int64 → Prop} {f : List Int → List Int64 → Nat} (h : wk_pk pat L (fun vs ls => P vs ls ∧ True)) : ∃ B, wk_pk pat L (fun vs ls => P vs ls ∧ f vs ls < B) := by
  obtain ⟨vs, ls, h1, h2⟩ := wk_pk_ex h
  exact ⟨f vs ls + 1, h2 _ ⟨h1.1, Nat.lt_succ_self _⟩⟩
theorem wk_less {L L' : wk_L} (h : ∀ (i : Nat) (v : wk_V), L'[i]? = some (some v) → L[i]? = some (some v)) (i : Nat) (v : Value) (hv : (wk_lc L')[i]? = some (some v)) : (wk_lc L)[i]? = some (some v) := by
  unfold wk_lc at hv ⊢
  rw [List.getElem?_map] at hv ⊢
  cases hL : L'[i]? with
  | none => rw [hL] at hv; cases hv
  | some o =>
    cases o with
    | none => rw [hL] at hv; cases hv
    | some u =>
      rw [hL] at hv
      rw [h i u hL]
      exact hv
def wk_L0 : Nat → List wk_V → wk_L
  | n, [] => List.replicate n none
  | n, .inr (.inr y) :: t => some (.inr (.inr y)) :: none :: wk_L0 (n - 2) t
  | n, .inr (.inl p) :: t => some (.inr (.inl p)) :: wk_L0 (n - 1) t
  | n, .inl x :: t => some (.inl x) :: wk_L0 (n - 1) t
theorem wk_f_len : ∀ As : List wk_V, (ab_f (As.map wk_c)).length = wk_cats As
  | [] => rfl
  | .inl x :: t => by
    have ih := wk_f_len t
    show ([some (wk_c (.inl x))] ++ ab_f (t.map wk_c)).length = 1 + wk_cats t
    rw [List.length_append, ih]
    rfl
  | .inr (.inl x) :: t => by
    have ih := wk_f_len t
    show ([some (wk_c (.inr (.inl x)))] ++ ab_f (t.map wk_c)).length = 1 + wk_cats t
    rw [List.length_append, ih]
    rfl
  | .inr (.inr x) :: t => by
    have ih := wk_f_len t
    show ([some (wk_c (.inr (.inr x))), none] ++ ab_f (t.map wk_c)).length = 2 + wk_cats t
    rw [List.length_append, ih]
    rfl
theorem wk_L0_ok : ∀ {n : Nat} {As : List wk_V}, wk_cats As ≤ n → wk_lc (wk_L0 n As) = ab_f (As.map wk_c) ++ List.replicate (n - wk_cats As) none ∧ (wk_L0 n As).length = n
  | n, [], _ => by
    refine ⟨?_, by simp [wk_L0]⟩
    show (List.replicate n none).map (Option.map wk_c) = [] ++ List.replicate (n - 0) none
    rw [List.map_replicate]
    rfl
  | n, .inl x :: t, h => by
    have h : 1 + wk_cats t ≤ n := h
    obtain ⟨h1, h2⟩ := wk_L0_ok (n := n - 1) (As := t) (by omega)
    refine ⟨?_, by show (wk_L0 (n - 1) t).length + 1 = n; omega⟩
    show some (wk_c (.inl x)) :: wk_lc (wk_L0 (n - 1) t) = some (wk_c (.inl x)) :: (ab_f (t.map wk_c) ++ List.replicate (n - (1 + wk_cats t)) none)
    rw [h1, Nat.sub_sub]
  | n, .inr (.inl x) :: t, h => by
    have h : 1 + wk_cats t ≤ n := h
    obtain ⟨h1, h2⟩ := wk_L0_ok (n := n - 1) (As := t) (by omega)
    refine ⟨?_, by show (wk_L0 (n - 1) t).length + 1 = n; omega⟩
    show some (wk_c (.inr (.inl x))) :: wk_lc (wk_L0 (n - 1) t) = some (wk_c (.inr (.inl x))) :: (ab_f (t.map wk_c) ++ List.replicate (n - (1 + wk_cats t)) none)
    rw [h1, Nat.sub_sub]
  | n, .inr (.inr x) :: t, h => by
    have h : 2 + wk_cats t ≤ n := h
    obtain ⟨h1, h2⟩ := wk_L0_ok (n := n - 2) (As := t) (by omega)
    refine ⟨?_, by show (wk_L0 (n - 2) t).length + 1 + 1 = n; omega⟩
    show some (wk_c (.inr (.inr x))) :: none :: wk_lc (wk_L0 (n - 2) t) = some (wk_c (.inr (.inr x))) :: none :: (ab_f (t.map wk_c) ++ List.replicate (n - (2 + wk_cats t)) none)
    rw [h1, Nat.sub_sub]
theorem wk_L0_v : ∀ {n : Nat} {As : List wk_V}, wk_sv As → wk_lv (wk_L0 n As)
  | n, [], _, i, v, h => by
    have := List.eq_of_mem_replicate (List.mem_of_getElem? h)
    cases this
  | n, .inl x :: t, hs, i, v, h => by
    cases i with
    | zero => cases h; exact hs.1
    | succ i => exact wk_L0_v (n := n - 1) hs.2 i v h
  | n, .inr (.inl x) :: t, hs, i, v, h => by
    cases i with
    | zero => cases h; exact hs.1
    | succ i => exact wk_L0_v (n := n - 1) hs.2 i v h
  | n, .inr (.inr x) :: t, hs, i, v, h => by
    match i, h with
    | 0, h => cases h; exact hs.1
    | 1, h => cases h
    | i + 2, h => exact wk_L0_v (n := n - 2) hs.2 i v h
theorem wk_rg_of {G : ab_G} (hG : ab_Gok G) {μ : sm_M} (h : ab_mu G μ) : wk_rg G (wk_of μ) := by
  refine ⟨fun p k => ?_, fun p c n hs i hi => ?_⟩
  · rw [wk_rdN rfl p k]
    exact h p k
  · rw [wk_rdI rfl p hi, ← hG p c n hs i.toNat]
    exact h p _
theorem wk_fr_of {W : List Nat} {μ' μ : sm_M} (h : ab_fr W μ' μ) : wk_fr W (wk_of μ') (wk_of μ) := by
  intro p hp
  obtain ⟨h1, h2⟩ := h p hp
  constructor
  · show (fun i : Int => if i < 0 then 0 else (μ'.1 p i.toNat).toInt) = _
    rw [h1]
    rfl
  · show (fun i : Int => if i < 0 then 0 else μ'.2 p i.toNat) = _
    rw [h2]
    rfl
/-- every head's stretch goes well -/
def wk_hs (K : dp_K) (G : ab_G) (R : wk_R) (nl : Nat) (ret : Option FieldType) (W : List Nat) (F : wk_F) (fin : Option wk_V → wk_M → Prop) (tb : List (Nat × Instr × Nat)) (HD : List wk_H) (m0 : wk_M) : List wk_H → Prop
  | [] => True
  | h :: t => (∀ m, wk_rg G m → wk_fr W m m0 → wk_sp h.2.1 (fun L vs ls => h.2.2.1 vs ls m → wk K G R nl ret W F fin tb HD (fun x => x < h.2.2.2 vs ls m) 400 h.1 L [] (m, [], []))) ∧ wk_hs K G R nl ret W F fin tb HD m0 t
theorem wk_hs_mem {K : dp_K} {G : ab_G} {R : wk_R} {nl : Nat} {ret : Option FieldType} {W : List Nat} {F : wk_F} {fin : Option wk_V → wk_M → Prop} {tb : List (Nat × Instr × Nat)} {HD : List wk_H} {m0 : wk_M} : ∀ {l : List wk_H}, wk_hs K G R nl ret W F fin tb HD m0 l → ∀ {pc : Nat} {h : wk_H}, wk_hd pc l = some h → h.1 = pc ∧ ∀ m, wk_rg G m → wk_fr W m m0 → wk_sp h.2.1 (fun L vs ls => h.2.2.1 vs ls m → wk K G R nl ret W F fin tb HD (fun x => x < h.2.2.2 vs ls m) 400 h.1 L [] (m, [], []))
  | [], _, pc, h, e => by cases e
  | a :: t, hh, pc, h, e => by
    have e : (bif Nat.beq a.1 pc then some a else wk_hd pc t) = some h := e
    cases hb : Nat.beq a.1 pc with
    | true =>
      rw [hb] at e
      cases e
      exact ⟨dp_beq hb, hh.1⟩
    | false =>
      rw [hb] at e
      exact wk_hs_mem hh.2 e
theorem wk_meth {cl : List vw_C} {Z : sm_Z} {y : MethodName} {cc : ByteArray} {W' : List Cond} {nl : Nat} {ret : Option FieldType} {G : ab_G} (hG : ab_Gok G) {R : wk_R} (hR : wk_Rok G R) {tb : List (Nat × Instr × Nat)} (hM : ∀ e ∈ tb, decode cc e.1 = .ok e.2) {K : dp_K} {ys : Nat → MethodName} {wss : Nat → List Cond} (hK : dp_Kok cl Z.2.2.2 y.cls W' ys wss K) (hy : plainName y.cls = true) {lvl : Nat} {W : List Nat} {As : List wk_V} {m : wk_M} {fin : Option wk_V → wk_M → Prop} {HD : List wk_H} (hn : Nat.ble (wk_cats As) nl = true) (hds : wk_rg G m → wk_sv As → wk_hs K G R nl ret W (wk_cl cl Z ys wss G lvl W) fin tb HD m HD) (ent : wk_rg G m → wk_sv As → wk K G R nl ret W (wk_cl cl Z ys wss G lvl W) fin tb HD (fun _ => True) 400 0 (wk_L0 nl As) [] (m, [], [])) (μ : sm_M) (ad : Nat → Nat) (e : wk_of μ = m) (gm : ab_mu G μ) (hs : wk_sv As) : sm_C cl Z y (Cond.code y cc nl ret :: W') (dp_rm lvl (32 * lvl) G.2 G.2) (As.map wk_c) ad G.2 μ (wk_Q G W μ fin) := by
  have hn := Nat.le_of_ble_eq_true hn
  obtain ⟨l1, l2⟩ := wk_L0_ok hn
  have hlen : (lg_sl (As.map wk_c)).length ≤ nl := by
    rw [ab_f_len, wk_f_len]
    exact hn
  have hr := wk_rg_of hG gm
  rw [e] at hr
  have hds := hds hr hs
  have ent := ent hr hs
  refine sm_enter hy hlen (fun X hXZ hX hf => ?_)
  subst hXZ
  have hf' : sm_fin cl X ad G.2 0 0 (wk_Q G W μ fin) := by
    have e1 : (dp_rm lvl (32 * lvl) G.2 G.2).cells = 0 := Nat.sub_self _
    have e2 : (dp_rm lvl (32 * lvl) G.2 G.2).slots = 0 := Nat.sub_self _
    rw [e1, e2] at hf
    exact hf
  have heads : ∀ (B : Nat) (pc : Nat) (h : wk_H), wk_hd pc HD = some h → ∀ (L : wk_L) (m' : wk_M), wk_pk h.2.1 L (fun vs ls => h.2.2.1 vs ls m' ∧ h.2.2.2 vs ls m' < B) → wk_J cl X G W nl ad μ pc L [] (m', [], []) := by
    intro B
    induction B with
    | zero =>
      intro pc h hh L m' hp μ1 e1 gm1 gf1 gl gs gn
      have e1 : wk_of μ1 = m' := e1
      obtain ⟨h1, h2⟩ := wk_hs_mem hds hh
      have hr1 := wk_rg_of hG gm1
      have hf1 := wk_fr_of gf1
      rw [e1] at hr1 hf1
      rw [e] at hf1
      obtain ⟨L', vs, ls, q1, -⟩ := wk_pk_sp hp (h2 m' hr1 hf1) gl
      exact absurd q1.2 (Nat.not_lt_zero _)
    | succ B ih =>
      intro pc h hh L m' hp μ1 e1 gm1 gf1 gl gs gn
      have e1 : wk_of μ1 = m' := e1
      obtain ⟨h1, h2⟩ := wk_hs_mem hds hh
      have hr1 := wk_rg_of hG gm1
      have hf1 := wk_fr_of gf1
      rw [e1] at hr1 hf1
      rw [e] at hf1
      obtain ⟨L', vs, ls, q1, q2, q3, q4⟩ := wk_pk_sp hp (h2 m' hr1 hf1) gl
      have q2 := q2 q1.1
      rw [h1] at q2
      refine sm_E.less (wk_less q4) ?_
      refine wk_ok hX hG hR hK (Nat.le_refl _) (Nat.le_refl _) (Nat.le_add_right _ _) (Nat.le_add_right _ _) hf' hM (fun pc2 h2 hh2 L2 m2 hp2 => ?_) 400 pc L' [] (m', [], []) q2 μ1 e1 gm1 gf1 (fun i v z => gl i v (q4 i v z)) trivial (q3.trans gn)
      intro μ2 e2 gm2 gf2 gl2 gs2 gn2
      refine ih pc2 h2 hh2 L2 m2 ?_ μ2 e2 gm2 gf2 gl2 gs2 gn2
      refine wk_pk_imp (fun vs2 ls2 z => ⟨z.1, ?_⟩) hp2
      have z2 := z.2
      have q5 := q1.2
      omega
  have q := wk_ok hX hG hR hK (Nat.le_refl _) (Nat.le_refl _) (Nat.le_add_right _ _) (Nat.le_add_right _ _) hf' hM (lt := fun _ => True) (fun pc2 h2 hh2 L2 m2 hp2 => ?_) 400 0 _ [] (m, [], []) ent μ e gm (fun _ _ => ⟨rfl, rfl⟩) (wk_L0_v hs) trivial l2
  · rw [l1] at q
    have e3 : sm_L0 nl (As.map wk_c) = ab_f (As.map wk_c) ++ List.replicate (nl - (ab_f (As.map wk_c)).length) none := rfl
    rw [e3, wk_f_len]
    exact q
  · intro μ2 e2 gm2 gf2 gl2 gs2 gn2
    obtain ⟨B, hB⟩ := wk_pk_bd hp2
    exact heads B pc2 h2 hh2 L2 m2 hB μ2 e2 gm2 gf2 gl2 gs2 gn2
def rR_o (p i : Nat) (K : Int → Int → Prop) : Prop := match p with
  | 0 => K 0 1
  | 1 => (match i with
    | 4 => K 0 32
    | 11 => K 0 4
    | _ => K 0 4)
  | 25 => K 0 252
  | 28 => (match i with
    | 7 => K (-1) 6
    | 8 => K 0 32
    | 9 => K 0 600
    | 10 => K 0 600
    | 12 => K (-1) 31
    | 13 => K 0 3
    | 14 => K 0 1
    | _ => K (-2147483648) 2147483647)
  | 29 => K 0 1000000
  | 38 => K 1 5
  | 44 => (match i with
    | 1 => K 0 1
    | 2 => K 0 1
    | _ => K 0 31)
  | 46 => (match i with
    | 0 => K 0 32
    | 5 => K 0 1
    | 6 => K 0 4
    | 20 => K 0 2
    | 21 => K 0 31
    | 24 => K 0 1
    | 25 => K 0 600
    | 26 => K 0 7
    | 30 => K 0 1000000
    | 34 => K 1 5
    | _ => K (-2147483648) 2147483647)
  | _ => K (-2147483648) 2147483647
def rR_a (p : Nat) (K : Int → Int → Prop) : Prop := match p with
  | 2 => K 0 18
  | 6 => K (-1) 31
  | 7 => K (-1) 31
  | 8 => K (-1) 31
  | 9 => K 0 3
  | 10 => K 0 32
  | 11 => K 0 32
  | 12 => K 0 31
  | 27 => K 0 251
  | 32 => K 0 1000000
  | 36 => K 0 3
  | 37 => K (-1) 31
  | 40 => K 0 4
  | 41 => K 0 4
  | 47 => K 0 18
  | 51 => K 0 32
  | 52 => K 0 32
  | 53 => K 0 3
  | 54 => K (-1) 31
  | 55 => K (-1) 31
  | 56 => K (-1) 31
  | 57 => K 0 31
  | 58 => K 0 31
  | 67 => K 0 31
  | 70 => K 0 1000000
  | 72 => K 0 1
  | 73 => K 0 4
  | 74 => K 0 4
  | _ => K (-2147483648) 2147483647
def rR (p i : Nat) (K : Int → Int → Prop) : Prop := match ev_s2[p]? with
  | some (.inl _) => rR_o p i K
  | _ => rR_a p K
theorem rR_ok : wk_Rok rG rR := by
  intro p i K h
  show K (rg p i).1 (rg p i).2
  have h : (match ev_s2[p]? with
    | some (.inl _) => rR_o p i K
    | _ => rR_a p K) := h
  unfold rg
  split at h
  · rename_i x hx
    rw [hx]
    show K (rg_o p i).1 (rg_o p i).2
    unfold rR_o at h
    unfold rg_o
    repeat' split at h
    all_goals first | exact h | ((repeat' split) <;> first | exact h | (exfalso; simp_all; done))
  · rename_i hx
    split
    · rename_i x hy
      exact absurd hy (hx x)
    · unfold rR_a at h
      unfold rg_a
      split at h
      all_goals first | exact h | ((repeat' split) <;> first | exact h | (exfalso; simp_all; done))
/-- a contract of one of the 206 methods -/
def wC (Z : sm_Z) (l j : Nat) (W : List Nat) (As : List wk_V) (m : wk_M) (Q : Option wk_V → wk_M → Prop) : Prop := wk_C tb_cl Z tb_ys tb_ws rG l j W As m Q
theorem wk_E {Z : sm_Z} (hZ : Z.2.2.2 = tb_N) {j nl : Nat} {K : dp_K} {tb : List (Nat × Instr × Nat)} {ret : Option FieldType} {ini : Bool} (hj : dp_lk tb_rec j = some (K, tb, nl, ret, ini)) {lvl : Nat} {W : List Nat} {As : List wk_V} {m : wk_M} {Q : Option wk_V → wk_M → Prop} (HD : List wk_H) (hn : Nat.ble (wk_cats As) nl = true) (hds : wk_rg rG m → wk_sv As → wk_hs K rG rR nl ret W (wk_cl tb_cl Z tb_ys tb_ws rG lvl W) Q tb HD m HD) (ent : wk_rg rG m → wk_sv As → wk K rG rR nl ret W (wk_cl tb_cl Z tb_ys tb_ws rG lvl W) Q tb HD (fun _ => True) 400 0 (wk_L0 nl As) [] (m, [], [])) : wC Z lvl j W As m Q := by
  obtain ⟨g1, g2, g3, g4, g5⟩ := tb_rec_ok _ (dp_lk_mem hj)
  simp only at g1 g2 g3 g4 g5
  intro μ ad e gm hs
  rw [g3]
  exact wk_meth rG_ok rR_ok g2 (hZ ▸ g1) g4 hn hds ent μ ad e gm hs
theorem wC.imp {Z : sm_Z} {l j : Nat} {W : List Nat} {As : List wk_V} {m : wk_M} {Q Q' : Option wk_V → wk_M → Prop} (h : wC Z l j W As m Q) (hi : wk_sv As → ∀ (r : Option wk_V) (m' : wk_M), wk_rg rG m' → wk_fr W m' m → wk_ov r → Q r m' → Q' r m') : wC Z l j W As m Q' := by
  intro μ ad e gm hs
  refine sm_C.imp (h μ ad e gm hs) (fun r sh' μ' q => ?_)
  obtain ⟨q1, q2, q3, r', q4, q5, q6⟩ := q
  have f := wk_fr_of q3
  rw [e] at f
  exact ⟨q1, q2, q3, r', q4, q5, hi hs r' _ (wk_rg_of rG_ok q2) f q5 q6⟩
/-- a call's step -/
theorem wk_use {Z : sm_Z} {l j lvl : Nat} {W W' : List Nat} {As : List wk_V} {m : wk_M} {Q Q' : Option wk_V → wk_M → Prop} (h : wC Z l j W' As m Q) (hl : Nat.ble (l + 1) lvl = true) (hw : ab_sub' W' W = true) (hi : wk_sv As → ∀ (r : Option wk_V) (m' : wk_M), wk_rg rG m' → wk_fr W' m' m → wk_ov r → Q r m' → Q' r m') : wk_cl tb_cl Z tb_ys tb_ws rG lvl W j As m Q' := ⟨l, W', ⟨Nat.le_of_ble_eq_true hl, hw⟩, h.imp hi⟩
def wk_fit : List ab_A → List wk_V → Prop
  | [], [] => True
  | .inl r :: t, .inl x :: u => (r.1 ≤ x ∧ x ≤ r.2) ∧ wk_fit t u
  | .inr (.inl p) :: t, .inr (.inl q) :: u => q = p ∧ wk_fit t u
  | .inr (.inr _) :: t, .inr (.inr _) :: u => wk_fit t u
  | _, _ => False
def wk_rv (o : Option ab_A) (r : Option wk_V) : Prop := match o with
  | none => r = none
  | some (.inl x) => ∃ v : Int, r = some (.inl v) ∧ x.1 ≤ v ∧ v ≤ x.2
  | some (.inr (.inl p)) => r = some (.inr (.inl p))
  | some (.inr (.inr _)) => ∃ y : Int64, r = some (.inr (.inr y))
theorem wk_fit_ok : ∀ {args : List ab_A} {As : List wk_V}, wk_fit args As → wk_sv As → ab_avl args (As.map wk_c)
  | [], [], _, _ => trivial
  | [], a :: u, h, _ => (show False from h).elim
  | a :: t, [], h, _ => by
    rcases a with a | a | a <;> exact (show False from h).elim
  | .inl r :: t, .inl x :: u, h, hs => by
    have hx : ab_lo ≤ x ∧ x ≤ ab_hi := hs.1
    have h : (r.1 ≤ x ∧ x ≤ r.2) ∧ wk_fit t u := h
    refine ⟨?_, wk_fit_ok h.2 hs.2⟩
    show r.1 ≤ (Int32.ofInt x).toInt ∧ (Int32.ofInt x).toInt ≤ r.2
    rw [wk_ti hx]
    exact h.1
  | .inl r :: t, .inr (.inl x) :: u, h, hs => (show False from h).elim
  | .inl r :: t, .inr (.inr x) :: u, h, hs => (show False from h).elim
  | .inr (.inl p) :: t, .inl x :: u, h, hs => (show False from h).elim
  | .inr (.inl p) :: t, .inr (.inl q) :: u, h, hs => by
    have h : q = p ∧ wk_fit t u := h
    exact ⟨h.1, wk_fit_ok h.2 hs.2⟩
  | .inr (.inl p) :: t, .inr (.inr x) :: u, h, hs => (show False from h).elim
  | .inr (.inr p) :: t, .inl x :: u, h, hs => (show False from h).elim
  | .inr (.inr p) :: t, .inr (.inl x) :: u, h, hs => (show False from h).elim
  | .inr (.inr p) :: t, .inr (.inr x) :: u, h, hs => by
    have h : wk_fit t u := h
    exact ⟨trivial, wk_fit_ok h hs.2⟩
/-- a contract over ranges as a contract here -/
theorem wk_ab {Z : sm_Z} {e : ab_C} (h : ab_ok tb_cl Z tb_ys tb_ws rG e) {As : List wk_V} (m : wk_M) (hf : wk_fit e.2.2.1 As) : wC Z e.2.1 e.1 e.2.2.2.2 As m (fun r _ => wk_rv e.2.2.2.1 r) := by
  intro μ ad em gm hs
  refine sm_C.imp (h (As.map wk_c) ad μ (wk_fit_ok hf hs) gm) (fun r sh' μ' q => ?_)
  obtain ⟨q1, q2, q3, q4⟩ := q
  refine ⟨q2, q3, q4, ?_⟩
  unfold ab_rv at q1
  split at q1
  · rename_i e1
    refine ⟨none, rfl, trivial, ?_⟩
    rw [e1]
    rfl
  · rename_i a v e1
    rw [e1]
    rcases a with x | p | u
    · cases v with
      | int n =>
        have q1 : x.1 ≤ n.toInt ∧ n.toInt ≤ x.2 := q1
        refine ⟨some (.inl n.toInt), ?_, ⟨ab_min n, ab_max n⟩, n.toInt, rfl, q1.1, q1.2⟩
        show some (Value.int n) = some (Value.int (Int32.ofInt n.toInt))
        rw [wk_io]
      | _ => exact (show False from q1).elim
    · cases v with
      | ref n =>
        have q1 : n = p := q1
        exact ⟨some (.inr (.inl n)), rfl, trivial, by rw [q1]; rfl⟩
      | _ => exact (show False from q1).elim
    · cases v with
      | long n => exact ⟨some (.inr (.inr n)), rfl, trivial, n, rfl⟩
      | _ => exact (show False from q1).elim
  · exact q1.elim
/-- and back -/
def wk_un : List ab_A → (List wk_V → Prop) → Prop
  | [], k => k []
  | .inl r :: t, k => ∀ x : Int, r.1 ≤ x → x ≤ r.2 → wk_un t (fun As => k (.inl x :: As))
  | .inr (.inl p) :: t, k => wk_un t (fun As => k (.inr (.inl p) :: As))
  | .inr (.inr _) :: t, k => ∀ y : Int64, wk_un t (fun As => k (.inr (.inr y) :: As))
theorem wk_un_ok : ∀ {args : List ab_A} {k : List wk_V → Prop}, wk_un args k → ∀ {vs : List Value}, ab_avl args vs → ∃ As, vs = As.map wk_c ∧ wk_sv As ∧ k As
  | [], k, h, [], _ => ⟨[], rfl, trivial, h⟩
  | [], k, h, _ :: _, q => (show False from q).elim
  | a :: t, k, h, [], q => (show False from q).elim
  | .inl r :: t, k, h, v :: u, q => by
    obtain ⟨q1, q2⟩ := q
    cases v with
    | int n =>
      have q1 : r.1 ≤ n.toInt ∧ n.toInt ≤ r.2 := q1
      have h : wk_un t (fun As => k (.inl n.toInt :: As)) := h n.toInt q1.1 q1.2
      obtain ⟨As, e, s, z⟩ := wk_un_ok h q2
      refine ⟨.inl n.toInt :: As, ?_, ⟨⟨ab_min n, ab_max n⟩, s⟩, z⟩
      show _ = Value.int (Int32.ofInt n.toInt) :: As.map wk_c
      rw [wk_io, e]
    | _ => exact (show False from q1).elim
  | .inr (.inl p) :: t, k, h, v :: u, q => by
    obtain ⟨q1, q2⟩ := q
    cases v with
    | ref n =>
      have q1 : n = p := q1
      have h : wk_un t (fun As => k (.inr (.inl p) :: As)) := h
      obtain ⟨As, e, s, z⟩ := wk_un_ok h q2
      exact ⟨.inr (.inl p) :: As, by rw [q1, e]; rfl, ⟨trivial, s⟩, z⟩
    | _ => exact (show False from q1).elim
  | .inr (.inr p) :: t, k, h, v :: u, q => by
    obtain ⟨q1, q2⟩ := q
    cases v with
    | long n =>
      have h : wk_un t (fun As => k (.inr (.inr n) :: As)) := h n
      obtain ⟨As, e, s, z⟩ := wk_un_ok h q2
      exact ⟨.inr (.inr n) :: As, by rw [e]; rfl, ⟨trivial, s⟩, z⟩
    | _ => exact (show False from q1).elim
theorem wk_ba {Z : sm_Z} {e : ab_C} (h : ∀ m : wk_M, wk_rg rG m → wk_un e.2.2.1 (fun As => wC Z e.2.1 e.1 e.2.2.2.2 As m (fun r _ => wk_rv e.2.2.2.1 r))) : ab_ok tb_cl Z tb_ys tb_ws rG e := by
  intro vs ad μ ha gm
  obtain ⟨As, rfl, hs, z⟩ := wk_un_ok (h (wk_of μ) (wk_rg_of rG_ok gm)) ha
  refine sm_C.imp (z μ ad rfl gm hs) (fun r sh' μ' q => ?_)
  obtain ⟨q1, q2, q3, r', q4, q5, q6⟩ := q
  refine ⟨?_, q1, q2, q3⟩
  subst q4
  unfold wk_rv at q6
  unfold ab_rv
  split at q6
  · rename_i e1
    rw [e1, q6]
    trivial
  · rename_i x e1
    obtain ⟨v, rfl, h1, h2⟩ := q6
    rw [e1]
    have q5 : ab_lo ≤ v ∧ v ≤ ab_hi := q5
    show x.1 ≤ (Int32.ofInt v).toInt ∧ (Int32.ofInt v).toInt ≤ x.2
    rw [wk_ti q5]
    exact ⟨h1, h2⟩
  · rename_i p e1
    rw [e1, q6]
    exact rfl
  · rename_i u e1
    obtain ⟨y, rfl⟩ := q6
    rw [e1]
    exact trivial
theorem wk_fr_refl (W : List Nat) (m : wk_M) : wk_fr W m m := fun _ _ => ⟨rfl, rfl⟩
theorem wk_fr.trans {W : List Nat} {a b c : wk_M} (h1 : wk_fr W a b) (h2 : wk_fr W b c) : wk_fr W a c := fun p hp => ⟨(h1 p hp).1.trans (h2 p hp).1, (h1 p hp).2.trans (h2 p hp).2⟩
theorem wk_fr.mono {W W' : List Nat} {a b : wk_M} (h : wk_fr W a b) (hs : ab_sub' W W' = true) : wk_fr W' a b := fun p hp => h p (fun z => hp (ab_sub_mem hs z))
theorem wk_u_at (m : wk_M) (p : Nat) (i v : Int) (q : Nat) (j : Int) : (wk_u m p i v).1 q j = if q = p ∧ j = i then v else m.1 q j := rfl
theorem wk_u_ne (m : wk_M) (p : Nat) (i v : Int) {q : Nat} (h : q ≠ p) : (wk_u m p i v).1 q = m.1 q := funext fun j => if_neg (fun z => h z.1)
theorem wk_u_2 (m : wk_M) (p : Nat) (i v : Int) : (wk_u m p i v).2 = m.2 := rfl
theorem wk_ul_1 (m : wk_M) (p : Nat) (i : Int) (v : Int64) : (wk_ul m p i v).1 = m.1 := rfl
theorem wk_ul_at (m : wk_M) (p : Nat) (i : Int) (v : Int64) (q : Nat) (j : Int) : (wk_ul m p i v).2 q j = if q = p ∧ j = i then v else m.2 q j := rfl
theorem wk_ul_ne (m : wk_M) (p : Nat) (i : Int) (v : Int64) {q : Nat} (h : q ≠ p) : (wk_ul m p i v).2 q = m.2 q := funext fun j => if_neg (fun z => h z.1)
theorem wC.gen {Z : sm_Z} {l j : Nat} {W : List Nat} {As : List wk_V} {m : wk_M} {Q : Option wk_V → wk_M → Prop} (h : ∀ Q' : Option wk_V → wk_M → Prop, (∀ r m', Q r m' → Q' r m') → wC Z l j W As m Q') : wC Z l j W As m Q := h Q (fun _ _ z => z)
