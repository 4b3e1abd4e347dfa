/-! a memory of which a part is known -/
abbrev dp_P : Type := (Nat → Nat → Option Int32) × (Nat → Nat → Option Int64)
def dp_le (P : dp_P) (μ : sm_M) : Prop := (∀ p i v, P.1 p i = some v → μ.1 p i = v) ∧ ∀ p i v, P.2 p i = some v → μ.2 p i = v
def dp_ui (P : dp_P) (p i : Nat) (v : Int32) : dp_P := (fun q j => bif Nat.beq q p then (bif Nat.beq j i then some v else P.1 q j) else P.1 q j, P.2)
def dp_ul (P : dp_P) (p i : Nat) (v : Int64) : dp_P := (P.1, fun q j => bif Nat.beq q p then (bif Nat.beq j i then some v else P.2 q j) else P.2 q j)
def dp_z (P : dp_P) (p : Nat) : dp_P := (fun q j => bif Nat.beq q p then some 0 else P.1 q j, fun q j => bif Nat.beq q p then some 0 else P.2 q j)
theorem dp_beq {a b : Nat} (h : Nat.beq a b = true) : a = b := Nat.eq_of_beq_eq_true h
theorem dp_bne {a b : Nat} (h : Nat.beq a b = false) : a ≠ b := Nat.ne_of_beq_eq_false h
theorem dp_le.ui {P : dp_P} {μ : sm_M} (h : dp_le P μ) (p i : Nat) (v : Int32) : dp_le (dp_ui P p i v) (sm_ui μ p i v) := by
  refine ⟨fun q j u hu0 => ?_, h.2⟩
  have hu : (bif Nat.beq q p then (bif Nat.beq j i then some v else P.1 q j) else P.1 q j) = some u := hu0
  clear hu0
  cases h1 : Nat.beq q p with
  | false =>
    rw [h1] at hu
    have := dp_bne h1
    simp only [sm_ui, this, if_false]
    exact h.1 q j u hu
  | true =>
    rw [h1] at hu
    have e1 := dp_beq h1
    subst e1
    cases h2 : Nat.beq j i with
    | false =>
      rw [h2] at hu
      have := dp_bne h2
      simp only [sm_ui, upd, this, if_true, if_false]
      exact h.1 q j u hu
    | true =>
      rw [h2] at hu
      have e2 := dp_beq h2
      subst e2
      simp only [sm_ui, upd, if_true]
      exact Option.some.inj hu
theorem dp_le.ul {P : dp_P} {μ : sm_M} (h : dp_le P μ) (p i : Nat) (v : Int64) : dp_le (dp_ul P p i v) (sm_ul μ p i v) := by
  refine ⟨h.1, fun q j u hu0 => ?_⟩
  have hu : (bif Nat.beq q p then (bif Nat.beq j i then some v else P.2 q j) else P.2 q j) = some u := hu0
  clear hu0
  cases h1 : Nat.beq q p with
  | false =>
    rw [h1] at hu
    have := dp_bne h1
    simp only [sm_ul, this, if_false]
    exact h.2 q j u hu
  | true =>
    rw [h1] at hu
    have e1 := dp_beq h1
    subst e1
    cases h2 : Nat.beq j i with
    | false =>
      rw [h2] at hu
      have := dp_bne h2
      simp only [sm_ul, vp_updL, this, if_true, if_false]
      exact h.2 q j u hu
    | true =>
      rw [h2] at hu
      have e2 := dp_beq h2
      subst e2
      simp only [sm_ul, vp_updL, if_true]
      exact Option.some.inj hu
theorem dp_le.z {P : dp_P} {μ : sm_M} (h : dp_le P μ) (p : Nat) : dp_le (dp_z P p) (sm_z μ p) := by
  refine ⟨fun q j u hu0 => ?_, fun q j u hu0 => ?_⟩
  · have hu : (bif Nat.beq q p then some 0 else P.1 q j) = some u := hu0
    clear hu0
    cases h1 : Nat.beq q p with
    | false =>
      rw [h1] at hu
      have := dp_bne h1
      simp only [sm_z, this, if_false]
      exact h.1 q j u hu
    | true =>
      rw [h1] at hu
      have e1 := dp_beq h1
      subst e1
      simp only [sm_z, if_true]
      exact Option.some.inj hu
  · have hu : (bif Nat.beq q p then some 0 else P.2 q j) = some u := hu0
    clear hu0
    cases h1 : Nat.beq q p with
    | false =>
      rw [h1] at hu
      have := dp_bne h1
      simp only [sm_z, this, if_false]
      exact h.2 q j u hu
    | true =>
      rw [h1] at hu
      have e1 := dp_beq h1
      subst e1
      simp only [sm_z, if_true]
      exact Option.some.inj hu
/-! numbers are worked out at once -/
def dp_nf {α : Type} (n : Nat) (k : Nat → α) : α := match n with
  | 0 => k 0
  | m + 1 => k (m + 1)
theorem dp_nf_eq {α : Type} (n : Nat) (k : Nat → α) : dp_nf n k = k n := by cases n <;> rfl
def dp_fi {α : Type} (x : Int32) (k : Int32 → α) : α := dp_nf x.toUInt32.toBitVec.toNat (fun n => k ⟨⟨BitVec.ofNat 32 n⟩⟩)
theorem dp_fi_eq {α : Type} (x : Int32) (k : Int32 → α) : dp_fi x k = k x := by
  unfold dp_fi
  rw [dp_nf_eq, BitVec.ofNat_toNat, BitVec.setWidth_eq]
def dp_fl {α : Type} (x : Int64) (k : Int64 → α) : α := dp_nf x.toUInt64.toBitVec.toNat (fun n => k ⟨⟨BitVec.ofNat 64 n⟩⟩)
theorem dp_fl_eq {α : Type} (x : Int64) (k : Int64 → α) : dp_fl x k = k x := by
  unfold dp_fl
  rw [dp_nf_eq, BitVec.ofNat_toNat, BitVec.setWidth_eq]
/-! which places were written: between two numbers -/
def dp_wu (w : Nat × Nat) (p : Nat) : Nat × Nat := (bif Nat.ble w.1 p then w.1 else p, bif Nat.ble (p + 1) w.2 then w.2 else p + 1)
def dp_wj (w w' : Nat × Nat) : Nat × Nat := (bif Nat.ble w.1 w'.1 then w.1 else w'.1, bif Nat.ble w'.2 w.2 then w.2 else w'.2)
def dp_ou (w : Nat × Nat) (μ' μ : sm_M) : Prop := ∀ q, (q < w.1 ∨ w.2 ≤ q) → μ'.1 q = μ.1 q ∧ μ'.2 q = μ.2 q
theorem dp_bl {b : Bool} {x y : Nat} : (bif b then x else y) = if b = true then x else y := by cases b <;> rfl
theorem dp_wu_out {w : Nat × Nat} {p q : Nat} (h : q < (dp_wu w p).1 ∨ (dp_wu w p).2 ≤ q) : q ≠ p ∧ (q < w.1 ∨ w.2 ≤ q) := by
  unfold dp_wu at h
  simp only [dp_bl, Nat.ble_eq] at h
  split at h <;> split at h <;> omega
theorem dp_wj_out {w w' : Nat × Nat} {q : Nat} (h : q < (dp_wj w w').1 ∨ (dp_wj w w').2 ≤ q) : (q < w.1 ∨ w.2 ≤ q) ∧ (q < w'.1 ∨ w'.2 ≤ q) := by
  unfold dp_wj at h
  simp only [dp_bl, Nat.ble_eq] at h
  split at h <;> split at h <;> omega
theorem dp_ou.ui {w : Nat × Nat} {μ μ0 : sm_M} (h : dp_ou w μ μ0) (p i : Nat) (v : Int32) : dp_ou (dp_wu w p) (sm_ui μ p i v) μ0 := by
  intro q hq
  obtain ⟨h1, h2⟩ := dp_wu_out hq
  have h3 := h q h2
  simpa [sm_ui, h1] using h3
theorem dp_ou.ul {w : Nat × Nat} {μ μ0 : sm_M} (h : dp_ou w μ μ0) (p i : Nat) (v : Int64) : dp_ou (dp_wu w p) (sm_ul μ p i v) μ0 := by
  intro q hq
  obtain ⟨h1, h2⟩ := dp_wu_out hq
  have h3 := h q h2
  simpa [sm_ul, h1] using h3
theorem dp_ou.z {w : Nat × Nat} {μ μ0 : sm_M} (h : dp_ou w μ μ0) (p : Nat) : dp_ou (dp_wu w p) (sm_z μ p) μ0 := by
  intro q hq
  obtain ⟨h1, h2⟩ := dp_wu_out hq
  have h3 := h q h2
  simpa [sm_z, h1] using h3
theorem dp_ou.tr {w w' : Nat × Nat} {μ'' μ' μ : sm_M} (h : dp_ou w μ' μ) (h' : dp_ou w' μ'' μ') : dp_ou (dp_wj w w') μ'' μ := by
  intro q hq
  obtain ⟨h1, h2⟩ := dp_wj_out hq
  have h3 := h q h1
  have h4 := h' q h2
  exact ⟨h4.1.trans h3.1, h4.2.trans h3.2⟩
def dp_w0 : Nat × Nat := (1000000, 0)
theorem dp_ou.rf {μ : sm_M} : dp_ou dp_w0 μ μ := fun _ _ => ⟨rfl, rfl⟩
theorem dp_ou.all {w : Nat × Nat} {μ' μ : sm_M} (h : dp_ou w μ' μ) (hw : w.2 ≤ w.1) : μ' = μ := by
  obtain ⟨a', b'⟩ := μ'
  obtain ⟨a, b⟩ := μ
  have e1 : a' = a := funext fun q => (h q (by omega)).1
  have e2 : b' = b := funext fun q => (h q (by omega)).2
  rw [e1, e2]
/-! where a run stands: pc, locals, stack, shape, memory, has it written; what it ends with; a class's tables: fields, constants, long constants, calls, classes, Object's constructor; its method: instructions, locals, answer, constructor -/
abbrev dp_w : Type := Nat × Nat
abbrev dp_T : Type := Nat × List (Option Value) × List Value × sm_S × dp_P × dp_w
abbrev dp_R : Type := Option Value × sm_S × dp_P × dp_w
abbrev dp_K : Type := (Nat → Option (Nat × Nat × Nat)) × (Nat → Option Int32) × (Nat → Option Int64) × (Nat → Option (Nat × Nat × Nat)) × (Nat → Option (Nat × List (Option (Option Nat)))) × Nat
abbrev dp_M : Type := List (Nat × Instr × Nat) × Nat × Option FieldType × Bool
abbrev dp_F : Type := Nat → List Value → sm_S → dp_P → Option dp_R
def dp_find (pc : Nat) : List (Nat × Instr × Nat) → Option (Instr × Nat)
  | [] => none
  | (q, i) :: t => bif Nat.beq q pc then some i else dp_find pc t
theorem dp_find_mem {pc : Nat} {tb : List (Nat × Instr × Nat)} {i : Instr × Nat} (h : dp_find pc tb = some i) : (pc, i) ∈ tb := by
  induction tb with
  | nil => cases h
  | cons a t ih =>
    obtain ⟨q, j⟩ := a
    have h : (bif Nat.beq q pc then some j else dp_find pc t) = some i := h
    cases hb : Nat.beq q pc with
    | false => rw [hb] at h; exact List.mem_cons_of_mem _ (ih h)
    | true =>
      rw [hb] at h
      have e1 := dp_beq hb
      have e2 : j = i := Option.some.inj h
      rw [e1, e2]
      exact List.mem_cons_self
def dp_g {α : Type} (b : Bool) (x : Option α) : Option α := bif b then x else none
theorem dp_g_ok {α : Type} {b : Bool} {x : Option α} {y : α} (h : dp_g b x = some y) : b = true ∧ x = some y := by
  cases b with
  | false => cases h
  | true => exact ⟨rfl, h⟩
def dp_o {α β : Type} (o : Option α) (k : α → Option β) : Option β := match o with
  | none => none
  | some a => k a
theorem dp_o_ok {α β : Type} {o : Option α} {k : α → Option β} {y : β} (h : dp_o o k = some y) : ∃ a, o = some a ∧ k a = some y := by
  cases o with
  | none => cases h
  | some a => exact ⟨a, rfl, h⟩
def dp_1i {β : Type} (st : List Value) (k : Int32 → List Value → Option β) : Option β := match st with
  | .int x :: r => k x r
  | _ => none
theorem dp_1i_ok {β : Type} {st : List Value} {k : Int32 → List Value → Option β} {y : β} (h : dp_1i st k = some y) : ∃ x r, st = .int x :: r ∧ k x r = some y := by
  unfold dp_1i at h
  split at h
  · exact ⟨_, _, rfl, h⟩
  · cases h
def dp_1l {β : Type} (st : List Value) (k : Int64 → List Value → Option β) : Option β := match st with
  | .long x :: r => k x r
  | _ => none
theorem dp_1l_ok {β : Type} {st : List Value} {k : Int64 → List Value → Option β} {y : β} (h : dp_1l st k = some y) : ∃ x r, st = .long x :: r ∧ k x r = some y := by
  unfold dp_1l at h
  split at h
  · exact ⟨_, _, rfl, h⟩
  · cases h
def dp_1r {β : Type} (st : List Value) (k : Nat → List Value → Option β) : Option β := match st with
  | .ref x :: r => k x r
  | _ => none
theorem dp_1r_ok {β : Type} {st : List Value} {k : Nat → List Value → Option β} {y : β} (h : dp_1r st k = some y) : ∃ x r, st = .ref x :: r ∧ k x r = some y := by
  unfold dp_1r at h
  split at h
  · exact ⟨_, _, rfl, h⟩
  · cases h
def dp_1v {β : Type} (st : List Value) (k : Value → List Value → Option β) : Option β := match st with
  | x :: r => k x r
  | _ => none
theorem dp_1v_ok {β : Type} {st : List Value} {k : Value → List Value → Option β} {y : β} (h : dp_1v st k = some y) : ∃ x r, st = x :: r ∧ k x r = some y := by
  unfold dp_1v at h
  split at h
  · exact ⟨_, _, rfl, h⟩
  · cases h
def dp_li {β : Type} (L : List (Option Value)) (i : Nat) (k : Int32 → Option β) : Option β := match L[i]? with
  | some (some (.int x)) => k x
  | _ => none
theorem dp_li_ok {β : Type} {L : List (Option Value)} {i : Nat} {k : Int32 → Option β} {y : β} (h : dp_li L i k = some y) : ∃ x, L[i]? = some (some (.int x)) ∧ k x = some y := by
  unfold dp_li at h
  split at h
  · exact ⟨_, by assumption, h⟩
  · cases h
def dp_ll {β : Type} (L : List (Option Value)) (i : Nat) (k : Int64 → Option β) : Option β := match L[i]? with
  | some (some (.long x)) => k x
  | _ => none
theorem dp_ll_ok {β : Type} {L : List (Option Value)} {i : Nat} {k : Int64 → Option β} {y : β} (h : dp_ll L i k = some y) : ∃ x, L[i]? = some (some (.long x)) ∧ k x = some y := by
  unfold dp_ll at h
  split at h
  · exact ⟨_, by assumption, h⟩
  · cases h
def dp_la {β : Type} (L : List (Option Value)) (i : Nat) (k : Nat → Option β) : Option β := match L[i]? with
  | some (some (.ref x)) => k x
  | _ => none
theorem dp_la_ok {β : Type} {L : List (Option Value)} {i : Nat} {k : Nat → Option β} {y : β} (h : dp_la L i k = some y) : ∃ x, L[i]? = some (some (.ref x)) ∧ k x = some y := by
  unfold dp_la at h
  split at h
  · exact ⟨_, by assumption, h⟩
  · cases h
def dp_tg {β : Type} (pc : Nat) (off : Int) (k : Nat → Option β) : Option β := match (pc : Int) + off with
  | .ofNat n => k n
  | .negSucc _ => none
theorem dp_tg_ok {β : Type} {pc : Nat} {off : Int} {k : Nat → Option β} {y : β} (h : dp_tg pc off k = some y) : ∃ n : Nat, (pc : Int) + off = (n : Int) ∧ k n = some y := by
  unfold dp_tg at h
  split at h
  · exact ⟨_, by assumption, h⟩
  · cases h
def dp_ob {β : Type} (sh : sm_S) (p ci : Nat) (k : List (Option (Option Nat)) → Option β) : Option β := match sh[p]? with
  | some (.inl (c, fs)) => bif Nat.beq c ci then k fs else none
  | _ => none
theorem dp_ob_ok {β : Type} {sh : sm_S} {p ci : Nat} {k : List (Option (Option Nat)) → Option β} {y : β} (h : dp_ob sh p ci k = some y) : ∃ fs, sh[p]? = some (.inl (ci, fs)) ∧ k fs = some y := by
  unfold dp_ob at h
  split at h
  · rename_i c fs heq
    cases hb : Nat.beq c ci with
    | false => rw [hb] at h; cases h
    | true =>
      rw [hb] at h
      have e := dp_beq hb
      subst e
      exact ⟨fs, heq, h⟩
  · cases h
def dp_ar {β : Type} (sh : sm_S) (p kd : Nat) (i : Int32) (k : Nat → Option β) : Option β := match sh[p]? with
  | some (.inr (c, n)) => bif Nat.beq c kd && (decide (0 ≤ i) && Nat.ble (i.toNatClampNeg + 1) n) then dp_nf i.toNatClampNeg k else none
  | _ => none
theorem dp_ar_ok {β : Type} {sh : sm_S} {p kd : Nat} {i : Int32} {k : Nat → Option β} {y : β} (h : dp_ar sh p kd i k = some y) : ∃ n, sh[p]? = some (.inr (kd, n)) ∧ vp_in i n ∧ k i.toNatClampNeg = some y := by
  unfold dp_ar at h
  split at h
  · rename_i c n heq
    cases hb : (Nat.beq c kd && (decide (0 ≤ i) && Nat.ble (i.toNatClampNeg + 1) n)) with
    | false => rw [hb] at h; cases h
    | true =>
      rw [hb] at h
      simp only [Bool.and_eq_true, decide_eq_true_eq] at hb
      obtain ⟨h1, h2, h3⟩ := hb
      have e := dp_beq h1
      subst e
      have h3 := Nat.le_of_ble_eq_true h3
      refine ⟨n, heq, fun z => ?_, ?_⟩
      · rcases z with z | z
        · exact absurd h2 (Int32.not_le.mpr z)
        · omega
      · rw [← dp_nf_eq i.toNatClampNeg k]; exact h
  · cases h
def dp_c0 : Jvm.ClassFile.Cond → Int32 → Bool
  | .eq, x => decide (x = 0)
  | .ne, x => !decide (x = 0)
  | .lt, x => decide (x < 0)
  | .ge, x => decide (0 ≤ x)
  | .gt, x => decide (0 < x)
  | .le, x => decide (x ≤ 0)
def dp_c2 : Jvm.ClassFile.Cond → Int32 → Int32 → Bool
  | .eq, x, y => decide (x = y)
  | .ne, x, y => !decide (x = y)
  | .lt, x, y => decide (x < y)
  | .ge, x, y => decide (y ≤ x)
  | .gt, x, y => decide (y < x)
  | .le, x, y => decide (x ≤ y)
def dp_kd : ArrayType → Option Nat
  | .int => some 0
  | .boolean => some 1
  | .long => some 2
  | _ => none
/-- a new cell -/
def dp_nw (L : List (Option Value)) (r : List Value) (sh : sm_S) (x : (Nat × List (Option (Option Nat))) ⊕ (Nat × Nat)) (pc : Nat) (P : dp_P) (w : dp_w) : Option dp_T :=
  dp_g (L.all (sm_no sh.length (sh.length + 1))) (dp_g (r.all (sm_nv sh.length (sh.length + 1))) (dp_g (sh.all (sm_ns sh.length (sh.length + 1))) (some (pc, L, .ref sh.length :: r, sh ++ [x], dp_z P sh.length, dp_wu w sh.length))))
def dp_rc (sh : sm_S) (rc : Nat) (As : List Value) : Bool := match rc with
  | 0 => true
  | ci + 1 => match As with
    | .ref p :: _ => (match sh[p]? with
      | some (.inl (c, _)) => Nat.beq c ci
      | _ => false)
    | _ => false
/-- a call: so many arguments, the callee's number, the receiver's class + 1 or 0 -/
def dp_ca (cf : dp_F) (j na rc pc : Nat) (L : List (Option Value)) (st : List Value) (sh : sm_S) (P : dp_P) (w : dp_w) : Option dp_T :=
  dp_g (Nat.beq (st.take na).length na) (dp_g (dp_rc sh rc (st.take na).reverse) (dp_g (Nat.ble ((st.drop na).map fun v => v.category).sum 8) (dp_o (cf j (st.take na).reverse sh P) (fun R => match R with
    | (v, sh', P', w') => dp_g (Nat.beq sh'.length sh.length || (L.all (sm_no sh.length sh'.length) && (st.drop na).all (sm_nv sh.length sh'.length))) (some (pc + 3, L, v.toList ++ st.drop na, sh', P', dp_wj w w'))))))

def dp_gf {β : Type} (f : Option (Option Nat)) (o : Option Int32) (k : Value → Option β) : Option β := match f with
  | none => dp_o o fun v => k (.int v)
  | some none => none
  | some (some q) => k (.ref q)
def dp_pf {β : Type} (fs : List (Option (Option Nat))) (j fl : Nat) (u : Value) (ini : Bool) (ki : Int32 → Option β) (kr : Nat → Option β) : Option β := match u with
  | .int v => (match fs[j]? with
    | some none => (match fl with
      | 0 => ki v
      | 1 => dp_g (decide (v = 0) || decide (v = 1)) (ki v)
      | _ => none)
    | _ => none)
  | .ref q => dp_g (Nat.beq fl 2) (dp_g ini (dp_g (Nat.ble (j + 1) fs.length) (kr q)))
  | _ => none
def dp_le' {β : Type} (sh : sm_S) (p : Nat) (k : Int32 → Option β) : Option β := match sh[p]? with
  | some (.inr (c, n)) => dp_g (Nat.ble (c + 1) 3) (k (Int32.ofNat n))
  | _ => none
def dp_rt {β : Type} (t : Option FieldType) (v : Int32) (o : Option β) : Option β := match t with
  | some .int => o
  | some .boolean => dp_g (decide (v &&& 1 = v)) o
  | _ => none
/-- one instruction -/
def dp_in (K : dp_K) (M : dp_M) (cf : dp_F) (pc : Nat) (L : List (Option Value)) (st : List Value) (sh : sm_S) (P : dp_P) (w : dp_w) (ins : Instr) (len : Nat) : Option dp_T := match ins with
  | .iadd => dp_g (Nat.beq len 1) (dp_1i st fun y r => dp_1i r fun x r => dp_fi (x + y) fun v => some (pc + 1, L, .int v :: r, sh, P, w))
  | .isub => dp_g (Nat.beq len 1) (dp_1i st fun y r => dp_1i r fun x r => dp_fi (x - y) fun v => some (pc + 1, L, .int v :: r, sh, P, w))
  | .imul => dp_g (Nat.beq len 1) (dp_1i st fun y r => dp_1i r fun x r => dp_fi (x * y) fun v => some (pc + 1, L, .int v :: r, sh, P, w))
  | .iand => dp_g (Nat.beq len 1) (dp_1i st fun y r => dp_1i r fun x r => dp_fi (x &&& y) fun v => some (pc + 1, L, .int v :: r, sh, P, w))
  | .ior => dp_g (Nat.beq len 1) (dp_1i st fun y r => dp_1i r fun x r => dp_fi (x ||| y) fun v => some (pc + 1, L, .int v :: r, sh, P, w))
  | .ixor => dp_g (Nat.beq len 1) (dp_1i st fun y r => dp_1i r fun x r => dp_fi (x ^^^ y) fun v => some (pc + 1, L, .int v :: r, sh, P, w))
  | .ladd => dp_g (Nat.beq len 1) (dp_1l st fun y r => dp_1l r fun x r => dp_fl (x + y) fun v => some (pc + 1, L, .long v :: r, sh, P, w))
  | .lsub => dp_g (Nat.beq len 1) (dp_1l st fun y r => dp_1l r fun x r => dp_fl (x - y) fun v => some (pc + 1, L, .long v :: r, sh, P, w))
  | .land => dp_g (Nat.beq len 1) (dp_1l st fun y r => dp_1l r fun x r => dp_fl (x &&& y) fun v => some (pc + 1, L, .long v :: r, sh, P, w))
  | .lor => dp_g (Nat.beq len 1) (dp_1l st fun y r => dp_1l r fun x r => dp_fl (x ||| y) fun v => some (pc + 1, L, .long v :: r, sh, P, w))
  | .lxor => dp_g (Nat.beq len 1) (dp_1l st fun y r => dp_1l r fun x r => dp_fl (x ^^^ y) fun v => some (pc + 1, L, .long v :: r, sh, P, w))
  | .idiv => dp_g (Nat.beq len 1) (dp_1i st fun y r => dp_1i r fun x r => dp_g (!decide (y = 0)) (dp_fi (x / y) fun v => some (pc + 1, L, .int v :: r, sh, P, w)))
  | .irem => dp_g (Nat.beq len 1) (dp_1i st fun y r => dp_1i r fun x r => dp_g (!decide (y = 0)) (dp_fi (x - x / y * y) fun v => some (pc + 1, L, .int v :: r, sh, P, w)))
  | .ineg => dp_g (Nat.beq len 1) (dp_1i st fun x r => dp_fi (-x) fun v => some (pc + 1, L, .int v :: r, sh, P, w))
  | .iconst i => dp_g (Nat.beq len 1) (dp_fi (Int32.ofInt i) fun v => some (pc + 1, L, .int v :: st, sh, P, w))
  | .bipush i => dp_g (Nat.beq len 2) (dp_fi (Int8.ofInt i).toInt32 fun v => some (pc + 2, L, .int v :: st, sh, P, w))
  | .sipush i => dp_g (Nat.beq len 3) (dp_fi (Int16.ofInt i).toInt32 fun v => some (pc + 3, L, .int v :: st, sh, P, w))
  | .lconst i => dp_g (Nat.beq len 1) (dp_fl (Int64.ofNat (i : Nat)) fun v => some (pc + 1, L, .long v :: st, sh, P, w))
  | .ldc i => dp_g (Nat.beq len 2) (dp_o (K.2.1 i) fun v => some (pc + 2, L, .int v :: st, sh, P, w))
  | .ldc2_w i => dp_g (Nat.beq len 3) (dp_o (K.2.2.1 i) fun v => some (pc + 3, L, .long v :: st, sh, P, w))
  | .i2l => dp_g (Nat.beq len 1) (dp_1i st fun x r => dp_fl x.toInt64 fun v => some (pc + 1, L, .long v :: r, sh, P, w))
  | .l2i => dp_g (Nat.beq len 1) (dp_1l st fun x r => dp_fi x.toInt32 fun v => some (pc + 1, L, .int v :: r, sh, P, w))
  | .iushr => dp_g (Nat.beq len 1) (dp_1i st fun y r => dp_1i r fun x r => dp_fi (x.toUInt32 >>> (y.toUInt32 &&& Int32.toUInt32 31)).toInt32 fun v => some (pc + 1, L, .int v :: r, sh, P, w))
  | .ishl => dp_g (Nat.beq len 1) (dp_1i st fun y r => dp_1i r fun x r => dp_fi (x <<< (y &&& 31)) fun v => some (pc + 1, L, .int v :: r, sh, P, w))
  | .ishr => dp_g (Nat.beq len 1) (dp_1i st fun y r => dp_1i r fun x r => dp_fi (x >>> (y &&& 31)) fun v => some (pc + 1, L, .int v :: r, sh, P, w))
  | .lushr => dp_g (Nat.beq len 1) (dp_1i st fun y r => dp_1l r fun x r => dp_fl (x.toUInt64 >>> (y.toInt64.toUInt64 &&& Int64.toUInt64 63)).toInt64 fun v => some (pc + 1, L, .long v :: r, sh, P, w))
  | .lshl => dp_g (Nat.beq len 1) (dp_1i st fun y r => dp_1l r fun x r => dp_fl (x <<< (y.toInt64 &&& 63)) fun v => some (pc + 1, L, .long v :: r, sh, P, w))
  | .lshr => dp_g (Nat.beq len 1) (dp_1i st fun y r => dp_1l r fun x r => dp_fl (x >>> (y.toInt64 &&& 63)) fun v => some (pc + 1, L, .long v :: r, sh, P, w))
  | .lcmp => dp_g (Nat.beq len 1) (dp_1l st fun y r => dp_1l r fun x r => dp_fi (lg_cmp x y) fun v => some (pc + 1, L, .int v :: r, sh, P, w))
  | .dup => dp_g (Nat.beq len 1) (dp_1v st fun a r => dp_g (Nat.beq a.category 1) (some (pc + 1, L, a :: a :: r, sh, P, w)))
  | .pop => dp_g (Nat.beq len 1) (dp_1v st fun a r => dp_g (Nat.beq a.category 1) (some (pc + 1, L, r, sh, P, w)))
  | .dup_x1 => dp_g (Nat.beq len 1) (dp_1v st fun a r => dp_1v r fun b r => dp_g (Nat.beq a.category 1) (dp_g (Nat.beq b.category 1) (some (pc + 1, L, a :: b :: a :: r, sh, P, w))))
  | .dup2 => dp_g (Nat.beq len 1) (dp_1v st fun a r => dp_1v r fun b r => dp_g (Nat.beq a.category 1) (dp_g (Nat.beq b.category 1) (some (pc + 1, L, a :: b :: a :: b :: r, sh, P, w))))
  | .iload i => dp_g (Nat.beq len 2) (dp_li L i fun x => some (pc + 2, L, .int x :: st, sh, P, w))
  | .iload_n i => dp_g (Nat.beq len 1) (dp_li L (i : Nat) fun x => some (pc + 1, L, .int x :: st, sh, P, w))
  | .istore i => dp_g (Nat.beq len 2) (dp_1i st fun x r => dp_g (sm_ah L i) (dp_g (Nat.ble (i + 1) M.2.1) (some (pc + 2, (L.set i (some (.int x))), r, sh, P, w))))
  | .istore_n i => dp_g (Nat.beq len 1) (dp_1i st fun x r => dp_g (sm_ah L (i : Nat)) (dp_g (Nat.ble ((i : Nat) + 1) M.2.1) (some (pc + 1, (L.set (i : Nat) (some (.int x))), r, sh, P, w))))
  | .lload i => dp_g (Nat.beq len 2) (dp_ll L i fun x => some (pc + 2, L, .long x :: st, sh, P, w))
  | .lload_n i => dp_g (Nat.beq len 1) (dp_ll L (i : Nat) fun x => some (pc + 1, L, .long x :: st, sh, P, w))
  | .lstore i => dp_g (Nat.beq len 2) (dp_1l st fun x r => dp_g (sm_ah L i) (dp_g (Nat.ble (i + 2) M.2.1) (some (pc + 2, ((L.set i (some (.long x))).set (i + 1) none), r, sh, P, w))))
  | .lstore_n i => dp_g (Nat.beq len 1) (dp_1l st fun x r => dp_g (sm_ah L (i : Nat)) (dp_g (Nat.ble ((i : Nat) + 2) M.2.1) (some (pc + 1, ((L.set (i : Nat) (some (.long x))).set ((i : Nat) + 1) none), r, sh, P, w))))
  | .aload i => dp_g (Nat.beq len 2) (dp_la L i fun x => some (pc + 2, L, .ref x :: st, sh, P, w))
  | .aload_n i => dp_g (Nat.beq len 1) (dp_la L (i : Nat) fun x => some (pc + 1, L, .ref x :: st, sh, P, w))
  | .astore i => dp_g (Nat.beq len 2) (dp_1r st fun x r => dp_g (sm_ah L i) (dp_g (Nat.ble (i + 1) M.2.1) (some (pc + 2, (L.set i (some (.ref x))), r, sh, P, w))))
  | .astore_n i => dp_g (Nat.beq len 1) (dp_1r st fun x r => dp_g (sm_ah L (i : Nat)) (dp_g (Nat.ble ((i : Nat) + 1) M.2.1) (some (pc + 1, (L.set (i : Nat) (some (.ref x))), r, sh, P, w))))
  | .iinc i z => dp_g (Nat.beq len 3) (dp_li L i fun x => dp_g (sm_ah L i) (dp_g (Nat.ble (i + 1) M.2.1) (dp_fi (x + Int32.ofInt z) fun v => some (pc + 3, (L.set i (some (.int v))), st, sh, P, w))))
  | .ifCond cn off => dp_g (Nat.beq len 3) (dp_1i st fun x r => dp_tg pc off fun t => bif dp_c0 cn x then some (t, L, r, sh, P, w) else some (pc + 3, L, r, sh, P, w))
  | .if_icmp cn off => dp_g (Nat.beq len 3) (dp_1i st fun y r => dp_1i r fun x r => dp_tg pc off fun t => bif dp_c2 cn x y then some (t, L, r, sh, P, w) else some (pc + 3, L, r, sh, P, w))
  | .goto off => dp_g (Nat.beq len 3) (dp_tg pc off fun t => some (t, L, st, sh, P, w))
  | .lookupswitch dflt ps => dp_1i st fun x r => dp_g ((ps.toList.zip (ps.toList.drop 1)).all (fun (a, next) => a.1 < next.1)) (dp_tg pc (Op.lookupswitch.offset ps.toList dflt x.toInt) fun t => some (t, L, r, sh, P, w))
  | .tableswitch dflt lo hi offs => dp_1i st fun x r => bif decide (x.toInt < lo ∨ hi < x.toInt) then dp_tg pc dflt fun t => some (t, L, r, sh, P, w) else dp_o offs[(x.toInt - lo).toNat]? fun off => dp_tg pc off fun t => some (t, L, r, sh, P, w)
  | .getfield i => dp_g (Nat.beq len 3) (dp_1r st fun p r => dp_o (K.1 i) fun F => dp_ob sh p F.1 fun fs => dp_o fs[F.2.1]? fun f => dp_gf f (P.1 p F.2.1) fun v => some (pc + 3, L, v :: r, sh, P, w))
  | .putfield i => dp_g (Nat.beq len 3) (dp_1v st fun u r => dp_1r r fun p r => dp_o (K.1 i) fun F => dp_ob sh p F.1 fun fs => dp_pf fs F.2.1 F.2.2 u M.2.2.2 (fun v => some (pc + 3, L, r, sh, dp_ui P p F.2.1 v, dp_wu w p)) (fun q => some (pc + 3, L, r, sh.set p (.inl (F.1, fs.set F.2.1 (some (some q)))), P, w)))
  | .iaload => dp_g (Nat.beq len 1) (dp_1i st fun i r => dp_1r r fun p r => dp_ar sh p 0 i fun j => dp_o (P.1 p j) fun v => some (pc + 1, L, .int v :: r, sh, P, w))
  | .baload => dp_g (Nat.beq len 1) (dp_1i st fun i r => dp_1r r fun p r => dp_ar sh p 1 i fun j => dp_o (P.1 p j) fun v => some (pc + 1, L, .int v :: r, sh, P, w))
  | .laload => dp_g (Nat.beq len 1) (dp_1i st fun i r => dp_1r r fun p r => dp_ar sh p 2 i fun j => dp_o (P.2 p j) fun v => some (pc + 1, L, .long v :: r, sh, P, w))
  | .iastore => dp_g (Nat.beq len 1) (dp_1i st fun x r => dp_1i r fun i r => dp_1r r fun p r => dp_ar sh p 0 i fun j => some (pc + 1, L, r, sh, dp_ui P p j x, dp_wu w p))
  | .bastore => dp_g (Nat.beq len 1) (dp_1i st fun x r => dp_1i r fun i r => dp_1r r fun p r => dp_ar sh p 1 i fun j => dp_fi (vp_nar .boolean x) fun v => some (pc + 1, L, r, sh, dp_ui P p j v, dp_wu w p))
  | .lastore => dp_g (Nat.beq len 1) (dp_1l st fun x r => dp_1i r fun i r => dp_1r r fun p r => dp_ar sh p 2 i fun j => some (pc + 1, L, r, sh, dp_ul P p j x, dp_wu w p))
  | .arraylength => dp_g (Nat.beq len 1) (dp_1r st fun p r => dp_le' sh p fun n => some (pc + 1, L, .int n :: r, sh, P, w))
  | .new i => dp_g (Nat.beq len 3) (dp_o (K.2.2.2.2.1 i) fun C => dp_nw L st sh (.inl C) (pc + 3) P w)
  | .newarray at' => dp_g (Nat.beq len 2) (dp_1i st fun n r => dp_o (dp_kd at') fun kd => dp_g (decide (0 ≤ n)) (dp_nf n.toNatClampNeg fun len' => dp_g (Nat.ble len' 100000) (dp_nw L r sh (.inr (kd, len')) (pc + 2) P w)))
  | .invokespecial i => dp_g (Nat.beq len 3) (bif Nat.beq i K.2.2.2.2.2 then dp_1r st fun _ r => dp_g (Nat.ble (r.map fun v => v.category).sum 8) (some (pc + 3, L, r, sh, P, w)) else dp_o (K.2.2.2.1 (3 * i + 2)) fun C => dp_ca cf C.1 C.2.1 C.2.2 pc L st sh P w)
  | .invokestatic i => dp_g (Nat.beq len 3) (dp_o (K.2.2.2.1 (3 * i)) fun C => dp_ca cf C.1 C.2.1 C.2.2 pc L st sh P w)
  | .invokevirtual i => dp_g (Nat.beq len 3) (dp_o (K.2.2.2.1 (3 * i + 1)) fun C => dp_ca cf C.1 C.2.1 C.2.2 pc L st sh P w)
  | _ => none
def dp_rn (M : dp_M) (st : List Value) (sh : sm_S) (P : dp_P) (w : dp_w) (ins : Instr) (len : Nat) : Option dp_R := match ins with
  | .ireturn => dp_g (Nat.beq len 1) (dp_1i st fun v r => dp_g r.isEmpty (dp_rt M.2.2.1 v (some (some (.int v), sh, P, w))))
  | .lreturn => dp_g (Nat.beq len 1) (dp_1l st fun v r => dp_g r.isEmpty (match M.2.2.1 with
    | some .long => some (some (.long v), sh, P, w)
    | _ => none))
  | .return_ => dp_g (Nat.beq len 1) (dp_g st.isEmpty (match M.2.2.1 with
    | none => some (none, sh, P, w)
    | _ => none))
  | _ => none
def dp_ck (sh sh' : sm_S) : Bool := Nat.ble sh.length sh'.length && Nat.ble (sm_sl sh) (sm_sl sh')
def dp_st (K : dp_K) (M : dp_M) (cf : dp_F) (s : dp_T) : Option (dp_T ⊕ dp_R) := match s with
  | (pc, L, st, sh, P, w) => dp_nf pc fun pc => dp_o (dp_find pc M.1) fun i => match dp_rn M st sh P w i.1 i.2 with
    | some R => some (.inr R)
    | none => dp_o (dp_in K M cf pc L st sh P w i.1 i.2) fun s' => dp_g (dp_ck sh s'.2.2.2.1) (some (.inl s'))
/-- 2 ^ k instructions -/
def dp_go (K : dp_K) (M : dp_M) (cf : dp_F) : Nat → dp_T → Option (dp_T ⊕ dp_R)
  | 0, s => dp_st K M cf s
  | k + 1, s => match dp_go K M cf k s with
    | some (.inl s') => dp_go K M cf k s'
    | some (.inr R) => some (.inr R)
    | none => none
