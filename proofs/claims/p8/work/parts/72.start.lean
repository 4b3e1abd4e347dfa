/-! THE CLAIM OUT OF ONE WALK OF THE LAW'S BODY. Your part is whole_start (and what it stands on); all else here is the same for every law, but numbers. -/
def R_law : String := "ProgramSlicesLaw"
def lw_P (b : Addr) (xs : List Int32) (args : Array Value) (s : State) : Prop := args = #[.ref b] ∧ s.IntsAt b xs ∧ xs.length ≤ 2560 ∧ (Jvm.Cond.and given_1 narrow_1).before args s = true
def lw_Q (_ : Array Value) (s : State) (o : Outcome) (t : State) : Prop := o = .returned (some (.int 1)) ∧ Framed s o t [] 75 8909
def lw_Z (below : List Frame) (a : Array Value) (s : State) : State → Prop := fun t => ∃ o, t.status = .running ∧ Ended t below o ∧ lw_Q a s o t
/-- the law's own end, with 1 on the stack, nothing written that was there before, its room as the claim has it -/
theorem lw_ret {p : Program} {l : Launch} {e : Env} {s : State} {m : MethodId} {below : List Frame} {meth : Method} {c : Code} {b : Nat} (hx : p.tables.exec = Jvm.exec) (hb : c.code = code) (hr : meth.sig.returnType = ret) (hlocks : meth.locks = false) {pc : Nat} {H : Heap} {ls : Array Slot} (hdg : decode code pc = .ok (.ireturn, 1)) : W p l e room_1 s m #[Value.ref b] below meth c H [] 75 8909 (lw_Z below #[Value.ref b] s) (F0 m pc ls [.int 1]) := by
  intro T hT X
  obtain ⟨fs, hret, hrun, hended, hW, hframe⟩ := X.leave (v := some (.int 1)) (hlocks := hlocks) (fun h => by rw [hr] at h; cases h)
  have hmeth' : T.vm.method? m = some meth := X.method'
  refine ⟨T.setFrames fs, ?_, .returned (some (.int 1)), hrun, hended, rfl, ⟨_, rfl⟩, hW, hframe⟩
  jvm_step X.here [X.here.top, hx, hb, hdg, hmeth', hr, ret, narrow_b1]
  (try refine ⟨rfl, ?_⟩); (try refine ⟨rfl, ?_⟩)
  first | (intro acts; rw [hret _ acts rfl rfl rfl]) | rw [hret _ _ rfl rfl rfl]
  exact Steps.refl _
/-- what holds at the law's entry: the machine, the code, the tables' words (any of lw_tbl by 'hts w (by decide +kernel)'), the script of L ints xs at the cell b, what the Statement gives of the start (any of its parts by flat_of_before) -/
def lw_At (p : Program) (s : State) (m : MethodId) (meth : Method) (c : Code) (b L : Nat) (xs : Nat → Int32) : Prop :=
  p.tables.exec = Jvm.exec ∧ c.code = code ∧ meth.sig.returnType = ret ∧ c.maxLocals = 4 ∧ s.vm.findClass R_law = some m.cls ∧ (∀ w ∈ lw_tbl, w.before #[Value.ref b] s = true) ∧ va_X b L xs s s.heap ∧ b < s.heap.size ∧ meth.locks = false ∧ (Jvm.Cond.and given_1 narrow_1).before #[Value.ref b] s = true
theorem sm_isN_tab {w : Cond} (h : sm_isN w = true) : w.onTables = true := by
  cases w <;> first | rfl | cases h
theorem law_known {args : Array Value} {s : State} (hts : ∀ w ∈ tb_W, w.before args s = true) : ∃ (D : va_G) (cA : Nat → ClassId), va_K D tb_cl (sm_ty cA) s := by
  obtain ⟨cC0, iS0, kn0⟩ := u_known (n := 8) hts tb_u0 (hts _ tb_w1007)
  obtain ⟨cC1, iS1, kn1⟩ := u_known (n := 14) hts tb_u1 (hts _ tb_w192)
  obtain ⟨cC2, iS2, kn2⟩ := u_known (n := 7) hts tb_u2 (hts _ tb_w194)
  obtain ⟨cC3, iS3, kn3⟩ := u_known (n := 6) hts tb_u3 (hts _ tb_w357)
  obtain ⟨cC4, iS4, kn4⟩ := u_known (n := 5) hts tb_u4 (hts _ tb_w196)
  obtain ⟨cC5, iS5, kn5⟩ := u_known (n := 15) hts tb_u5 (hts _ tb_w198)
  obtain ⟨cC6, iS6, kn6⟩ := u_known (n := 4) hts tb_u6 (hts _ tb_w543)
  obtain ⟨cC7, iS7, kn7⟩ := u_known (n := 4) hts tb_u7 (hts _ tb_w200)
  obtain ⟨cC8, iS8, kn8⟩ := u_known (n := 3) hts tb_u8 (hts _ tb_w202)
  obtain ⟨cC9, iS9, kn9⟩ := u_known (n := 4) hts tb_u9 (hts _ tb_w204)
  obtain ⟨cC10, iS10, kn10⟩ := u_known (n := 38) hts tb_u10 (hts _ tb_w1009)
  obtain ⟨a0, k0', c0', f0, g0, i0⟩ := Cond.arrayClass_spec (hts _ tb_w208)
  obtain ⟨a1, k1', c1', f1, g1, i1⟩ := Cond.arrayClass_spec (hts _ tb_w209)
  obtain ⟨a2, k2', c2', f2, g2, i2⟩ := Cond.arrayClass_spec (hts _ tb_w210)
  refine ⟨(fun c => match c with
    | 0 => cC0
    | 1 => cC1
    | 2 => cC2
    | 3 => cC3
    | 4 => cC4
    | 5 => cC5
    | 6 => cC6
    | 7 => cC7
    | 8 => cC8
    | 9 => cC9
    | _ => cC10, fun c => match c with
    | 0 => iS0
    | 1 => iS1
    | 2 => iS2
    | 3 => iS3
    | 4 => iS4
    | 5 => iS5
    | 6 => iS6
    | 7 => iS7
    | 8 => iS8
    | 9 => iS9
    | _ => iS10), fun k => match k with
    | 0 => a0
    | 1 => a1
    | _ => a2, fun c r hr => ?_, fun k r hr => ?_⟩
  · match c, hr with
    | 0, hr => cases hr; exact kn0
    | 1, hr => cases hr; exact kn1
    | 2, hr => cases hr; exact kn2
    | 3, hr => cases hr; exact kn3
    | 4, hr => cases hr; exact kn4
    | 5, hr => cases hr; exact kn5
    | 6, hr => cases hr; exact kn6
    | 7, hr => cases hr; exact kn7
    | 8, hr => cases hr; exact kn8
    | 9, hr => cases hr; exact kn9
    | 10, hr => cases hr; exact kn10
    | n + 11, hr => simp [tb_cl] at hr
  · match k, hr with
    | 0, hr => cases hr; exact ⟨fun n z => ⟨fun k h => (by cases h), k0', g0, c0', i0⟩, f0⟩
    | 1, hr => cases hr; exact ⟨fun n z => ⟨fun k h => (by cases h), k1', g1, c1', i1⟩, f1⟩
    | 2, hr => cases hr; exact ⟨fun n z => ⟨fun k h => (by cases h), k2', g2, c2', i2⟩, f2⟩
    | n + 3, hr => simp [sm_ty] at hr
/-! the memory behind the constructors, where the world looks at it -/
def lwD (p i : Nat) : Int32 := if p = 38 ∨ (p = 46 ∧ i = 34) then 1 else 0
def lwV (p i : Nat) : Bool := match ev_s2[p]? with
  | some (.inl (_, fs)) => (match fs[i]? with
    | some none => true
    | _ => false)
  | some (.inr (kd, n)) => !(Nat.beq kd 2) && Nat.ble (i + 1) n
  | none => false
def lwS (p : Nat) : Nat := match ev_s2[p]? with
  | some (.inl (_, fs)) => fs.length
  | some (.inr (_, n)) => n
  | none => 0
def lwN (μ : sm_M) : sm_M := (fun p i => bif lwV p i then μ.1 p i else lwD p i, μ.2)
theorem lwN_v (μ : sm_M) {p i : Nat} (h : lwV p i = true) : (lwN μ).1 p i = μ.1 p i := by
  show (bif lwV p i then μ.1 p i else lwD p i) = _
  rw [h]
  rfl
theorem lw_arr {cI : ClassId} {n : Nat} {f g : Nat → Int32} (h : ∀ j, j < n → f j = g j) : arrV cI n (fun j => .int (f j)) = arrV cI n (fun j => .int (g j)) := by
  have e : (fun j : Fin n => Value.int (f j.val)) = fun j : Fin n => Value.int (g j.val) := funext fun j => by rw [h j.val j.isLt]
  unfold arrV
  rw [e]
theorem lwN_e {D : va_G} {cl : List vw_C} {ad : Nat → Nat} {cA : Nat → ClassId} {μ : sm_M} {H : Heap} {p : Nat} {x : (Nat × List (Option (Option Nat))) ⊕ (Nat × Nat)} (hs : ev_s2[p]? = some x) (h : va_at D cl (sm_e ad cA μ p x) H) : va_at D cl (sm_e ad cA (lwN μ) p x) H := by
  cases x with
  | inl o =>
    have e : o.2.mapIdx (sm_f ad ((lwN μ).1 p)) = o.2.mapIdx (sm_f ad (μ.1 p)) := by
      apply List.ext_getElem?
      intro i
      rw [List.getElem?_mapIdx, List.getElem?_mapIdx]
      cases hf : o.2[i]? with
      | none => rfl
      | some f =>
        cases f with
        | some f => cases f <;> rfl
        | none =>
          show some (Value.int ((lwN μ).1 p i)) = some (Value.int (μ.1 p i))
          rw [lwN_v μ (by unfold lwV; rw [hs]; show (match o.2[i]? with
            | some none => true
            | _ => false) = true; rw [hf])]
    show va_at D cl (ad p, .inr (o.1, o.2.mapIdx (sm_f ad ((lwN μ).1 p)))) H
    rw [e]
    exact h
  | inr a =>
    obtain ⟨kd, n⟩ := a
    by_cases hk : kd = 2
    · subst hk
      exact h
    · have h : H[ad p]? = some (vp_cell (cA kd) (n, if kd = 2 then .inr (.inl (μ.2 p)) else .inl (μ.1 p))) := h
      show H[ad p]? = some (vp_cell (cA kd) (n, if kd = 2 then .inr (.inl ((lwN μ).2 p)) else .inl ((lwN μ).1 p)))
      rw [if_neg hk] at h ⊢
      rw [h]
      have hb : Nat.beq kd 2 = false := by
        cases hb : Nat.beq kd 2 with
        | false => rfl
        | true => exact absurd (dp_beq hb) hk
      have hv : ∀ j, j < n → lwV p j = true := by
        intro j hj
        unfold lwV
        rw [hs]
        show (!(Nat.beq kd 2) && Nat.ble (j + 1) n) = true
        rw [hb, Nat.ble_eq_true_of_le hj]
        rfl
      rw [vp_cell_i, vp_cell_i]
      exact congrArg some (lw_arr (fun j hj => by rw [lwN_v μ (hv j hj)]))
theorem lwN_E {cl : List vw_C} {X : sm_X} {pc : Nat} {L : List (Option Value)} {st : List Value} {ad : Nat → Nat} {μ : sm_M} (k : sm_E cl X pc L st ad ev_s2 (lwN μ)) : sm_E cl X pc L st ad ev_s2 μ := by
  obtain ⟨⟨l, D, cA, NW⟩, pr, e, R, s, m, args, below, meth, c, nL, A, H0, Q, n0, s0⟩ := X
  intro ls H locs cells slots g1 g2 h1 h2 h3 h4
  have key : ∀ (k : Nat) (q : Nat × va_E), (sm_w ad cA ev_s2 (lwN μ))[k]? = some q → ∃ q', (sm_w ad cA ev_s2 μ)[k]? = some q' ∧ q'.1 = q.1 ∧ (va_at D cl q' H → va_at D cl q H) := by
    intro k q hq
    rw [sm_w_at] at hq
    cases hx : ev_s2[k]? with
    | none => rw [hx] at hq; cases hq
    | some x =>
      rw [hx] at hq
      have hq : sm_e ad cA (lwN μ) k x = q := Option.some.inj hq
      subst hq
      refine ⟨sm_e ad cA μ k x, by rw [sm_w_at, hx]; rfl, by cases x <;> rfl, lwN_e hx⟩
  refine k ls H locs cells slots g1 g2 h1 (fun k q hq => ?_) ⟨fun i j p q hp hq he => ?_, fun k q hq => ?_⟩ h4
  · obtain ⟨q', a, b, c⟩ := key k q hq
    exact c (h2 k q' a)
  · obtain ⟨p', a, b, -⟩ := key i p hp
    obtain ⟨q', a', b', -⟩ := key j q hq
    exact h3.1 i j p' q' a a' (by rw [b, b']; exact he)
  · obtain ⟨q', a, b, -⟩ := key k q hq
    have := h3.2 k q' a
    rw [b] at this
    exact this
theorem lw_rg : (List.range 75).all (fun p => (List.range (lwS p)).all (fun i => !(lwV p i) || (match ev_P2.1 p i with
  | some v => decide ((rg p i).1 ≤ v.toInt) && decide (v.toInt ≤ (rg p i).2)
  | none => false))) = true := by decide +kernel
theorem lwV_lt {p i : Nat} (h : lwV p i = true) : p < 75 ∧ i < lwS p := by
  unfold lwV at h
  unfold lwS
  split at h
  · rename_i c fs hs
    have hl := (List.getElem?_eq_some_iff.mp hs).1
    refine ⟨hl, ?_⟩
    split at h
    · rename_i hf
      exact (List.getElem?_eq_some_iff.mp hf).1
    · cases h
  · rename_i kd n hs
    have hl := (List.getElem?_eq_some_iff.mp hs).1
    rw [Bool.and_eq_true] at h
    exact ⟨hl, Nat.le_of_ble_eq_true h.2⟩
  · cases h
theorem lwD_ok (p i : Nat) : (rg p i).1 ≤ (lwD p i).toInt ∧ (lwD p i).toInt ≤ (rg p i).2 := by
  have e0 : (0 : Int32).toInt = 0 := by decide
  have e1 : (1 : Int32).toInt = 1 := by decide
  have key : ∀ p i, ((rg p i).1 ≤ 0 ∧ 0 ≤ (rg p i).2) ∨ ((p = 38 ∨ (p = 46 ∧ i = 34)) ∧ (rg p i).1 ≤ 1 ∧ 1 ≤ (rg p i).2) := by
    intro p i
    unfold rg
    split
    · unfold rg_o
      repeat' split
      all_goals first | (left; decide) | (right; decide) | (right; refine ⟨?_, by decide, by decide⟩; simp)
    · unfold rg_a
      repeat' split
      all_goals first | (left; decide) | (right; decide)
  unfold lwD
  split
  · rename_i h
    rw [e1]
    rcases key p i with q | q
    · refine ⟨by omega, ?_⟩
      rcases h with h | ⟨h, h2⟩
      · subst h
        exact (by decide : (1 : Int) ≤ 5)
      · subst h h2; decide
    · exact q.2
  · rename_i h
    rw [e0]
    rcases key p i with q | q
    · exact q
    · exact absurd q.1 h
theorem lw_first {μ : sm_M} (h : dp_le ev_P2 μ) : lwI (lwN μ) := by
  have hv : ∀ p i, lwV p i = true → ∃ v, ev_P2.1 p i = some v ∧ μ.1 p i = v ∧ (rg p i).1 ≤ v.toInt ∧ v.toInt ≤ (rg p i).2 := by
    intro p i hp
    obtain ⟨a, b⟩ := lwV_lt hp
    have q := List.all_eq_true.mp (List.all_eq_true.mp lw_rg p (List.mem_range.mpr a)) i (List.mem_range.mpr b)
    rw [hp] at q
    cases he : ev_P2.1 p i with
    | none => rw [he] at q; cases q
    | some v =>
      rw [he] at q
      have q : (decide ((rg p i).1 ≤ v.toInt) && decide (v.toInt ≤ (rg p i).2)) = true := q
      rw [Bool.and_eq_true] at q
      exact ⟨v, rfl, h.1 p i v he, of_decide_eq_true q.1, of_decide_eq_true q.2⟩
  have val : ∀ (p k : Nat) (v : Int32), lwV p k = true → ev_P2.1 p k = some v → (wk_of (lwN μ)).1 p (k : Nat) = v.toInt := by
    intro p k v h1 h2
    rw [wk_rdN rfl p k, lwN_v μ h1, h.1 p k v h2]
  have z0 : (0 : Int32).toInt = 0 := by decide
  have a1 := val 1 4 0 (by decide) (by decide +kernel)
  have a2 := val 0 7 0 (by decide) (by decide +kernel)
  have a3 := val 44 1 0 (by decide) (by decide +kernel)
  have a4 := val 46 0 0 (by decide) (by decide +kernel)
  have a5 := val 46 5 0 (by decide) (by decide +kernel)
  have a6 := val 38 0 1 (by decide) (by decide +kernel)
  have a7 := val 46 34 1 (by decide) (by decide +kernel)
  rw [z0] at a1 a2 a3 a4 a5
  have z1 : (1 : Int32).toInt = 1 := by decide
  have f390 : (wk_of (lwN μ)).1 39 0 = 1 := (val 39 0 1 (by decide) (by decide +kernel)).trans z1
  have f720 : (wk_of (lwN μ)).1 72 0 = 1 := (val 72 0 1 (by decide) (by decide +kernel)).trans z1
  have cz40 : ∀ k, 0 ≤ k → k ≤ 3 → (wk_of (lwN μ)).1 40 k = 0 := by
    intro k k0 k1
    rcases (show k = ((0 : Nat) : Int) ∨ k = ((1 : Nat) : Int) ∨ k = ((2 : Nat) : Int) ∨ k = ((3 : Nat) : Int) by omega) with rfl | rfl | rfl | rfl
    · exact (val 40 0 0 (by decide) (by decide +kernel)).trans z0
    · exact (val 40 1 0 (by decide) (by decide +kernel)).trans z0
    · exact (val 40 2 0 (by decide) (by decide +kernel)).trans z0
    · exact (val 40 3 0 (by decide) (by decide +kernel)).trans z0
  have cz41 : ∀ k, 0 ≤ k → k ≤ 3 → (wk_of (lwN μ)).1 41 k = 0 := by
    intro k k0 k1
    rcases (show k = ((0 : Nat) : Int) ∨ k = ((1 : Nat) : Int) ∨ k = ((2 : Nat) : Int) ∨ k = ((3 : Nat) : Int) by omega) with rfl | rfl | rfl | rfl
    · exact (val 41 0 0 (by decide) (by decide +kernel)).trans z0
    · exact (val 41 1 0 (by decide) (by decide +kernel)).trans z0
    · exact (val 41 2 0 (by decide) (by decide +kernel)).trans z0
    · exact (val 41 3 0 (by decide) (by decide +kernel)).trans z0
  have cz73 : ∀ k, 0 ≤ k → k ≤ 3 → (wk_of (lwN μ)).1 73 k = 0 := by
    intro k k0 k1
    rcases (show k = ((0 : Nat) : Int) ∨ k = ((1 : Nat) : Int) ∨ k = ((2 : Nat) : Int) ∨ k = ((3 : Nat) : Int) by omega) with rfl | rfl | rfl | rfl
    · exact (val 73 0 0 (by decide) (by decide +kernel)).trans z0
    · exact (val 73 1 0 (by decide) (by decide +kernel)).trans z0
    · exact (val 73 2 0 (by decide) (by decide +kernel)).trans z0
    · exact (val 73 3 0 (by decide) (by decide +kernel)).trans z0
  have cz74 : ∀ k, 0 ≤ k → k ≤ 3 → (wk_of (lwN μ)).1 74 k = 0 := by
    intro k k0 k1
    rcases (show k = ((0 : Nat) : Int) ∨ k = ((1 : Nat) : Int) ∨ k = ((2 : Nat) : Int) ∨ k = ((3 : Nat) : Int) by omega) with rfl | rfl | rfl | rfl
    · exact (val 74 0 0 (by decide) (by decide +kernel)).trans z0
    · exact (val 74 1 0 (by decide) (by decide +kernel)).trans z0
    · exact (val 74 2 0 (by decide) (by decide +kernel)).trans z0
    · exact (val 74 3 0 (by decide) (by decide +kernel)).trans z0
  have n1 : (wk_of (lwN μ)).1 38 (0 : Nat) = 1 := a6.trans z1
  have hX : oX (wk_of (lwN μ)).1 := by
    have p0' : ∀ p, 0 ≤ p → p < (wk_of (lwN μ)).1 38 (0 : Nat) → p = 0 := fun p a b => by omega
    refine ⟨fun p a b => ?_, fun p q a b c d => ?_, fun p a b => ?_, fun p q s a b c d e g x y => ?_, fun k k0 k1 => ⟨(cz40 k k0 k1).trans (cz73 k k0 k1).symm, (cz41 k k0 k1).trans (cz74 k k0 k1).symm⟩⟩
    · rw [p0' p a b, f390]
      refine ⟨by decide, fun k k0 k1 => ?_⟩
      rw [n1] at k0
      rcases (show k = 1 ∨ k = 2 ∨ k = 3 ∨ k = 4 by omega) with rfl | rfl | rfl | rfl <;> decide
    · rw [p0' p a b, p0' q c d]
      unfold oB rB
      have e50 : (5 * 0 + 0 : Int) = 0 := by decide
      rw [f390, e50, f720]
      exact ⟨fun _ => by decide, fun _ => by decide⟩
    · rw [p0' p a b]
      unfold oB
      rw [f390]
      decide
    · rw [p0' p a b, p0' s e g]
      unfold oB
      rw [f390]
      decide
  refine ⟨fun p i => ?_, ⟨fun i i0 i1 => by omega, fun z => by omega, fun z => by omega⟩, ⟨fun i i0 i1 => by omega, fun z => by omega⟩, by omega, ⟨⟨by omega, by omega, fun j j0 j1 => by omega⟩, fun z => by omega⟩, hX⟩
  show (rg p i).1 ≤ ((lwN μ).1 p i).toInt ∧ ((lwN μ).1 p i).toInt ≤ (rg p i).2
  cases hb : lwV p i with
  | true =>
    obtain ⟨v, -, e, r1, r2⟩ := hv p i hb
    rw [lwN_v μ hb, e]
    exact ⟨r1, r2⟩
  | false =>
    have e : (lwN μ).1 p i = lwD p i := by
      show (bif lwV p i then μ.1 p i else lwD p i) = _
      rw [hb]
      rfl
    rw [e]
    exact lwD_ok p i
theorem whole_start {p : Program} {e : Env} {s : State} {m : MethodId} {below : List Frame} {meth : Method} {c : Code} (l : Launch) {b L : Nat} {xs : Nat → Int32} (hL : L ≤ 2560) (C0 : lw_At p s m meth c b L xs) : W p l e room_1 s m #[Value.ref b] below meth c s.heap [] 0 0 (lw_Z below #[Value.ref b] s) (entryFrame m ([Value.ref b] : List Value).toArray 4) := by
  obtain ⟨hx, hb, hr, hml, hown, hts, hXs, hbl, hlk, -⟩ := C0
  have hW : ∀ w ∈ tb_W, w.before #[Value.ref b] s = true := fun w hw => hts w (List.mem_filter.mp hw).1
  have hNW : sm_nw tb_N s := fun w hw => ⟨(List.mem_filter.mp hw).2, va_Nw.of (sm_isN_tab (List.mem_filter.mp hw).2) (hts w (List.mem_append_right _ (List.mem_filter.mp hw).1))⟩
  obtain ⟨D, cA, hK⟩ := law_known hW
  have key : ∀ X : sm_X, X = ((l, D, cA, tb_N), p, e, room_1, s, m, #[Value.ref b], below, meth, c, 4, (fun q => s.heap.size ≤ q), s.heap, lw_Z below #[Value.ref b] s, 0, 0) → ∀ (ad : Nat → Nat) (μ : sm_M), ad 1000 = b → sm_E tb_cl X 0 [some (.ref 1000), none, none, none] [] ad [] μ := by
    intro X hXe
    have hX : sm_ok tb_cl X code 4 "ProgramSlicesLaw" tb_W ret room_1 75 8909 false := by
      rw [hXe]
      exact ⟨hx, hb, hml, rfl, hown, hW, hK, hlk, hr, rfl, fun q h => h, rfl, rfl, fun h => (by cases h), hNW⟩
    have hZ : X.1.2.2.2 = tb_N := by rw [hXe]
    have hScr : ∀ ad : Nat → Nat, ad 1000 = b → sm_scr X (ad 1000) L xs := by
      intro ad ha
      rw [hXe, ha]
      exact ⟨hXs, hbl, fun z => absurd hbl (Nat.not_lt.mpr z)⟩
    have fin : ∀ (L' : List (Option Value)) (ad : Nat → Nat) (μ : sm_M), sm_E tb_cl X 683 L' [] ad ev_s2 μ := by
      intro L' ad μ
      refine sm_iconst hX td_L_683 ?_
      rw [hXe]
      intro ls H locs cells slots g1 g2 h1 h2 h3 h4
      have e1 : cells = 75 := g1
      have e2 : slots = 8909 := g2
      subst e1 e2
      exact va_forget (fun q hq => h4.2.2 q hq) (lw_ret hx hb hr hlk td_L_684)
    have loop : ∀ (k : Nat) (i : Int) (ad : Nat → Nat) (μ : sm_M), ad 1000 = b → 0 ≤ i → i ≤ 2560 → (2560 - i).toNat < k → lwI μ → sm_E tb_cl X 18 [some (.ref 1000), some (.ref 0), some (.ref 46), some (.int (Int32.ofInt i))] [] ad ev_s2 μ := by
      intro k
      induction k with
      | zero => intro i ad μ _ _ _ z; exact absurd z (Nat.not_lt_zero _)
      | succ k ih =>
        intro i ad μ ha i0 i9 hk hP
        have hS := hScr ad ha
        refine sm_iloadN hX td_L_18 rfl ?_
        refine sm_aloadN hX td_L_19 rfl ?_
        refine sm_slen hX hS td_L_20 ?_
        refine sm_iconst hX td_L_21 ?_
        refine sm_isub hX td_L_22 ?_
        have eL : Int32.ofNat L - Int32.ofInt 5 = Int32.ofInt ((L : Int) - 5) := by
          rw [Int32.ofInt_sub]
          rfl
        have r1 : ab_lo ≤ (L : Int) - 5 ∧ (L : Int) - 5 ≤ ab_hi := ⟨by show (-2147483648 : Int) ≤ _; omega, by show _ ≤ (2147483647 : Int); omega⟩
        have r2 : ab_lo ≤ i ∧ i ≤ ab_hi := ⟨by show (-2147483648 : Int) ≤ _; omega, by show _ ≤ (2147483647 : Int); omega⟩
        refine sm_icmp_gt hX 683 td_L_23 (by decide) (fun _ => fin _ ad μ) (fun hc => ?_)
        rw [eL, wk_ltI r1 r2] at hc
        refine law_sw hX hZ hL hS i0 (by omega) (fun μ1 h1 => ?_) hP
        refine sm_iincG hX td_L_677 rfl rfl (by decide) ?_
        refine sm_goto hX 18 td_L_680 (by decide) ?_
        rw [← Int32.ofInt_add]
        exact ih (i + 5) ad μ1 ha (by omega) (by omega) (by omega) h1
    intro ad μ ha
    obtain ⟨Cn, Tn, tn, e2, e5, e7, g1, g2, g3, g4, g5⟩ := tb_eL_0
    refine sm_new hX (idx := 7) (ci := 0) tn e2 e5 e7 g1 g2 g3 rfl g4 g5 rfl rfl rfl (by decide) (by decide) td_L_0 (fun ad1 hag1 => ?_)
    have ha1 : ad1 1000 = b := (hag1 1000 (Or.inr (by decide))).trans ha
    refine sm_dup hX td_L_3 rfl ?_
    obtain ⟨r1, r2, r3⟩ := ev_okS_ok ev_R1_ok
    have hP0 : dp_le ev_P0 (sm_z μ 0) := dp_le.z ⟨fun _ _ _ h => (by cases h), fun _ _ _ h => (by cases h)⟩ 0
    have c1 := (tb_cfok hZ tb_prs 4 _ _ _ _ _ r1).2.2 ad1 (sm_z μ 0) hP0
    rw [r3] at c1
    refine tb_iL_0 _ X _ _ _ _ _ _ hZ hX _ _ [.ref 0] ad1 ev_s0 (sm_z μ 0) [.ref 0] _ _ rfl ⟨0, _, _, rfl, rfl⟩ c1 (by decide) (by decide) (by decide) (by decide) (by decide) td_L_4 (fun v ad2 sh' μ1 e1 e2 hag2 hq => ?_)
    obtain ⟨hv, hs, hP1, -⟩ := hq
    rw [r2] at hv
    rw [r3] at hs
    subst hv hs
    have ha2 : ad2 1000 = b := (hag2 1000 (Or.inr (by decide))).trans ha1
    refine ⟨Or.inr ⟨by decide, by decide⟩, ?_⟩
    refine sm_astoreN hX td_L_7 rfl (by decide) ?_
    obtain ⟨Cn, Tn, tn, e2, e5, e7, g1, g2, g3, g4, g5⟩ := tb_eL_1
    refine sm_new hX (idx := 10) (ci := 10) tn e2 e5 e7 g1 g2 g3 rfl g4 g5 (by decide) rfl (by decide) (by decide) (by decide) td_L_8 (fun ad3 hag3 => ?_)
    have ha3 : ad3 1000 = b := (hag3 1000 (Or.inr (by decide))).trans ha2
    refine sm_dup hX td_L_11 rfl ?_
    obtain ⟨r1, r2, r3⟩ := ev_okS_ok ev_R2_ok
    have hP2 : dp_le ev_P1 (sm_z μ1 46) := dp_le.z hP1 46
    have c2 := (tb_cfok hZ tb_prs 4 _ _ _ _ _ r1).2.2 ad3 (sm_z μ1 46) hP2
    rw [r3] at c2
    refine tb_iL_1 _ X _ _ _ _ _ _ hZ hX _ _ [.ref 46] ad3 ev_s1m (sm_z μ1 46) [.ref 46] _ _ rfl ⟨46, _, _, rfl, rfl⟩ c2 (by decide) (by decide) (by decide) (by decide) (by decide) td_L_12 (fun v ad4 sh' μ2 e1 e2 hag4 hq => ?_)
    obtain ⟨hv, hs, hP3, -⟩ := hq
    rw [r2] at hv
    rw [r3] at hs
    subst hv hs
    have ha4 : ad4 1000 = b := (hag4 1000 (Or.inr (by decide))).trans ha3
    refine ⟨Or.inr ⟨by decide, by decide⟩, ?_⟩
    refine sm_astoreN hX td_L_15 rfl (by decide) ?_
    refine sm_iconst hX td_L_16 ?_
    refine sm_istoreN hX td_L_17 rfl (by decide) ?_
    exact lwN_E (loop 2561 0 ad4 (lwN μ2) ha4 (by omega) (by omega) (by decide) (lw_first hP3))
  have h := key _ rfl (fun q => if q = 1000 then b else 0) (fun _ _ => 0, fun _ _ => 0) (by simp)
  have hl := lv_entry ([Value.ref b] : List Value) (n := 4) (Nat.le_of_ble_eq_true rfl)
  rw [lg_entry_eq]
  refine h _ s.heap [] 0 0 rfl rfl ⟨hl.1, hl.2.1, fun i v hi => ?_⟩ (fun k q hk => ?_) ⟨fun i j x y hi => ?_, fun k q hk => ?_⟩ va_S.rf
  · match i, hi with
    | 0, hi =>
      have e : Value.ref 1000 = v := by simpa using hi
      rw [← e]
      exact hl.2.2 (0, Value.ref b) (by simp [lv_args])
    | 1, hi => cases hi
    | 2, hi => cases hi
    | 3, hi => cases hi
    | n + 4, hi => simp at hi
  · cases hk
  · cases hi
  · cases hk
