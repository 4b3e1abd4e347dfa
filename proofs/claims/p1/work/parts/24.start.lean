/-! THE CLAIM OUT OF ONE WALK OF THE LAW'S BODY. Your part is whole_start (and what it stands on); all else here is the same for every law, but numbers. -/
def R_law : String := "ProgramSlicesLaw"
def lw_P (b : Addr) (xs : List Int32) (args : Array Value) (s : State) : Prop := args = #[.ref b] ∧ s.IntsAt b xs ∧ xs.length ≤ 5 ∧ (Jvm.Cond.and given_1 narrow_1).before args s = true
def lw_Q (_ : Array Value) (s : State) (o : Outcome) (t : State) : Prop := o = .returned (some (.int 1)) ∧ Framed s o t [] 75 8909
def lw_Z (below : List Frame) (a : Array Value) (s : State) : State → Prop := fun t => ∃ o, t.status = .running ∧ Ended t below o ∧ lw_Q a s o t
/-- the law's own end, with 1 on the stack, nothing written that was there before, its room as the claim has it -/
theorem lw_ret {p : Program} {l : Launch} {e : Env} {s : State} {m : MethodId} {below : List Frame} {meth : Method} {c : Code} {b : Nat} (hx : p.tables.exec = Jvm.exec) (hb : c.code = code) (hr : meth.sig.returnType = ret) (hlocks : meth.locks = false) {pc : Nat} {H : Heap} {ls : Array Slot} (hdg : decode code pc = .ok (.ireturn, 1)) : W p l e room_1 s m #[Value.ref b] below meth c H [] 75 8909 (lw_Z below #[Value.ref b] s) (F0 m pc ls [.int 1]) := by
  intro T hT X
  obtain ⟨fs, hret, hrun, hended, hW, hframe⟩ := X.leave (v := some (.int 1)) (hlocks := hlocks) (fun h => by rw [hr] at h; cases h)
  have hmeth' : T.vm.method? m = some meth := X.method'
  refine ⟨T.setFrames fs, ?_, .returned (some (.int 1)), hrun, hended, rfl, ⟨_, rfl⟩, hW, hframe⟩
  jvm_step X.here [X.here.top, hx, hb, hdg, hmeth', hr, ret, narrow_b1]
  (try refine ⟨rfl, ?_⟩); (try refine ⟨rfl, ?_⟩)
  first | (intro acts; rw [hret _ acts rfl rfl rfl]) | rw [hret _ _ rfl rfl rfl]
  exact Steps.refl _
/-- what holds at the law's entry: the machine, the code, the tables' words (any of lw_tbl by 'hts w (by decide +kernel)'), the script of L ints xs at the cell b, what the Statement gives of the start (any of its parts by flat_of_before) -/
def lw_At (p : Program) (s : State) (m : MethodId) (meth : Method) (c : Code) (b L : Nat) (xs : Nat → Int32) : Prop :=
  p.tables.exec = Jvm.exec ∧ c.code = code ∧ meth.sig.returnType = ret ∧ c.maxLocals = 4 ∧ s.vm.findClass R_law = some m.cls ∧ (∀ w ∈ lw_tbl, w.before #[Value.ref b] s = true) ∧ va_X b L xs s s.heap ∧ b < s.heap.size ∧ meth.locks = false ∧ (Jvm.Cond.and given_1 narrow_1).before #[Value.ref b] s = true
theorem sm_isN_tab {w : Cond} (h : sm_isN w = true) : w.onTables = true := by
  cases w <;> first | rfl | cases h
theorem law_known {args : Array Value} {s : State} (hts : ∀ w ∈ tb_W, w.before args s = true) : ∃ (D : va_G) (cA : Nat → ClassId), va_K D tb_cl (sm_ty cA) s := by
  obtain ⟨cC0, iS0, kn0⟩ := u_known (n := 8) hts tb_u0 (hts _ tb_w1002)
  obtain ⟨cC1, iS1, kn1⟩ := u_known (n := 14) hts tb_u1 (hts _ tb_w192)
  obtain ⟨cC2, iS2, kn2⟩ := u_known (n := 7) hts tb_u2 (hts _ tb_w194)
  obtain ⟨cC3, iS3, kn3⟩ := u_known (n := 6) hts tb_u3 (hts _ tb_w357)
  obtain ⟨cC4, iS4, kn4⟩ := u_known (n := 5) hts tb_u4 (hts _ tb_w196)
  obtain ⟨cC5, iS5, kn5⟩ := u_known (n := 15) hts tb_u5 (hts _ tb_w198)
  obtain ⟨cC6, iS6, kn6⟩ := u_known (n := 4) hts tb_u6 (hts _ tb_w543)
  obtain ⟨cC7, iS7, kn7⟩ := u_known (n := 4) hts tb_u7 (hts _ tb_w200)
  obtain ⟨cC8, iS8, kn8⟩ := u_known (n := 3) hts tb_u8 (hts _ tb_w202)
  obtain ⟨cC9, iS9, kn9⟩ := u_known (n := 4) hts tb_u9 (hts _ tb_w204)
  obtain ⟨cC10, iS10, kn10⟩ := u_known (n := 38) hts tb_u10 (hts _ tb_w1004)
  obtain ⟨a0, k0', c0', f0, g0, i0⟩ := Cond.arrayClass_spec (hts _ tb_w208)
  obtain ⟨a1, k1', c1', f1, g1, i1⟩ := Cond.arrayClass_spec (hts _ tb_w209)
  obtain ⟨a2, k2', c2', f2, g2, i2⟩ := Cond.arrayClass_spec (hts _ tb_w210)
  refine ⟨(fun c => match c with
    | 0 => cC0
    | 1 => cC1
    | 2 => cC2
    | 3 => cC3
    | 4 => cC4
    | 5 => cC5
    | 6 => cC6
    | 7 => cC7
    | 8 => cC8
    | 9 => cC9
    | _ => cC10, fun c => match c with
    | 0 => iS0
    | 1 => iS1
    | 2 => iS2
    | 3 => iS3
    | 4 => iS4
    | 5 => iS5
    | 6 => iS6
    | 7 => iS7
    | 8 => iS8
    | 9 => iS9
    | _ => iS10), fun k => match k with
    | 0 => a0
    | 1 => a1
    | _ => a2, fun c r hr => ?_, fun k r hr => ?_⟩
  · match c, hr with
    | 0, hr => cases hr; exact kn0
    | 1, hr => cases hr; exact kn1
    | 2, hr => cases hr; exact kn2
    | 3, hr => cases hr; exact kn3
    | 4, hr => cases hr; exact kn4
    | 5, hr => cases hr; exact kn5
    | 6, hr => cases hr; exact kn6
    | 7, hr => cases hr; exact kn7
    | 8, hr => cases hr; exact kn8
    | 9, hr => cases hr; exact kn9
    | 10, hr => cases hr; exact kn10
    | n + 11, hr => simp [tb_cl] at hr
  · match k, hr with
    | 0, hr => cases hr; exact ⟨fun n z => ⟨fun k h => (by cases h), k0', g0, c0', i0⟩, f0⟩
    | 1, hr => cases hr; exact ⟨fun n z => ⟨fun k h => (by cases h), k1', g1, c1', i1⟩, f1⟩
    | 2, hr => cases hr; exact ⟨fun n z => ⟨fun k h => (by cases h), k2', g2, c2', i2⟩, f2⟩
    | n + 3, hr => simp [sm_ty] at hr
theorem whole_start {p : Program} {e : Env} {s : State} {m : MethodId} {below : List Frame} {meth : Method} {c : Code} (l : Launch) {b L : Nat} {xs : Nat → Int32} (hL : L ≤ 5) (C0 : lw_At p s m meth c b L xs) : W p l e room_1 s m #[Value.ref b] below meth c s.heap [] 0 0 (lw_Z below #[Value.ref b] s) (entryFrame m ([Value.ref b] : List Value).toArray 4) := by
  obtain ⟨hx, hb, hr, hml, hown, hts, hXs, hbl, hlk, -⟩ := C0
  have hW : ∀ w ∈ tb_W, w.before #[Value.ref b] s = true := fun w hw => hts w (List.mem_filter.mp hw).1
  have hNW : sm_nw tb_N s := fun w hw => ⟨(List.mem_filter.mp hw).2, va_Nw.of (sm_isN_tab (List.mem_filter.mp hw).2) (hts w (List.mem_append_right _ (List.mem_filter.mp hw).1))⟩
  obtain ⟨D, cA, hK⟩ := law_known hW
  have key : ∀ X : sm_X, X = ((l, D, cA, tb_N), p, e, room_1, s, m, #[Value.ref b], below, meth, c, 4, (fun q => s.heap.size ≤ q), s.heap, lw_Z below #[Value.ref b] s, 0, 0) → ∀ (ad : Nat → Nat) (μ : sm_M), ad 1000 = b → sm_E tb_cl X 0 [some (.ref 1000), none, none, none] [] ad [] μ := by
    intro X hXe
    have hX : sm_ok tb_cl X code 4 "ProgramSlicesLaw" tb_W ret room_1 75 8909 false := by
      rw [hXe]
      exact ⟨hx, hb, hml, rfl, hown, hW, hK, hlk, hr, rfl, fun q h => h, rfl, rfl, fun h => (by cases h), hNW⟩
    have hZ : X.1.2.2.2 = tb_N := by rw [hXe]
    have hScr : ∀ ad : Nat → Nat, ad 1000 = b → sm_scr X (ad 1000) L xs := by
      intro ad ha
      rw [hXe, ha]
      exact ⟨hXs, hbl, fun z => absurd hbl (Nat.not_lt.mpr z)⟩
    have fin : ∀ (L' : List (Option Value)) (ad : Nat → Nat) (μ : sm_M), sm_E tb_cl X 683 L' [] ad ev_s2 μ := by
      intro L' ad μ
      refine sm_iconst hX td_L_683 ?_
      rw [hXe]
      intro ls H locs cells slots g1 g2 h1 h2 h3 h4
      have e1 : cells = 75 := g1
      have e2 : slots = 8909 := g2
      subst e1 e2
      exact va_forget (fun q hq => h4.2.2 q hq) (lw_ret hx hb hr hlk td_L_684)
    have loop : ∀ (ad : Nat → Nat) (μ : sm_M), ad 1000 = b → dp_le ev_P2 μ → sm_E tb_cl X 18 [some (.ref 1000), some (.ref 0), some (.ref 46), some (.int (Int32.ofInt (0)))] [] ad ev_s2 μ := by
      intro ad μ ha hP
      have hS := hScr ad ha
      refine sm_iloadN hX td_L_18 rfl ?_
      refine sm_aloadN hX td_L_19 rfl ?_
      refine sm_slen hX hS td_L_20 ?_
      refine sm_iconst hX td_L_21 ?_
      refine sm_isub hX td_L_22 ?_
      refine sm_icmp_gt hX 683 td_L_23 (by decide) (fun _ => fin _ ad μ) (fun hc => ?_)
      have h5 : L = 5 := by
        rcases (show L = 0 ∨ L = 1 ∨ L = 2 ∨ L = 3 ∨ L = 4 ∨ L = 5 by omega) with rfl | rfl | rfl | rfl | rfl | rfl
        · exact absurd (by decide) hc
        · exact absurd (by decide) hc
        · exact absurd (by decide) hc
        · exact absurd (by decide) hc
        · exact absurd (by decide) hc
        · rfl
      subst h5
      refine law_sw hX hZ hS (fun μ1 => ?_) hP
      refine sm_iincG hX td_L_677 rfl rfl (by decide) ?_
      refine sm_goto hX 18 td_L_680 (by decide) ?_
      refine sm_iloadN hX td_L_18 rfl ?_
      refine sm_aloadN hX td_L_19 rfl ?_
      refine sm_slen hX hS td_L_20 ?_
      refine sm_iconst hX td_L_21 ?_
      refine sm_isub hX td_L_22 ?_
      exact sm_icmp_gt hX 683 td_L_23 (by decide) (fun _ => fin _ ad μ1) (fun z => absurd (by decide) z)
    intro ad μ ha
    obtain ⟨Cn, Tn, tn, e2, e5, e7, g1, g2, g3, g4, g5⟩ := tb_eL_0
    refine sm_new hX (idx := 7) (ci := 0) tn e2 e5 e7 g1 g2 g3 rfl g4 g5 rfl rfl rfl (by decide) (by decide) td_L_0 (fun ad1 hag1 => ?_)
    have ha1 : ad1 1000 = b := (hag1 1000 (Or.inr (by decide))).trans ha
    refine sm_dup hX td_L_3 rfl ?_
    obtain ⟨r1, r2, r3⟩ := ev_okS_ok ev_R1_ok
    have hP0 : dp_le ev_P0 (sm_z μ 0) := dp_le.z ⟨fun _ _ _ h => (by cases h), fun _ _ _ h => (by cases h)⟩ 0
    have c1 := (tb_cfok hZ tb_prs 4 _ _ _ _ _ r1).2.2 ad1 (sm_z μ 0) hP0
    rw [r3] at c1
    refine tb_iL_0 _ X _ _ _ _ _ _ hZ hX _ _ [.ref 0] ad1 ev_s0 (sm_z μ 0) [.ref 0] _ _ rfl ⟨0, _, _, rfl, rfl⟩ c1 (by decide) (by decide) (by decide) (by decide) (by decide) td_L_4 (fun v ad2 sh' μ1 e1 e2 hag2 hq => ?_)
    obtain ⟨hv, hs, hP1, -⟩ := hq
    rw [r2] at hv
    rw [r3] at hs
    subst hv hs
    have ha2 : ad2 1000 = b := (hag2 1000 (Or.inr (by decide))).trans ha1
    refine ⟨Or.inr ⟨by decide, by decide⟩, ?_⟩
    refine sm_astoreN hX td_L_7 rfl (by decide) ?_
    obtain ⟨Cn, Tn, tn, e2, e5, e7, g1, g2, g3, g4, g5⟩ := tb_eL_1
    refine sm_new hX (idx := 10) (ci := 10) tn e2 e5 e7 g1 g2 g3 rfl g4 g5 (by decide) rfl (by decide) (by decide) (by decide) td_L_8 (fun ad3 hag3 => ?_)
    have ha3 : ad3 1000 = b := (hag3 1000 (Or.inr (by decide))).trans ha2
    refine sm_dup hX td_L_11 rfl ?_
    obtain ⟨r1, r2, r3⟩ := ev_okS_ok ev_R2_ok
    have hP2 : dp_le ev_P1 (sm_z μ1 46) := dp_le.z hP1 46
    have c2 := (tb_cfok hZ tb_prs 4 _ _ _ _ _ r1).2.2 ad3 (sm_z μ1 46) hP2
    rw [r3] at c2
    refine tb_iL_1 _ X _ _ _ _ _ _ hZ hX _ _ [.ref 46] ad3 ev_s1m (sm_z μ1 46) [.ref 46] _ _ rfl ⟨46, _, _, rfl, rfl⟩ c2 (by decide) (by decide) (by decide) (by decide) (by decide) td_L_12 (fun v ad4 sh' μ2 e1 e2 hag4 hq => ?_)
    obtain ⟨hv, hs, hP3, -⟩ := hq
    rw [r2] at hv
    rw [r3] at hs
    subst hv hs
    have ha4 : ad4 1000 = b := (hag4 1000 (Or.inr (by decide))).trans ha3
    refine ⟨Or.inr ⟨by decide, by decide⟩, ?_⟩
    refine sm_astoreN hX td_L_15 rfl (by decide) ?_
    refine sm_iconst hX td_L_16 ?_
    refine sm_istoreN hX td_L_17 rfl (by decide) ?_
    exact loop ad4 μ2 ha4 hP3
  have h := key _ rfl (fun q => if q = 1000 then b else 0) (fun _ _ => 0, fun _ _ => 0) (by simp)
  have hl := lv_entry ([Value.ref b] : List Value) (n := 4) (Nat.le_of_ble_eq_true rfl)
  rw [lg_entry_eq]
  refine h _ s.heap [] 0 0 rfl rfl ⟨hl.1, hl.2.1, fun i v hi => ?_⟩ (fun k q hk => ?_) ⟨fun i j x y hi => ?_, fun k q hk => ?_⟩ va_S.rf
  · match i, hi with
    | 0, hi =>
      have e : Value.ref 1000 = v := by simpa using hi
      rw [← e]
      exact hl.2.2 (0, Value.ref b) (by simp [lv_args])
    | 1, hi => cases hi
    | 2, hi => cases hi
    | 3, hi => cases hi
    | n + 4, hi => simp at hi
  · cases hk
  · cases hi
  · cases hk
