theorem ab_shr_t : (List.range 1024).all (fun n => decide (nI n >>> ((6 : Int32) &&& 31) = nI (n / 64))) = true := by decide +kernel
theorem ab_shr_ok {S : Nat → Int} {Lc : List (Option Value)} {x y : ab_I} {u v : Int32} (hx : ab_i S Lc x u) (hy : ab_i S Lc y v) : ab_i S Lc (ab_shr x y) (u >>> (v &&& 31)) := by
  unfold ab_shr
  cases hb : (ab_one y && (decide (y.1 = 6) && (decide (0 ≤ x.1) && decide (x.2.1 ≤ 1023)))) with
  | false => exact ab_i_top _
  | true =>
    rw [Bool.and_eq_true, Bool.and_eq_true, Bool.and_eq_true] at hb
    have o := ab_one_eq hy hb.1
    have z1 := of_decide_eq_true hb.2.1
    have z2 := of_decide_eq_true hb.2.2.1
    have z3 := of_decide_eq_true hb.2.2.2
    have e6 : (6 : Int32).toInt = 6 := by decide
    have ev : v = 6 := Int32.toInt_inj.mp (by rw [o, z1, e6])
    subst ev
    have a1 := hx.1
    have a2 := hx.2.1
    obtain ⟨n, hn, rfl, en⟩ := ab_nat (x := u) (by omega)
    rw [en] at a1 a2
    have hn2 : n < 1024 := by omega
    have e := of_decide_eq_true (List.all_eq_true.mp ab_shr_t n (List.mem_range.mpr hn2))
    rw [e]
    refine ab_i_mk ?_ ?_
    · rw [nI_toInt (by omega)]; show x.1 / 64 ≤ _; omega
    · rw [nI_toInt (by omega)]; show _ ≤ x.2.1 / 64; omega
theorem ab_lcmp {S : Nat → Int} {Lc : List (Option Value)} (x y : Int64) : ab_i S Lc (-1, 1, none, none) (lg_cmp x y) := by
  unfold lg_cmp
  split
  · exact ab_i_mk (by decide) (by decide)
  · split
    · exact ab_i_mk (by decide) (by decide)
    · exact ab_i_mk (by decide) (by decide)
theorem ab_call_ok {cl : List vw_C} {X : sm_X} {cc : ByteArray} {own : String} {Ts : List Cond} {rm : Room} {N Sz : Nat} {ini : Bool} {M : ab_M} (hX : sm_ok cl X cc M.1 own Ts M.2.1 rm N Sz ini) {G : ab_G} (hG : ab_Gok G) {K : dp_K} {ys : Nat → MethodName} {wss : Nat → List Cond} (hK : dp_Kok cl X.1.2.2.2 own Ts ys wss K) {CT : List ab_C} (hCT : ∀ e ∈ CT, ab_ok cl X.1 ys wss G e) (hfr : M.2.2.2.1 ≤ rm.frames) (hlo : 32 * M.2.2.2.1 ≤ rm.locals) (hN : G.2.length ≤ N) (hSz : sm_sl G.2 ≤ Sz) {ad : Nat → Nat} {μ0 : sm_M} {S : Nat → Int} {pc : Nat} {ins : Instr} {j na rc : Nat} (hC : sm_Cal cl X.1.2.2.2 cc own Ts ins (ys j) (wss j) na (dp_rcO rc)) (d : decode cc pc = .ok (ins, 3)) {A : ab_L} {st : List ab_V} {l : List ab_T} (h : ab_ca G M CT j na rc pc A st = some l) (k : ∀ a ∈ l, ab_J cl X G M ad μ0 S a) : ab_J cl X G M ad μ0 S (pc, A, st) := by
  unfold ab_ca at h
  obtain ⟨h1, ha⟩ := dp_g_ok h
  clear h
  obtain ⟨h2, hb⟩ := dp_g_ok ha
  clear ha
  obtain ⟨h3, hc⟩ := dp_g_ok hb
  clear hb
  obtain ⟨e, he, hd⟩ := dp_o_ok hc
  clear hc
  obtain ⟨h4, h5⟩ := dp_g_ok hd
  clear hd
  obtain ⟨m1, m2, m3, m4⟩ := ab_find_ok he
  intro Lc stc μ gl gs gm gf
  simp only at gs
  obtain ⟨t1, t2⟩ := ab_sv_td na gs
  have t3 := ab_sv_rev t1
  subst m2
  have hcon := hCT e m1 (stc.take na).reverse ad μ (ab_fitl_ok m4 t3) gm
  have hrc : sm_rcv G.2 (dp_rcO rc) (stc.take na).reverse := by
    cases rc with
    | zero => exact trivial
    | succ ci =>
      simp only at h2
      cases hr : (st.take na).reverse with
      | nil => rw [hr] at h2; cases h2
      | cons a0 tl =>
        rw [hr] at h2 t3
        obtain ⟨v0, u0, hu, hv0, -⟩ := ab_sv_cons t3
        cases a0 with
        | inl x => cases h2
        | inr a0 =>
          cases a0 with
          | inr x => cases h2
          | inl p =>
            simp only at h2
            have ev := ab_v_ref hv0
            subst ev
            cases hs : G.2[p]? with
            | none => rw [hs] at h2; cases h2
            | some c0 =>
              cases c0 with
              | inr x => rw [hs] at h2; cases h2
              | inl q =>
                obtain ⟨c1, fs⟩ := q
                rw [hs] at h2
                have ec := dp_beq h2
                subst ec
                exact ⟨p, u0, fs, hu, hs⟩
  have h6 := hC X _ _ _ _ _ _ rfl hX pc Lc (stc.drop na) ad G.2 μ (stc.take na).reverse _ _ (by rw [List.length_reverse, ab_sv_len t1]; exact dp_beq h1) hrc hcon (by simp only [dp_rm]; omega) (by simp only [dp_rm]; omega) (by simp only [dp_rm]; omega) (by simp only [dp_rm]; omega) (by rw [ab_sv_sum t2]; exact Nat.le_of_ble_eq_true h3) d (fun v ad' sh' μ' e1 e2 hag q => ?_)
  · rwa [List.reverse_reverse, List.take_append_drop] at h6
  · obtain ⟨q1, rfl, q3, q4⟩ := q
    rw [sm_ag_eq hag]
    refine ⟨Or.inl (by simp only [dp_rm]; omega), ?_⟩
    have gf' : ab_fr M.2.2.2.2 μ' μ0 := fun r hr => by
      have z1 := q4 r (fun z => hr (ab_sub_mem h4 z))
      have z2 := gf r hr
      exact ⟨z1.1.trans z2.1, z1.2.trans z2.2⟩
    split at h5
    · rename_i hret
      cases h5
      rw [hret] at q1
      cases v with
      | some x => exact absurd q1 (fun z => z)
      | none => exact k _ List.mem_cons_self Lc _ μ' gl t2 q3 gf'
    · rename_i a hret
      cases h5
      rw [hret] at q1
      cases v with
      | none => exact absurd q1 (fun z => z)
      | some x => exact k _ List.mem_cons_self Lc _ μ' gl ⟨ab_of_ok q1, t2⟩ q3 gf'
theorem ab_st_iadd {cl : List vw_C} {X : sm_X} {cc : ByteArray} {own : String} {Ts : List Cond} {rm : Room} {N Sz : Nat} {ini : Bool} {M : ab_M} (hX : sm_ok cl X cc M.1 own Ts M.2.1 rm N Sz ini) {G : ab_G} (hG : ab_Gok G) {K : dp_K} {ys : Nat → MethodName} {wss : Nat → List Cond} (hK : dp_Kok cl X.1.2.2.2 own Ts ys wss K) {CT : List ab_C} (hCT : ∀ e ∈ CT, ab_ok cl X.1 ys wss G e) (hfr : M.2.2.2.1 ≤ rm.frames) (hlo : 32 * M.2.2.2.1 ≤ rm.locals) (hN : G.2.length ≤ N) (hSz : sm_sl G.2 ≤ Sz) {ad : Nat → Nat} {μ0 : sm_M} {S : Nat → Int} {pc len : Nat}  (d : decode cc pc = .ok (.iadd, len)) {A : ab_L} {st : List ab_V} {l : List ab_T} (h : ab_st K G M CT pc A st .iadd len = some l) (k : ∀ a ∈ l, ab_J cl X G M ad μ0 S a) : ab_J cl X G M ad μ0 S (pc, A, st) := by
  obtain ⟨hl, hu1⟩ := dp_g_ok h
  clear h
  have hl := dp_beq hl
  subst hl
  obtain ⟨y, r, rfl, hu2⟩ := ab_1i_ok hu1
  clear hu1
  obtain ⟨x, r, rfl, hu3⟩ := ab_1i_ok hu2
  clear hu2
  cases hu3
  intro Lc stc μ gl gs gm gf
  obtain ⟨_, sys, rfl, cy, gys⟩ := ab_sv_cons gs
  clear gs
  obtain ⟨ny, rfl, iy⟩ := ab_v_int cy
  obtain ⟨_, sxs, rfl, cx, gxs⟩ := ab_sv_cons gys
  clear gys
  obtain ⟨nx, rfl, ix⟩ := ab_v_int cx
  exact sm_iadd hX d (k _ List.mem_cons_self Lc _ μ gl ⟨ab_add_ok ix iy, gxs⟩ gm gf)
theorem ab_st_isub {cl : List vw_C} {X : sm_X} {cc : ByteArray} {own : String} {Ts : List Cond} {rm : Room} {N Sz : Nat} {ini : Bool} {M : ab_M} (hX : sm_ok cl X cc M.1 own Ts M.2.1 rm N Sz ini) {G : ab_G} (hG : ab_Gok G) {K : dp_K} {ys : Nat → MethodName} {wss : Nat → List Cond} (hK : dp_Kok cl X.1.2.2.2 own Ts ys wss K) {CT : List ab_C} (hCT : ∀ e ∈ CT, ab_ok cl X.1 ys wss G e) (hfr : M.2.2.2.1 ≤ rm.frames) (hlo : 32 * M.2.2.2.1 ≤ rm.locals) (hN : G.2.length ≤ N) (hSz : sm_sl G.2 ≤ Sz) {ad : Nat → Nat} {μ0 : sm_M} {S : Nat → Int} {pc len : Nat}  (d : decode cc pc = .ok (.isub, len)) {A : ab_L} {st : List ab_V} {l : List ab_T} (h : ab_st K G M CT pc A st .isub len = some l) (k : ∀ a ∈ l, ab_J cl X G M ad μ0 S a) : ab_J cl X G M ad μ0 S (pc, A, st) := by
  obtain ⟨hl, hu1⟩ := dp_g_ok h
  clear h
  have hl := dp_beq hl
  subst hl
  obtain ⟨y, r, rfl, hu2⟩ := ab_1i_ok hu1
  clear hu1
  obtain ⟨x, r, rfl, hu3⟩ := ab_1i_ok hu2
  clear hu2
  cases hu3
  intro Lc stc μ gl gs gm gf
  obtain ⟨_, sys, rfl, cy, gys⟩ := ab_sv_cons gs
  clear gs
  obtain ⟨ny, rfl, iy⟩ := ab_v_int cy
  obtain ⟨_, sxs, rfl, cx, gxs⟩ := ab_sv_cons gys
  clear gys
  obtain ⟨nx, rfl, ix⟩ := ab_v_int cx
  exact sm_isub hX d (k _ List.mem_cons_self Lc _ μ gl ⟨ab_sub_ok ix iy, gxs⟩ gm gf)
theorem ab_st_imul {cl : List vw_C} {X : sm_X} {cc : ByteArray} {own : String} {Ts : List Cond} {rm : Room} {N Sz : Nat} {ini : Bool} {M : ab_M} (hX : sm_ok cl X cc M.1 own Ts M.2.1 rm N Sz ini) {G : ab_G} (hG : ab_Gok G) {K : dp_K} {ys : Nat → MethodName} {wss : Nat → List Cond} (hK : dp_Kok cl X.1.2.2.2 own Ts ys wss K) {CT : List ab_C} (hCT : ∀ e ∈ CT, ab_ok cl X.1 ys wss G e) (hfr : M.2.2.2.1 ≤ rm.frames) (hlo : 32 * M.2.2.2.1 ≤ rm.locals) (hN : G.2.length ≤ N) (hSz : sm_sl G.2 ≤ Sz) {ad : Nat → Nat} {μ0 : sm_M} {S : Nat → Int} {pc len : Nat}  (d : decode cc pc = .ok (.imul, len)) {A : ab_L} {st : List ab_V} {l : List ab_T} (h : ab_st K G M CT pc A st .imul len = some l) (k : ∀ a ∈ l, ab_J cl X G M ad μ0 S a) : ab_J cl X G M ad μ0 S (pc, A, st) := by
  obtain ⟨hl, hu1⟩ := dp_g_ok h
  clear h
  have hl := dp_beq hl
  subst hl
  obtain ⟨y, r, rfl, hu2⟩ := ab_1i_ok hu1
  clear hu1
  obtain ⟨x, r, rfl, hu3⟩ := ab_1i_ok hu2
  clear hu2
  cases hu3
  intro Lc stc μ gl gs gm gf
  obtain ⟨_, sys, rfl, cy, gys⟩ := ab_sv_cons gs
  clear gs
  obtain ⟨ny, rfl, iy⟩ := ab_v_int cy
  obtain ⟨_, sxs, rfl, cx, gxs⟩ := ab_sv_cons gys
  clear gys
  obtain ⟨nx, rfl, ix⟩ := ab_v_int cx
  exact sm_imul hX d (k _ List.mem_cons_self Lc _ μ gl ⟨ab_mul_ok ix iy, gxs⟩ gm gf)
theorem ab_st_iand {cl : List vw_C} {X : sm_X} {cc : ByteArray} {own : String} {Ts : List Cond} {rm : Room} {N Sz : Nat} {ini : Bool} {M : ab_M} (hX : sm_ok cl X cc M.1 own Ts M.2.1 rm N Sz ini) {G : ab_G} (hG : ab_Gok G) {K : dp_K} {ys : Nat → MethodName} {wss : Nat → List Cond} (hK : dp_Kok cl X.1.2.2.2 own Ts ys wss K) {CT : List ab_C} (hCT : ∀ e ∈ CT, ab_ok cl X.1 ys wss G e) (hfr : M.2.2.2.1 ≤ rm.frames) (hlo : 32 * M.2.2.2.1 ≤ rm.locals) (hN : G.2.length ≤ N) (hSz : sm_sl G.2 ≤ Sz) {ad : Nat → Nat} {μ0 : sm_M} {S : Nat → Int} {pc len : Nat}  (d : decode cc pc = .ok (.iand, len)) {A : ab_L} {st : List ab_V} {l : List ab_T} (h : ab_st K G M CT pc A st .iand len = some l) (k : ∀ a ∈ l, ab_J cl X G M ad μ0 S a) : ab_J cl X G M ad μ0 S (pc, A, st) := by
  obtain ⟨hl, hu1⟩ := dp_g_ok h
  clear h
  have hl := dp_beq hl
  subst hl
  obtain ⟨y, r, rfl, hu2⟩ := ab_1i_ok hu1
  clear hu1
  obtain ⟨x, r, rfl, hu3⟩ := ab_1i_ok hu2
  clear hu2
  cases hu3
  intro Lc stc μ gl gs gm gf
  obtain ⟨_, sys, rfl, cy, gys⟩ := ab_sv_cons gs
  clear gs
  obtain ⟨ny, rfl, iy⟩ := ab_v_int cy
  obtain ⟨_, sxs, rfl, cx, gxs⟩ := ab_sv_cons gys
  clear gys
  obtain ⟨nx, rfl, ix⟩ := ab_v_int cx
  exact sm_iand hX d (k _ List.mem_cons_self Lc _ μ gl ⟨ab_and_ok ix iy, gxs⟩ gm gf)
theorem ab_st_ior {cl : List vw_C} {X : sm_X} {cc : ByteArray} {own : String} {Ts : List Cond} {rm : Room} {N Sz : Nat} {ini : Bool} {M : ab_M} (hX : sm_ok cl X cc M.1 own Ts M.2.1 rm N Sz ini) {G : ab_G} (hG : ab_Gok G) {K : dp_K} {ys : Nat → MethodName} {wss : Nat → List Cond} (hK : dp_Kok cl X.1.2.2.2 own Ts ys wss K) {CT : List ab_C} (hCT : ∀ e ∈ CT, ab_ok cl X.1 ys wss G e) (hfr : M.2.2.2.1 ≤ rm.frames) (hlo : 32 * M.2.2.2.1 ≤ rm.locals) (hN : G.2.length ≤ N) (hSz : sm_sl G.2 ≤ Sz) {ad : Nat → Nat} {μ0 : sm_M} {S : Nat → Int} {pc len : Nat}  (d : decode cc pc = .ok (.ior, len)) {A : ab_L} {st : List ab_V} {l : List ab_T} (h : ab_st K G M CT pc A st .ior len = some l) (k : ∀ a ∈ l, ab_J cl X G M ad μ0 S a) : ab_J cl X G M ad μ0 S (pc, A, st) := by
  obtain ⟨hl, hu1⟩ := dp_g_ok h
  clear h
  have hl := dp_beq hl
  subst hl
  obtain ⟨y, r, rfl, hu2⟩ := ab_1i_ok hu1
  clear hu1
  obtain ⟨x, r, rfl, hu3⟩ := ab_1i_ok hu2
  clear hu2
  cases hu3
  intro Lc stc μ gl gs gm gf
  obtain ⟨_, sys, rfl, cy, gys⟩ := ab_sv_cons gs
  clear gs
  obtain ⟨ny, rfl, iy⟩ := ab_v_int cy
  obtain ⟨_, sxs, rfl, cx, gxs⟩ := ab_sv_cons gys
  clear gys
  obtain ⟨nx, rfl, ix⟩ := ab_v_int cx
  exact sm_ior hX d (k _ List.mem_cons_self Lc _ μ gl ⟨ab_or_ok ix iy, gxs⟩ gm gf)
theorem ab_st_ishr {cl : List vw_C} {X : sm_X} {cc : ByteArray} {own : String} {Ts : List Cond} {rm : Room} {N Sz : Nat} {ini : Bool} {M : ab_M} (hX : sm_ok cl X cc M.1 own Ts M.2.1 rm N Sz ini) {G : ab_G} (hG : ab_Gok G) {K : dp_K} {ys : Nat → MethodName} {wss : Nat → List Cond} (hK : dp_Kok cl X.1.2.2.2 own Ts ys wss K) {CT : List ab_C} (hCT : ∀ e ∈ CT, ab_ok cl X.1 ys wss G e) (hfr : M.2.2.2.1 ≤ rm.frames) (hlo : 32 * M.2.2.2.1 ≤ rm.locals) (hN : G.2.length ≤ N) (hSz : sm_sl G.2 ≤ Sz) {ad : Nat → Nat} {μ0 : sm_M} {S : Nat → Int} {pc len : Nat}  (d : decode cc pc = .ok (.ishr, len)) {A : ab_L} {st : List ab_V} {l : List ab_T} (h : ab_st K G M CT pc A st .ishr len = some l) (k : ∀ a ∈ l, ab_J cl X G M ad μ0 S a) : ab_J cl X G M ad μ0 S (pc, A, st) := by
  obtain ⟨hl, hu1⟩ := dp_g_ok h
  clear h
  have hl := dp_beq hl
  subst hl
  obtain ⟨y, r, rfl, hu2⟩ := ab_1i_ok hu1
  clear hu1
  obtain ⟨x, r, rfl, hu3⟩ := ab_1i_ok hu2
  clear hu2
  cases hu3
  intro Lc stc μ gl gs gm gf
  obtain ⟨_, sys, rfl, cy, gys⟩ := ab_sv_cons gs
  clear gs
  obtain ⟨ny, rfl, iy⟩ := ab_v_int cy
  obtain ⟨_, sxs, rfl, cx, gxs⟩ := ab_sv_cons gys
  clear gys
  obtain ⟨nx, rfl, ix⟩ := ab_v_int cx
  exact sm_ishr hX d (k _ List.mem_cons_self Lc _ μ gl ⟨ab_shr_ok ix iy, gxs⟩ gm gf)
theorem ab_st_ixor {cl : List vw_C} {X : sm_X} {cc : ByteArray} {own : String} {Ts : List Cond} {rm : Room} {N Sz : Nat} {ini : Bool} {M : ab_M} (hX : sm_ok cl X cc M.1 own Ts M.2.1 rm N Sz ini) {G : ab_G} (hG : ab_Gok G) {K : dp_K} {ys : Nat → MethodName} {wss : Nat → List Cond} (hK : dp_Kok cl X.1.2.2.2 own Ts ys wss K) {CT : List ab_C} (hCT : ∀ e ∈ CT, ab_ok cl X.1 ys wss G e) (hfr : M.2.2.2.1 ≤ rm.frames) (hlo : 32 * M.2.2.2.1 ≤ rm.locals) (hN : G.2.length ≤ N) (hSz : sm_sl G.2 ≤ Sz) {ad : Nat → Nat} {μ0 : sm_M} {S : Nat → Int} {pc len : Nat}  (d : decode cc pc = .ok (.ixor, len)) {A : ab_L} {st : List ab_V} {l : List ab_T} (h : ab_st K G M CT pc A st .ixor len = some l) (k : ∀ a ∈ l, ab_J cl X G M ad μ0 S a) : ab_J cl X G M ad μ0 S (pc, A, st) := by
  obtain ⟨hl, hu1⟩ := dp_g_ok h
  clear h
  have hl := dp_beq hl
  subst hl
  obtain ⟨y, r, rfl, hu2⟩ := ab_1i_ok hu1
  clear hu1
  obtain ⟨x, r, rfl, hu3⟩ := ab_1i_ok hu2
  clear hu2
  cases hu3
  intro Lc stc μ gl gs gm gf
  obtain ⟨_, sys, rfl, cy, gys⟩ := ab_sv_cons gs
  clear gs
  obtain ⟨ny, rfl, iy⟩ := ab_v_int cy
  obtain ⟨_, sxs, rfl, cx, gxs⟩ := ab_sv_cons gys
  clear gys
  obtain ⟨nx, rfl, ix⟩ := ab_v_int cx
  exact sm_ixor hX d (k _ List.mem_cons_self Lc _ μ gl ⟨ab_i_top _, gxs⟩ gm gf)
theorem ab_st_ishl {cl : List vw_C} {X : sm_X} {cc : ByteArray} {own : String} {Ts : List Cond} {rm : Room} {N Sz : Nat} {ini : Bool} {M : ab_M} (hX : sm_ok cl X cc M.1 own Ts M.2.1 rm N Sz ini) {G : ab_G} (hG : ab_Gok G) {K : dp_K} {ys : Nat → MethodName} {wss : Nat → List Cond} (hK : dp_Kok cl X.1.2.2.2 own Ts ys wss K) {CT : List ab_C} (hCT : ∀ e ∈ CT, ab_ok cl X.1 ys wss G e) (hfr : M.2.2.2.1 ≤ rm.frames) (hlo : 32 * M.2.2.2.1 ≤ rm.locals) (hN : G.2.length ≤ N) (hSz : sm_sl G.2 ≤ Sz) {ad : Nat → Nat} {μ0 : sm_M} {S : Nat → Int} {pc len : Nat}  (d : decode cc pc = .ok (.ishl, len)) {A : ab_L} {st : List ab_V} {l : List ab_T} (h : ab_st K G M CT pc A st .ishl len = some l) (k : ∀ a ∈ l, ab_J cl X G M ad μ0 S a) : ab_J cl X G M ad μ0 S (pc, A, st) := by
  obtain ⟨hl, hu1⟩ := dp_g_ok h
  clear h
  have hl := dp_beq hl
  subst hl
  obtain ⟨y, r, rfl, hu2⟩ := ab_1i_ok hu1
  clear hu1
  obtain ⟨x, r, rfl, hu3⟩ := ab_1i_ok hu2
  clear hu2
  cases hu3
  intro Lc stc μ gl gs gm gf
  obtain ⟨_, sys, rfl, cy, gys⟩ := ab_sv_cons gs
  clear gs
  obtain ⟨ny, rfl, iy⟩ := ab_v_int cy
  obtain ⟨_, sxs, rfl, cx, gxs⟩ := ab_sv_cons gys
  clear gys
  obtain ⟨nx, rfl, ix⟩ := ab_v_int cx
  exact sm_ishl hX d (k _ List.mem_cons_self Lc _ μ gl ⟨ab_i_top _, gxs⟩ gm gf)
theorem ab_st_iushr {cl : List vw_C} {X : sm_X} {cc : ByteArray} {own : String} {Ts : List Cond} {rm : Room} {N Sz : Nat} {ini : Bool} {M : ab_M} (hX : sm_ok cl X cc M.1 own Ts M.2.1 rm N Sz ini) {G : ab_G} (hG : ab_Gok G) {K : dp_K} {ys : Nat → MethodName} {wss : Nat → List Cond} (hK : dp_Kok cl X.1.2.2.2 own Ts ys wss K) {CT : List ab_C} (hCT : ∀ e ∈ CT, ab_ok cl X.1 ys wss G e) (hfr : M.2.2.2.1 ≤ rm.frames) (hlo : 32 * M.2.2.2.1 ≤ rm.locals) (hN : G.2.length ≤ N) (hSz : sm_sl G.2 ≤ Sz) {ad : Nat → Nat} {μ0 : sm_M} {S : Nat → Int} {pc len : Nat}  (d : decode cc pc = .ok (.iushr, len)) {A : ab_L} {st : List ab_V} {l : List ab_T} (h : ab_st K G M CT pc A st .iushr len = some l) (k : ∀ a ∈ l, ab_J cl X G M ad μ0 S a) : ab_J cl X G M ad μ0 S (pc, A, st) := by
  obtain ⟨hl, hu1⟩ := dp_g_ok h
  clear h
  have hl := dp_beq hl
  subst hl
  obtain ⟨y, r, rfl, hu2⟩ := ab_1i_ok hu1
  clear hu1
  obtain ⟨x, r, rfl, hu3⟩ := ab_1i_ok hu2
  clear hu2
  cases hu3
  intro Lc stc μ gl gs gm gf
  obtain ⟨_, sys, rfl, cy, gys⟩ := ab_sv_cons gs
  clear gs
  obtain ⟨ny, rfl, iy⟩ := ab_v_int cy
  obtain ⟨_, sxs, rfl, cx, gxs⟩ := ab_sv_cons gys
  clear gys
  obtain ⟨nx, rfl, ix⟩ := ab_v_int cx
  exact sm_iushr hX d (k _ List.mem_cons_self Lc _ μ gl ⟨ab_i_top _, gxs⟩ gm gf)
theorem ab_st_idiv {cl : List vw_C} {X : sm_X} {cc : ByteArray} {own : String} {Ts : List Cond} {rm : Room} {N Sz : Nat} {ini : Bool} {M : ab_M} (hX : sm_ok cl X cc M.1 own Ts M.2.1 rm N Sz ini) {G : ab_G} (hG : ab_Gok G) {K : dp_K} {ys : Nat → MethodName} {wss : Nat → List Cond} (hK : dp_Kok cl X.1.2.2.2 own Ts ys wss K) {CT : List ab_C} (hCT : ∀ e ∈ CT, ab_ok cl X.1 ys wss G e) (hfr : M.2.2.2.1 ≤ rm.frames) (hlo : 32 * M.2.2.2.1 ≤ rm.locals) (hN : G.2.length ≤ N) (hSz : sm_sl G.2 ≤ Sz) {ad : Nat → Nat} {μ0 : sm_M} {S : Nat → Int} {pc len : Nat}  (d : decode cc pc = .ok (.idiv, len)) {A : ab_L} {st : List ab_V} {l : List ab_T} (h : ab_st K G M CT pc A st .idiv len = some l) (k : ∀ a ∈ l, ab_J cl X G M ad μ0 S a) : ab_J cl X G M ad μ0 S (pc, A, st) := by
  obtain ⟨hl, hu1⟩ := dp_g_ok h
  clear h
  have hl := dp_beq hl
  subst hl
  obtain ⟨y, r, rfl, hu2⟩ := ab_1i_ok hu1
  clear hu1
  obtain ⟨x, r, rfl, hu3⟩ := ab_1i_ok hu2
  clear hu2
  obtain ⟨z, hz, hu4⟩ := dp_o_ok hu3
  clear hu3
  cases hu4
  intro Lc stc μ gl gs gm gf
  obtain ⟨_, sys, rfl, cy, gys⟩ := ab_sv_cons gs
  clear gs
  obtain ⟨ny, rfl, iy⟩ := ab_v_int cy
  obtain ⟨_, sxs, rfl, cx, gxs⟩ := ab_sv_cons gys
  clear gys
  obtain ⟨nx, rfl, ix⟩ := ab_v_int cx
  obtain ⟨ne, iz⟩ := ab_div_ok hz ix iy
  exact sm_idiv hX d ne (k _ List.mem_cons_self Lc _ μ gl ⟨iz, gxs⟩ gm gf)
theorem ab_st_irem {cl : List vw_C} {X : sm_X} {cc : ByteArray} {own : String} {Ts : List Cond} {rm : Room} {N Sz : Nat} {ini : Bool} {M : ab_M} (hX : sm_ok cl X cc M.1 own Ts M.2.1 rm N Sz ini) {G : ab_G} (hG : ab_Gok G) {K : dp_K} {ys : Nat → MethodName} {wss : Nat → List Cond} (hK : dp_Kok cl X.1.2.2.2 own Ts ys wss K) {CT : List ab_C} (hCT : ∀ e ∈ CT, ab_ok cl X.1 ys wss G e) (hfr : M.2.2.2.1 ≤ rm.frames) (hlo : 32 * M.2.2.2.1 ≤ rm.locals) (hN : G.2.length ≤ N) (hSz : sm_sl G.2 ≤ Sz) {ad : Nat → Nat} {μ0 : sm_M} {S : Nat → Int} {pc len : Nat}  (d : decode cc pc = .ok (.irem, len)) {A : ab_L} {st : List ab_V} {l : List ab_T} (h : ab_st K G M CT pc A st .irem len = some l) (k : ∀ a ∈ l, ab_J cl X G M ad μ0 S a) : ab_J cl X G M ad μ0 S (pc, A, st) := by
  obtain ⟨hl, hu1⟩ := dp_g_ok h
  clear h
  have hl := dp_beq hl
  subst hl
  obtain ⟨y, r, rfl, hu2⟩ := ab_1i_ok hu1
  clear hu1
  obtain ⟨x, r, rfl, hu3⟩ := ab_1i_ok hu2
  clear hu2
  obtain ⟨z, hz, hu4⟩ := dp_o_ok hu3
  clear hu3
  cases hu4
  intro Lc stc μ gl gs gm gf
  obtain ⟨_, sys, rfl, cy, gys⟩ := ab_sv_cons gs
  clear gs
  obtain ⟨ny, rfl, iy⟩ := ab_v_int cy
  obtain ⟨_, sxs, rfl, cx, gxs⟩ := ab_sv_cons gys
  clear gys
  obtain ⟨nx, rfl, ix⟩ := ab_v_int cx
  obtain ⟨ne, iz⟩ := ab_rem_ok hz ix iy
  exact sm_irem hX d ne (k _ List.mem_cons_self Lc _ μ gl ⟨iz, gxs⟩ gm gf)
theorem ab_st_ineg {cl : List vw_C} {X : sm_X} {cc : ByteArray} {own : String} {Ts : List Cond} {rm : Room} {N Sz : Nat} {ini : Bool} {M : ab_M} (hX : sm_ok cl X cc M.1 own Ts M.2.1 rm N Sz ini) {G : ab_G} (hG : ab_Gok G) {K : dp_K} {ys : Nat → MethodName} {wss : Nat → List Cond} (hK : dp_Kok cl X.1.2.2.2 own Ts ys wss K) {CT : List ab_C} (hCT : ∀ e ∈ CT, ab_ok cl X.1 ys wss G e) (hfr : M.2.2.2.1 ≤ rm.frames) (hlo : 32 * M.2.2.2.1 ≤ rm.locals) (hN : G.2.length ≤ N) (hSz : sm_sl G.2 ≤ Sz) {ad : Nat → Nat} {μ0 : sm_M} {S : Nat → Int} {pc len : Nat}  (d : decode cc pc = .ok (.ineg, len)) {A : ab_L} {st : List ab_V} {l : List ab_T} (h : ab_st K G M CT pc A st .ineg len = some l) (k : ∀ a ∈ l, ab_J cl X G M ad μ0 S a) : ab_J cl X G M ad μ0 S (pc, A, st) := by
  obtain ⟨hl, hu1⟩ := dp_g_ok h
  clear h
  have hl := dp_beq hl
  subst hl
  obtain ⟨x, r, rfl, hu2⟩ := ab_1i_ok hu1
  clear hu1
  cases hu2
  intro Lc stc μ gl gs gm gf
  obtain ⟨_, sxs, rfl, cx, gxs⟩ := ab_sv_cons gs
  clear gs
  obtain ⟨nx, rfl, ix⟩ := ab_v_int cx
  exact sm_ineg hX d (k _ List.mem_cons_self Lc _ μ gl ⟨ab_i_top _, gxs⟩ gm gf)
theorem ab_st_land {cl : List vw_C} {X : sm_X} {cc : ByteArray} {own : String} {Ts : List Cond} {rm : Room} {N Sz : Nat} {ini : Bool} {M : ab_M} (hX : sm_ok cl X cc M.1 own Ts M.2.1 rm N Sz ini) {G : ab_G} (hG : ab_Gok G) {K : dp_K} {ys : Nat → MethodName} {wss : Nat → List Cond} (hK : dp_Kok cl X.1.2.2.2 own Ts ys wss K) {CT : List ab_C} (hCT : ∀ e ∈ CT, ab_ok cl X.1 ys wss G e) (hfr : M.2.2.2.1 ≤ rm.frames) (hlo : 32 * M.2.2.2.1 ≤ rm.locals) (hN : G.2.length ≤ N) (hSz : sm_sl G.2 ≤ Sz) {ad : Nat → Nat} {μ0 : sm_M} {S : Nat → Int} {pc len : Nat}  (d : decode cc pc = .ok (.land, len)) {A : ab_L} {st : List ab_V} {l : List ab_T} (h : ab_st K G M CT pc A st .land len = some l) (k : ∀ a ∈ l, ab_J cl X G M ad μ0 S a) : ab_J cl X G M ad μ0 S (pc, A, st) := by
  obtain ⟨hl, hu1⟩ := dp_g_ok h
  clear h
  have hl := dp_beq hl
  subst hl
  obtain ⟨y, r, rfl, hu2⟩ := ab_1l_ok hu1
  clear hu1
  obtain ⟨x, r, rfl, hu3⟩ := ab_1l_ok hu2
  clear hu2
  cases hu3
  intro Lc stc μ gl gs gm gf
  obtain ⟨_, sys, rfl, cy, gys⟩ := ab_sv_cons gs
  clear gs
  obtain ⟨ny, rfl⟩ := ab_v_long cy
  obtain ⟨_, sxs, rfl, cx, gxs⟩ := ab_sv_cons gys
  clear gys
  obtain ⟨nx, rfl⟩ := ab_v_long cx
  exact sm_land hX d (k _ List.mem_cons_self Lc _ μ gl ⟨trivial, gxs⟩ gm gf)
theorem ab_st_lor {cl : List vw_C} {X : sm_X} {cc : ByteArray} {own : String} {Ts : List Cond} {rm : Room} {N Sz : Nat} {ini : Bool} {M : ab_M} (hX : sm_ok cl X cc M.1 own Ts M.2.1 rm N Sz ini) {G : ab_G} (hG : ab_Gok G) {K : dp_K} {ys : Nat → MethodName} {wss : Nat → List Cond} (hK : dp_Kok cl X.1.2.2.2 own Ts ys wss K) {CT : List ab_C} (hCT : ∀ e ∈ CT, ab_ok cl X.1 ys wss G e) (hfr : M.2.2.2.1 ≤ rm.frames) (hlo : 32 * M.2.2.2.1 ≤ rm.locals) (hN : G.2.length ≤ N) (hSz : sm_sl G.2 ≤ Sz) {ad : Nat → Nat} {μ0 : sm_M} {S : Nat → Int} {pc len : Nat}  (d : decode cc pc = .ok (.lor, len)) {A : ab_L} {st : List ab_V} {l : List ab_T} (h : ab_st K G M CT pc A st .lor len = some l) (k : ∀ a ∈ l, ab_J cl X G M ad μ0 S a) : ab_J cl X G M ad μ0 S (pc, A, st) := by
  obtain ⟨hl, hu1⟩ := dp_g_ok h
  clear h
  have hl := dp_beq hl
  subst hl
  obtain ⟨y, r, rfl, hu2⟩ := ab_1l_ok hu1
  clear hu1
  obtain ⟨x, r, rfl, hu3⟩ := ab_1l_ok hu2
  clear hu2
  cases hu3
  intro Lc stc μ gl gs gm gf
  obtain ⟨_, sys, rfl, cy, gys⟩ := ab_sv_cons gs
  clear gs
  obtain ⟨ny, rfl⟩ := ab_v_long cy
  obtain ⟨_, sxs, rfl, cx, gxs⟩ := ab_sv_cons gys
  clear gys
  obtain ⟨nx, rfl⟩ := ab_v_long cx
  exact sm_lor hX d (k _ List.mem_cons_self Lc _ μ gl ⟨trivial, gxs⟩ gm gf)
theorem ab_st_lxor {cl : List vw_C} {X : sm_X} {cc : ByteArray} {own : String} {Ts : List Cond} {rm : Room} {N Sz : Nat} {ini : Bool} {M : ab_M} (hX : sm_ok cl X cc M.1 own Ts M.2.1 rm N Sz ini) {G : ab_G} (hG : ab_Gok G) {K : dp_K} {ys : Nat → MethodName} {wss : Nat → List Cond} (hK : dp_Kok cl X.1.2.2.2 own Ts ys wss K) {CT : List ab_C} (hCT : ∀ e ∈ CT, ab_ok cl X.1 ys wss G e) (hfr : M.2.2.2.1 ≤ rm.frames) (hlo : 32 * M.2.2.2.1 ≤ rm.locals) (hN : G.2.length ≤ N) (hSz : sm_sl G.2 ≤ Sz) {ad : Nat → Nat} {μ0 : sm_M} {S : Nat → Int} {pc len : Nat}  (d : decode cc pc = .ok (.lxor, len)) {A : ab_L} {st : List ab_V} {l : List ab_T} (h : ab_st K G M CT pc A st .lxor len = some l) (k : ∀ a ∈ l, ab_J cl X G M ad μ0 S a) : ab_J cl X G M ad μ0 S (pc, A, st) := by
  obtain ⟨hl, hu1⟩ := dp_g_ok h
  clear h
  have hl := dp_beq hl
  subst hl
  obtain ⟨y, r, rfl, hu2⟩ := ab_1l_ok hu1
  clear hu1
  obtain ⟨x, r, rfl, hu3⟩ := ab_1l_ok hu2
  clear hu2
  cases hu3
  intro Lc stc μ gl gs gm gf
  obtain ⟨_, sys, rfl, cy, gys⟩ := ab_sv_cons gs
  clear gs
  obtain ⟨ny, rfl⟩ := ab_v_long cy
  obtain ⟨_, sxs, rfl, cx, gxs⟩ := ab_sv_cons gys
  clear gys
  obtain ⟨nx, rfl⟩ := ab_v_long cx
  exact sm_lxor hX d (k _ List.mem_cons_self Lc _ μ gl ⟨trivial, gxs⟩ gm gf)
theorem ab_st_ladd {cl : List vw_C} {X : sm_X} {cc : ByteArray} {own : String} {Ts : List Cond} {rm : Room} {N Sz : Nat} {ini : Bool} {M : ab_M} (hX : sm_ok cl X cc M.1 own Ts M.2.1 rm N Sz ini) {G : ab_G} (hG : ab_Gok G) {K : dp_K} {ys : Nat → MethodName} {wss : Nat → List Cond} (hK : dp_Kok cl X.1.2.2.2 own Ts ys wss K) {CT : List ab_C} (hCT : ∀ e ∈ CT, ab_ok cl X.1 ys wss G e) (hfr : M.2.2.2.1 ≤ rm.frames) (hlo : 32 * M.2.2.2.1 ≤ rm.locals) (hN : G.2.length ≤ N) (hSz : sm_sl G.2 ≤ Sz) {ad : Nat → Nat} {μ0 : sm_M} {S : Nat → Int} {pc len : Nat}  (d : decode cc pc = .ok (.ladd, len)) {A : ab_L} {st : List ab_V} {l : List ab_T} (h : ab_st K G M CT pc A st .ladd len = some l) (k : ∀ a ∈ l, ab_J cl X G M ad μ0 S a) : ab_J cl X G M ad μ0 S (pc, A, st) := by
  obtain ⟨hl, hu1⟩ := dp_g_ok h
  clear h
  have hl := dp_beq hl
  subst hl
  obtain ⟨y, r, rfl, hu2⟩ := ab_1l_ok hu1
  clear hu1
  obtain ⟨x, r, rfl, hu3⟩ := ab_1l_ok hu2
  clear hu2
  cases hu3
  intro Lc stc μ gl gs gm gf
  obtain ⟨_, sys, rfl, cy, gys⟩ := ab_sv_cons gs
  clear gs
  obtain ⟨ny, rfl⟩ := ab_v_long cy
  obtain ⟨_, sxs, rfl, cx, gxs⟩ := ab_sv_cons gys
  clear gys
  obtain ⟨nx, rfl⟩ := ab_v_long cx
  exact sm_ladd hX d (k _ List.mem_cons_self Lc _ μ gl ⟨trivial, gxs⟩ gm gf)
theorem ab_st_lsub {cl : List vw_C} {X : sm_X} {cc : ByteArray} {own : String} {Ts : List Cond} {rm : Room} {N Sz : Nat} {ini : Bool} {M : ab_M} (hX : sm_ok cl X cc M.1 own Ts M.2.1 rm N Sz ini) {G : ab_G} (hG : ab_Gok G) {K : dp_K} {ys : Nat → MethodName} {wss : Nat → List Cond} (hK : dp_Kok cl X.1.2.2.2 own Ts ys wss K) {CT : List ab_C} (hCT : ∀ e ∈ CT, ab_ok cl X.1 ys wss G e) (hfr : M.2.2.2.1 ≤ rm.frames) (hlo : 32 * M.2.2.2.1 ≤ rm.locals) (hN : G.2.length ≤ N) (hSz : sm_sl G.2 ≤ Sz) {ad : Nat → Nat} {μ0 : sm_M} {S : Nat → Int} {pc len : Nat}  (d : decode cc pc = .ok (.lsub, len)) {A : ab_L} {st : List ab_V} {l : List ab_T} (h : ab_st K G M CT pc A st .lsub len = some l) (k : ∀ a ∈ l, ab_J cl X G M ad μ0 S a) : ab_J cl X G M ad μ0 S (pc, A, st) := by
  obtain ⟨hl, hu1⟩ := dp_g_ok h
  clear h
  have hl := dp_beq hl
  subst hl
  obtain ⟨y, r, rfl, hu2⟩ := ab_1l_ok hu1
  clear hu1
  obtain ⟨x, r, rfl, hu3⟩ := ab_1l_ok hu2
  clear hu2
  cases hu3
  intro Lc stc μ gl gs gm gf
  obtain ⟨_, sys, rfl, cy, gys⟩ := ab_sv_cons gs
  clear gs
  obtain ⟨ny, rfl⟩ := ab_v_long cy
  obtain ⟨_, sxs, rfl, cx, gxs⟩ := ab_sv_cons gys
  clear gys
  obtain ⟨nx, rfl⟩ := ab_v_long cx
  exact sm_lsub hX d (k _ List.mem_cons_self Lc _ μ gl ⟨trivial, gxs⟩ gm gf)
theorem ab_st_lshl {cl : List vw_C} {X : sm_X} {cc : ByteArray} {own : String} {Ts : List Cond} {rm : Room} {N Sz : Nat} {ini : Bool} {M : ab_M} (hX : sm_ok cl X cc M.1 own Ts M.2.1 rm N Sz ini) {G : ab_G} (hG : ab_Gok G) {K : dp_K} {ys : Nat → MethodName} {wss : Nat → List Cond} (hK : dp_Kok cl X.1.2.2.2 own Ts ys wss K) {CT : List ab_C} (hCT : ∀ e ∈ CT, ab_ok cl X.1 ys wss G e) (hfr : M.2.2.2.1 ≤ rm.frames) (hlo : 32 * M.2.2.2.1 ≤ rm.locals) (hN : G.2.length ≤ N) (hSz : sm_sl G.2 ≤ Sz) {ad : Nat → Nat} {μ0 : sm_M} {S : Nat → Int} {pc len : Nat}  (d : decode cc pc = .ok (.lshl, len)) {A : ab_L} {st : List ab_V} {l : List ab_T} (h : ab_st K G M CT pc A st .lshl len = some l) (k : ∀ a ∈ l, ab_J cl X G M ad μ0 S a) : ab_J cl X G M ad μ0 S (pc, A, st) := by
  obtain ⟨hl, hu1⟩ := dp_g_ok h
  clear h
  have hl := dp_beq hl
  subst hl
  obtain ⟨y, r, rfl, hu2⟩ := ab_1i_ok hu1
  clear hu1
  obtain ⟨x, r, rfl, hu3⟩ := ab_1l_ok hu2
  clear hu2
  cases hu3
  intro Lc stc μ gl gs gm gf
  obtain ⟨_, sys, rfl, cy, gys⟩ := ab_sv_cons gs
  clear gs
  obtain ⟨ny, rfl, iy⟩ := ab_v_int cy
  obtain ⟨_, sxs, rfl, cx, gxs⟩ := ab_sv_cons gys
  clear gys
  obtain ⟨nx, rfl⟩ := ab_v_long cx
  exact sm_lshl hX d (k _ List.mem_cons_self Lc _ μ gl ⟨trivial, gxs⟩ gm gf)
theorem ab_st_lshr {cl : List vw_C} {X : sm_X} {cc : ByteArray} {own : String} {Ts : List Cond} {rm : Room} {N Sz : Nat} {ini : Bool} {M : ab_M} (hX : sm_ok cl X cc M.1 own Ts M.2.1 rm N Sz ini) {G : ab_G} (hG : ab_Gok G) {K : dp_K} {ys : Nat → MethodName} {wss : Nat → List Cond} (hK : dp_Kok cl X.1.2.2.2 own Ts ys wss K) {CT : List ab_C} (hCT : ∀ e ∈ CT, ab_ok cl X.1 ys wss G e) (hfr : M.2.2.2.1 ≤ rm.frames) (hlo : 32 * M.2.2.2.1 ≤ rm.locals) (hN : G.2.length ≤ N) (hSz : sm_sl G.2 ≤ Sz) {ad : Nat → Nat} {μ0 : sm_M} {S : Nat → Int} {pc len : Nat}  (d : decode cc pc = .ok (.lshr, len)) {A : ab_L} {st : List ab_V} {l : List ab_T} (h : ab_st K G M CT pc A st .lshr len = some l) (k : ∀ a ∈ l, ab_J cl X G M ad μ0 S a) : ab_J cl X G M ad μ0 S (pc, A, st) := by
  obtain ⟨hl, hu1⟩ := dp_g_ok h
  clear h
  have hl := dp_beq hl
  subst hl
  obtain ⟨y, r, rfl, hu2⟩ := ab_1i_ok hu1
  clear hu1
  obtain ⟨x, r, rfl, hu3⟩ := ab_1l_ok hu2
  clear hu2
  cases hu3
  intro Lc stc μ gl gs gm gf
  obtain ⟨_, sys, rfl, cy, gys⟩ := ab_sv_cons gs
  clear gs
  obtain ⟨ny, rfl, iy⟩ := ab_v_int cy
  obtain ⟨_, sxs, rfl, cx, gxs⟩ := ab_sv_cons gys
  clear gys
  obtain ⟨nx, rfl⟩ := ab_v_long cx
  exact sm_lshr hX d (k _ List.mem_cons_self Lc _ μ gl ⟨trivial, gxs⟩ gm gf)
theorem ab_st_lushr {cl : List vw_C} {X : sm_X} {cc : ByteArray} {own : String} {Ts : List Cond} {rm : Room} {N Sz : Nat} {ini : Bool} {M : ab_M} (hX : sm_ok cl X cc M.1 own Ts M.2.1 rm N Sz ini) {G : ab_G} (hG : ab_Gok G) {K : dp_K} {ys : Nat → MethodName} {wss : Nat → List Cond} (hK : dp_Kok cl X.1.2.2.2 own Ts ys wss K) {CT : List ab_C} (hCT : ∀ e ∈ CT, ab_ok cl X.1 ys wss G e) (hfr : M.2.2.2.1 ≤ rm.frames) (hlo : 32 * M.2.2.2.1 ≤ rm.locals) (hN : G.2.length ≤ N) (hSz : sm_sl G.2 ≤ Sz) {ad : Nat → Nat} {μ0 : sm_M} {S : Nat → Int} {pc len : Nat}  (d : decode cc pc = .ok (.lushr, len)) {A : ab_L} {st : List ab_V} {l : List ab_T} (h : ab_st K G M CT pc A st .lushr len = some l) (k : ∀ a ∈ l, ab_J cl X G M ad μ0 S a) : ab_J cl X G M ad μ0 S (pc, A, st) := by
  obtain ⟨hl, hu1⟩ := dp_g_ok h
  clear h
  have hl := dp_beq hl
  subst hl
  obtain ⟨y, r, rfl, hu2⟩ := ab_1i_ok hu1
  clear hu1
  obtain ⟨x, r, rfl, hu3⟩ := ab_1l_ok hu2
  clear hu2
  cases hu3
  intro Lc stc μ gl gs gm gf
  obtain ⟨_, sys, rfl, cy, gys⟩ := ab_sv_cons gs
  clear gs
  obtain ⟨ny, rfl, iy⟩ := ab_v_int cy
  obtain ⟨_, sxs, rfl, cx, gxs⟩ := ab_sv_cons gys
  clear gys
  obtain ⟨nx, rfl⟩ := ab_v_long cx
  exact sm_lushr hX d (k _ List.mem_cons_self Lc _ μ gl ⟨trivial, gxs⟩ gm gf)
theorem ab_st_lcmp {cl : List vw_C} {X : sm_X} {cc : ByteArray} {own : String} {Ts : List Cond} {rm : Room} {N Sz : Nat} {ini : Bool} {M : ab_M} (hX : sm_ok cl X cc M.1 own Ts M.2.1 rm N Sz ini) {G : ab_G} (hG : ab_Gok G) {K : dp_K} {ys : Nat → MethodName} {wss : Nat → List Cond} (hK : dp_Kok cl X.1.2.2.2 own Ts ys wss K) {CT : List ab_C} (hCT : ∀ e ∈ CT, ab_ok cl X.1 ys wss G e) (hfr : M.2.2.2.1 ≤ rm.frames) (hlo : 32 * M.2.2.2.1 ≤ rm.locals) (hN : G.2.length ≤ N) (hSz : sm_sl G.2 ≤ Sz) {ad : Nat → Nat} {μ0 : sm_M} {S : Nat → Int} {pc len : Nat}  (d : decode cc pc = .ok (.lcmp, len)) {A : ab_L} {st : List ab_V} {l : List ab_T} (h : ab_st K G M CT pc A st .lcmp len = some l) (k : ∀ a ∈ l, ab_J cl X G M ad μ0 S a) : ab_J cl X G M ad μ0 S (pc, A, st) := by
  obtain ⟨hl, hu1⟩ := dp_g_ok h
  clear h
  have hl := dp_beq hl
  subst hl
  obtain ⟨y, r, rfl, hu2⟩ := ab_1l_ok hu1
  clear hu1
  obtain ⟨x, r, rfl, hu3⟩ := ab_1l_ok hu2
  clear hu2
  cases hu3
  intro Lc stc μ gl gs gm gf
  obtain ⟨_, sys, rfl, cy, gys⟩ := ab_sv_cons gs
  clear gs
  obtain ⟨ny, rfl⟩ := ab_v_long cy
  obtain ⟨_, sxs, rfl, cx, gxs⟩ := ab_sv_cons gys
  clear gys
  obtain ⟨nx, rfl⟩ := ab_v_long cx
  exact sm_lcmp hX d (k _ List.mem_cons_self Lc _ μ gl ⟨ab_lcmp nx ny, gxs⟩ gm gf)
theorem ab_st_i2l {cl : List vw_C} {X : sm_X} {cc : ByteArray} {own : String} {Ts : List Cond} {rm : Room} {N Sz : Nat} {ini : Bool} {M : ab_M} (hX : sm_ok cl X cc M.1 own Ts M.2.1 rm N Sz ini) {G : ab_G} (hG : ab_Gok G) {K : dp_K} {ys : Nat → MethodName} {wss : Nat → List Cond} (hK : dp_Kok cl X.1.2.2.2 own Ts ys wss K) {CT : List ab_C} (hCT : ∀ e ∈ CT, ab_ok cl X.1 ys wss G e) (hfr : M.2.2.2.1 ≤ rm.frames) (hlo : 32 * M.2.2.2.1 ≤ rm.locals) (hN : G.2.length ≤ N) (hSz : sm_sl G.2 ≤ Sz) {ad : Nat → Nat} {μ0 : sm_M} {S : Nat → Int} {pc len : Nat}  (d : decode cc pc = .ok (.i2l, len)) {A : ab_L} {st : List ab_V} {l : List ab_T} (h : ab_st K G M CT pc A st .i2l len = some l) (k : ∀ a ∈ l, ab_J cl X G M ad μ0 S a) : ab_J cl X G M ad μ0 S (pc, A, st) := by
  obtain ⟨hl, hu1⟩ := dp_g_ok h
  clear h
  have hl := dp_beq hl
  subst hl
  obtain ⟨x, r, rfl, hu2⟩ := ab_1i_ok hu1
  clear hu1
  cases hu2
  intro Lc stc μ gl gs gm gf
  obtain ⟨_, sxs, rfl, cx, gxs⟩ := ab_sv_cons gs
  clear gs
  obtain ⟨nx, rfl, ix⟩ := ab_v_int cx
  exact sm_i2l hX d (k _ List.mem_cons_self Lc _ μ gl ⟨trivial, gxs⟩ gm gf)
theorem ab_st_l2i {cl : List vw_C} {X : sm_X} {cc : ByteArray} {own : String} {Ts : List Cond} {rm : Room} {N Sz : Nat} {ini : Bool} {M : ab_M} (hX : sm_ok cl X cc M.1 own Ts M.2.1 rm N Sz ini) {G : ab_G} (hG : ab_Gok G) {K : dp_K} {ys : Nat → MethodName} {wss : Nat → List Cond} (hK : dp_Kok cl X.1.2.2.2 own Ts ys wss K) {CT : List ab_C} (hCT : ∀ e ∈ CT, ab_ok cl X.1 ys wss G e) (hfr : M.2.2.2.1 ≤ rm.frames) (hlo : 32 * M.2.2.2.1 ≤ rm.locals) (hN : G.2.length ≤ N) (hSz : sm_sl G.2 ≤ Sz) {ad : Nat → Nat} {μ0 : sm_M} {S : Nat → Int} {pc len : Nat}  (d : decode cc pc = .ok (.l2i, len)) {A : ab_L} {st : List ab_V} {l : List ab_T} (h : ab_st K G M CT pc A st .l2i len = some l) (k : ∀ a ∈ l, ab_J cl X G M ad μ0 S a) : ab_J cl X G M ad μ0 S (pc, A, st) := by
  obtain ⟨hl, hu1⟩ := dp_g_ok h
  clear h
  have hl := dp_beq hl
  subst hl
  obtain ⟨x, r, rfl, hu2⟩ := ab_1l_ok hu1
  clear hu1
  cases hu2
  intro Lc stc μ gl gs gm gf
  obtain ⟨_, sxs, rfl, cx, gxs⟩ := ab_sv_cons gs
  clear gs
  obtain ⟨nx, rfl⟩ := ab_v_long cx
  exact sm_l2i hX d (k _ List.mem_cons_self Lc _ μ gl ⟨ab_i_top _, gxs⟩ gm gf)
theorem ab_st_iconst {cl : List vw_C} {X : sm_X} {cc : ByteArray} {own : String} {Ts : List Cond} {rm : Room} {N Sz : Nat} {ini : Bool} {M : ab_M} (hX : sm_ok cl X cc M.1 own Ts M.2.1 rm N Sz ini) {G : ab_G} (hG : ab_Gok G) {K : dp_K} {ys : Nat → MethodName} {wss : Nat → List Cond} (hK : dp_Kok cl X.1.2.2.2 own Ts ys wss K) {CT : List ab_C} (hCT : ∀ e ∈ CT, ab_ok cl X.1 ys wss G e) (hfr : M.2.2.2.1 ≤ rm.frames) (hlo : 32 * M.2.2.2.1 ≤ rm.locals) (hN : G.2.length ≤ N) (hSz : sm_sl G.2 ≤ Sz) {ad : Nat → Nat} {μ0 : sm_M} {S : Nat → Int} {pc len : Nat} (i : Int) (d : decode cc pc = .ok ((.iconst i), len)) {A : ab_L} {st : List ab_V} {l : List ab_T} (h : ab_st K G M CT pc A st (.iconst i) len = some l) (k : ∀ a ∈ l, ab_J cl X G M ad μ0 S a) : ab_J cl X G M ad μ0 S (pc, A, st) := by
  obtain ⟨hl, hu1⟩ := dp_g_ok h
  clear h
  have hl := dp_beq hl
  subst hl
  cases hu1
  intro Lc stc μ gl gs gm gf
  exact sm_iconst hX d (k _ List.mem_cons_self Lc _ μ gl ⟨ab_i_c _, gs⟩ gm gf)
theorem ab_st_bipush {cl : List vw_C} {X : sm_X} {cc : ByteArray} {own : String} {Ts : List Cond} {rm : Room} {N Sz : Nat} {ini : Bool} {M : ab_M} (hX : sm_ok cl X cc M.1 own Ts M.2.1 rm N Sz ini) {G : ab_G} (hG : ab_Gok G) {K : dp_K} {ys : Nat → MethodName} {wss : Nat → List Cond} (hK : dp_Kok cl X.1.2.2.2 own Ts ys wss K) {CT : List ab_C} (hCT : ∀ e ∈ CT, ab_ok cl X.1 ys wss G e) (hfr : M.2.2.2.1 ≤ rm.frames) (hlo : 32 * M.2.2.2.1 ≤ rm.locals) (hN : G.2.length ≤ N) (hSz : sm_sl G.2 ≤ Sz) {ad : Nat → Nat} {μ0 : sm_M} {S : Nat → Int} {pc len : Nat} (i : Int) (d : decode cc pc = .ok ((.bipush i), len)) {A : ab_L} {st : List ab_V} {l : List ab_T} (h : ab_st K G M CT pc A st (.bipush i) len = some l) (k : ∀ a ∈ l, ab_J cl X G M ad μ0 S a) : ab_J cl X G M ad μ0 S (pc, A, st) := by
  obtain ⟨hl, hu1⟩ := dp_g_ok h
  clear h
  have hl := dp_beq hl
  subst hl
  cases hu1
  intro Lc stc μ gl gs gm gf
  exact sm_bipush hX d (k _ List.mem_cons_self Lc _ μ gl ⟨ab_i_c _, gs⟩ gm gf)
theorem ab_st_sipush {cl : List vw_C} {X : sm_X} {cc : ByteArray} {own : String} {Ts : List Cond} {rm : Room} {N Sz : Nat} {ini : Bool} {M : ab_M} (hX : sm_ok cl X cc M.1 own Ts M.2.1 rm N Sz ini) {G : ab_G} (hG : ab_Gok G) {K : dp_K} {ys : Nat → MethodName} {wss : Nat → List Cond} (hK : dp_Kok cl X.1.2.2.2 own Ts ys wss K) {CT : List ab_C} (hCT : ∀ e ∈ CT, ab_ok cl X.1 ys wss G e) (hfr : M.2.2.2.1 ≤ rm.frames) (hlo : 32 * M.2.2.2.1 ≤ rm.locals) (hN : G.2.length ≤ N) (hSz : sm_sl G.2 ≤ Sz) {ad : Nat → Nat} {μ0 : sm_M} {S : Nat → Int} {pc len : Nat} (i : Int) (d : decode cc pc = .ok ((.sipush i), len)) {A : ab_L} {st : List ab_V} {l : List ab_T} (h : ab_st K G M CT pc A st (.sipush i) len = some l) (k : ∀ a ∈ l, ab_J cl X G M ad μ0 S a) : ab_J cl X G M ad μ0 S (pc, A, st) := by
  obtain ⟨hl, hu1⟩ := dp_g_ok h
  clear h
  have hl := dp_beq hl
  subst hl
  cases hu1
  intro Lc stc μ gl gs gm gf
  exact sm_sipush hX d (k _ List.mem_cons_self Lc _ μ gl ⟨ab_i_c _, gs⟩ gm gf)
theorem ab_st_lconst {cl : List vw_C} {X : sm_X} {cc : ByteArray} {own : String} {Ts : List Cond} {rm : Room} {N Sz : Nat} {ini : Bool} {M : ab_M} (hX : sm_ok cl X cc M.1 own Ts M.2.1 rm N Sz ini) {G : ab_G} (hG : ab_Gok G) {K : dp_K} {ys : Nat → MethodName} {wss : Nat → List Cond} (hK : dp_Kok cl X.1.2.2.2 own Ts ys wss K) {CT : List ab_C} (hCT : ∀ e ∈ CT, ab_ok cl X.1 ys wss G e) (hfr : M.2.2.2.1 ≤ rm.frames) (hlo : 32 * M.2.2.2.1 ≤ rm.locals) (hN : G.2.length ≤ N) (hSz : sm_sl G.2 ≤ Sz) {ad : Nat → Nat} {μ0 : sm_M} {S : Nat → Int} {pc len : Nat} (i : Fin 2) (d : decode cc pc = .ok ((.lconst i), len)) {A : ab_L} {st : List ab_V} {l : List ab_T} (h : ab_st K G M CT pc A st (.lconst i) len = some l) (k : ∀ a ∈ l, ab_J cl X G M ad μ0 S a) : ab_J cl X G M ad μ0 S (pc, A, st) := by
  obtain ⟨hl, hu1⟩ := dp_g_ok h
  clear h
  have hl := dp_beq hl
  subst hl
  cases hu1
  intro Lc stc μ gl gs gm gf
  exact sm_lconst hX d (k _ List.mem_cons_self Lc _ μ gl ⟨trivial, gs⟩ gm gf)
theorem ab_st_ldc {cl : List vw_C} {X : sm_X} {cc : ByteArray} {own : String} {Ts : List Cond} {rm : Room} {N Sz : Nat} {ini : Bool} {M : ab_M} (hX : sm_ok cl X cc M.1 own Ts M.2.1 rm N Sz ini) {G : ab_G} (hG : ab_Gok G) {K : dp_K} {ys : Nat → MethodName} {wss : Nat → List Cond} (hK : dp_Kok cl X.1.2.2.2 own Ts ys wss K) {CT : List ab_C} (hCT : ∀ e ∈ CT, ab_ok cl X.1 ys wss G e) (hfr : M.2.2.2.1 ≤ rm.frames) (hlo : 32 * M.2.2.2.1 ≤ rm.locals) (hN : G.2.length ≤ N) (hSz : sm_sl G.2 ≤ Sz) {ad : Nat → Nat} {μ0 : sm_M} {S : Nat → Int} {pc len : Nat} (i : Nat) (d : decode cc pc = .ok ((.ldc i), len)) {A : ab_L} {st : List ab_V} {l : List ab_T} (h : ab_st K G M CT pc A st (.ldc i) len = some l) (k : ∀ a ∈ l, ab_J cl X G M ad μ0 S a) : ab_J cl X G M ad μ0 S (pc, A, st) := by
  obtain ⟨hl, hu1⟩ := dp_g_ok h
  clear h
  have hl := dp_beq hl
  subst hl
  obtain ⟨v, hv, hu2⟩ := dp_o_ok hu1
  clear hu1
  cases hu2
  intro Lc stc μ gl gs gm gf
  exact sm_ldc hX d (hK.2.1 _ _ hv) (k _ List.mem_cons_self Lc _ μ gl ⟨ab_i_c _, gs⟩ gm gf)
theorem ab_st_ldc2_w {cl : List vw_C} {X : sm_X} {cc : ByteArray} {own : String} {Ts : List Cond} {rm : Room} {N Sz : Nat} {ini : Bool} {M : ab_M} (hX : sm_ok cl X cc M.1 own Ts M.2.1 rm N Sz ini) {G : ab_G} (hG : ab_Gok G) {K : dp_K} {ys : Nat → MethodName} {wss : Nat → List Cond} (hK : dp_Kok cl X.1.2.2.2 own Ts ys wss K) {CT : List ab_C} (hCT : ∀ e ∈ CT, ab_ok cl X.1 ys wss G e) (hfr : M.2.2.2.1 ≤ rm.frames) (hlo : 32 * M.2.2.2.1 ≤ rm.locals) (hN : G.2.length ≤ N) (hSz : sm_sl G.2 ≤ Sz) {ad : Nat → Nat} {μ0 : sm_M} {S : Nat → Int} {pc len : Nat} (i : Nat) (d : decode cc pc = .ok ((.ldc2_w i), len)) {A : ab_L} {st : List ab_V} {l : List ab_T} (h : ab_st K G M CT pc A st (.ldc2_w i) len = some l) (k : ∀ a ∈ l, ab_J cl X G M ad μ0 S a) : ab_J cl X G M ad μ0 S (pc, A, st) := by
  obtain ⟨hl, hu1⟩ := dp_g_ok h
  clear h
  have hl := dp_beq hl
  subst hl
  obtain ⟨v, hv, hu2⟩ := dp_o_ok hu1
  clear hu1
  cases hu2
  intro Lc stc μ gl gs gm gf
  exact sm_ldc2 hX d (hK.2.2.1 _ _ hv) (k _ List.mem_cons_self Lc _ μ gl ⟨trivial, gs⟩ gm gf)
theorem ab_st_dup {cl : List vw_C} {X : sm_X} {cc : ByteArray} {own : String} {Ts : List Cond} {rm : Room} {N Sz : Nat} {ini : Bool} {M : ab_M} (hX : sm_ok cl X cc M.1 own Ts M.2.1 rm N Sz ini) {G : ab_G} (hG : ab_Gok G) {K : dp_K} {ys : Nat → MethodName} {wss : Nat → List Cond} (hK : dp_Kok cl X.1.2.2.2 own Ts ys wss K) {CT : List ab_C} (hCT : ∀ e ∈ CT, ab_ok cl X.1 ys wss G e) (hfr : M.2.2.2.1 ≤ rm.frames) (hlo : 32 * M.2.2.2.1 ≤ rm.locals) (hN : G.2.length ≤ N) (hSz : sm_sl G.2 ≤ Sz) {ad : Nat → Nat} {μ0 : sm_M} {S : Nat → Int} {pc len : Nat}  (d : decode cc pc = .ok (.dup, len)) {A : ab_L} {st : List ab_V} {l : List ab_T} (h : ab_st K G M CT pc A st .dup len = some l) (k : ∀ a ∈ l, ab_J cl X G M ad μ0 S a) : ab_J cl X G M ad μ0 S (pc, A, st) := by
  obtain ⟨hl, hu1⟩ := dp_g_ok h
  clear h
  have hl := dp_beq hl
  subst hl
  obtain ⟨x, r, rfl, hu2⟩ := ab_1v_ok hu1
  clear hu1
  obtain ⟨h1, hu3⟩ := dp_g_ok hu2
  clear hu2
  cases hu3
  intro Lc stc μ gl gs gm gf
  obtain ⟨vx, sxs, rfl, cx, gxs⟩ := ab_sv_cons gs
  clear gs
  exact sm_dup hX d ((ab_v_cat cx).trans (dp_beq h1)) (k _ List.mem_cons_self Lc _ μ gl ⟨cx, cx, gxs⟩ gm gf)
theorem ab_st_pop {cl : List vw_C} {X : sm_X} {cc : ByteArray} {own : String} {Ts : List Cond} {rm : Room} {N Sz : Nat} {ini : Bool} {M : ab_M} (hX : sm_ok cl X cc M.1 own Ts M.2.1 rm N Sz ini) {G : ab_G} (hG : ab_Gok G) {K : dp_K} {ys : Nat → MethodName} {wss : Nat → List Cond} (hK : dp_Kok cl X.1.2.2.2 own Ts ys wss K) {CT : List ab_C} (hCT : ∀ e ∈ CT, ab_ok cl X.1 ys wss G e) (hfr : M.2.2.2.1 ≤ rm.frames) (hlo : 32 * M.2.2.2.1 ≤ rm.locals) (hN : G.2.length ≤ N) (hSz : sm_sl G.2 ≤ Sz) {ad : Nat → Nat} {μ0 : sm_M} {S : Nat → Int} {pc len : Nat}  (d : decode cc pc = .ok (.pop, len)) {A : ab_L} {st : List ab_V} {l : List ab_T} (h : ab_st K G M CT pc A st .pop len = some l) (k : ∀ a ∈ l, ab_J cl X G M ad μ0 S a) : ab_J cl X G M ad μ0 S (pc, A, st) := by
  obtain ⟨hl, hu1⟩ := dp_g_ok h
  clear h
  have hl := dp_beq hl
  subst hl
  obtain ⟨x, r, rfl, hu2⟩ := ab_1v_ok hu1
  clear hu1
  obtain ⟨h1, hu3⟩ := dp_g_ok hu2
  clear hu2
  cases hu3
  intro Lc stc μ gl gs gm gf
  obtain ⟨vx, sxs, rfl, cx, gxs⟩ := ab_sv_cons gs
  clear gs
  exact sm_pop hX d ((ab_v_cat cx).trans (dp_beq h1)) (k _ List.mem_cons_self Lc _ μ gl gxs gm gf)
theorem ab_st_dup_x1 {cl : List vw_C} {X : sm_X} {cc : ByteArray} {own : String} {Ts : List Cond} {rm : Room} {N Sz : Nat} {ini : Bool} {M : ab_M} (hX : sm_ok cl X cc M.1 own Ts M.2.1 rm N Sz ini) {G : ab_G} (hG : ab_Gok G) {K : dp_K} {ys : Nat → MethodName} {wss : Nat → List Cond} (hK : dp_Kok cl X.1.2.2.2 own Ts ys wss K) {CT : List ab_C} (hCT : ∀ e ∈ CT, ab_ok cl X.1 ys wss G e) (hfr : M.2.2.2.1 ≤ rm.frames) (hlo : 32 * M.2.2.2.1 ≤ rm.locals) (hN : G.2.length ≤ N) (hSz : sm_sl G.2 ≤ Sz) {ad : Nat → Nat} {μ0 : sm_M} {S : Nat → Int} {pc len : Nat}  (d : decode cc pc = .ok (.dup_x1, len)) {A : ab_L} {st : List ab_V} {l : List ab_T} (h : ab_st K G M CT pc A st .dup_x1 len = some l) (k : ∀ a ∈ l, ab_J cl X G M ad μ0 S a) : ab_J cl X G M ad μ0 S (pc, A, st) := by
  obtain ⟨hl, hu1⟩ := dp_g_ok h
  clear h
  have hl := dp_beq hl
  subst hl
  obtain ⟨x, r, rfl, hu2⟩ := ab_1v_ok hu1
  clear hu1
  obtain ⟨y, r, rfl, hu3⟩ := ab_1v_ok hu2
  clear hu2
  obtain ⟨h1, hu4⟩ := dp_g_ok hu3
  clear hu3
  obtain ⟨h2, hu5⟩ := dp_g_ok hu4
  clear hu4
  cases hu5
  intro Lc stc μ gl gs gm gf
  obtain ⟨vx, sxs, rfl, cx, gxs⟩ := ab_sv_cons gs
  clear gs
  obtain ⟨vy, sys, rfl, cy, gys⟩ := ab_sv_cons gxs
  clear gxs
  exact sm_dup_x1 hX d ((ab_v_cat cx).trans (dp_beq h1)) ((ab_v_cat cy).trans (dp_beq h2)) (k _ List.mem_cons_self Lc _ μ gl ⟨cx, cy, cx, gys⟩ gm gf)
theorem ab_st_dup2 {cl : List vw_C} {X : sm_X} {cc : ByteArray} {own : String} {Ts : List Cond} {rm : Room} {N Sz : Nat} {ini : Bool} {M : ab_M} (hX : sm_ok cl X cc M.1 own Ts M.2.1 rm N Sz ini) {G : ab_G} (hG : ab_Gok G) {K : dp_K} {ys : Nat → MethodName} {wss : Nat → List Cond} (hK : dp_Kok cl X.1.2.2.2 own Ts ys wss K) {CT : List ab_C} (hCT : ∀ e ∈ CT, ab_ok cl X.1 ys wss G e) (hfr : M.2.2.2.1 ≤ rm.frames) (hlo : 32 * M.2.2.2.1 ≤ rm.locals) (hN : G.2.length ≤ N) (hSz : sm_sl G.2 ≤ Sz) {ad : Nat → Nat} {μ0 : sm_M} {S : Nat → Int} {pc len : Nat}  (d : decode cc pc = .ok (.dup2, len)) {A : ab_L} {st : List ab_V} {l : List ab_T} (h : ab_st K G M CT pc A st .dup2 len = some l) (k : ∀ a ∈ l, ab_J cl X G M ad μ0 S a) : ab_J cl X G M ad μ0 S (pc, A, st) := by
  obtain ⟨hl, hu1⟩ := dp_g_ok h
  clear h
  have hl := dp_beq hl
  subst hl
  obtain ⟨x, r, rfl, hu2⟩ := ab_1v_ok hu1
  clear hu1
  obtain ⟨y, r, rfl, hu3⟩ := ab_1v_ok hu2
  clear hu2
  obtain ⟨h1, hu4⟩ := dp_g_ok hu3
  clear hu3
  obtain ⟨h2, hu5⟩ := dp_g_ok hu4
  clear hu4
  cases hu5
  intro Lc stc μ gl gs gm gf
  obtain ⟨vx, sxs, rfl, cx, gxs⟩ := ab_sv_cons gs
  clear gs
  obtain ⟨vy, sys, rfl, cy, gys⟩ := ab_sv_cons gxs
  clear gxs
  exact sm_dup2 hX d ((ab_v_cat cx).trans (dp_beq h1)) ((ab_v_cat cy).trans (dp_beq h2)) (k _ List.mem_cons_self Lc _ μ gl ⟨cx, cy, cx, cy, gys⟩ gm gf)
theorem ab_st_iload {cl : List vw_C} {X : sm_X} {cc : ByteArray} {own : String} {Ts : List Cond} {rm : Room} {N Sz : Nat} {ini : Bool} {M : ab_M} (hX : sm_ok cl X cc M.1 own Ts M.2.1 rm N Sz ini) {G : ab_G} (hG : ab_Gok G) {K : dp_K} {ys : Nat → MethodName} {wss : Nat → List Cond} (hK : dp_Kok cl X.1.2.2.2 own Ts ys wss K) {CT : List ab_C} (hCT : ∀ e ∈ CT, ab_ok cl X.1 ys wss G e) (hfr : M.2.2.2.1 ≤ rm.frames) (hlo : 32 * M.2.2.2.1 ≤ rm.locals) (hN : G.2.length ≤ N) (hSz : sm_sl G.2 ≤ Sz) {ad : Nat → Nat} {μ0 : sm_M} {S : Nat → Int} {pc len : Nat} (i : Nat) (d : decode cc pc = .ok ((.iload i), len)) {A : ab_L} {st : List ab_V} {l : List ab_T} (h : ab_st K G M CT pc A st (.iload i) len = some l) (k : ∀ a ∈ l, ab_J cl X G M ad μ0 S a) : ab_J cl X G M ad μ0 S (pc, A, st) := by
  obtain ⟨hl, hu1⟩ := dp_g_ok h
  clear h
  have hl := dp_beq hl
  subst hl
  split at hu1
  · rename_i x hx
    cases hu1
    intro Lc stc μ gl gs gm gf
    obtain ⟨v, hv, hav⟩ := gl.2.2.1 _ _ hx
    obtain ⟨n, rfl, i1⟩ := ab_v_int hav
    exact sm_iloadG hX d hv (k _ List.mem_cons_self Lc _ μ gl ⟨⟨i1.1, i1.2.1, i1.2.2.1, fun l e => by cases e; exact hv⟩, gs⟩ gm gf)
  · cases hu1
theorem ab_st_lload {cl : List vw_C} {X : sm_X} {cc : ByteArray} {own : String} {Ts : List Cond} {rm : Room} {N Sz : Nat} {ini : Bool} {M : ab_M} (hX : sm_ok cl X cc M.1 own Ts M.2.1 rm N Sz ini) {G : ab_G} (hG : ab_Gok G) {K : dp_K} {ys : Nat → MethodName} {wss : Nat → List Cond} (hK : dp_Kok cl X.1.2.2.2 own Ts ys wss K) {CT : List ab_C} (hCT : ∀ e ∈ CT, ab_ok cl X.1 ys wss G e) (hfr : M.2.2.2.1 ≤ rm.frames) (hlo : 32 * M.2.2.2.1 ≤ rm.locals) (hN : G.2.length ≤ N) (hSz : sm_sl G.2 ≤ Sz) {ad : Nat → Nat} {μ0 : sm_M} {S : Nat → Int} {pc len : Nat} (i : Nat) (d : decode cc pc = .ok ((.lload i), len)) {A : ab_L} {st : List ab_V} {l : List ab_T} (h : ab_st K G M CT pc A st (.lload i) len = some l) (k : ∀ a ∈ l, ab_J cl X G M ad μ0 S a) : ab_J cl X G M ad μ0 S (pc, A, st) := by
  obtain ⟨hl, hu1⟩ := dp_g_ok h
  clear h
  have hl := dp_beq hl
  subst hl
  split at hu1
  · rename_i u hx
    cases hu1
    intro Lc stc μ gl gs gm gf
    obtain ⟨v, hv, hav⟩ := gl.2.2.1 _ _ hx
    obtain ⟨n, rfl⟩ := ab_v_long hav
    exact sm_lloadG hX d hv (k _ List.mem_cons_self Lc _ μ gl ⟨trivial, gs⟩ gm gf)
  · cases hu1
theorem ab_st_aload {cl : List vw_C} {X : sm_X} {cc : ByteArray} {own : String} {Ts : List Cond} {rm : Room} {N Sz : Nat} {ini : Bool} {M : ab_M} (hX : sm_ok cl X cc M.1 own Ts M.2.1 rm N Sz ini) {G : ab_G} (hG : ab_Gok G) {K : dp_K} {ys : Nat → MethodName} {wss : Nat → List Cond} (hK : dp_Kok cl X.1.2.2.2 own Ts ys wss K) {CT : List ab_C} (hCT : ∀ e ∈ CT, ab_ok cl X.1 ys wss G e) (hfr : M.2.2.2.1 ≤ rm.frames) (hlo : 32 * M.2.2.2.1 ≤ rm.locals) (hN : G.2.length ≤ N) (hSz : sm_sl G.2 ≤ Sz) {ad : Nat → Nat} {μ0 : sm_M} {S : Nat → Int} {pc len : Nat} (i : Nat) (d : decode cc pc = .ok ((.aload i), len)) {A : ab_L} {st : List ab_V} {l : List ab_T} (h : ab_st K G M CT pc A st (.aload i) len = some l) (k : ∀ a ∈ l, ab_J cl X G M ad μ0 S a) : ab_J cl X G M ad μ0 S (pc, A, st) := by
  obtain ⟨hl, hu1⟩ := dp_g_ok h
  clear h
  have hl := dp_beq hl
  subst hl
  split at hu1
  · rename_i p hx
    cases hu1
    intro Lc stc μ gl gs gm gf
    obtain ⟨v, hv, hav⟩ := gl.2.2.1 _ _ hx
    have e := ab_v_ref hav
    subst e
    exact sm_aloadG hX d hv (k _ List.mem_cons_self Lc _ μ gl ⟨rfl, gs⟩ gm gf)
  · cases hu1
theorem ab_st_istore {cl : List vw_C} {X : sm_X} {cc : ByteArray} {own : String} {Ts : List Cond} {rm : Room} {N Sz : Nat} {ini : Bool} {M : ab_M} (hX : sm_ok cl X cc M.1 own Ts M.2.1 rm N Sz ini) {G : ab_G} (hG : ab_Gok G) {K : dp_K} {ys : Nat → MethodName} {wss : Nat → List Cond} (hK : dp_Kok cl X.1.2.2.2 own Ts ys wss K) {CT : List ab_C} (hCT : ∀ e ∈ CT, ab_ok cl X.1 ys wss G e) (hfr : M.2.2.2.1 ≤ rm.frames) (hlo : 32 * M.2.2.2.1 ≤ rm.locals) (hN : G.2.length ≤ N) (hSz : sm_sl G.2 ≤ Sz) {ad : Nat → Nat} {μ0 : sm_M} {S : Nat → Int} {pc len : Nat} (i : Nat) (d : decode cc pc = .ok ((.istore i), len)) {A : ab_L} {st : List ab_V} {l : List ab_T} (h : ab_st K G M CT pc A st (.istore i) len = some l) (k : ∀ a ∈ l, ab_J cl X G M ad μ0 S a) : ab_J cl X G M ad μ0 S (pc, A, st) := by
  obtain ⟨hl, hu1⟩ := dp_g_ok h
  clear h
  have hl := dp_beq hl
  subst hl
  obtain ⟨x, r, rfl, hu2⟩ := ab_1i_ok hu1
  clear hu1
  obtain ⟨h1, hu3⟩ := dp_g_ok hu2
  clear hu2
  obtain ⟨h2, hu4⟩ := dp_g_ok hu3
  clear hu3
  have h2 := Nat.le_of_ble_eq_true h2
  cases hu4
  intro Lc stc μ gl gs gm gf
  obtain ⟨_, sxs, rfl, cx, gxs⟩ := ab_sv_cons gs
  clear gs
  obtain ⟨nx, rfl, ix⟩ := ab_v_int cx
  exact sm_istoreG hX d (ab_ah_ok gl h1) (by omega) (k _ List.mem_cons_self _ _ μ (ab_lv_set (a := .inl (x.1, x.2.1, x.2.2.1, none)) gl (by omega) ⟨ix.1, ix.2.1, ix.2.2.1, fun _ e => by cases e⟩) (ab_cl_ok (fun q hq m hm => by rw [List.getElem?_set_ne (Ne.symm hq)]; exact hm) gxs) gm gf)
theorem ab_st_astore {cl : List vw_C} {X : sm_X} {cc : ByteArray} {own : String} {Ts : List Cond} {rm : Room} {N Sz : Nat} {ini : Bool} {M : ab_M} (hX : sm_ok cl X cc M.1 own Ts M.2.1 rm N Sz ini) {G : ab_G} (hG : ab_Gok G) {K : dp_K} {ys : Nat → MethodName} {wss : Nat → List Cond} (hK : dp_Kok cl X.1.2.2.2 own Ts ys wss K) {CT : List ab_C} (hCT : ∀ e ∈ CT, ab_ok cl X.1 ys wss G e) (hfr : M.2.2.2.1 ≤ rm.frames) (hlo : 32 * M.2.2.2.1 ≤ rm.locals) (hN : G.2.length ≤ N) (hSz : sm_sl G.2 ≤ Sz) {ad : Nat → Nat} {μ0 : sm_M} {S : Nat → Int} {pc len : Nat} (i : Nat) (d : decode cc pc = .ok ((.astore i), len)) {A : ab_L} {st : List ab_V} {l : List ab_T} (h : ab_st K G M CT pc A st (.astore i) len = some l) (k : ∀ a ∈ l, ab_J cl X G M ad μ0 S a) : ab_J cl X G M ad μ0 S (pc, A, st) := by
  obtain ⟨hl, hu1⟩ := dp_g_ok h
  clear h
  have hl := dp_beq hl
  subst hl
  obtain ⟨p, r, rfl, hu2⟩ := ab_1r_ok hu1
  clear hu1
  obtain ⟨h1, hu3⟩ := dp_g_ok hu2
  clear hu2
  obtain ⟨h2, hu4⟩ := dp_g_ok hu3
  clear hu3
  have h2 := Nat.le_of_ble_eq_true h2
  cases hu4
  intro Lc stc μ gl gs gm gf
  obtain ⟨_, sps, rfl, cp, gps⟩ := ab_sv_cons gs
  clear gs
  have ep := ab_v_ref cp
  subst ep
  exact sm_astoreG hX d (ab_ah_ok gl h1) (by omega) (k _ List.mem_cons_self _ _ μ (ab_lv_set (a := .inr (.inl p)) gl (by omega) rfl) (ab_cl_ok (fun q hq m hm => by rw [List.getElem?_set_ne (Ne.symm hq)]; exact hm) gps) gm gf)
theorem ab_st_lstore {cl : List vw_C} {X : sm_X} {cc : ByteArray} {own : String} {Ts : List Cond} {rm : Room} {N Sz : Nat} {ini : Bool} {M : ab_M} (hX : sm_ok cl X cc M.1 own Ts M.2.1 rm N Sz ini) {G : ab_G} (hG : ab_Gok G) {K : dp_K} {ys : Nat → MethodName} {wss : Nat → List Cond} (hK : dp_Kok cl X.1.2.2.2 own Ts ys wss K) {CT : List ab_C} (hCT : ∀ e ∈ CT, ab_ok cl X.1 ys wss G e) (hfr : M.2.2.2.1 ≤ rm.frames) (hlo : 32 * M.2.2.2.1 ≤ rm.locals) (hN : G.2.length ≤ N) (hSz : sm_sl G.2 ≤ Sz) {ad : Nat → Nat} {μ0 : sm_M} {S : Nat → Int} {pc len : Nat} (i : Nat) (d : decode cc pc = .ok ((.lstore i), len)) {A : ab_L} {st : List ab_V} {l : List ab_T} (h : ab_st K G M CT pc A st (.lstore i) len = some l) (k : ∀ a ∈ l, ab_J cl X G M ad μ0 S a) : ab_J cl X G M ad μ0 S (pc, A, st) := by
  obtain ⟨hl, hu1⟩ := dp_g_ok h
  clear h
  have hl := dp_beq hl
  subst hl
  obtain ⟨x, r, rfl, hu2⟩ := ab_1l_ok hu1
  clear hu1
  obtain ⟨h1, hu3⟩ := dp_g_ok hu2
  clear hu2
  obtain ⟨h2, hu4⟩ := dp_g_ok hu3
  clear hu3
  have h2 := Nat.le_of_ble_eq_true h2
  cases hu4
  intro Lc stc μ gl gs gm gf
  obtain ⟨_, sxs, rfl, cx, gxs⟩ := ab_sv_cons gs
  clear gs
  obtain ⟨nx, rfl⟩ := ab_v_long cx
  exact sm_lstoreG hX d (ab_ah_ok gl h1) (by omega) (k _ List.mem_cons_self _ _ μ (ab_lv_none (ab_lv_set (a := .inr (.inr ())) gl (by omega) trivial)) (ab_cl_ok (fun q hq m hm => by rw [List.getElem?_set_ne (Ne.symm hq)]; exact hm) (ab_cl_ok (fun q hq m hm => by rw [List.getElem?_set_ne (Ne.symm hq)]; exact hm) gxs)) gm gf)
theorem ab_st_iload_n {cl : List vw_C} {X : sm_X} {cc : ByteArray} {own : String} {Ts : List Cond} {rm : Room} {N Sz : Nat} {ini : Bool} {M : ab_M} (hX : sm_ok cl X cc M.1 own Ts M.2.1 rm N Sz ini) {G : ab_G} (hG : ab_Gok G) {K : dp_K} {ys : Nat → MethodName} {wss : Nat → List Cond} (hK : dp_Kok cl X.1.2.2.2 own Ts ys wss K) {CT : List ab_C} (hCT : ∀ e ∈ CT, ab_ok cl X.1 ys wss G e) (hfr : M.2.2.2.1 ≤ rm.frames) (hlo : 32 * M.2.2.2.1 ≤ rm.locals) (hN : G.2.length ≤ N) (hSz : sm_sl G.2 ≤ Sz) {ad : Nat → Nat} {μ0 : sm_M} {S : Nat → Int} {pc len : Nat} (i : Fin 4) (d : decode cc pc = .ok ((.iload_n i), len)) {A : ab_L} {st : List ab_V} {l : List ab_T} (h : ab_st K G M CT pc A st (.iload_n i) len = some l) (k : ∀ a ∈ l, ab_J cl X G M ad μ0 S a) : ab_J cl X G M ad μ0 S (pc, A, st) := by
  obtain ⟨hl, hu1⟩ := dp_g_ok h
  clear h
  have hl := dp_beq hl
  subst hl
  split at hu1
  · rename_i x hx
    cases hu1
    intro Lc stc μ gl gs gm gf
    obtain ⟨v, hv, hav⟩ := gl.2.2.1 _ _ hx
    obtain ⟨n, rfl, i1⟩ := ab_v_int hav
    exact sm_iloadN hX d hv (k _ List.mem_cons_self Lc _ μ gl ⟨⟨i1.1, i1.2.1, i1.2.2.1, fun l e => by cases e; exact hv⟩, gs⟩ gm gf)
  · cases hu1
theorem ab_st_lload_n {cl : List vw_C} {X : sm_X} {cc : ByteArray} {own : String} {Ts : List Cond} {rm : Room} {N Sz : Nat} {ini : Bool} {M : ab_M} (hX : sm_ok cl X cc M.1 own Ts M.2.1 rm N Sz ini) {G : ab_G} (hG : ab_Gok G) {K : dp_K} {ys : Nat → MethodName} {wss : Nat → List Cond} (hK : dp_Kok cl X.1.2.2.2 own Ts ys wss K) {CT : List ab_C} (hCT : ∀ e ∈ CT, ab_ok cl X.1 ys wss G e) (hfr : M.2.2.2.1 ≤ rm.frames) (hlo : 32 * M.2.2.2.1 ≤ rm.locals) (hN : G.2.length ≤ N) (hSz : sm_sl G.2 ≤ Sz) {ad : Nat → Nat} {μ0 : sm_M} {S : Nat → Int} {pc len : Nat} (i : Fin 4) (d : decode cc pc = .ok ((.lload_n i), len)) {A : ab_L} {st : List ab_V} {l : List ab_T} (h : ab_st K G M CT pc A st (.lload_n i) len = some l) (k : ∀ a ∈ l, ab_J cl X G M ad μ0 S a) : ab_J cl X G M ad μ0 S (pc, A, st) := by
  obtain ⟨hl, hu1⟩ := dp_g_ok h
  clear h
  have hl := dp_beq hl
  subst hl
  split at hu1
  · rename_i u hx
    cases hu1
    intro Lc stc μ gl gs gm gf
    obtain ⟨v, hv, hav⟩ := gl.2.2.1 _ _ hx
    obtain ⟨n, rfl⟩ := ab_v_long hav
    exact sm_lloadN hX d hv (k _ List.mem_cons_self Lc _ μ gl ⟨trivial, gs⟩ gm gf)
  · cases hu1
theorem ab_st_aload_n {cl : List vw_C} {X : sm_X} {cc : ByteArray} {own : String} {Ts : List Cond} {rm : Room} {N Sz : Nat} {ini : Bool} {M : ab_M} (hX : sm_ok cl X cc M.1 own Ts M.2.1 rm N Sz ini) {G : ab_G} (hG : ab_Gok G) {K : dp_K} {ys : Nat → MethodName} {wss : Nat → List Cond} (hK : dp_Kok cl X.1.2.2.2 own Ts ys wss K) {CT : List ab_C} (hCT : ∀ e ∈ CT, ab_ok cl X.1 ys wss G e) (hfr : M.2.2.2.1 ≤ rm.frames) (hlo : 32 * M.2.2.2.1 ≤ rm.locals) (hN : G.2.length ≤ N) (hSz : sm_sl G.2 ≤ Sz) {ad : Nat → Nat} {μ0 : sm_M} {S : Nat → Int} {pc len : Nat} (i : Fin 4) (d : decode cc pc = .ok ((.aload_n i), len)) {A : ab_L} {st : List ab_V} {l : List ab_T} (h : ab_st K G M CT pc A st (.aload_n i) len = some l) (k : ∀ a ∈ l, ab_J cl X G M ad μ0 S a) : ab_J cl X G M ad μ0 S (pc, A, st) := by
  obtain ⟨hl, hu1⟩ := dp_g_ok h
  clear h
  have hl := dp_beq hl
  subst hl
  split at hu1
  · rename_i p hx
    cases hu1
    intro Lc stc μ gl gs gm gf
    obtain ⟨v, hv, hav⟩ := gl.2.2.1 _ _ hx
    have e := ab_v_ref hav
    subst e
    exact sm_aloadN hX d hv (k _ List.mem_cons_self Lc _ μ gl ⟨rfl, gs⟩ gm gf)
  · cases hu1
theorem ab_st_istore_n {cl : List vw_C} {X : sm_X} {cc : ByteArray} {own : String} {Ts : List Cond} {rm : Room} {N Sz : Nat} {ini : Bool} {M : ab_M} (hX : sm_ok cl X cc M.1 own Ts M.2.1 rm N Sz ini) {G : ab_G} (hG : ab_Gok G) {K : dp_K} {ys : Nat → MethodName} {wss : Nat → List Cond} (hK : dp_Kok cl X.1.2.2.2 own Ts ys wss K) {CT : List ab_C} (hCT : ∀ e ∈ CT, ab_ok cl X.1 ys wss G e) (hfr : M.2.2.2.1 ≤ rm.frames) (hlo : 32 * M.2.2.2.1 ≤ rm.locals) (hN : G.2.length ≤ N) (hSz : sm_sl G.2 ≤ Sz) {ad : Nat → Nat} {μ0 : sm_M} {S : Nat → Int} {pc len : Nat} (i : Fin 4) (d : decode cc pc = .ok ((.istore_n i), len)) {A : ab_L} {st : List ab_V} {l : List ab_T} (h : ab_st K G M CT pc A st (.istore_n i) len = some l) (k : ∀ a ∈ l, ab_J cl X G M ad μ0 S a) : ab_J cl X G M ad μ0 S (pc, A, st) := by
  obtain ⟨hl, hu1⟩ := dp_g_ok h
  clear h
  have hl := dp_beq hl
  subst hl
  obtain ⟨x, r, rfl, hu2⟩ := ab_1i_ok hu1
  clear hu1
  obtain ⟨h1, hu3⟩ := dp_g_ok hu2
  clear hu2
  obtain ⟨h2, hu4⟩ := dp_g_ok hu3
  clear hu3
  have h2 := Nat.le_of_ble_eq_true h2
  cases hu4
  intro Lc stc μ gl gs gm gf
  obtain ⟨_, sxs, rfl, cx, gxs⟩ := ab_sv_cons gs
  clear gs
  obtain ⟨nx, rfl, ix⟩ := ab_v_int cx
  exact sm_istoreN hX d (ab_ah_ok gl h1) (by omega) (k _ List.mem_cons_self _ _ μ (ab_lv_set (a := .inl (x.1, x.2.1, x.2.2.1, none)) gl (by omega) ⟨ix.1, ix.2.1, ix.2.2.1, fun _ e => by cases e⟩) (ab_cl_ok (fun q hq m hm => by rw [List.getElem?_set_ne (Ne.symm hq)]; exact hm) gxs) gm gf)
theorem ab_st_astore_n {cl : List vw_C} {X : sm_X} {cc : ByteArray} {own : String} {Ts : List Cond} {rm : Room} {N Sz : Nat} {ini : Bool} {M : ab_M} (hX : sm_ok cl X cc M.1 own Ts M.2.1 rm N Sz ini) {G : ab_G} (hG : ab_Gok G) {K : dp_K} {ys : Nat → MethodName} {wss : Nat → List Cond} (hK : dp_Kok cl X.1.2.2.2 own Ts ys wss K) {CT : List ab_C} (hCT : ∀ e ∈ CT, ab_ok cl X.1 ys wss G e) (hfr : M.2.2.2.1 ≤ rm.frames) (hlo : 32 * M.2.2.2.1 ≤ rm.locals) (hN : G.2.length ≤ N) (hSz : sm_sl G.2 ≤ Sz) {ad : Nat → Nat} {μ0 : sm_M} {S : Nat → Int} {pc len : Nat} (i : Fin 4) (d : decode cc pc = .ok ((.astore_n i), len)) {A : ab_L} {st : List ab_V} {l : List ab_T} (h : ab_st K G M CT pc A st (.astore_n i) len = some l) (k : ∀ a ∈ l, ab_J cl X G M ad μ0 S a) : ab_J cl X G M ad μ0 S (pc, A, st) := by
  obtain ⟨hl, hu1⟩ := dp_g_ok h
  clear h
  have hl := dp_beq hl
  subst hl
  obtain ⟨p, r, rfl, hu2⟩ := ab_1r_ok hu1
  clear hu1
  obtain ⟨h1, hu3⟩ := dp_g_ok hu2
  clear hu2
  obtain ⟨h2, hu4⟩ := dp_g_ok hu3
  clear hu3
  have h2 := Nat.le_of_ble_eq_true h2
  cases hu4
  intro Lc stc μ gl gs gm gf
  obtain ⟨_, sps, rfl, cp, gps⟩ := ab_sv_cons gs
  clear gs
  have ep := ab_v_ref cp
  subst ep
  exact sm_astoreN hX d (ab_ah_ok gl h1) (by omega) (k _ List.mem_cons_self _ _ μ (ab_lv_set (a := .inr (.inl p)) gl (by omega) rfl) (ab_cl_ok (fun q hq m hm => by rw [List.getElem?_set_ne (Ne.symm hq)]; exact hm) gps) gm gf)
theorem ab_st_lstore_n {cl : List vw_C} {X : sm_X} {cc : ByteArray} {own : String} {Ts : List Cond} {rm : Room} {N Sz : Nat} {ini : Bool} {M : ab_M} (hX : sm_ok cl X cc M.1 own Ts M.2.1 rm N Sz ini) {G : ab_G} (hG : ab_Gok G) {K : dp_K} {ys : Nat → MethodName} {wss : Nat → List Cond} (hK : dp_Kok cl X.1.2.2.2 own Ts ys wss K) {CT : List ab_C} (hCT : ∀ e ∈ CT, ab_ok cl X.1 ys wss G e) (hfr : M.2.2.2.1 ≤ rm.frames) (hlo : 32 * M.2.2.2.1 ≤ rm.locals) (hN : G.2.length ≤ N) (hSz : sm_sl G.2 ≤ Sz) {ad : Nat → Nat} {μ0 : sm_M} {S : Nat → Int} {pc len : Nat} (i : Fin 4) (d : decode cc pc = .ok ((.lstore_n i), len)) {A : ab_L} {st : List ab_V} {l : List ab_T} (h : ab_st K G M CT pc A st (.lstore_n i) len = some l) (k : ∀ a ∈ l, ab_J cl X G M ad μ0 S a) : ab_J cl X G M ad μ0 S (pc, A, st) := by
  obtain ⟨hl, hu1⟩ := dp_g_ok h
  clear h
  have hl := dp_beq hl
  subst hl
  obtain ⟨x, r, rfl, hu2⟩ := ab_1l_ok hu1
  clear hu1
  obtain ⟨h1, hu3⟩ := dp_g_ok hu2
  clear hu2
  obtain ⟨h2, hu4⟩ := dp_g_ok hu3
  clear hu3
  have h2 := Nat.le_of_ble_eq_true h2
  cases hu4
  intro Lc stc μ gl gs gm gf
  obtain ⟨_, sxs, rfl, cx, gxs⟩ := ab_sv_cons gs
  clear gs
  obtain ⟨nx, rfl⟩ := ab_v_long cx
  exact sm_lstoreN hX d (ab_ah_ok gl h1) (by omega) (k _ List.mem_cons_self _ _ μ (ab_lv_none (ab_lv_set (a := .inr (.inr ())) gl (by omega) trivial)) (ab_cl_ok (fun q hq m hm => by rw [List.getElem?_set_ne (Ne.symm hq)]; exact hm) (ab_cl_ok (fun q hq m hm => by rw [List.getElem?_set_ne (Ne.symm hq)]; exact hm) gxs)) gm gf)
theorem ab_st_iinc {cl : List vw_C} {X : sm_X} {cc : ByteArray} {own : String} {Ts : List Cond} {rm : Room} {N Sz : Nat} {ini : Bool} {M : ab_M} (hX : sm_ok cl X cc M.1 own Ts M.2.1 rm N Sz ini) {G : ab_G} (hG : ab_Gok G) {K : dp_K} {ys : Nat → MethodName} {wss : Nat → List Cond} (hK : dp_Kok cl X.1.2.2.2 own Ts ys wss K) {CT : List ab_C} (hCT : ∀ e ∈ CT, ab_ok cl X.1 ys wss G e) (hfr : M.2.2.2.1 ≤ rm.frames) (hlo : 32 * M.2.2.2.1 ≤ rm.locals) (hN : G.2.length ≤ N) (hSz : sm_sl G.2 ≤ Sz) {ad : Nat → Nat} {μ0 : sm_M} {S : Nat → Int} {pc len : Nat} (i : Nat) (z : Int) (d : decode cc pc = .ok ((.iinc i z), len)) {A : ab_L} {st : List ab_V} {l : List ab_T} (h : ab_st K G M CT pc A st (.iinc i z) len = some l) (k : ∀ a ∈ l, ab_J cl X G M ad μ0 S a) : ab_J cl X G M ad μ0 S (pc, A, st) := by
  obtain ⟨hl, hu1⟩ := dp_g_ok h
  clear h
  have hl := dp_beq hl
  subst hl
  split at hu1
  · rename_i x hx
    obtain ⟨h1, ha⟩ := dp_g_ok hu1
    obtain ⟨h2, hb⟩ := dp_g_ok ha
    have h2 := Nat.le_of_ble_eq_true h2
    cases hb
    intro Lc stc μ gl gs gm gf
    obtain ⟨v, hv, hav⟩ := gl.2.2.1 _ _ hx
    obtain ⟨n, rfl, i1⟩ := ab_v_int hav
    have i2 := ab_add_ok (S := S) (Lc := []) i1 (ab_i_c (S := S) (Lc := []) (Int32.ofInt z))
    exact sm_iincG hX d hv (ab_ah_ok gl h1) (by omega) (k _ List.mem_cons_self _ _ μ (ab_lv_set gl (by omega) (ab_no_any (a := .inl _) i2)) (ab_cl_ok (fun q hq m hm => by rw [List.getElem?_set_ne (Ne.symm hq)]; exact hm) gs) gm gf)
  · cases hu1
theorem ab_st_goto {cl : List vw_C} {X : sm_X} {cc : ByteArray} {own : String} {Ts : List Cond} {rm : Room} {N Sz : Nat} {ini : Bool} {M : ab_M} (hX : sm_ok cl X cc M.1 own Ts M.2.1 rm N Sz ini) {G : ab_G} (hG : ab_Gok G) {K : dp_K} {ys : Nat → MethodName} {wss : Nat → List Cond} (hK : dp_Kok cl X.1.2.2.2 own Ts ys wss K) {CT : List ab_C} (hCT : ∀ e ∈ CT, ab_ok cl X.1 ys wss G e) (hfr : M.2.2.2.1 ≤ rm.frames) (hlo : 32 * M.2.2.2.1 ≤ rm.locals) (hN : G.2.length ≤ N) (hSz : sm_sl G.2 ≤ Sz) {ad : Nat → Nat} {μ0 : sm_M} {S : Nat → Int} {pc len : Nat} (off : Int) (d : decode cc pc = .ok ((.goto off), len)) {A : ab_L} {st : List ab_V} {l : List ab_T} (h : ab_st K G M CT pc A st (.goto off) len = some l) (k : ∀ a ∈ l, ab_J cl X G M ad μ0 S a) : ab_J cl X G M ad μ0 S (pc, A, st) := by
  obtain ⟨hl, hu1⟩ := dp_g_ok h
  clear h
  have hl := dp_beq hl
  subst hl
  obtain ⟨tg, ht, hu2⟩ := dp_tg_ok hu1
  clear hu1
  cases hu2
  intro Lc stc μ gl gs gm gf
  exact sm_goto hX tg d ht (k _ List.mem_cons_self Lc _ μ gl gs gm gf)
theorem ab_st_ifCond {cl : List vw_C} {X : sm_X} {cc : ByteArray} {own : String} {Ts : List Cond} {rm : Room} {N Sz : Nat} {ini : Bool} {M : ab_M} (hX : sm_ok cl X cc M.1 own Ts M.2.1 rm N Sz ini) {G : ab_G} (hG : ab_Gok G) {K : dp_K} {ys : Nat → MethodName} {wss : Nat → List Cond} (hK : dp_Kok cl X.1.2.2.2 own Ts ys wss K) {CT : List ab_C} (hCT : ∀ e ∈ CT, ab_ok cl X.1 ys wss G e) (hfr : M.2.2.2.1 ≤ rm.frames) (hlo : 32 * M.2.2.2.1 ≤ rm.locals) (hN : G.2.length ≤ N) (hSz : sm_sl G.2 ≤ Sz) {ad : Nat → Nat} {μ0 : sm_M} {S : Nat → Int} {pc len : Nat} (cn : Jvm.ClassFile.Cond) (off : Int) (d : decode cc pc = .ok ((.ifCond cn off), len)) {A : ab_L} {st : List ab_V} {l : List ab_T} (h : ab_st K G M CT pc A st (.ifCond cn off) len = some l) (k : ∀ a ∈ l, ab_J cl X G M ad μ0 S a) : ab_J cl X G M ad μ0 S (pc, A, st) := by
  obtain ⟨hl, hu1⟩ := dp_g_ok h
  clear h
  have hl := dp_beq hl
  subst hl
  obtain ⟨x, r, rfl, hu2⟩ := ab_1i_ok hu1
  clear hu1
  obtain ⟨tg, ht, hu3⟩ := dp_tg_ok hu2
  clear hu2
  intro Lc stc μ gl gs gm gf
  obtain ⟨_, sxs, rfl, cx, gxs⟩ := ab_sv_cons gs
  clear gs
  obtain ⟨nx, rfl, ix⟩ := ab_v_int cx
  have iy : ab_i S Lc (ab_c 0) 0 := ab_i_mk (by decide) (by decide)
  have hh := (Option.some.inj hu3).symm
  subst hh
  have yes : dp_c2 cn nx 0 = true → sm_E cl X tg Lc sxs ad G.2 μ := fun hc => by
    obtain ⟨z, e, z1, z2, z3, z4⟩ := ab_cmp_ok cn ix iy hc
    refine k (tg, ab_up A z.1, r) (List.mem_append_left _ ?_) Lc sxs μ (ab_up_ok gl z1) gxs gm gf
    rw [e]
    exact List.mem_cons_self
  have no : dp_c2 cn nx 0 = false → sm_E cl X (pc + 3) Lc sxs ad G.2 μ := fun hc => by
    obtain ⟨z, e, z1, z2, z3, z4⟩ := ab_cmp_ok (ab_neg cn) ix iy (ab_neg_ok hc)
    refine k (pc + 3, ab_up A z.1, r) (List.mem_append_right _ ?_) Lc sxs μ (ab_up_ok gl z1) gxs gm gf
    rw [e]
    exact List.mem_cons_self
  cases cn with
  | eq => exact sm_if_eq hX tg d ht (fun q => yes (decide_eq_true q)) (fun q => no (decide_eq_false q))
  | ne => exact sm_if_ne hX tg d ht (fun q => yes (by show (!decide _) = true; rw [decide_eq_false q]; rfl)) (fun q => no (by show (!decide _) = false; rw [decide_eq_true q]; rfl))
  | lt => exact sm_if_lt hX tg d ht (fun q => yes (decide_eq_true q)) (fun q => no (decide_eq_false q))
  | ge => exact sm_if_ge hX tg d ht (fun q => yes (decide_eq_true q)) (fun q => no (decide_eq_false q))
  | gt => exact sm_if_gt hX tg d ht (fun q => yes (decide_eq_true q)) (fun q => no (decide_eq_false q))
  | le => exact sm_if_le hX tg d ht (fun q => yes (decide_eq_true q)) (fun q => no (decide_eq_false q))
theorem ab_st_if_icmp {cl : List vw_C} {X : sm_X} {cc : ByteArray} {own : String} {Ts : List Cond} {rm : Room} {N Sz : Nat} {ini : Bool} {M : ab_M} (hX : sm_ok cl X cc M.1 own Ts M.2.1 rm N Sz ini) {G : ab_G} (hG : ab_Gok G) {K : dp_K} {ys : Nat → MethodName} {wss : Nat → List Cond} (hK : dp_Kok cl X.1.2.2.2 own Ts ys wss K) {CT : List ab_C} (hCT : ∀ e ∈ CT, ab_ok cl X.1 ys wss G e) (hfr : M.2.2.2.1 ≤ rm.frames) (hlo : 32 * M.2.2.2.1 ≤ rm.locals) (hN : G.2.length ≤ N) (hSz : sm_sl G.2 ≤ Sz) {ad : Nat → Nat} {μ0 : sm_M} {S : Nat → Int} {pc len : Nat} (cn : Jvm.ClassFile.Cond) (off : Int) (d : decode cc pc = .ok ((.if_icmp cn off), len)) {A : ab_L} {st : List ab_V} {l : List ab_T} (h : ab_st K G M CT pc A st (.if_icmp cn off) len = some l) (k : ∀ a ∈ l, ab_J cl X G M ad μ0 S a) : ab_J cl X G M ad μ0 S (pc, A, st) := by
  obtain ⟨hl, hu1⟩ := dp_g_ok h
  clear h
  have hl := dp_beq hl
  subst hl
  obtain ⟨y, r, rfl, hu2⟩ := ab_1i_ok hu1
  clear hu1
  obtain ⟨x, r, rfl, hu3⟩ := ab_1i_ok hu2
  clear hu2
  obtain ⟨tg, ht, hu4⟩ := dp_tg_ok hu3
  clear hu3
  intro Lc stc μ gl gs gm gf
  obtain ⟨_, sys, rfl, cy, gys⟩ := ab_sv_cons gs
  clear gs
  obtain ⟨ny, rfl, iy⟩ := ab_v_int cy
  obtain ⟨_, sxs, rfl, cx, gxs⟩ := ab_sv_cons gys
  clear gys
  obtain ⟨nx, rfl, ix⟩ := ab_v_int cx
  have hh := (Option.some.inj hu4).symm
  subst hh
  have yes : dp_c2 cn nx ny = true → sm_E cl X tg Lc sxs ad G.2 μ := fun hc => by
    obtain ⟨z, e, z1, z2, z3, z4⟩ := ab_cmp_ok cn ix iy hc
    refine k (tg, ab_up (ab_up A z.1) z.2, r) (List.mem_append_left _ ?_) Lc sxs μ (ab_up_ok (ab_up_ok gl z1) z2) gxs gm gf
    rw [e]
    exact List.mem_cons_self
  have no : dp_c2 cn nx ny = false → sm_E cl X (pc + 3) Lc sxs ad G.2 μ := fun hc => by
    obtain ⟨z, e, z1, z2, z3, z4⟩ := ab_cmp_ok (ab_neg cn) ix iy (ab_neg_ok hc)
    refine k (pc + 3, ab_up (ab_up A z.1) z.2, r) (List.mem_append_right _ ?_) Lc sxs μ (ab_up_ok (ab_up_ok gl z1) z2) gxs gm gf
    rw [e]
    exact List.mem_cons_self
  cases cn with
  | eq => exact sm_icmp_eq hX tg d ht (fun q => yes (decide_eq_true q)) (fun q => no (decide_eq_false q))
  | ne => exact sm_icmp_ne hX tg d ht (fun q => yes (by show (!decide _) = true; rw [decide_eq_false q]; rfl)) (fun q => no (by show (!decide _) = false; rw [decide_eq_true q]; rfl))
  | lt => exact sm_icmp_lt hX tg d ht (fun q => yes (decide_eq_true q)) (fun q => no (decide_eq_false q))
  | ge => exact sm_icmp_ge hX tg d ht (fun q => yes (decide_eq_true q)) (fun q => no (decide_eq_false q))
  | gt => exact sm_icmp_gt hX tg d ht (fun q => yes (decide_eq_true q)) (fun q => no (decide_eq_false q))
  | le => exact sm_icmp_le hX tg d ht (fun q => yes (decide_eq_true q)) (fun q => no (decide_eq_false q))
theorem ab_st_getfield {cl : List vw_C} {X : sm_X} {cc : ByteArray} {own : String} {Ts : List Cond} {rm : Room} {N Sz : Nat} {ini : Bool} {M : ab_M} (hX : sm_ok cl X cc M.1 own Ts M.2.1 rm N Sz ini) {G : ab_G} (hG : ab_Gok G) {K : dp_K} {ys : Nat → MethodName} {wss : Nat → List Cond} (hK : dp_Kok cl X.1.2.2.2 own Ts ys wss K) {CT : List ab_C} (hCT : ∀ e ∈ CT, ab_ok cl X.1 ys wss G e) (hfr : M.2.2.2.1 ≤ rm.frames) (hlo : 32 * M.2.2.2.1 ≤ rm.locals) (hN : G.2.length ≤ N) (hSz : sm_sl G.2 ≤ Sz) {ad : Nat → Nat} {μ0 : sm_M} {S : Nat → Int} {pc len : Nat} (i : Nat) (d : decode cc pc = .ok ((.getfield i), len)) {A : ab_L} {st : List ab_V} {l : List ab_T} (h : ab_st K G M CT pc A st (.getfield i) len = some l) (k : ∀ a ∈ l, ab_J cl X G M ad μ0 S a) : ab_J cl X G M ad μ0 S (pc, A, st) := by
  obtain ⟨hl, hu1⟩ := dp_g_ok h
  clear h
  have hl := dp_beq hl
  subst hl
  obtain ⟨p, r, rfl, hu2⟩ := ab_1r_ok hu1
  clear hu1
  obtain ⟨⟨ci, kf, fl⟩, hF, hu3⟩ := dp_o_ok hu2
  clear hu2
  obtain ⟨fs, hs, hu4⟩ := dp_ob_ok hu3
  clear hu3
  obtain ⟨f, hf, hu5⟩ := dp_o_ok hu4
  clear hu4
  obtain ⟨C, T, N', tt, e2, e3, e5, e7, e8, e6, -⟩ := hK.1 _ _ hF
  simp only at e2 e3 e5 e6 hs hf hu5
  intro Lc stc μ gl gs gm gf
  obtain ⟨_, sps, rfl, cp, gps⟩ := ab_sv_cons gs
  clear gs
  have ep := ab_v_ref cp
  subst ep
  have key : ∀ v : Value, (∀ q, f = some (some q) → v = .ref q) → (f = none → v = .int (μ.1 p kf)) → sm_E cl X (pc + 3) Lc (v :: sps) ad G.2 μ := by
    intro v hv1 hv2
    cases f with
    | none =>
      cases hu5
      rw [hv2 rfl]
      exact k _ List.mem_cons_self Lc _ μ gl ⟨ab_i_mk (gm p kf).1 (gm p kf).2, gps⟩ gm gf
    | some f =>
      cases f with
      | none => cases hu5
      | some q =>
        cases hu5
        rw [hv1 q rfl]
        exact k _ List.mem_cons_self Lc _ μ gl ⟨rfl, gps⟩ gm gf
  rcases e6 with e6 | ⟨host, e6⟩
  · exact sm_get hX hs e2 e3 hf e5 e6 d (fun v _ h1 h2 => key v h1 h2)
  · exact sm_getN hX hs e2 e3 hf e5 e6 d (fun v _ h1 h2 => key v h1 h2)
theorem ab_st_putfield {cl : List vw_C} {X : sm_X} {cc : ByteArray} {own : String} {Ts : List Cond} {rm : Room} {N Sz : Nat} {ini : Bool} {M : ab_M} (hX : sm_ok cl X cc M.1 own Ts M.2.1 rm N Sz ini) {G : ab_G} (hG : ab_Gok G) {K : dp_K} {ys : Nat → MethodName} {wss : Nat → List Cond} (hK : dp_Kok cl X.1.2.2.2 own Ts ys wss K) {CT : List ab_C} (hCT : ∀ e ∈ CT, ab_ok cl X.1 ys wss G e) (hfr : M.2.2.2.1 ≤ rm.frames) (hlo : 32 * M.2.2.2.1 ≤ rm.locals) (hN : G.2.length ≤ N) (hSz : sm_sl G.2 ≤ Sz) {ad : Nat → Nat} {μ0 : sm_M} {S : Nat → Int} {pc len : Nat} (i : Nat) (d : decode cc pc = .ok ((.putfield i), len)) {A : ab_L} {st : List ab_V} {l : List ab_T} (h : ab_st K G M CT pc A st (.putfield i) len = some l) (k : ∀ a ∈ l, ab_J cl X G M ad μ0 S a) : ab_J cl X G M ad μ0 S (pc, A, st) := by
  obtain ⟨hl, hu1⟩ := dp_g_ok h
  clear h
  have hl := dp_beq hl
  subst hl
  obtain ⟨x, r, rfl, hu2⟩ := ab_1i_ok hu1
  clear hu1
  obtain ⟨p, r, rfl, hu3⟩ := ab_1r_ok hu2
  clear hu2
  obtain ⟨⟨ci, kf, fl⟩, hF, hu4⟩ := dp_o_ok hu3
  clear hu3
  obtain ⟨fs, hs, hu5⟩ := dp_ob_ok hu4
  clear hu4
  obtain ⟨C, T, N', tt, e2, e3, e5, e7, e8, e6, f0, f1, f2⟩ := hK.1 _ _ hF
  simp only at e2 e3 e5 e6 f0 f1 f2 hs hu5
  intro Lc stc μ gl gs gm gf
  obtain ⟨_, sxs, rfl, cx, gxs⟩ := ab_sv_cons gs
  clear gs
  obtain ⟨nx, rfl, ix⟩ := ab_v_int cx
  obtain ⟨_, sps, rfl, cp, gps⟩ := ab_sv_cons gxs
  clear gxs
  have ep := ab_v_ref cp
  subst ep
  split at hu5
  · rename_i hf
    obtain ⟨hw, ha⟩ := dp_g_ok hu5
    rw [Bool.and_eq_true] at hw
    have wm := ab_w_mem hw.1
    have rg := ab_in_ok hw.2 ix
    have gm' := ab_mu_ui gm rg.1 rg.2
    have gf' := ab_fr_ui (i := kf) (v := nx) gf wm
    have key : ∀ ty : FieldType, sm_fp cl Ts C ci N' kf false ty T → narrow ty (.int nx) = .int nx → fits ty (.int nx) = true → sm_E cl X (pc + 3) Lc sps ad G.2 (sm_ui μ p kf nx) → sm_E cl X pc Lc (.int nx :: .ref p :: sps) ad G.2 μ := by
      intro ty g1 g2 g3 g5
      rcases e6 with e6 | ⟨host, e6⟩
      · exact sm_put hX hs hf g1 e6 g2 g3 d g5
      · exact sm_putN hX hs hf g1 e6 g2 g3 d g5
    split at ha
    · cases ha
      obtain ⟨z1, z2⟩ := f0 rfl
      exact key .int ⟨tt, e2, e3, e5, e7, e8, z1, z2⟩ rfl rfl (k _ List.mem_cons_self Lc _ _ gl gps gm' gf')
    · obtain ⟨hbt, hb⟩ := dp_g_ok ha
      cases hb
      obtain ⟨z1, z2⟩ := f1 rfl
      have bb := ab_bit_ok ix hbt
      refine key .boolean ⟨tt, e2, e3, e5, e7, e8, z1, z2⟩ ?_ ?_ (k _ List.mem_cons_self Lc _ _ gl gps gm' gf')
      · rcases ab_bits bb.1 bb.2 with rfl | rfl <;> rfl
      · rcases ab_bits bb.1 bb.2 with rfl | rfl <;> rfl
    · cases ha
  · cases hu5
theorem ab_st_iaload {cl : List vw_C} {X : sm_X} {cc : ByteArray} {own : String} {Ts : List Cond} {rm : Room} {N Sz : Nat} {ini : Bool} {M : ab_M} (hX : sm_ok cl X cc M.1 own Ts M.2.1 rm N Sz ini) {G : ab_G} (hG : ab_Gok G) {K : dp_K} {ys : Nat → MethodName} {wss : Nat → List Cond} (hK : dp_Kok cl X.1.2.2.2 own Ts ys wss K) {CT : List ab_C} (hCT : ∀ e ∈ CT, ab_ok cl X.1 ys wss G e) (hfr : M.2.2.2.1 ≤ rm.frames) (hlo : 32 * M.2.2.2.1 ≤ rm.locals) (hN : G.2.length ≤ N) (hSz : sm_sl G.2 ≤ Sz) {ad : Nat → Nat} {μ0 : sm_M} {S : Nat → Int} {pc len : Nat}  (d : decode cc pc = .ok (.iaload, len)) {A : ab_L} {st : List ab_V} {l : List ab_T} (h : ab_st K G M CT pc A st .iaload len = some l) (k : ∀ a ∈ l, ab_J cl X G M ad μ0 S a) : ab_J cl X G M ad μ0 S (pc, A, st) := by
  obtain ⟨hl, hu1⟩ := dp_g_ok h
  clear h
  have hl := dp_beq hl
  subst hl
  obtain ⟨i, r, rfl, hu2⟩ := ab_1i_ok hu1
  clear hu1
  obtain ⟨p, r, rfl, hu3⟩ := ab_1r_ok hu2
  clear hu2
  obtain ⟨n, hs, a1, a2, hu4⟩ := ab_ar_ok hu3
  clear hu3
  cases hu4
  intro Lc stc μ gl gs gm gf
  obtain ⟨_, sis, rfl, ci, gis⟩ := ab_sv_cons gs
  clear gs
  obtain ⟨ni, rfl, ii⟩ := ab_v_int ci
  obtain ⟨_, sps, rfl, cp, gps⟩ := ab_sv_cons gis
  clear gis
  have ep := ab_v_ref cp
  subst ep
  have cc0 := ab_clamp (i := ni) (n := n) (Int.le_trans a1 ii.1) (Int.lt_of_le_of_lt ii.2.1 a2)
  exact sm_iald hX hs cc0.1 d (k _ List.mem_cons_self Lc _ μ gl ⟨ab_i_mk (by rw [← hG _ _ _ hs]; exact (gm p _).1) (by rw [← hG _ _ _ hs]; exact (gm p _).2), gps⟩ gm gf)
theorem ab_st_baload {cl : List vw_C} {X : sm_X} {cc : ByteArray} {own : String} {Ts : List Cond} {rm : Room} {N Sz : Nat} {ini : Bool} {M : ab_M} (hX : sm_ok cl X cc M.1 own Ts M.2.1 rm N Sz ini) {G : ab_G} (hG : ab_Gok G) {K : dp_K} {ys : Nat → MethodName} {wss : Nat → List Cond} (hK : dp_Kok cl X.1.2.2.2 own Ts ys wss K) {CT : List ab_C} (hCT : ∀ e ∈ CT, ab_ok cl X.1 ys wss G e) (hfr : M.2.2.2.1 ≤ rm.frames) (hlo : 32 * M.2.2.2.1 ≤ rm.locals) (hN : G.2.length ≤ N) (hSz : sm_sl G.2 ≤ Sz) {ad : Nat → Nat} {μ0 : sm_M} {S : Nat → Int} {pc len : Nat}  (d : decode cc pc = .ok (.baload, len)) {A : ab_L} {st : List ab_V} {l : List ab_T} (h : ab_st K G M CT pc A st .baload len = some l) (k : ∀ a ∈ l, ab_J cl X G M ad μ0 S a) : ab_J cl X G M ad μ0 S (pc, A, st) := by
  obtain ⟨hl, hu1⟩ := dp_g_ok h
  clear h
  have hl := dp_beq hl
  subst hl
  obtain ⟨i, r, rfl, hu2⟩ := ab_1i_ok hu1
  clear hu1
  obtain ⟨p, r, rfl, hu3⟩ := ab_1r_ok hu2
  clear hu2
  obtain ⟨n, hs, a1, a2, hu4⟩ := ab_ar_ok hu3
  clear hu3
  cases hu4
  intro Lc stc μ gl gs gm gf
  obtain ⟨_, sis, rfl, ci, gis⟩ := ab_sv_cons gs
  clear gs
  obtain ⟨ni, rfl, ii⟩ := ab_v_int ci
  obtain ⟨_, sps, rfl, cp, gps⟩ := ab_sv_cons gis
  clear gis
  have ep := ab_v_ref cp
  subst ep
  have cc0 := ab_clamp (i := ni) (n := n) (Int.le_trans a1 ii.1) (Int.lt_of_le_of_lt ii.2.1 a2)
  exact sm_zald hX hs cc0.1 d (k _ List.mem_cons_self Lc _ μ gl ⟨ab_i_mk (by rw [← hG _ _ _ hs]; exact (gm p _).1) (by rw [← hG _ _ _ hs]; exact (gm p _).2), gps⟩ gm gf)
theorem ab_st_laload {cl : List vw_C} {X : sm_X} {cc : ByteArray} {own : String} {Ts : List Cond} {rm : Room} {N Sz : Nat} {ini : Bool} {M : ab_M} (hX : sm_ok cl X cc M.1 own Ts M.2.1 rm N Sz ini) {G : ab_G} (hG : ab_Gok G) {K : dp_K} {ys : Nat → MethodName} {wss : Nat → List Cond} (hK : dp_Kok cl X.1.2.2.2 own Ts ys wss K) {CT : List ab_C} (hCT : ∀ e ∈ CT, ab_ok cl X.1 ys wss G e) (hfr : M.2.2.2.1 ≤ rm.frames) (hlo : 32 * M.2.2.2.1 ≤ rm.locals) (hN : G.2.length ≤ N) (hSz : sm_sl G.2 ≤ Sz) {ad : Nat → Nat} {μ0 : sm_M} {S : Nat → Int} {pc len : Nat}  (d : decode cc pc = .ok (.laload, len)) {A : ab_L} {st : List ab_V} {l : List ab_T} (h : ab_st K G M CT pc A st .laload len = some l) (k : ∀ a ∈ l, ab_J cl X G M ad μ0 S a) : ab_J cl X G M ad μ0 S (pc, A, st) := by
  obtain ⟨hl, hu1⟩ := dp_g_ok h
  clear h
  have hl := dp_beq hl
  subst hl
  obtain ⟨i, r, rfl, hu2⟩ := ab_1i_ok hu1
  clear hu1
  obtain ⟨p, r, rfl, hu3⟩ := ab_1r_ok hu2
  clear hu2
  obtain ⟨n, hs, a1, a2, hu4⟩ := ab_ar_ok hu3
  clear hu3
  cases hu4
  intro Lc stc μ gl gs gm gf
  obtain ⟨_, sis, rfl, ci, gis⟩ := ab_sv_cons gs
  clear gs
  obtain ⟨ni, rfl, ii⟩ := ab_v_int ci
  obtain ⟨_, sps, rfl, cp, gps⟩ := ab_sv_cons gis
  clear gis
  have ep := ab_v_ref cp
  subst ep
  have cc0 := ab_clamp (i := ni) (n := n) (Int.le_trans a1 ii.1) (Int.lt_of_le_of_lt ii.2.1 a2)
  exact sm_lald hX hs cc0.1 d (k _ List.mem_cons_self Lc _ μ gl ⟨trivial, gps⟩ gm gf)
theorem ab_st_iastore {cl : List vw_C} {X : sm_X} {cc : ByteArray} {own : String} {Ts : List Cond} {rm : Room} {N Sz : Nat} {ini : Bool} {M : ab_M} (hX : sm_ok cl X cc M.1 own Ts M.2.1 rm N Sz ini) {G : ab_G} (hG : ab_Gok G) {K : dp_K} {ys : Nat → MethodName} {wss : Nat → List Cond} (hK : dp_Kok cl X.1.2.2.2 own Ts ys wss K) {CT : List ab_C} (hCT : ∀ e ∈ CT, ab_ok cl X.1 ys wss G e) (hfr : M.2.2.2.1 ≤ rm.frames) (hlo : 32 * M.2.2.2.1 ≤ rm.locals) (hN : G.2.length ≤ N) (hSz : sm_sl G.2 ≤ Sz) {ad : Nat → Nat} {μ0 : sm_M} {S : Nat → Int} {pc len : Nat}  (d : decode cc pc = .ok (.iastore, len)) {A : ab_L} {st : List ab_V} {l : List ab_T} (h : ab_st K G M CT pc A st .iastore len = some l) (k : ∀ a ∈ l, ab_J cl X G M ad μ0 S a) : ab_J cl X G M ad μ0 S (pc, A, st) := by
  obtain ⟨hl, hu1⟩ := dp_g_ok h
  clear h
  have hl := dp_beq hl
  subst hl
  obtain ⟨x, r, rfl, hu2⟩ := ab_1i_ok hu1
  clear hu1
  obtain ⟨i, r, rfl, hu3⟩ := ab_1i_ok hu2
  clear hu2
  obtain ⟨p, r, rfl, hu4⟩ := ab_1r_ok hu3
  clear hu3
  obtain ⟨n, hs, a1, a2, hu5⟩ := ab_ar_ok hu4
  clear hu4
  obtain ⟨hw, hu6⟩ := dp_g_ok hu5
  clear hu5
  cases hu6
  intro Lc stc μ gl gs gm gf
  obtain ⟨_, sxs, rfl, cx, gxs⟩ := ab_sv_cons gs
  clear gs
  obtain ⟨nx, rfl, ix⟩ := ab_v_int cx
  obtain ⟨_, sis, rfl, ci, gis⟩ := ab_sv_cons gxs
  clear gxs
  obtain ⟨ni, rfl, ii⟩ := ab_v_int ci
  obtain ⟨_, sps, rfl, cp, gps⟩ := ab_sv_cons gis
  clear gis
  have ep := ab_v_ref cp
  subst ep
  rw [Bool.and_eq_true] at hw
  have wm := ab_w_mem hw.1
  have rg := ab_in_ok hw.2 ix
  have cc0 := ab_clamp (i := ni) (n := n) (Int.le_trans a1 ii.1) (Int.lt_of_le_of_lt ii.2.1 a2)
  exact sm_iast hX hs cc0.1 d (k _ List.mem_cons_self Lc _ _ gl gps (ab_mu_ui gm (by rw [hG _ _ _ hs]; exact rg.1) (by rw [hG _ _ _ hs]; exact rg.2)) (ab_fr_ui gf wm))
theorem ab_st_bastore {cl : List vw_C} {X : sm_X} {cc : ByteArray} {own : String} {Ts : List Cond} {rm : Room} {N Sz : Nat} {ini : Bool} {M : ab_M} (hX : sm_ok cl X cc M.1 own Ts M.2.1 rm N Sz ini) {G : ab_G} (hG : ab_Gok G) {K : dp_K} {ys : Nat → MethodName} {wss : Nat → List Cond} (hK : dp_Kok cl X.1.2.2.2 own Ts ys wss K) {CT : List ab_C} (hCT : ∀ e ∈ CT, ab_ok cl X.1 ys wss G e) (hfr : M.2.2.2.1 ≤ rm.frames) (hlo : 32 * M.2.2.2.1 ≤ rm.locals) (hN : G.2.length ≤ N) (hSz : sm_sl G.2 ≤ Sz) {ad : Nat → Nat} {μ0 : sm_M} {S : Nat → Int} {pc len : Nat}  (d : decode cc pc = .ok (.bastore, len)) {A : ab_L} {st : List ab_V} {l : List ab_T} (h : ab_st K G M CT pc A st .bastore len = some l) (k : ∀ a ∈ l, ab_J cl X G M ad μ0 S a) : ab_J cl X G M ad μ0 S (pc, A, st) := by
  obtain ⟨hl, hu1⟩ := dp_g_ok h
  clear h
  have hl := dp_beq hl
  subst hl
  obtain ⟨x, r, rfl, hu2⟩ := ab_1i_ok hu1
  clear hu1
  obtain ⟨i, r, rfl, hu3⟩ := ab_1i_ok hu2
  clear hu2
  obtain ⟨p, r, rfl, hu4⟩ := ab_1r_ok hu3
  clear hu3
  obtain ⟨n, hs, a1, a2, hu5⟩ := ab_ar_ok hu4
  clear hu4
  obtain ⟨hw, hu6⟩ := dp_g_ok hu5
  clear hu5
  cases hu6
  intro Lc stc μ gl gs gm gf
  obtain ⟨_, sxs, rfl, cx, gxs⟩ := ab_sv_cons gs
  clear gs
  obtain ⟨nx, rfl, ix⟩ := ab_v_int cx
  obtain ⟨_, sis, rfl, ci, gis⟩ := ab_sv_cons gxs
  clear gxs
  obtain ⟨ni, rfl, ii⟩ := ab_v_int ci
  obtain ⟨_, sps, rfl, cp, gps⟩ := ab_sv_cons gis
  clear gis
  have ep := ab_v_ref cp
  subst ep
  rw [Bool.and_eq_true, Bool.and_eq_true] at hw
  have wm := ab_w_mem hw.1
  have bb := ab_bit_ok ix hw.2.1
  have rg := ab_in_ok hw.2.2 ix
  have en : vp_nar .boolean nx = nx := by rcases ab_bits bb.1 bb.2 with rfl | rfl <;> rfl
  have cc0 := ab_clamp (i := ni) (n := n) (Int.le_trans a1 ii.1) (Int.lt_of_le_of_lt ii.2.1 a2)
  refine sm_zast hX hs cc0.1 d ?_
  rw [en]
  exact k _ List.mem_cons_self Lc _ _ gl gps (ab_mu_ui gm (by rw [hG _ _ _ hs]; exact rg.1) (by rw [hG _ _ _ hs]; exact rg.2)) (ab_fr_ui gf wm)
theorem ab_st_lastore {cl : List vw_C} {X : sm_X} {cc : ByteArray} {own : String} {Ts : List Cond} {rm : Room} {N Sz : Nat} {ini : Bool} {M : ab_M} (hX : sm_ok cl X cc M.1 own Ts M.2.1 rm N Sz ini) {G : ab_G} (hG : ab_Gok G) {K : dp_K} {ys : Nat → MethodName} {wss : Nat → List Cond} (hK : dp_Kok cl X.1.2.2.2 own Ts ys wss K) {CT : List ab_C} (hCT : ∀ e ∈ CT, ab_ok cl X.1 ys wss G e) (hfr : M.2.2.2.1 ≤ rm.frames) (hlo : 32 * M.2.2.2.1 ≤ rm.locals) (hN : G.2.length ≤ N) (hSz : sm_sl G.2 ≤ Sz) {ad : Nat → Nat} {μ0 : sm_M} {S : Nat → Int} {pc len : Nat}  (d : decode cc pc = .ok (.lastore, len)) {A : ab_L} {st : List ab_V} {l : List ab_T} (h : ab_st K G M CT pc A st .lastore len = some l) (k : ∀ a ∈ l, ab_J cl X G M ad μ0 S a) : ab_J cl X G M ad μ0 S (pc, A, st) := by
  obtain ⟨hl, hu1⟩ := dp_g_ok h
  clear h
  have hl := dp_beq hl
  subst hl
  obtain ⟨x, r, rfl, hu2⟩ := ab_1l_ok hu1
  clear hu1
  obtain ⟨i, r, rfl, hu3⟩ := ab_1i_ok hu2
  clear hu2
  obtain ⟨p, r, rfl, hu4⟩ := ab_1r_ok hu3
  clear hu3
  obtain ⟨n, hs, a1, a2, hu5⟩ := ab_ar_ok hu4
  clear hu4
  obtain ⟨hw, hu6⟩ := dp_g_ok hu5
  clear hu5
  cases hu6
  intro Lc stc μ gl gs gm gf
  obtain ⟨_, sxs, rfl, cx, gxs⟩ := ab_sv_cons gs
  clear gs
  obtain ⟨nx, rfl⟩ := ab_v_long cx
  obtain ⟨_, sis, rfl, ci, gis⟩ := ab_sv_cons gxs
  clear gxs
  obtain ⟨ni, rfl, ii⟩ := ab_v_int ci
  obtain ⟨_, sps, rfl, cp, gps⟩ := ab_sv_cons gis
  clear gis
  have ep := ab_v_ref cp
  subst ep
  have wm := ab_w_mem hw
  have cc0 := ab_clamp (i := ni) (n := n) (Int.le_trans a1 ii.1) (Int.lt_of_le_of_lt ii.2.1 a2)
  exact sm_last hX hs cc0.1 d (k _ List.mem_cons_self Lc _ _ gl gps gm (ab_fr_ul gf wm))
theorem ab_st_arraylength {cl : List vw_C} {X : sm_X} {cc : ByteArray} {own : String} {Ts : List Cond} {rm : Room} {N Sz : Nat} {ini : Bool} {M : ab_M} (hX : sm_ok cl X cc M.1 own Ts M.2.1 rm N Sz ini) {G : ab_G} (hG : ab_Gok G) {K : dp_K} {ys : Nat → MethodName} {wss : Nat → List Cond} (hK : dp_Kok cl X.1.2.2.2 own Ts ys wss K) {CT : List ab_C} (hCT : ∀ e ∈ CT, ab_ok cl X.1 ys wss G e) (hfr : M.2.2.2.1 ≤ rm.frames) (hlo : 32 * M.2.2.2.1 ≤ rm.locals) (hN : G.2.length ≤ N) (hSz : sm_sl G.2 ≤ Sz) {ad : Nat → Nat} {μ0 : sm_M} {S : Nat → Int} {pc len : Nat}  (d : decode cc pc = .ok (.arraylength, len)) {A : ab_L} {st : List ab_V} {l : List ab_T} (h : ab_st K G M CT pc A st .arraylength len = some l) (k : ∀ a ∈ l, ab_J cl X G M ad μ0 S a) : ab_J cl X G M ad μ0 S (pc, A, st) := by
  obtain ⟨hl, hu1⟩ := dp_g_ok h
  clear h
  have hl := dp_beq hl
  subst hl
  obtain ⟨p, r, rfl, hu2⟩ := ab_1r_ok hu1
  clear hu1
  split at hu2
  · rename_i c0 n hs
    obtain ⟨h1, ha⟩ := dp_g_ok hu2
    cases ha
    rw [Bool.and_eq_true] at h1
    have q1 := Nat.le_of_ble_eq_true h1.1
    have q2 := Nat.le_of_ble_eq_true h1.2
    intro Lc stc μ gl gs gm gf
    obtain ⟨_, sps, rfl, cp, gps⟩ := ab_sv_cons gs
    clear gs
    have ep := ab_v_ref cp
    subst ep
    have en : (Int32.ofNat n).toInt = (n : Int) := nI_toInt (n := n) (by omega)
    exact sm_alen hX hs (by omega) d (k _ List.mem_cons_self Lc _ μ gl ⟨ab_i_mk (by rw [en]; exact Int.le_refl _) (by rw [en]; exact Int.le_refl _), gps⟩ gm gf)
  · cases hu2
theorem ab_st_invokestatic {cl : List vw_C} {X : sm_X} {cc : ByteArray} {own : String} {Ts : List Cond} {rm : Room} {N Sz : Nat} {ini : Bool} {M : ab_M} (hX : sm_ok cl X cc M.1 own Ts M.2.1 rm N Sz ini) {G : ab_G} (hG : ab_Gok G) {K : dp_K} {ys : Nat → MethodName} {wss : Nat → List Cond} (hK : dp_Kok cl X.1.2.2.2 own Ts ys wss K) {CT : List ab_C} (hCT : ∀ e ∈ CT, ab_ok cl X.1 ys wss G e) (hfr : M.2.2.2.1 ≤ rm.frames) (hlo : 32 * M.2.2.2.1 ≤ rm.locals) (hN : G.2.length ≤ N) (hSz : sm_sl G.2 ≤ Sz) {ad : Nat → Nat} {μ0 : sm_M} {S : Nat → Int} {pc len : Nat} (i : Nat) (d : decode cc pc = .ok ((.invokestatic i), len)) {A : ab_L} {st : List ab_V} {l : List ab_T} (h : ab_st K G M CT pc A st (.invokestatic i) len = some l) (k : ∀ a ∈ l, ab_J cl X G M ad μ0 S a) : ab_J cl X G M ad μ0 S (pc, A, st) := by
  obtain ⟨hl, hu1⟩ := dp_g_ok h
  clear h
  have hl := dp_beq hl
  subst hl
  obtain ⟨C, hC, hu2⟩ := dp_o_ok hu1
  clear hu1
  exact ab_call_ok hX hG hK hCT hfr hlo hN hSz (hK.2.2.2.1 _ _ hC cc) d hu2 k
theorem ab_st_invokevirtual {cl : List vw_C} {X : sm_X} {cc : ByteArray} {own : String} {Ts : List Cond} {rm : Room} {N Sz : Nat} {ini : Bool} {M : ab_M} (hX : sm_ok cl X cc M.1 own Ts M.2.1 rm N Sz ini) {G : ab_G} (hG : ab_Gok G) {K : dp_K} {ys : Nat → MethodName} {wss : Nat → List Cond} (hK : dp_Kok cl X.1.2.2.2 own Ts ys wss K) {CT : List ab_C} (hCT : ∀ e ∈ CT, ab_ok cl X.1 ys wss G e) (hfr : M.2.2.2.1 ≤ rm.frames) (hlo : 32 * M.2.2.2.1 ≤ rm.locals) (hN : G.2.length ≤ N) (hSz : sm_sl G.2 ≤ Sz) {ad : Nat → Nat} {μ0 : sm_M} {S : Nat → Int} {pc len : Nat} (i : Nat) (d : decode cc pc = .ok ((.invokevirtual i), len)) {A : ab_L} {st : List ab_V} {l : List ab_T} (h : ab_st K G M CT pc A st (.invokevirtual i) len = some l) (k : ∀ a ∈ l, ab_J cl X G M ad μ0 S a) : ab_J cl X G M ad μ0 S (pc, A, st) := by
  obtain ⟨hl, hu1⟩ := dp_g_ok h
  clear h
  have hl := dp_beq hl
  subst hl
  obtain ⟨C, hC, hu2⟩ := dp_o_ok hu1
  clear hu1
  exact ab_call_ok hX hG hK hCT hfr hlo hN hSz (hK.2.2.2.2.1 _ _ hC cc) d hu2 k
theorem ab_st_ok {cl : List vw_C} {X : sm_X} {cc : ByteArray} {own : String} {Ts : List Cond} {rm : Room} {N Sz : Nat} {ini : Bool} {M : ab_M} (hX : sm_ok cl X cc M.1 own Ts M.2.1 rm N Sz ini) {G : ab_G} (hG : ab_Gok G) {K : dp_K} {ys : Nat → MethodName} {wss : Nat → List Cond} (hK : dp_Kok cl X.1.2.2.2 own Ts ys wss K) {CT : List ab_C} (hCT : ∀ e ∈ CT, ab_ok cl X.1 ys wss G e) (hfr : M.2.2.2.1 ≤ rm.frames) (hlo : 32 * M.2.2.2.1 ≤ rm.locals) (hN : G.2.length ≤ N) (hSz : sm_sl G.2 ≤ Sz) {ad : Nat → Nat} {μ0 : sm_M} {S : Nat → Int} {pc len : Nat} {ins : Instr} (d : decode cc pc = .ok (ins, len)) {A : ab_L} {st : List ab_V} {l : List ab_T} (h : ab_st K G M CT pc A st ins len = some l) (k : ∀ a ∈ l, ab_J cl X G M ad μ0 S a) : ab_J cl X G M ad μ0 S (pc, A, st) := by
  cases ins with
  | iadd => exact ab_st_iadd hX hG hK hCT hfr hlo hN hSz  d h k
  | isub => exact ab_st_isub hX hG hK hCT hfr hlo hN hSz  d h k
  | imul => exact ab_st_imul hX hG hK hCT hfr hlo hN hSz  d h k
  | iand => exact ab_st_iand hX hG hK hCT hfr hlo hN hSz  d h k
  | ior => exact ab_st_ior hX hG hK hCT hfr hlo hN hSz  d h k
  | ishr => exact ab_st_ishr hX hG hK hCT hfr hlo hN hSz  d h k
  | ixor => exact ab_st_ixor hX hG hK hCT hfr hlo hN hSz  d h k
  | ishl => exact ab_st_ishl hX hG hK hCT hfr hlo hN hSz  d h k
  | iushr => exact ab_st_iushr hX hG hK hCT hfr hlo hN hSz  d h k
  | idiv => exact ab_st_idiv hX hG hK hCT hfr hlo hN hSz  d h k
  | irem => exact ab_st_irem hX hG hK hCT hfr hlo hN hSz  d h k
  | ineg => exact ab_st_ineg hX hG hK hCT hfr hlo hN hSz  d h k
  | land => exact ab_st_land hX hG hK hCT hfr hlo hN hSz  d h k
  | lor => exact ab_st_lor hX hG hK hCT hfr hlo hN hSz  d h k
  | lxor => exact ab_st_lxor hX hG hK hCT hfr hlo hN hSz  d h k
  | ladd => exact ab_st_ladd hX hG hK hCT hfr hlo hN hSz  d h k
  | lsub => exact ab_st_lsub hX hG hK hCT hfr hlo hN hSz  d h k
  | lshl => exact ab_st_lshl hX hG hK hCT hfr hlo hN hSz  d h k
  | lshr => exact ab_st_lshr hX hG hK hCT hfr hlo hN hSz  d h k
  | lushr => exact ab_st_lushr hX hG hK hCT hfr hlo hN hSz  d h k
  | lcmp => exact ab_st_lcmp hX hG hK hCT hfr hlo hN hSz  d h k
  | i2l => exact ab_st_i2l hX hG hK hCT hfr hlo hN hSz  d h k
  | l2i => exact ab_st_l2i hX hG hK hCT hfr hlo hN hSz  d h k
  | iconst i => exact ab_st_iconst hX hG hK hCT hfr hlo hN hSz i d h k
  | bipush i => exact ab_st_bipush hX hG hK hCT hfr hlo hN hSz i d h k
  | sipush i => exact ab_st_sipush hX hG hK hCT hfr hlo hN hSz i d h k
  | lconst i => exact ab_st_lconst hX hG hK hCT hfr hlo hN hSz i d h k
  | ldc i => exact ab_st_ldc hX hG hK hCT hfr hlo hN hSz i d h k
  | ldc2_w i => exact ab_st_ldc2_w hX hG hK hCT hfr hlo hN hSz i d h k
  | dup => exact ab_st_dup hX hG hK hCT hfr hlo hN hSz  d h k
  | pop => exact ab_st_pop hX hG hK hCT hfr hlo hN hSz  d h k
  | dup_x1 => exact ab_st_dup_x1 hX hG hK hCT hfr hlo hN hSz  d h k
  | dup2 => exact ab_st_dup2 hX hG hK hCT hfr hlo hN hSz  d h k
  | iload i => exact ab_st_iload hX hG hK hCT hfr hlo hN hSz i d h k
  | lload i => exact ab_st_lload hX hG hK hCT hfr hlo hN hSz i d h k
  | aload i => exact ab_st_aload hX hG hK hCT hfr hlo hN hSz i d h k
  | istore i => exact ab_st_istore hX hG hK hCT hfr hlo hN hSz i d h k
  | astore i => exact ab_st_astore hX hG hK hCT hfr hlo hN hSz i d h k
  | lstore i => exact ab_st_lstore hX hG hK hCT hfr hlo hN hSz i d h k
  | iload_n i => exact ab_st_iload_n hX hG hK hCT hfr hlo hN hSz i d h k
  | lload_n i => exact ab_st_lload_n hX hG hK hCT hfr hlo hN hSz i d h k
  | aload_n i => exact ab_st_aload_n hX hG hK hCT hfr hlo hN hSz i d h k
  | istore_n i => exact ab_st_istore_n hX hG hK hCT hfr hlo hN hSz i d h k
  | astore_n i => exact ab_st_astore_n hX hG hK hCT hfr hlo hN hSz i d h k
  | lstore_n i => exact ab_st_lstore_n hX hG hK hCT hfr hlo hN hSz i d h k
  | iinc i z => exact ab_st_iinc hX hG hK hCT hfr hlo hN hSz i z d h k
  | goto off => exact ab_st_goto hX hG hK hCT hfr hlo hN hSz off d h k
  | ifCond cn off => exact ab_st_ifCond hX hG hK hCT hfr hlo hN hSz cn off d h k
  | if_icmp cn off => exact ab_st_if_icmp hX hG hK hCT hfr hlo hN hSz cn off d h k
  | getfield i => exact ab_st_getfield hX hG hK hCT hfr hlo hN hSz i d h k
  | putfield i => exact ab_st_putfield hX hG hK hCT hfr hlo hN hSz i d h k
  | iaload => exact ab_st_iaload hX hG hK hCT hfr hlo hN hSz  d h k
  | baload => exact ab_st_baload hX hG hK hCT hfr hlo hN hSz  d h k
  | laload => exact ab_st_laload hX hG hK hCT hfr hlo hN hSz  d h k
  | iastore => exact ab_st_iastore hX hG hK hCT hfr hlo hN hSz  d h k
  | bastore => exact ab_st_bastore hX hG hK hCT hfr hlo hN hSz  d h k
  | lastore => exact ab_st_lastore hX hG hK hCT hfr hlo hN hSz  d h k
  | arraylength => exact ab_st_arraylength hX hG hK hCT hfr hlo hN hSz  d h k
  | invokestatic i => exact ab_st_invokestatic hX hG hK hCT hfr hlo hN hSz i d h k
  | invokevirtual i => exact ab_st_invokevirtual hX hG hK hCT hfr hlo hN hSz i d h k
  | _ => exact absurd h (by intro h; cases h)
