/-! Integer.bitCount: an int of 0 .. 63 -/
theorem ld_w {p : Program} {l : Launch} {e : Env} {R : Room} {s : State} {m : MethodId} {args : Array Value} {below : List Frame} {meth : Method} {c : Code} {T : State} {locs : List Loc} {cells slots : Nat} (X : Stand p l e R s m args below meth c T locs cells slots) (hx : p.tables.exec = Jvm.exec) {own : String} {idx : Nat} {v : Int32} (ho : s.vm.findClass own = some m.cls) (hc : (Cond.constant own idx v).before args s = true) {g : JFrame} (hg : g.method = m) (hd : decode c.code g.pc = .ok (.ldc_w idx, 3)) {tg : State} (h : Steps p.tables e below (T.setTop { g with pc := g.pc + 3, stack := .int v :: g.stack }) tg) : Steps p.tables e below (T.setTop g) tg := by
  obtain ⟨k0, cf, bs, q1, q2, q3, q4⟩ := Cond.constant_spec ho hc
  obtain ⟨k1, q5, q6⟩ := X.warmed.alike.2.2 _ _ q1
  subst hg
  jvm_step X.here [hx, hd, Jvm.Op.ldc_w.wp_int (s := T) (f := g) X.here.top q5 (by rw [q6]; exact q2) q3, q4]
  exact h
theorem sm_ldcw {cl : List vw_C} {X : sm_X} {cc : ByteArray} {n : Nat} {own : String} {Ts : List Cond} {ret : Option FieldType} {rm : Room} {N S : Nat} {ini : Bool} (hX : sm_ok cl X cc n own Ts ret rm N S ini) {pc : Nat} {L : List (Option Value)} {r : List Value} {ad : Nat → Nat} {sh : sm_S} {μ : sm_M} {idx : Nat} {v : Int32} (d : decode cc pc = .ok (.ldc_w idx, 3)) (hc : Jvm.Cond.constant own idx v ∈ Ts) (k : sm_E cl X (pc + 3) L (.int v :: r) ad sh μ) : sm_E cl X pc L (r) ad sh μ := by
  obtain ⟨⟨l, D, cA, NW⟩, pr, e, R, s, m, args, below, meth, c, nL, A, H0, Q, n0, s0⟩ := X
  obtain ⟨hx, hb, hml, hn, hown, hts, hK, hlk, hrt, hR, hA, hc0, hs0, hin, hnw⟩ := hX
  intro ls H locs cells slots g1 g2 h1 h2 h3 h4 T hT X
  obtain ⟨t, a, b⟩ := k ls H locs cells slots g1 g2 h1 h2 h3 h4 T hT X
  exact ⟨t, ld_w X hx hown (hts _ hc) (g := F0 m pc ls (r.map (sm_v ad))) rfl (by rw [hb]; exact d) a, b⟩
theorem bc_c265 : Cond.constant "java/lang/Integer" 265 1431655765 ∈ tb_W := tb_in (i := 701) (by decide +kernel) (by decide +kernel)
theorem bc_c266 : Cond.constant "java/lang/Integer" 266 858993459 ∈ tb_W := tb_in (i := 702) (by decide +kernel) (by decide +kernel)
theorem bc_c267 : Cond.constant "java/lang/Integer" 267 252645135 ∈ tb_W := tb_in (i := 703) (by decide +kernel) (by decide +kernel)
theorem bc_d0 : decode prog_13_method_49_code 0 = .ok ((.iload_n 0), 1) := by decide +kernel
theorem bc_d1 : decode prog_13_method_49_code 1 = .ok ((.iload_n 0), 1) := by decide +kernel
theorem bc_d2 : decode prog_13_method_49_code 2 = .ok ((.iconst (1)), 1) := by decide +kernel
theorem bc_d3 : decode prog_13_method_49_code 3 = .ok (.iushr, 1) := by decide +kernel
theorem bc_d4 : decode prog_13_method_49_code 4 = .ok ((.ldc_w 265), 3) := by decide +kernel
theorem bc_d7 : decode prog_13_method_49_code 7 = .ok (.iand, 1) := by decide +kernel
theorem bc_d8 : decode prog_13_method_49_code 8 = .ok (.isub, 1) := by decide +kernel
theorem bc_d9 : decode prog_13_method_49_code 9 = .ok ((.istore_n 0), 1) := by decide +kernel
theorem bc_d10 : decode prog_13_method_49_code 10 = .ok ((.iload_n 0), 1) := by decide +kernel
theorem bc_d11 : decode prog_13_method_49_code 11 = .ok ((.ldc_w 266), 3) := by decide +kernel
theorem bc_d14 : decode prog_13_method_49_code 14 = .ok (.iand, 1) := by decide +kernel
theorem bc_d15 : decode prog_13_method_49_code 15 = .ok ((.iload_n 0), 1) := by decide +kernel
theorem bc_d16 : decode prog_13_method_49_code 16 = .ok ((.iconst (2)), 1) := by decide +kernel
theorem bc_d17 : decode prog_13_method_49_code 17 = .ok (.iushr, 1) := by decide +kernel
theorem bc_d18 : decode prog_13_method_49_code 18 = .ok ((.ldc_w 266), 3) := by decide +kernel
theorem bc_d21 : decode prog_13_method_49_code 21 = .ok (.iand, 1) := by decide +kernel
theorem bc_d22 : decode prog_13_method_49_code 22 = .ok (.iadd, 1) := by decide +kernel
theorem bc_d23 : decode prog_13_method_49_code 23 = .ok ((.istore_n 0), 1) := by decide +kernel
theorem bc_d24 : decode prog_13_method_49_code 24 = .ok ((.iload_n 0), 1) := by decide +kernel
theorem bc_d25 : decode prog_13_method_49_code 25 = .ok ((.iload_n 0), 1) := by decide +kernel
theorem bc_d26 : decode prog_13_method_49_code 26 = .ok ((.iconst (4)), 1) := by decide +kernel
theorem bc_d27 : decode prog_13_method_49_code 27 = .ok (.iushr, 1) := by decide +kernel
theorem bc_d28 : decode prog_13_method_49_code 28 = .ok (.iadd, 1) := by decide +kernel
theorem bc_d29 : decode prog_13_method_49_code 29 = .ok ((.ldc_w 267), 3) := by decide +kernel
theorem bc_d32 : decode prog_13_method_49_code 32 = .ok (.iand, 1) := by decide +kernel
theorem bc_d33 : decode prog_13_method_49_code 33 = .ok ((.istore_n 0), 1) := by decide +kernel
theorem bc_d34 : decode prog_13_method_49_code 34 = .ok ((.iload_n 0), 1) := by decide +kernel
theorem bc_d35 : decode prog_13_method_49_code 35 = .ok ((.iload_n 0), 1) := by decide +kernel
theorem bc_d36 : decode prog_13_method_49_code 36 = .ok ((.bipush (8)), 2) := by decide +kernel
theorem bc_d38 : decode prog_13_method_49_code 38 = .ok (.iushr, 1) := by decide +kernel
theorem bc_d39 : decode prog_13_method_49_code 39 = .ok (.iadd, 1) := by decide +kernel
theorem bc_d40 : decode prog_13_method_49_code 40 = .ok ((.istore_n 0), 1) := by decide +kernel
theorem bc_d41 : decode prog_13_method_49_code 41 = .ok ((.iload_n 0), 1) := by decide +kernel
theorem bc_d42 : decode prog_13_method_49_code 42 = .ok ((.iload_n 0), 1) := by decide +kernel
theorem bc_d43 : decode prog_13_method_49_code 43 = .ok ((.bipush (16)), 2) := by decide +kernel
theorem bc_d45 : decode prog_13_method_49_code 45 = .ok (.iushr, 1) := by decide +kernel
theorem bc_d46 : decode prog_13_method_49_code 46 = .ok (.iadd, 1) := by decide +kernel
theorem bc_d47 : decode prog_13_method_49_code 47 = .ok ((.istore_n 0), 1) := by decide +kernel
theorem bc_d48 : decode prog_13_method_49_code 48 = .ok ((.iload_n 0), 1) := by decide +kernel
theorem bc_d49 : decode prog_13_method_49_code 49 = .ok ((.bipush (63)), 2) := by decide +kernel
theorem bc_d51 : decode prog_13_method_49_code 51 = .ok (.iand, 1) := by decide +kernel
theorem bc_d52 : decode prog_13_method_49_code 52 = .ok (.ireturn, 1) := by decide +kernel
theorem bc_C {Z : sm_Z} {rm : Room} (hc : rm.cells = 0) (hs : rm.slots = 0) {x : Int32} {sh : sm_S} (ad : Nat → Nat) (μ : sm_M) : sm_C tb_cl Z (tb_ys 206) (tb_ws 206) rm [.int x] ad sh μ (fun r sh' μ' => (∃ v : Int32, r = some (.int v) ∧ 0 ≤ v.toInt ∧ v.toInt ≤ 63) ∧ sh' = sh ∧ μ' = μ) := by
  refine sm_enter (cc := prog_13_method_49_code) (nL := 1) (ret := some .int) (by decide +kernel) (Nat.le_of_ble_eq_true rfl) (fun X hZ hX hf => ?_)
  show sm_E tb_cl X 0 [some (.int x)] [] ad sh μ
  refine sm_iloadN hX bc_d0 rfl ?_
  refine sm_iloadN hX bc_d1 rfl ?_
  refine sm_iconst hX bc_d2 ?_
  refine sm_iushr hX bc_d3 ?_
  refine sm_ldcw hX bc_d4 bc_c265 ?_
  refine sm_iand hX bc_d7 ?_
  refine sm_isub hX bc_d8 ?_
  refine sm_istoreN hX bc_d9 rfl (by decide) ?_
  refine sm_iloadN hX bc_d10 rfl ?_
  refine sm_ldcw hX bc_d11 bc_c266 ?_
  refine sm_iand hX bc_d14 ?_
  refine sm_iloadN hX bc_d15 rfl ?_
  refine sm_iconst hX bc_d16 ?_
  refine sm_iushr hX bc_d17 ?_
  refine sm_ldcw hX bc_d18 bc_c266 ?_
  refine sm_iand hX bc_d21 ?_
  refine sm_iadd hX bc_d22 ?_
  refine sm_istoreN hX bc_d23 rfl (by decide) ?_
  refine sm_iloadN hX bc_d24 rfl ?_
  refine sm_iloadN hX bc_d25 rfl ?_
  refine sm_iconst hX bc_d26 ?_
  refine sm_iushr hX bc_d27 ?_
  refine sm_iadd hX bc_d28 ?_
  refine sm_ldcw hX bc_d29 bc_c267 ?_
  refine sm_iand hX bc_d32 ?_
  refine sm_istoreN hX bc_d33 rfl (by decide) ?_
  refine sm_iloadN hX bc_d34 rfl ?_
  refine sm_iloadN hX bc_d35 rfl ?_
  refine sm_bipush hX bc_d36 ?_
  refine sm_iushr hX bc_d38 ?_
  refine sm_iadd hX bc_d39 ?_
  refine sm_istoreN hX bc_d40 rfl (by decide) ?_
  refine sm_iloadN hX bc_d41 rfl ?_
  refine sm_iloadN hX bc_d42 rfl ?_
  refine sm_bipush hX bc_d43 ?_
  refine sm_iushr hX bc_d45 ?_
  refine sm_iadd hX bc_d46 ?_
  refine sm_istoreN hX bc_d47 rfl (by decide) ?_
  refine sm_iloadN hX bc_d48 rfl ?_
  refine sm_bipush hX bc_d49 ?_
  refine sm_iand hX bc_d51 ?_
  exact sm_iret hX hf (by omega) (by omega) (fun _ _ => rfl) rfl bc_d52 ⟨⟨_, rfl, ab_tand (y := (Int8.ofInt 63).toInt32) (by decide)⟩, rfl, rfl⟩
theorem k206 {Z : sm_Z} (m : wk_M) (x : Int) : wC Z 0 206 [] [.inl x] m (fun r m' => ∃ v : Int, r = some (.inl v) ∧ m' = m ∧ 0 ≤ v ∧ v ≤ 63) := by
  intro μ ad e gm hv
  refine sm_C.imp (bc_C (Z := Z) (rm := dp_rm 0 (32 * 0) rG.2 rG.2) (Nat.sub_self _) (Nat.sub_self _) (x := Int32.ofInt x) (sh := rG.2) ad μ) (fun r sh' μ' q => ?_)
  obtain ⟨⟨v, q1, q2, q3⟩, q4, q5⟩ := q
  subst q1 q4 q5
  refine ⟨rfl, gm, fun _ _ => ⟨rfl, rfl⟩, some (.inl v.toInt), ?_, ⟨ab_min v, ab_max v⟩, v.toInt, rfl, e, q2, q3⟩
  show some (Value.int v) = some (Value.int (Int32.ofInt v.toInt))
  rw [wk_io]
