/-! A run over RANGES: what a method may do from every memory that keeps given ranges. An int is (lowest, highest, equal to the value that a local had at the segment's start plus a number, equal to a local now); a reference is its place; of a long nothing is known. -/
abbrev ab_I : Type := Int × Int × Option (Nat × Int) × Option Nat
abbrev ab_V : Type := ab_I ⊕ (Nat ⊕ Unit)
abbrev ab_L : Type := List (Option ab_V)
abbrev ab_T : Type := Nat × ab_L × List ab_V
/-- what a contract says of an argument or an answer -/
abbrev ab_A : Type := (Int × Int) ⊕ (Nat ⊕ Unit)
/-- a contract: method, level, arguments, answer, places that it may write -/
abbrev ab_C : Type := Nat × Nat × List ab_A × Option ab_A × List Nat
def ab_lo : Int := -2147483648
def ab_hi : Int := 2147483647
def ab_top : ab_I := (ab_lo, ab_hi, none, none)
def ab_c (n : Int) : ab_I := (n, n, none, none)
def ab_fit (lo hi : Int) : Bool := decide (ab_lo ≤ lo) && decide (hi ≤ ab_hi)
def ab_rg (lo hi : Int) (rel : Option (Nat × Int)) : ab_I := bif ab_fit lo hi then (lo, hi, rel, none) else ab_top
def ab_one (x : ab_I) : Bool := decide (x.1 = x.2.1)
def ab_sh (r : Option (Nat × Int)) (n : Int) : Option (Nat × Int) := match r with
  | some (k, c) => some (k, c + n)
  | none => none
def ab_add (x y : ab_I) : ab_I := ab_rg (x.1 + y.1) (x.2.1 + y.2.1) (bif ab_one y then ab_sh x.2.2.1 y.1 else bif ab_one x then ab_sh y.2.2.1 x.1 else none)
def ab_sub (x y : ab_I) : ab_I := ab_rg (x.1 - y.2.1) (x.2.1 - y.1) (bif ab_one y then ab_sh x.2.2.1 (-y.1) else none)
def ab_mul (x y : ab_I) : ab_I := bif decide (0 ≤ x.1) && decide (0 ≤ y.1) then ab_rg (x.1 * y.1) (x.2.1 * y.2.1) none else ab_top
def ab_div (x y : ab_I) : Option ab_I := bif ab_one y && (decide (0 < y.1) && decide (0 ≤ x.1)) then some (x.1 / y.1, x.2.1 / y.1, none, none) else none
def ab_rem (x y : ab_I) : Option ab_I := bif ab_one y && (decide (0 < y.1) && decide (0 ≤ x.1)) then some (0, y.1 - 1, none, none) else none
def ab_and (x y : ab_I) : ab_I := bif decide (0 ≤ y.1) then (0, y.2.1, none, none) else bif decide (0 ≤ x.1) then (0, x.2.1, none, none) else ab_top
def ab_bit (x : ab_I) : Bool := decide (0 ≤ x.1) && decide (x.2.1 ≤ 1)
def ab_or (x y : ab_I) : ab_I := bif ab_bit x && ab_bit y then (0, 1, none, none) else ab_top
def ab_shr (x y : ab_I) : ab_I := bif ab_one y && (decide (y.1 = 6) && (decide (0 ≤ x.1) && decide (x.2.1 ≤ 1023))) then (x.1 / 64, x.2.1 / 64, none, none) else ab_top
/-- two ints of which one is in a relation to the other: what then holds of both, if it can be -/
def ab_cut (x : ab_I) (lo hi : Int) : Option ab_I := bif decide (max x.1 lo ≤ min x.2.1 hi) then some (max x.1 lo, min x.2.1 hi, x.2.2) else none
def ab_two (x y : Option ab_I) : Option (ab_I × ab_I) := match x, y with
  | some a, some b => some (a, b)
  | _, _ => none
def ab_ne1 (x : ab_I) (c : Int) : Option ab_I := bif decide (x.1 = c) then ab_cut x (c + 1) ab_hi else bif decide (x.2.1 = c) then ab_cut x ab_lo (c - 1) else some x
def ab_cmp : Jvm.ClassFile.Cond → ab_I → ab_I → Option (ab_I × ab_I)
  | .eq, x, y => ab_two (ab_cut x y.1 y.2.1) (ab_cut y x.1 x.2.1)
  | .ne, x, y => ab_two (bif ab_one y then ab_ne1 x y.1 else some x) (bif ab_one x then ab_ne1 y x.1 else some y)
  | .lt, x, y => ab_two (ab_cut x ab_lo (y.2.1 - 1)) (ab_cut y (x.1 + 1) ab_hi)
  | .ge, x, y => ab_two (ab_cut x y.1 ab_hi) (ab_cut y ab_lo x.2.1)
  | .gt, x, y => ab_two (ab_cut x (y.1 + 1) ab_hi) (ab_cut y ab_lo (x.2.1 - 1))
  | .le, x, y => ab_two (ab_cut x ab_lo y.2.1) (ab_cut y x.1 ab_hi)
def ab_neg : Jvm.ClassFile.Cond → Jvm.ClassFile.Cond
  | .eq => .ne
  | .ne => .eq
  | .lt => .ge
  | .ge => .lt
  | .gt => .le
  | .le => .gt
/-- what became known of an int becomes known of the local that it is -/
def ab_up (A : ab_L) (x : ab_I) : ab_L := match x.2.2.2 with
  | none => A
  | some l => (match A[l]? with
    | some (some (.inl _)) => A.set l (some (.inl (x.1, x.2.1, x.2.2.1, none)))
    | _ => A)
/-- a stored local is no longer what lies on the stack -/
def ab_cl (l : Nat) (v : ab_V) : ab_V := match v with
  | .inl (a, b, r, some k) => bif Nat.beq k l then .inl (a, b, r, none) else .inl (a, b, r, some k)
  | v => v
def ab_co (l : Nat) (v : ab_V) : ab_V := match v with
  | .inl (a, b, r, _) => .inl (a, b, r, some l)
  | v => v
def ab_no : ab_V → ab_V
  | .inl (a, b, r, _) => .inl (a, b, r, none)
  | v => v
def ab_1i {β : Type} (st : List ab_V) (k : ab_I → List ab_V → Option β) : Option β := match st with
  | .inl x :: r => k x r
  | _ => none
def ab_1l {β : Type} (st : List ab_V) (k : List ab_V → Option β) : Option β := match st with
  | .inr (.inr _) :: r => k r
  | _ => none
def ab_1r {β : Type} (st : List ab_V) (k : Nat → List ab_V → Option β) : Option β := match st with
  | .inr (.inl p) :: r => k p r
  | _ => none
def ab_1v {β : Type} (st : List ab_V) (k : ab_V → List ab_V → Option β) : Option β := match st with
  | x :: r => k x r
  | _ => none
def ab_cat : ab_V → Nat
  | .inr (.inr _) => 2
  | _ => 1
def ab_ah (A : ab_L) : Nat → Bool
  | 0 => true
  | i + 1 => match A.getD i none with
    | some (.inr (.inr _)) => false
    | _ => true
/-- an array of the kind, all of whose places the index can be -/
def ab_ar {β : Type} (sh : sm_S) (p kd : Nat) (i : ab_I) (k : Unit → Option β) : Option β := match sh[p]? with
  | some (.inr (c, n)) => bif Nat.beq c kd && (decide (0 ≤ i.1) && decide (i.2.1 < (n : Int))) then k () else none
  | _ => none
def ab_in (x : ab_I) (r : Int × Int) : Bool := decide (r.1 ≤ x.1) && decide (x.2.1 ≤ r.2)
def ab_fits (v : ab_V) (a : ab_A) : Bool := match v, a with
  | .inl x, .inl r => ab_in x r
  | .inr (.inl p), .inr (.inl q) => Nat.beq p q
  | .inr (.inr _), .inr (.inr _) => true
  | _, _ => false
def ab_fitl : List ab_V → List ab_A → Bool
  | [], [] => true
  | v :: t, a :: u => ab_fits v a && ab_fitl t u
  | _, _ => false
def ab_of : ab_A → ab_V
  | .inl r => .inl (r.1, r.2, none, none)
  | .inr x => .inr x
def ab_find (j lvl : Nat) (As : List ab_V) : List ab_C → Option ab_C
  | [] => none
  | e :: t => bif Nat.beq e.1 j && (Nat.ble (e.2.1 + 1) lvl && ab_fitl As e.2.2.1) then some e else ab_find j lvl As t
def ab_sub' (w w' : List Nat) : Bool := w.all (fun p => w'.any (fun q => Nat.beq p q))
/-- the ranges of the ints by place and number, the shape; of a method: its locals, answer, level, places that it may write -/
abbrev ab_G : Type := (Nat → Nat → Int × Int) × sm_S
abbrev ab_M : Type := Nat × Option FieldType × Option ab_A × Nat × List Nat
def ab_w (M : ab_M) (p : Nat) : Bool := M.2.2.2.2.any (fun q => Nat.beq p q)
/-- a call, by the contracts that stand -/
def ab_ca (G : ab_G) (M : ab_M) (CT : List ab_C) (j na rc pc : Nat) (A : ab_L) (st : List ab_V) : Option (List ab_T) :=
  dp_g (Nat.beq (st.take na).length na) (dp_g (match rc with
    | 0 => true
    | ci + 1 => match (st.take na).reverse with
      | .inr (.inl p) :: _ => (match G.2[p]? with
        | some (.inl (c, _)) => Nat.beq c ci
        | _ => false)
      | _ => false) (dp_g (Nat.ble ((st.drop na).map ab_cat).sum 8) (dp_o (ab_find j M.2.2.2.1 (st.take na).reverse CT) (fun e => dp_g (ab_sub' e.2.2.2.2 M.2.2.2.2) (match e.2.2.2.1 with
    | none => some [(pc + 3, A, st.drop na)]
    | some a => some [(pc + 3, A, ab_of a :: st.drop na)])))))
/-- one instruction: where it may go on -/
def ab_st (K : dp_K) (G : ab_G) (M : ab_M) (CT : List ab_C) (pc : Nat) (A : ab_L) (st : List ab_V) (ins : Instr) (len : Nat) : Option (List ab_T) := match ins with
  | .iadd => dp_g (Nat.beq len 1) (ab_1i st fun y r => ab_1i r fun x r => some [(pc + 1, A, .inl (ab_add x y) :: r)])
  | .isub => dp_g (Nat.beq len 1) (ab_1i st fun y r => ab_1i r fun x r => some [(pc + 1, A, .inl (ab_sub x y) :: r)])
  | .imul => dp_g (Nat.beq len 1) (ab_1i st fun y r => ab_1i r fun x r => some [(pc + 1, A, .inl (ab_mul x y) :: r)])
  | .iand => dp_g (Nat.beq len 1) (ab_1i st fun y r => ab_1i r fun x r => some [(pc + 1, A, .inl (ab_and x y) :: r)])
  | .ior => dp_g (Nat.beq len 1) (ab_1i st fun y r => ab_1i r fun x r => some [(pc + 1, A, .inl (ab_or x y) :: r)])
  | .ishr => dp_g (Nat.beq len 1) (ab_1i st fun y r => ab_1i r fun x r => some [(pc + 1, A, .inl (ab_shr x y) :: r)])
  | .ixor => dp_g (Nat.beq len 1) (ab_1i st fun y r => ab_1i r fun x r => some [(pc + 1, A, .inl ab_top :: r)])
  | .ishl => dp_g (Nat.beq len 1) (ab_1i st fun y r => ab_1i r fun x r => some [(pc + 1, A, .inl ab_top :: r)])
  | .iushr => dp_g (Nat.beq len 1) (ab_1i st fun y r => ab_1i r fun x r => some [(pc + 1, A, .inl ab_top :: r)])
  | .idiv => dp_g (Nat.beq len 1) (ab_1i st fun y r => ab_1i r fun x r => dp_o (ab_div x y) fun v => some [(pc + 1, A, .inl v :: r)])
  | .irem => dp_g (Nat.beq len 1) (ab_1i st fun y r => ab_1i r fun x r => dp_o (ab_rem x y) fun v => some [(pc + 1, A, .inl v :: r)])
  | .ineg => dp_g (Nat.beq len 1) (ab_1i st fun _ r => some [(pc + 1, A, .inl ab_top :: r)])
  | .land => dp_g (Nat.beq len 1) (ab_1l st fun r => ab_1l r fun r => some [(pc + 1, A, .inr (.inr ()) :: r)])
  | .lor => dp_g (Nat.beq len 1) (ab_1l st fun r => ab_1l r fun r => some [(pc + 1, A, .inr (.inr ()) :: r)])
  | .lxor => dp_g (Nat.beq len 1) (ab_1l st fun r => ab_1l r fun r => some [(pc + 1, A, .inr (.inr ()) :: r)])
  | .ladd => dp_g (Nat.beq len 1) (ab_1l st fun r => ab_1l r fun r => some [(pc + 1, A, .inr (.inr ()) :: r)])
  | .lsub => dp_g (Nat.beq len 1) (ab_1l st fun r => ab_1l r fun r => some [(pc + 1, A, .inr (.inr ()) :: r)])
  | .lshl => dp_g (Nat.beq len 1) (ab_1i st fun _ r => ab_1l r fun r => some [(pc + 1, A, .inr (.inr ()) :: r)])
  | .lshr => dp_g (Nat.beq len 1) (ab_1i st fun _ r => ab_1l r fun r => some [(pc + 1, A, .inr (.inr ()) :: r)])
  | .lushr => dp_g (Nat.beq len 1) (ab_1i st fun _ r => ab_1l r fun r => some [(pc + 1, A, .inr (.inr ()) :: r)])
  | .lcmp => dp_g (Nat.beq len 1) (ab_1l st fun r => ab_1l r fun r => some [(pc + 1, A, .inl (-1, 1, none, none) :: r)])
  | .i2l => dp_g (Nat.beq len 1) (ab_1i st fun _ r => some [(pc + 1, A, .inr (.inr ()) :: r)])
  | .l2i => dp_g (Nat.beq len 1) (ab_1l st fun r => some [(pc + 1, A, .inl ab_top :: r)])
  | .iconst i => dp_g (Nat.beq len 1) (some [(pc + 1, A, .inl (ab_c (Int32.ofInt i).toInt) :: st)])
  | .bipush i => dp_g (Nat.beq len 2) (some [(pc + 2, A, .inl (ab_c (Int8.ofInt i).toInt32.toInt) :: st)])
  | .sipush i => dp_g (Nat.beq len 3) (some [(pc + 3, A, .inl (ab_c (Int16.ofInt i).toInt32.toInt) :: st)])
  | .lconst _ => dp_g (Nat.beq len 1) (some [(pc + 1, A, .inr (.inr ()) :: st)])
  | .ldc i => dp_g (Nat.beq len 2) (dp_o (K.2.1 i) fun v => some [(pc + 2, A, .inl (ab_c v.toInt) :: st)])
  | .ldc2_w i => dp_g (Nat.beq len 3) (dp_o (K.2.2.1 i) fun _ => some [(pc + 3, A, .inr (.inr ()) :: st)])
  | .dup => dp_g (Nat.beq len 1) (ab_1v st fun a r => dp_g (Nat.beq (ab_cat a) 1) (some [(pc + 1, A, a :: a :: r)]))
  | .pop => dp_g (Nat.beq len 1) (ab_1v st fun a r => dp_g (Nat.beq (ab_cat a) 1) (some [(pc + 1, A, r)]))
  | .dup_x1 => dp_g (Nat.beq len 1) (ab_1v st fun a r => ab_1v r fun b r => dp_g (Nat.beq (ab_cat a) 1) (dp_g (Nat.beq (ab_cat b) 1) (some [(pc + 1, A, a :: b :: a :: r)])))
  | .dup2 => dp_g (Nat.beq len 1) (ab_1v st fun a r => ab_1v r fun b r => dp_g (Nat.beq (ab_cat a) 1) (dp_g (Nat.beq (ab_cat b) 1) (some [(pc + 1, A, a :: b :: a :: b :: r)])))
  | .iload i => dp_g (Nat.beq len 2) (match A[i]? with
    | some (some (.inl x)) => some [(pc + 2, A, .inl (x.1, x.2.1, x.2.2.1, some (i)) :: st)]
    | _ => none)
  | .iload_n i => dp_g (Nat.beq len 1) (match A[(i : Nat)]? with
    | some (some (.inl x)) => some [(pc + 1, A, .inl (x.1, x.2.1, x.2.2.1, some ((i : Nat))) :: st)]
    | _ => none)
  | .istore i => dp_g (Nat.beq len 2) (ab_1i st fun x r => dp_g (ab_ah A i) (dp_g (Nat.ble (i + 1) M.1) (some [(pc + 2, A.set i (some (.inl (x.1, x.2.1, x.2.2.1, none))), r.map (ab_cl i))])))
  | .istore_n i => dp_g (Nat.beq len 1) (ab_1i st fun x r => dp_g (ab_ah A (i : Nat)) (dp_g (Nat.ble ((i : Nat) + 1) M.1) (some [(pc + 1, A.set (i : Nat) (some (.inl (x.1, x.2.1, x.2.2.1, none))), r.map (ab_cl (i : Nat)))])))
  | .lload i => dp_g (Nat.beq len 2) (match A[i]? with
    | some (some (.inr (.inr _))) => some [(pc + 2, A, .inr (.inr ()) :: st)]
    | _ => none)
  | .lload_n i => dp_g (Nat.beq len 1) (match A[(i : Nat)]? with
    | some (some (.inr (.inr _))) => some [(pc + 1, A, .inr (.inr ()) :: st)]
    | _ => none)
  | .lstore i => dp_g (Nat.beq len 2) (ab_1l st fun r => dp_g (ab_ah A i) (dp_g (Nat.ble (i + 2) M.1) (some [(pc + 2, (A.set i (some (.inr (.inr ())))).set (i + 1) none, (r.map (ab_cl i)).map (ab_cl (i + 1)))])))
  | .lstore_n i => dp_g (Nat.beq len 1) (ab_1l st fun r => dp_g (ab_ah A (i : Nat)) (dp_g (Nat.ble ((i : Nat) + 2) M.1) (some [(pc + 1, (A.set (i : Nat) (some (.inr (.inr ())))).set ((i : Nat) + 1) none, (r.map (ab_cl (i : Nat))).map (ab_cl ((i : Nat) + 1)))])))
  | .aload i => dp_g (Nat.beq len 2) (match A[i]? with
    | some (some (.inr (.inl p))) => some [(pc + 2, A, .inr (.inl p) :: st)]
    | _ => none)
  | .aload_n i => dp_g (Nat.beq len 1) (match A[(i : Nat)]? with
    | some (some (.inr (.inl p))) => some [(pc + 1, A, .inr (.inl p) :: st)]
    | _ => none)
  | .astore i => dp_g (Nat.beq len 2) (ab_1r st fun p r => dp_g (ab_ah A i) (dp_g (Nat.ble (i + 1) M.1) (some [(pc + 2, A.set i (some (.inr (.inl p))), r.map (ab_cl i))])))
  | .astore_n i => dp_g (Nat.beq len 1) (ab_1r st fun p r => dp_g (ab_ah A (i : Nat)) (dp_g (Nat.ble ((i : Nat) + 1) M.1) (some [(pc + 1, A.set (i : Nat) (some (.inr (.inl p))), r.map (ab_cl (i : Nat)))])))
  | .iinc i z => dp_g (Nat.beq len 3) (match A[i]? with
    | some (some (.inl x)) => dp_g (ab_ah A i) (dp_g (Nat.ble (i + 1) M.1) (some [(pc + 3, A.set i (some (.inl (ab_add x (ab_c (Int32.ofInt z).toInt)))), st.map (ab_cl i))]))
    | _ => none)
  | .goto off => dp_g (Nat.beq len 3) (dp_tg pc off fun t => some [(t, A, st)])
  | .ifCond cn off => dp_g (Nat.beq len 3) (ab_1i st fun x r => dp_tg pc off fun t => some ((match ab_cmp cn x (ab_c 0) with
    | some (a, _) => [(t, ab_up A a, r)]
    | none => []) ++ (match ab_cmp (ab_neg cn) x (ab_c 0) with
    | some (a, _) => [(pc + 3, ab_up A a, r)]
    | none => [])))
  | .if_icmp cn off => dp_g (Nat.beq len 3) (ab_1i st fun y r => ab_1i r fun x r => dp_tg pc off fun t => some ((match ab_cmp cn x y with
    | some (a, b) => [(t, ab_up (ab_up A a) b, r)]
    | none => []) ++ (match ab_cmp (ab_neg cn) x y with
    | some (a, b) => [(pc + 3, ab_up (ab_up A a) b, r)]
    | none => [])))
  | .getfield i => dp_g (Nat.beq len 3) (ab_1r st fun p r => dp_o (K.1 i) fun F => dp_ob G.2 p F.1 fun fs => dp_o fs[F.2.1]? fun f => match f with
    | none => some [(pc + 3, A, .inl ((G.1 p F.2.1).1, (G.1 p F.2.1).2, none, none) :: r)]
    | some none => none
    | some (some q) => some [(pc + 3, A, .inr (.inl q) :: r)])
  | .putfield i => dp_g (Nat.beq len 3) (ab_1i st fun x r => ab_1r r fun p r => dp_o (K.1 i) fun F => dp_ob G.2 p F.1 fun fs => match fs[F.2.1]? with
    | some none => dp_g (ab_w M p && ab_in x (G.1 p F.2.1)) (match F.2.2 with
      | 0 => some [(pc + 3, A, r)]
      | 1 => dp_g (ab_bit x) (some [(pc + 3, A, r)])
      | _ => none)
    | _ => none)
  | .iaload => dp_g (Nat.beq len 1) (ab_1i st fun i r => ab_1r r fun p r => ab_ar G.2 p 0 i fun _ => some [(pc + 1, A, .inl ((G.1 p 0).1, (G.1 p 0).2, none, none) :: r)])
  | .baload => dp_g (Nat.beq len 1) (ab_1i st fun i r => ab_1r r fun p r => ab_ar G.2 p 1 i fun _ => some [(pc + 1, A, .inl ((G.1 p 0).1, (G.1 p 0).2, none, none) :: r)])
  | .laload => dp_g (Nat.beq len 1) (ab_1i st fun i r => ab_1r r fun p r => ab_ar G.2 p 2 i fun _ => some [(pc + 1, A, .inr (.inr ()) :: r)])
  | .iastore => dp_g (Nat.beq len 1) (ab_1i st fun x r => ab_1i r fun i r => ab_1r r fun p r => ab_ar G.2 p 0 i fun _ => dp_g (ab_w M p && ab_in x (G.1 p 0)) (some [(pc + 1, A, r)]))
  | .bastore => dp_g (Nat.beq len 1) (ab_1i st fun x r => ab_1i r fun i r => ab_1r r fun p r => ab_ar G.2 p 1 i fun _ => dp_g (ab_w M p && (ab_bit x && ab_in x (G.1 p 0))) (some [(pc + 1, A, r)]))
  | .lastore => dp_g (Nat.beq len 1) (ab_1l st fun r => ab_1i r fun i r => ab_1r r fun p r => ab_ar G.2 p 2 i fun _ => dp_g (ab_w M p) (some [(pc + 1, A, r)]))
  | .arraylength => dp_g (Nat.beq len 1) (ab_1r st fun p r => match G.2[p]? with
    | some (.inr (c, n)) => dp_g (Nat.ble (c + 1) 3 && Nat.ble n 1000000) (some [(pc + 1, A, .inl (ab_c (n : Int)) :: r)])
    | _ => none)
  | .invokestatic i => dp_g (Nat.beq len 3) (dp_o (K.2.2.2.1 (3 * i)) fun C => ab_ca G M CT C.1 C.2.1 C.2.2 pc A st)
  | .invokevirtual i => dp_g (Nat.beq len 3) (dp_o (K.2.2.2.1 (3 * i + 1)) fun C => ab_ca G M CT C.1 C.2.1 C.2.2 pc A st)
  | _ => none
/-- an end: the answer is in its range -/
def ab_rt (M : ab_M) (st : List ab_V) (ins : Instr) (len : Nat) : Option Bool := match ins with
  | .ireturn => some (Nat.beq len 1 && (match st, M.2.2.1, M.2.1 with
    | [.inl x], some (.inl r), some .int => ab_in x r
    | [.inl x], some (.inl r), some .boolean => ab_in x r && ab_bit x
    | _, _, _ => false))
  | .lreturn => some (Nat.beq len 1 && (match st, M.2.2.1, M.2.1 with
    | [.inr (.inr _)], some (.inr (.inr _)), some .long => true
    | _, _, _ => false))
  | .return_ => some (Nat.beq len 1 && (match st, M.2.2.1, M.2.1 with
    | [], none, none => true
    | _, _, _ => false))
  | _ => none
/-- loop heads: pc, what is known of the locals there, a measure: terms, each a number, or a number less a local -/
abbrev ab_Tm : Type := Nat ⊕ (Nat × Int)
abbrev ab_H : Type := ab_L × List ab_Tm
abbrev ab_N : Type := List (Nat × ab_H)
def ab_head (pc : Nat) : ab_N → Option ab_H
  | [] => none
  | (q, h) :: t => bif Nat.beq q pc then some h else ab_head pc t
def ab_leV (a b : Option ab_V) : Bool := match b with
  | none => true
  | some (.inl y) => (match a with
    | some (.inl x) => decide (y.1 ≤ x.1) && decide (x.2.1 ≤ y.2.1)
    | _ => false)
  | some (.inr (.inl p)) => (match a with
    | some (.inr (.inl q)) => Nat.beq q p
    | _ => false)
  | some (.inr (.inr _)) => (match a with
    | some (.inr (.inr _)) => true
    | _ => false)
def ab_leL : ab_L → ab_L → Bool
  | _, [] => true
  | [], b :: t => ab_leV none b && ab_leL [] t
  | a :: s, b :: t => ab_leV a b && ab_leL s t
/-- a segment's start: every int local is itself -/
def ab_self (k : Nat) : ab_L → ab_L
  | [] => []
  | some (.inl x) :: t => some (.inl (x.1, x.2.1, some (k, 0), none)) :: ab_self (k + 1) t
  | a :: t => a :: ab_self (k + 1) t
/-- the measure falls from a head's start (its terms) to an arrival (its terms, the locals there) -/
def ab_fall (A : ab_L) : List ab_Tm → List ab_Tm → Bool
  | .inl a :: s, .inl b :: t => bif Nat.beq a b then ab_fall A s t else Nat.ble (b + 1) a && Nat.beq s.length t.length
  | .inr (l, c) :: s, .inr (l', c') :: t => Nat.beq l l' && (decide (c = c') && (match A[l]? with
    | some (some (.inl x)) => (match x.2.2.1 with
      | some (k, d) => Nat.beq k l && (bif decide (d = 0) then ab_fall A s t else decide (1 ≤ d) && Nat.beq s.length t.length)
      | none => false)
    | _ => false))
  | _, _ => false
/-- every term is between 0 and 2 ^ 32 -/
def ab_tok (A : ab_L) (t : ab_Tm) : Bool := match t with
  | .inl a => Nat.ble a 1000000
  | .inr (l, c) => (match A[l]? with
    | some (some (.inl x)) => decide (x.2.1 ≤ c) && (decide (c ≤ 2000000000) && decide (-2000000000 ≤ x.1))
    | _ => false)
def ab_arr (n : Nat) (m0 : Option (List ab_Tm)) (h : ab_H) (a : ab_T) : Bool := a.2.2.isEmpty && (ab_leL a.2.1 h.1 && (Nat.beq h.1.length n && (match m0 with
  | none => true
  | some s => ab_fall a.2.1 s h.2)))
def ab_ex (K : dp_K) (G : ab_G) (M : ab_M) (CT : List ab_C) (tb : List (Nat × Instr × Nat)) (H : ab_N) (m0 : Option (List ab_Tm)) : Nat → ab_T → Bool
  | 0, _ => false
  | n + 1, a => match dp_find a.1 tb with
    | none => false
    | some i => (match ab_rt M a.2.2 i.1 i.2 with
      | some b => b
      | none => (match ab_st K G M CT a.1 a.2.1 a.2.2 i.1 i.2 with
        | none => false
        | some l => l.all (fun a' => match ab_head a'.1 H with
          | some h => ab_arr M.1 m0 h a'
          | none => ab_ex K G M CT tb H m0 n a')))
