/-! What must hold so that a method goes well, as a Prop that unfolds instruction by instruction: ints are whole numbers, memory a function of place and number. -/
abbrev wk_V : Type := Int ⊕ (Nat ⊕ Int64)
abbrev wk_L : Type := List (Option wk_V)
abbrev wk_M : Type := (Nat → Int → Int) × (Nat → Int → Int64)
def wk_c : wk_V → Value
  | .inl n => .int (Int32.ofInt n)
  | .inr (.inl p) => .ref p
  | .inr (.inr y) => .long y
def wk_v : wk_V → Prop
  | .inl n => ab_lo ≤ n ∧ n ≤ ab_hi
  | .inr _ => True
def wk_sv : List wk_V → Prop
  | [] => True
  | a :: t => wk_v a ∧ wk_sv t
def wk_lv (L : wk_L) : Prop := ∀ (i : Nat) (v : wk_V), L[i]? = some (some v) → wk_v v
def wk_ov : Option wk_V → Prop
  | none => True
  | some v => wk_v v
def wk_lc (L : wk_L) : List (Option Value) := L.map (Option.map wk_c)
def wk_of (μ : sm_M) : wk_M := (fun p i => if i < 0 then 0 else (μ.1 p i.toNat).toInt, fun p i => if i < 0 then 0 else μ.2 p i.toNat)
def wk_u (m : wk_M) (p : Nat) (i v : Int) : wk_M := (fun q j => if q = p ∧ j = i then v else m.1 q j, m.2)
def wk_ul (m : wk_M) (p : Nat) (i : Int) (v : Int64) : wk_M := (m.1, fun q j => if q = p ∧ j = i then v else m.2 q j)
/-- memory under way: what stood, the ints and the longs that were stored since -/
abbrev wk_N : Type := wk_M × List (Nat × (Nat ⊕ Int) × Int) × List (Nat × Int × Int64)
def wk_ix : Nat ⊕ Int → Int
  | .inl k => (k : Nat)
  | .inr i => i
def wk_mu (m : wk_M) : List (Nat × (Nat ⊕ Int) × Int) → wk_M
  | [] => m
  | u :: t => wk_u (wk_mu m t) u.1 (wk_ix u.2.1) u.2.2
def wk_mg (m : wk_M) : List (Nat × Int × Int64) → wk_M
  | [] => m
  | u :: t => wk_ul (wk_mg m t) u.1 u.2.1 u.2.2
def wk_mk (n : wk_N) : wk_M := wk_mg (wk_mu n.1 n.2.1) n.2.2
def wk_cu : List (Nat × (Nat ⊕ Int) × Int) → wk_M → (wk_M → Prop) → Prop
  | [], m, k => k m
  | (p, .inl i, v) :: t, m, k => wk_cu t m (fun m' => k (wk_u m' p (i : Nat) v))
  | (p, .inr i, v) :: t, m, k => wk_cu t m (fun m' => k (wk_u m' p i v))
def wk_cg : List (Nat × Int × Int64) → wk_M → (wk_M → Prop) → Prop
  | [], m, k => k m
  | (p, i, v) :: t, m, k => wk_cg t m (fun m' => k (wk_ul m' p i v))
def wk_co (n : wk_N) (k : wk_M → Prop) : Prop := match n with
  | (m, us, gl) => wk_cu us m (fun m' => wk_cg gl m' k)
/-- the ranges, so that they come out as numbers -/
abbrev wk_R : Type := Nat → Nat → (Int → Int → Prop) → Prop
def wk_fr (W : List Nat) (m' m : wk_M) : Prop := ∀ p, p ∉ W → m'.1 p = m.1 p ∧ m'.2 p = m.2 p
def wk_rg (G : ab_G) (m : wk_M) : Prop := (∀ p (k : Nat), (G.1 p k).1 ≤ m.1 p k ∧ m.1 p k ≤ (G.1 p k).2) ∧ ∀ p c n, G.2[p]? = some (.inr (c, n)) → ∀ i : Int, 0 ≤ i → (G.1 p 0).1 ≤ m.1 p i ∧ m.1 p i ≤ (G.1 p 0).2
def wk_1i (st : List wk_V) (k : Int → List wk_V → Prop) : Prop := match st with
  | .inl x :: r => k x r
  | _ => False
def wk_1l (st : List wk_V) (k : Int64 → List wk_V → Prop) : Prop := match st with
  | .inr (.inr x) :: r => k x r
  | _ => False
def wk_1r (st : List wk_V) (k : Nat → List wk_V → Prop) : Prop := match st with
  | .inr (.inl x) :: r => k x r
  | _ => False
def wk_1v (st : List wk_V) (k : wk_V → List wk_V → Prop) : Prop := match st with
  | x :: r => k x r
  | _ => False
def wk_g (b : Bool) (P : Prop) : Prop := match b with
  | true => P
  | false => False
def wk_o {α : Type} (o : Option α) (k : α → Prop) : Prop := match o with
  | some a => k a
  | none => False
def wk_gt : wk_L → Nat → (wk_V → Prop) → Prop
  | some v :: _, 0, k => k v
  | _ :: t, i + 1, k => wk_gt t i k
  | _, _, _ => False
def wk_st : wk_L → Nat → Option wk_V → (wk_L → Prop) → Prop
  | _ :: t, 0, v, k => k (v :: t)
  | a :: t, i + 1, v, k => wk_st t i v (fun t' => k (a :: t'))
  | _, _, _, _ => False
def wk_tk : Nat → List wk_V → List wk_V → (List wk_V → List wk_V → Prop) → Prop
  | 0, st, acc, k => k acc st
  | n + 1, a :: t, acc, k => wk_tk n t (a :: acc) k
  | _ + 1, [], _, _ => False
def wk_cat : wk_V → Nat
  | .inr (.inr _) => 2
  | _ => 1
def wk_cats : List wk_V → Nat
  | [] => 0
  | a :: t => wk_cat a + wk_cats t
def wk_tg (pc : Nat) (off : Int) (k : Nat → Prop) : Prop := match (pc : Int) + off with
  | .ofNat n => k n
  | .negSucc _ => False
def wk_ar (e : Int) (k : Int → Prop) : Prop := (ab_lo ≤ e ∧ e ≤ ab_hi ∧ k e) ∨ ∀ z, z = (Int32.ofInt e).toInt → ab_lo ≤ z → z ≤ ab_hi → k z
def wk_ex (u : Int32) (k : Int → Prop) : Prop := ∀ z, z = u.toInt → ab_lo ≤ z → z ≤ ab_hi → k z
def wk_br (cn : Jvm.ClassFile.Cond) (x y : Int) (T F : Prop) : Prop := match cn with
  | .eq => (x = y → T) ∧ (¬ x = y → F)
  | .ne => (¬ x = y → T) ∧ (x = y → F)
  | .lt => (x < y → T) ∧ (y ≤ x → F)
  | .ge => (y ≤ x → T) ∧ (x < y → F)
  | .gt => (y < x → T) ∧ (x ≤ y → F)
  | .le => (x ≤ y → T) ∧ (y < x → F)
def wk_ob (sh : sm_S) (p ci : Nat) (k : List (Option (Option Nat)) → Prop) : Prop := match sh[p]? with
  | some (.inl (c, fs)) => wk_g (Nat.beq c ci) (k fs)
  | _ => False
def wk_ai (sh : sm_S) (p kd : Nat) (i : Int) (k : Prop) : Prop := match sh[p]? with
  | some (.inr (c, n)) => wk_g (Nat.beq c kd) (0 ≤ i ∧ i < (n : Int) ∧ k)
  | _ => False
def wk_rd (R : wk_R) (p i : Nat) (x : Int) (k : Prop) : Prop := R p i fun lo hi => lo ≤ x → x ≤ hi → k
def wk_wr (R : wk_R) (p i : Nat) (x : Int) (k : Prop) : Prop := R p i fun lo hi => (lo ≤ x ∧ x ≤ hi) ∧ k
def wk_rF (R : wk_R) (m : wk_M) (p k : Nat) (K : Int → Prop) : List (Nat × (Nat ⊕ Int) × Int) → Prop
  | [] => wk_rd R p k (m.1 p (k : Nat)) (K (m.1 p (k : Nat)))
  | (q, .inl k', v) :: t => match Nat.beq q p with
    | true => (match Nat.beq k' k with
      | true => K v
      | false => wk_rF R m p k K t)
    | false => wk_rF R m p k K t
  | (q, .inr _, _) :: t => match Nat.beq q p with
    | true => False
    | false => wk_rF R m p k K t
def wk_rA (R : wk_R) (m : wk_M) (p : Nat) (i : Int) (K : Int → Prop) : List (Nat × (Nat ⊕ Int) × Int) → Prop
  | [] => wk_rd R p 0 (m.1 p i) (K (m.1 p i))
  | (q, .inr j, v) :: t => match Nat.beq q p with
    | true => (i = j → K v) ∧ (¬ i = j → wk_rA R m p i K t)
    | false => wk_rA R m p i K t
  | (q, .inl _, _) :: t => match Nat.beq q p with
    | true => False
    | false => wk_rA R m p i K t
def wk_rL (m : wk_M) (p : Nat) (i : Int) (K : Int64 → Prop) : List (Nat × Int × Int64) → Prop
  | [] => K (m.2 p i)
  | (q, j, v) :: t => match Nat.beq q p with
    | true => (i = j → K v) ∧ (¬ i = j → wk_rL m p i K t)
    | false => wk_rL m p i K t
/-- a call goes well and ends so that Q -/
def wk_C (cl : List vw_C) (Z : sm_Z) (ys : Nat → MethodName) (wss : Nat → List Cond) (G : ab_G) (l j : Nat) (W : List Nat) (As : List wk_V) (m : wk_M) (Q : Option wk_V → wk_M → Prop) : Prop := ∀ (μ : sm_M) (ad : Nat → Nat), wk_of μ = m → ab_mu G μ → wk_sv As → sm_C cl Z (ys j) (wss j) (dp_rm l (32 * l) G.2 G.2) (As.map wk_c) ad G.2 μ (fun r sh' μ' => sh' = G.2 ∧ ab_mu G μ' ∧ ab_fr W μ' μ ∧ ∃ r', r = Option.map wk_c r' ∧ wk_ov r' ∧ Q r' (wk_of μ'))
abbrev wk_F : Type := Nat → List wk_V → wk_M → (Option wk_V → wk_M → Prop) → Prop
def wk_cl (cl : List vw_C) (Z : sm_Z) (ys : Nat → MethodName) (wss : Nat → List Cond) (G : ab_G) (lvl : Nat) (W : List Nat) : wk_F := fun j As m Q => ∃ (l : Nat) (W' : List Nat), (l + 1 ≤ lvl ∧ ab_sub' W' W = true) ∧ wk_C cl Z ys wss G l j W' As m Q
def wk_rc (sh : sm_S) (rc : Nat) (As : List wk_V) : Bool := match rc with
  | 0 => true
  | ci + 1 => match As with
    | .inr (.inl p) :: _ => (match sh[p]? with
      | some (.inl (c, _)) => Nat.beq c ci
      | _ => false)
    | _ => false
abbrev wk_K : Type := Nat → wk_L → List wk_V → wk_N → Prop
/-- behind a call: either all that it stored is known, or its memory stands as it is -/
def wk_af (n : wk_N) (m m' : wk_M) (k : wk_N → Prop) : Prop := match n with
  | (m0, us, gl) => (∃ us', m' = wk_mu m us' ∧ k (m0, us' ++ us, gl)) ∨ k (m', [], [])
def wk_ca (G : ab_G) (F : wk_F) (C : Nat × Nat × Nat) (pc : Nat) (L : wk_L) (st : List wk_V) (n : wk_N) (k : wk_K) : Prop := match C with
  | (j, na, rc) => wk_tk na st [] fun As r => wk_g (wk_rc G.2 rc As) (wk_g (Nat.ble (wk_cats r) 8) (wk_co n fun m => F j As m fun v m' => match v with
    | none => wk_af n m m' fun n' => k (pc + 3) L r n'
    | some a => wk_af n m m' fun n' => k (pc + 3) L (a :: r) n'))
/-- a table: each value its target -/
def wk_tb (pc : Nat) (x : Int) (k : Nat → Prop) : Int → List Int → Prop
  | _, [] => True
  | lo, o :: t => (x = lo → wk_tg pc o k) ∧ wk_tb pc x k (lo + 1) t
/-- one instruction -/
def wk_in (K : dp_K) (G : ab_G) (R : wk_R) (nl : Nat) (ret : Option FieldType) (W : List Nat) (F : wk_F) (fin : Option wk_V → wk_M → Prop) (pc : Nat) (L : wk_L) (st : List wk_V) (n : wk_N) (ins : Instr) (len : Nat) (k : wk_K) : Prop := match ins with
  | .iadd => wk_g (Nat.beq len 1) (wk_1i st fun y r => wk_1i r fun x r => wk_ar (x + y) fun z => k (pc + 1) L (.inl z :: r) n)
  | .isub => wk_g (Nat.beq len 1) (wk_1i st fun y r => wk_1i r fun x r => wk_ar (x - y) fun z => k (pc + 1) L (.inl z :: r) n)
  | .imul => wk_g (Nat.beq len 1) (wk_1i st fun y r => wk_1i r fun x r => wk_ar (x * y) fun z => k (pc + 1) L (.inl z :: r) n)
  | .iand => wk_g (Nat.beq len 1) (wk_1i st fun y r => wk_1i r fun x r => wk_ex (Int32.ofInt x &&& Int32.ofInt y) fun z => (0 ≤ y → 0 ≤ z ∧ z ≤ y) → (0 ≤ x → 0 ≤ z ∧ z ≤ x) → k (pc + 1) L (.inl z :: r) n)
  | .ior => wk_g (Nat.beq len 1) (wk_1i st fun y r => wk_1i r fun x r => wk_ex (Int32.ofInt x ||| Int32.ofInt y) fun z => (0 ≤ x → x ≤ 1 → 0 ≤ y → y ≤ 1 → 0 ≤ z ∧ z ≤ 1) → k (pc + 1) L (.inl z :: r) n)
  | .ishr => wk_g (Nat.beq len 1) (wk_1i st fun y r => wk_1i r fun x r => wk_ex (Int32.ofInt x >>> (Int32.ofInt y &&& 31)) fun z => (y = 6 → 0 ≤ x → x ≤ 1023 → z = x / 64) → k (pc + 1) L (.inl z :: r) n)
  | .ixor => wk_g (Nat.beq len 1) (wk_1i st fun y r => wk_1i r fun x r => wk_ex (Int32.ofInt x ^^^ Int32.ofInt y) fun z => k (pc + 1) L (.inl z :: r) n)
  | .ishl => wk_g (Nat.beq len 1) (wk_1i st fun y r => wk_1i r fun x r => wk_ex (Int32.ofInt x <<< (Int32.ofInt y &&& 31)) fun z => k (pc + 1) L (.inl z :: r) n)
  | .iushr => wk_g (Nat.beq len 1) (wk_1i st fun y r => wk_1i r fun x r => wk_ex (((Int32.ofInt x).toUInt32 >>> ((Int32.ofInt y).toUInt32 &&& Int32.toUInt32 31)).toInt32) fun z => k (pc + 1) L (.inl z :: r) n)
  | .idiv => wk_g (Nat.beq len 1) (wk_1i st fun y r => wk_1i r fun x r => (0 ≤ x ∧ 0 < y ∧ (0 ≤ x / y → x / y ≤ x → k (pc + 1) L (.inl (x / y) :: r) n)) ∨ (¬ y = 0 ∧ wk_ex (Int32.ofInt x / Int32.ofInt y) fun z => k (pc + 1) L (.inl z :: r) n))
  | .irem => wk_g (Nat.beq len 1) (wk_1i st fun y r => wk_1i r fun x r => (0 ≤ x ∧ 0 < y ∧ (0 ≤ x % y → x % y < y → k (pc + 1) L (.inl (x % y) :: r) n)) ∨ (¬ y = 0 ∧ wk_ex (Int32.ofInt x - Int32.ofInt x / Int32.ofInt y * Int32.ofInt y) fun z => k (pc + 1) L (.inl z :: r) n))
  | .ineg => wk_g (Nat.beq len 1) (wk_1i st fun x r => wk_ar (-x) fun z => k (pc + 1) L (.inl z :: r) n)
  | .land => wk_g (Nat.beq len 1) (wk_1l st fun y r => wk_1l r fun x r => k (pc + 1) L (.inr (.inr (x &&& y)) :: r) n)
  | .lor => wk_g (Nat.beq len 1) (wk_1l st fun y r => wk_1l r fun x r => k (pc + 1) L (.inr (.inr (x ||| y)) :: r) n)
  | .lxor => wk_g (Nat.beq len 1) (wk_1l st fun y r => wk_1l r fun x r => k (pc + 1) L (.inr (.inr (x ^^^ y)) :: r) n)
  | .ladd => wk_g (Nat.beq len 1) (wk_1l st fun y r => wk_1l r fun x r => k (pc + 1) L (.inr (.inr (x + y)) :: r) n)
  | .lsub => wk_g (Nat.beq len 1) (wk_1l st fun y r => wk_1l r fun x r => k (pc + 1) L (.inr (.inr (x - y)) :: r) n)
  | .lshl => wk_g (Nat.beq len 1) (wk_1i st fun y r => wk_1l r fun x r => k (pc + 1) L (.inr (.inr (x <<< ((Int32.ofInt y).toInt64 &&& 63))) :: r) n)
  | .lshr => wk_g (Nat.beq len 1) (wk_1i st fun y r => wk_1l r fun x r => k (pc + 1) L (.inr (.inr (x >>> ((Int32.ofInt y).toInt64 &&& 63))) :: r) n)
  | .lushr => wk_g (Nat.beq len 1) (wk_1i st fun y r => wk_1l r fun x r => k (pc + 1) L (.inr (.inr (x.toUInt64 >>> ((Int32.ofInt y).toInt64.toUInt64 &&& Int64.toUInt64 63)).toInt64) :: r) n)
  | .lcmp => wk_g (Nat.beq len 1) (wk_1l st fun y r => wk_1l r fun x r => ∀ z, z = (lg_cmp x y).toInt → -1 ≤ z → z ≤ 1 → k (pc + 1) L (.inl z :: r) n)
  | .i2l => wk_g (Nat.beq len 1) (wk_1i st fun x r => k (pc + 1) L (.inr (.inr (Int32.ofInt x).toInt64) :: r) n)
  | .l2i => wk_g (Nat.beq len 1) (wk_1l st fun x r => wk_ex x.toInt32 fun z => k (pc + 1) L (.inl z :: r) n)
  | .iconst i => wk_g (Nat.beq len 1 && (decide (-128 ≤ i) && decide (i ≤ 127))) (k (pc + 1) L (.inl i :: st) n)
  | .bipush i => wk_g (Nat.beq len 2 && (decide (-128 ≤ i) && decide (i ≤ 127))) (k (pc + 2) L (.inl i :: st) n)
  | .sipush i => wk_g (Nat.beq len 3 && (decide (-32768 ≤ i) && decide (i ≤ 32767))) (k (pc + 3) L (.inl i :: st) n)
  | .lconst i => wk_g (Nat.beq len 1) (k (pc + 1) L (.inr (.inr (Int64.ofNat (i : Nat))) :: st) n)
  | .ldc i => wk_g (Nat.beq len 2) (wk_o (K.2.1 i) fun v => wk_ex v fun z => k (pc + 2) L (.inl z :: st) n)
  | .ldc2_w i => wk_g (Nat.beq len 3) (wk_o (K.2.2.1 i) fun v => k (pc + 3) L (.inr (.inr v) :: st) n)
  | .dup => wk_g (Nat.beq len 1) (wk_1v st fun a r => wk_g (Nat.beq (wk_cat a) 1) (k (pc + 1) L (a :: a :: r) n))
  | .pop => wk_g (Nat.beq len 1) (wk_1v st fun a r => wk_g (Nat.beq (wk_cat a) 1) (k (pc + 1) L r n))
  | .dup_x1 => wk_g (Nat.beq len 1) (wk_1v st fun a r => wk_1v r fun b r => wk_g (Nat.beq (wk_cat a) 1 && Nat.beq (wk_cat b) 1) (k (pc + 1) L (a :: b :: a :: r) n))
  | .dup2 => wk_g (Nat.beq len 1) (wk_1v st fun a r => wk_1v r fun b r => wk_g (Nat.beq (wk_cat a) 1 && Nat.beq (wk_cat b) 1) (k (pc + 1) L (a :: b :: a :: b :: r) n))
  | .iload i => wk_g (Nat.beq len 2) (wk_gt L i fun v => match v with
    | .inl x => k (pc + 2) L (.inl x :: st) n
    | _ => False)
  | .lload i => wk_g (Nat.beq len 2) (wk_gt L i fun v => match v with
    | .inr (.inr x) => k (pc + 2) L (.inr (.inr x) :: st) n
    | _ => False)
  | .aload i => wk_g (Nat.beq len 2) (wk_gt L i fun v => match v with
    | .inr (.inl x) => k (pc + 2) L (.inr (.inl x) :: st) n
    | _ => False)
  | .istore i => wk_g (Nat.beq len 2) (wk_1i st fun x r => wk_g (sm_ah (wk_lc L) i) (wk_st L i (some (.inl x)) fun L' => k (pc + 2) L' r n))
  | .astore i => wk_g (Nat.beq len 2) (wk_1r st fun x r => wk_g (sm_ah (wk_lc L) i) (wk_st L i (some (.inr (.inl x))) fun L' => k (pc + 2) L' r n))
  | .lstore i => wk_g (Nat.beq len 2) (wk_1l st fun x r => wk_g (sm_ah (wk_lc L) i) (wk_st L i (some (.inr (.inr x))) fun L1 => wk_st L1 (i + 1) none fun L' => k (pc + 2) L' r n))
  | .iload_n i => wk_g (Nat.beq len 1) (wk_gt L (i : Nat) fun v => match v with
    | .inl x => k (pc + 1) L (.inl x :: st) n
    | _ => False)
  | .lload_n i => wk_g (Nat.beq len 1) (wk_gt L (i : Nat) fun v => match v with
    | .inr (.inr x) => k (pc + 1) L (.inr (.inr x) :: st) n
    | _ => False)
  | .aload_n i => wk_g (Nat.beq len 1) (wk_gt L (i : Nat) fun v => match v with
    | .inr (.inl x) => k (pc + 1) L (.inr (.inl x) :: st) n
    | _ => False)
  | .istore_n i => wk_g (Nat.beq len 1) (wk_1i st fun x r => wk_g (sm_ah (wk_lc L) (i : Nat)) (wk_st L (i : Nat) (some (.inl x)) fun L' => k (pc + 1) L' r n))
  | .astore_n i => wk_g (Nat.beq len 1) (wk_1r st fun x r => wk_g (sm_ah (wk_lc L) (i : Nat)) (wk_st L (i : Nat) (some (.inr (.inl x))) fun L' => k (pc + 1) L' r n))
  | .lstore_n i => wk_g (Nat.beq len 1) (wk_1l st fun x r => wk_g (sm_ah (wk_lc L) (i : Nat)) (wk_st L (i : Nat) (some (.inr (.inr x))) fun L1 => wk_st L1 ((i : Nat) + 1) none fun L' => k (pc + 1) L' r n))
  | .iinc i z => wk_g (Nat.beq len 3) (wk_gt L i fun v => match v with
    | .inl x => wk_ar (x + z) fun y => wk_g (sm_ah (wk_lc L) i) (wk_st L i (some (.inl y)) fun L' => k (pc + 3) L' st n)
    | _ => False)
  | .goto off => wk_g (Nat.beq len 3) (wk_tg pc off fun t => k t L st n)
  | .ifCond cn off => wk_g (Nat.beq len 3) (wk_1i st fun x r => wk_tg pc off fun t => wk_br cn x 0 (k t L r n) (k (pc + 3) L r n))
  | .if_icmp cn off => wk_g (Nat.beq len 3) (wk_1i st fun y r => wk_1i r fun x r => wk_tg pc off fun t => wk_br cn x y (k t L r n) (k (pc + 3) L r n))
  | .tableswitch dflt lo hi offs => wk_1i st fun x r => wk_g (decide (hi = lo + (offs.size : Int) - 1)) (wk_tb pc x (fun t => k t L r n) lo offs.toList ∧ (x < lo ∨ hi < x → wk_tg pc dflt fun t => k t L r n))
  | .getfield i => wk_g (Nat.beq len 3) (wk_1r st fun p r => wk_o (K.1 i) fun F => match F with
    | (ci, kf, _) => wk_ob G.2 p ci fun fs => match fs[kf]? with
      | some none => (match n with
        | (m, us, gl) => wk_rF R m p kf (fun x => k (pc + 3) L (.inl x :: r) (m, us, gl)) us)
      | some (some (some q)) => k (pc + 3) L (.inr (.inl q) :: r) n
      | _ => False)
  | .putfield i => wk_g (Nat.beq len 3) (wk_1i st fun x r => wk_1r r fun p r => wk_o (K.1 i) fun F => match F with
    | (ci, kf, fl) => wk_ob G.2 p ci fun fs => match fs[kf]? with
      | some none => wk_g (W.any fun q => Nat.beq p q) (wk_wr R p kf x (match fl with
        | 0 => (match n with
          | (m, us, gl) => k (pc + 3) L r (m, (p, .inl kf, x) :: us, gl))
        | 1 => (0 ≤ x ∧ x ≤ 1) ∧ (match n with
          | (m, us, gl) => k (pc + 3) L r (m, (p, .inl kf, x) :: us, gl))
        | _ => False))
      | _ => False)
  | .iaload => wk_g (Nat.beq len 1) (wk_1i st fun i r => wk_1r r fun p r => wk_ai G.2 p 0 i (match n with
    | (m, us, gl) => wk_rA R m p i (fun x => k (pc + 1) L (.inl x :: r) (m, us, gl)) us))
  | .baload => wk_g (Nat.beq len 1) (wk_1i st fun i r => wk_1r r fun p r => wk_ai G.2 p 1 i (match n with
    | (m, us, gl) => wk_rA R m p i (fun x => k (pc + 1) L (.inl x :: r) (m, us, gl)) us))
  | .laload => wk_g (Nat.beq len 1) (wk_1i st fun i r => wk_1r r fun p r => wk_ai G.2 p 2 i (match n with
    | (m, us, gl) => wk_rL m p i (fun x => k (pc + 1) L (.inr (.inr x) :: r) (m, us, gl)) gl))
  | .iastore => wk_g (Nat.beq len 1) (wk_1i st fun x r => wk_1i r fun i r => wk_1r r fun p r => wk_ai G.2 p 0 i (wk_g (W.any fun q => Nat.beq p q) (wk_wr R p 0 x (match n with
    | (m, us, gl) => k (pc + 1) L r (m, (p, .inr i, x) :: us, gl)))))
  | .bastore => wk_g (Nat.beq len 1) (wk_1i st fun x r => wk_1i r fun i r => wk_1r r fun p r => wk_ai G.2 p 1 i (wk_g (W.any fun q => Nat.beq p q) (wk_wr R p 0 x ((0 ≤ x ∧ x ≤ 1) ∧ (match n with
    | (m, us, gl) => k (pc + 1) L r (m, (p, .inr i, x) :: us, gl))))))
  | .lastore => wk_g (Nat.beq len 1) (wk_1l st fun x r => wk_1i r fun i r => wk_1r r fun p r => wk_ai G.2 p 2 i (wk_g (W.any fun q => Nat.beq p q) (match n with
    | (m, us, gl) => k (pc + 1) L r (m, us, (p, i, x) :: gl))))
  | .arraylength => wk_g (Nat.beq len 1) (wk_1r st fun p r => match G.2[p]? with
    | some (.inr (c, ln)) => wk_g (Nat.ble (c + 1) 3 && Nat.ble ln 1000000) (k (pc + 1) L (.inl (ln : Int) :: r) n)
    | _ => False)
  | .invokestatic i => wk_g (Nat.beq len 3) (wk_o (K.2.2.2.1 (3 * i)) fun C => wk_ca G F C pc L st n k)
  | .invokevirtual i => wk_g (Nat.beq len 3) (wk_o (K.2.2.2.1 (3 * i + 1)) fun C => wk_ca G F C pc L st n k)
  | .ireturn => wk_g (Nat.beq len 1) (match st, ret with
    | [.inl x], some .int => wk_co n fun m => fin (some (.inl x)) m
    | [.inl x], some .boolean => (0 ≤ x ∧ x ≤ 1) ∧ wk_co n fun m => fin (some (.inl x)) m
    | _, _ => False)
  | .lreturn => wk_g (Nat.beq len 1) (match st, ret with
    | [.inr (.inr x)], some .long => wk_co n fun m => fin (some (.inr (.inr x))) m
    | _, _ => False)
  | .return_ => wk_g (Nat.beq len 1) (match st, ret with
    | [], none => wk_co n fun m => fin none m
    | _, _ => False)
  | _ => False
abbrev wk_H : Type := Nat × List (Nat × Nat) × (List Int → List Int64 → wk_M → Prop) × (List Int → List Int64 → wk_M → Nat)
def wk_hd (pc : Nat) : List wk_H → Option wk_H
  | [] => none
  | h :: t => bif Nat.beq h.1 pc then some h else wk_hd pc t
/-- the locals as a head wants them -/
def wk_pk : List (Nat × Nat) → wk_L → (List Int → List Int64 → Prop) → Prop
  | [], [], k => k [] []
  | (0, _) :: t, _ :: L, k => wk_pk t L k
  | (1, _) :: t, some (.inl x) :: L, k => wk_pk t L (fun vs ls => k (x :: vs) ls)
  | (2, _) :: t, some (.inr (.inr y)) :: L, k => wk_pk t L (fun vs ls => k vs (y :: ls))
  | (_ + 3, q) :: t, some (.inr (.inl p)) :: L, k => wk_g (Nat.beq p q) (wk_pk t L k)
  | _, _, _ => False
/-- a head's start -/
def wk_sp : List (Nat × Nat) → (wk_L → List Int → List Int64 → Prop) → Prop
  | [], k => k [] [] []
  | (0, _) :: t, k => wk_sp t (fun L vs ls => k (none :: L) vs ls)
  | (1, _) :: t, k => ∀ x : Int, ab_lo ≤ x → x ≤ ab_hi → wk_sp t (fun L vs ls => k (some (.inl x) :: L) (x :: vs) ls)
  | (2, _) :: t, k => ∀ y : Int64, wk_sp t (fun L vs ls => k (some (.inr (.inr y)) :: L) vs (y :: ls))
  | (_ + 3, q) :: t, k => wk_sp t (fun L vs ls => k (some (.inr (.inl q)) :: L) vs ls)
def wk_find (pc : Nat) (k : Nat → Instr → Nat → Prop) : List (Nat × Instr × Nat) → Prop
  | [] => False
  | (q, i, n) :: t => match Nat.beq q pc with
    | true => k q i n
    | false => wk_find pc k t
def wk (K : dp_K) (G : ab_G) (R : wk_R) (nl : Nat) (ret : Option FieldType) (W : List Nat) (F : wk_F) (fin : Option wk_V → wk_M → Prop) (tb : List (Nat × Instr × Nat)) (HD : List wk_H) (lt : Nat → Prop) : Nat → Nat → wk_L → List wk_V → wk_N → Prop
  | 0, _, _, _, _ => False
  | n + 1, pc, L, st, m => wk_find pc (fun q ins len => wk_in K G R nl ret W F fin q L st m ins len (fun pc' L' st' m' => match wk_hd pc' HD with
    | some h => (match st' with
      | [] => wk_co m' fun m1 => wk_pk h.2.1 L' (fun vs ls => h.2.2.1 vs ls m1 ∧ lt (h.2.2.2 vs ls m1))
      | _ => False)
    | none => wk K G R nl ret W F fin tb HD lt n pc' L' st' m')) tb
