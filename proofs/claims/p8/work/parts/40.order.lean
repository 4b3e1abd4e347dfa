/-! the ranges of all ints of both systems; contracts in order, each by computation over those before it -/
def rT : Int × Int := (ab_lo, ab_hi)
def rg_o (p i : Nat) : Int × Int := match p with
  | 0 => (0, 1)
  | 1 => (match i with
    | 4 => (0, 32)
    | 11 => (0, 4)
    | _ => (0, 4))
  | 25 => (0, 252)
  | 28 => (match i with
    | 7 => (-1, 6)
    | 8 => (0, 32)
    | 9 => (0, 600)
    | 10 => (0, 600)
    | 12 => (-1, 31)
    | 13 => (0, 3)
    | 14 => (0, 1)
    | _ => rT)
  | 29 => (0, 1000000)
  | 38 => (1, 5)
  | 44 => (match i with
    | 1 => (0, 1)
    | 2 => (0, 1)
    | _ => (0, 31))
  | 46 => (match i with
    | 0 => (0, 32)
    | 5 => (0, 1)
    | 6 => (0, 4)
    | 20 => (0, 2)
    | 21 => (0, 31)
    | 24 => (0, 1)
    | 25 => (0, 600)
    | 26 => (0, 7)
    | 30 => (0, 1000000)
    | 34 => (1, 5)
    | _ => rT)
  | _ => rT
def rg_a (p : Nat) : Int × Int := match p with
  | 2 => (0, 18)
  | 6 => (-1, 31)
  | 7 => (-1, 31)
  | 8 => (-1, 31)
  | 9 => (0, 3)
  | 10 => (0, 32)
  | 11 => (0, 32)
  | 12 => (0, 31)
  | 27 => (0, 251)
  | 32 => (0, 1000000)
  | 36 => (0, 3)
  | 37 => (-1, 31)
  | 40 => (0, 4)
  | 41 => (0, 4)
  | 47 => (0, 18)
  | 51 => (0, 32)
  | 52 => (0, 32)
  | 53 => (0, 3)
  | 54 => (-1, 31)
  | 55 => (-1, 31)
  | 56 => (-1, 31)
  | 57 => (0, 31)
  | 58 => (0, 31)
  | 67 => (0, 31)
  | 70 => (0, 1000000)
  | 72 => (0, 1)
  | 73 => (0, 4)
  | 74 => (0, 4)
  | _ => rT
def rg (p i : Nat) : Int × Int := match ev_s2[p]? with
  | some (.inl _) => rg_o p i
  | _ => rg_a p
def rG : ab_G := (rg, ev_s2)
theorem rG_ok : ab_Gok rG := by
  intro p c n h i
  have h : ev_s2[p]? = some (.inr (c, n)) := h
  show rg p i = rg p 0
  unfold rg
  rw [h]
def ab_E (CT : List ab_C) (e : ab_C) (H : ab_N) : Bool := match dp_lk tb_rec e.1 with
  | some (K, M) => ab_chk K rG (M.2.1, M.2.2.1, e.2.2.2.1, e.2.1, e.2.2.2.2) CT M.1 H e.2.2.1
  | none => false
theorem ab_E_ok {Z : sm_Z} (hZ : Z.2.2.2 = tb_N) {CT : List ab_C} (hCT : ∀ e ∈ CT, ab_ok tb_cl Z tb_ys tb_ws rG e) {e : ab_C} {H : ab_N} (h : ab_E CT e H = true) : ab_ok tb_cl Z tb_ys tb_ws rG e := by
  unfold ab_E at h
  split at h
  · rename_i K M he
    obtain ⟨g1, g2, g3, g4, g5⟩ := tb_rec_ok _ (dp_lk_mem he)
    simp only at g1 g2 g3 g4 g5
    intro As ad μ ha hm
    rw [g3]
    exact ab_meth (M := (M.2.1, M.2.2.1, e.2.2.2.1, e.2.1, e.2.2.2.2)) rG_ok g2 (hZ ▸ g1) hCT g4 h As ad μ ha hm
  · cases h
def ab_all : List (ab_C × ab_N) → List ab_C → Bool
  | [], _ => true
  | x :: t, CT => ab_E CT x.1 x.2 && ab_all t (x.1 :: CT)
theorem ab_all_ok {Z : sm_Z} (hZ : Z.2.2.2 = tb_N) : ∀ {l : List (ab_C × ab_N)} {CT : List ab_C}, (∀ e ∈ CT, ab_ok tb_cl Z tb_ys tb_ws rG e) → ab_all l CT = true → ∀ x ∈ l, ab_ok tb_cl Z tb_ys tb_ws rG x.1
  | [], _, _, _, x, hx => absurd hx List.not_mem_nil
  | y :: t, CT, hCT, h, x, hx => by
    unfold ab_all at h
    rw [Bool.and_eq_true] at h
    have hy := ab_E_ok hZ hCT h.1
    rcases List.mem_cons.mp hx with e | hx
    · rw [e]; exact hy
    · refine ab_all_ok hZ (fun e he => ?_) h.2 x hx
      rcases List.mem_cons.mp he with e2 | he
      · rw [e2]; exact hy
      · exact hCT e he
def iT : ab_A := .inl rT
def iR (a b : Int) : ab_A := .inl (a, b)
def pR (p : Nat) : ab_A := .inr (.inl p)
def vI (a b : Int) : Option ab_V := some (.inl (a, b, none, none))
def vT : Option ab_V := some (.inl ab_top)
def vR (p : Nat) : Option ab_V := some (.inr (.inl p))
/-- the class's Order -/
def mo_order : List (ab_C × ab_N) := [
  ((67, 1, [iT, iT], some (iR 0 1), []), []),
  ((83, 1, [pR 38, iT], some (iR 0 1), []), []),
  ((85, 2, [pR 38, iR 0 4, iT], some (iR 0 1), []), []),
  ((93, 1, [pR 38], some (iR (-1) 4), []), [(11, [vR 38, vT, vI 0 5], [.inr (2, 5)])]),
  ((84, 3, [pR 38, iR 0 4, iR 0 4], none, [39]), [(2, [vR 38, vI 0 4, vI 0 4, vI 0 5], [.inr (3, 5)])]),
  ((92, 2, [pR 38, iT], some (iR 0 1), []), [(2, [vR 38, vT, vI 0 5], [.inr (2, 5)])]),
  ((90, 3, [pR 38], some (iR 0 1), []), [(2, [vR 38, vI 0 5, none], [.inr (1, 5), .inl 1, .inl 0]), (12, [vR 38, vI 0 4, vI 0 5], [.inr (1, 5), .inl 0, .inr (2, 5)])]),
  ((91, 3, [pR 38], some (iR 0 1), []), [(2, [vR 38, vI 0 5, none], [.inr (1, 5), .inl 1, .inl 0]), (12, [vR 38, vI 0 4, vI 0 5], [.inr (1, 5), .inl 0, .inr (2, 5)])]),
  ((89, 4, [pR 38], some (iR 0 3), []), []),
  ((87, 1, [pR 38, iR 0 1, iR 0 3, iR 0 4], none, [40, 41]), []),
  ((139, 1, [pR 38, iR 0 3], some (iR 0 4), []), [])]
theorem mo_order_ok : ab_all mo_order [] = true := by decide +kernel
