/-- the reference: what reads, and its levels -/
def mo_ref1 : List (ab_C × ab_N) := [
  ((144, 1, [iT], some (iR 0 1), []), []),
  ((148, 1, [pR 46, iR 0 31], some (iR 0 1), []), []),
  ((197, 1, [pR 46, iT], some (iR 0 1), []), []),
  ((200, 1, [pR 46, iR 0 4, iR 0 4], some (iR 0 1), []), []),
  ((201, 2, [pR 46, iR 0 4, iR 0 4, iR 0 4], some (iR 0 1), []), [(28, [vR 46, vI 0 4, vI 0 4, vI 0 4, vI 0 1, vI 0 5], [.inr (5, 5)])]),
  ((202, 2, [pR 46], some (iR (-1) 4), []), [(2, [vR 46, vI 0 5, none, none], [.inr (1, 5), .inl 1, .inl 0]), (14, [vR 46, vI 0 4, vI 0 1, vI 0 5], [.inr (1, 5), .inl 0, .inr (3, 5)])]),
  ((199, 3, [pR 46], some (iR 0 3), []), [(4, [vR 46, vI 0 1, vI 0 5, none, none, none], [.inr (2, 5), .inl 2, .inl 0, .inl 0, .inl 0]), (14, [vR 46, vI 0 1, vI 0 4, vI 0 5, none, none], [.inr (2, 5), .inl 1, .inr (3, 5), .inl 1, .inl 0]), (53, [vR 46, vI 0 1, vI 0 4, vI 0 4, vI 0 1, vI 0 5], [.inr (2, 5), .inl 1, .inr (3, 5), .inl 0, .inr (5, 5)])]),
  ((160, 1, [iR 0 251], some (iR (-1) 5), []), []),
  ((159, 1, [iR 0 251], some (iR (-1) 6), []), []),
  ((156, 1, [iR 0 251], some (iR 0 35), []), []),
  ((156, 1, [iR 0 223], some (iR 0 31), []), []),
  ((155, 2, [pR 46, iR 0 251], some (iR 0 3), []), []),
  ((154, 2, [pR 46, iT], some (iR 0 1), []), []),
  ((151, 1, [pR 46, iR (-1) 31, iR 0 3], some (iR 0 35), []), []),
  ((167, 1, [pR 46, iR 0 35, iR 0 35], some (iR 0 1), []), []),
  ((164, 2, [pR 46, iR 0 35, iT], some (iR 0 1), []), []),
  ((173, 1, [pR 63, iR 0 0, iR 0 251], some (iR 0 1), []), []),
  ((173, 1, [pR 64, iR 0 0, iR 0 251], some (iR 0 1), []), []),
  ((173, 1, [pR 60, iR 0 251, iR 0 251], some (iR 0 1), []), []),
  ((169, 1, [pR 63, iR 0 0, iR 0 251], none, [63]), []),
  ((169, 1, [pR 60, iR 0 251, iR 0 251], none, [60]), []),
  ((169, 1, [pR 61, iR 0 251, iR 0 251], none, [61]), []),
  ((169, 1, [pR 62, iR 0 251, iR 0 251], none, [62]), []),
  ((171, 2, [pR 46, iR 0 251], none, [63]), [(2, [vR 46, vI 0 251, vI 0 4], [.inr (2, 4)])]),
  ((179, 2, [pR 46, pR 64], some iT, []), [(4, [vR 46, vR 64, vT, vI 0 32], [.inr (3, 32)])]),
  ((182, 2, [pR 46, iT], some (iR 0 1), []), []),
  ((192, 1, [pR 46], some (iR (-1) 600), []), [])]
def mo_bad : List (ab_C × ab_N) → List ab_C → List (Nat × Nat)
  | [], _ => []
  | x :: t, CT => bif ab_E CT x.1 x.2 then mo_bad t (x.1 :: CT) else (x.1.1, x.1.2.1) :: mo_bad t (x.1 :: CT)
theorem mo_ref1_bad : mo_bad mo_ref1 [] = [] := by decide +kernel
