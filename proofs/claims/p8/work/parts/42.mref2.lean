def vL : Option ab_V := some (.inr (.inr ()))
def pL : ab_A := .inr (.inr ())
/-- the reference: ways, what depends on what but data -/
def mo_ref2 : List (ab_C × ab_N) := [
  ((150, 2, [pR 46, iR 0 35, iR 0 1], some (iR (-1) 35), []), []),
  ((163, 3, [pR 46, pL, iT], some pL, []), [(6, [vR 46, vL, none, vT, vL, none, vI 0 36, none, none, none], [.inr (6, 36), .inl 1, .inl 0]), (16, [vR 46, vL, none, vT, vL, none, vI 0 35, vI 0 32, none, none], [.inr (6, 36), .inl 0, .inr (7, 32)])]),
  ((165, 4, [pR 46, iT, iR 0 35, iR 0 35], some (iR 0 1), []), []),
  ((162, 4, [pR 46, iT, iR 0 3, iR 0 35], some (iR 0 1), []), []),
  ((157, 2, [pR 46, iR 0 251, iR 0 251], some (iR 0 1), []), []),
  ((161, 2, [pR 46, iR 0 251, iT], some (iR 0 1), []), []),
  ((166, 2, [pR 46, iR 0 251, iR 0 251], some (iR 0 1), []), []),
  ((168, 2, [pR 46, iR 0 251, iR 0 251], some (iR 0 1), []), [])]
def mo_ct1 : List ab_C := (mo_ref1.map (fun x => x.1)).reverse
theorem mo_w150 : ab_E mo_ct1 (150, 2, [pR 46, iR 0 35, iR 0 1], some (iR (-1) 35), []) [] = true := by decide +kernel
theorem mo_w157 : ab_E mo_ct1 (157, 2, [pR 46, iR 0 251, iR 0 251], some (iR 0 1), []) [] = true := by decide +kernel
theorem mo_w161 : ab_E mo_ct1 (161, 2, [pR 46, iR 0 251, iT], some (iR 0 1), []) [] = true := by decide +kernel
theorem mo_w166 : ab_E mo_ct1 (166, 2, [pR 46, iR 0 251, iR 0 251], some (iR 0 1), []) [] = true := by decide +kernel
theorem mo_w168 : ab_E mo_ct1 (168, 2, [pR 46, iR 0 251, iR 0 251], some (iR 0 1), []) [] = true := by decide +kernel
theorem mo_ref2_ok : ab_all mo_ref2 mo_ct1 = true := by decide +kernel
