/-! summaries, in both -/
def psI (x : Int) : Int := if x < 32 then x else if x < 224 then ((x - 32) % 6 + 1) * 32 + (x - 32) / 6 else x
theorem psi_f (a : Int) : (a < 32 ∧ psi a = a) ∨ ((32 ≤ a ∧ a < 224) ∧ psi a = 32 + 6 * (a % 32) + (a / 32 - 1)) ∨ (224 ≤ a ∧ psi a = a) := by
  unfold psi
  split
  · omega
  · split <;> omega
theorem psI_f (x : Int) : (x < 32 ∧ psI x = x) ∨ ((32 ≤ x ∧ x < 224) ∧ psI x = ((x - 32) % 6 + 1) * 32 + (x - 32) / 6) ∨ (224 ≤ x ∧ psI x = x) := by
  unfold psI
  split
  · omega
  · split <;> omega
theorem psi_psI {x : Int} (x0 : 0 ≤ x) (x1 : x ≤ 251) : psi (psI x) = x ∧ 0 ≤ psI x ∧ psI x ≤ 251 := by
  have h1 := psI_f x
  have h2 := psi_f (psI x)
  omega
theorem psI_psi {a : Int} (a0 : 0 ≤ a) (a1 : a ≤ 251) : psI (psi a) = a ∧ 0 ≤ psi a ∧ psi a ≤ 251 := by
  have h1 := psi_f a
  have h2 := psI_f (psi a)
  omega
def nR (a : Int) : Prop := 0 ≤ a ∧ a ≤ 251
/-- a least closed set, seen with the class's numbers -/
theorem rs_psi {S : Int → Int → Prop} {X : Int → Prop} (hS : ∀ x y, S x y → nR x ∧ nR y) (hX : ∀ x, X x → nR x) {b : Int} (hb : nR b) : rs S X nS (psi b) ↔ rs (fun a c => nR a ∧ nR c ∧ S (psi a) (psi c)) (fun a => nR a ∧ X (psi a)) nS b := by
  constructor
  · intro q C h1 h2
    have r := q (fun x => nR x ∧ C (psI x)) (fun i hi => ?_) (fun i k hi _ hs => ?_)
    · rw [(psI_psi hb.1 hb.2).1] at r
      exact r.2
    · have n := hX i hi
      have p := psi_psI n.1 n.2
      exact ⟨n, h1 _ ⟨p.2, by rw [p.1]; exact hi⟩⟩
    · obtain ⟨n1, n2⟩ := hS i k hs
      have p1 := psi_psI n1.1 n1.2
      have p2 := psi_psI n2.1 n2.2
      exact ⟨n2, h2 _ _ hi.2 id ⟨p1.2, p2.2, by rw [p1.1, p2.1]; exact hs⟩⟩
  · intro q C h1 h2
    exact q (fun a => C (psi a)) (fun i hi => h1 _ hi.2) (fun i k hi _ hs => h2 _ _ hi id hs.2.2)
/-- no edge inside leads from an end of a CALL to a beginning of it -/
theorem iA_v {f : Nat → Int → Int} {l : Nat → Int → Int64} (h : bW f) {a b : Int} (a0 : 128 ≤ a) (a1 : a < 224) (q : iA f l a b) : b = a % 32 := by
  obtain ⟨-, p, y, -, -, q⟩ := (iA_ks h (by omega) (by omega)).mp q
  rcases q with q | ⟨z, q, -⟩ | q | q
  · unfold cCo at q
    omega
  · unfold RDc at q
    omega
  · rcases q with ⟨q, -⟩ | ⟨q, -⟩
    · unfold lkC at q
      omega
    · omega
  · rcases q with ⟨q, -⟩ | ⟨q, -⟩ <;> omega
/-- edges J that hold those of E, that summaries explain, and that are closed: theirs are the least summaries -/
theorem sJ_eq {f : Nat → Int → Int} {E J : Int → Int → Prop} (hv : ∀ a b, 128 ≤ a → a < 224 → E a b → b = a % 32) (c32 : f 1 (4 : Nat) ≤ 32) (h1 : ∀ a b, E a b → J a b) (h2 : ∀ a b, J a b → sE f E (sL f E) a b) (h3 : ∀ i t o, cLl f i → sRg f (f 2 i - 13) t o → rs J (fun a => a = 224 + (f 2 i - 13) * 7 + (4 + t)) nS (224 + (f 2 i - 13) * 7 + (1 + o)) → J ((4 + t) * 32 + i) ((1 + o) * 32 + i)) {i t o : Int} (hc : cLl f i) (hr : sRg f (f 2 i - 13) t o) : J ((4 + t) * 32 + i) ((1 + o) * 32 + i) ↔ sL f E (f 2 i - 13) t o := by
  have c1 := hc.1
  have r1 := hr.2
  constructor
  · intro q
    rcases h2 _ _ q with z | ⟨i', t', o', c, ht, ho, s, e1, e2⟩
    · have := hv _ _ (by omega) (by omega) z
      omega
    · have c2 := c.1
      have ei : i' = i := by omega
      have et : t' = t := by omega
      have eo : o' = o := by omega
      subst ei et eo
      exact s
  · intro q
    refine (q (fun p t o => sRg f p t o ∧ ∀ i, cLl f i → f 2 i - 13 = p → J ((4 + t) * 32 + i) ((1 + o) * 32 + i)) (fun p t o hr l => ⟨hr, fun i hc e => ?_⟩)).2 i hc rfl
    subst e
    refine h3 i t o hc hr (rs_mo (fun a b z => ?_) (fun _ z => z) l)
    rcases z with z | ⟨i', t', o', c, ht, ho, s, e1, e2⟩
    · exact h1 _ _ z
    · rw [e1, e2]
      exact s.2 i' c rfl
