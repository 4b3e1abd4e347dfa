/-! the reference's slices -/
def rQ (fw : Int) : Nat := if fw = 0 then 61 else 62
def rQ' (fw : Int) : Nat := if fw = 0 then 62 else 61
def rS1 (l : Nat → Int → Int64) (fw n c : Int) : Prop := rs (flQ fw l 60 (rQ fw)) (fun x => nR x ∧ x = n) nS c
def rSl (l : Nat → Int → Int64) (fw n c : Int) : Prop := rs (flQ fw l 60 (rQ' fw)) (fun x => nR x ∧ rS1 l fw n x) nS c
theorem flQ_sm {l l' : Nat → Int → Int64} {P Q : Nat} (e1 : l' P = l P) (e2 : l' Q = l Q) (b : Int) : flQ b l' P Q = flQ b l P Q := by
  funext c d
  unfold flQ flR rwB
  rw [e1, e2]
theorem rsl_fin {l l1 l2 l3 : Nat → Int → Int64} {fw b b' n : Int} {P Q : Nat} (hb : b = 0 ↔ fw = 0) (hb' : b' = 0 ↔ fw = 0) (eP : P = rQ fw) (eQ : Q = rQ' fw) (e1 : ∀ p, p ∈ ([60, P, Q] : List Nat) → l1 p = l p) (e2 : ∀ p, p ∈ ([60, P, Q] : List Nat) → l2 p = l1 p) (h1 : ∀ a, 0 ≤ a → a ≤ 255 → (rwB l1 63 0 a ↔ a = n)) (h2 : ∀ c, flX l2 c ↔ rs (flQ b l1 60 P) (flX l1) nS c) (h3 : ∀ c, flX l3 c ↔ rs (flQ b' l2 60 Q) (flX l2) nS c) : ∀ c, flX l3 c ↔ rSl l fw n c := by
  intro c
  have fb : ∀ (x : Int) (l : Nat → Int → Int64) (P Q : Nat) (c d : Int), (x = 0 ↔ fw = 0) → (flQ x l P Q c d ↔ flQ fw l P Q c d) := by
    intro x l P Q c d hx
    unfold flQ
    rw [hx]
  rw [h3 c]
  unfold rSl
  rw [← eQ]
  refine rs_iff (fun x y => ?_) (fun x => ?_) (fun _ => Iff.rfl) c
  · rw [fb _ _ _ _ _ _ hb', flQ_sm ((e2 60 (by simp)).trans (e1 60 (by simp))) ((e2 Q (by simp)).trans (e1 Q (by simp)))]
  · rw [h2 x]
    unfold rS1
    rw [← eP]
    have k : rs (flQ b l1 60 P) (flX l1) nS x ↔ rs (flQ fw l 60 P) (fun x => nR x ∧ x = n) nS x := by
      refine rs_iff (fun u y => ?_) (fun u => ?_) (fun _ => Iff.rfl) x
      · rw [fb _ _ _ _ _ _ hb, flQ_sm (e1 60 (by simp)) (e1 P (by simp))]
      · unfold flX nR
        exact ⟨fun q => ⟨q.1, (h1 u q.1.1 (by have := q.1.2; omega)).mp q.2⟩, fun q => ⟨q.1, (h1 u q.1.1 (by have := q.1.2; omega)).mpr q.2⟩⟩
    rw [k]
    refine ⟨fun q => ⟨?_, q⟩, fun q => q.2⟩
    exact q nR (fun i hi => hi.1) (fun i k _ _ hs => hs.1.2)
/-- no bits behind the last node, up and down -/
theorem uD_rg {l : Nat → Int → Int64} {f : Nat → Int → Int} {n : Int} (c32 : n ≤ 32) (h : uD l (uP f n) (dP f n)) : rgW l 61 ∧ rgW l 62 := by
  constructor
  · intro a b a0 a1 b0 b1 q
    obtain ⟨i, hi, hc, ⟨-, e⟩ | ⟨k, hk, -, e⟩⟩ := (h a b a0 a1 (by omega) b1).1.mp q
    · omega
    · omega
  · intro a b a0 a1 b0 b1 q
    obtain ⟨i, hi, hc, k, hk, -, e⟩ := (h a b a0 a1 (by omega) b1).2.mp q
    unfold clR at hc
    omega
def rWs (l : Nat → Int → Int64) : Prop := rgW l 60 ∧ rgW l 61 ∧ rgW l 62
theorem rWs_sm {l l' : Nat → Int → Int64} (e60 : l' 60 = l 60) (e61 : l' 61 = l 61) (e62 : l' 62 = l 62) (h : rWs l) : rWs l' := ⟨rgW_sm e60 h.1, rgW_sm e61 h.2.1, rgW_sm e62 h.2.2⟩

set_option maxHeartbeats 8000000 in
set_option maxRecDepth 20000 in
theorem k178x {Z : sm_Z} (hZ : Z.2.2.2 = tb_N) (m : wk_M) (n : Int) (n0 : 0 ≤ n) (n1 : n ≤ 251) (h : rWs m.2) : wC Z 3 178 [63] [.inr (.inl 46), .inl n] m (fun r m' => r = none ∧ ∀ c, flX m'.2 c ↔ rSl m.2 0 n c) := by
  refine wC.gen fun Q hQ => wk_E hZ (by exact rfl) [] rfl (fun _ _ => trivial) fun hr hs => ?_
  have e1 : ab_lo = -2147483648 := rfl
  have e2 : ab_hi = 2147483647 := rfl
  repeat' first | refine And.intro ?_ ?_ | intro _ | refine Or.inl ⟨by omega, by omega, ?_⟩ | refine Or.inr ?_ | exact trivial | (refine wk_use (k171x hZ _ _ (by omega) (by omega)) rfl rfl ?_; rintro - _ _ - hfr - ⟨rfl, h11, hX⟩; have f171 := hfr; have hw1 := rWs_sm (f171 60 (by decide)).2 (f171 61 (by decide)).2 (f171 62 (by decide)).2 h; refine Or.inr ?_) | (refine wk_use (k172xu hZ _ _ (by decide) (by decide) ⟨hw1.1, hw1.2.1⟩ (fun b b0 b1 z => by have := (hX b (by omega) b1).mp z; omega)) rfl rfl ?_; rintro - _ _ - hfr - ⟨rfl, h00, hfl⟩; have f172 := hfr; have hw2 := rWs_sm (f172 60 (by decide)).2 (f172 61 (by decide)).2 (f172 62 (by decide)).2 hw1; refine Or.inr ?_) | (refine wk_use (k172xd hZ _ _ (by decide) (by decide) ⟨hw2.1, hw2.2.2⟩ h00) rfl rfl ?_; rintro - _ _ - hfr - ⟨rfl, h01, hfl2⟩; refine Or.inr ?_)
  all_goals first | omega | exact hQ _ _ ⟨rfl, rsl_fin (P := 61) (Q := 62) Iff.rfl Iff.rfl rfl rfl (fun p hp => by simp only [List.mem_cons, List.not_mem_nil, or_false] at hp; rcases hp with e | e | e <;> subst e <;> exact (f171 _ (by decide)).2) (fun p hp => by simp only [List.mem_cons, List.not_mem_nil, or_false] at hp; rcases hp with e | e | e <;> subst e <;> exact (f172 _ (by decide)).2) hX hfl hfl2⟩
