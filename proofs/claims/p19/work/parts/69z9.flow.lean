/-! flows of the reference -/
def slr (f : Nat → Int → Int) (s l : Int) : Prop := (f 47 s = 5 ∧ ltF (f 46 (34 : Nat)) (rB f) l) ∨ (f 47 s = 17 ∧ l = f 74 (f 48 s))
theorem slr_u {f : Nat → Int → Int} {s l l' : Int} (h : slr f s l) (h' : slr f s l') : l = l' := by
  rcases h with ⟨e, h⟩ | ⟨e, h⟩
  · rcases h' with ⟨e', h'⟩ | ⟨e', h'⟩
    · exact ltF_uniq h h'
    · omega
  · rcases h' with ⟨e', h'⟩ | ⟨e', h'⟩
    · omega
    · rw [h, h']
def snr (f : Nat → Int → Int) (s : Int) : Prop := f 47 s = 17 ∨ f 47 s = 5
def fwR (f : Nat → Int → Int) (l : Nat → Int → Int64) (s i : Int) : Prop := (0 ≤ s ∧ s < f 46 (0 : Nat)) ∧ (0 ≤ i ∧ i < f 46 (0 : Nat)) ∧ snr f s ∧ f 47 i = 6 ∧ rSl l 0 s i ∧ ∃ lv, slr f s lv ∧ ¬ rB f (f 73 (f 49 i)) lv
def canR (f : Nat → Int → Int) : Prop := f 46 (5 : Nat) = 1 ∧ ltA (f 46 (34 : Nat)) (rB f) 0
theorem rSl_sm {l l' : Nat → Int → Int64} (e60 : l' 60 = l 60) (e61 : l' 61 = l 61) (e62 : l' 62 = l 62) : rSl l' 0 = rSl l 0 := by
  funext n c
  unfold rSl rS1
  show rs (flQ 0 l' 60 62) (fun x => nR x ∧ rs (flQ 0 l' 60 61) (fun x => nR x ∧ x = n) nS x) nS c = rs (flQ 0 l 60 62) (fun x => nR x ∧ rs (flQ 0 l 60 61) (fun x => nR x ∧ x = n) nS x) nS c
  rw [flQ_sm e60 e61, flQ_sm e60 e62]

set_option maxHeartbeats 8000000 in
set_option maxRecDepth 20000 in
theorem k204x {Z : sm_Z} (hZ : Z.2.2.2 = tb_N) (m : wk_M) (j : Int) (hO : rOps m.1) (hb : bP m.1) (hw : rWs m.2) : wC Z 4 204 [63] [.inr (.inl 46), .inl j] m (fun r m' => ∃ v : Int, r = some (.inl v) ∧ srch (fwR m.1 m.2) j v) := by
  obtain ⟨J0, hJ0⟩ : ∃ J : Int →Int →Int → wk_M → Prop, ∀ ja n s m', J ja n s m' ↔ (ja = j ∧ (0 ≤ s ∧ s ≤ m.1 46 (0 : Nat)) ∧ n = fC (fwR m.1 m.2) s 0 ∧ fNo (fwR m.1 m.2) s 0 j) := ⟨_, fun _ _ _ _ => Iff.rfl⟩
  obtain ⟨J1, hJ1⟩ : ∃ J : Int →Int →Int →Int →Int → wk_M → Prop, ∀ ja n s l i m', J ja n s l i m' ↔ (ja = j ∧ ((0 ≤ s ∧ s < m.1 46 (0 : Nat)) ∧ (0 ≤ l ∧ l ≤ 4) ∧ 0 ≤ i ∧ i ≤ m.1 46 (0 : Nat)) ∧ slr m.1 s l ∧ snr m.1 s ∧ (∀ c, flX m'.2 c ↔ rSl m.2 0 s c) ∧ n = fC (fwR m.1 m.2) s i ∧ fNo (fwR m.1 m.2) s i j) := ⟨_, fun _ _ _ _ _ _ => Iff.rfl⟩
  refine wC.gen fun Q hQ => wk_E hZ (by exact rfl) [(4, [(3, 46), (1, 0), (1, 0), (1, 0), (0, 0), (0, 0)], fun vs _ m' => (match vs with
    | [ja, n, s] => J0 ja n s m'
    | _ => False), fun vs _ m' => (match vs with
    | [ja, n, s] => ((32 - s) * 100 + 99 : Int).toNat
    | _ => 0)), (71, [(3, 46), (1, 0), (1, 0), (1, 0), (1, 0), (1, 0)], fun vs _ m' => (match vs with
    | [ja, n, s, l, i] => J1 ja n s l i m'
    | _ => False), fun vs _ m' => (match vs with
    | [ja, n, s, l, i] => ((32 - s) * 100 + (32 - i) : Int).toNat
    | _ => 0))] rfl (fun hr hs => ⟨?_, ⟨?_, trivial⟩⟩) (fun hr hs => ?_)
  · have e1 : ab_lo = -2147483648 := rfl
    have e2 : ab_hi = 2147483647 := rfl
    intro m2 hr2 hf2 ja jal jah n nl nh s sl sh hI
    have hI := (hJ0 _ _ _ _).mp hI
    obtain ⟨rfl, ⟨s0, s1⟩, hn, hN⟩ := hI
    have e46 := (hf2 46 (by decide)).1
    have hb2 := bP_fr hf2 hb
    have hO2 := rOps_fr (congrFun e46 _) (fr_57 hf2 rfl) hO
    have hc : 0 ≤ m2.1 46 (0 : Nat) ∧ m2.1 46 (0 : Nat) ≤ 32 := hr2.1 46 0
    have e0 : m2.1 46 (0 : Nat) = m.1 46 (0 : Nat) := congrFun e46 _
    have e34 : m2.1 46 (34 : Nat) = m.1 46 (34 : Nat) := congrFun e46 _
    have e47 := (hf2 47 (by decide)).1
    have eB : rB m2.1 = rB m.1 := by funext p q; unfold rB; rw [(hf2 72 (by decide)).1]
    have hle := fC_le (P := fwR m.1 m.2) s0 (Int.le_refl 0)
    have e47s : m2.1 47 s = m.1 47 s := congrFun e47 s
    have e74 : m2.1 74 (m2.1 48 s) = m.1 74 (m.1 48 s) := by rw [(hf2 74 (by decide)).1, (hf2 48 (by decide)).1]
    have hw2 : rWs m2.2 := rWs_sm (hf2 60 (by decide)).2 (hf2 61 (by decide)).2 (hf2 62 (by decide)).2 hw
    have eS : rSl m2.2 0 = rSl m.2 0 := rSl_sm (hf2 60 (by decide)).2 (hf2 61 (by decide)).2 (hf2 62 (by decide)).2
    have qd : s < m2.1 46 (0 : Nat) → m2.1 47 s = 17 → 0 ≤ m2.1 48 s ∧ m2.1 48 s ≤ 3 := fun h e => (hO2 s s0 h).1 (by unfold nD; omega)
    repeat' first | (intro h; exact absurd h (by decide)) | (intro h; exact absurd rfl h) | refine And.intro ?_ ?_ | intro _ | refine Or.inl ⟨by omega, by omega, ?_⟩ | refine Or.inr ?_ | exact trivial | (refine wk_use (k202x hZ _) rfl rfl ?_; rintro - _ _ - - - ⟨_, rfl, hm, ⟨_, _⟩, hbf, hbb⟩; have hne := hbb.mp hb2; rw [e34, eB] at hbf; refine Or.inl ⟨[], hm, ?_⟩; clear hm) | (refine wk_use (k178x hZ _ _ (by omega) (by omega) hw2) rfl rfl ?_; rintro - _ _ - hfr - ⟨rfl, hfl⟩; rw [eS] at hfl; refine Or.inr ?_)
    all_goals first
      | omega
      | (show ((32 - (_ : Int)) * 100 + 99 : Int).toNat < ((32 - (_ : Int)) * 100 + 99 : Int).toNat; omega)
      | exact hQ _ _ ⟨_, rfl, Or.inr ⟨(by have e := fC_z (t := 32) s0 (Int.le_refl 0) (by omega) (P := fwR m.1 m.2) (fun s' i' _ _ _ a _ q => by have := q.1.2; omega); omega), fNo_z s0 (Int.le_refl 0) (fun s' i' _ _ _ a _ q => by have := q.1.2; omega) hN⟩⟩
      | (show J0 _ _ _ _; refine (hJ0 _ _ _ _).mpr ⟨rfl, ⟨by omega, by omega⟩, (by have e := fC_z (t := s + 1) s0 (Int.le_refl 0) (by omega) (P := fwR m.1 m.2) (fun s' i' _ b0 b1 a b q => by have e : s' = s := (by omega); subst e; have q := q.2.2.1; unfold snr at q; omega); omega), fNo_z s0 (Int.le_refl 0) (fun s' i' _ b0 b1 a b q => by have e : s' = s := (by omega); subst e; have q := q.2.2.1; unfold snr at q; omega) hN⟩)
      | (show J1 _ _ _ _ _ _; refine (hJ1 _ _ _ _ _ _).mpr ⟨rfl, ⟨⟨by omega, by omega⟩, ⟨by omega, by omega⟩, by omega, by omega⟩, Or.inl ⟨by omega, hbf⟩, (by unfold snr; omega), hfl, hn, hN⟩)
      | (show J1 _ _ _ _ _ _; refine (hJ1 _ _ _ _ _ _).mpr ⟨rfl, ⟨⟨by omega, by omega⟩, ⟨by omega, by omega⟩, by omega, by omega⟩, Or.inr ⟨by omega, e74⟩, (by unfold snr; omega), hfl, hn, hN⟩)
      | (show (_ : Nat) < (_ : Nat); dsimp only; omega)
  · have e1 : ab_lo = -2147483648 := rfl
    have e2 : ab_hi = 2147483647 := rfl
    intro m2 hr2 hf2 ja jal jah n nl nh s sl sh l ll lh i il ih hI
    have hI := (hJ1 _ _ _ _ _ _).mp hI
    obtain ⟨rfl, ⟨⟨s0, s1⟩, ⟨l0, l1⟩, i0, i1⟩, hsl, hsk, hfl, hn, hN⟩ := hI
    have e46 := (hf2 46 (by decide)).1
    have hb2 := bP_fr hf2 hb
    have hO2 := rOps_fr (congrFun e46 _) (fr_57 hf2 rfl) hO
    have hc : 0 ≤ m2.1 46 (0 : Nat) ∧ m2.1 46 (0 : Nat) ≤ 32 := hr2.1 46 0
    have e0 : m2.1 46 (0 : Nat) = m.1 46 (0 : Nat) := congrFun e46 _
    have e34 : m2.1 46 (34 : Nat) = m.1 46 (34 : Nat) := congrFun e46 _
    have e47 := (hf2 47 (by decide)).1
    have eB : rB m2.1 = rB m.1 := by funext p q; unfold rB; rw [(hf2 72 (by decide)).1]
    have hle := fC_le (P := fwR m.1 m.2) s0 i0
    have e47i : m2.1 47 i = m.1 47 i := congrFun e47 i
    have e73 : m2.1 73 (m2.1 49 i) = m.1 73 (m.1 49 i) := by rw [(hf2 73 (by decide)).1, (hf2 49 (by decide)).1]
    have qa : i < m2.1 46 (0 : Nat) → m2.1 47 i = 6 → 0 ≤ m2.1 49 i ∧ m2.1 49 i ≤ 3 := fun h e => (hO2 i i0 h).2.1 (by unfold nA; omega)
    repeat' first | (intro h; exact absurd h (by decide)) | (intro h; exact absurd rfl h) | refine And.intro ?_ ?_ | intro _ | refine Or.inl ⟨by omega, by omega, ?_⟩ | refine Or.inr ?_ | exact trivial | (refine wk_use (k173x63 hZ _ _ (by omega) (by omega)) rfl rfl ?_; rintro - _ _ - - - ⟨_, rfl, hm, ⟨rfl, hs⟩ | ⟨rfl, hs⟩⟩ <;> refine Or.inl ⟨[], hm, ?_⟩ <;> clear hm) | (refine wk_use (k200x hZ _ _ _ (by omega) (by omega) (by omega) (by omega)) rfl rfl ?_; rintro - _ _ - - - ⟨_, rfl, hm, hz⟩; refine Or.inl ⟨[], hm, ?_⟩; clear hm)
    all_goals first
      | omega
      | (show ((32 - (_ : Int)) * 100 + (32 - (_ : Int)) : Int).toNat < ((32 - (_ : Int)) * 100 + (32 - (_ : Int)) : Int).toNat; omega)
      | exact hQ _ _ ⟨_, rfl, Or.inl ⟨s, i, ⟨s0, by omega⟩, ⟨i0, by omega⟩, ⟨⟨s0, s1⟩, ⟨i0, by omega⟩, hsk, by omega, (hfl i).mp ⟨⟨i0, by omega⟩, hs⟩, l, hsl, (by rw [← eB]; unfold rB; rw [← e73]; omega)⟩, by omega, by omega⟩⟩
      | (show J0 _ _ _ _; refine (hJ0 _ _ _ _).mpr ⟨rfl, ⟨by omega, by omega⟩, (by have e := fC_z (t := s + 1) s0 i0 (by omega) (P := fwR m.1 m.2) (fun s' i' _ _ _ a b q => by have := q.2.1.2; omega); omega), fNo_z s0 i0 (fun s' i' _ _ _ a b q => by have := q.2.1.2; omega) hN⟩)
      | (show J1 _ _ _ _ _ _; refine (hJ1 _ _ _ _ _ _).mpr (by have hP : fwR m.1 m.2 s i := ⟨⟨s0, s1⟩, ⟨i0, by omega⟩, hsk, by omega, (hfl i).mp ⟨⟨i0, by omega⟩, hs⟩, l, hsl, (by rw [← eB]; unfold rB; rw [← e73]; omega)⟩; have e := fC_y s0 i0 (by omega) hP; exact ⟨rfl, ⟨⟨by omega, by omega⟩, ⟨by omega, by omega⟩, by omega, by omega⟩, hsl, hsk, hfl, by omega, fNo_s s0 i0 (by omega) hN (fun _ => by omega)⟩))
      | (show J1 _ _ _ _ _ _; refine (hJ1 _ _ _ _ _ _).mpr (by have hP : ¬ fwR m.1 m.2 s i := (fun ⟨_, _, _, _, _, l', h1, h2⟩ => h2 (by rw [slr_u h1 hsl, ← eB]; unfold rB; rw [← e73]; omega)); have e := fC_n s0 i0 (by omega) hP; exact ⟨rfl, ⟨⟨by omega, by omega⟩, ⟨by omega, by omega⟩, by omega, by omega⟩, hsl, hsk, hfl, by omega, fNo_s s0 i0 (by omega) hN (fun z => absurd z hP)⟩))
      | (show J1 _ _ _ _ _ _; refine (hJ1 _ _ _ _ _ _).mpr (by have hP : ¬ fwR m.1 m.2 s i := (fun q => hs ((hfl i).mpr q.2.2.2.2.1).2); have e := fC_n s0 i0 (by omega) hP; exact ⟨rfl, ⟨⟨by omega, by omega⟩, ⟨by omega, by omega⟩, by omega, by omega⟩, hsl, hsk, hfl, by omega, fNo_s s0 i0 (by omega) hN (fun z => absurd z hP)⟩))
      | (show J1 _ _ _ _ _ _; refine (hJ1 _ _ _ _ _ _).mpr (by have hP : ¬ fwR m.1 m.2 s i := (fun q => by have q := q.2.2.2.1; omega); have e := fC_n s0 i0 (by omega) hP; exact ⟨rfl, ⟨⟨by omega, by omega⟩, ⟨by omega, by omega⟩, by omega, by omega⟩, hsl, hsk, hfl, by omega, fNo_s s0 i0 (by omega) hN (fun z => absurd z hP)⟩))
      | (show (_ : Nat) < (_ : Nat); dsimp only; omega)
  · have e1 : ab_lo = -2147483648 := rfl
    have e2 : ab_hi = 2147483647 := rfl
    have hc : 0 ≤ m.1 46 (0 : Nat) ∧ m.1 46 (0 : Nat) ≤ 32 := hr.1 46 0
    repeat' first | (intro h; exact absurd h (by decide)) | (intro h; exact absurd rfl h) | refine And.intro ?_ ?_ | intro _ | refine Or.inl ⟨by omega, by omega, ?_⟩ | refine Or.inr ?_ | exact trivial
    all_goals first
      | omega
      | trivial
      | (show J0 _ _ _ _; refine (hJ0 _ _ _ _).mpr ⟨rfl, ⟨by omega, by omega⟩, fC_0.symm, fNo_0⟩)

theorem srch_v {P : Int → Int → Prop} {j v : Int} (h : srch P j v) : (0 ≤ v ∧ v ≤ 1023 ∧ fnF P j v) ∨ (-1025 ≤ v ∧ v < 0 ∧ v = -1 - fC P 32 0 ∧ fNo P 32 0 j) := by
  have l := fC_le (P := P) (s := 32) (i := 0) (by decide) (by decide)
  rcases h with h | ⟨e, h⟩
  · have := fnF_nn h
    exact Or.inl ⟨by omega, by omega, h⟩
  · exact Or.inr ⟨by omega, by omega, e, h⟩

set_option maxHeartbeats 8000000 in
set_option maxRecDepth 20000 in
theorem k205x {Z : sm_Z} (hZ : Z.2.2.2 = tb_N) (m : wk_M) (j : Int) (hO : rOps m.1) (hw : m.1 46 (5 : Nat) = 1 → rWs m.2) : wC Z 5 205 [63] [.inr (.inl 46), .inl j] m (fun r m' => ∃ v : Int, r = some (.inl v) ∧ ((canR m.1 ∧ fnd (fwR m.1 m.2) j v) ∨ (¬ canR m.1 ∧ v = -1))) := by
  refine wC.gen fun Q hQ => wk_E hZ (by exact rfl) [] rfl (fun _ _ => trivial) fun hr hs => ?_
  have e1 : ab_lo = -2147483648 := rfl
  have e2 : ab_hi = 2147483647 := rfl
  have hb5 : 0 ≤ m.1 46 (5 : Nat) ∧ m.1 46 (5 : Nat) ≤ 1 := hr.1 46 5
  repeat' first | (intro h; exact absurd h (by decide)) | (intro h; exact absurd rfl h) | refine And.intro ?_ ?_ | intro _ | refine Or.inl ⟨by omega, by omega, ?_⟩ | refine Or.inr ?_ | exact trivial | (refine wk_use (k199x hZ _) rfl rfl ?_; rintro - _ _ - - - ⟨v, rfl, hm, ⟨_, _⟩, hlt, hb⟩; refine Or.inl ⟨[], hm, ?_⟩; clear hm) | (refine wk_use (k204x hZ _ _ hO (hb (by omega)) (hw (by omega))) rfl rfl ?_; rintro - _ _ - hfr - ⟨v', rfl, hsr⟩; rcases srch_v hsr with ⟨_, _, hsf⟩ | ⟨_, _, hse, hsn⟩ <;> clear hsr <;> refine Or.inr ?_)
  all_goals first
    | omega
    | exact hQ _ _ ⟨_, rfl, Or.inr ⟨(fun q => by have := q.1; omega), rfl⟩⟩
    | exact hQ _ _ ⟨_, rfl, Or.inr ⟨(fun q => absurd (ltA_uniq hlt q.2) (by omega)), rfl⟩⟩
    | exact hQ _ _ ⟨_, rfl, Or.inl ⟨⟨by omega, ltA_c hlt (by omega)⟩, Or.inl hsf⟩⟩
    | exact hQ _ _ ⟨_, rfl, Or.inl ⟨⟨by omega, ltA_c hlt (by omega)⟩, Or.inr ⟨rfl, hsn⟩⟩⟩
    | exact hQ _ _ ⟨_, rfl, Or.inl ⟨⟨by omega, ltA_c hlt (by omega)⟩, Or.inr ⟨rfl, fNo_neg (by omega)⟩⟩⟩

set_option maxHeartbeats 8000000 in
set_option maxRecDepth 20000 in
theorem k203x {Z : sm_Z} (hZ : Z.2.2.2 = tb_N) (m : wk_M) (hO : rOps m.1) (hw : m.1 46 (5 : Nat) = 1 → rWs m.2) : wC Z 5 203 [63] [.inr (.inl 46)] m (fun r m' => ∃ v : Int, r = some (.inl v) ∧ ((canR m.1 ∧ v = fC (fwR m.1 m.2) 32 0) ∨ (¬ canR m.1 ∧ v = -1))) := by
  refine wC.gen fun Q hQ => wk_E hZ (by exact rfl) [] rfl (fun _ _ => trivial) fun hr hs => ?_
  have e1 : ab_lo = -2147483648 := rfl
  have e2 : ab_hi = 2147483647 := rfl
  have hb5 : 0 ≤ m.1 46 (5 : Nat) ∧ m.1 46 (5 : Nat) ≤ 1 := hr.1 46 5
  repeat' first | (intro h; exact absurd h (by decide)) | (intro h; exact absurd rfl h) | refine And.intro ?_ ?_ | intro _ | refine Or.inl ⟨by omega, by omega, ?_⟩ | refine Or.inr ?_ | exact trivial | (refine wk_use (k199x hZ _) rfl rfl ?_; rintro - _ _ - - - ⟨v, rfl, hm, ⟨_, _⟩, hlt, hb⟩; refine Or.inl ⟨[], hm, ?_⟩; clear hm) | (refine wk_use (k204x hZ _ _ hO (hb (by omega)) (hw (by omega))) rfl rfl ?_; rintro - _ _ - hfr - ⟨v', rfl, hsr⟩; rcases srch_v hsr with ⟨_, _, hsf⟩ | ⟨_, _, hse, hsn⟩ <;> clear hsr <;> refine Or.inr ?_)
  all_goals first
    | omega
    | exact hQ _ _ ⟨_, rfl, Or.inr ⟨(fun q => by have := q.1; omega), rfl⟩⟩
    | exact hQ _ _ ⟨_, rfl, Or.inr ⟨(fun q => absurd (ltA_uniq hlt q.2) (by omega)), rfl⟩⟩
    | exact absurd hsf (fun ⟨s, i, a, b, _, c, _⟩ => by have := fC_le (P := fwR m.1 m.2) a.1 b.1; omega)
    | exact hQ _ _ ⟨_, rfl, Or.inl ⟨⟨by omega, ltA_c hlt (by omega)⟩, by omega⟩⟩
