/-! the reference's ways, exactly -/
def rBh (f : Nat → Int → Int) (i p v : Int) : Prop := (i + 1 < f 52 p ∧ v = i + 1) ∨ (f 52 p ≤ i + 1 ∧ v = 32 + p)
def wy (f : Nat → Int → Int) (i w v : Int) : Prop := (32 ≤ i ∧ v = -1) ∨ (i < 32 ∧ ((f 47 i = 10 ∧ ((w = 0 ∧ v = f 56 (f 57 i)) ∨ (¬ w = 0 ∧ v = -1))) ∨ ((f 47 i = 12 ∧ f 47 (f 57 i) = 11) ∧ ((w = 0 ∧ v = f 57 i) ∨ (¬ w = 0 ∧ v = -1))) ∨ (¬ f 47 i = 10 ∧ ¬ (f 47 i = 12 ∧ f 47 (f 57 i) = 11) ∧ ((w = 0 ∧ rBh f i (f 53 i) v) ∨ (¬ w = 0 ∧ f 47 i = 11 ∧ rBh f (f 56 i) (f 53 i) v) ∨ (¬ w = 0 ∧ ¬ f 47 i = 11 ∧ ((¬ f 47 i = 9 ∧ v = -1) ∨ (f 47 i = 9 ∧ ((0 ≤ f 55 i ∧ v = f 55 i + 1) ∨ (f 55 i < 0 ∧ v = f 56 i)))))))))
/-- the ways of the reference: an EXIT is 32 and its procedure's number -/
def Sr (f : Nat → Int → Int) (i j : Int) : Prop := (0 ≤ i ∧ i < 32) ∧ (0 ≤ j ∧ j ≤ 35) ∧ (wy f i 0 j ∨ wy f i 1 j)
def dfn (f : Nat → Int → Int) (x i : Int) : Prop := i < 32 ∧ (f 47 i ≤ 7 ∨ (13 ≤ f 47 i ∧ f 47 i ≤ 16)) ∧ f 48 i = x

set_option maxHeartbeats 8000000 in
set_option maxRecDepth 20000 in
theorem k151x {Z : sm_Z} (hZ : Z.2.2.2 = tb_N) (m : wk_M) (i p : Int) (i0 : -1 ≤ i) (i1 : i ≤ 31) (p0 : 0 ≤ p) (p1 : p ≤ 3) : wC Z 1 151 [] [.inr (.inl 46), .inl i, .inl p] m (fun r m' => ∃ v : Int, r = some (.inl v) ∧ m' = m ∧ ((0 ≤ v ∧ v ≤ 35) ∧ rBh m.1 i p v)) := by
  refine wC.gen fun Q hQ => wk_E hZ (by exact rfl) [] rfl (fun _ _ => trivial) fun hr hs => ?_
  have e1 : ab_lo = -2147483648 := rfl
  have e2 : ab_hi = 2147483647 := rfl
  repeat' first | refine And.intro ?_ ?_ | intro _ | refine Or.inl ⟨by omega, by omega, ?_⟩ | refine Or.inr ?_ | exact trivial
  all_goals first | omega | exact hQ _ _ ⟨_, rfl, rfl, ⟨by omega, by omega⟩, by unfold rBh; omega⟩

set_option maxHeartbeats 8000000 in
set_option maxRecDepth 20000 in
theorem k150x {Z : sm_Z} (hZ : Z.2.2.2 = tb_N) (m : wk_M) (i t : Int) (i0 : 0 ≤ i) (i1 : i ≤ 35) (t0 : 0 ≤ t) (t1 : t ≤ 1) : wC Z 2 150 [] [.inr (.inl 46), .inl i, .inl t] m (fun r m' => ∃ v : Int, r = some (.inl v) ∧ m' = m ∧ ((-1 ≤ v ∧ v ≤ 35) ∧ wy m.1 i t v)) := by
  refine wC.gen fun Q hQ => wk_E hZ (by exact rfl) [] rfl (fun _ _ => trivial) fun hr hs => ?_
  have e1 : ab_lo = -2147483648 := rfl
  have e2 : ab_hi = 2147483647 := rfl
  repeat' first | (intro h; exact absurd h (by decide)) | (intro h; exact absurd rfl h) | refine And.intro ?_ ?_ | intro _ | refine Or.inl ⟨by omega, by omega, ?_⟩ | refine Or.inr ?_ | exact trivial | (refine wk_use (k151x hZ _ _ _ (by omega) (by omega) (by omega) (by omega)) rfl rfl ?_; rintro - _ _ - - - ⟨_, rfl, hm, ⟨_, _⟩, hb⟩; refine Or.inl ⟨[], hm, ?_⟩; clear hm)
  all_goals first
    | omega
    | exact hQ _ _ ⟨_, rfl, rfl, ⟨by omega, by omega⟩, Or.inl ⟨by omega, rfl⟩⟩
    | exact hQ _ _ ⟨_, rfl, rfl, ⟨by omega, by omega⟩, Or.inr ⟨by omega, Or.inr (Or.inr ⟨by omega, by omega, Or.inl ⟨by omega, hb⟩⟩)⟩⟩
    | exact hQ _ _ ⟨_, rfl, rfl, ⟨by omega, by omega⟩, Or.inr ⟨by omega, Or.inr (Or.inr ⟨by omega, by omega, Or.inr (Or.inl ⟨by omega, by omega, hb⟩)⟩)⟩⟩
    | exact hQ _ _ ⟨_, rfl, rfl, ⟨by omega, by omega⟩, Or.inr ⟨by omega, Or.inl ⟨by omega, by omega⟩⟩⟩
    | exact hQ _ _ ⟨_, rfl, rfl, ⟨by omega, by omega⟩, Or.inr ⟨by omega, Or.inr (Or.inl ⟨⟨by omega, by omega⟩, by omega⟩)⟩⟩
    | exact hQ _ _ ⟨_, rfl, rfl, ⟨by omega, by omega⟩, Or.inr ⟨by omega, Or.inr (Or.inr ⟨by omega, by omega, Or.inr (Or.inr ⟨by omega, by omega, by omega⟩)⟩)⟩⟩


set_option maxHeartbeats 8000000 in
set_option maxRecDepth 20000 in
theorem k164x {Z : sm_Z} (hZ : Z.2.2.2 = tb_N) (m : wk_M) (i x : Int) (i0 : 0 ≤ i) (i1 : i ≤ 35) : wC Z 2 164 [] [.inr (.inl 46), .inl i, .inl x] m (fun r m' => ∃ v : Int, r = some (.inl v) ∧ m' = m ∧ ((v = 1 ∧ dfn m.1 x i) ∨ (v = 0 ∧ ¬ dfn m.1 x i))) := by
  refine wC.gen fun Q hQ => wk_E hZ (by exact rfl) [] rfl (fun _ _ => trivial) fun hr hs => ?_
  have e1 : ab_lo = -2147483648 := rfl
  have e2 : ab_hi = 2147483647 := rfl
  repeat' first | (intro h; exact absurd h (by decide)) | (intro h; exact absurd rfl h) | refine And.intro ?_ ?_ | intro _ | refine Or.inl ⟨by omega, by omega, ?_⟩ | refine Or.inr ?_ | exact trivial | (refine wk_use (k148 hZ _ _ (by omega) (by omega)) rfl rfl ?_; rintro - _ _ - - - ⟨_, rfl, hm, ⟨rfl, hcl⟩ | ⟨rfl, hcl⟩⟩ <;> refine Or.inl ⟨[], hm, ?_⟩ <;> clear hm)
  all_goals first | omega | exact hQ _ _ ⟨_, rfl, rfl, by unfold dfn; omega⟩

theorem wy_fun {f : Nat → Int → Int} {i w u v : Int} (hu : wy f i w u) (hv : wy f i w v) : u = v := by
  rcases hu with ⟨a, ea⟩ | ⟨a, hu⟩
  · rcases hv with ⟨_, eb⟩ | ⟨b, _⟩
    · rw [ea, eb]
    · omega
  · rcases hv with ⟨b, _⟩ | ⟨_, hv⟩
    · omega
    · rcases hu with ⟨o, hu⟩ | ⟨o, hu⟩ | ⟨o1, o2, hu⟩
      · rcases hv with ⟨_, hv⟩ | ⟨o', _⟩ | ⟨o', _⟩
        · omega
        · omega
        · exact absurd o o'
      · rcases hv with ⟨o', hv⟩ | ⟨_, hv⟩ | ⟨_, o', _⟩
        · omega
        · omega
        · exact absurd o o'
      · rcases hv with ⟨o', _⟩ | ⟨o', _⟩ | ⟨_, _, hv⟩
        · exact absurd o' o1
        · exact absurd o' o2
        · clear o1 o2
          unfold rBh at hu hv
          rcases hu with ⟨c, hu⟩ | ⟨c, d, hu⟩ | ⟨c, d, hu⟩
          · rcases hv with ⟨_, hv⟩ | ⟨c', _⟩ | ⟨c', _⟩
            · omega
            · exact absurd c c'
            · exact absurd c c'
          · rcases hv with ⟨c', _⟩ | ⟨_, _, hv⟩ | ⟨_, d', _⟩
            · exact absurd c' c
            · omega
            · exact absurd d d'
          · rcases hv with ⟨c', _⟩ | ⟨_, d', _⟩ | ⟨_, _, hv⟩
            · exact absurd c' c
            · exact absurd d' d
            · omega
/-- the ways by what stands there -/
theorem wy_10 {f : Nat → Int → Int} {i v : Int} (i1 : i < 32) (o : f 47 i = 10) : (wy f i 0 v ↔ v = f 56 (f 57 i)) ∧ (wy f i 1 v ↔ v = -1) := by
  refine ⟨⟨fun q => wy_fun q ?_, fun q => ?_⟩, ⟨fun q => wy_fun q ?_, fun q => ?_⟩⟩
  · exact Or.inr ⟨i1, Or.inl ⟨o, Or.inl ⟨rfl, rfl⟩⟩⟩
  · exact Or.inr ⟨i1, Or.inl ⟨o, Or.inl ⟨rfl, q⟩⟩⟩
  · exact Or.inr ⟨i1, Or.inl ⟨o, Or.inr ⟨by decide, rfl⟩⟩⟩
  · exact Or.inr ⟨i1, Or.inl ⟨o, Or.inr ⟨by decide, q⟩⟩⟩
theorem wy_12 {f : Nat → Int → Int} {i v : Int} (i1 : i < 32) (o : f 47 i = 12 ∧ f 47 (f 57 i) = 11) : (wy f i 0 v ↔ v = f 57 i) ∧ (wy f i 1 v ↔ v = -1) := by
  refine ⟨⟨fun q => wy_fun q ?_, fun q => ?_⟩, ⟨fun q => wy_fun q ?_, fun q => ?_⟩⟩
  · exact Or.inr ⟨i1, Or.inr (Or.inl ⟨o, Or.inl ⟨rfl, rfl⟩⟩)⟩
  · exact Or.inr ⟨i1, Or.inr (Or.inl ⟨o, Or.inl ⟨rfl, q⟩⟩)⟩
  · exact Or.inr ⟨i1, Or.inr (Or.inl ⟨o, Or.inr ⟨by decide, rfl⟩⟩)⟩
  · exact Or.inr ⟨i1, Or.inr (Or.inl ⟨o, Or.inr ⟨by decide, q⟩⟩)⟩
theorem wy_0 {f : Nat → Int → Int} {i v : Int} (i1 : i < 32) (o1 : ¬ f 47 i = 10) (o2 : ¬ (f 47 i = 12 ∧ f 47 (f 57 i) = 11)) : wy f i 0 v ↔ rBh f i (f 53 i) v := by
  refine ⟨fun q => ?_, fun q => Or.inr ⟨i1, Or.inr (Or.inr ⟨o1, o2, Or.inl ⟨rfl, q⟩⟩)⟩⟩
  rcases q with ⟨z, _⟩ | ⟨_, ⟨z, _⟩ | ⟨z, _⟩ | ⟨_, _, ⟨_, q⟩ | ⟨z, _⟩ | ⟨z, _⟩⟩⟩
  · omega
  · exact absurd z o1
  · exact absurd z o2
  · exact q
  · exact absurd rfl z
  · exact absurd rfl z
theorem wy_111 {f : Nat → Int → Int} {i v : Int} (i1 : i < 32) (o : f 47 i = 11) : wy f i 1 v ↔ rBh f (f 56 i) (f 53 i) v := by
  refine ⟨fun q => ?_, fun q => Or.inr ⟨i1, Or.inr (Or.inr ⟨by omega, by omega, Or.inr (Or.inl ⟨by decide, o, q⟩)⟩)⟩⟩
  rcases q with ⟨z, _⟩ | ⟨_, ⟨z, _⟩ | ⟨z, _⟩ | ⟨_, _, ⟨z, _⟩ | ⟨_, _, q⟩ | ⟨_, z, _⟩⟩⟩
  · omega
  · omega
  · omega
  · exact absurd z (by decide)
  · exact q
  · exact absurd o z
theorem wy_19 {f : Nat → Int → Int} {i v : Int} (i1 : i < 32) (o : f 47 i = 9) : wy f i 1 v ↔ ((0 ≤ f 55 i ∧ v = f 55 i + 1) ∨ (f 55 i < 0 ∧ v = f 56 i)) := by
  refine ⟨fun q => ?_, fun q => Or.inr ⟨i1, Or.inr (Or.inr ⟨by omega, by omega, Or.inr (Or.inr ⟨by decide, by omega, Or.inr ⟨o, q⟩⟩)⟩)⟩⟩
  rcases q with ⟨z, _⟩ | ⟨_, ⟨z, _⟩ | ⟨z, _⟩ | ⟨_, _, ⟨z, _⟩ | ⟨_, z, _⟩ | ⟨_, _, ⟨z, _⟩ | ⟨_, q⟩⟩⟩⟩
  · omega
  · omega
  · omega
  · exact absurd z (by decide)
  · omega
  · exact absurd o z
  · exact q
theorem wy_1n {f : Nat → Int → Int} {i v : Int} (i1 : i < 32) (o1 : ¬ f 47 i = 10) (o2 : ¬ (f 47 i = 12 ∧ f 47 (f 57 i) = 11)) (o3 : ¬ f 47 i = 11) (o4 : ¬ f 47 i = 9) : wy f i 1 v ↔ v = -1 := by
  refine ⟨fun q => ?_, fun q => Or.inr ⟨i1, Or.inr (Or.inr ⟨o1, o2, Or.inr (Or.inr ⟨by decide, o3, Or.inl ⟨o4, q⟩⟩)⟩)⟩⟩
  rcases q with ⟨z, _⟩ | ⟨_, ⟨z, _⟩ | ⟨z, _⟩ | ⟨_, _, ⟨z, _⟩ | ⟨_, z, _⟩ | ⟨_, _, ⟨_, q⟩ | ⟨z, _⟩⟩⟩⟩
  · omega
  · exact absurd z o1
  · exact absurd z o2
  · exact absurd z (by decide)
  · exact absurd z o3
  · exact q
  · exact absurd z o4
/-- the long of a way, or of none -/
theorem fX_wy {f : Nat → Int → Int} {i a b : Int} (i0 : 0 ≤ i) (i1 : i < 32) (ha : wy f i 0 a) (hb : wy f i 1 b) (a1 : -1 ≤ a ∧ a ≤ 35) (b1 : -1 ≤ b ∧ b ≤ 35) {s t : Int64} (hs : (a < 0 ∧ s = Int64.ofNat 0) ∨ (0 ≤ a ∧ s = Int64.ofNat 1 <<< ((Int32.ofInt a).toInt64 &&& 63))) (ht : (b < 0 ∧ t = Int64.ofNat 0) ∨ (0 ≤ b ∧ t = Int64.ofNat 1 <<< ((Int32.ofInt b).toInt64 &&& 63))) : ∀ k, fX (s ||| t) k ↔ Sr f i k := by
  intro k
  have e1 : fX s k ↔ (k = a ∧ 0 ≤ a) := by
    rcases hs with ⟨h, e⟩ | ⟨h, e⟩
    · rw [e]
      exact ⟨fun z => absurd z fX_no, fun z => by omega⟩
    · rw [e, fX_one h (by omega)]
      omega
  have e2 : fX t k ↔ (k = b ∧ 0 ≤ b) := by
    rcases ht with ⟨h, e⟩ | ⟨h, e⟩
    · rw [e]
      exact ⟨fun z => absurd z fX_no, fun z => by omega⟩
    · rw [e, fX_one h (by omega)]
      omega
  rw [fX_or, e1, e2]
  unfold Sr
  constructor
  · rintro (⟨e, h⟩ | ⟨e, h⟩)
    · subst e
      exact ⟨⟨i0, i1⟩, ⟨h, a1.2⟩, Or.inl ha⟩
    · subst e
      exact ⟨⟨i0, i1⟩, ⟨h, b1.2⟩, Or.inr hb⟩
  · rintro ⟨-, ⟨k0, k1⟩, h | h⟩
    · have := wy_fun h ha
      omega
    · have := wy_fun h hb
      omega
theorem fN_wy {f : Nat → Int → Int} {i : Int} {t : Int64} (h : ∀ k, fX t k ↔ Sr f i k) : fN 35 t := fun j hj => ((h j).mp hj).2.1.2
