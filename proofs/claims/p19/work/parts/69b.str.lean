/-! what holds of a structure that stands, by the instructions, one by one -/
def yS (g : Nat → Int → Int) (x : Int) : Prop := ∃ k, (0 ≤ k ∧ k < g 1 (13 : Nat)) ∧ g 12 k = x
def yB (op : Int → Int) (g : Nat → Int → Int) (n : Int) : Prop := ∀ k, 0 ≤ k → k < g 1 (13 : Nat) → (0 ≤ g 12 k ∧ g 12 k < n) ∧ (op (g 12 k) = 9 ∨ op (g 12 k) = 11) ∧ g 9 (g 12 k) = g 1 (11 : Nat) - 1
def yC (op : Int → Int) (g : Nat → Int → Int) (n : Int) : Prop := ∀ j, 0 ≤ j → j < n → (g 6 j = -1 ∨ ((0 ≤ g 6 j ∧ g 6 j < j) ∧ (op (g 6 j) = 9 ∨ op (g 6 j) = 11) ∧ g 9 (g 6 j) = g 9 j)) ∧ (op j = 10 → 0 ≤ g 6 j ∧ op (g 6 j) = 9) ∧ (op j = 12 → 0 ≤ g 6 j)
def yE (op : Int → Int) (g : Nat → Int → Int) (n : Int) : Prop := ∀ j, 0 ≤ j → j < n → (op j = 9 ∨ op j = 11) → (yS g j ∨ ((j < g 8 j ∧ g 8 j < n) ∧ op (g 8 j) = 12 ∧ g 9 (g 8 j) = g 9 j)) ∧ (g 7 j = -1 ∨ ((j < g 7 j ∧ g 7 j < n) ∧ (yS g j ∨ g 7 j < g 8 j)))
def yH (op : Int → Int) (g : Nat → Int → Int) (n : Int) : Prop := ∀ j, 0 ≤ j → j < n → (0 ≤ g 9 j ∧ g 9 j ≤ g 1 (11 : Nat) - 1) ∧ (¬ op j = 18 → g 10 (g 9 j) ≤ j ∧ (g 9 j < g 1 (11 : Nat) - 1 → j < g 11 (g 9 j)))
def yX (op : Int → Int) (g : Nat → Int → Int) (n : Int) : Prop := ∀ p, 0 ≤ p → p < g 1 (11 : Nat) - 1 → (0 ≤ g 11 p ∧ g 11 p < n) ∧ op (g 11 p) = 18
def yI (op : Int → Int) (g : Nat → Int → Int) (n : Int) : Prop := (1 ≤ g 1 (11 : Nat) ∧ 0 ≤ g 1 (13 : Nat) ∧ 0 ≤ n ∧ g 10 (g 1 (11 : Nat) - 1) ≤ n) ∧ yB op g n ∧ yC op g n ∧ yE op g n ∧ yH op g n ∧ yX op g n
theorem yI_step {op : Int → Int} {g h : Nat → Int → Int} {i T : Int} (H : yI op g i) (hT : T = -1 ∨ yS g T) (o10 : op i = 10 → ¬ T = -1 ∧ op T = 9) (o12 : op i = 12 → ¬ T = -1) (l6 : ∀ j, 0 ≤ j → j < i → h 6 j = g 6 j) (i6 : h 6 i = T) (l9 : ∀ j, 0 ≤ j → j < i → h 9 j = g 9 j) (i9 : h 9 i = g 1 (11 : Nat) - 1) (l7 : ∀ j, 0 ≤ j → j < i → h 7 j = g 7 j ∨ (op i = 10 ∧ j = T ∧ h 7 j = i)) (i7 : h 7 i = -1) (l8 : ∀ j, 0 ≤ j → j < i → (h 8 j = g 8 j ∧ (op i = 12 → ¬ j = T)) ∨ (op i = 12 ∧ j = T ∧ h 8 j = i)) (sl : ∀ j, yS g j → yS h j ∨ (op i = 12 ∧ j = T)) (si : op i = 9 ∨ op i = 11 → yS h i) (sB : yB op h (i + 1)) (d0 : 0 ≤ h 1 (13 : Nat)) (l10 : ∀ p, 0 ≤ p → p < g 1 (11 : Nat) → h 10 p = g 10 p) (l11 : ∀ p, 0 ≤ p → p < g 1 (11 : Nat) - 1 → h 11 p = g 11 p) (lP : (¬ op i = 18 ∧ h 1 (11 : Nat) = g 1 (11 : Nat)) ∨ (op i = 18 ∧ h 1 (11 : Nat) = g 1 (11 : Nat) + 1 ∧ h 11 (g 1 (11 : Nat) - 1) = i ∧ h 10 (g 1 (11 : Nat)) = i + 1)) : yI op h (i + 1) := by
  obtain ⟨⟨hP, hD, hn, hF⟩, hB, hC, hE, hH, hX⟩ := H
  have tT : T = -1 ∨ ((0 ≤ T ∧ T < i) ∧ (op T = 9 ∨ op T = 11) ∧ g 9 T = g 1 (11 : Nat) - 1) := by
    rcases hT with e | ⟨k, ⟨k0, k1⟩, e⟩
    · exact Or.inl e
    · have q := hB k k0 k1
      rw [e] at q
      exact Or.inr q
  refine ⟨⟨?_, d0, by omega, ?_⟩, sB, ?_, ?_, ?_, ?_⟩
  · rcases lP with ⟨-, e⟩ | ⟨-, e, -, -⟩ <;> omega
  · rcases lP with ⟨-, e⟩ | ⟨-, e, -, e10⟩
    · rw [e, l10 _ (by omega) (by omega)]
      omega
    · have q : h 1 (11 : Nat) - 1 = g 1 (11 : Nat) := by omega
      rw [q, e10]
      exact Int.le_refl _
  · intro j j0 j1
    by_cases e : j = i
    · rw [e, i6, i9]
      refine ⟨?_, fun z => ?_, fun z => ?_⟩
      · rcases tT with e | ⟨⟨t0, t1⟩, t2, t9⟩
        · exact Or.inl e
        · exact Or.inr ⟨⟨t0, t1⟩, t2, by rw [l9 T t0 t1]; exact t9⟩
      · rcases tT with e | ⟨⟨t0, t1⟩, t2, t9⟩
        · exact absurd e (o10 z).1
        · exact ⟨t0, (o10 z).2⟩
      · rcases tT with e | ⟨⟨t0, t1⟩, t2, t9⟩
        · exact absurd e (o12 z)
        · exact t0
    · have j2 : j < i := by omega
      obtain ⟨c1, c2, c3⟩ := hC j j0 j2
      rw [l6 j j0 j2, l9 j j0 j2]
      refine ⟨?_, c2, c3⟩
      rcases c1 with e | ⟨⟨a, b⟩, c, d⟩
      · exact Or.inl e
      · exact Or.inr ⟨⟨a, b⟩, c, by rw [l9 _ a (by omega)]; exact d⟩
  · intro j j0 j1 o
    by_cases e : j = i
    · rw [e] at o ⊢
      rw [i7]
      exact ⟨Or.inl (si o), Or.inl rfl⟩
    · have j2 : j < i := by omega
      obtain ⟨e1, e2⟩ := hE j j0 j2 o
      have cl : op i = 12 → j = T → h 8 j = i → ((j < h 8 j ∧ h 8 j < i + 1) ∧ op (h 8 j) = 12 ∧ h 9 (h 8 j) = h 9 j) := by
        intro q1 q2 q3
        rw [q3, i9, l9 j j0 j2]
        refine ⟨⟨j2, by omega⟩, q1, ?_⟩
        rcases tT with e | ⟨-, -, t9⟩
        · omega
        · rw [q2]
          exact t9.symm
      refine ⟨?_, ?_⟩
      · rcases e1 with s | ⟨⟨a, b⟩, c, d⟩
        · rcases sl j s with q | ⟨q1, q2⟩
          · exact Or.inl q
          · rcases l8 j j0 j2 with ⟨-, q3⟩ | ⟨-, -, q3⟩
            · exact absurd q2 (q3 q1)
            · exact Or.inr (cl q1 q2 q3)
        · rcases l8 j j0 j2 with ⟨q, -⟩ | ⟨q1, q2, q3⟩
          · refine Or.inr ?_
            rw [q, l9 _ (by omega) b, l9 j j0 j2]
            exact ⟨⟨a, by omega⟩, c, d⟩
          · exact Or.inr (cl q1 q2 q3)
      · rcases l7 j j0 j2 with q | ⟨q1, q2, q3⟩
        · rw [q]
          rcases e2 with e2 | ⟨⟨a, b⟩, c⟩
          · exact Or.inl e2
          · refine Or.inr ⟨⟨a, by omega⟩, ?_⟩
            rcases l8 j j0 j2 with ⟨w1, w2⟩ | ⟨-, -, w⟩
            · rcases c with s | c
              · rcases sl j s with z | ⟨z1, z2⟩
                · exact Or.inl z
                · exact absurd z2 (w2 z1)
              · exact Or.inr (by rw [w1]; exact c)
            · exact Or.inr (by rw [w]; exact b)
        · refine Or.inr ?_
          rw [q3]
          refine ⟨⟨j2, by omega⟩, Or.inl ?_⟩
          rcases hT with t | t
          · exact absurd t (o10 q1).1
          · rw [q2]
            rcases sl T t with z | ⟨z, -⟩
            · exact z
            · omega
  · intro j j0 j1
    by_cases e : j = i
    · rw [e, i9]
      rcases lP with ⟨n18, eP⟩ | ⟨y18, eP, -, -⟩
      · refine ⟨by omega, fun _ => ⟨?_, fun z => by omega⟩⟩
        rw [l10 _ (by omega) (by omega)]
        exact hF
      · exact ⟨by omega, fun z => absurd y18 z⟩
    · have j2 : j < i := by omega
      obtain ⟨⟨a, b⟩, c⟩ := hH j j0 j2
      rw [l9 j j0 j2]
      refine ⟨by rcases lP with ⟨-, e⟩ | ⟨-, e, -, -⟩ <;> omega, fun z => ?_⟩
      obtain ⟨c1, c2⟩ := c z
      rw [l10 _ a (by omega)]
      refine ⟨c1, fun y => ?_⟩
      by_cases q : g 9 j < g 1 (11 : Nat) - 1
      · rw [l11 _ a q]
        exact c2 q
      · rcases lP with ⟨-, e⟩ | ⟨-, e, e11, -⟩
        · omega
        · have q2 : g 9 j = g 1 (11 : Nat) - 1 := by omega
          rw [q2, e11]
          exact j2
  · intro p p0 p1
    by_cases q : p < g 1 (11 : Nat) - 1
    · rw [l11 p p0 q]
      obtain ⟨⟨a, b⟩, c⟩ := hX p p0 q
      exact ⟨⟨a, by omega⟩, c⟩
    · rcases lP with ⟨-, e⟩ | ⟨y, e, e11, -⟩
      · omega
      · have q2 : p = g 1 (11 : Nat) - 1 := by omega
        rw [q2, e11]
        exact ⟨⟨hn, by omega⟩, y⟩
theorem yB_keep {op : Int → Int} {g h : Nat → Int → Int} {i : Int} (hB : yB op g i) (d : h 1 (13 : Nat) ≤ g 1 (13 : Nat)) (e12 : ∀ k, h 12 k = g 12 k) (l9 : ∀ j, 0 ≤ j → j < i → h 9 j = g 9 j) (eP : h 1 (11 : Nat) = g 1 (11 : Nat)) : yB op h (i + 1) := by
  intro k k0 k1
  obtain ⟨⟨a, b⟩, c, e⟩ := hB k k0 (by omega)
  rw [e12, l9 _ a b, eP]
  exact ⟨⟨a, by omega⟩, c, e⟩
theorem yS_keep {g h : Nat → Int → Int} (d : h 1 (13 : Nat) = g 1 (13 : Nat)) (e12 : ∀ k, h 12 k = g 12 k) {j : Int} (s : yS g j) : yS h j := by
  obtain ⟨k, ⟨k0, k1⟩, e⟩ := s
  exact ⟨k, ⟨k0, by omega⟩, by rw [e12]; exact e⟩
theorem yI_go {op : Int → Int} {G : wk_M} {i : Int} (H : yI op G.1 i) (nb : ¬ lyB op G i) : yI op (lyG op G i).1 (i + 1) := by
  have hP := H.1.1
  have hD := H.1.2.1
  have hn := H.1.2.2.1
  have hB := H.2.1
  have hT : lyT G = -1 ∨ yS G.1 (lyT G) := by
    unfold lyT
    split
    · exact Or.inl rfl
    · exact Or.inr ⟨_, ⟨by omega, by omega⟩, rfl⟩
  have hT0 : ¬ G.1 1 (13 : Nat) = 0 → ¬ lyT G = -1 := by
    intro z
    unfold lyT
    rw [if_neg z]
    have := (hB (G.1 1 (13 : Nat) - 1) (by omega) (by omega)).1.1
    omega
  unfold lyB at nb
  by_cases oo : op i = 9 ∨ op i = 11
  · have e : lyG op G i = wk_u (wk_u (lyP G i) 12 (G.1 1 (13 : Nat)) i) 1 (13 : Nat) (G.1 1 (13 : Nat) + 1) := by
      unfold lyG
      rw [if_pos oo]
    rw [e]
    generalize hg : (wk_u (wk_u (lyP G i) 12 (G.1 1 (13 : Nat)) i) 1 (13 : Nat) (G.1 1 (13 : Nat) + 1)).1 = h
    have h6 : ∀ j, h 6 j = if j = i then lyT G else G.1 6 j := by intro j; rw [← hg]; unfold lyP; simp (decide := true) only [wk_u_at, wk_ul_1, and_self, and_true, true_and, and_false, false_and, if_true, if_false]
    have h9 : ∀ j, h 9 j = if j = i then G.1 1 (11 : Nat) - 1 else G.1 9 j := by intro j; rw [← hg]; unfold lyP; simp (decide := true) only [wk_u_at, wk_ul_1, and_self, and_true, true_and, and_false, false_and, if_true, if_false]
    have h7 : ∀ j, h 7 j = if j = i then -1 else G.1 7 j := by intro j; rw [← hg]; unfold lyP; simp (decide := true) only [wk_u_at, wk_ul_1, and_self, and_true, true_and, and_false, false_and, if_true, if_false]
    have h8 : ∀ j, h 8 j = if j = i then -1 else G.1 8 j := by intro j; rw [← hg]; unfold lyP; simp (decide := true) only [wk_u_at, wk_ul_1, and_self, and_true, true_and, and_false, false_and, if_true, if_false]
    have h12 : ∀ j, h 12 j = if j = G.1 1 (13 : Nat) then i else G.1 12 j := by intro j; rw [← hg]; unfold lyP; simp (decide := true) only [wk_u_at, wk_ul_1, and_self, and_true, true_and, and_false, false_and, if_true, if_false]
    have h13 : h 1 (13 : Nat) = G.1 1 (13 : Nat) + 1 := by rw [← hg]; unfold lyP; simp (decide := true) only [wk_u_at, wk_ul_1, and_self, and_true, true_and, and_false, false_and, if_true, if_false]
    have h11 : h 1 (11 : Nat) = G.1 1 (11 : Nat) := by rw [← hg]; unfold lyP; simp (decide := true) only [wk_u_at, wk_ul_1, and_self, and_true, true_and, and_false, false_and, if_true, if_false]
    have h10 : ∀ p, h 10 p = G.1 10 p := by intro p; rw [← hg]; unfold lyP; simp (decide := true) only [wk_u_at, wk_ul_1, and_self, and_true, true_and, and_false, false_and, if_true, if_false]
    have h11' : ∀ p, h 11 p = G.1 11 p := by intro p; rw [← hg]; unfold lyP; simp (decide := true) only [wk_u_at, wk_ul_1, and_self, and_true, true_and, and_false, false_and, if_true, if_false]
    refine yI_step H hT (fun z => by omega) (fun z => by omega) (fun j _ a => by rw [h6, if_neg (by omega)]) (by rw [h6, if_pos rfl]) (fun j _ a => by rw [h9, if_neg (by omega)]) (by rw [h9, if_pos rfl]) (fun j _ a => Or.inl (by rw [h7, if_neg (by omega)])) (by rw [h7, if_pos rfl]) (fun j _ a => Or.inl ⟨by rw [h8, if_neg (by omega)], fun z => by omega⟩) ?_ (fun _ => ⟨G.1 1 (13 : Nat), ⟨hD, by omega⟩, by rw [h12, if_pos rfl]⟩) ?_ (by omega) (fun p _ _ => h10 p) (fun p _ _ => h11' p) (Or.inl ⟨by omega, h11⟩)
    · rintro j ⟨k, ⟨k0, k1⟩, e⟩
      exact Or.inl ⟨k, ⟨k0, by omega⟩, by rw [h12, if_neg (by omega)]; exact e⟩
    · intro k k0 k1
      rw [h12]
      by_cases e : k = G.1 1 (13 : Nat)
      · rw [if_pos e, h9, if_pos rfl, h11]
        exact ⟨⟨hn, by omega⟩, oo, rfl⟩
      · rw [if_neg e]
        obtain ⟨⟨a, b⟩, c, d⟩ := hB k k0 (by omega)
        rw [h9, if_neg (by omega), h11]
        exact ⟨⟨a, by omega⟩, c, d⟩
  · by_cases o10 : op i = 10
    · have e : lyG op G i = wk_u (lyP G i) 7 (lyT G) i := by
        unfold lyG
        rw [if_neg oo, if_pos o10]
      rw [e]
      generalize hg : (wk_u (lyP G i) 7 (lyT G) i).1 = h
      have h6 : ∀ j, h 6 j = if j = i then lyT G else G.1 6 j := by intro j; rw [← hg]; unfold lyP; simp (decide := true) only [wk_u_at, wk_ul_1, and_self, and_true, true_and, and_false, false_and, if_true, if_false]
      have h9 : ∀ j, h 9 j = if j = i then G.1 1 (11 : Nat) - 1 else G.1 9 j := by intro j; rw [← hg]; unfold lyP; simp (decide := true) only [wk_u_at, wk_ul_1, and_self, and_true, true_and, and_false, false_and, if_true, if_false]
      have h7 : ∀ j, h 7 j = if j = lyT G then i else if j = i then -1 else G.1 7 j := by intro j; rw [← hg]; unfold lyP; simp (decide := true) only [wk_u_at, wk_ul_1, and_self, and_true, true_and, and_false, false_and, if_true, if_false]
      have h8 : ∀ j, h 8 j = if j = i then -1 else G.1 8 j := by intro j; rw [← hg]; unfold lyP; simp (decide := true) only [wk_u_at, wk_ul_1, and_self, and_true, true_and, and_false, false_and, if_true, if_false]
      have h12 : ∀ j, h 12 j = G.1 12 j := by intro j; rw [← hg]; unfold lyP; simp (decide := true) only [wk_u_at, wk_ul_1, and_self, and_true, true_and, and_false, false_and, if_true, if_false]
      have h13 : h 1 (13 : Nat) = G.1 1 (13 : Nat) := by rw [← hg]; unfold lyP; simp (decide := true) only [wk_u_at, wk_ul_1, and_self, and_true, true_and, and_false, false_and, if_true, if_false]
      have h11 : h 1 (11 : Nat) = G.1 1 (11 : Nat) := by rw [← hg]; unfold lyP; simp (decide := true) only [wk_u_at, wk_ul_1, and_self, and_true, true_and, and_false, false_and, if_true, if_false]
      have h10 : ∀ p, h 10 p = G.1 10 p := by intro p; rw [← hg]; unfold lyP; simp (decide := true) only [wk_u_at, wk_ul_1, and_self, and_true, true_and, and_false, false_and, if_true, if_false]
      have h11' : ∀ p, h 11 p = G.1 11 p := by intro p; rw [← hg]; unfold lyP; simp (decide := true) only [wk_u_at, wk_ul_1, and_self, and_true, true_and, and_false, false_and, if_true, if_false]
      have nd : ¬ G.1 1 (13 : Nat) = 0 ∧ op (lyT G) = 9 := by omega
      have nT : ¬ lyT G = i := by
        rcases hT with t | ⟨k, ⟨k0, k1⟩, t⟩
        · exact absurd t (hT0 nd.1)
        · have := (hB k k0 k1).1.2
          omega
      refine yI_step H hT (fun _ => ⟨hT0 nd.1, nd.2⟩) (fun z => by omega) (fun j _ a => by rw [h6, if_neg (by omega)]) (by rw [h6, if_pos rfl]) (fun j _ a => by rw [h9, if_neg (by omega)]) (by rw [h9, if_pos rfl]) (fun j _ a => ?_) (by rw [h7, if_neg (fun z => nT z.symm), if_pos rfl]) (fun j _ a => Or.inl ⟨by rw [h8, if_neg (by omega)], fun z => by omega⟩) (fun j s => Or.inl (yS_keep h13 h12 s)) (fun z => by omega) (yB_keep hB (by omega) h12 (fun j _ a => by rw [h9, if_neg (by omega)]) h11) (by omega) (fun p _ _ => h10 p) (fun p _ _ => h11' p) (Or.inl ⟨by omega, h11⟩)
      by_cases e : j = lyT G
      · exact Or.inr ⟨o10, e, by rw [h7, if_pos e]⟩
      · exact Or.inl (by rw [h7, if_neg e, if_neg (by omega)])
    · by_cases o12 : op i = 12
      · have e : lyG op G i = wk_u (wk_u (lyP G i) 8 (lyT G) i) 1 (13 : Nat) (G.1 1 (13 : Nat) - 1) := by
          unfold lyG
          rw [if_neg oo, if_neg o10, if_pos o12]
        rw [e]
        generalize hg : (wk_u (wk_u (lyP G i) 8 (lyT G) i) 1 (13 : Nat) (G.1 1 (13 : Nat) - 1)).1 = h
        have h6 : ∀ j, h 6 j = if j = i then lyT G else G.1 6 j := by intro j; rw [← hg]; unfold lyP; simp (decide := true) only [wk_u_at, wk_ul_1, and_self, and_true, true_and, and_false, false_and, if_true, if_false]
        have h9 : ∀ j, h 9 j = if j = i then G.1 1 (11 : Nat) - 1 else G.1 9 j := by intro j; rw [← hg]; unfold lyP; simp (decide := true) only [wk_u_at, wk_ul_1, and_self, and_true, true_and, and_false, false_and, if_true, if_false]
        have h7 : ∀ j, h 7 j = if j = i then -1 else G.1 7 j := by intro j; rw [← hg]; unfold lyP; simp (decide := true) only [wk_u_at, wk_ul_1, and_self, and_true, true_and, and_false, false_and, if_true, if_false]
        have h8 : ∀ j, h 8 j = if j = lyT G then i else if j = i then -1 else G.1 8 j := by intro j; rw [← hg]; unfold lyP; simp (decide := true) only [wk_u_at, wk_ul_1, and_self, and_true, true_and, and_false, false_and, if_true, if_false]
        have h12 : ∀ j, h 12 j = G.1 12 j := by intro j; rw [← hg]; unfold lyP; simp (decide := true) only [wk_u_at, wk_ul_1, and_self, and_true, true_and, and_false, false_and, if_true, if_false]
        have h13 : h 1 (13 : Nat) = G.1 1 (13 : Nat) - 1 := by rw [← hg]; unfold lyP; simp (decide := true) only [wk_u_at, wk_ul_1, and_self, and_true, true_and, and_false, false_and, if_true, if_false]
        have h11 : h 1 (11 : Nat) = G.1 1 (11 : Nat) := by rw [← hg]; unfold lyP; simp (decide := true) only [wk_u_at, wk_ul_1, and_self, and_true, true_and, and_false, false_and, if_true, if_false]
        have h10 : ∀ p, h 10 p = G.1 10 p := by intro p; rw [← hg]; unfold lyP; simp (decide := true) only [wk_u_at, wk_ul_1, and_self, and_true, true_and, and_false, false_and, if_true, if_false]
        have h11' : ∀ p, h 11 p = G.1 11 p := by intro p; rw [← hg]; unfold lyP; simp (decide := true) only [wk_u_at, wk_ul_1, and_self, and_true, true_and, and_false, false_and, if_true, if_false]
        have nd : ¬ G.1 1 (13 : Nat) = 0 := by omega
        refine yI_step H hT (fun z => by omega) (fun _ => hT0 nd) (fun j _ a => by rw [h6, if_neg (by omega)]) (by rw [h6, if_pos rfl]) (fun j _ a => by rw [h9, if_neg (by omega)]) (by rw [h9, if_pos rfl]) (fun j _ a => Or.inl (by rw [h7, if_neg (by omega)])) (by rw [h7, if_pos rfl]) (fun j _ a => ?_) (fun j s => ?_) (fun z => by omega) (yB_keep hB (by omega) h12 (fun j _ a => by rw [h9, if_neg (by omega)]) h11) (by omega) (fun p _ _ => h10 p) (fun p _ _ => h11' p) (Or.inl ⟨by omega, h11⟩)
        · by_cases e : j = lyT G
          · exact Or.inr ⟨o12, e, by rw [h8, if_pos e]⟩
          · exact Or.inl ⟨by rw [h8, if_neg e, if_neg (by omega)], fun _ => e⟩
        · obtain ⟨k, ⟨k0, k1⟩, e⟩ := s
          by_cases q : k = G.1 1 (13 : Nat) - 1
          · refine Or.inr ⟨o12, ?_⟩
            unfold lyT
            rw [if_neg nd, ← q]
            exact e.symm
          · exact Or.inl ⟨k, ⟨k0, by omega⟩, by rw [h12]; exact e⟩
      · by_cases o18 : op i = 18
        · have e : lyG op G i = wk_u (wk_u (wk_u (lyP G i) 11 (G.1 1 (11 : Nat) - 1) i) 10 (G.1 1 (11 : Nat)) (i + 1)) 1 (11 : Nat) (G.1 1 (11 : Nat) + 1) := by
            unfold lyG
            rw [if_neg oo, if_neg o10, if_neg o12, if_pos o18]
          rw [e]
          generalize hg : (wk_u (wk_u (wk_u (lyP G i) 11 (G.1 1 (11 : Nat) - 1) i) 10 (G.1 1 (11 : Nat)) (i + 1)) 1 (11 : Nat) (G.1 1 (11 : Nat) + 1)).1 = h
          have h6 : ∀ j, h 6 j = if j = i then lyT G else G.1 6 j := by intro j; rw [← hg]; unfold lyP; simp (decide := true) only [wk_u_at, wk_ul_1, and_self, and_true, true_and, and_false, false_and, if_true, if_false]
          have h9 : ∀ j, h 9 j = if j = i then G.1 1 (11 : Nat) - 1 else G.1 9 j := by intro j; rw [← hg]; unfold lyP; simp (decide := true) only [wk_u_at, wk_ul_1, and_self, and_true, true_and, and_false, false_and, if_true, if_false]
          have h7 : ∀ j, h 7 j = if j = i then -1 else G.1 7 j := by intro j; rw [← hg]; unfold lyP; simp (decide := true) only [wk_u_at, wk_ul_1, and_self, and_true, true_and, and_false, false_and, if_true, if_false]
          have h8 : ∀ j, h 8 j = if j = i then -1 else G.1 8 j := by intro j; rw [← hg]; unfold lyP; simp (decide := true) only [wk_u_at, wk_ul_1, and_self, and_true, true_and, and_false, false_and, if_true, if_false]
          have h12 : ∀ j, h 12 j = G.1 12 j := by intro j; rw [← hg]; unfold lyP; simp (decide := true) only [wk_u_at, wk_ul_1, and_self, and_true, true_and, and_false, false_and, if_true, if_false]
          have h13 : h 1 (13 : Nat) = G.1 1 (13 : Nat) := by rw [← hg]; unfold lyP; simp (decide := true) only [wk_u_at, wk_ul_1, and_self, and_true, true_and, and_false, false_and, if_true, if_false]
          have h11 : h 1 (11 : Nat) = G.1 1 (11 : Nat) + 1 := by rw [← hg]; unfold lyP; simp (decide := true) only [wk_u_at, wk_ul_1, and_self, and_true, true_and, and_false, false_and, if_true, if_false]
          have h10 : ∀ p, h 10 p = if p = G.1 1 (11 : Nat) then i + 1 else G.1 10 p := by intro p; rw [← hg]; unfold lyP; simp (decide := true) only [wk_u_at, wk_ul_1, and_self, and_true, true_and, and_false, false_and, if_true, if_false]
          have h11' : ∀ p, h 11 p = if p = G.1 1 (11 : Nat) - 1 then i else G.1 11 p := by intro p; rw [← hg]; unfold lyP; simp (decide := true) only [wk_u_at, wk_ul_1, and_self, and_true, true_and, and_false, false_and, if_true, if_false]
          have nd : G.1 1 (13 : Nat) = 0 := by omega
          refine yI_step H hT (fun z => by omega) (fun z => by omega) (fun j _ a => by rw [h6, if_neg (by omega)]) (by rw [h6, if_pos rfl]) (fun j _ a => by rw [h9, if_neg (by omega)]) (by rw [h9, if_pos rfl]) (fun j _ a => Or.inl (by rw [h7, if_neg (by omega)])) (by rw [h7, if_pos rfl]) (fun j _ a => Or.inl ⟨by rw [h8, if_neg (by omega)], fun z => by omega⟩) (fun j s => Or.inl (yS_keep h13 h12 s)) (fun z => by omega) (fun k k0 k1 => by omega) (by omega) (fun p _ a => by rw [h10, if_neg (by omega)]) (fun p _ a => by rw [h11', if_neg (by omega)]) (Or.inr ⟨o18, h11, by rw [h11', if_pos rfl], by rw [h10, if_pos rfl]⟩)
        · have e : lyG op G i = lyP G i := by
            unfold lyG
            rw [if_neg oo, if_neg o10, if_neg o12, if_neg o18]
          rw [e]
          generalize hg : (lyP G i).1 = h
          have h6 : ∀ j, h 6 j = if j = i then lyT G else G.1 6 j := by intro j; rw [← hg]; unfold lyP; simp (decide := true) only [wk_u_at, wk_ul_1, and_self, and_true, true_and, and_false, false_and, if_true, if_false]
          have h9 : ∀ j, h 9 j = if j = i then G.1 1 (11 : Nat) - 1 else G.1 9 j := by intro j; rw [← hg]; unfold lyP; simp (decide := true) only [wk_u_at, wk_ul_1, and_self, and_true, true_and, and_false, false_and, if_true, if_false]
          have h7 : ∀ j, h 7 j = if j = i then -1 else G.1 7 j := by intro j; rw [← hg]; unfold lyP; simp (decide := true) only [wk_u_at, wk_ul_1, and_self, and_true, true_and, and_false, false_and, if_true, if_false]
          have h8 : ∀ j, h 8 j = if j = i then -1 else G.1 8 j := by intro j; rw [← hg]; unfold lyP; simp (decide := true) only [wk_u_at, wk_ul_1, and_self, and_true, true_and, and_false, false_and, if_true, if_false]
          have h12 : ∀ j, h 12 j = G.1 12 j := by intro j; rw [← hg]; unfold lyP; simp (decide := true) only [wk_u_at, wk_ul_1, and_self, and_true, true_and, and_false, false_and, if_true, if_false]
          have h13 : h 1 (13 : Nat) = G.1 1 (13 : Nat) := by rw [← hg]; unfold lyP; simp (decide := true) only [wk_u_at, wk_ul_1, and_self, and_true, true_and, and_false, false_and, if_true, if_false]
          have h11 : h 1 (11 : Nat) = G.1 1 (11 : Nat) := by rw [← hg]; unfold lyP; simp (decide := true) only [wk_u_at, wk_ul_1, and_self, and_true, true_and, and_false, false_and, if_true, if_false]
          have h10 : ∀ p, h 10 p = G.1 10 p := by intro p; rw [← hg]; unfold lyP; simp (decide := true) only [wk_u_at, wk_ul_1, and_self, and_true, true_and, and_false, false_and, if_true, if_false]
          have h11' : ∀ p, h 11 p = G.1 11 p := by intro p; rw [← hg]; unfold lyP; simp (decide := true) only [wk_u_at, wk_ul_1, and_self, and_true, true_and, and_false, false_and, if_true, if_false]
          exact yI_step H hT (fun z => by omega) (fun z => by omega) (fun j _ a => by rw [h6, if_neg (by omega)]) (by rw [h6, if_pos rfl]) (fun j _ a => by rw [h9, if_neg (by omega)]) (by rw [h9, if_pos rfl]) (fun j _ a => Or.inl (by rw [h7, if_neg (by omega)])) (by rw [h7, if_pos rfl]) (fun j _ a => Or.inl ⟨by rw [h8, if_neg (by omega)], fun z => by omega⟩) (fun j s => Or.inl (yS_keep h13 h12 s)) (fun z => by omega) (yB_keep hB (by omega) h12 (fun j _ a => by rw [h9, if_neg (by omega)]) h11) (by omega) (fun p _ _ => h10 p) (fun p _ _ => h11' p) (Or.inl ⟨by omega, h11⟩)
theorem yI_zero {op : Int → Int} : yI op (lyI op 0).1 0 := by
  generalize hg : (lyI op 0).1 = h
  have h11 : h 1 (11 : Nat) = 1 := by
    rw [← hg]
    show (wk_u (wk_u (wk_u lyZ 1 (13 : Nat) 0) 1 (11 : Nat) 1) 10 0 0).1 1 (11 : Nat) = 1
    simp (decide := true) only [wk_u_at, wk_ul_1, and_self, and_true, true_and, and_false, false_and, if_true, if_false]
  have h13 : h 1 (13 : Nat) = 0 := by
    rw [← hg]
    show (wk_u (wk_u (wk_u lyZ 1 (13 : Nat) 0) 1 (11 : Nat) 1) 10 0 0).1 1 (13 : Nat) = 0
    simp (decide := true) only [wk_u_at, wk_ul_1, and_self, and_true, true_and, and_false, false_and, if_true, if_false]
  have h10 : h 10 0 = 0 := by
    rw [← hg]
    show (wk_u (wk_u (wk_u lyZ 1 (13 : Nat) 0) 1 (11 : Nat) 1) 10 0 0).1 10 0 = 0
    simp (decide := true) only [wk_u_at, wk_ul_1, and_self, and_true, true_and, and_false, false_and, if_true, if_false]
  have e : h 1 (11 : Nat) - 1 = 0 := by omega
  refine ⟨⟨by omega, by omega, by omega, by rw [e, h10]; exact Int.le_refl _⟩, fun k k0 k1 => by omega, fun j j0 j1 => by omega, fun j j0 j1 => by omega, fun j j0 j1 => by omega, fun p p0 p1 => by omega⟩
theorem yI_all {op : Int → Int} : ∀ n : Nat, (∀ j : Int, 0 ≤ j → j < (n : Int) → ¬ lyB op (lyI op j.toNat) j) → yI op (lyI op n).1 (n : Int)
  | 0, _ => yI_zero
  | n + 1, h => by
    have q := yI_go (yI_all n (fun j j0 j1 => h j j0 (by omega))) (by have q := h (n : Int) (by omega) (by omega); rw [Int.toNat_natCast] at q; exact q)
    have e : ((n + 1 : Nat) : Int) = (n : Int) + 1 := by omega
    rw [e]
    exact q
/-- the tables of a structure that stands: every instruction but PROC lies in its procedure; what is around it; what an IF or WHILE opens is closed; an EXIT is a PROC's number or the end -/
def yW (op : Int → Int) (c P : Int) (a6 a7 a8 a9 a10 a11 : Int → Int) : Prop := (∀ j, 0 ≤ j → j < c → ¬ op j = 18 → (0 ≤ a9 j ∧ a9 j < P) ∧ a10 (a9 j) ≤ j ∧ j < a11 (a9 j)) ∧ (∀ j, 0 ≤ j → j < c → (a6 j = -1 ∨ ((0 ≤ a6 j ∧ a6 j < j) ∧ (op (a6 j) = 9 ∨ op (a6 j) = 11) ∧ a9 (a6 j) = a9 j)) ∧ (op j = 10 → 0 ≤ a6 j ∧ op (a6 j) = 9) ∧ (op j = 12 → 0 ≤ a6 j)) ∧ (∀ j, 0 ≤ j → j < c → (op j = 9 ∨ op j = 11) → (j < a8 j ∧ a8 j < c) ∧ op (a8 j) = 12 ∧ a9 (a8 j) = a9 j ∧ (a7 j = -1 ∨ (j < a7 j ∧ a7 j < a8 j))) ∧ (∀ p, 0 ≤ p → p < P → a11 p = c ∨ ((0 ≤ a11 p ∧ a11 p < c) ∧ op (a11 p) = 18))
theorem yW_of {op : Int → Int} {c P : Int} {a6 a7 a8 a9 a10 a11 : Int → Int} (c0 : 0 ≤ c) (hS : lyS op c (-1)) (hz : sZ (lyI op c.toNat) c P a6 a7 a8 a9 a10 a11) : yW op c P a6 a7 a8 a9 a10 a11 := by
  have hS : (∀ j, 0 ≤ j → j < c → ¬ lyB op (lyI op j.toNat) j) ∧ (lyI op c.toNat).1 1 (13 : Nat) = 0 := by
    rcases hS with ⟨⟨a, -⟩, -, -⟩ | ⟨a, ⟨b, -⟩ | ⟨-, b⟩⟩
    · exact absurd a (by decide)
    · exfalso
      omega
    · exact ⟨a, b⟩
  have ec : ((c.toNat : Nat) : Int) = c := Int.toNat_of_nonneg c0
  have hI := yI_all c.toNat (fun j j0 j1 => hS.1 j j0 (by omega))
  rw [ec] at hI
  have h13 := hS.2
  clear hS
  unfold sZ at hz
  generalize (lyI op c.toNat).1 = g at hI hz h13
  obtain ⟨z1, z2, z3, z4⟩ := hz
  obtain ⟨⟨hP, hD, hn, hF⟩, hB, hC, hE, hH, hX⟩ := hI
  have nS : ∀ j, ¬ yS g j := fun j ⟨k, ⟨k0, k1⟩, _⟩ => by omega
  refine ⟨fun j j0 j1 o => ?_, fun j j0 j1 => ?_, fun j j0 j1 o => ?_, fun p p0 p1 => ?_⟩
  · obtain ⟨⟨a, b⟩, q⟩ := hH j j0 j1
    obtain ⟨q1, q2⟩ := q o
    rw [(z2 j j0 j1).2.2.2, z3 _ a (by omega), z4 _ a (by omega)]
    refine ⟨⟨a, by omega⟩, q1, ?_⟩
    split
    · exact j1
    · exact q2 (by omega)
  · obtain ⟨c1, c2, c3⟩ := hC j j0 j1
    rw [(z2 j j0 j1).1, (z2 j j0 j1).2.2.2]
    refine ⟨?_, c2, c3⟩
    rcases c1 with e | ⟨⟨a, b⟩, c, d⟩
    · exact Or.inl e
    · exact Or.inr ⟨⟨a, b⟩, c, by rw [(z2 _ a (by omega)).2.2.2]; exact d⟩
  · obtain ⟨e1, e2⟩ := hE j j0 j1 o
    rcases e1 with e1 | ⟨⟨a, b⟩, e, d⟩
    · exact absurd e1 (nS j)
    · rw [(z2 j j0 j1).2.2.1, (z2 j j0 j1).2.1, (z2 j j0 j1).2.2.2, (z2 _ (by omega) b).2.2.2]
      refine ⟨⟨a, b⟩, e, d, ?_⟩
      rcases e2 with e2 | ⟨⟨x, y⟩, e2⟩
      · exact Or.inl e2
      · rcases e2 with e2 | e2
        · exact absurd e2 (nS j)
        · exact Or.inr ⟨x, e2⟩
  · rw [z4 p p0 p1]
    split
    · exact Or.inl rfl
    · exact Or.inr (hX p p0 (by omega))
