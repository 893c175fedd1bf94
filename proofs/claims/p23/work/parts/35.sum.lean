/-! p23, PURE: the accounts add up, whatever the film does. -/
def smA (a : Nat → Int32) : Prop := a 0 = a 1 + a 2 + a 3 + a 4 + a 5 + a 6
def SM (F : FD) : Prop := smA (FD.ac F)
theorem smA_1 {a : Nat → Int32} {x : Int32} (c : Nat) (hc : c = 2 ∨ c = 4 ∨ c = 5 ∨ c = 6) (h : smA a) : smA (upd (upd a 1 (a 1 - x)) c (a c + x)) := by
  have h : a 0 = a 1 + a 2 + a 3 + a 4 + a 5 + a 6 := h
  rcases hc with rfl | rfl | rfl | rfl
  · show a 0 = (a 1 - x) + (a 2 + x) + a 3 + a 4 + a 5 + a 6
    rw [h]; grind
  · show a 0 = (a 1 - x) + a 2 + a 3 + (a 4 + x) + a 5 + a 6
    rw [h]; grind
  · show a 0 = (a 1 - x) + a 2 + a 3 + a 4 + (a 5 + x) + a 6
    rw [h]; grind
  · show a 0 = (a 1 - x) + a 2 + a 3 + a 4 + a 5 + (a 6 + x)
    rw [h]; grind
theorem smA_23 {a : Nat → Int32} {x : Int32} (h : smA a) : smA (upd (upd a 2 (a 2 - x)) 3 (a 3 + x)) := by
  have h : a 0 = a 1 + a 2 + a 3 + a 4 + a 5 + a 6 := h
  show a 0 = a 1 + (a 2 - x) + (a 3 + x) + a 4 + a 5 + a 6
  rw [h]; grind
theorem smA_01 {a : Nat → Int32} {x : Int32} (h : smA a) : smA (upd (upd a 0 (a 0 + x)) 1 (a 1 + x)) := by
  have h : a 0 = a 1 + a 2 + a 3 + a 4 + a 5 + a 6 := h
  show a 0 + x = (a 1 + x) + a 2 + a 3 + a 4 + a 5 + a 6
  rw [h]; grind
theorem sm_move {k : Nat} {F F' : FD} {x : Int32} (c : Nat) (hc : c = 2 ∨ c = 4 ∨ c = 5 ∨ c = 6) (h : p_X0_move k F 1 (nI c) x = some F') (hs : SM F) : SM F' := by
  rw [q_move (by omega) (by omega)] at h
  obtain rfl := Option.some.inj h
  exact smA_1 c hc hs
theorem sm_move23 {k : Nat} {F F' : FD} {x : Int32} (h : p_X0_move k F 2 3 x = some F') (hs : SM F) : SM F' := by
  unfold p_X0_move at h
  rw [a7_2, Option.bind_some, s7_2, Option.bind_some, a7_3, Option.bind_some, s7_3, Option.bind_some] at h
  obtain rfl := Option.some.inj h
  exact smA_23 hs
theorem sm_bring {k : Nat} {F F' : FD} {x : Int32} (h : p_X0_bring k F x = some F') (hs : SM F) : SM F' := by
  unfold p_X0_bring at h
  rw [a7_0, Option.bind_some, s7_0, Option.bind_some, a7_1, Option.bind_some, s7_1, Option.bind_some] at h
  obtain rfl := Option.some.inj h
  exact smA_01 hs
theorem sm_lose {k : Nat} {F F' : FD} {x1 x2 v : Int32} (c : Nat) (hc : c = 2 ∨ c = 4 ∨ c = 5 ∨ c = 6) (h : p_X0_loseFrom k F x1 x2 (nI c) = some (v, F')) (hs : SM F) : SM F' := by
  unfold p_X0_loseFrom at h
  obtain ⟨v1, -, h⟩ := bnd h
  obtain ⟨v2, -, h⟩ := bnd h
  obtain ⟨f3, -, h⟩ := bnd h
  obtain ⟨F4, h4, h⟩ := bnd h
  obtain ⟨-, rfl⟩ := inj2 h
  exact sm_move c hc h4 hs
theorem sm_append {k : Nat} {F F' : FD} {x : Int32} (h : p_X0_appendRow k F x = some F') (hs : SM F) : SM F' := by
  unfold p_X0_appendRow at h
  split at h
  · obtain rfl := Option.some.inj h
    exact hs
  · obtain ⟨f2, -, h⟩ := bnd h
    obtain ⟨F3, h3, h⟩ := bnd h
    obtain rfl := Option.some.inj h
    exact sm_bring h3 hs
theorem sm_end {k : Nat} {F F' : FD} (c : Nat) (hc : c = 2 ∨ c = 4 ∨ c = 5 ∨ c = 6) (h : p_X0_endFilm k F (nI c) = some F') (hs : SM F) : SM F' := by
  unfold p_X0_endFilm at h
  obtain ⟨v1, -, h⟩ := bnd h
  obtain ⟨F2, h2, h⟩ := bnd h
  obtain rfl := Option.some.inj h
  have q : SM F2 := sm_move c hc h2 hs
  exact q
theorem sm_away {k : Nat} {F F' : FD} (h : p_X0_takeAway k F = some F') (hs : SM F) : SM F' := by
  unfold p_X0_takeAway at h
  obtain ⟨F2, h2, h⟩ := bnd h
  obtain rfl := Option.some.inj h
  exact sm_end 6 (by decide) (show p_X0_endFilm k F (nI 6) = _ from h2) hs
theorem sm_give {k : Nat} {F F' : FD} {x1 x2 : Int32} (h : p_X0_giveDown k F x1 x2 = some F') (hs : SM F) : SM F' := by
  unfold p_X0_giveDown at h
  split at h
  · obtain ⟨v, F9, h9, h⟩ := bnd2 h
    obtain rfl := Option.some.inj h
    exact sm_lose 2 (by decide) (show p_X0_loseFrom k F x1 x2 (nI 2) = _ from h9) hs
  · obtain ⟨_, -, h⟩ := bnd h
    obtain ⟨_, -, h⟩ := bnd h
    obtain ⟨_, -, h⟩ := bnd h
    obtain ⟨_, -, h⟩ := bnd h
    obtain ⟨_, -, h⟩ := bnd h
    obtain ⟨_, -, h⟩ := bnd h
    obtain rfl := Option.some.inj h
    exact hs
theorem sm_drainL {k : Nat} : ∀ (n : Nat) (F F' : FD) (x : Int32), p_X0_drain_L7 k n F x = some F' → SM F → SM F'
  | 0, F, F', x, h, hs => by rw [p_X0_drain_L7] at h; cases h
  | n + 1, F, F', x, h, hs => by
    rw [p_X0_drain_L7] at h
    split at h
    · obtain rfl := Option.some.inj h
      exact hs
    · obtain ⟨_, -, h⟩ := bnd h
      obtain ⟨_, -, h⟩ := bnd h
      obtain ⟨_, -, h⟩ := bnd h
      obtain ⟨F5, h5, h⟩ := bnd h
      exact sm_drainL n F5 F' _ h (sm_give h5 hs)
theorem sm_edgesL {k : Nat} : ∀ (n : Nat) (F F' : FD) (x1 x2 x3 : Int32), p_X0_runEdges_L25 k n F x1 x2 x3 = some F' → SM F → SM F'
  | 0, F, F', x1, x2, x3, h, hs => by rw [p_X0_runEdges_L25] at h; cases h
  | n + 1, F, F', x1, x2, x3, h, hs => by
    have inner : ∀ b : Int32, (if x1 = 0 then (p_X0_runEdges_L25 k n F x2 b (x3 + 1)) else (if x2 = 0 then ((ald (FD.st F) 7 2).bind fun v5 => (p_X0_giveDown k F x3 v5).bind fun F6 => p_X0_runEdges_L25 k n F6 x2 b (x3 + 1)) else (p_X0_runEdges_L25 k n F x2 b (x3 + 1)))) = some F' → SM F' := by
      intro b h
      split at h
      · exact sm_edgesL n F F' _ _ _ h hs
      · split at h
        · obtain ⟨_, -, h⟩ := bnd h
          obtain ⟨F6, h6, h⟩ := bnd h
          exact sm_edgesL n F6 F' _ _ _ h (sm_give h6 hs)
        · exact sm_edgesL n F F' _ _ _ h hs
    rw [p_X0_runEdges_L25] at h
    by_cases c1 : FD.rows F ≤ x3
    · rw [if_pos c1] at h
      obtain rfl := Option.some.inj h
      exact hs
    · rw [if_neg c1] at h
      by_cases c2 : FD.rows F ≤ x3 + 1
      · rw [if_pos c2] at h
        exact inner 0 h
      · rw [if_neg c2] at h
        obtain ⟨v7, -, h⟩ := bnd h
        by_cases c3 : v7 = 0
        · exact inner 0 (ifT h c3)
        · exact inner 1 (ifF h c3)
theorem sm_dryL {k : Nat} : ∀ (n : Nat) (F F' : FD) (x : Int32), p_X0_dry_L2 k n F x = some F' → SM F → SM F'
  | 0, F, F', x, h, hs => by rw [p_X0_dry_L2] at h; cases h
  | n + 1, F, F', x, h, hs => by
    rw [p_X0_dry_L2] at h
    split at h
    · obtain rfl := Option.some.inj h
      exact hs
    · obtain ⟨v2, -, h⟩ := bnd h
      obtain ⟨_, F4, h4, h⟩ := bnd2 h
      exact sm_dryL n F4 F' _ h (sm_lose 4 (by decide) (show p_X0_loseFrom k F x v2 (nI 4) = _ from h4) hs)
theorem sm_fall {k : Nat} {F F' : FD} (h : p_X0_letDropFall k F = some F') (hs : SM F) : SM F' := by
  unfold p_X0_letDropFall at h
  obtain ⟨_, -, h⟩ := bnd h
  obtain ⟨_, -, h⟩ := bnd h
  split at h
  · obtain rfl := Option.some.inj h
    exact hs
  · obtain ⟨_, -, h⟩ := bnd h
    obtain ⟨F5, h5, h⟩ := bnd h
    obtain rfl := Option.some.inj h
    have q : SM F5 := sm_move23 h5 hs
    exact q
theorem sm_burst {k : Nat} {F F' : FD} {x1 x2 : Int32} (h : p_X0_burst k F x1 x2 = some F') (hs : SM F) : SM F' := by
  unfold p_X0_burst at h
  obtain ⟨F1, h1, h⟩ := bnd h
  obtain rfl := Option.some.inj h
  have q : SM F1 := sm_end 5 (by decide) (show p_X0_endFilm k F (nI 5) = _ from h1) hs
  exact q
theorem sm_due {k : Nat} {F F' : FD} (h : p_X0_burstIfDue k F = some F') (hs : SM F) : SM F' := by
  unfold p_X0_burstIfDue at h
  obtain ⟨_, -, h⟩ := bnd h
  obtain ⟨_, -, h⟩ := bnd h
  split at h
  · obtain ⟨_, -, h⟩ := bnd h
    split at h
    · obtain rfl := Option.some.inj h
      exact hs
    · obtain ⟨F6, h6, h⟩ := bnd h
      obtain rfl := Option.some.inj h
      exact sm_burst h6 hs
  · obtain ⟨F6, h6, h⟩ := bnd h
    obtain rfl := Option.some.inj h
    exact sm_burst h6 hs
theorem sm_edges {k : Nat} {F F' : FD} (h : p_X0_runEdges k F = some F') (hs : SM F) : SM F' := by
  unfold p_X0_runEdges at h
  split at h
  · exact sm_edgesL _ _ _ _ _ _ h hs
  · obtain ⟨v, -, h⟩ := bnd h
    by_cases c : v = 0
    · exact sm_edgesL _ _ _ _ _ _ (ifT h c) hs
    · exact sm_edgesL _ _ _ _ _ _ (ifF h c) hs
theorem sm_tick {k : Nat} {F F' : FD} (h : p_X0_tick k F = some F') (hs : SM F) : SM F' := by
  unfold p_X0_tick at h
  split at h
  · obtain rfl := Option.some.inj h
    exact hs
  · obtain ⟨F2, h2, h⟩ := bnd h
    obtain ⟨F3, h3, h⟩ := bnd h
    obtain ⟨F4, h4, h⟩ := bnd h
    obtain ⟨F5, h5, h⟩ := bnd h
    obtain ⟨F6, h6, h⟩ := bnd h
    obtain rfl := Option.some.inj h
    have q : SM F6 := sm_due h6 (sm_fall h5 (sm_dryL _ _ _ _ h4 (sm_edges h3 (sm_drainL _ _ _ _ h2 hs))))
    exact q
theorem sum_le {t : Nat → Nat} : ∀ n, (∀ j, j < n → t j ≤ 5000) → sumN t n ≤ 5000 * n
  | 0, _ => Nat.le_refl 0
  | n + 1, h => by
    show sumN t n + t n ≤ 5000 * (n + 1)
    have h1 := sum_le (t := t) n (fun j hj => h j (by omega))
    have h2 := h n (by omega)
    omega
theorem nI_nn {a : Nat} (h : a < 2 ^ 31) : (0 : Int32) ≤ nI a := by
  rw [Int32.le_iff_toInt_le, nI_toInt h]
  exact Int.natCast_nonneg a
theorem RF_ac {F : FD} {m : Nat → Int32} {n : Nat} {t u : Nat → Nat} (h : RF F m n t u) : 0 ≤ FD.ac F 1 := by
  rw [h.2.2.2.2.2.2]
  have h1 := sum_le (t := t) n (fun j hj => (h.2.2.1 j hj).2.2)
  have h2 := h.1
  exact nI_nn (by omega)
