/-! PURE PART: the trials. -/
def qu (x0 x1 : Int32) : Int32 := if x0 = 0 then (if x1 = 0 then 1 else 0) else if x0 = 1 then bet x1 1 24 else if x0 = 2 then bet x1 0 7 else if x0 = 3 then bet x1 1 100 else 0
theorem bet01 (x a b : Int32) : (if bet x a b = 0 then some 0 else some 1) = some (bet x a b) := by
  unfold bet
  by_cases h : x < a
  · rw [if_pos h, if_pos rfl]
  · rw [if_neg h]
    by_cases h2 : b < x
    · rw [if_pos h2, if_pos rfl]
    · rw [if_neg h2, if_neg (by decide)]
theorem q_qu (k : Nat) (x0 x1 : Int32) : p_X4_isQuestion k x0 x1 = some (qu x0 x1) := by
  unfold p_X4_isQuestion qu
  by_cases c0 : x0 = 0
  · rw [if_pos c0, if_pos c0]
    split <;> rfl
  rw [if_neg c0, if_neg c0]
  by_cases c1 : x0 = 1
  · rw [if_pos c1, if_pos c1, q_bet]
    rfl
  rw [if_neg c1, if_neg c1]
  by_cases c2 : x0 = 2
  · rw [if_pos c2, if_pos c2, q_isC]
    rfl
  rw [if_neg c2, if_neg c2]
  by_cases c3 : x0 = 3
  · rw [if_pos c3, if_pos c3, q_bet]
    rfl
  rw [if_neg c3, if_neg c3]
theorem q_qu5 (k : Nat) (x0 x1 : Int32) : p_X5_isQuestion k x0 x1 = some (qu x0 x1) := by
  unfold p_X5_isQuestion qu
  by_cases c0 : x0 = 0
  · rw [if_pos c0, if_pos c0]
    split <;> rfl
  rw [if_neg c0, if_neg c0]
  by_cases c1 : x0 = 1
  · rw [if_pos c1, if_pos c1, q_in]
    rfl
  rw [if_neg c1, if_neg c1]
  by_cases c2 : x0 = 2
  · rw [if_pos c2, if_pos c2, q_isC5]
    rfl
  rw [if_neg c2, if_neg c2]
  by_cases c3 : x0 = 3
  · rw [if_pos c3, if_pos c3, q_in, Option.bind_some]
    exact bet01 x1 1 100
  rw [if_neg c3, if_neg c3]
/-- is it so: both sides alike -/
theorem q_isSo {k n : Nat} {u t : Nat → Nat} {F G : FD} {M : MD} {x1 x2 : Int32} (hk : 100 ≤ k) (h : RF G (MD.st M) n t u) (ha : MD.aside M 9 = FD.drops F) (hq : ¬ qu x1 x2 = 0) :
    ∃ v : Int32, p_X4_isSo k F G x1 x2 = some v ∧ p_X5_isSo k M x1 x2 = some v ∧ (v = 0 ∨ v = 1) := by
  obtain ⟨hn, hrows, hth, hst, hu0, ⟨m0, m1, m2, m3, m4, m5, m6, m7, m8, m9, -⟩, hac⟩ := id h
  unfold p_X4_isSo p_X5_isSo
  by_cases c0 : x1 = 0
  · rw [if_pos c0, if_pos c0, a44_0, Option.bind_some, hrows, m0]
    by_cases d : nI n = 0
    · exact ⟨_, if_pos d, if_pos d, Or.inr rfl⟩
    · exact ⟨_, if_neg d, if_neg d, Or.inl rfl⟩
  rw [if_neg c0, if_neg c0]
  by_cases c1 : x1 = 1
  · rw [if_pos c1, if_pos c1, q_black hk h, q_ones hk h, Option.bind_some, Option.bind_some, q_bits hk _ hn, Option.bind_some]
    by_cases d : nI (cntB (bk t u) n) < x2
    · exact ⟨_, if_pos d, if_pos d, Or.inl rfl⟩
    · exact ⟨_, if_neg d, if_neg d, Or.inr rfl⟩
  rw [if_neg c1, if_neg c1]
  by_cases c2 : x1 = 2
  · rw [if_pos c2, if_pos c2, hrows, a44_0, Option.bind_some, m0]
    by_cases d : n = 0
    · subst d
      rw [if_pos (show nI 0 ≤ 0 by decide), if_pos (show nI 0 ≤ 0 by decide)]
      exact ⟨_, rfl, rfl, Or.inl rfl⟩
    · have d' : ¬ nI n ≤ 0 := nI_nle (by omega) (by omega)
      rw [if_neg d', if_neg d', show p_X0_colourAt k G 0 = some (cl t u 0) from q_cA (r := 0) h (by omega), show p_X5_colourAt k M 0 = some (cl t u 0) from q_cA5 (r := 0) h (by omega), Option.bind_some]
      by_cases e : cl t u 0 = x2
      · exact ⟨_, if_pos e, if_pos e, Or.inr rfl⟩
      · exact ⟨_, if_neg e, if_neg e, Or.inl rfl⟩
  rw [if_neg c2, if_neg c2]
  have c3 : x1 = 3 := by
    by_cases c3 : x1 = 3
    · exact c3
    · exfalso
      apply hq
      unfold qu
      rw [if_neg c0, if_neg c1, if_neg c2, if_neg c3]
  rw [if_pos c3, a44_9, Option.bind_some, a44_9, Option.bind_some, m9, ha]
  by_cases d : FD.drops G - FD.drops F < x2
  · exact ⟨_, if_pos d, if_pos d, Or.inl rfl⟩
  · exact ⟨_, if_neg d, if_neg d, Or.inr rfl⟩
/-- with no film the answer stays, whatever the clock says -/
theorem so_dead {k : Nat} {M : MD} {x1 x2 z : Int32} (hk : 100 ≤ k) (m0 : MD.st M 0 = nI 0) : p_X5_isSo k (wst M (upd (MD.st M) 1 z)) x1 x2 = p_X5_isSo k M x1 x2 := by
  obtain ⟨k, rfl⟩ : ∃ k', k = k' + 1 := ⟨k - 1, by omega⟩
  have e0 : upd (MD.st M) 1 z 0 = MD.st M 0 := un (by decide)
  have e9 : upd (MD.st M) 1 z 9 = MD.st M 9 := un (by decide)
  unfold p_X5_isSo p_X5_blackOnes
  rw [p_X5_blackOnes_L4, p_X5_blackOnes_L4]
  simp only [wst_st, a44_0, a44_9, Option.bind_some, e0, e9, m0]
  rw [if_pos (show nI 0 ≤ 0 by decide), if_pos (show nI 0 ≤ 0 by decide)]
  rfl
theorem q_tick0 {k : Nat} {M : MD} (m0 : MD.st M 0 = nI 0) : p_X5_tick k M = some (0, wst M (upd (MD.st M) 1 (MD.st M 1 + 1))) := by
  unfold p_X5_tick
  rw [a44_0, Option.bind_some, m0, if_pos (show nI 0 ≤ 0 by decide), a44_1, Option.bind_some, s44_1, Option.bind_some]
  rfl
theorem n1000 {i : Nat} (h : i ≤ 1000) : ¬ (1000 : Int32) < nI i := nI_nlt (a := 1000) (b := i) h (by decide)
theorem y1000 {i : Nat} (h : 1000 < i) (h2 : i < 2 ^ 31) : (1000 : Int32) < nI i := nI_lt (a := 1000) h h2
theorem deadL {k : Nat} (hk : 100 ≤ k) {y1 y2 : Int32} : ∀ (d i f : Nat) (M : MD), MD.st M 0 = nI 0 → p_X5_isSo k M y1 y2 = some 0 → i + d = 1001 → d < f →
    ∃ m' : Nat → Int32, p_X5_until_L20 k y1 y2 f M (-4) (nI i) = some (-4, wst M m') ∧ ∀ j, j < 44 → m' j = MD.aside M j
  | 0, i, f, M, m0, hs, hd, hf => by
    obtain ⟨f, rfl⟩ : ∃ f', f = f' + 1 := ⟨f - 1, by omega⟩
    obtain ⟨g, e1, e2⟩ := q_back hk M
    refine ⟨g, ?_, e2⟩
    rw [p_X5_until_L20, if_pos (y1000 (by omega) (by omega)), e1]
    rfl
  | d + 1, i, f, M, m0, hs, hd, hf => by
    obtain ⟨f, rfl⟩ : ∃ f', f = f' + 1 := ⟨f - 1, by omega⟩
    obtain ⟨m', e1, e2⟩ := deadL hk d (i + 1) f (wst M (upd (MD.st M) 1 (MD.st M 1 + 1))) ((show upd (MD.st M) 1 (MD.st M 1 + 1) 0 = MD.st M 0 from un (by decide)).trans m0) ((so_dead hk m0).trans hs) (by omega) (by omega)
    refine ⟨m', ?_, e2⟩
    rw [p_X5_until_L20, if_neg (n1000 (by omega)), if_neg (show ¬ (0 : Int32) ≤ -4 by decide), hs, Option.bind_some, if_pos rfl, q_tick0 m0, b2, nI_1]
    exact e1
theorem untilL {k : Nat} {u : Nat → Nat} {F : FD} {y1 y2 : Int32} (hk : 100 ≤ k) (hq : ¬ qu y1 y2 = 0) : ∀ (d i f g : Nat) (G : FD) (M : MD) (n : Nat) (t : Nat → Nat), RF G (MD.st M) n t u → MD.aside M 9 = FD.drops F → p_X5_isSo k M y1 y2 = some 0 → i + d = 1000 → d < f → d + 3 < g →
    ∃ (r : Int32) (G' : FD) (m' : Nat → Int32), p_X4_until_L34 k F y1 y2 f G (nI (i + 1)) = some (r, G') ∧ p_X5_until_L20 k y1 y2 g M (-4) (nI i) = some (r, wst M m') ∧ ∀ j, j < 44 → m' j = MD.aside M j
  | 0, i, f, g, G, M, n, t, h, ha, hs, hd, hf, hg => by
    obtain ⟨f, rfl⟩ : ∃ f', f = f' + 1 := ⟨f - 1, by omega⟩
    obtain ⟨g, rfl⟩ : ∃ g', g = g' + 2 := ⟨g - 2, by omega⟩
    obtain ⟨F1, m1, n1, t1, e1, e2, h1, -⟩ := tickR (k := k) hk h
    obtain ⟨m', e3, e4⟩ := q_back hk (wst M m1)
    refine ⟨-4, G, m', ?_, ?_, e4⟩
    · rw [p_X4_until_L34, if_pos (y1000 (by omega) (by omega))]
    · rw [p_X5_until_L20, if_neg (n1000 (by omega)), if_neg (show ¬ (0 : Int32) ≤ -4 by decide), hs, Option.bind_some, if_pos rfl, e2, b2, nI_1, p_X5_until_L20, if_pos (y1000 (by omega) (by omega)), e3]
      rfl
  | d + 1, i, f, g, G, M, n, t, h, ha, hs, hd, hf, hg => by
    obtain ⟨f, rfl⟩ : ∃ f', f = f' + 1 := ⟨f - 1, by omega⟩
    have hn := h.1
    have m0 : MD.st M 0 = nI n := h.2.2.2.2.2.1.1
    rw [p_X4_until_L34, if_neg (n1000 (by omega)), h.2.1]
    by_cases c : n = 0
    · subst c
      rw [if_pos (show nI 0 ≤ 0 by decide)]
      obtain ⟨m', e1, e2⟩ := deadL (y1 := y1) (y2 := y2) hk (d + 2) i g M m0 hs (by omega) (by omega)
      exact ⟨-4, G, m', rfl, e1, e2⟩
    · rw [if_neg (nI_nle (by omega) (by omega))]
      obtain ⟨g, rfl⟩ : ∃ g', g = g' + 1 := ⟨g - 1, by omega⟩
      obtain ⟨F1, m1, n1, t1, e1, e2, h1, -⟩ := tickR (k := k) hk h
      obtain ⟨v, e3, e4, hv⟩ := q_isSo (x1 := y1) (x2 := y2) (F := F) (M := wst M m1) hk h1 ha hq
      rw [e1, Option.bind_some, e3, Option.bind_some, p_X5_until_L20, if_neg (n1000 (by omega)), if_neg (show ¬ (0 : Int32) ≤ -4 by decide), hs, Option.bind_some, if_pos rfl, e2, b2, nI_1]
      rcases hv with rfl | rfl
      · rw [if_pos rfl, nI_1]
        obtain ⟨r, G', m', e5, e6, e7⟩ := untilL hk hq d (i + 1) f g F1 (wst M m1) n1 t1 h1 ha e4 (by omega) (by omega) (by omega)
        exact ⟨r, G', m', e5, e6, e7⟩
      · rw [if_neg (show ¬ (1 : Int32) = 0 by decide)]
        obtain ⟨g, rfl⟩ : ∃ g', g = g' + 2 := ⟨g - 2, by omega⟩
        obtain ⟨F2, m2, n2, t2, e5, e6, h2, -⟩ := tickR (k := k) (M := wst M m1) hk h1
        obtain ⟨m', e7, e8⟩ := q_back hk (wst (wst M m1) m2)
        refine ⟨nI (i + 1), F1, m', rfl, ?_, e8⟩
        rw [nI_1, p_X5_until_L20, if_neg (n1000 (by omega)), if_neg (show ¬ (0 : Int32) ≤ -4 by decide), e4, Option.bind_some, if_neg (show ¬ (1 : Int32) = 0 by decide), e6, b2, p_X5_until_L20, e7, if_pos (show (0 : Int32) ≤ nI (i + 1) from nI_pos' (by omega))]
        split <;> rfl
theorem untilR {k : Nat} {F G : FD} {M : MD} {T : TD} {qz : Int32} {qS : Nat → FD} (hk : 3000 ≤ k) (h : RS F qz qS T M) (x1 x2 : Int32) :
    ∃ (r : Int32) (G' : FD) (M' : MD), p_X4_until k F G x1 x2 = some (r, G') ∧ p_X5_until k M x1 x2 = some (r, M') ∧ RS F qz qS T M' := by
  obtain ⟨⟨n, t, u, hf⟩, hh, ht⟩ := id h
  have m9 : MD.st M 9 = FD.drops F := by
    obtain ⟨hn, hrows, hth, hst, hu0, ⟨m0, m1, m2, m3, m4, m5, m6, m7, m8, m9, -⟩, hac⟩ := hf
    exact m9
  unfold p_X4_until p_X5_until
  rw [q_qu, q_qu5, Option.bind_some, Option.bind_some]
  by_cases c : qu x1 x2 = 0
  · rw [if_pos c, if_pos c]
    exact ⟨_, _, _, rfl, rfl, h⟩
  rw [if_neg c, if_neg c]
  obtain ⟨g, e1, e2⟩ := q_aside (k := k) (by omega) M
  have ha : MD.aside (was M g) 9 = FD.drops F := (e2 9 (by decide)).trans m9
  obtain ⟨v, e3, e4, hv⟩ := q_isSo (k := k) (x1 := x1) (x2 := x2) (F := F) (G := F) (M := was M g) (by omega) hf ha c
  rw [show p_X0_copyFrom k G F = some F from rfl, Option.bind_some, e3, Option.bind_some, e1, Option.bind_some]
  have fin : ∀ m' : Nat → Int32, (∀ j, j < 44 → m' j = g j) → RS F qz qS T (wst (was M g) m') := fun m' hm => ⟨⟨n, t, u, RF_cong (fun j hj => ((hm j hj).trans (e2 j hj)).symm) hf⟩, hh, ht⟩
  rcases hv with rfl | rfl
  · rw [if_pos rfl]
    obtain ⟨r, G', m', e5, e6, e7⟩ := untilL (k := k) (F := F) (by omega) c 1000 0 k k F (was M g) n t hf ha e4 (by omega) (by omega) (by omega)
    exact ⟨r, G', _, e5, e6, fin m' e7⟩
  · rw [if_neg (show ¬ (1 : Int32) = 0 by decide)]
    obtain ⟨k', rfl⟩ : ∃ k', k = k' + 2 := ⟨k - 2, by omega⟩
    obtain ⟨F2, m2, n2, t2, e5, e6, h2, -⟩ := tickR (k := k' + 2) (M := was M g) (by omega) hf
    obtain ⟨m', e7, e8⟩ := q_back (k := k' + 2) (by omega) (wst (was M g) m2)
    refine ⟨0, F, _, rfl, ?_, fin m' e8⟩
    rw [p_X5_until_L20, if_neg (show ¬ (1000 : Int32) < 0 by decide), if_neg (show ¬ (0 : Int32) ≤ -4 by decide), e4, Option.bind_some, if_neg (show ¬ (1 : Int32) = 0 by decide), e6, b2, p_X5_until_L20, if_neg (show ¬ (1000 : Int32) < 0 + 1 by decide), if_pos (show (0 : Int32) ≤ 0 by decide), e7]
    rfl
/-- at a trial's end: the row's thickness -/
theorem endR {k n : Nat} {u t : Nat → Nat} {G : FD} {M : MD} (hk : 100 ≤ k) (h : RF G (MD.st M) n t u) {r a : Nat} (hr : n = 0 ∨ r < n) :
    ∃ (v : Int32) (m' : Nat → Int32), ((p_X0_hasRow k G (nI r)).bind fun v2 => if v2 = 0 then (some ((-4 : Int32), G)) else ((ald (FD.th G) 24 (nI r)).bind fun v4 => some (v4, G))) = some (v, G) ∧
      ((ald (MD.st M) 44 0).bind fun v2 => if v2 = 0 then ((p_X5_bringsBack k M).bind fun M6 => some ((-4 : Int32), M6)) else ((ald (MD.st M) 44 (20 + nI r)).bind fun v4 => (p_X5_bringsBack k M).bind fun M5 => some (v4, M5))) = some (v, wst M m') ∧ ∀ j, j < 44 → m' j = MD.aside M j := by
  obtain ⟨hn, hrows, hth, hst, hu0, ⟨m0, -⟩, hac⟩ := id h
  obtain ⟨m', e1, e2⟩ := q_back hk M
  rw [a44_0, Option.bind_some, m0, e1]
  by_cases c : n = 0
  · subst c
    refine ⟨-4, m', ?_, ?_, e2⟩
    · rcases q_rowIs (k := k) h (nI r) with ⟨e3, e4⟩ | ⟨q, hq, -⟩
      · rw [e3]; rfl
      · omega
    · rw [if_pos (show nI 0 = 0 from rfl)]
      rfl
  · have hr' : r < n := by omega
    obtain ⟨r1, r2, r3⟩ := hth r hr'
    refine ⟨nI (t r), m', ?_, ?_, e2⟩
    · rcases q_rowIs (k := k) h (nI r) with ⟨e3, e4⟩ | ⟨q, hq, -, e3, e4⟩
      · exfalso
        unfold p_X0_hasRow at e3
        rw [if_neg (nI_pos (by omega)), hrows, if_neg (nI_ge hr' (by omega))] at e3
        cases e3
      · rw [e3, Option.bind_some, if_neg (show ¬ (1 : Int32) = 0 by decide), a24 _ (show r < 24 by omega), r1]
        rfl
    · rw [if_neg (nI_ne0 (by omega) (by omega)), a20 _ (show r < 24 by omega), r2]
      rfl
theorem ifDead {k : Nat} (hk : 100 ≤ k) {r a : Nat} (ha : a ≤ 1000) : ∀ (d i f : Nat) (M : MD), MD.st M 0 = nI 0 → i + d = a → d < f →
    ∃ m' : Nat → Int32, p_X5_ifGo_L27 k (nI r) (nI a) f M (nI i) = some (-4, wst M m') ∧ ∀ j, j < 44 → m' j = MD.aside M j
  | 0, i, f, M, m0, hd, hf => by
    obtain ⟨f, rfl⟩ : ∃ f', f = f' + 1 := ⟨f - 1, by omega⟩
    have hi : i = a := by omega
    subst hi
    obtain ⟨g, e1, e2⟩ := q_back hk M
    refine ⟨g, ?_, e2⟩
    rw [p_X5_ifGo_L27, if_pos (Int32.le_refl (nI i)), a44_0, Option.bind_some, m0, if_pos (show nI 0 = 0 from rfl), e1]
    rfl
  | d + 1, i, f, M, m0, hd, hf => by
    obtain ⟨f, rfl⟩ : ∃ f', f = f' + 1 := ⟨f - 1, by omega⟩
    obtain ⟨m', e1, e2⟩ := ifDead (r := r) hk ha d (i + 1) f (wst M (upd (MD.st M) 1 (MD.st M 1 + 1))) ((show upd (MD.st M) 1 (MD.st M 1 + 1) 0 = MD.st M 0 from un (by decide)).trans m0) (by omega) (by omega)
    refine ⟨m', ?_, e2⟩
    rw [p_X5_ifGo_L27, if_neg (nI_ge (by omega) (by omega)), q_tick0 m0, b2, nI_1]
    exact e1
theorem ifL {k : Nat} {u : Nat → Nat} {F : FD} {r a : Nat} (hk : 100 ≤ k) (ha : a ≤ 1000) : ∀ (d i f g : Nat) (G : FD) (M : MD) (n : Nat) (t : Nat → Nat), RF G (MD.st M) n t u → (n = 0 ∨ r < n) → i + d = a → d < f → d < g →
    ∃ (v : Int32) (G' : FD) (m' : Nat → Int32), p_X4_ifGo_L37 k F (nI r) (nI a) f G (nI i) = some (v, G') ∧ p_X5_ifGo_L27 k (nI r) (nI a) g M (nI i) = some (v, wst M m') ∧ ∀ j, j < 44 → m' j = MD.aside M j
  | 0, i, f, g, G, M, n, t, h, hr, hd, hf, hg => by
    obtain ⟨f, rfl⟩ : ∃ f', f = f' + 1 := ⟨f - 1, by omega⟩
    obtain ⟨g, rfl⟩ : ∃ g', g = g' + 1 := ⟨g - 1, by omega⟩
    have hi : i = a := by omega
    subst hi
    obtain ⟨v, m', e1, e2, e3⟩ := endR (a := i) hk h hr
    refine ⟨v, G, m', ?_, ?_, e3⟩
    · rw [p_X4_ifGo_L37, if_pos (Int32.le_refl (nI i))]
      exact e1
    · rw [p_X5_ifGo_L27, if_pos (Int32.le_refl (nI i))]
      exact e2
  | d + 1, i, f, g, G, M, n, t, h, hr, hd, hf, hg => by
    obtain ⟨f, rfl⟩ : ∃ f', f = f' + 1 := ⟨f - 1, by omega⟩
    have hn := h.1
    have m0 : MD.st M 0 = nI n := h.2.2.2.2.2.1.1
    rw [p_X4_ifGo_L37, if_neg (nI_ge (by omega) (by omega)), h.2.1]
    by_cases c : n = 0
    · subst c
      rw [if_pos (show nI 0 ≤ 0 by decide)]
      obtain ⟨m', e1, e2⟩ := ifDead (r := r) hk ha (d + 1) i g M m0 hd hg
      refine ⟨-4, G, m', ?_, e1, e2⟩
      rcases q_rowIs (k := k) h (nI r) with ⟨e3, e4⟩ | ⟨q, hq, -⟩
      · rw [e3]; rfl
      · omega
    · rw [if_neg (nI_nle (by omega) (by omega))]
      obtain ⟨g, rfl⟩ : ∃ g', g = g' + 1 := ⟨g - 1, by omega⟩
      obtain ⟨F1, m1, n1, t1, e1, e2, h1, hn1⟩ := tickR (k := k) hk h
      rw [e1, Option.bind_some, p_X5_ifGo_L27, if_neg (nI_ge (by omega) (by omega)), e2, b2, nI_1]
      obtain ⟨v, G', m', e5, e6, e7⟩ := ifL (F := F) (r := r) hk ha d (i + 1) f g F1 (wst M m1) n1 t1 h1 (by omega) (by omega) (by omega) (by omega)
      exact ⟨v, G', m', e5, e6, e7⟩
theorem ifR {k : Nat} {F G : FD} {M : MD} {T : TD} {qz : Int32} {qS : Nat → FD} (hk : 3000 ≤ k) (h : RS F qz qS T M) (x1 x2 : Int32) :
    ∃ (r : Int32) (G' : FD) (M' : MD), p_X4_ifGo k F G x1 x2 = some (r, G') ∧ p_X5_ifGo k M x1 x2 = some (r, M') ∧ RS F qz qS T M' := by
  obtain ⟨⟨n, t, u, hf⟩, hh, ht⟩ := id h
  unfold p_X4_ifGo p_X5_ifGo
  rcases q_rowIs (k := k) hf x1 with ⟨e1, e2⟩ | ⟨r, hr, rfl, e1, e2⟩
  · rw [e1, e2]
    exact ⟨_, _, _, rfl, rfl, h⟩
  rw [e1, e2, Option.bind_some, Option.bind_some, if_neg (show ¬ (1 : Int32) = 0 by decide), if_neg (show ¬ (1 : Int32) = 0 by decide), q_bet, q_in, Option.bind_some, Option.bind_some]
  by_cases c2 : bet x2 1 1000 = 0
  · rw [if_pos c2, if_pos c2]
    exact ⟨_, _, _, rfl, rfl, h⟩
  rw [if_neg c2, if_neg c2]
  obtain ⟨a, a1, a2, rfl⟩ := bet_n (a := 1) (b := 1000) (by decide) (by decide) c2
  obtain ⟨g, e3, e4⟩ := q_aside (k := k) (by omega) M
  obtain ⟨v, G', m', e5, e6, e7⟩ := ifL (k := k) (F := F) (r := r) (by omega) a2 a 0 k k F (was M g) n t hf (Or.inr hr) (by omega) (by omega) (by omega)
  rw [show p_X0_copyFrom k G F = some F from rfl, Option.bind_some, e3, Option.bind_some]
  exact ⟨v, G', _, e5, e6, ⟨n, t, u, RF_cong (fun j hj => ((e7 j hj).trans (e4 j hj)).symm) hf⟩, hh, ht⟩
