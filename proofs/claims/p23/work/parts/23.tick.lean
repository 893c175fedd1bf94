/-! PURE PART: a tick on both sides. -/
theorem q_ofN {k : Nat} {M : MD} {c : Nat} (hc : c < 7) : p_X5_of k M (nI c) = some (MD.st M (13 + c)) := by
  unfold p_X5_of
  rw [ald_at (13 + c) (n13 c) (by omega) (by decide)]
  rfl
theorem q_of0 {k : Nat} {M : MD} : p_X5_of k M 0 = some (MD.st M 13) := q_ofN (c := 0) (by decide)
theorem q_of1 {k : Nat} {M : MD} : p_X5_of k M 1 = some (MD.st M 14) := q_ofN (c := 1) (by decide)
theorem q_of2 {k : Nat} {M : MD} : p_X5_of k M 2 = some (MD.st M 15) := q_ofN (c := 2) (by decide)
theorem q_of3 {k : Nat} {M : MD} : p_X5_of k M 3 = some (MD.st M 16) := q_ofN (c := 3) (by decide)
theorem q_of4 {k : Nat} {M : MD} : p_X5_of k M 4 = some (MD.st M 17) := q_ofN (c := 4) (by decide)
theorem q_of5 {k : Nat} {M : MD} : p_X5_of k M 5 = some (MD.st M 18) := q_ofN (c := 5) (by decide)
theorem q_of6 {k : Nat} {M : MD} : p_X5_of k M 6 = some (MD.st M 19) := q_ofN (c := 6) (by decide)
theorem drainL {k n : Nat} {u : Nat → Nat} : ∀ (i f g : Nat) (F : FD) (M : MD) (t : Nat → Nat), RF F (MD.st M) n t u → i ≤ n → i < f → i < g →
    ∃ (F' : FD) (m' : Nat → Int32) (t' : Nat → Nat), p_X0_drain_L7 k f F (nI i - 1) = some F' ∧ p_X5_changesFilm_L9 k g M (nI i - 1) = p_X5_changesFilm_L9 k 1 (wst M m') (-1) ∧ RF F' m' n t' u
  | 0, f, g, F, M, t, h, _, hf, hg => by
    obtain ⟨f, rfl⟩ : ∃ f', f = f' + 1 := ⟨f - 1, by omega⟩
    obtain ⟨g, rfl⟩ : ∃ g', g = g' + 1 := ⟨g - 1, by omega⟩
    refine ⟨F, MD.st M, t, ?_, ?_, h⟩
    · rw [p_X0_drain_L7, if_pos (by decide)]
    · rw [wst_self, p_X5_changesFilm_L9, p_X5_changesFilm_L9, if_pos (by decide), if_pos (by decide)]
  | i + 1, f, g, F, M, t, h, hi, hf, hg => by
    obtain ⟨f, rfl⟩ : ∃ f', f = f' + 1 := ⟨f - 1, by omega⟩
    obtain ⟨g, rfl⟩ : ∃ g', g = g' + 1 := ⟨g - 1, by omega⟩
    obtain ⟨hn, hrows, hth, hst, hu0, -, hac⟩ := id h
    obtain ⟨hr1, hr2, hr3⟩ := hth i (by omega)
    obtain ⟨hs1, hs2, -⟩ := hst 0 (by decide)
    have hi24 : i < 24 := by omega
    have hb1 : t i * t i ≤ 5000 * 5000 := Nat.mul_le_mul hr3 hr3
    have hb2 : t i * t i * u 0 ≤ 5000 * 5000 * 100 := Nat.mul_le_mul hb1 hu0
    have hA : t i * t i * u 0 / 1000000 ≤ 2500 := by
      have := Nat.div_le_div_right (c := 1000000) hb2
      omega
    have e64 : Int32.toInt64 (nI (t i)) * Int32.toInt64 (nI (t i)) * Int32.toInt64 (nI (u 0)) / 1000000 = lN (t i * t i * u 0 / 1000000) := by
      rw [nI_l (by omega), nI_l (by omega), lN_mul, lN_mul, show (1000000 : Int64) = lN 1000000 from rfl, pk_lDiv (by omega) (by decide) (by decide)]
    obtain ⟨F1, m1, t1, e1, e2, h1, -⟩ := give (k := k) h (r := i) (a := t i * t i * u 0 / 1000000) (by omega) (by omega)
    obtain ⟨F2, m2, t2, e3, e4, h2⟩ := drainL (k := k) i f g F1 (wst M m1) t1 h1 (by omega) (by omega) (by omega)
    have ex : nI i + (-1) = nI i - 1 := by rw [Int32.sub_eq_add_neg]
    refine ⟨F2, m2, t2, ?_, ?_, h2⟩
    · rw [p_X0_drain_L7, nI_pred, if_neg (nI_pos (by omega)), a24 _ hi24, hr1]
      simp only [Option.bind_some, a7_0, hs1, e64, lN_i, e1, ex, e3]
    · rw [p_X5_changesFilm_L9, nI_pred, if_neg (nI_pos (by omega)), a20 _ hi24, hr2]
      simp only [Option.bind_some, q_of0]
      rw [show MD.st M 13 = nI (u 0) from hs2, e64, e2]
      simp only [Option.bind_some]
      rw [ex, e4, wst_wst]
theorem edgesL {k n : Nat} {u t0 : Nat → Nat} : ∀ (d i f g : Nat) (F : FD) (M : MD) (t : Nat → Nat) (x2 : Int32), RF F (MD.st M) n t u → i + d = n → 1 ≤ i → d < f → d < g → (∀ j, i < j → t j = t0 j) → (i < n → x2 = if bk t0 u i = true then 1 else 0) →
    ∃ (F' : FD) (m' : Nat → Int32) (t' : Nat → Nat), p_X0_runEdges_L25 k f F (if bk t0 u (i - 1) = true then 1 else 0) x2 (nI i) = some F' ∧ p_X5_changesFilm_L56 k (nI (bs (bk t0 u) n)) g M (nI i) = p_X5_changesFilm_L104 k k (wst M m') 0 ∧ RF F' m' n t' u
  | 0, i, f, g, F, M, t, x2, h, hd, h1, hf, hg, _, _ => by
    obtain ⟨f, rfl⟩ : ∃ f', f = f' + 1 := ⟨f - 1, by omega⟩
    obtain ⟨g, rfl⟩ : ∃ g', g = g' + 1 := ⟨g - 1, by omega⟩
    obtain ⟨hn, hrows, hth, hst, hu0, ⟨m0, -⟩, hac⟩ := id h
    have hin : i = n := by omega
    subst hin
    refine ⟨F, MD.st M, t, ?_, ?_, h⟩
    · rw [p_X0_runEdges_L25, hrows, if_pos (Int32.le_refl (nI i))]
    · rw [wst_self, p_X5_changesFilm_L56, a44_0, m0]
      simp only [Option.bind_some]
      rw [if_pos (Int32.le_refl (nI i))]
  | d + 1, i, f, g, F, M, t, x2, h, hd, h1, hf, hg, hjt, hx2 => by
    obtain ⟨f, rfl⟩ : ∃ f', f = f' + 1 := ⟨f - 1, by omega⟩
    obtain ⟨g, rfl⟩ : ∃ g', g = g' + 1 := ⟨g - 1, by omega⟩
    obtain ⟨hn, hrows, hth, hst, hu0, ⟨m0, -⟩, hac⟩ := id h
    obtain ⟨hs1, hs2, hs3⟩ := hst 2 (by decide)
    have hx2 := hx2 (by omega)
    have hS : bs (bk t0 u) n < 2 ^ 31 := Nat.lt_trans (bs_lt _ n) (Nat.lt_of_le_of_lt (Nat.pow_le_pow_right (by decide) hn) (by decide))
    -- the two bits that the reference looks at
    have hbi : jshr (nI (bs (bk t0 u) n)) (nI i) &&& 1 = if bk t0 u i = true then 1 else 0 := by
      rw [q_bit hS (by omega), bs_bit i n _ (by omega)]
      split <;> rfl
    have hbj : jshr (nI (bs (bk t0 u) n)) (nI i - 1) &&& 1 = if bk t0 u (i - 1) = true then 1 else 0 := by
      rw [show nI i - 1 = nI (i - 1) from pk_sub (b := 1) h1, q_bit hS (by omega), bs_bit (i - 1) n _ (by omega)]
      split <;> rfl
    -- what the class knows of the row below
    have hbelow : i + 1 < n → p_X0_isBlack k F (nI (i + 1)) = some (if bk t0 u (i + 1) = true then 1 else 0) := by
      intro q
      rw [q_isB h q]
      unfold bk
      rw [hjt (i + 1) (by omega)]
    -- one step, told by what is given and by the blackness below
    have key : ∀ (x3 : Int32), (i + 1 < n → x3 = if bk t0 u (i + 1) = true then 1 else 0) →
        ∃ (F' : FD) (m' : Nat → Int32) (t' : Nat → Nat),
          (if (if bk t0 u (i - 1) = true then (1 : Int32) else 0) = 0 then p_X0_runEdges_L25 k f F x2 x3 (nI (i + 1)) else if x2 = 0 then (ald (FD.st F) 7 2).bind fun v => (p_X0_giveDown k F (nI i) v).bind fun F6 => p_X0_runEdges_L25 k f F6 x2 x3 (nI (i + 1)) else p_X0_runEdges_L25 k f F x2 x3 (nI (i + 1))) = some F' ∧
          (if (if bk t0 u i = true then (1 : Int32) else 0) = 0 then (if (if bk t0 u (i - 1) = true then (1 : Int32) else 0) = 1 then (p_X5_of k M 2).bind fun v25 => (p_X5_gives k M (nI i) (Int32.toInt64 v25)).bind fun M26 => p_X5_changesFilm_L56 k (nI (bs (bk t0 u) n)) g M26 (nI (i + 1)) else p_X5_changesFilm_L56 k (nI (bs (bk t0 u) n)) g M (nI (i + 1))) else p_X5_changesFilm_L56 k (nI (bs (bk t0 u) n)) g M (nI (i + 1))) = p_X5_changesFilm_L104 k k (wst M m') 0 ∧ RF F' m' n t' u := by
      intro x3 hx3
      by_cases ha : bk t0 u (i - 1) = true
      · by_cases hb : bk t0 u i = true
        · -- black above, black itself
          obtain ⟨F2, m2, t2, e3, e4, h2⟩ := edgesL (k := k) (t0 := t0) d (i + 1) f g F M t x3 h (by omega) (by omega) (by omega) (by omega) (fun j hj => hjt j (by omega)) hx3
          rw [Nat.add_sub_cancel] at e3
          refine ⟨F2, m2, t2, ?_, ?_, h2⟩
          · rw [hx2, if_pos ha, if_neg (by decide), if_pos hb, if_neg (by decide)]
            rw [if_pos hb] at e3
            exact e3
          · rw [if_pos hb, if_neg (by decide)]
            exact e4
        · -- black above, not black itself: it gives
          obtain ⟨F1, m1, t1, e1, e2, h1', hfr⟩ := give (k := k) h (r := i) (a := u 2) (by omega) (by omega)
          obtain ⟨F2, m2, t2, e3, e4, h2⟩ := edgesL (k := k) (t0 := t0) d (i + 1) f g F1 (wst M m1) t1 x3 h1' (by omega) (by omega) (by omega) (by omega) (fun j hj => (hfr j (by omega) (by omega)).trans (hjt j (by omega))) hx3
          rw [Nat.add_sub_cancel, if_neg hb] at e3
          refine ⟨F2, m2, t2, ?_, ?_, h2⟩
          · rw [hx2, if_pos ha, if_neg (by decide), if_neg hb, if_pos rfl, a7_2, hs1]
            simp only [Option.bind_some, e1]
            exact e3
          · rw [if_neg hb, if_pos rfl, if_pos ha, if_pos rfl, q_of2, show MD.st M 15 = nI (u 2) from hs2]
            simp only [Option.bind_some]
            rw [nI_l (by omega), e2]
            simp only [Option.bind_some]
            rw [e4, wst_wst]
      · obtain ⟨F2, m2, t2, e3, e4, h2⟩ := edgesL (k := k) (t0 := t0) d (i + 1) f g F M t x3 h (by omega) (by omega) (by omega) (by omega) (fun j hj => hjt j (by omega)) hx3
        rw [Nat.add_sub_cancel] at e3
        refine ⟨F2, m2, t2, ?_, ?_, h2⟩
        · rw [if_neg ha, if_pos rfl, hx2]
          exact e3
        · rw [if_neg ha]
          by_cases hb : bk t0 u i = true
          · rw [if_pos hb, if_neg (by decide)]
            exact e4
          · rw [if_neg hb, if_pos rfl, if_neg (by decide)]
            exact e4
    have e56 : ∀ X : Option MD, p_X5_changesFilm_L56 k (nI (bs (bk t0 u) n)) (g + 1) M (nI i) = X ↔ (if (if bk t0 u i = true then (1 : Int32) else 0) = 0 then (if (if bk t0 u (i - 1) = true then (1 : Int32) else 0) = 1 then (p_X5_of k M 2).bind fun v25 => (p_X5_gives k M (nI i) (Int32.toInt64 v25)).bind fun M26 => p_X5_changesFilm_L56 k (nI (bs (bk t0 u) n)) g M26 (nI (i + 1)) else p_X5_changesFilm_L56 k (nI (bs (bk t0 u) n)) g M (nI (i + 1))) else p_X5_changesFilm_L56 k (nI (bs (bk t0 u) n)) g M (nI (i + 1))) = X := by
      intro X
      rw [p_X5_changesFilm_L56, a44_0, m0]
      simp only [Option.bind_some]
      rw [if_neg (nI_ge (by omega) (by omega)), hbi, hbj, nI_1]
    by_cases hlast : i + 1 < n
    · obtain ⟨F', m', t', a1, a2, a3⟩ := key _ (fun _ => rfl)
      refine ⟨F', m', t', ?_, (e56 _).mpr a2, a3⟩
      rw [p_X0_runEdges_L25, hrows, if_neg (nI_ge (by omega) (by omega)), nI_1, if_neg (nI_ge hlast (by omega)), hbelow hlast]
      simp only [Option.bind_some]
      by_cases hc : bk t0 u (i + 1) = true
      · rw [if_pos hc] at a1 ⊢
        rw [if_neg (by decide)]
        exact a1
      · rw [if_neg hc] at a1 ⊢
        rw [if_pos rfl]
        exact a1
    · obtain ⟨F', m', t', a1, a2, a3⟩ := key 0 (fun q => absurd q hlast)
      refine ⟨F', m', t', ?_, (e56 _).mpr a2, a3⟩
      rw [p_X0_runEdges_L25, hrows, if_neg (nI_ge (by omega) (by omega)), nI_1, if_pos (nI_le (by omega) (by omega))]
      exact a1
/-- the running of the edges, of a film that is there -/
theorem edges {k n : Nat} {u t : Nat → Nat} (hk : 100 ≤ k) {F : FD} {M : MD} (h : RF F (MD.st M) n t u) (h1 : 1 ≤ n) :
    ∃ (F' : FD) (m' : Nat → Int32) (t' : Nat → Nat), p_X0_runEdges k F = some F' ∧ p_X5_changesFilm_L56 k (nI (bs (bk t u) n)) k M 1 = p_X5_changesFilm_L104 k k (wst M m') 0 ∧ RF F' m' n t' u := by
  obtain ⟨hn, hrows, hth, hst, hu0, ⟨m0, -⟩, hac⟩ := id h
  obtain ⟨k', rfl⟩ : ∃ k', k = k' + 1 := ⟨k - 1, by omega⟩
  have step : ∀ x3 : Int32, (1 < n → x3 = if bk t u 1 = true then 1 else 0) → ∃ (F' : FD) (m' : Nat → Int32) (t' : Nat → Nat), p_X0_runEdges_L25 (k' + 1) k' F (if bk t u 0 = true then 1 else 0) x3 (nI 1) = some F' ∧ p_X5_changesFilm_L56 (k' + 1) (nI (bs (bk t u) n)) (k' + 1) M 1 = p_X5_changesFilm_L104 (k' + 1) (k' + 1) (wst M m') 0 ∧ RF F' m' n t' u := by
    intro x3 hx3
    exact edgesL (k := k' + 1) (t0 := t) (n - 1) 1 k' (k' + 1) F M t x3 h (by omega) (by omega) (by omega) (by omega) (fun j _ => rfl) hx3
  have e0 : p_X0_isBlack (k' + 1) F 0 = some (if bk t u 0 = true then 1 else 0) := q_isB (r := 0) h (by omega)
  -- the first row gives nothing
  have first : ∀ x2 : Int32, (x2 = if bk t u 0 = true then 1 else 0) → ∃ (F' : FD) (m' : Nat → Int32) (t' : Nat → Nat), p_X0_runEdges_L25 (k' + 1) (k' + 1) F 0 x2 0 = some F' ∧ p_X5_changesFilm_L56 (k' + 1) (nI (bs (bk t u) n)) (k' + 1) M 1 = p_X5_changesFilm_L104 (k' + 1) (k' + 1) (wst M m') 0 ∧ RF F' m' n t' u := by
    intro x2 hx2
    rw [p_X0_runEdges_L25, hrows, if_neg (show ¬ nI n ≤ 0 from nI_nle (by omega) (by omega)), show (0 : Int32) + 1 = nI 1 from rfl]
    by_cases hl : 1 < n
    · rw [if_neg (nI_ge hl (by omega)), q_isB h hl]
      simp only [Option.bind_some]
      obtain ⟨F', m', t', a1, a2, a3⟩ := step _ (fun _ => rfl)
      refine ⟨F', m', t', ?_, a2, a3⟩
      by_cases hc : bk t u 1 = true
      · rw [if_pos hc] at a1 ⊢
        rw [if_neg (by decide), if_pos trivial, hx2]
        exact a1
      · rw [if_neg hc] at a1 ⊢
        rw [if_pos rfl, if_pos trivial, hx2]
        exact a1
    · rw [if_pos (nI_le (by omega) (by omega)), if_pos rfl, hx2]
      exact step 0 (fun q => absurd q hl)
  unfold p_X0_runEdges
  rw [hrows, if_neg (show ¬ nI n ≤ 0 from nI_nle (by omega) (by omega)), e0]
  simp only [Option.bind_some]
  by_cases hc : bk t u 0 = true
  · have h9 := first 1 (by rw [if_pos hc])
    rw [if_pos hc, if_neg (by decide)]
    exact h9
  · have h9 := first 0 (by rw [if_neg hc])
    rw [if_neg hc, if_pos rfl]
    exact h9

theorem dryL {k n : Nat} {u : Nat → Nat} : ∀ (d i f g : Nat) (F : FD) (M : MD) (t : Nat → Nat), RF F (MD.st M) n t u → i + d = n → d < f → d < g →
    ∃ (F' : FD) (m' : Nat → Int32) (t' : Nat → Nat), p_X0_dry_L2 k f F (nI i) = some F' ∧ p_X5_changesFilm_L104 k g M (nI i) = p_X5_changesFilm_L104 k 1 (wst M m') (nI n) ∧ RF F' m' n t' u
  | 0, i, f, g, F, M, t, h, hd, hf, hg => by
    obtain ⟨f, rfl⟩ : ∃ f', f = f' + 1 := ⟨f - 1, by omega⟩
    obtain ⟨g, rfl⟩ : ∃ g', g = g' + 1 := ⟨g - 1, by omega⟩
    obtain ⟨hn, hrows, hth, hst, hu0, ⟨m0, -⟩, hac⟩ := id h
    have hin : i = n := by omega
    subst hin
    refine ⟨F, MD.st M, t, ?_, ?_, h⟩
    · rw [p_X0_dry_L2, hrows, if_pos (Int32.le_refl (nI i))]
    · rw [wst_self, p_X5_changesFilm_L104, p_X5_changesFilm_L104, a44_0, m0]
      simp only [Option.bind_some]
      rw [if_pos (Int32.le_refl (nI i)), if_pos (Int32.le_refl (nI i))]
  | d + 1, i, f, g, F, M, t, h, hd, hf, hg => by
    obtain ⟨f, rfl⟩ : ∃ f', f = f' + 1 := ⟨f - 1, by omega⟩
    obtain ⟨g, rfl⟩ : ∃ g', g = g' + 1 := ⟨g - 1, by omega⟩
    obtain ⟨hn, hrows, hth, hst, hu0, ⟨m0, m1, m2, m3, m4, m5, m6, m7, m8, m9, m10, m11, m12⟩, hac⟩ := id h
    obtain ⟨hr1, hr2, hr3⟩ := hth i (by omega)
    obtain ⟨hs1, hs2, hs3⟩ := hst 1 (by decide)
    have hi24 : i < 24 := by omega
    have hmin := Nat.min_le_right (u 1) (t i)
    have h1 : RF (mkFD (upd (FD.th F) i (nI (t i - min (u 1) (t i)))) (FD.st F) (upd (upd (FD.ac F) 1 (FD.ac F 1 - nI (min (u 1) (t i)))) 4 (FD.ac F 4 + nI (min (u 1) (t i)))) (FD.rows F) (FD.ticks F) (FD.drops F) (FD.bursts F) (FD.burstReason F) (FD.burstNumber F) (FD.ticksBeforeBurst F)) (upd (upd (MD.st M) (20 + i) (nI (t i - min (u 1) (t i)))) 5 (MD.st M 5 + nI (min (u 1) (t i)))) n (tu t i (t i - min (u 1) (t i))) u := by
      have hs := sum_tu (t := t) (r := i) (v := t i - min (u 1) (t i)) n (by omega)
      refine ⟨hn, hrows, fun j hj => ?_, fun j hj => ?_, hu0, ⟨?_, ?_, ?_, ?_, ?_, ?_, ?_, ?_, ?_, ?_, ?_, ?_, ?_⟩, ?_⟩
      · by_cases hjr : j = i
        · subst hjr
          rw [tu_s]
          exact ⟨us, (un (by omega)).trans us, by omega⟩
        · rw [tu_n hjr, un (by omega), un (by omega)]
          obtain ⟨g1, g2, g3⟩ := hth j hj
          exact ⟨(un hjr).trans g1, g2, g3⟩
      · rw [un (by omega), un (by omega)]
        exact hst j hj
      · rw [un (by omega), un (by omega), m0]
      · rw [un (by omega), un (by omega), m1]; rfl
      · rw [un (by omega), un (by omega), m2]; rfl
      · rw [un (by omega), un (by omega), m3]; rfl
      · rw [un (by omega), un (by omega), m4]; rfl
      · rw [us, m5]; rfl
      · rw [un (by omega), un (by omega), m6]; rfl
      · rw [un (by omega), un (by omega), m7]; rfl
      · rw [un (by omega), un (by omega), m8]; rfl
      · rw [un (by omega), un (by omega), m9]; rfl
      · rw [un (by omega), un (by omega), m10]; rfl
      · rw [un (by omega), un (by omega), m11]; rfl
      · rw [un (by omega), un (by omega), m12]; rfl
      · show FD.ac F 1 - nI (min (u 1) (t i)) = _
        rw [hac]
        exact nI_subE (by omega)
    obtain ⟨F2, m2', t2, e3, e4, h2⟩ := dryL (k := k) d (i + 1) f g _ (wst M (upd (upd (MD.st M) (20 + i) (nI (t i - min (u 1) (t i)))) 5 (MD.st M 5 + nI (min (u 1) (t i))))) _ h1 (by omega) (by omega) (by omega)
    refine ⟨F2, m2', t2, ?_, ?_, h2⟩
    · rw [p_X0_dry_L2, hrows, if_neg (nI_ge (by omega) (by omega)), a7_1, hs1]
      simp only [Option.bind_some]
      rw [show (4 : Int32) = nI 4 from rfl, q_lose hi24 (by omega) (by omega) hr1 (by decide) (by decide), nI_1]
      exact e3
    · rw [p_X5_changesFilm_L104, a44_0, m0]
      simp only [Option.bind_some]
      rw [if_neg (nI_ge (by omega) (by omega)), q_of1, show MD.st M 14 = nI (u 1) from hs2, a20 _ hi24, hr2]
      simp only [Option.bind_some]
      rw [q_lesser (by omega) (by omega)]
      simp only [Option.bind_some]
      rw [pk_sub hmin, s20 _ _ hi24]
      simp only [Option.bind_some, a44_5, s44_5]
      rw [un (by omega), nI_1]
      exact e4
/-- a row too thin, on both sides -/
theorem thinL {k n : Nat} {u t : Nat → Nat} {F : FD} {M : MD} (h : RF F (MD.st M) n t u) : ∀ (d i f g : Nat), i + d = n → d < f → d < g →
    ∃ v : Int32, p_X0_firstTooThin_L2 k F f (nI i) = some v ∧ ((v < 0 ∧ p_X5_mayBurst_L2 k M g (nI i) = p_X5_mayBurst_L2 k M 1 (nI n)) ∨ (¬ v < 0 ∧ p_X5_mayBurst_L2 k M g (nI i) = p_X5_bursts k M 1 v))
  | 0, i, f, g, hd, hf, hg => by
    obtain ⟨f, rfl⟩ : ∃ f', f = f' + 1 := ⟨f - 1, by omega⟩
    obtain ⟨g, rfl⟩ : ∃ g', g = g' + 1 := ⟨g - 1, by omega⟩
    obtain ⟨hn, hrows, hth, hst, hu0, ⟨m0, -⟩, hac⟩ := id h
    have hin : i = n := by omega
    subst hin
    refine ⟨-1, ?_, Or.inl ⟨by decide, ?_⟩⟩
    · rw [p_X0_firstTooThin_L2, hrows, if_pos (Int32.le_refl (nI i))]
    · rw [p_X5_mayBurst_L2, p_X5_mayBurst_L2, a44_0, m0]
      simp only [Option.bind_some]
      rw [if_pos (Int32.le_refl (nI i)), if_pos (Int32.le_refl (nI i))]
  | d + 1, i, f, g, hd, hf, hg => by
    obtain ⟨f, rfl⟩ : ∃ f', f = f' + 1 := ⟨f - 1, by omega⟩
    obtain ⟨g, rfl⟩ : ∃ g', g = g' + 1 := ⟨g - 1, by omega⟩
    obtain ⟨hn, hrows, hth, hst, hu0, ⟨m0, -⟩, hac⟩ := id h
    obtain ⟨hr1, hr2, hr3⟩ := hth i (by omega)
    obtain ⟨hs1, hs2, hs3⟩ := hst 4 (by decide)
    have hi24 : i < 24 := by omega
    have e1 : p_X0_firstTooThin_L2 k F (f + 1) (nI i) = if nI (u 4) ≤ nI (t i) then p_X0_firstTooThin_L2 k F f (nI (i + 1)) else some (nI i) := by
      rw [p_X0_firstTooThin_L2, hrows, if_neg (nI_ge (by omega) (by omega)), a24 _ hi24, hr1]
      simp only [Option.bind_some, a7_4, hs1, nI_1]
    have e2 : p_X5_mayBurst_L2 k M (g + 1) (nI i) = if nI (u 4) ≤ nI (t i) then p_X5_mayBurst_L2 k M g (nI (i + 1)) else (p_X5_bursts k M 1 (nI i)).bind fun M11 => some M11 := by
      rw [p_X5_mayBurst_L2, a44_0, m0]
      simp only [Option.bind_some]
      rw [if_neg (nI_ge (by omega) (by omega)), a20 _ hi24, hr2]
      simp only [Option.bind_some, q_of4]
      rw [show MD.st M 17 = nI (u 4) from hs2, nI_1]
    rw [e1, e2]
    by_cases c : u 4 ≤ t i
    · rw [if_pos (nI_le c (by omega)), if_pos (nI_le c (by omega))]
      exact thinL h d (i + 1) f g (by omega) (by omega) (by omega)
    · rw [if_neg (nI_ge (by omega) (by omega)), if_neg (nI_ge (by omega) (by omega))]
      refine ⟨nI i, rfl, Or.inr ⟨nI_pos (by omega), ?_⟩⟩
      cases p_X5_bursts k M 1 (nI i) <;> rfl
/-- a burst, on both sides -/
theorem burstR {k n : Nat} {u t : Nat → Nat} {F : FD} {M : MD} (hk : 100 ≤ k) (h : RF F (MD.st M) n t u) (x1 x2 : Int32) :
    ∃ (F' : FD) (m' : Nat → Int32), p_X0_burst k F x1 x2 = some F' ∧ p_X5_bursts k M x1 x2 = some (wst M m') ∧ RF F' m' 0 t u := by
  obtain ⟨hn, hrows, hth, hst, hu0, ⟨m0, m1, m2, m3, m4, m5, m6, m7, m8, m9, m10, m11, m12⟩, hac⟩ := id h
  refine ⟨mkFD (FD.th F) (FD.st F) (upd (upd (FD.ac F) 1 (FD.ac F 1 - FD.ac F 1)) 5 (FD.ac F 5 + FD.ac F 1)) 0 (FD.ticks F) (FD.drops F) (FD.bursts F + 1) x1 x2 (FD.ticks F), upd (upd (upd (upd (upd (upd (MD.st M) 10 x1) 11 x2) 12 (MD.st M 1)) 8 (MD.st M 8 + 1)) 6 (MD.st M 6 + nI (sumN t n))) 0 0, ?_, ?_, ?_⟩
  · unfold p_X0_burst p_X0_endFilm
    rw [a7_1]
    simp only [Option.bind_some]
    rw [show (5 : Int32) = nI 5 from rfl, q_move (by decide) (by decide)]
    rfl
  · unfold p_X5_bursts
    simp only [a7_0, a7_1, a7_2, a7_3, a7_4, a7_5, a7_6, a44_0, a44_1, a44_2, a44_3, a44_4, a44_5, a44_6, a44_7, a44_8, a44_9, a44_10, a44_11, a44_12, a44_13, a44_14, a44_15, a44_16, a44_17, a44_18, a44_19, s7_0, s7_1, s7_2, s7_3, s7_4, s7_5, s7_6, s44_0, s44_1, s44_2, s44_3, s44_4, s44_5, s44_6, s44_7, s44_8, s44_9, s44_10, s44_11, s44_12, s44_13, s44_14, s44_15, s44_16, s44_17, s44_18, s44_19, Option.bind_some]
    have hl : ∀ z1 z2, p_X5_liquid k (wst M (upd (upd (upd (upd (MD.st M) 10 x1) 11 x2) 12 z1) 8 z2)) = some (nI (sumN t n)) := by
      intro z1 z2
      refine q_liq hk hn ?_ (fun j hj => ?_)
      · rw [wst_st, un (by omega), un (by omega), un (by omega), un (by omega), m0]
      · rw [wst_st, un (by omega), un (by omega), un (by omega), un (by omega), (hth j hj).2.1]
    unfold wst at hl
    simp only [hl, Option.bind_some, s44_6, s44_0]
    rw [show upd (upd (MD.st M) 10 x1) 11 x2 1 = MD.st M 1 from rfl, show upd (upd (upd (MD.st M) 10 x1) 11 x2) 12 (MD.st M 1) 8 = MD.st M 8 from rfl]
    rfl
  · refine ⟨Nat.zero_le _, rfl, fun j hj => absurd hj (Nat.not_lt_zero _), fun j hj => ?_, hu0, ⟨?_, ?_, ?_, ?_, ?_, ?_, ?_, ?_, ?_, ?_, ?_, ?_, ?_⟩, ?_⟩
    · rw [un (by omega), un (by omega), un (by omega), un (by omega), un (by omega), un (by omega)]
      exact hst j hj
    · exact us
    · exact m1
    · exact m2
    · exact m3
    · exact m4
    · exact m5
    · show MD.st M 6 + nI (sumN t n) = FD.ac F 5 + FD.ac F 1
      rw [m6, hac]
    · exact m7
    · show MD.st M 8 + 1 = FD.bursts F + 1
      rw [m8]
    · exact m9
    · rfl
    · rfl
    · exact m1
    · show FD.ac F 1 - FD.ac F 1 = nI 0
      rw [Int32.sub_self]
      rfl
set_option maxRecDepth 100000 in
/-- after the rows: the drop, the burst -/
theorem lastly {k n : Nat} {u t : Nat → Nat} {F : FD} {M : MD} (hk : 100 ≤ k) (h : RF F (MD.st M) n t u) :
    ∃ (F1 F' : FD) (m' : Nat → Int32) (n' : Nat), p_X0_letDropFall k F = some F1 ∧ p_X0_burstIfDue k F1 = some F' ∧ p_X5_changesFilm_L104 k 1 M (nI n) = some (wst M m') ∧ RF F' m' n' t u ∧ (n' = n ∨ n' = 0) := by
  -- the burst of related films
  have B : ∀ (F : FD) (M : MD), RF F (MD.st M) n t u → ∃ (F' : FD) (m' : Nat → Int32) (n' : Nat), p_X0_burstIfDue k F = some F' ∧ p_X5_mayBurst k M = some (wst M m') ∧ RF F' m' n' t u ∧ (n' = n ∨ n' = 0) := by
    intro F M h
    obtain ⟨hn, hrows, hth, hst, hu0, ⟨m0, -⟩, hac⟩ := id h
    obtain ⟨hs1, hs2, hs3⟩ := hst 5 (by decide)
    obtain ⟨v, e1, e2⟩ := thinL (k := k) h n 0 k k (by omega) (by omega) (by omega)
    rw [nI_0] at e1 e2
    obtain ⟨S, C, e3, e4, e5⟩ : ∃ S C : Int32, p_X5_blackOnes k M = some S ∧ p_X5_bits k S = some C ∧ p_X0_blackRows k F = some C := ⟨_, _, q_ones hk h, q_bits hk _ hn, q_black hk h⟩
    unfold p_X0_burstIfDue p_X0_firstTooThin p_X5_mayBurst
    rw [e1, e5]
    simp only [Option.bind_some]
    rcases e2 with ⟨c, e2⟩ | ⟨c, e2⟩
    · rw [if_pos c, e2, p_X5_mayBurst_L2, a44_0, m0, a7_5, hs1]
      simp only [Option.bind_some]
      rw [if_pos (Int32.le_refl (nI n)), e3, Option.bind_some, e4, Option.bind_some, q_of5, Option.bind_some, show MD.st M 18 = nI (u 5) from hs2]
      by_cases c2 : C ≤ nI (u 5)
      · rw [if_pos c2, if_pos c2]
        exact ⟨F, MD.st M, n, rfl, rfl, h, Or.inl rfl⟩
      · rw [if_neg c2, if_neg c2]
        obtain ⟨F', m', a1, a2, a3⟩ := burstR hk h 2 C
        rw [a1, a2]
        exact ⟨F', m', 0, rfl, rfl, a3, Or.inr rfl⟩
    · rw [if_neg c, e2]
      obtain ⟨F', m', a1, a2, a3⟩ := burstR hk h 1 v
      rw [a1, a2]
      exact ⟨F', m', 0, rfl, rfl, a3, Or.inr rfl⟩
  obtain ⟨hn, hrows, hth, hst, hu0, ⟨m0, m1, m2, m3, m4, m5, m6, m7, m8, m9, m10, m11, m12⟩, hac⟩ := id h
  obtain ⟨hs1, hs2, hs3⟩ := hst 6 (by decide)
  rw [p_X5_changesFilm_L104, a44_0, m0]
  simp only [Option.bind_some]
  rw [if_pos (Int32.le_refl (nI n)), a44_2]
  simp only [Option.bind_some, q_of6]
  rw [show MD.st M 19 = nI (u 6) from hs2, m2]
  unfold p_X0_letDropFall
  simp only [a7_2, a7_6, hs1, Option.bind_some]
  by_cases c : FD.ac F 2 < nI (u 6)
  · rw [if_pos c, if_pos c]
    obtain ⟨F', m', n', a1, a2, a3, a4⟩ := B F M h
    rw [a2]
    exact ⟨F, F', m', n', rfl, a1, rfl, a3, a4⟩
  · rw [if_neg c, if_neg c]
    unfold p_X0_move
    simp only [a7_0, a7_1, a7_2, a7_3, a7_4, a7_5, a7_6, a44_0, a44_1, a44_2, a44_3, a44_4, a44_5, a44_6, a44_7, a44_8, a44_9, a44_10, a44_11, a44_12, a44_13, a44_14, a44_15, a44_16, a44_17, a44_18, a44_19, s7_0, s7_1, s7_2, s7_3, s7_4, s7_5, s7_6, s44_0, s44_1, s44_2, s44_3, s44_4, s44_5, s44_6, s44_7, s44_8, s44_9, s44_10, s44_11, s44_12, s44_13, s44_14, s44_15, s44_16, s44_17, s44_18, s44_19, Option.bind_some]
    have h2 : RF (mkFD (FD.th F) (FD.st F) (upd (upd (FD.ac F) 2 (FD.ac F 2 - FD.ac F 2)) 3 (FD.ac F 3 + FD.ac F 2)) (FD.rows F) (FD.ticks F) (FD.drops F + 1) (FD.bursts F) (FD.burstReason F) (FD.burstNumber F) (FD.ticksBeforeBurst F)) (upd (upd (upd (MD.st M) 4 (MD.st M 4 + FD.ac F 2)) 2 0) 9 (MD.st M 9 + 1)) n t u := by
      refine ⟨hn, hrows, fun j hj => ?_, fun j hj => ?_, hu0, ⟨?_, ?_, ?_, ?_, ?_, ?_, ?_, ?_, ?_, ?_, ?_, ?_, ?_⟩, ?_⟩
      · rw [un (by omega), un (by omega), un (by omega)]
        exact hth j hj
      · rw [un (by omega), un (by omega), un (by omega)]
        exact hst j hj
      · exact m0
      · exact m1
      · show (0 : Int32) = FD.ac F 2 - FD.ac F 2
        rw [Int32.sub_self]
      · exact m3
      · show MD.st M 4 + FD.ac F 2 = FD.ac F 3 + FD.ac F 2
        rw [m4]
      · exact m5
      · exact m6
      · exact m7
      · exact m8
      · show MD.st M 9 + 1 = FD.drops F + 1
        rw [m9]
      · exact m10
      · exact m11
      · exact m12
      · exact hac
    obtain ⟨F', m', n', a1, a2, a3, a4⟩ := B _ (wst M (upd (upd (upd (MD.st M) 4 (MD.st M 4 + FD.ac F 2)) 2 0) 9 (MD.st M 9 + 1))) h2
    refine ⟨_, F', m', n', rfl, a1, ?_, a3, a4⟩
    have e9 : upd (upd (MD.st M) 4 (MD.st M 4 + FD.ac F 2)) 2 0 9 = MD.st M 9 := by rw [un (by omega), un (by omega)]
    rw [e9]
    unfold wst at a2
    rw [a2]
    rfl
