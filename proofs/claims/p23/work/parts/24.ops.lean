/-! PURE PART: a whole tick; rows brought, taken. -/
theorem RF_tick {n : Nat} {u t : Nat → Nat} {F : FD} {m : Nat → Int32} (h : RF F m n t u) : RF (mkFD (FD.th F) (FD.st F) (FD.ac F) (FD.rows F) (FD.ticks F + 1) (FD.drops F) (FD.bursts F) (FD.burstReason F) (FD.burstNumber F) (FD.ticksBeforeBurst F)) (upd m 1 (m 1 + 1)) n t u := by
  obtain ⟨hn, hrows, hth, hst, hu0, ⟨m0, m1, m2, m3, m4, m5, m6, m7, m8, m9, m10, m11, m12⟩, hac⟩ := id h
  refine ⟨hn, hrows, fun j hj => ?_, fun j hj => ?_, hu0, ⟨?_, ?_, ?_, ?_, ?_, ?_, ?_, ?_, ?_, ?_, ?_, ?_, ?_⟩, hac⟩
  · rw [un (by omega)]
    exact hth j hj
  · rw [un (by omega)]
    exact hst j hj
  · exact m0
  · show m 1 + 1 = FD.ticks F + 1
    rw [m1]
  · exact m2
  · exact m3
  · exact m4
  · exact m5
  · exact m6
  · exact m7
  · exact m8
  · exact m9
  · exact m10
  · exact m11
  · exact m12
theorem tickR {k n : Nat} {u t : Nat → Nat} {F : FD} {M : MD} (hk : 100 ≤ k) (h : RF F (MD.st M) n t u) :
    ∃ (F' : FD) (m' : Nat → Int32) (n' : Nat) (t' : Nat → Nat), p_X0_tick k F = some F' ∧ p_X5_tick k M = some (if n = 0 then 0 else 1, wst M m') ∧ RF F' m' n' t' u ∧ (n' = n ∨ n' = 0) := by
  obtain ⟨hn, hrows, -, -, -, ⟨m0, -⟩, -⟩ := id h
  by_cases h0 : n = 0
  · subst h0
    refine ⟨_, _, 0, t, ?_, ?_, RF_tick h, Or.inl rfl⟩
    · unfold p_X0_tick
      rw [hrows, if_pos (show nI 0 ≤ 0 by decide), ← hrows]
    · unfold p_X5_tick
      rw [a44_0, Option.bind_some, m0, if_pos (show nI 0 ≤ 0 by decide), a44_1, Option.bind_some, s44_1, Option.bind_some]
      rfl
  · obtain ⟨F1, m1, t1, a1, b1, h1⟩ := drainL (k := k) n k k F M t h (Nat.le_refl _) (by omega) (by omega)
    obtain ⟨F2, m2, t2, a2, b2, h2⟩ := edges (k := k) (M := wst M m1) hk h1 (by omega)
    obtain ⟨F3, m3, t3, a3, b3, h3⟩ := dryL (k := k) n 0 k k F2 (wst M m2) t2 h2 (by omega) (by omega) (by omega)
    obtain ⟨F4, F5, m4, n', a4, a5, b4, h4, hle⟩ := lastly (k := k) (M := wst M m3) hk h3
    have hones := q_ones (k := k) (M := wst M m1) hk h1
    rw [nI_0] at a3 b3
    refine ⟨_, upd m4 1 (m4 1 + 1), n', t3, ?_, ?_, RF_tick h4, hle⟩
    · unfold p_X0_tick p_X0_drain p_X0_dry
      rw [if_neg (show ¬ FD.rows F ≤ 0 by rw [hrows]; exact nI_nle (by omega) (by omega)), hrows, a1, Option.bind_some, a2, Option.bind_some, a3, Option.bind_some, a4, Option.bind_some, a5, Option.bind_some]
    · unfold p_X5_tick p_X5_changesFilm
      rw [a44_0, Option.bind_some, m0, if_neg (nI_nle (by omega) (by omega)), Option.bind_some, b1, p_X5_changesFilm_L9, if_pos (by decide), hones, Option.bind_some, b2, wst_wst, b3, wst_wst, b4, wst_wst, Option.bind_some, wst_st, a44_1, Option.bind_some, s44_1, Option.bind_some, if_neg h0]
      rfl
/-- a row comes at the bottom -/
theorem appendR {k n x : Nat} {u t : Nat → Nat} {F : FD} {M : MD} (h : RF F (MD.st M) n t u) (hn24 : n < 24) (hx : x ≤ 5000) :
    ∃ (F' : FD) (m' : Nat → Int32), p_X0_appendRow k F (nI x) = some F' ∧ p_X5_newRow k M (nI x) = some (wst M m') ∧ RF F' m' (n + 1) (tu t n x) u := by
  obtain ⟨hn, hrows, hth, hst, hu0, ⟨m0, m1, m2, m3, m4, m5, m6, m7, m8, m9, m10, m11, m12⟩, hac⟩ := id h
  refine ⟨mkFD (upd (FD.th F) n (nI x)) (FD.st F) (upd (upd (FD.ac F) 0 (FD.ac F 0 + nI x)) 1 (FD.ac F 1 + nI x)) (FD.rows F + 1) (FD.ticks F) (FD.drops F) (FD.bursts F) (FD.burstReason F) (FD.burstNumber F) (FD.ticksBeforeBurst F), upd (upd (upd (MD.st M) (20 + n) (nI x)) 0 (nI (n + 1))) 3 (MD.st M 3 + nI x), ?_, ?_, ?_⟩
  · unfold p_X0_appendRow p_X0_bring
    rw [if_neg (show ¬ (24 : Int32) ≤ FD.rows F by rw [hrows]; exact nI_ge (b := 24) hn24 (by decide))]
    have e : ast (FD.th F) 24 (FD.rows F) (nI x) = some (upd (FD.th F) n (nI x)) := by rw [hrows]; exact s24 _ _ hn24
    rw [e, Option.bind_some]
    show (Option.bind (Option.bind (ald (FD.ac F) 7 0) _) _) = _
    rw [a7_0, Option.bind_some, show FD.ac (mkFD (upd (FD.th F) n (nI x)) (FD.st F) (FD.ac F) (FD.rows F + 1) (FD.ticks F) (FD.drops F) (FD.bursts F) (FD.burstReason F) (FD.burstNumber F) (FD.ticksBeforeBurst F)) = FD.ac F from rfl, s7_0, Option.bind_some, a7_1, Option.bind_some, s7_1, Option.bind_some, Option.bind_some]
    rfl
  · unfold p_X5_newRow
    rw [a44_0, Option.bind_some, m0, s20 _ _ hn24, Option.bind_some, a44_0, Option.bind_some, un (by omega), m0, nI_1, s44_0, Option.bind_some, a44_3, Option.bind_some, un (by omega), un (by omega), s44_3, Option.bind_some]
    rfl
  · refine ⟨by omega, ?_, fun j hj => ?_, fun j hj => ?_, hu0, ⟨?_, ?_, ?_, ?_, ?_, ?_, ?_, ?_, ?_, ?_, ?_, ?_, ?_⟩, ?_⟩
    · show FD.rows F + 1 = _
      rw [hrows, nI_1]
    · rw [un (by omega), un (by omega)]
      by_cases hjr : j = n
      · subst hjr
        rw [tu_s]
        exact ⟨us, us, hx⟩
      · rw [tu_n hjr, un (by omega)]
        obtain ⟨g1, g2, g3⟩ := hth j (by omega)
        exact ⟨(un hjr).trans g1, g2, g3⟩
    · rw [un (by omega), un (by omega), un (by omega)]
      exact hst j hj
    · rw [un (by omega), us]
    · rw [un (by omega), un (by omega), un (by omega), m1]; rfl
    · rw [un (by omega), un (by omega), un (by omega), m2]; rfl
    · rw [us, m3]; rfl
    · rw [un (by omega), un (by omega), un (by omega), m4]; rfl
    · rw [un (by omega), un (by omega), un (by omega), m5]; rfl
    · rw [un (by omega), un (by omega), un (by omega), m6]; rfl
    · rw [un (by omega), un (by omega), un (by omega), m7]; rfl
    · rw [un (by omega), un (by omega), un (by omega), m8]; rfl
    · rw [un (by omega), un (by omega), un (by omega), m9]; rfl
    · rw [un (by omega), un (by omega), un (by omega), m10]; rfl
    · rw [un (by omega), un (by omega), un (by omega), m11]; rfl
    · rw [un (by omega), un (by omega), un (by omega), m12]; rfl
    · show FD.ac F 1 + nI x = _
      rw [hac, nI_add]
      show _ = nI (sumN (tu t n x) n + tu t n x n)
      rw [sum_out n (Nat.le_refl _), tu_s]
/-- the film is taken away -/
theorem awayR {k n : Nat} {u t : Nat → Nat} {F : FD} {M : MD} (hk : 100 ≤ k) (h : RF F (MD.st M) n t u) :
    ∃ (F' : FD) (m' : Nat → Int32), p_X0_takeAway k F = some F' ∧ p_X5_takesAway k M = some (wst M m') ∧ RF F' m' 0 t u := by
  obtain ⟨hn, hrows, hth, hst, hu0, ⟨m0, m1, m2, m3, m4, m5, m6, m7, m8, m9, m10, m11, m12⟩, hac⟩ := id h
  refine ⟨mkFD (FD.th F) (FD.st F) (upd (upd (FD.ac F) 1 (FD.ac F 1 - FD.ac F 1)) 6 (FD.ac F 6 + FD.ac F 1)) 0 (FD.ticks F) (FD.drops F) (FD.bursts F) (FD.burstReason F) (FD.burstNumber F) (FD.ticksBeforeBurst F), upd (upd (MD.st M) 7 (MD.st M 7 + nI (sumN t n))) 0 0, ?_, ?_, ?_⟩
  · unfold p_X0_takeAway p_X0_endFilm
    rw [a7_1, Option.bind_some, show (6 : Int32) = nI 6 from rfl, q_move (by decide) (by decide)]
    rfl
  · unfold p_X5_takesAway
    rw [a44_7, Option.bind_some, q_liq hk hn m0 (fun j hj => (hth j hj).2.1), Option.bind_some, s44_7, Option.bind_some, s44_0, Option.bind_some]
    rfl
  · refine ⟨Nat.zero_le _, rfl, fun j hj => absurd hj (Nat.not_lt_zero _), fun j hj => ?_, hu0, ⟨?_, ?_, ?_, ?_, ?_, ?_, ?_, ?_, ?_, ?_, ?_, ?_, ?_⟩, ?_⟩
    · rw [un (by omega), un (by omega)]
      exact hst j hj
    · exact us
    · exact m1
    · exact m2
    · exact m3
    · exact m4
    · exact m5
    · exact m6
    · show MD.st M 7 + nI (sumN t n) = FD.ac F 6 + FD.ac F 1
      rw [m7, hac]
    · exact m8
    · exact m9
    · exact m10
    · exact m11
    · exact m12
    · show FD.ac F 1 - FD.ac F 1 = nI 0
      rw [Int32.sub_self]
      rfl
/-- some of a row is taken away -/
theorem loseR {n : Nat} {u t : Nat → Nat} {F : FD} {m : Nat → Int32} (h : RF F m n t u) {r b : Nat} (hr : r < n) (hb : b ≤ t r) :
    RF (mkFD (upd (FD.th F) r (nI (t r - b))) (FD.st F) (upd (upd (FD.ac F) 1 (FD.ac F 1 - nI b)) 6 (FD.ac F 6 + nI b)) (FD.rows F) (FD.ticks F) (FD.drops F) (FD.bursts F) (FD.burstReason F) (FD.burstNumber F) (FD.ticksBeforeBurst F)) (upd (upd m (20 + r) (nI (t r - b))) 7 (m 7 + nI b)) n (tu t r (t r - b)) u := by
  obtain ⟨hn, hrows, hth, hst, hu0, ⟨m0, m1, m2, m3, m4, m5, m6, m7, m8, m9, m10, m11, m12⟩, hac⟩ := id h
  have hs := sum_tu (t := t) (r := r) (v := t r - b) n hr
  have hr3 := (hth r hr).2.2
  refine ⟨hn, hrows, fun j hj => ?_, fun j hj => ?_, hu0, ⟨?_, ?_, ?_, ?_, ?_, ?_, ?_, ?_, ?_, ?_, ?_, ?_, ?_⟩, ?_⟩
  · by_cases hjr : j = r
    · subst hjr
      rw [tu_s]
      exact ⟨us, (un (by omega)).trans us, by omega⟩
    · rw [tu_n hjr, un (by omega), un (by omega)]
      obtain ⟨g1, g2, g3⟩ := hth j hj
      exact ⟨(un hjr).trans g1, g2, g3⟩
  · rw [un (by omega), un (by omega)]
    exact hst j hj
  · rw [un (by omega), un (by omega), m0]
  · rw [un (by omega), un (by omega), m1]; rfl
  · rw [un (by omega), un (by omega), m2]; rfl
  · rw [un (by omega), un (by omega), m3]; rfl
  · rw [un (by omega), un (by omega), m4]; rfl
  · rw [un (by omega), un (by omega), m5]; rfl
  · rw [un (by omega), un (by omega), m6]; rfl
  · rw [us, m7]; rfl
  · rw [un (by omega), un (by omega), m8]; rfl
  · rw [un (by omega), un (by omega), m9]; rfl
  · rw [un (by omega), un (by omega), m10]; rfl
  · rw [un (by omega), un (by omega), m11]; rfl
  · rw [un (by omega), un (by omega), m12]; rfl
  · show FD.ac F 1 - nI b = _
    rw [hac]
    exact nI_subE (by omega)
