/-! PURE PART: looking. -/
def cl (t u : Nat → Nat) (j : Nat) : Int32 := col (nI (t j)) (nI (u 3))
theorem q_cA {k n : Nat} {u t : Nat → Nat} {F : FD} {m : Nat → Int32} (h : RF F m n t u) {r : Nat} (hr : r < n) : p_X0_colourAt k F (nI r) = some (cl t u r) := by
  obtain ⟨hn, hrows, hth, hst, -⟩ := h
  unfold p_X0_colourAt
  rw [a24 _ (show r < 24 by omega), Option.bind_some, a7_3, Option.bind_some, q_col, (hth r hr).1, (hst 3 (by decide)).1]
  rfl
theorem q_cA5 {k n : Nat} {u t : Nat → Nat} {F : FD} {M : MD} (h : RF F (MD.st M) n t u) {r : Nat} (hr : r < n) : p_X5_colourAt k M (nI r) = some (cl t u r) := by
  obtain ⟨hn, hrows, hth, hst, -⟩ := h
  unfold p_X5_colourAt
  rw [a20 _ (show r < 24 by omega), Option.bind_some, q_col5, (hth r hr).2.1, show MD.st M 16 = nI (u 3) from (hst 3 (by decide)).2.1]
  rfl
/-- how many neighbours up to a row differ -/
def frN (c : Nat → Int32) : Nat → Nat
  | 0 => 0
  | r + 1 => frN c r + (if c (r + 1) = c r then 0 else 1)
theorem frN_le (c : Nat → Int32) : ∀ r, frN c r ≤ r
  | 0 => Nat.le_refl 0
  | r + 1 => by
    have := frN_le c r
    show frN c r + _ ≤ r + 1
    split <;> omega
theorem q_starts {k n : Nat} {u t : Nat → Nat} {F : FD} {m : Nat → Int32} (h : RF F m n t u) {r : Nat} (hr : r + 1 < n) : p_X0_startsColour k F (nI (r + 1)) = some (if cl t u (r + 1) = cl t u r then 0 else 1) := by
  have hn := h.1
  unfold p_X0_startsColour
  rw [if_neg (nI_ne0 (by omega) (by omega)), q_cA h hr, Option.bind_some, nI_pred, q_cA h (by omega), Option.bind_some]
  split <;> rfl
theorem q_starts0 {k : Nat} {F : FD} : p_X0_startsColour k F 0 = some 1 := by
  unfold p_X0_startsColour
  rw [if_pos rfl]
theorem q_frL {k n : Nat} {u t : Nat → Nat} {F : FD} {m : Nat → Int32} (h : RF F m n t u) : ∀ (d i f : Nat), i + 1 + d = n → d < f → p_X0_fringes_L4 k F f (nI (frN (cl t u) i)) (nI (i + 1)) = some (nI (frN (cl t u) (n - 1)))
  | 0, i, f, hd, hf => by
    have hn := h.1
    obtain ⟨f, rfl⟩ : ∃ f', f = f' + 1 := ⟨f - 1, by omega⟩
    have hi : n = i + 1 := by omega
    subst hi
    rw [p_X0_fringes_L4, h.2.1, if_pos (Int32.le_refl _)]
    rfl
  | d + 1, i, f, hd, hf => by
    have hn := h.1
    obtain ⟨f, rfl⟩ : ∃ f', f = f' + 1 := ⟨f - 1, by omega⟩
    have ih := q_frL (k := k) h d (i + 1) f (by omega) (by omega)
    have e : frN (cl t u) (i + 1) = frN (cl t u) i + (if cl t u (i + 1) = cl t u i then 0 else 1) := rfl
    rw [p_X0_fringes_L4, h.2.1, if_neg (nI_ge (by omega) (by omega)), q_starts h (by omega), Option.bind_some]
    by_cases c : cl t u (i + 1) = cl t u i
    · rw [if_pos c] at e ⊢
      rw [if_pos rfl, nI_1]
      rw [e, Nat.add_zero] at ih
      exact ih
    · rw [if_neg c] at e ⊢
      rw [if_neg (by decide), nI_1, nI_1]
      rw [e] at ih
      exact ih
theorem q_fr {k n : Nat} {u t : Nat → Nat} {F : FD} {m : Nat → Int32} (hk : 100 ≤ k) (h : RF F m n t u) : p_X0_fringes k F = some (nI (frN (cl t u) (n - 1))) := by
  have hn := h.1
  unfold p_X0_fringes
  by_cases h0 : n = 0
  · subst h0
    obtain ⟨k, rfl⟩ : ∃ k', k = k' + 1 := ⟨k - 1, by omega⟩
    rw [p_X0_fringes_L4, h.2.1, if_pos (by decide)]
    rfl
  · exact q_frL h (n - 1) 0 k (by omega) (by omega)
theorem q_runsL {k n : Nat} {u t : Nat → Nat} {F : FD} {M : MD} (h : RF F (MD.st M) n t u) {r : Nat} (hr : r < n) : ∀ (d i f : Nat), i + d = r → d + 1 < f → p_X5_runsTo_L4 k M (nI r) f (nI (frN (cl t u) i + 1)) (nI (i + 1)) = some (nI (frN (cl t u) r + 1))
  | 0, i, f, hd, hf => by
    have hn := h.1
    obtain ⟨f, rfl⟩ : ∃ f', f = f' + 1 := ⟨f - 1, by omega⟩
    have hi : i = r := by omega
    subst hi
    rw [p_X5_runsTo_L4, if_pos (nI_lt (by omega) (by omega))]
  | d + 1, i, f, hd, hf => by
    have hn := h.1
    obtain ⟨f, rfl⟩ : ∃ f', f = f' + 1 := ⟨f - 1, by omega⟩
    have ih := q_runsL (k := k) h hr d (i + 1) f (by omega) (by omega)
    have e : frN (cl t u) (i + 1) = frN (cl t u) i + (if cl t u (i + 1) = cl t u i then 0 else 1) := rfl
    rw [p_X5_runsTo_L4, if_neg (nI_nlt (by omega) (by omega)), if_neg (nI_ne0 (by omega) (by omega)), q_cA5 h (by omega), Option.bind_some, nI_pred, q_cA5 h (by omega), Option.bind_some, nI_1]
    by_cases c : cl t u (i + 1) = cl t u i
    · rw [if_pos c] at e ⊢
      rw [e, Nat.add_zero] at ih
      rw [Int32.add_zero]
      exact ih
    · rw [if_neg c] at e ⊢
      rw [e] at ih
      rw [nI_1]
      exact ih
theorem q_runs {k n : Nat} {u t : Nat → Nat} {F : FD} {M : MD} (hk : 100 ≤ k) (h : RF F (MD.st M) n t u) {r : Nat} (hr : r < n) : p_X5_runsTo k M (nI r) = some (nI (frN (cl t u) r + 1)) := by
  have hn := h.1
  obtain ⟨k', rfl⟩ : ∃ k', k = k' + 1 := ⟨k - 1, by omega⟩
  unfold p_X5_runsTo
  rw [p_X5_runsTo_L4, if_neg (show ¬ nI r < 0 from nI_nlt (a := r) (b := 0) (Nat.zero_le _) (by omega)), if_pos rfl]
  exact q_runsL h hr r 0 k' (by omega) (by omega)
/-- different colours: the same bits on both sides, counted in two ways -/
theorem bits_mono (k : Nat) : ∀ (f g : Nat) (a x r : Int32), f ≤ g → p_X5_bits_L4 0 f a x = some r → p_X5_bits_L4 k g a x = some r
  | 0, _, _, _, _, _, h => by cases h
  | f + 1, g, a, x, r, hg, h => by
    obtain ⟨g, rfl⟩ : ∃ g', g = g' + 1 := ⟨g - 1, by omega⟩
    rw [p_X5_bits_L4] at h ⊢
    by_cases c : x = 0
    · rw [if_pos c] at h ⊢; exact h
    · rw [if_neg c] at h ⊢; exact bits_mono k f g _ _ _ (by omega) h
theorem bits_256 : ∀ s, s < 256 → (p_J6_bitCount_0f7a4 0 (nI s)).isSome = true ∧ p_X5_bits_L4 0 9 0 (nI s) = p_J6_bitCount_0f7a4 0 (nI s) := by decide +kernel
theorem q_two {k s : Nat} (hk : 100 ≤ k) (hs : s < 256) : ∃ r : Int32, p_J6_bitCount_0f7a4 k (nI s) = some r ∧ p_X5_bits k (nI s) = some r := by
  obtain ⟨h1, h2⟩ := bits_256 s hs
  obtain ⟨r, hr⟩ := Option.isSome_iff_exists.mp h1
  refine ⟨r, hr, ?_⟩
  unfold p_X5_bits
  exact bits_mono k 9 k 0 (nI s) r (by omega) (h2.trans hr)
theorem or_256 {s c : Nat} (hs : s < 256) (hc : c < 8) : s ||| 2 ^ c < 256 := by
  have h1 : (2 : Nat) ^ c < 2 ^ 8 := Nat.pow_lt_pow_right (by decide) hc
  exact Nat.or_lt_two_pow (n := 8) hs h1
theorem q_difL {k n : Nat} {u t : Nat → Nat} {F : FD} {M : MD} (hk : 100 ≤ k) (h : RF F (MD.st M) n t u) : ∀ (d i f g s : Nat), i + d = n → d < f → d < g → s < 256 →
    ∃ r : Int32, p_X0_differentColours_L4 k F f (nI s) (nI i) = some r ∧ p_X5_colours_L4 k M g (nI s) (nI i) = some r
  | 0, i, f, g, s, hd, hf, hg, hs => by
    obtain ⟨hn, hrows, -, -, -, ⟨m0, -⟩, -⟩ := id h
    obtain ⟨f, rfl⟩ : ∃ f', f = f' + 1 := ⟨f - 1, by omega⟩
    obtain ⟨g, rfl⟩ : ∃ g', g = g' + 1 := ⟨g - 1, by omega⟩
    have hi : i = n := by omega
    subst hi
    obtain ⟨r, e1, e2⟩ := q_two hk hs
    refine ⟨r, ?_, ?_⟩
    · rw [p_X0_differentColours_L4, hrows, if_pos (Int32.le_refl _), e1]; rfl
    · rw [p_X5_colours_L4, a44_0, Option.bind_some, m0, if_pos (Int32.le_refl _), e2]; rfl
  | d + 1, i, f, g, s, hd, hf, hg, hs => by
    obtain ⟨hn, hrows, -, -, -, ⟨m0, -⟩, -⟩ := id h
    obtain ⟨f, rfl⟩ : ∃ f', f = f' + 1 := ⟨f - 1, by omega⟩
    obtain ⟨g, rfl⟩ : ∃ g', g = g' + 1 := ⟨g - 1, by omega⟩
    obtain ⟨c, hc, ec⟩ := col_n (nI (t i)) (nI (u 3))
    have ec' : cl t u i = nI c := ec
    obtain ⟨r, e1, e2⟩ := q_difL hk h d (i + 1) f g (s ||| 2 ^ c) (by omega) (by omega) (by omega) (or_256 hs hc)
    refine ⟨r, ?_, ?_⟩
    · rw [p_X0_differentColours_L4, hrows, if_neg (nI_ge (by omega) (by omega)), q_cA h (by omega), Option.bind_some, ec', q_shl1 (by omega), nx_or, nI_1]
      exact e1
    · rw [p_X5_colours_L4, a44_0, Option.bind_some, m0, if_neg (nI_ge (by omega) (by omega)), q_cA5 h (by omega), Option.bind_some, ec', q_shl1 (by omega), nx_or, nI_1]
      exact e2
theorem q_dif {k n : Nat} {u t : Nat → Nat} {F : FD} {M : MD} (hk : 100 ≤ k) (h : RF F (MD.st M) n t u) : ∃ r : Int32, p_X0_differentColours k F = some r ∧ p_X5_colours k M = some r := by
  have hn := h.1
  exact q_difL hk h n 0 k k 0 (by omega) (by omega) (by omega) (by decide)
/-- the greatest order -/
theorem ord_n {x : Nat} (hx : x ≤ 5000) : nI x * 266 / 100 / 530 = nI (x * 266 / 100 / 530) := by
  have e1 : nI x * 266 = nI (x * 266) := pk_mul x 266
  have e2 : nI (x * 266) / 100 = nI (x * 266 / 100) := pk_div (d := 100) (by omega) (by decide) (by decide)
  have e3 : nI (x * 266 / 100) / 530 = nI (x * 266 / 100 / 530) := pk_div (d := 530) (by omega) (by decide) (by decide)
  rw [e1, e2, e3]
theorem q_ordL {k n : Nat} {u t : Nat → Nat} {F : FD} {M : MD} (h : RF F (MD.st M) n t u) : ∀ (d i f g x : Nat), i + d = n → d < f → d < g → x < 2 ^ 30 →
    ∃ r : Int32, p_X0_greatestOrder_L4 k F f (nI x) (nI i) = some r ∧ p_X5_greatestOrder_L5 k M g (nI x) (nI i) = some r
  | 0, i, f, g, s, hd, hf, hg, hs => by
    obtain ⟨hn, hrows, -, -, -, ⟨m0, -⟩, -⟩ := id h
    obtain ⟨f, rfl⟩ : ∃ f', f = f' + 1 := ⟨f - 1, by omega⟩
    obtain ⟨g, rfl⟩ : ∃ g', g = g' + 1 := ⟨g - 1, by omega⟩
    have hi : i = n := by omega
    subst hi
    refine ⟨nI s, ?_, ?_⟩
    · rw [p_X0_greatestOrder_L4, hrows, if_pos (Int32.le_refl _)]
    · rw [p_X5_greatestOrder_L5, a44_0, Option.bind_some, m0, if_pos (Int32.le_refl _)]
  | d + 1, i, f, g, x, hd, hf, hg, hs => by
    obtain ⟨hn, hrows, hth, -, -, ⟨m0, -⟩, -⟩ := id h
    obtain ⟨f, rfl⟩ : ∃ f', f = f' + 1 := ⟨f - 1, by omega⟩
    obtain ⟨g, rfl⟩ : ∃ g', g = g' + 1 := ⟨g - 1, by omega⟩
    obtain ⟨r1, r2, r3⟩ := hth i (by omega)
    have hi24 : i < 24 := by omega
    have ho : t i * 266 / 100 / 530 < 2 ^ 30 := by omega
    by_cases c : x < t i * 266 / 100 / 530
    · obtain ⟨r, e1, e2⟩ := q_ordL (k := k) h d (i + 1) f g (t i * 266 / 100 / 530) (by omega) (by omega) (by omega) ho
      refine ⟨r, ?_, ?_⟩
      · rw [p_X0_greatestOrder_L4, hrows, if_neg (nI_ge (by omega) (by omega)), a24 _ hi24, Option.bind_some, r1]
        unfold p_X3_path p_X3_order imax
        rw [Option.bind_some, Option.bind_some, ord_n r3, if_pos (nI_lt c (by omega)), nI_1]
        exact e1
      · rw [p_X5_greatestOrder_L5, a44_0, Option.bind_some, m0, if_neg (nI_ge (by omega) (by omega)), a20 _ hi24, Option.bind_some, r2]
        unfold p_X5_path
        rw [Option.bind_some, ord_n r3, if_neg (nI_ge c (by omega)), nI_1]
        exact e2
    · obtain ⟨r, e1, e2⟩ := q_ordL (k := k) h d (i + 1) f g x (by omega) (by omega) (by omega) hs
      refine ⟨r, ?_, ?_⟩
      · rw [p_X0_greatestOrder_L4, hrows, if_neg (nI_ge (by omega) (by omega)), a24 _ hi24, Option.bind_some, r1]
        unfold p_X3_path p_X3_order imax
        rw [Option.bind_some, Option.bind_some, ord_n r3, if_neg (nI_nlt (by omega) (by omega)), nI_1]
        exact e1
      · rw [p_X5_greatestOrder_L5, a44_0, Option.bind_some, m0, if_neg (nI_ge (by omega) (by omega)), a20 _ hi24, Option.bind_some, r2]
        unfold p_X5_path
        rw [Option.bind_some, ord_n r3, if_pos (nI_le (by omega) (by omega)), nI_1]
        exact e2
theorem q_ord {k n : Nat} {u t : Nat → Nat} {F : FD} {M : MD} (hk : 100 ≤ k) (h : RF F (MD.st M) n t u) : ∃ r : Int32, (if FD.rows F = 0 then some (-4) else p_X0_greatestOrder k F) = some r ∧ p_X5_greatestOrder k M = some r := by
  obtain ⟨hn, hrows, hth, -, -, ⟨m0, -⟩, -⟩ := id h
  obtain ⟨k', rfl⟩ : ∃ k', k = k' + 1 := ⟨k - 1, by omega⟩
  by_cases h0 : n = 0
  · subst h0
    refine ⟨-4, ?_, ?_⟩
    · rw [hrows, if_pos (by decide)]
    · unfold p_X5_greatestOrder
      rw [p_X5_greatestOrder_L5, a44_0, Option.bind_some, m0, if_pos (by decide)]
  · obtain ⟨r1, r2, r3⟩ := hth 0 (by omega)
    obtain ⟨r, e1, e2⟩ := q_ordL (k := k' + 1) h (n - 1) 1 k' k' (t 0 * 266 / 100 / 530) (by omega) (by omega) (by omega) (by omega)
    refine ⟨r, ?_, ?_⟩
    · rw [hrows, if_neg (nI_ne0 (by omega) (by omega))]
      unfold p_X0_greatestOrder
      rw [p_X0_greatestOrder_L4, hrows, if_neg (show ¬ nI n ≤ 0 from nI_nle (by omega) (by omega)), show ald (FD.th F) 24 0 = some (FD.th F 0) from a24 (r := 0) _ (by decide), Option.bind_some, r1]
      unfold p_X3_path p_X3_order imax
      rw [Option.bind_some, Option.bind_some, ord_n r3]
      by_cases c : (0 : Int32) < nI (t 0 * 266 / 100 / 530)
      · rw [if_pos c]
        exact e1
      · rw [if_neg c]
        have hz : t 0 * 266 / 100 / 530 = 0 := by
          rcases Nat.eq_zero_or_pos (t 0 * 266 / 100 / 530) with q | q
          · exact q
          · exact absurd (nI_lt (a := 0) q (by omega)) c
        rw [hz] at e1
        exact e1
    · unfold p_X5_greatestOrder
      rw [p_X5_greatestOrder_L5, a44_0, Option.bind_some, m0, if_neg (show ¬ nI n ≤ 0 from nI_nle (by omega) (by omega)), show ald (MD.st M) 44 (20 + 0) = some (MD.st M (20 + 0)) from a20 (r := 0) _ (by decide), Option.bind_some, r2]
      unfold p_X5_path
      rw [Option.bind_some, ord_n r3, if_neg ?_]
      · exact e2
      · intro q
        have h1 : (0 : Int32) ≤ nI (t 0 * 266 / 100 / 530) := nI_pos' (by omega)
        exact absurd (Int32.le_trans h1 q) (by decide)
