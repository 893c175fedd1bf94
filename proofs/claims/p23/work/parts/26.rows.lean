/-! PURE PART: the readers of one row, of the ladder, of colours. -/
theorem bet_no {x a b : Int32} (h : x < a ∨ b < x) : bet x a b = 0 := bet_0.mpr h
theorem bet_yes {x a b : Int32} (h1 : ¬ x < a) (h2 : ¬ b < x) : bet x a b = 1 := by
  unfold bet
  rw [if_neg h1, if_neg h2]
/-- either both sides hold an argument for one of the film's rows, or both don't -/
theorem q_rowIs {k n : Nat} {u t : Nat → Nat} {F : FD} {M : MD} (h : RF F (MD.st M) n t u) (x : Int32) :
    (p_X0_hasRow k F x = some 0 ∧ p_X5_isRow k M x = some 0) ∨ (∃ r : Nat, r < n ∧ x = nI r ∧ p_X0_hasRow k F x = some 1 ∧ p_X5_isRow k M x = some 1) := by
  obtain ⟨hn, hrows, -, -, -, ⟨m0, -⟩, -⟩ := h
  unfold p_X0_hasRow p_X5_isRow
  rw [hrows, a44_0, Option.bind_some, m0, q_in, Option.bind_some]
  rcases pk_ix x (show n < 2 ^ 31 by omega) with hx | hx | ⟨r, hr, rfl⟩
  · left
    rw [if_pos hx, bet_no (Or.inl hx)]
    exact ⟨rfl, rfl⟩
  · left
    have h0 : ¬ x < 0 := by
      intro q
      have h1 : (0 : Int32) ≤ nI n := nI_pos' (by omega)
      exact absurd (Int32.lt_of_le_of_lt h1 (Int32.lt_of_le_of_lt hx q)) (by decide)
    rw [if_neg h0, if_pos hx]
    refine ⟨rfl, ?_⟩
    have h2 : nI n - 1 < x := by
      cases n with
      | zero => 
        have : (nI 0 - 1 : Int32) < 0 := by decide
        exact Int32.lt_of_lt_of_le this hx
      | succ n => 
        rw [nI_pred]
        exact Int32.lt_of_lt_of_le (nI_lt (by omega) (by omega)) hx
    rw [bet_no (Or.inr h2)]
  · right
    refine ⟨r, hr, rfl, ?_, ?_⟩
    · rw [if_neg (nI_pos (by omega)), if_neg (nI_ge hr (by omega))]
    · obtain ⟨n, rfl⟩ : ∃ n', n = n' + 1 := ⟨n - 1, by omega⟩
      rw [nI_pred, bet_yes (nI_pos (by omega)) (nI_nlt (by omega) (by omega))]
theorem q_path (k : Nat) (x : Int32) : p_X3_path k x = some ((x * 266) / 100) := rfl
theorem q_path5 (k : Nat) (x : Int32) : p_X5_path k x = some ((x * 266) / 100) := rfl
theorem bet7 {x : Int32} (h : ¬ bet x 0 7 = 0) : x = 0 ∨ x = 1 ∨ x = 2 ∨ x = 3 ∨ x = 4 ∨ x = 5 ∨ x = 6 ∨ x = 7 := by
  obtain ⟨j, -, hj, rfl⟩ := bet_n (a := 0) (b := 7) (by decide) (by decide) h
  have : j = 0 ∨ j = 1 ∨ j = 2 ∨ j = 3 ∨ j = 4 ∨ j = 5 ∨ j = 6 ∨ j = 7 := by omega
  rcases this with rfl | rfl | rfl | rfl | rfl | rfl | rfl | rfl
  · exact Or.inl rfl
  · exact Or.inr (Or.inl rfl)
  · exact Or.inr (Or.inr (Or.inl rfl))
  · exact Or.inr (Or.inr (Or.inr (Or.inl rfl)))
  · exact Or.inr (Or.inr (Or.inr (Or.inr (Or.inl rfl))))
  · exact Or.inr (Or.inr (Or.inr (Or.inr (Or.inr (Or.inl rfl)))))
  · exact Or.inr (Or.inr (Or.inr (Or.inr (Or.inr (Or.inr (Or.inl rfl))))))
  · exact Or.inr (Or.inr (Or.inr (Or.inr (Or.inr (Or.inr (Or.inr (rfl)))))))
theorem rowR {k n : Nat} {u t : Nat → Nat} {F : FD} {M : MD} (h : RF F (MD.st M) n t u) (x1 x2 : Int32) :
    ∃ r : Int32, p_X4_row k F x1 x2 = some r ∧ p_X5_row k M x1 x2 = some r := by
  unfold p_X4_row p_X5_row
  rcases q_rowIs (k := k) h x1 with ⟨e1, e2⟩ | ⟨r, hr, rfl, e1, e2⟩
  · rw [e1, e2]
    exact ⟨-1, rfl, rfl⟩
  · obtain ⟨hn, hrows, hth, hst, -⟩ := id h
    obtain ⟨r1, r2, r3⟩ := hth r hr
    rw [e1, e2, Option.bind_some, Option.bind_some, if_neg (show ¬ (1 : Int32) = 0 by decide), if_neg (show ¬ (1 : Int32) = 0 by decide), a24 _ (show r < 24 by omega), Option.bind_some, r1, q_path, Option.bind_some, q_in, Option.bind_some, a20 _ (show r < 24 by omega)]
    by_cases c : bet x2 0 7 = 0
    · rw [if_pos c]
      refine ⟨-1, ?_, rfl⟩
      have g : ∀ j : Nat, j ≤ 7 → x2 ≠ nI j := by
        rintro j hj rfl
        exact bet_y (a := 0) (b := 7) (by decide) (Nat.zero_le j) hj c
      rw [if_neg (show ¬ x2 = 0 from g 0 (by decide)), if_neg (show ¬ x2 = 1 from g 1 (by decide)), if_neg (show ¬ x2 = 2 from g 2 (by decide)), if_neg (show ¬ x2 = 3 from g 3 (by decide)), if_neg (show ¬ x2 = 4 from g 4 (by decide)), if_neg (show ¬ x2 = 5 from g 5 (by decide)), if_neg (show ¬ x2 = 6 from g 6 (by decide)), if_neg (show ¬ x2 = 7 from g 7 (by decide))]
    · rw [if_neg c, Option.bind_some, r2]
      unfold p_X5_valueOf
      have hb : MD.st M 16 = nI (u 3) := (hst 3 (by decide)).2.1
      have hu3 := (hst 3 (by decide)).2.2
      rcases bet7 c with rfl | rfl | rfl | rfl | rfl | rfl | rfl | rfl
      · exact ⟨nI (t r), rfl, rfl⟩
      · exact ⟨(nI (t r) * 266) / 100, rfl, rfl⟩
      · exact ⟨bR (nI (t r)), (show (p_X3_red k (nI (t r) * 266 / 100)).bind some = some (bR (nI (t r))) by rw [q_red]; rfl), (show ((p_X5_brightness k (nI (t r)) 0).bind some).bind some = some (bR (nI (t r))) by rw [q_br0]; rfl)⟩
      · exact ⟨bG (nI (t r)), (show (p_X3_green k (nI (t r) * 266 / 100)).bind some = some (bG (nI (t r))) by rw [q_green]; rfl), (show ((p_X5_brightness k (nI (t r)) 1).bind some).bind some = some (bG (nI (t r))) by rw [q_br1]; rfl)⟩
      · exact ⟨bB (nI (t r)), (show (p_X3_blue k (nI (t r) * 266 / 100)).bind some = some (bB (nI (t r))) by rw [q_blue]; rfl), (show ((p_X5_brightness k (nI (t r)) 2).bind some).bind some = some (bB (nI (t r))) by rw [q_br2]; rfl)⟩
      · exact ⟨cl t u r, (show (p_X0_colourAt k F (nI r)).bind some = some (cl t u r) by rw [q_cA h hr]; rfl), (show ((p_X5_colour k M (nI (t r))).bind some).bind some = some (cl t u r) by rw [q_col5, hb]; rfl)⟩
      · exact ⟨(nI (t r) * 266) / 100 / 530, rfl, rfl⟩
      · by_cases g : t r < u 3
        · exact ⟨1, (show (p_X0_isBlack k F (nI r)).bind (fun v => if v = 0 then some 0 else some 1) = some 1 by rw [q_isB h hr, bk, decide_eq_true g]; rfl), (show ((p_X5_isBlack k M (nI (t r))).bind (fun v => if v = 0 then some 0 else some 1)).bind some = some 1 by rw [q_isBlack5, hb, if_neg (nI_ge g (by omega))]; rfl)⟩
        · exact ⟨0, (show (p_X0_isBlack k F (nI r)).bind (fun v => if v = 0 then some 0 else some 1) = some 0 by rw [q_isB h hr, bk, decide_eq_false g]; rfl), (show ((p_X5_isBlack k M (nI (t r))).bind (fun v => if v = 0 then some 0 else some 1)).bind some = some 0 by rw [q_isBlack5, hb, if_pos (nI_le (by omega) (by omega))]; rfl)⟩
/-- the ladder: the component counts the starts up to its number, the reference the differing neighbours -/
theorem ladL {k n : Nat} {u t : Nat → Nat} {F : FD} {M : MD} (hk : 100 ≤ k) (h : RF F (MD.st M) n t u) (y : Nat) (hy : y < 2 ^ 31) : ∀ (d i f g : Nat), i + 1 + d = n → d < f → d < g → frN (cl t u) i < y →
    ∃ r : Int32, p_X4_ladder_L10 k F (nI y) f (nI (frN (cl t u) i + 1)) (nI (i + 1)) = some r ∧ p_X5_ladder_L8 k M (nI y) g (nI (i + 1)) = some r
  | 0, i, f, g, hd, hf, hg, hs => by
    obtain ⟨hn, hrows, -, -, -, ⟨m0, -⟩, -⟩ := id h
    obtain ⟨f, rfl⟩ : ∃ f', f = f' + 1 := ⟨f - 1, by omega⟩
    obtain ⟨g, rfl⟩ : ∃ g', g = g' + 1 := ⟨g - 1, by omega⟩
    have hi : n = i + 1 := by omega
    subst hi
    refine ⟨-4, ?_, ?_⟩
    · rw [p_X4_ladder_L10, hrows, if_pos (Int32.le_refl (nI (i + 1)))]
    · rw [p_X5_ladder_L8, a44_0, Option.bind_some, m0, if_pos (Int32.le_refl (nI (i + 1)))]
  | d + 1, i, f, g, hd, hf, hg, hs => by
    obtain ⟨hn, hrows, -, -, -, ⟨m0, -⟩, -⟩ := id h
    obtain ⟨f, rfl⟩ : ∃ f', f = f' + 1 := ⟨f - 1, by omega⟩
    obtain ⟨g, rfl⟩ : ∃ g', g = g' + 1 := ⟨g - 1, by omega⟩
    have e : frN (cl t u) (i + 1) = frN (cl t u) i + (if cl t u (i + 1) = cl t u i then 0 else 1) := rfl
    rw [p_X4_ladder_L10, hrows, if_neg (nI_ge (by omega) (by omega)), q_starts h (by omega), Option.bind_some]
    rw [p_X5_ladder_L8, a44_0, Option.bind_some, m0, if_neg (nI_ge (by omega) (by omega)), q_runs hk h (by omega), Option.bind_some, nI_pred]
    have hle := frN_le (cl t u) i
    by_cases c : cl t u (i + 1) = cl t u i
    · rw [if_pos c] at e ⊢
      have e' : frN (cl t u) (i + 1) = frN (cl t u) i := e.trans (Nat.add_zero _)
      rw [if_pos rfl, e', if_neg (fun q => Nat.ne_of_lt hs ((nI_eq (by omega) hy).mp q))]
      obtain ⟨r, e1, e2⟩ := ladL hk h y hy d (i + 1) f g (by omega) (by omega) (by omega) (by omega)
      rw [e'] at e1
      refine ⟨r, ?_, ?_⟩
      · rw [nI_1]; exact e1
      · rw [nI_1]; exact e2
    · rw [if_neg c] at e ⊢
      rw [if_neg (show ¬ (1 : Int32) = 0 by decide), e]
      by_cases q : frN (cl t u) i + 1 = y
      · subst q
        rw [if_pos rfl, if_pos rfl, q_cA h (by omega), q_cA5 h (by omega)]
        exact ⟨_, rfl, rfl⟩
      · rw [if_neg (fun w => q ((nI_eq (by omega) hy).mp w)), if_neg (fun w => q ((nI_eq (by omega) hy).mp w))]
        obtain ⟨r, e1, e2⟩ := ladL hk h y hy d (i + 1) f g (by omega) (by omega) (by omega) (by omega)
        rw [e] at e1
        refine ⟨r, ?_, ?_⟩
        · rw [nI_1, nI_1]; exact e1
        · rw [nI_1]; exact e2
theorem ladR {k n : Nat} {u t : Nat → Nat} {F : FD} {M : MD} (hk : 100 ≤ k) (h : RF F (MD.st M) n t u) (x1 : Int32) :
    ∃ r : Int32, p_X4_ladder k F x1 = some r ∧ p_X5_ladder k M x1 = some r := by
  obtain ⟨hn, hrows, -, -, -, ⟨m0, -⟩, -⟩ := id h
  unfold p_X4_ladder p_X5_ladder
  by_cases c : 0 ≤ x1
  · rw [if_pos c, if_pos c]
    obtain ⟨y, hy, rfl⟩ := nI_of (Int32.not_lt.mpr c)
    obtain ⟨k', rfl⟩ : ∃ k', k = k' + 1 := ⟨k - 1, by omega⟩
    rw [p_X4_ladder_L10, p_X5_ladder_L8, hrows, a44_0, Option.bind_some, m0]
    by_cases h0 : n = 0
    · subst h0
      rw [if_pos (by decide), if_pos (by decide)]
      exact ⟨_, rfl, rfl⟩
    · have hr := q_runs (r := 0) hk h (by omega)
      rw [if_neg (nI_nle (by omega) (by omega)), if_neg (nI_nle (by omega) (by omega)), q_starts0, Option.bind_some, if_neg (show ¬ (1 : Int32) = 0 by decide), show p_X5_runsTo (k' + 1) M 0 = _ from hr, Option.bind_some, nI_pred]
      by_cases q : y = 0
      · subst q
        rw [if_pos (show (0 : Int32) = nI 0 from rfl), if_pos (show nI (frN (cl t u) 0) = nI 0 from rfl), show p_X0_colourAt (k' + 1) F 0 = _ from q_cA (r := 0) h (by omega), show p_X5_colourAt (k' + 1) M 0 = _ from q_cA5 (r := 0) h (by omega)]
        exact ⟨_, rfl, rfl⟩
      · have g : ¬ nI 0 = nI y := fun w => q ((nI_eq (by decide) hy).mp w).symm
        rw [if_neg (show ¬ (0 : Int32) = nI y from g), if_neg (show ¬ nI (frN (cl t u) 0) = nI y from g)]
        exact ladL hk h y hy (n - 1) 0 k' k' (by omega) (by omega) (by omega) (show 0 < y by omega)
  · rw [if_neg c, if_neg c]
    exact ⟨_, rfl, rfl⟩
theorem findL {k n : Nat} {u t : Nat → Nat} {F : FD} {M : MD} (h : RF F (MD.st M) n t u) (y : Int32) : ∀ (d i f g : Nat), i + d = n → d < f → d < g →
    ∃ r : Int32, p_X4_find_L15 k F y f (nI i) = some r ∧ p_X5_find_L15 k M y g (nI i) = some r
  | 0, i, f, g, hd, hf, hg => by
    obtain ⟨hn, hrows, -, -, -, ⟨m0, -⟩, -⟩ := id h
    obtain ⟨f, rfl⟩ : ∃ f', f = f' + 1 := ⟨f - 1, by omega⟩
    obtain ⟨g, rfl⟩ : ∃ g', g = g' + 1 := ⟨g - 1, by omega⟩
    have hi : i = n := by omega
    subst hi
    refine ⟨-4, ?_, ?_⟩
    · rw [p_X4_find_L15, hrows, if_pos (Int32.le_refl (nI i))]
    · rw [p_X5_find_L15, a44_0, Option.bind_some, m0, if_pos (Int32.le_refl (nI i))]
  | d + 1, i, f, g, hd, hf, hg => by
    obtain ⟨hn, hrows, -, -, -, ⟨m0, -⟩, -⟩ := id h
    obtain ⟨f, rfl⟩ : ∃ f', f = f' + 1 := ⟨f - 1, by omega⟩
    obtain ⟨g, rfl⟩ : ∃ g', g = g' + 1 := ⟨g - 1, by omega⟩
    rw [p_X4_find_L15, hrows, if_neg (nI_ge (by omega) (by omega)), q_cA h (by omega), Option.bind_some]
    rw [p_X5_find_L15, a44_0, Option.bind_some, m0, if_neg (nI_ge (by omega) (by omega)), q_cA5 h (by omega), Option.bind_some]
    by_cases c : cl t u i = y
    · rw [if_pos c, if_pos c]
      exact ⟨_, rfl, rfl⟩
    · rw [if_neg c, if_neg c, nI_1]
      exact findL h y d (i + 1) f g (by omega) (by omega) (by omega)
theorem findR {k n : Nat} {u t : Nat → Nat} {F : FD} {M : MD} (hk : 100 ≤ k) (h : RF F (MD.st M) n t u) (x1 x2 : Int32) :
    ∃ r : Int32, p_X4_find k F x1 x2 = some r ∧ p_X5_find k M x1 x2 = some r := by
  obtain ⟨hn, hrows, -, -, -, ⟨m0, -⟩, -⟩ := id h
  unfold p_X4_find p_X5_find
  rw [q_isC, q_isC5, Option.bind_some, Option.bind_some]
  by_cases c : bet x1 0 7 = 0
  · rw [if_pos c, if_pos c]
    exact ⟨_, rfl, rfl⟩
  · rw [if_neg c, if_neg c]
    by_cases c2 : 0 ≤ x2
    · rw [if_pos c2, if_pos c2]
      obtain ⟨y, hy, rfl⟩ := nI_of (Int32.not_lt.mpr c2)
      by_cases c3 : y ≤ n
      · exact findL h x1 (n - y) y k k (by omega) (by omega) (by omega)
      · obtain ⟨k', rfl⟩ : ∃ k', k = k' + 1 := ⟨k - 1, by omega⟩
        rw [p_X4_find_L15, p_X5_find_L15, hrows, a44_0, Option.bind_some, m0, if_pos (nI_le (by omega) hy), if_pos (nI_le (by omega) hy)]
        exact ⟨_, rfl, rfl⟩
    · rw [if_neg c2, if_neg c2]
      exact ⟨_, rfl, rfl⟩
theorem colourOfR {k n : Nat} {u t : Nat → Nat} {F : FD} {M : MD} (h : RF F (MD.st M) n t u) (x1 : Int32) :
    ∃ r : Int32, p_X4_colourOf k F x1 = some r ∧ p_X5_colourOf k M x1 = some r := by
  obtain ⟨hn, hrows, hth, hst, -⟩ := id h
  unfold p_X4_colourOf p_X5_colourOf
  rw [q_isT, q_in, Option.bind_some, Option.bind_some]
  by_cases c : bet x1 0 5000 = 0
  · rw [if_pos c, if_pos c]
    exact ⟨_, rfl, rfl⟩
  · rw [if_neg c, if_neg c, a7_3, Option.bind_some, q_col, q_col5, (hst 3 (by decide)).1, show MD.st M 16 = nI (u 3) from (hst 3 (by decide)).2.1]
    exact ⟨_, rfl, rfl⟩
theorem thickL {k : Nat} {F : FD} {M : MD} (e : FD.st F 3 = MD.st M 16) (y : Int32) : ∀ (d i f g : Nat), i + d = 5001 → d < f → d < g →
    ∃ r : Int32, p_X4_thicknessFor_L18 k F y f (nI i) = some r ∧ p_X5_thicknessFor_L22 k M y g (nI i) = some r
  | 0, i, f, g, hd, hf, hg => by
    obtain ⟨f, rfl⟩ : ∃ f', f = f' + 1 := ⟨f - 1, by omega⟩
    obtain ⟨g, rfl⟩ : ∃ g', g = g' + 1 := ⟨g - 1, by omega⟩
    have hi : i = 5001 := by omega
    subst hi
    refine ⟨-4, ?_, ?_⟩
    · rw [p_X4_thicknessFor_L18, if_pos (by decide)]
    · rw [p_X5_thicknessFor_L22, if_pos (by decide)]
  | d + 1, i, f, g, hd, hf, hg => by
    obtain ⟨f, rfl⟩ : ∃ f', f = f' + 1 := ⟨f - 1, by omega⟩
    obtain ⟨g, rfl⟩ : ∃ g', g = g' + 1 := ⟨g - 1, by omega⟩
    have c5 : ¬ (5000 : Int32) < nI i := nI_nlt (a := 5000) (b := i) (by omega) (by decide)
    rw [p_X4_thicknessFor_L18, if_neg c5, a7_3, Option.bind_some, q_col, Option.bind_some]
    rw [p_X5_thicknessFor_L22, if_neg c5, q_col5, Option.bind_some, e]
    by_cases c : col (nI i) (MD.st M 16) = y
    · rw [if_pos c, if_pos c]
      exact ⟨_, rfl, rfl⟩
    · rw [if_neg c, if_neg c, nI_1]
      exact thickL e y d (i + 1) f g (by omega) (by omega) (by omega)
theorem thickR {k n : Nat} {u t : Nat → Nat} {F : FD} {M : MD} (hk : 6000 ≤ k) (h : RF F (MD.st M) n t u) (x1 x2 : Int32) :
    ∃ r : Int32, p_X4_thicknessFor k F x1 x2 = some r ∧ p_X5_thicknessFor k M x1 x2 = some r := by
  obtain ⟨hn, hrows, hth, hst, -⟩ := id h
  unfold p_X4_thicknessFor p_X5_thicknessFor
  rw [q_isC, q_isC5, Option.bind_some, Option.bind_some]
  by_cases c : bet x1 0 7 = 0
  · rw [if_pos c, if_pos c]
    exact ⟨_, rfl, rfl⟩
  · rw [if_neg c, if_neg c, q_isT, q_in, Option.bind_some, Option.bind_some]
    by_cases c2 : bet x2 0 5000 = 0
    · rw [if_pos c2, if_pos c2]
      exact ⟨_, rfl, rfl⟩
    · rw [if_neg c2, if_neg c2]
      obtain ⟨j, -, hj, rfl⟩ := bet_n (a := 0) (b := 5000) (by decide) (by decide) c2
      exact thickL ((hst 3 (by decide)).1.trans (hst 3 (by decide)).2.1.symm) x1 (5001 - j) j k k (by omega) (by omega) (by omega)
