/-! p23, PURE: what is refused. -/
section REFD
variable {k : Nat} {F G : FD} {A : Nat → AF} {z : Int32} {S : Nat → FD} {T : TD} {M : MD} {n : Nat} {t u : Nat → Nat}
theorem rows_n (h : RF F (MD.st M) n t u) : ¬ FD.rows F < 0 := by
  have := h.1
  rw [h.2.1]
  exact nI_pos (by omega)
theorem no_row (h : RF F (MD.st M) n t u) : p_X0_hasRow k F (FD.rows F) = some 0 := by
  unfold p_X0_hasRow
  rw [if_neg (rows_n h), if_pos (Int32.le_refl _)]
theorem row_0 (h : RF F (MD.st M) n t u) (h0 : 0 < n) : p_X0_hasRow k F 0 = some 1 := by
  have := h.1
  unfold p_X0_hasRow
  rw [if_neg (by decide), if_neg (show ¬ FD.rows F ≤ 0 by rw [h.2.1]; exact nI_nle (by omega) (by omega))]
theorem rf_pour (h : RF F (MD.st M) n t u) : p_X4_pour k F A z S (FD.rows F) 1 = some (-1, F, A, z, S) := by
  unfold p_X4_pour; rw [no_row h, Option.bind_some, if_pos rfl]
theorem rf_thin (h : RF F (MD.st M) n t u) : p_X4_thin k F A z S (FD.rows F) 1 = some (-1, F, A, z, S) := by
  unfold p_X4_thin; rw [no_row h, Option.bind_some, if_pos rfl]
theorem rf_row (h : RF F (MD.st M) n t u) : p_X4_row k F (FD.rows F) 0 = some (-1) := by
  unfold p_X4_row; rw [no_row h, Option.bind_some, if_pos rfl]
theorem rf_ifGo (h : RF F (MD.st M) n t u) : p_X4_ifGo k F G (FD.rows F) 1 = some (-1, G) := by
  unfold p_X4_ifGo; rw [no_row h, Option.bind_some, if_pos rfl]
theorem rf_lad24L (hk : 100 ≤ k) (h : RF F (MD.st M) n t u) : ∀ (d i f c : Nat), i + d = n → d < f → c ≤ i → p_X4_ladder_L10 k F 24 f (nI c) (nI i) = some (-4)
  | 0, i, f, c, hd, hf, hc => by
    obtain ⟨f, rfl⟩ : ∃ f', f = f' + 1 := ⟨f - 1, by omega⟩
    have hi : i = n := by omega
    subst hi
    rw [p_X4_ladder_L10, h.2.1, if_pos (Int32.le_refl _)]
  | d + 1, i, f, c, hd, hf, hc => by
    obtain ⟨f, rfl⟩ : ∃ f', f = f' + 1 := ⟨f - 1, by omega⟩
    have hn := h.1
    have step : ∀ v2 : Int32, (if v2 = 0 then (p_X4_ladder_L10 k F 24 f (nI c) (nI i + 1)) else (if nI c = 24 then ((p_X0_colourAt k F (nI i)).bind fun v5 => some v5) else (p_X4_ladder_L10 k F 24 f (nI c + 1) (nI i + 1)))) = some (-4) := by
      intro v2
      rw [nI_1, nI_1]
      split
      · exact rf_lad24L hk h d (i + 1) f c (by omega) (by omega) (by omega)
      · rw [if_neg (show ¬ nI c = 24 from fun w => by have := (nI_eq (b := 24) (by omega) (by decide)).mp w; omega)]
        exact rf_lad24L hk h d (i + 1) f (c + 1) (by omega) (by omega) (by omega)
    rw [p_X4_ladder_L10, h.2.1, if_neg (nI_ge (by omega) (by omega))]
    by_cases c0 : i = 0
    · subst c0
      rw [show nI 0 = 0 from rfl, q_starts0, Option.bind_some]
      exact step 1
    · obtain ⟨i, rfl⟩ : ∃ i', i = i' + 1 := ⟨i - 1, by omega⟩
      rw [q_starts h (by omega), Option.bind_some]
      exact step _
theorem rf_lad24 (hk : 100 ≤ k) (h : RF F (MD.st M) n t u) : p_X4_ladder k F 24 = some (-4) := by
  have := h.1
  unfold p_X4_ladder
  rw [if_pos (by decide)]
  exact rf_lad24L hk h n 0 k 0 (by omega) (by omega) (by omega)
theorem rf_find24 (hk : 100 ≤ k) (h : RF F (MD.st M) n t u) : p_X4_find k F 0 24 = some (-4) := by
  have := h.1
  obtain ⟨k, rfl⟩ : ∃ k', k = k' + 1 := ⟨k - 1, by omega⟩
  unfold p_X4_find
  rw [show p_X4_isColour (k + 1) 0 = some 1 from rfl, Option.bind_some, if_neg (by decide), if_pos (by decide), p_X4_find_L15, if_pos (show FD.rows F ≤ 24 by rw [h.2.1]; exact nI_le (b := 24) (by omega) (by decide))]
theorem rf_pour0 (h : RF F (MD.st M) n t u) (h0 : 0 < n) (x : Int32) (hx : bet x 1 5000 = 0) : p_X4_pour k F A z S 0 x = some (-1, F, A, z, S) := by
  unfold p_X4_pour; rw [row_0 h h0, Option.bind_some, if_neg (by decide), q_bet, hx, Option.bind_some, if_pos rfl]
theorem rf_thin0 (h : RF F (MD.st M) n t u) (h0 : 0 < n) (x : Int32) (hx : bet x 1 5000 = 0) : p_X4_thin k F A z S 0 x = some (-1, F, A, z, S) := by
  unfold p_X4_thin; rw [row_0 h h0, Option.bind_some, if_neg (by decide), q_bet, hx, Option.bind_some, if_pos rfl]
theorem rf_ifGo0 (h : RF F (MD.st M) n t u) (h0 : 0 < n) (x : Int32) (hx : bet x 1 1000 = 0) : p_X4_ifGo k F G 0 x = some (-1, G) := by
  unfold p_X4_ifGo; rw [row_0 h h0, Option.bind_some, if_neg (by decide), q_bet, hx, Option.bind_some, if_pos rfl]
theorem rf_row8 (h : RF F (MD.st M) n t u) (h0 : 0 < n) : p_X4_row k F 0 8 = some (-1) := by
  unfold p_X4_row; rw [row_0 h h0, Option.bind_some, if_neg (by decide), show ald (FD.th F) 24 0 = some (FD.th F 0) from ald_at 0 rfl (by decide) (by decide)]; rfl
theorem rf_rowm (h : RF F (MD.st M) n t u) (h0 : 0 < n) : p_X4_row k F 0 (-1) = some (-1) := by
  unfold p_X4_row; rw [row_0 h h0, Option.bind_some, if_neg (by decide), show ald (FD.th F) 24 0 = some (FD.th F 0) from ald_at 0 rfl (by decide) (by decide)]; rfl
theorem rf_add0 (h : FD.rows F = 0) : p_X4_add k F A z S 0 = some (-2, F, A, z, S) := by
  unfold p_X4_add; rw [q_isT, Option.bind_some, if_neg (by decide), if_pos h]
theorem rf_cut0 (h : ¬ 2 ≤ FD.rows F) : p_X4_cut k F A z S = some (-2, F, A, z, S) := by
  unfold p_X4_cut; rw [if_neg h]
theorem rf_add24 (h : FD.rows F = 24) : p_X4_add k F A z S 0 = some (-3, F, A, z, S) := by
  unfold p_X4_add; rw [q_isT, Option.bind_some, if_neg (by decide), if_neg (by rw [h]; decide), if_pos h]
theorem rf_u0 (h : FD.rows F = 0) : p_X4_until k F G 0 0 = some (0, F) := by
  unfold p_X4_until
  rw [show p_X4_isQuestion k 0 0 = some 1 from rfl, Option.bind_some, if_neg (by decide)]
  show (p_X4_isSo k F F 0 0).bind (fun v4 => if v4 = 0 then (p_X4_until_L34 k F 0 0 k F 1) else (some (0, F))) = _
  unfold p_X4_isSo
  rw [if_pos rfl, if_pos h, Option.bind_some, if_neg (by decide)]
theorem until_dead (hk : 100 ≤ k) (h : FD.rows F = 0) (x y : Int32) : p_X4_until_L34 k F x y k F 1 = some (-4, F) := by
  obtain ⟨k, rfl⟩ : ∃ k', k = k' + 1 := ⟨k - 1, by omega⟩
  rw [p_X4_until_L34, if_neg (by decide), if_pos (show FD.rows F ≤ 0 by rw [h]; exact Int32.le_refl 0)]
theorem rf_u1 (hk : 100 ≤ k) (h : FD.rows F = 0) : p_X4_until k F G 1 1 = some (-4, F) := by
  unfold p_X4_until
  rw [show p_X4_isQuestion k 1 1 = some 1 from rfl, Option.bind_some, if_neg (by decide)]
  show (p_X4_isSo k F F 1 1).bind (fun v4 => if v4 = 0 then (p_X4_until_L34 k F 1 1 k F 1) else (some (0, F))) = _
  obtain ⟨j, rfl⟩ : ∃ k', k = k' + 1 := ⟨k - 1, by omega⟩
  unfold p_X4_isSo p_X0_blackRows
  rw [if_neg (by decide), if_pos rfl, p_X0_blackRows_L4, if_pos (show FD.rows F ≤ 0 by rw [h]; exact Int32.le_refl 0), Option.bind_some, if_pos (by decide), Option.bind_some, if_pos rfl, until_dead hk h]
theorem rf_u2 (hk : 100 ≤ k) (h : FD.rows F = 0) : p_X4_until k F G 2 0 = some (-4, F) := by
  unfold p_X4_until
  rw [show p_X4_isQuestion k 2 0 = some 1 from rfl, Option.bind_some, if_neg (by decide)]
  show (p_X4_isSo k F F 2 0).bind (fun v4 => if v4 = 0 then (p_X4_until_L34 k F 2 0 k F 1) else (some (0, F))) = _
  unfold p_X4_isSo
  rw [if_neg (by decide), if_neg (by decide), if_pos rfl, if_pos (show FD.rows F ≤ 0 by rw [h]; exact Int32.le_refl 0), Option.bind_some, if_pos rfl, until_dead hk h]
theorem rf_u3 (hk : 100 ≤ k) (h : FD.rows F = 0) : p_X4_until k F G 3 1 = some (-4, F) := by
  unfold p_X4_until
  rw [show p_X4_isQuestion k 3 1 = some 1 from rfl, Option.bind_some, if_neg (by decide)]
  show (p_X4_isSo k F F 3 1).bind (fun v4 => if v4 = 0 then (p_X4_until_L34 k F 3 1 k F 1) else (some (0, F))) = _
  unfold p_X4_isSo
  rw [if_neg (by decide), if_neg (by decide), if_neg (by decide), if_pos rfl, if_pos (show FD.drops F - FD.drops F < 1 by rw [Int32.sub_self]; decide), Option.bind_some, if_pos rfl, until_dead hk h]
theorem rf_count5 (h : FD.rows F = 0) : p_X4_count k F A z S T 5 = some (-4) := by
  show (if FD.rows F = 0 then some (-4) else ((p_X0_greatestOrder k F).bind fun v15 => some v15)) = _
  rw [if_pos h]
theorem rf_lad0 (hk : 100 ≤ k) (h : FD.rows F = 0) : p_X4_ladder k F 0 = some (-4) := by
  obtain ⟨k, rfl⟩ : ∃ k', k = k' + 1 := ⟨k - 1, by omega⟩
  unfold p_X4_ladder
  rw [if_pos (by decide), p_X4_ladder_L10, if_pos (show FD.rows F ≤ 0 by rw [h]; exact Int32.le_refl 0)]
theorem rl_set_m1_20 : p_X4_set k F A z S (-1) 20 = some (-1, F, A, z, S) := rfl
theorem rl_set_7_20 : p_X4_set k F A z S 7 20 = some (-1, F, A, z, S) := rfl
theorem rl_set_0_101 : p_X4_set k F A z S 0 101 = some (-1, F, A, z, S) := rfl
theorem rl_set_0_m1 : p_X4_set k F A z S 0 (-1) = some (-1, F, A, z, S) := rfl
theorem rl_set_1_51 : p_X4_set k F A z S 1 51 = some (-1, F, A, z, S) := rfl
theorem rl_set_2_501 : p_X4_set k F A z S 2 501 = some (-1, F, A, z, S) := rfl
theorem rl_set_3_0 : p_X4_set k F A z S 3 0 = some (-1, F, A, z, S) := rfl
theorem rl_set_3_201 : p_X4_set k F A z S 3 201 = some (-1, F, A, z, S) := rfl
theorem rl_set_4_101 : p_X4_set k F A z S 4 101 = some (-1, F, A, z, S) := rfl
theorem rl_set_4_m1 : p_X4_set k F A z S 4 (-1) = some (-1, F, A, z, S) := rfl
theorem rl_set_5_0 : p_X4_set k F A z S 5 0 = some (-1, F, A, z, S) := rfl
theorem rl_set_5_25 : p_X4_set k F A z S 5 25 = some (-1, F, A, z, S) := rfl
theorem rl_set_6_0 : p_X4_set k F A z S 6 0 = some (-1, F, A, z, S) := rfl
theorem rl_set_6_100001 : p_X4_set k F A z S 6 100001 = some (-1, F, A, z, S) := rfl
theorem rl_dip_0_0_0 : p_X4_dip k F A z S 0 0 0 = some (-1, F, A, z, S) := rfl
theorem rl_dip_25_0_0 : p_X4_dip k F A z S 25 0 0 = some (-1, F, A, z, S) := rfl
theorem rl_dip_1_5001_0 : p_X4_dip k F A z S 1 5001 0 = some (-1, F, A, z, S) := rfl
theorem rl_dip_1_m1_0 : p_X4_dip k F A z S 1 (-1) 0 = some (-1, F, A, z, S) := rfl
theorem rl_dip_1_0_501 : p_X4_dip k F A z S 1 0 501 = some (-1, F, A, z, S) := rfl
theorem rl_dip_1_0_m1 : p_X4_dip k F A z S 1 0 (-1) = some (-1, F, A, z, S) := rfl
theorem rl_dip_2_4600_401 : p_X4_dip k F A z S 2 4600 401 = some (-1, F, A, z, S) := rfl
theorem rl_dip_24_0_218 : p_X4_dip k F A z S 24 0 218 = some (-1, F, A, z, S) := rfl
theorem rl_add_m1 : p_X4_add k F A z S (-1) = some (-1, F, A, z, S) := rfl
theorem rl_add_5001 : p_X4_add k F A z S 5001 = some (-1, F, A, z, S) := rfl
theorem rl_go_0 : p_X4_go k F A z S 0 = some (-1, F, A, z, S) := rfl
theorem rl_go_1001 : p_X4_go k F A z S 1001 = some (-1, F, A, z, S) := rfl
theorem rl_pour_m1_1 : p_X4_pour k F A z S (-1) 1 = some (-1, F, A, z, S) := rfl
theorem rl_thin_m1_1 : p_X4_thin k F A z S (-1) 1 = some (-1, F, A, z, S) := rfl
theorem rl_row_m1_0 : p_X4_row k F (-1) 0 = some (-1) := rfl
theorem rl_ifGo_m1_1 : p_X4_ifGo k F G (-1) 1 = some (-1, G) := rfl
theorem rl_count_m1 : p_X4_count k F A z S T (-1) = some (-1) := rfl
theorem rl_count_13 : p_X4_count k F A z S T 13 = some (-1) := rfl
theorem rl_count_19 : p_X4_count k F A z S T 19 = some (-1) := rfl
theorem rl_count_27 : p_X4_count k F A z S T 27 = some (-1) := rfl
theorem rl_count_37 : p_X4_count k F A z S T 37 = some (-1) := rfl
theorem rl_ladder_m1 : p_X4_ladder k F (-1) = some (-1) := rfl
theorem rl_find_8_0 : p_X4_find k F 8 0 = some (-1) := rfl
theorem rl_find_m1_0 : p_X4_find k F (-1) 0 = some (-1) := rfl
theorem rl_find_0_m1 : p_X4_find k F 0 (-1) = some (-1) := rfl
theorem rl_colourOf_m1 : p_X4_colourOf k F (-1) = some (-1) := rfl
theorem rl_colourOf_5001 : p_X4_colourOf k F 5001 = some (-1) := rfl
theorem rl_thicknessFor_8_0 : p_X4_thicknessFor k F 8 0 = some (-1) := rfl
theorem rl_thicknessFor_m1_0 : p_X4_thicknessFor k F (-1) 0 = some (-1) := rfl
theorem rl_thicknessFor_0_5001 : p_X4_thicknessFor k F 0 5001 = some (-1) := rfl
theorem rl_thicknessFor_0_m1 : p_X4_thicknessFor k F 0 (-1) = some (-1) := rfl
theorem rl_until_m1_0 : p_X4_until k F G (-1) 0 = some (-1, G) := rfl
theorem rl_until_4_0 : p_X4_until k F G 4 0 = some (-1, G) := rfl
theorem rl_until_0_1 : p_X4_until k F G 0 1 = some (-1, G) := rfl
theorem rl_until_1_0 : p_X4_until k F G 1 0 = some (-1, G) := rfl
theorem rl_until_1_25 : p_X4_until k F G 1 25 = some (-1, G) := rfl
theorem rl_until_2_8 : p_X4_until k F G 2 8 = some (-1, G) := rfl
theorem rl_until_2_m1 : p_X4_until k F G 2 (-1) = some (-1, G) := rfl
theorem rl_until_3_0 : p_X4_until k F G 3 0 = some (-1, G) := rfl
theorem rl_until_3_101 : p_X4_until k F G 3 101 = some (-1, G) := rfl
theorem rl_type_31 : p_X4_type k T 31 = some (-1, T) := rfl
theorem rl_type_127 : p_X4_type k T 127 = some (-1, T) := rfl
theorem rl_fault_m1 : p_X4_fault k T (-1) = some (-1, T) := rfl
theorem rl_fault_2 : p_X4_fault k T 2 = some (-1, T) := rfl
end REFD
