/-! PURE PART: numbers, rows of ints, light. nI n: the int n. -/
theorem s_l : ∀ n, n < 32 → ((nI n &&& 31).toBitVec.smod 32).toNat = n := by decide +kernel
theorem nx_or (a b : Nat) : nI a ||| nI b = nI (a ||| b) := by
  apply Int32.toBitVec_inj.1
  show BitVec.ofNat 32 a ||| BitVec.ofNat 32 b = BitVec.ofNat 32 (a ||| b)
  apply BitVec.eq_of_getLsbD_eq
  intro i hi
  simp [hi]
theorem nx_and (a b : Nat) : nI a &&& nI b = nI (a &&& b) := by
  apply Int32.toBitVec_inj.1
  show BitVec.ofNat 32 a &&& BitVec.ofNat 32 b = BitVec.ofNat 32 (a &&& b)
  apply BitVec.eq_of_getLsbD_eq
  intro i hi
  simp [hi]
theorem ald_at {f : Nat → Int32} {N : Nat} {x : Int32} (j : Nat) (e : x = nI j) (h : j < N) (hN : N < 2 ^ 31) : ald f N x = some (f j) := by
  subst e
  unfold ald
  rw [if_neg (nI_in h hN), nI_clamp (by omega)]
theorem ast_at {f : Nat → Int32} {N : Nat} {x y : Int32} (j : Nat) (e : x = nI j) (h : j < N) (hN : N < 2 ^ 31) : ast f N x y = some (upd f j y) := by
  subst e
  unfold ast
  rw [if_neg (nI_in h hN), nI_clamp (by omega)]
theorem us {f : Nat → Int32} {k : Nat} {x : Int32} : upd f k x k = x := if_pos rfl
theorem un {f : Nat → Int32} {k j : Nat} {x : Int32} (h : j ≠ k) : upd f k x j = f j := if_neg h
theorem a7_0 (f : Nat → Int32) : ald f 7 0 = some (f 0) := ald_at 0 rfl (by decide) (by decide)
theorem s7_0 (f : Nat → Int32) (y : Int32) : ast f 7 0 y = some (upd f 0 y) := ast_at 0 rfl (by decide) (by decide)
theorem a7_1 (f : Nat → Int32) : ald f 7 1 = some (f 1) := ald_at 1 rfl (by decide) (by decide)
theorem s7_1 (f : Nat → Int32) (y : Int32) : ast f 7 1 y = some (upd f 1 y) := ast_at 1 rfl (by decide) (by decide)
theorem a7_2 (f : Nat → Int32) : ald f 7 2 = some (f 2) := ald_at 2 rfl (by decide) (by decide)
theorem s7_2 (f : Nat → Int32) (y : Int32) : ast f 7 2 y = some (upd f 2 y) := ast_at 2 rfl (by decide) (by decide)
theorem a7_3 (f : Nat → Int32) : ald f 7 3 = some (f 3) := ald_at 3 rfl (by decide) (by decide)
theorem s7_3 (f : Nat → Int32) (y : Int32) : ast f 7 3 y = some (upd f 3 y) := ast_at 3 rfl (by decide) (by decide)
theorem a7_4 (f : Nat → Int32) : ald f 7 4 = some (f 4) := ald_at 4 rfl (by decide) (by decide)
theorem s7_4 (f : Nat → Int32) (y : Int32) : ast f 7 4 y = some (upd f 4 y) := ast_at 4 rfl (by decide) (by decide)
theorem a7_5 (f : Nat → Int32) : ald f 7 5 = some (f 5) := ald_at 5 rfl (by decide) (by decide)
theorem s7_5 (f : Nat → Int32) (y : Int32) : ast f 7 5 y = some (upd f 5 y) := ast_at 5 rfl (by decide) (by decide)
theorem a7_6 (f : Nat → Int32) : ald f 7 6 = some (f 6) := ald_at 6 rfl (by decide) (by decide)
theorem s7_6 (f : Nat → Int32) (y : Int32) : ast f 7 6 y = some (upd f 6 y) := ast_at 6 rfl (by decide) (by decide)
theorem a44_0 (f : Nat → Int32) : ald f 44 0 = some (f 0) := ald_at 0 rfl (by decide) (by decide)
theorem s44_0 (f : Nat → Int32) (y : Int32) : ast f 44 0 y = some (upd f 0 y) := ast_at 0 rfl (by decide) (by decide)
theorem a44_1 (f : Nat → Int32) : ald f 44 1 = some (f 1) := ald_at 1 rfl (by decide) (by decide)
theorem s44_1 (f : Nat → Int32) (y : Int32) : ast f 44 1 y = some (upd f 1 y) := ast_at 1 rfl (by decide) (by decide)
theorem a44_2 (f : Nat → Int32) : ald f 44 2 = some (f 2) := ald_at 2 rfl (by decide) (by decide)
theorem s44_2 (f : Nat → Int32) (y : Int32) : ast f 44 2 y = some (upd f 2 y) := ast_at 2 rfl (by decide) (by decide)
theorem a44_3 (f : Nat → Int32) : ald f 44 3 = some (f 3) := ald_at 3 rfl (by decide) (by decide)
theorem s44_3 (f : Nat → Int32) (y : Int32) : ast f 44 3 y = some (upd f 3 y) := ast_at 3 rfl (by decide) (by decide)
theorem a44_4 (f : Nat → Int32) : ald f 44 4 = some (f 4) := ald_at 4 rfl (by decide) (by decide)
theorem s44_4 (f : Nat → Int32) (y : Int32) : ast f 44 4 y = some (upd f 4 y) := ast_at 4 rfl (by decide) (by decide)
theorem a44_5 (f : Nat → Int32) : ald f 44 5 = some (f 5) := ald_at 5 rfl (by decide) (by decide)
theorem s44_5 (f : Nat → Int32) (y : Int32) : ast f 44 5 y = some (upd f 5 y) := ast_at 5 rfl (by decide) (by decide)
theorem a44_6 (f : Nat → Int32) : ald f 44 6 = some (f 6) := ald_at 6 rfl (by decide) (by decide)
theorem s44_6 (f : Nat → Int32) (y : Int32) : ast f 44 6 y = some (upd f 6 y) := ast_at 6 rfl (by decide) (by decide)
theorem a44_7 (f : Nat → Int32) : ald f 44 7 = some (f 7) := ald_at 7 rfl (by decide) (by decide)
theorem s44_7 (f : Nat → Int32) (y : Int32) : ast f 44 7 y = some (upd f 7 y) := ast_at 7 rfl (by decide) (by decide)
theorem a44_8 (f : Nat → Int32) : ald f 44 8 = some (f 8) := ald_at 8 rfl (by decide) (by decide)
theorem s44_8 (f : Nat → Int32) (y : Int32) : ast f 44 8 y = some (upd f 8 y) := ast_at 8 rfl (by decide) (by decide)
theorem a44_9 (f : Nat → Int32) : ald f 44 9 = some (f 9) := ald_at 9 rfl (by decide) (by decide)
theorem s44_9 (f : Nat → Int32) (y : Int32) : ast f 44 9 y = some (upd f 9 y) := ast_at 9 rfl (by decide) (by decide)
theorem a44_10 (f : Nat → Int32) : ald f 44 10 = some (f 10) := ald_at 10 rfl (by decide) (by decide)
theorem s44_10 (f : Nat → Int32) (y : Int32) : ast f 44 10 y = some (upd f 10 y) := ast_at 10 rfl (by decide) (by decide)
theorem a44_11 (f : Nat → Int32) : ald f 44 11 = some (f 11) := ald_at 11 rfl (by decide) (by decide)
theorem s44_11 (f : Nat → Int32) (y : Int32) : ast f 44 11 y = some (upd f 11 y) := ast_at 11 rfl (by decide) (by decide)
theorem a44_12 (f : Nat → Int32) : ald f 44 12 = some (f 12) := ald_at 12 rfl (by decide) (by decide)
theorem s44_12 (f : Nat → Int32) (y : Int32) : ast f 44 12 y = some (upd f 12 y) := ast_at 12 rfl (by decide) (by decide)
theorem a44_13 (f : Nat → Int32) : ald f 44 13 = some (f 13) := ald_at 13 rfl (by decide) (by decide)
theorem s44_13 (f : Nat → Int32) (y : Int32) : ast f 44 13 y = some (upd f 13 y) := ast_at 13 rfl (by decide) (by decide)
theorem a44_14 (f : Nat → Int32) : ald f 44 14 = some (f 14) := ald_at 14 rfl (by decide) (by decide)
theorem s44_14 (f : Nat → Int32) (y : Int32) : ast f 44 14 y = some (upd f 14 y) := ast_at 14 rfl (by decide) (by decide)
theorem a44_15 (f : Nat → Int32) : ald f 44 15 = some (f 15) := ald_at 15 rfl (by decide) (by decide)
theorem s44_15 (f : Nat → Int32) (y : Int32) : ast f 44 15 y = some (upd f 15 y) := ast_at 15 rfl (by decide) (by decide)
theorem a44_16 (f : Nat → Int32) : ald f 44 16 = some (f 16) := ald_at 16 rfl (by decide) (by decide)
theorem s44_16 (f : Nat → Int32) (y : Int32) : ast f 44 16 y = some (upd f 16 y) := ast_at 16 rfl (by decide) (by decide)
theorem a44_17 (f : Nat → Int32) : ald f 44 17 = some (f 17) := ald_at 17 rfl (by decide) (by decide)
theorem s44_17 (f : Nat → Int32) (y : Int32) : ast f 44 17 y = some (upd f 17 y) := ast_at 17 rfl (by decide) (by decide)
theorem a44_18 (f : Nat → Int32) : ald f 44 18 = some (f 18) := ald_at 18 rfl (by decide) (by decide)
theorem s44_18 (f : Nat → Int32) (y : Int32) : ast f 44 18 y = some (upd f 18 y) := ast_at 18 rfl (by decide) (by decide)
theorem a44_19 (f : Nat → Int32) : ald f 44 19 = some (f 19) := ald_at 19 rfl (by decide) (by decide)
theorem s44_19 (f : Nat → Int32) (y : Int32) : ast f 44 19 y = some (upd f 19 y) := ast_at 19 rfl (by decide) (by decide)
theorem n20 (r : Nat) : (20 : Int32) + nI r = nI (20 + r) := nI_add 20 r
theorem n13 (r : Nat) : (13 : Int32) + nI r = nI (13 + r) := nI_add 13 r
theorem a20 (f : Nat → Int32) {r : Nat} (h : r < 24) : ald f 44 (20 + nI r) = some (f (20 + r)) := ald_at (20 + r) (n20 r) (by omega) (by decide)
theorem s20 (f : Nat → Int32) (y : Int32) {r : Nat} (h : r < 24) : ast f 44 (20 + nI r) y = some (upd f (20 + r) y) := ast_at (20 + r) (n20 r) (by omega) (by decide)
theorem a24 (f : Nat → Int32) {r : Nat} (h : r < 24) : ald f 24 (nI r) = some (f r) := ald_at r rfl h (by decide)
theorem s24 (f : Nat → Int32) (y : Int32) {r : Nat} (h : r < 24) : ast f 24 (nI r) y = some (upd f r y) := ast_at r rfl h (by decide)
/-- between, as an int -/
def bet (x a b : Int32) : Int32 := if x < a then 0 else if b < x then 0 else 1
theorem q_bet (k : Nat) (x a b : Int32) : p_X4_isBetween k x a b = some (bet x a b) := by
  unfold p_X4_isBetween bet
  by_cases h : x < a
  · rw [if_pos h, if_pos h]
  · rw [if_neg h, if_neg h]
    by_cases h2 : b < x
    · rw [if_pos h2, if_pos h2]
    · rw [if_neg h2, if_neg h2]
theorem q_in (k : Nat) (x a b : Int32) : p_X5_in k x a b = some (bet x a b) := q_bet k x a b
theorem q_isT (k : Nat) (x : Int32) : p_X4_isThickness k x = some (bet x 0 5000) := by unfold p_X4_isThickness; rw [q_bet]; rfl
theorem q_isC (k : Nat) (x : Int32) : p_X4_isColour k x = some (bet x 0 7) := by unfold p_X4_isColour; rw [q_bet]; rfl
theorem q_isC5 (k : Nat) (x : Int32) : p_X5_isColour k x = some (bet x 0 7) := by unfold p_X5_isColour; rw [q_in]; rfl
theorem bet_0 {x a b : Int32} : bet x a b = 0 ↔ x < a ∨ b < x := by
  unfold bet
  by_cases h : x < a
  · simp [h]
  · by_cases h2 : b < x
    · simp [h, h2]
    · simp [h, h2]
/-- what is between two small numbers is one of them -/
theorem bet_n {x : Int32} {a b : Nat} (hb : b < 2 ^ 31) (hab : a ≤ b) (h : ¬ bet x (nI a) (nI b) = 0) : ∃ j : Nat, a ≤ j ∧ j ≤ b ∧ x = nI j := by
  rw [bet_0] at h
  have h1 : ¬ x < nI a := fun q => h (Or.inl q)
  have h2 : ¬ nI b < x := fun q => h (Or.inr q)
  have e1 : (nI a).toInt = (a : Int) := nI_toInt (by omega)
  have e2 : (nI b).toInt = (b : Int) := nI_toInt hb
  rw [Int32.lt_iff_toInt_lt, e1] at h1
  rw [Int32.lt_iff_toInt_lt, e2] at h2
  have h0 : ¬ x < 0 := by rw [Int32.lt_iff_toInt_lt, Int32.toInt_zero]; omega
  obtain ⟨j, hj, rfl⟩ := nI_of h0
  rw [nI_toInt hj] at h1 h2
  exact ⟨j, by omega, by omega, rfl⟩
theorem bet_y {j a b : Nat} (hb : b < 2 ^ 31) (h1 : a ≤ j) (h2 : j ≤ b) : ¬ bet (nI j) (nI a) (nI b) = 0 := by
  rw [bet_0]
  rintro (h | h)
  · exact nI_nlt h1 (by omega) h
  · exact nI_nlt h2 hb h
theorem imin_n {a b : Nat} (ha : a < 2 ^ 31) (hb : b < 2 ^ 31) : imin (nI a) (nI b) = nI (min a b) := by
  unfold imin
  by_cases h : b < a
  · rw [if_pos (nI_lt h ha), Nat.min_eq_right (by omega)]
  · rw [if_neg (nI_nlt (by omega) hb), Nat.min_eq_left (by omega)]
theorem q_lesser {k a b : Nat} (ha : a < 2 ^ 31) (hb : b < 2 ^ 31) : p_X5_lesser k (nI a) (nI b) = some (nI (min a b)) := by
  unfold p_X5_lesser
  by_cases h : b ≤ a
  · rw [if_pos (nI_le h ha), Nat.min_eq_right h]
  · rw [if_neg (nI_ge (by omega) hb), Nat.min_eq_left (by omega)]
theorem q_lesser' {k : Nat} (a b : Int32) : p_X5_lesser k a b = some (imin a b) := by
  unfold p_X5_lesser imin
  by_cases h : b < a
  · rw [if_pos h, if_pos (Int32.le_of_lt h)]
  · rw [if_neg h]
    by_cases h2 : b ≤ a
    · rw [if_pos h2, Int32.le_antisymm h2 (Int32.not_lt.mp h)]
    · rw [if_neg h2]
/-- light -/
def br (y : Int32) : Int32 := if 500 < (y - y / 1000 * 1000) then 2 * (1000 - (y - y / 1000 * 1000)) else 2 * (y - y / 1000 * 1000)
def bR (x : Int32) : Int32 := br (((x * 266) / 100 * 1000) / 650)
def bG (x : Int32) : Int32 := br (((x * 266) / 100 * 1000) / 530)
def bB (x : Int32) : Int32 := br (((x * 266) / 100 * 1000) / 460)
def colL (x : Int32) : Int32 := if bR x < 500 then (if bG x < 500 then (if bB x < 500 then 0 else 1) else (if bB x < 500 then 2 else 3)) else (if bG x < 500 then (if bB x < 500 then 4 else 5) else (if bB x < 500 then 6 else 7))
def col (x b : Int32) : Int32 := if b ≤ x then colL x else 0
theorem q_br (k : Nat) (y : Int32) : p_X3_brightness k y = some (br y) := by
  unfold p_X3_brightness br
  by_cases h : 500 < (y - y / 1000 * 1000)
  · rw [if_pos h, if_pos h]
  · rw [if_neg h, if_neg h]
theorem q_red (k : Nat) (x : Int32) : p_X3_red k ((x * 266) / 100) = some (bR x) := by unfold p_X3_red; rw [q_br]; rfl
theorem q_green (k : Nat) (x : Int32) : p_X3_green k ((x * 266) / 100) = some (bG x) := by unfold p_X3_green; rw [q_br]; rfl
theorem q_blue (k : Nat) (x : Int32) : p_X3_blue k ((x * 266) / 100) = some (bB x) := by unfold p_X3_blue; rw [q_br]; rfl
theorem q_br0 (k : Nat) (x : Int32) : p_X5_brightness k x 0 = some (bR x) := by
  unfold p_X5_brightness p_X5_path bR br
  rw [if_pos rfl, Option.bind_some]
  split <;> rfl
theorem q_br1 (k : Nat) (x : Int32) : p_X5_brightness k x 1 = some (bG x) := by
  unfold p_X5_brightness p_X5_path bG br
  rw [if_neg (by decide), if_pos rfl, Option.bind_some]
  split <;> rfl
theorem q_br2 (k : Nat) (x : Int32) : p_X5_brightness k x 2 = some (bB x) := by
  unfold p_X5_brightness p_X5_path bB br
  rw [if_neg (by decide), if_neg (by decide), Option.bind_some]
  split <;> rfl
theorem q_col (k : Nat) (x b : Int32) : p_X3_colour k x b = some (col x b) := by
  unfold p_X3_colour col
  by_cases h : b ≤ x
  · rw [if_pos h, if_pos h]
    unfold p_X3_path
    simp only [Option.bind_some, q_red, q_green, q_blue]
    unfold colL
    by_cases h1 : bR x < 500 <;> by_cases h2 : bG x < 500 <;> by_cases h3 : bB x < 500 <;> simp only [h1, h2, h3, if_true, if_false] <;> rfl
  · rw [if_neg h, if_neg h]
theorem q_isBlack5 (k : Nat) (M : MD) (x : Int32) : p_X5_isBlack k M x = some (if MD.st M 16 ≤ x then 0 else 1) := by
  unfold p_X5_isBlack p_X5_of
  rw [ald_at (x := 13 + 3) 16 rfl (by decide) (by decide)]
  simp only [Option.bind_some]
  split <;> rfl
theorem q_col5 (k : Nat) (M : MD) (x : Int32) : p_X5_colour k M x = some (col x (MD.st M 16)) := by
  unfold p_X5_colour col
  rw [q_isBlack5]
  simp only [Option.bind_some]
  by_cases h : MD.st M 16 ≤ x
  · rw [if_pos h, if_pos h, if_pos rfl]
    simp only [q_br0, q_br1, q_br2, Option.bind_some]
    unfold colL
    by_cases h1 : bR x < 500 <;> by_cases h2 : bG x < 500 <;> by_cases h3 : bB x < 500 <;> simp only [h1, h2, h3, if_true, if_false] <;> rfl
  · rw [if_neg h, if_neg h, if_neg (by decide)]
theorem colL_n (x : Int32) : ∃ c : Nat, c < 8 ∧ colL x = nI c := by
  unfold colL
  split <;> split <;> split <;> first | exact ⟨0, by decide, rfl⟩ | exact ⟨1, by decide, rfl⟩ | exact ⟨2, by decide, rfl⟩ | exact ⟨3, by decide, rfl⟩ | exact ⟨4, by decide, rfl⟩ | exact ⟨5, by decide, rfl⟩ | exact ⟨6, by decide, rfl⟩ | exact ⟨7, by decide, rfl⟩
theorem col_n (x b : Int32) : ∃ c : Nat, c < 8 ∧ col x b = nI c := by
  unfold col
  split
  · exact colL_n x
  · exact ⟨0, by decide, rfl⟩
