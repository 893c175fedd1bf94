/-! PURE PART: black rows, as a number and as bits. -/
def bk (t u : Nat → Nat) (j : Nat) : Bool := decide (t j < u 3)
def cntB (b : Nat → Bool) : Nat → Nat
  | 0 => 0
  | n + 1 => cntB b n + (if b n = true then 1 else 0)
def bs (b : Nat → Bool) : Nat → Nat
  | 0 => 0
  | n + 1 => bs b n + (if b n = true then 2 ^ n else 0)
theorem cntB_le (b : Nat → Bool) : ∀ n, cntB b n ≤ n
  | 0 => Nat.le_refl 0
  | n + 1 => by
    have := cntB_le b n
    show cntB b n + _ ≤ n + 1
    split <;> omega
theorem cntB_cong {b c : Nat → Bool} : ∀ n, (∀ j, j < n → b j = c j) → cntB b n = cntB c n
  | 0, _ => rfl
  | n + 1, h => by
    show cntB b n + _ = cntB c n + _
    rw [cntB_cong n (fun j hj => h j (by omega)), h n (by omega)]
theorem bs_cong {b c : Nat → Bool} : ∀ n, (∀ j, j < n → b j = c j) → bs b n = bs c n
  | 0, _ => rfl
  | n + 1, h => by
    show bs b n + _ = bs c n + _
    rw [bs_cong n (fun j hj => h j (by omega)), h n (by omega)]
theorem bs_lt (b : Nat → Bool) : ∀ n, bs b n < 2 ^ n
  | 0 => by show (0 : Nat) < 2 ^ 0; decide
  | n + 1 => by
    have := bs_lt b n
    show bs b n + _ < 2 ^ (n + 1)
    rw [Nat.pow_succ]
    split <;> omega
theorem cntB_head (b : Nat → Bool) : ∀ n, cntB b (n + 1) = (if b 0 = true then 1 else 0) + cntB (fun j => b (j + 1)) n
  | 0 => by simp [cntB]
  | n + 1 => by
    show cntB b (n + 1) + (if b (n + 1) = true then 1 else 0) = _ + (cntB (fun j => b (j + 1)) n + (if b (n + 1) = true then 1 else 0))
    rw [cntB_head b n]
    omega
theorem bs_head (b : Nat → Bool) : ∀ n, bs b (n + 1) = (if b 0 = true then 1 else 0) + 2 * bs (fun j => b (j + 1)) n
  | 0 => by
    show 0 + (if b 0 = true then 2 ^ 0 else 0) = _ + 2 * 0
    simp
  | n + 1 => by
    show bs b (n + 1) + (if b (n + 1) = true then 2 ^ (n + 1) else 0) = _ + 2 * (bs (fun j => b (j + 1)) n + (if b (n + 1) = true then 2 ^ n else 0))
    rw [bs_head b n, Nat.pow_succ]
    by_cases h1 : b (n + 1) = true
    · rw [if_pos h1, if_pos h1]; omega
    · rw [if_neg h1, if_neg h1]; omega
theorem bs_bit : ∀ (r n : Nat) (b : Nat → Bool), r < n → bs b n / 2 ^ r % 2 = if b r = true then 1 else 0
  | r, 0, _, h => absurd h (Nat.not_lt_zero _)
  | 0, n + 1, b, _ => by
    rw [bs_head, Nat.pow_zero, Nat.div_one]
    split <;> omega
  | r + 1, n + 1, b, h => by
    rw [bs_head, Nat.pow_succ, Nat.mul_comm (2 ^ r) 2, ← Nat.div_div_eq_div_mul]
    have e : ((if b 0 = true then 1 else 0) + 2 * bs (fun j => b (j + 1)) n) / 2 = bs (fun j => b (j + 1)) n := by split <;> omega
    rw [e, bs_bit r n (fun j => b (j + 1)) (by omega)]
theorem or_pow {a n : Nat} (h : a < 2 ^ n) : a ||| 2 ^ n = a + 2 ^ n := by
  have := Nat.two_pow_add_eq_or_of_lt h 1
  rw [Nat.mul_one] at this
  rw [Nat.or_comm, ← this, Nat.add_comm]
theorem q_shl1 {r : Nat} (h : r < 24) : jshl 1 (nI r) = nI (2 ^ r) := by
  have e : (1 : Int32) = nI 1 := rfl
  unfold jshl
  have hp : 2 ^ r < 2 ^ 24 := Nat.pow_lt_pow_right (by decide) h
  have h32 : 1 * 2 ^ r < 2 ^ 32 := by
    have h24 : (2 : Nat) ^ 24 < 2 ^ 32 := by decide
    omega
  rw [e, pk_shlN _ r (s_l r (by omega)) h32, Nat.one_mul]
theorem q_bit {S r : Nat} (hS : S < 2 ^ 31) (h : r < 24) : jshr (nI S) (nI r) &&& 1 = nI (S / 2 ^ r % 2) := by
  unfold jshr
  rw [pk_shrN hS _ r (s_l r (by omega)), pk_andN (m := 1) (by have := Nat.div_le_self S (2 ^ r); omega) 1 (by decide)]
/-- Kernighan's loop -/
theorem dbl_and {q : Nat} (h : 0 < q) : (2 * q) &&& (2 * q - 1) = 2 * (q &&& (q - 1)) := by
  apply Nat.eq_of_testBit_eq
  intro i
  rw [Nat.testBit_and]
  cases i with
  | zero => simp [Nat.testBit_zero]
  | succ i =>
    simp only [Nat.testBit_succ]
    rw [show 2 * q / 2 = q by omega, show (2 * q - 1) / 2 = q - 1 by omega, show 2 * (q &&& (q - 1)) / 2 = q &&& (q - 1) by omega, Nat.testBit_and]
theorem odd_and (q : Nat) : (2 * q + 1) &&& (2 * q) = 2 * q := by
  apply Nat.eq_of_testBit_eq
  intro i
  rw [Nat.testBit_and]
  cases i with
  | zero => simp [Nat.testBit_zero]
  | succ i =>
    simp only [Nat.testBit_succ]
    rw [show (2 * q + 1) / 2 = q by omega, show 2 * q / 2 = q by omega, Bool.and_self]
theorem kb_even (k : Nat) : ∀ (f q : Nat) (acc : Int32), q < 2 ^ 30 → p_X5_bits_L4 k f acc (nI (2 * q)) = p_X5_bits_L4 k f acc (nI q)
  | 0, _, _, _ => rfl
  | f + 1, q, acc, hq => by
    rw [p_X5_bits_L4, p_X5_bits_L4]
    by_cases h0 : q = 0
    · subst h0
      rfl
    · rw [if_neg (nI_ne0 (by omega) (by omega)), if_neg (nI_ne0 (by omega) (by omega))]
      have e1 : nI (2 * q) - 1 = nI (2 * q - 1) := pk_sub (b := 1) (by omega)
      have e2 : nI q - 1 = nI (q - 1) := pk_sub (b := 1) (by omega)
      rw [e1, e2, nx_and, nx_and, dbl_and (by omega)]
      exact kb_even k f _ _ (Nat.lt_of_le_of_lt Nat.and_le_left hq)
theorem kb_odd (k f q : Nat) (acc : Int32) (hq : q < 2 ^ 30) : p_X5_bits_L4 k (f + 1) acc (nI (2 * q + 1)) = p_X5_bits_L4 k f (acc + 1) (nI (2 * q)) := by
  rw [p_X5_bits_L4, if_neg (nI_ne0 (by omega) (by omega)), nI_pred, nx_and, odd_and]
theorem kb (k : Nat) : ∀ (i : Nat) (b : Nat → Bool) (f : Nat) (acc : Int32), i ≤ 30 → i < f → p_X5_bits_L4 k f acc (nI (bs b i)) = some (acc + nI (cntB b i))
  | 0, b, f, acc, _, hf => by
    obtain ⟨f, rfl⟩ : ∃ f', f = f' + 1 := ⟨f - 1, by omega⟩
    rw [p_X5_bits_L4, if_pos (show nI (bs b 0) = 0 from rfl)]
    show some acc = some (acc + 0)
    rw [Int32.add_zero]
  | i + 1, b, f, acc, hi, hf => by
    obtain ⟨f, rfl⟩ : ∃ f', f = f' + 1 := ⟨f - 1, by omega⟩
    have hq : bs (fun j => b (j + 1)) i < 2 ^ 30 := Nat.lt_of_lt_of_le (bs_lt _ i) (Nat.pow_le_pow_right (by decide) (by omega))
    rw [bs_head, cntB_head]
    by_cases hb : b 0 = true
    · rw [if_pos hb, Nat.add_comm 1 (2 * _), kb_odd k f _ _ hq, kb_even k _ _ _ hq, kb k i _ f _ (by omega) (by omega), Int32.add_assoc]
      rw [show (1 : Int32) + nI (cntB (fun j => b (j + 1)) i) = nI (1 + cntB (fun j => b (j + 1)) i) from nI_add 1 _]
    · rw [if_neg hb, Nat.zero_add, Nat.zero_add, kb_even k _ _ _ hq, kb k i _ (f + 1) _ (by omega) (by omega)]
theorem q_bits {k : Nat} (hk : 100 ≤ k) (b : Nat → Bool) {n : Nat} (hn : n ≤ 24) : p_X5_bits k (nI (bs b n)) = some (nI (cntB b n)) := by
  unfold p_X5_bits
  rw [kb k n b k 0 (by omega) (by omega), Int32.zero_add]
theorem q_isB {k : Nat} {F : FD} {m : Nat → Int32} {n : Nat} {t u : Nat → Nat} (h : RF F m n t u) {r : Nat} (hr : r < n) : p_X0_isBlack k F (nI r) = some (if bk t u r = true then 1 else 0) := by
  obtain ⟨hn, hrows, hth, hst, hu0, -, hac⟩ := h
  unfold p_X0_isBlack bk
  rw [a24 _ (show r < 24 by omega), (hth r hr).1]
  simp only [Option.bind_some, a7_3, (hst 3 (by decide)).1]
  have h1 := (hth r hr).2.2
  have h2 := (hst 3 (by decide)).2.2
  by_cases c : t r < u 3
  · rw [if_neg (nI_ge c (by omega)), if_pos (by simpa using c)]
  · rw [if_pos (nI_le (by omega) (by omega)), if_neg (by simpa using c)]
theorem q_blackL {k : Nat} {F : FD} {m : Nat → Int32} {n : Nat} {t u : Nat → Nat} (h : RF F m n t u) : ∀ (f i : Nat), i ≤ n → n - i < f → p_X0_blackRows_L4 k F f (nI (cntB (bk t u) i)) (nI i) = some (nI (cntB (bk t u) n))
  | 0, _, _, hf => absurd hf (Nat.not_lt_zero _)
  | f + 1, i, hi, hf => by
    have hn := h.1
    rw [p_X0_blackRows_L4, h.2.1]
    by_cases c : i = n
    · subst c
      rw [if_pos (nI_le (Nat.le_refl i) (by omega))]
    · rw [if_neg (nI_ge (by omega) (by omega)), q_isB h (by omega)]
      simp only [Option.bind_some, nI_1]
      have e : cntB (bk t u) (i + 1) = cntB (bk t u) i + (if bk t u i = true then 1 else 0) := rfl
      by_cases hb : bk t u i = true
      · rw [if_pos hb] at e ⊢
        rw [if_neg (by decide), ← e]
        exact q_blackL h f (i + 1) (by omega) (by omega)
      · rw [if_neg hb] at e ⊢
        rw [if_pos rfl]
        have h9 := q_blackL (k := k) h f (i + 1) (by omega) (by omega)
        rw [e, Nat.add_zero] at h9
        exact h9
theorem q_black {k : Nat} (hk : 100 ≤ k) {F : FD} {m : Nat → Int32} {n : Nat} {t u : Nat → Nat} (h : RF F m n t u) : p_X0_blackRows k F = some (nI (cntB (bk t u) n)) := by
  have hn := h.1
  unfold p_X0_blackRows
  exact q_blackL h k 0 (Nat.zero_le _) (by omega)
theorem q_onesL {k : Nat} {F : FD} {M : MD} {n : Nat} {t u : Nat → Nat} (h : RF F (MD.st M) n t u) : ∀ (f i : Nat), i ≤ n → n - i < f → p_X5_blackOnes_L4 k M f (nI (bs (bk t u) i)) (nI i) = some (nI (bs (bk t u) n))
  | 0, _, _, hf => absurd hf (Nat.not_lt_zero _)
  | f + 1, i, hi, hf => by
    obtain ⟨hn, hrows, hth, hst, hu0, ⟨m0, -⟩, hac⟩ := id h
    rw [p_X5_blackOnes_L4, a44_0, m0]
    simp only [Option.bind_some]
    by_cases c : i = n
    · subst c
      rw [if_pos (nI_le (Nat.le_refl i) (by omega))]
    · rw [if_neg (nI_ge (by omega) (by omega)), a20 _ (show i < 24 by omega), (hth i (by omega)).2.1]
      simp only [Option.bind_some, q_isBlack5, nI_1]
      have e : bs (bk t u) (i + 1) = bs (bk t u) i + (if bk t u i = true then 2 ^ i else 0) := rfl
      have h16 : MD.st M 16 = nI (u 3) := (hst 3 (by decide)).2.1
      have h1 := (hth i (by omega)).2.2
      have h2 := (hst 3 (by decide)).2.2
      have h9 := q_onesL (k := k) h f (i + 1) (by omega) (by omega)
      rw [h16]
      by_cases hb : bk t u i = true
      · have hb' : t i < u 3 := by simpa [bk] using hb
        rw [if_neg (nI_ge hb' (by omega)), if_neg (by decide), q_shl1 (by omega), nx_or, or_pow (bs_lt _ i)]
        rw [e, if_pos hb] at h9
        exact h9
      · have hb' : ¬ t i < u 3 := by simpa [bk] using hb
        rw [if_pos (nI_le (by omega) (by omega)), if_pos rfl]
        rw [e, if_neg hb, Nat.add_zero] at h9
        rw [show nI (bs (bk t u) i) ||| 0 = nI (bs (bk t u) i ||| 0) from nx_or _ 0, Nat.or_zero]
        exact h9
theorem q_ones {k : Nat} (hk : 100 ≤ k) {F : FD} {M : MD} {n : Nat} {t u : Nat → Nat} (h : RF F (MD.st M) n t u) : p_X5_blackOnes k M = some (nI (bs (bk t u) n)) := by
  have hn := h.1
  unfold p_X5_blackOnes
  exact q_onesL h k 0 (Nat.zero_le _) (by omega)
theorem q_liqL {k : Nat} {M : MD} {n : Nat} {t : Nat → Nat} (hn : n ≤ 24) (m0 : MD.st M 0 = nI n) (hth : ∀ j, j < n → MD.st M (20 + j) = nI (t j)) : ∀ (f i : Nat), i ≤ n → n - i < f → p_X5_liquid_L4 k M f (nI (sumN t i)) (nI i) = some (nI (sumN t n))
  | 0, _, _, hf => absurd hf (Nat.not_lt_zero _)
  | f + 1, i, hi, hf => by
    rw [p_X5_liquid_L4, a44_0, m0]
    simp only [Option.bind_some]
    by_cases c : i = n
    · subst c
      rw [if_pos (nI_le (Nat.le_refl i) (by omega))]
    · rw [if_neg (nI_ge (by omega) (by omega)), a20 _ (show i < 24 by omega), hth i (by omega)]
      simp only [Option.bind_some, nI_1, nI_add]
      exact q_liqL hn m0 hth f (i + 1) (by omega) (by omega)
theorem q_liq {k : Nat} (hk : 100 ≤ k) {M : MD} {n : Nat} {t : Nat → Nat} (hn : n ≤ 24) (m0 : MD.st M 0 = nI n) (hth : ∀ j, j < n → MD.st M (20 + j) = nI (t j)) : p_X5_liquid k M = some (nI (sumN t n)) := by
  unfold p_X5_liquid
  exact q_liqL hn m0 hth k 0 (Nat.zero_le _) (by omega)
