/-! PURE PART: a film on both sides. -/
def sumN (t : Nat → Nat) : Nat → Nat
  | 0 => 0
  | n + 1 => sumN t n + t n
def tu (t : Nat → Nat) (r v : Nat) : Nat → Nat := fun j => if j = r then v else t j
theorem tu_s {t : Nat → Nat} {r v : Nat} : tu t r v r = v := if_pos rfl
theorem tu_n {t : Nat → Nat} {r v j : Nat} (h : j ≠ r) : tu t r v j = t j := if_neg h
theorem sum_out {t : Nat → Nat} {r v : Nat} : ∀ n, n ≤ r → sumN (tu t r v) n = sumN t n
  | 0, _ => rfl
  | n + 1, h => by
    show sumN (tu t r v) n + tu t r v n = sumN t n + t n
    rw [sum_out n (by omega), tu_n (by omega)]
theorem sum_tu {t : Nat → Nat} {r v : Nat} : ∀ n, r < n → sumN (tu t r v) n + t r = sumN t n + v
  | 0, h => absurd h (Nat.not_lt_zero _)
  | n + 1, h => by
    show sumN (tu t r v) n + tu t r v n + t r = sumN t n + t n + v
    by_cases hr : r = n
    · subst hr
      rw [sum_out r (Nat.le_refl r), tu_s]
      omega
    · have h1 := sum_tu (t := t) (r := r) (v := v) n (by omega)
      rw [tu_n (fun e => hr e.symm)]
      omega
theorem sum_cong {t t' : Nat → Nat} : ∀ n, (∀ j, j < n → t j = t' j) → sumN t n = sumN t' n
  | 0, _ => rfl
  | n + 1, h => by
    show sumN t n + t n = sumN t' n + t' n
    rw [sum_cong n (fun j hj => h j (by omega)), h n (by omega)]
/-- the reference's row of numbers, put anew -/
def wst (M : MD) (f : Nat → Int32) : MD := mkMD f (MD.past M) (MD.aside M) (MD.text M) (MD.pasts M) (MD.length M) (MD.spot M) (MD.itsThickness M) (MD.itsRows M) (MD.from_ M)
theorem wst_st (M : MD) (f : Nat → Int32) : MD.st (wst M f) = f := rfl
theorem wst_wst (M : MD) (f g : Nat → Int32) : wst (wst M f) g = wst M g := rfl
theorem wst_self (M : MD) : wst M (MD.st M) = M := rfl
/-- the class's film F and the reference's row m are one film of n rows, thick by t, with the settings u -/
def RF (F : FD) (m : Nat → Int32) (n : Nat) (t u : Nat → Nat) : Prop :=
  n ≤ 24 ∧ FD.rows F = nI n ∧ (∀ j, j < n → FD.th F j = nI (t j) ∧ m (20 + j) = nI (t j) ∧ t j ≤ 5000) ∧ (∀ j, j < 7 → FD.st F j = nI (u j) ∧ m (13 + j) = nI (u j) ∧ u j ≤ 100000) ∧ u 0 ≤ 100 ∧
  (m 0 = nI n ∧ m 1 = FD.ticks F ∧ m 2 = FD.ac F 2 ∧ m 3 = FD.ac F 0 ∧ m 4 = FD.ac F 3 ∧ m 5 = FD.ac F 4 ∧ m 6 = FD.ac F 5 ∧ m 7 = FD.ac F 6 ∧ m 8 = FD.bursts F ∧ m 9 = FD.drops F ∧ m 10 = FD.burstReason F ∧ m 11 = FD.burstNumber F ∧ m 12 = FD.ticksBeforeBurst F) ∧ FD.ac F 1 = nI (sumN t n)
theorem nI_subE {a b c : Nat} (h : b + c = a) : nI a - nI c = nI b := by
  subst h
  rw [pk_sub (by omega), Nat.add_sub_cancel]
/-- liquid leaves a row for an account c -/
theorem q_move {k : Nat} {F : FD} {x : Int32} {c : Nat} (hc : c < 7) (h1 : c ≠ 1) : p_X0_move k F 1 (nI c) x = some (mkFD (FD.th F) (FD.st F) (upd (upd (FD.ac F) 1 (FD.ac F 1 - x)) c (FD.ac F c + x)) (FD.rows F) (FD.ticks F) (FD.drops F) (FD.bursts F) (FD.burstReason F) (FD.burstNumber F) (FD.ticksBeforeBurst F)) := by
  unfold p_X0_move
  simp only [a7_1, s7_1, Option.bind_some]
  rw [ald_at c rfl hc (by decide), un h1]
  simp only [Option.bind_some]
  rw [ast_at c rfl hc (by decide)]
  rfl
theorem q_lose {k : Nat} {F : FD} {r a v c : Nat} (hr : r < 24) (ha : a < 2 ^ 31) (hv : v < 2 ^ 31) (hth : FD.th F r = nI v) (hc : c < 7) (h1 : c ≠ 1) : p_X0_loseFrom k F (nI r) (nI a) (nI c) = some (nI (min a v), mkFD (upd (FD.th F) r (nI (v - min a v))) (FD.st F) (upd (upd (FD.ac F) 1 (FD.ac F 1 - nI (min a v))) c (FD.ac F c + nI (min a v))) (FD.rows F) (FD.ticks F) (FD.drops F) (FD.bursts F) (FD.burstReason F) (FD.burstNumber F) (FD.ticksBeforeBurst F)) := by
  unfold p_X0_loseFrom
  simp only [a24 _ hr, Option.bind_some, hth, imin_n ha hv, s24 _ _ hr, q_move hc h1]
  rw [pk_sub (Nat.min_le_right a v)]
  rfl
/-- one row gives to the next, or to the drop -/
theorem give {k : Nat} {F : FD} {M : MD} {n : Nat} {t u : Nat → Nat} (h : RF F (MD.st M) n t u) {r a : Nat} (hr : r < n) (ha : a < 2 ^ 31) :
    ∃ (F' : FD) (m' : Nat → Int32) (t' : Nat → Nat), p_X0_giveDown k F (nI r) (nI a) = some F' ∧ p_X5_gives k M (nI r) (lN a) = some (wst M m') ∧ RF F' m' n t' u ∧ ∀ j, j ≠ r → j ≠ r + 1 → t' j = t j := by
  obtain ⟨hn, hrows, hth, hst, hu0, ⟨m0, m1, m2, m3, m4, m5, m6, m7, m8, m9, m10, m11, m12⟩, hac⟩ := h
  obtain ⟨hr1, hr2, hr3⟩ := hth r hr
  have hr24 : r < 24 := by omega
  obtain ⟨n, rfl⟩ : ∃ n', n = n' + 1 := ⟨n - 1, by omega⟩
  -- the reference's own minimum
  have hcmp : (0 ≤ lg_cmp (lN a) (Int32.toInt64 (nI (t r)))) ↔ t r ≤ a := by
    rw [nI_l (by omega), lg_cmp_ge, lN_le (by omega) ha]
  by_cases hl : r = n
  · subst hl
    refine ⟨mkFD (upd (FD.th F) r (nI (t r - min a (t r)))) (FD.st F) (upd (upd (FD.ac F) 1 (FD.ac F 1 - nI (min a (t r)))) 2 (FD.ac F 2 + nI (min a (t r)))) (FD.rows F) (FD.ticks F) (FD.drops F) (FD.bursts F) (FD.burstReason F) (FD.burstNumber F) (FD.ticksBeforeBurst F), upd (upd (MD.st M) 2 (MD.st M 2 + nI (min a (t r)))) (20 + r) (nI (t r) - nI (min a (t r))), tu t r (t r - min a (t r)), ?_, ?_, ?_, ?_⟩
    · unfold p_X0_giveDown
      rw [if_pos (show nI r = FD.rows F - 1 by rw [hrows, nI_pred]), show (2 : Int32) = nI 2 from rfl, q_lose hr24 ha (by omega) hr1 (by decide) (by decide)]
      rfl
    · unfold p_X5_gives
      rw [a20 _ hr24, hr2]
      simp only [Option.bind_some, a44_0, m0, nI_pred, if_true, a44_2, s44_2]
      by_cases c : t r ≤ a
      · rw [if_pos (hcmp.mpr c), Nat.min_eq_right c, a20 _ hr24]
        simp only [Option.bind_some]
        rw [s20 _ _ hr24, un (by omega), hr2]
        rfl
      · rw [if_neg (fun q => c (hcmp.mp q)), Nat.min_eq_left (by omega), a20 _ hr24, lN_i]
        simp only [Option.bind_some]
        rw [s20 _ _ hr24, un (by omega), hr2]
        rfl
    · have hs := sum_tu (t := t) (r := r) (v := t r - min a (t r)) (r + 1) (by omega)
      have hmin := Nat.min_le_right a (t r)
      refine ⟨hn, hrows, fun j hj => ?_, fun j hj => ?_, hu0, ⟨?_, ?_, ?_, ?_, ?_, ?_, ?_, ?_, ?_, ?_, ?_, ?_, ?_⟩, ?_⟩
      · by_cases hjr : j = r
        · subst hjr
          rw [tu_s]
          exact ⟨us, by rw [us, pk_sub hmin], by omega⟩
        · rw [tu_n hjr, un (by omega), un (by omega)]
          obtain ⟨g1, g2, g3⟩ := hth j hj
          exact ⟨(un hjr).trans g1, g2, g3⟩
      · rw [un (by omega), un (by omega)]
        exact hst j hj
      · rw [un (by omega), un (by omega), m0]
      · rw [un (by omega), un (by omega), m1]; rfl
      · rw [un (by omega), us, m2]; rfl
      · rw [un (by omega), un (by omega), m3]; rfl
      · rw [un (by omega), un (by omega), m4]; rfl
      · rw [un (by omega), un (by omega), m5]; rfl
      · rw [un (by omega), un (by omega), m6]; rfl
      · rw [un (by omega), un (by omega), m7]; rfl
      · rw [un (by omega), un (by omega), m8]; rfl
      · rw [un (by omega), un (by omega), m9]; rfl
      · rw [un (by omega), un (by omega), m10]; rfl
      · rw [un (by omega), un (by omega), m11]; rfl
      · rw [un (by omega), un (by omega), m12]; rfl
      · show FD.ac F 1 - nI (min a (t r)) = _
        rw [hac]
        exact nI_subE (by omega)
    · intro j h1 h2
      exact tu_n h1
  · obtain ⟨hs1, hs2, hs3⟩ := hth (r + 1) (by omega)
    have hs24 : r + 1 < 24 := by omega
    obtain ⟨b, hb⟩ : ∃ b, b = min (min a (t r)) (5000 - t (r + 1)) := ⟨_, rfl⟩
    have hb1 : b ≤ t r := by omega
    have hb2 : t (r + 1) + b ≤ 5000 := by omega
    refine ⟨mkFD (upd (upd (FD.th F) r (nI (t r - b))) (r + 1) (nI (t (r + 1) + b))) (FD.st F) (FD.ac F) (FD.rows F) (FD.ticks F) (FD.drops F) (FD.bursts F) (FD.burstReason F) (FD.burstNumber F) (FD.ticksBeforeBurst F), upd (upd (MD.st M) (20 + (r + 1)) (nI (t (r + 1) + b))) (20 + r) (nI (t r - b)), tu (tu t r (t r - b)) (r + 1) (t (r + 1) + b), ?_, ?_, ?_, ?_⟩
    · unfold p_X0_giveDown
      rw [if_neg (show ¬ nI r = FD.rows F - 1 by rw [hrows, nI_pred]; exact fun q => hl ((nI_eq (by omega) (by omega)).mp q)), nI_1, a24 _ hs24]
      simp only [Option.bind_some]
      rw [a24 _ hr24]
      simp only [Option.bind_some]
      rw [hr1, hs1, imin_n ha (by omega), show (5000 : Int32) - nI (t (r + 1)) = nI (5000 - t (r + 1)) from pk_sub (a := 5000) hs3, imin_n (by omega) (by omega), ← hb, pk_sub hb1, s24 _ _ hr24]
      simp only [Option.bind_some]
      rw [a24 _ hs24]
      simp only [Option.bind_some]
      rw [un (by omega), hs1, nI_add, s24 _ _ hs24]
      rfl
    · have e1 : (20 : Int32) + nI r + 1 = nI (20 + (r + 1)) := by rw [n20, nI_1]; rfl
      have hne : ¬ nI r = nI (n + 1) - 1 := by rw [nI_pred]; exact fun q => hl ((nI_eq (by omega) (by omega)).mp q)
      have e5 : (5000 : Int32) - nI (t (r + 1)) = nI (5000 - t (r + 1)) := pk_sub (a := 5000) hs3
      unfold p_X5_gives
      rw [a20 _ hr24, hr2]
      simp only [Option.bind_some, a44_0, m0, if_neg hne, e1]
      rw [ald_at (20 + (r + 1)) rfl (by omega) (by decide), hs2]
      simp only [Option.bind_some, e5, lN_i, q_lesser (show t r < 2 ^ 31 by omega) (show 5000 - t (r + 1) < 2 ^ 31 by omega), q_lesser ha (show 5000 - t (r + 1) < 2 ^ 31 by omega), nI_add]
      rw [ast_at (20 + (r + 1)) rfl (by omega) (by decide), ast_at (20 + (r + 1)) rfl (by omega) (by decide)]
      simp only [Option.bind_some]
      rw [a20 _ hr24, a20 _ hr24, un (by omega), un (by omega), hr2]
      simp only [Option.bind_some]
      by_cases c : t r ≤ a
      · have hb' : min (t r) (5000 - t (r + 1)) = b := by omega
        rw [if_pos (hcmp.mpr c), hb', pk_sub hb1, s20 _ _ hr24]
        rfl
      · have hb' : min a (5000 - t (r + 1)) = b := by omega
        rw [if_neg (fun q => c (hcmp.mp q)), hb', pk_sub hb1, s20 _ _ hr24]
        rfl
    · have hx1 := sum_tu (t := t) (r := r) (v := t r - b) (n + 1) (by omega)
      have hx2 := sum_tu (t := tu t r (t r - b)) (r := r + 1) (v := t (r + 1) + b) (n + 1) (by omega)
      rw [tu_n (show r + 1 ≠ r by omega)] at hx2
      refine ⟨hn, hrows, fun j hj => ?_, fun j hj => ?_, hu0, ⟨?_, ?_, ?_, ?_, ?_, ?_, ?_, ?_, ?_, ?_, ?_, ?_, ?_⟩, ?_⟩
      · by_cases hjr : j = r
        · subst hjr
          rw [tu_n (by omega), tu_s]
          exact ⟨(un (by omega)).trans us, us, by omega⟩
        · by_cases hjs : j = r + 1
          · subst hjs
            rw [tu_s]
            exact ⟨us, (un (by omega)).trans us, hb2⟩
          · rw [tu_n hjs, tu_n hjr]
            obtain ⟨g1, g2, g3⟩ := hth j hj
            exact ⟨((un hjs).trans (un hjr)).trans g1, ((un (by omega)).trans (un (by omega))).trans g2, g3⟩
      · rw [un (by omega), un (by omega)]
        exact hst j hj
      · rw [un (by omega), un (by omega), m0]
      · rw [un (by omega), un (by omega), m1]; rfl
      · rw [un (by omega), un (by omega), m2]; rfl
      · rw [un (by omega), un (by omega), m3]; rfl
      · rw [un (by omega), un (by omega), m4]; rfl
      · rw [un (by omega), un (by omega), m5]; rfl
      · rw [un (by omega), un (by omega), m6]; rfl
      · rw [un (by omega), un (by omega), m7]; rfl
      · rw [un (by omega), un (by omega), m8]; rfl
      · rw [un (by omega), un (by omega), m9]; rfl
      · rw [un (by omega), un (by omega), m10]; rfl
      · rw [un (by omega), un (by omega), m11]; rfl
      · rw [un (by omega), un (by omega), m12]; rfl
      · show FD.ac F 1 = _
        rw [hac]
        exact congrArg nI (by omega)
    · intro j h1 h2
      rw [tu_n h2, tu_n h1]
