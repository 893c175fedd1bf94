/-! PURE PART: count. -/
theorem fr_1 (n : Nat) (c : Nat → Int32) (h : n ≤ 24) (h0 : ¬ n = 0) : nI (frN c (n - 1) + 1) - 1 = nI (frN c (n - 1)) := nI_pred _
theorem bet_lit {x : Int32} {a b : Nat} (hb : b < 2 ^ 31) (h : bet x (nI a) (nI b) = 0) {j : Nat} (h1 : a ≤ j) (h2 : j ≤ b) : ¬ x = nI j := by
  rintro rfl
  exact bet_y hb h1 h2 h
theorem cntR {k n : Nat} {u t : Nat → Nat} {F : FD} {M : MD} {T : TD} {qA : Nat → AF} {qz : Int32} {qS : Nat → FD} (hk : 100 ≤ k) (h : RF F (MD.st M) n t u) (hz : qz = MD.pasts M) (hl : TD.length T = MD.length M) (x1 : Int32) :
    ∃ r : Int32, p_X4_count k F qA qz qS T x1 = some r ∧ p_X5_count k M x1 = some r := by
  obtain ⟨hn, hrows, hth, hst, hu0, ⟨m0, m1, m2, m3, m4, m5, m6, m7, m8, m9, m10, m11, m12⟩, hac⟩ := id h
  unfold p_X4_count p_X5_count
  rw [q_bet, Option.bind_some]
  by_cases c1 : bet x1 20 26 = 0
  · rw [if_pos c1, q_bet, Option.bind_some]
    by_cases c2 : bet x1 30 36 = 0
    · rw [if_pos c2]
      by_cases d : x1 = 0
      · subst d
        exact ⟨nI n, hrows ▸ rfl, (show (ald (MD.st M) 44 0).bind some = some (nI n) by rw [a44_0, m0]; rfl)⟩
      rw [if_neg d, if_neg d]
      clear d
      by_cases d : x1 = 1
      · subst d
        exact ⟨FD.ticks F, rfl, (show (ald (MD.st M) 44 1).bind some = some (FD.ticks F) by rw [a44_1, m1]; rfl)⟩
      rw [if_neg d, if_neg d]
      clear d
      by_cases d : x1 = 2
      · subst d
        exact ⟨nI (cntB (bk t u) n), (show (p_X0_blackRows k F).bind some = _ by rw [q_black hk h]; rfl), (show (p_X5_blackOnes k M).bind (fun v => (p_X5_bits k v).bind some) = _ by rw [q_ones hk h, Option.bind_some, q_bits hk _ hn]; rfl)⟩
      rw [if_neg d, if_neg d]
      clear d
      by_cases d : x1 = 3
      · subst d
        refine ⟨nI (frN (cl t u) (n - 1)), (show (p_X0_fringes k F).bind some = _ by rw [q_fr hk h]; rfl), ?_⟩
        show (ald (MD.st M) 44 0).bind (fun v9 => if v9 = 0 then (some 0) else ((ald (MD.st M) 44 0).bind fun v11 => (p_X5_runsTo k M (v11 - 1)).bind fun v12 => some (v12 - 1))) = _
        rw [a44_0, Option.bind_some, m0, Option.bind_some]
        by_cases h0 : n = 0
        · subst h0
          rfl
        · rw [if_neg (nI_ne0 (by omega) (by omega))]
          obtain ⟨n, rfl⟩ : ∃ n', n = n' + 1 := ⟨n - 1, by omega⟩
          rw [nI_pred, q_runs hk h (by omega), Option.bind_some, nI_pred]
          rfl
      rw [if_neg d, if_neg d]
      clear d
      by_cases d : x1 = 4
      · subst d
        obtain ⟨r, e1, e2⟩ := q_dif hk h
        exact ⟨r, (show (p_X0_differentColours k F).bind some = _ by rw [e1]; rfl), (show (p_X5_colours k M).bind some = _ by rw [e2]; rfl)⟩
      rw [if_neg d, if_neg d]
      clear d
      by_cases d : x1 = 5
      · subst d
        obtain ⟨r, e1, e2⟩ := q_ord hk h
        refine ⟨r, ?_, (show (p_X5_greatestOrder k M).bind some = _ by rw [e2]; rfl)⟩
        show (if FD.rows F = 0 then some (-4) else (p_X0_greatestOrder k F).bind some) = _
        rw [← e1]
        by_cases g : FD.rows F = 0
        · rw [if_pos g, if_pos g]
        · rw [if_neg g, if_neg g, Option.bind_fun_some]
      rw [if_neg d, if_neg d]
      clear d
      by_cases d : x1 = 6
      · subst d
        exact ⟨FD.burstReason F, rfl, (show (ald (MD.st M) 44 10).bind some = _ by rw [a44_10, m10]; rfl)⟩
      rw [if_neg d, if_neg d]
      clear d
      by_cases d : x1 = 7
      · subst d
        refine ⟨if FD.bursts F = 0 then -4 else FD.burstNumber F, (show (if FD.bursts F = 0 then some (-4) else some (FD.burstNumber F)) = _ by split <;> rfl), ?_⟩
        show (p_X5_ofBurst k M 11).bind some = _
        unfold p_X5_ofBurst
        rw [a44_8, Option.bind_some, m8, a44_11, m11]
        split <;> rfl
      rw [if_neg d, if_neg d]
      clear d
      by_cases d : x1 = 8
      · subst d
        refine ⟨if FD.bursts F = 0 then -4 else FD.ticksBeforeBurst F, (show (if FD.bursts F = 0 then some (-4) else some (FD.ticksBeforeBurst F)) = _ by split <;> rfl), ?_⟩
        show (p_X5_ofBurst k M 12).bind some = _
        unfold p_X5_ofBurst
        rw [a44_8, Option.bind_some, m8, a44_12, m12]
        split <;> rfl
      rw [if_neg d, if_neg d]
      clear d
      by_cases d : x1 = 9
      · subst d
        exact ⟨FD.bursts F, rfl, (show (ald (MD.st M) 44 8).bind some = _ by rw [a44_8, m8]; rfl)⟩
      rw [if_neg d, if_neg d]
      clear d
      by_cases d : x1 = 10
      · subst d
        exact ⟨FD.drops F, rfl, (show (ald (MD.st M) 44 9).bind some = _ by rw [a44_9, m9]; rfl)⟩
      rw [if_neg d, if_neg d]
      clear d
      by_cases d : x1 = 11
      · subst d
        exact ⟨qz, rfl, hz ▸ rfl⟩
      rw [if_neg d, if_neg d]
      clear d
      by_cases d : x1 = 12
      · subst d
        exact ⟨TD.length T, rfl, hl ▸ rfl⟩
      rw [if_neg d, if_neg d, q_in, Option.bind_some, if_pos c1, q_in, Option.bind_some, if_pos c2]
      exact ⟨-1, rfl, rfl⟩
    · rw [if_neg c2]
      obtain ⟨j, h1, h2, rfl⟩ := bet_n (a := 30) (b := 36) (by decide) (by decide) c2
      have g : ∀ q : Nat, q < 30 → ¬ nI j = nI q := fun q hq w => by
        have := (nI_eq (by omega) (by omega)).mp w
        omega
      rw [if_neg (show ¬ nI j = 0 from g 0 (by decide)), if_neg (show ¬ nI j = 1 from g 1 (by decide)), if_neg (show ¬ nI j = 2 from g 2 (by decide)), if_neg (show ¬ nI j = 3 from g 3 (by decide)), if_neg (show ¬ nI j = 4 from g 4 (by decide)), if_neg (show ¬ nI j = 5 from g 5 (by decide)), if_neg (show ¬ nI j = 6 from g 6 (by decide)), if_neg (show ¬ nI j = 7 from g 7 (by decide)), if_neg (show ¬ nI j = 8 from g 8 (by decide)), if_neg (show ¬ nI j = 9 from g 9 (by decide)), if_neg (show ¬ nI j = 10 from g 10 (by decide)), if_neg (show ¬ nI j = 11 from g 11 (by decide)), if_neg (show ¬ nI j = 12 from g 12 (by decide)), q_in, Option.bind_some, if_pos c1, q_in, Option.bind_some, if_neg c2]
      have e : nI j - 30 = nI (j - 30) := pk_sub (b := 30) h1
      obtain ⟨s1, s2, s3⟩ := hst (j - 30) (by omega)
      rw [e, ald_at (j - 30) rfl (by omega) (by decide), q_ofN (by omega), s1, s2]
      exact ⟨_, rfl, rfl⟩
  · rw [if_neg c1]
    obtain ⟨j, h1, h2, rfl⟩ := bet_n (a := 20) (b := 26) (by decide) (by decide) c1
    have g : ∀ q : Nat, q < 20 → ¬ nI j = nI q := fun q hq w => by
      have := (nI_eq (by omega) (by omega)).mp w
      omega
    rw [if_neg (show ¬ nI j = 0 from g 0 (by decide)), if_neg (show ¬ nI j = 1 from g 1 (by decide)), if_neg (show ¬ nI j = 2 from g 2 (by decide)), if_neg (show ¬ nI j = 3 from g 3 (by decide)), if_neg (show ¬ nI j = 4 from g 4 (by decide)), if_neg (show ¬ nI j = 5 from g 5 (by decide)), if_neg (show ¬ nI j = 6 from g 6 (by decide)), if_neg (show ¬ nI j = 7 from g 7 (by decide)), if_neg (show ¬ nI j = 8 from g 8 (by decide)), if_neg (show ¬ nI j = 9 from g 9 (by decide)), if_neg (show ¬ nI j = 10 from g 10 (by decide)), if_neg (show ¬ nI j = 11 from g 11 (by decide)), if_neg (show ¬ nI j = 12 from g 12 (by decide)), q_in, Option.bind_some, if_neg c1]
    have e : nI j - 20 = nI (j - 20) := pk_sub (b := 20) h1
    rw [e, ald_at (j - 20) rfl (by omega) (by decide)]
    refine ⟨FD.ac F (j - 20), rfl, ?_⟩
    unfold p_X5_account
    have hj : j = 20 ∨ j = 21 ∨ j = 22 ∨ j = 23 ∨ j = 24 ∨ j = 25 ∨ j = 26 := by omega
    rcases hj with rfl | rfl | rfl | rfl | rfl | rfl | rfl
    · show ((ald (MD.st M) 44 3).bind some).bind some = some (FD.ac F 0)
      rw [a44_3, m3]; rfl
    · show ((p_X5_liquid k M).bind some).bind some = some (FD.ac F 1)
      rw [q_liq hk hn m0 (fun j hj => (hth j hj).2.1), hac]; rfl
    · show ((ald (MD.st M) 44 2).bind some).bind some = some (FD.ac F 2)
      rw [a44_2, m2]; rfl
    · show ((ald (MD.st M) 44 4).bind some).bind some = some (FD.ac F 3)
      rw [a44_4, m4]; rfl
    · show ((ald (MD.st M) 44 5).bind some).bind some = some (FD.ac F 4)
      rw [a44_5, m5]; rfl
    · show ((ald (MD.st M) 44 6).bind some).bind some = some (FD.ac F 5)
      rw [a44_6, m6]; rfl
    · show ((ald (MD.st M) 44 7).bind some).bind some = some (FD.ac F 6)
      rw [a44_7, m7]; rfl
