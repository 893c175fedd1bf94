/-! PURE PART: type, clear, fault, read. -/
theorem q_i2c {v : Nat} (h : v < 65536) : vp_nar .char (i2c (nI v)) = nI v := by
  unfold i2c
  rw [pk_vc, pk_char, pk_tn (by omega), Nat.mod_eq_of_lt h]
theorem RT_cong {T T' : TD} {M M' : MD} (h : RT T M) (e1 : TD.sg T' = TD.sg T) (e2 : TD.length T' = TD.length T) (e3 : MD.text M' = MD.text M) (e4 : MD.length M' = MD.length M) : RT T' M' := by
  obtain ⟨L, c, hL, h1, h2, h3⟩ := h
  exact ⟨L, c, hL, e2.trans h1, e4.trans h2, fun j hj => by rw [e1, e3]; exact h3 j hj⟩
theorem typeR {k : Nat} {F : FD} {M : MD} {T : TD} {qz : Int32} {qS : Nat → FD} (h : RS F qz qS T M) (x1 : Int32) :
    ∃ (r : Int32) (T' : TD) (M' : MD), p_X4_type k T x1 = some (r, T') ∧ p_X5_type k M x1 = some (r, M') ∧ RS F qz qS T' M' := by
  obtain ⟨hf, hh, ⟨L, c, hL, h1, h2, h3⟩⟩ := id h
  unfold p_X4_type p_X5_type
  rw [q_bet, q_in, Option.bind_some, Option.bind_some]
  by_cases c1 : bet x1 32 126 = 0
  · rw [if_pos c1, if_pos c1]
    exact ⟨_, _, _, rfl, rfl, h⟩
  rw [if_neg c1, if_neg c1, h1, h2]
  by_cases c2 : L = 100
  · subst c2
    rw [if_pos (show nI 100 = 100 from rfl), if_pos (show nI 100 = 100 from rfl)]
    exact ⟨_, _, _, rfl, rfl, h⟩
  · have c3 : ¬ nI L = 100 := fun w => c2 ((nI_eq (b := 100) (by omega) (by decide)).mp w)
    obtain ⟨v, v1, v2, rfl⟩ := bet_n (a := 32) (b := 126) (by decide) (by decide) c1
    rw [if_neg c3, if_neg c3]
    unfold p_X1_append
    have ec : cst (TD.sg T) 100 (nI L) (i2c (nI v)) = some (upd (TD.sg T) L (nI v)) := by
      unfold cst
      rw [if_neg (nI_in (by omega) (by decide)), nI_clamp (by omega), q_i2c (by omega)]
    rw [h1, if_neg (show ¬ (100 : Int32) ≤ nI L from nI_ge (b := 100) (by omega) (by decide)), ec, ast_at L rfl (by omega) (by decide), nI_1]
    refine ⟨nI (L + 1), mkTD (upd (TD.sg T) L (nI v)) (TD.th T) (nI (L + 1)) (TD.rows T) (TD.position T) (TD.reason T), mkMD (MD.st M) (MD.past M) (MD.aside M) (upd (MD.text M) L (nI v)) (MD.pasts M) (nI (L + 1)) (MD.spot M) (MD.itsThickness M) (MD.itsRows M) (MD.from_ M), rfl, rfl, hf, hh, ⟨L + 1, fun j => if j = L then v else c j, by omega, rfl, rfl, fun j hj => ?_⟩⟩
    show upd (TD.sg T) L (nI v) j = nI (if j = L then v else c j) ∧ upd (MD.text M) L (nI v) j = nI (if j = L then v else c j) ∧ 32 ≤ (if j = L then v else c j) ∧ (if j = L then v else c j) ≤ 126
    by_cases q : j = L
    · subst q
      rw [if_pos rfl]
      exact ⟨us, us, v1, v2⟩
    · rw [if_neg q, un q, un q]
      exact h3 j (by omega)
theorem clearR {k : Nat} {F : FD} {M : MD} {T : TD} {qz : Int32} {qS : Nat → FD} (h : RS F qz qS T M) :
    ∃ (r : Int32) (T' : TD) (M' : MD), p_X4_clearText k T = some (r, T') ∧ p_X5_clearText k M = some (r, M') ∧ RS F qz qS T' M' := by
  obtain ⟨hf, hh, ⟨L, c, hL, h1, h2, h3⟩⟩ := id h
  unfold p_X4_clearText p_X5_clearText
  rw [h1, h2]
  exact ⟨_, _, _, rfl, rfl, hf, hh, ⟨0, c, by omega, rfl, rfl, fun j hj => absurd hj (Nat.not_lt_zero j)⟩⟩
theorem parseR {k : Nat} {T : TD} {M : MD} (hk : 300 ≤ k) (h : RT T M) :
    ∃ (L : Nat) (c : Nat → Nat) (T' : TD) (r s i rr fr : Int32), L ≤ 100 ∧ sgs (MD.text M) L c ∧ MD.length M = nI L ∧ p_X1_parse k T = some T' ∧ p_X5_reasonOfText k M = some (r, sM M s i rr fr) ∧ TD.sg T' = TD.sg T ∧ TD.length T' = TD.length T ∧ TD.reason T' = r ∧ (¬ r = 0 → TD.position T' = fr) ∧ (r = 0 → RD k L 0 0 c (L + 1) T') := by
  obtain ⟨L, c, hL, h1, h2, h3⟩ := h
  have s1 : sgs (TD.sg T) L c := ⟨hL, fun j hj => ⟨(h3 j hj).1, (h3 j hj).2.2⟩⟩
  have s2 : sgs (MD.text M) L c := ⟨hL, fun j hj => ⟨(h3 j hj).2.1, (h3 j hj).2.2⟩⟩
  obtain ⟨T', r, s, i, rr, fr, b1, b2, b3, b4, b5, b6, b7⟩ := parseL (k := k) (L := L) (c := c) hk (L + 1) 0 0 k k (mkTD (TD.sg T) (TD.th T) (TD.length T) 0 (TD.position T) 0) (sM M 0 (MD.itsThickness M) (MD.itsRows M) 0) (Nat.zero_le L) (by omega) s1 h1 rfl (by decide) rfl ⟨s2, h2, rfl⟩ (by omega) (by omega)
  exact ⟨L, c, T', r, s, i, rr, fr, hL, s2, h2, b1, b2, b3, b4.trans h1.symm, b5, b6, fun w => (b7 w).2.2⟩
theorem faultR {k : Nat} {F : FD} {M : MD} {T : TD} {qz : Int32} {qS : Nat → FD} (hk : 300 ≤ k) (h : RS F qz qS T M) (x1 : Int32) :
    ∃ (r : Int32) (T' : TD) (M' : MD), p_X4_fault k T x1 = some (r, T') ∧ p_X5_fault k M x1 = some (r, M') ∧ RS F qz qS T' M' := by
  obtain ⟨hf, hh, ht⟩ := id h
  unfold p_X4_fault p_X5_fault
  rw [q_bet, q_in, Option.bind_some, Option.bind_some]
  by_cases c1 : bet x1 0 1 = 0
  · rw [if_pos c1, if_pos c1]
    exact ⟨_, _, _, rfl, rfl, h⟩
  rw [if_neg c1, if_neg c1]
  obtain ⟨L, c, T', r, s, i, rr, fr, hL, hs, hl, a1, a2, a3, a4, a5, a6, -⟩ := parseR hk ht
  have hS : RS F qz qS T' (sM M s i rr fr) := ⟨hf, hh, RT_cong ht a3 a4 rfl rfl⟩
  rw [a1, a2, Option.bind_some, b2, a5]
  by_cases c2 : r = 0
  · rw [if_pos c2, if_pos c2]
    exact ⟨_, _, _, rfl, rfl, hS⟩
  rw [if_neg c2, if_neg c2, a6 c2]
  by_cases c3 : x1 = 0
  · rw [if_pos c3, if_pos c3]
    exact ⟨_, _, _, rfl, rfl, hS⟩
  · rw [if_neg c3, if_neg c3]
    exact ⟨_, _, _, rfl, rfl, hS⟩
theorem readR {k : Nat} {F : FD} {M : MD} {T : TD} {qA : Nat → AF} {qz : Int32} {qS : Nat → FD} (hk : 300 ≤ k) (h : RS F qz qS T M) :
    ∃ (r : Int32) (F' : FD) (A' : Nat → AF) (z' : Int32) (S' : Nat → FD) (T' : TD) (M' : MD), p_X4_read k F qA qz qS T = some (r, F', A', z', S', T') ∧ p_X5_read k M = some (r, M') ∧ RS F' z' S' T' M' := by
  obtain ⟨⟨n, t, u, hf⟩, hh, ht⟩ := id h
  obtain ⟨L, c, T', r, s, i, rr, fr, hL, hs, hl, a1, a2, a3, a4, a5, a6, a7⟩ := parseR hk ht
  unfold p_X4_read p_X5_read
  rw [a1, a2, Option.bind_some, b2, a5]
  by_cases c2 : r = 0
  · rw [if_pos c2, if_pos c2]
    obtain ⟨A', z', S', g, z, e1, e2, hh'⟩ := keepR (M := sM M s i rr fr) (qA := qA) hk hf hh
    obtain ⟨F1, m1, e3, e4, h1⟩ := awayR (k := k) (M := wpp (sM M s i rr fr) g z) (by omega) hf
    obtain ⟨F2, m2, n2, t2, s2, i2, rr2, e5, e6, h2⟩ := a7 c2 A' z' S' u F1 (sM (wst (wpp (sM M s i rr fr) g z) m1) 0 i rr fr) t k k ⟨hs, hl, rfl⟩ h1 (by omega) (by omega)
    rw [e1, b3, e2, Option.bind_some, e3, Option.bind_some, e4, Option.bind_some]
    exact ⟨FD.rows F2, F2, A', z', S', T', _, e5, e6, ⟨n2, t2, u, h2⟩, hh', RT_cong ht a3 a4 rfl rfl⟩
  · rw [if_neg c2, if_neg c2]
    exact ⟨_, _, _, _, _, _, _, rfl, rfl, ⟨n, t, u, hf⟩, hh, RT_cong ht a3 a4 rfl rfl⟩
