/-! PURE PART: what changes the film. -/
theorem b3 {α β γ δ : Type} {a : α} {b : β} {c : γ} {f : α → β → γ → Option δ} : bind3 (some (a, b, c)) f = f a b c := rfl
theorem b2 {α β γ : Type} {a : α} {b : β} {f : α → β → Option γ} : bind2 (some (a, b)) f = f a b := rfl
theorem setRF {n : Nat} {u t : Nat → Nat} {F : FD} {m : Nat → Int32} (h : RF F m n t u) {c v : Nat} (hc : c < 7) (hv : v ≤ 100000) (h0 : c = 0 → v ≤ 100) :
    RF (mkFD (FD.th F) (upd (FD.st F) c (nI v)) (FD.ac F) (FD.rows F) (FD.ticks F) (FD.drops F) (FD.bursts F) (FD.burstReason F) (FD.burstNumber F) (FD.ticksBeforeBurst F)) (upd m (13 + c) (nI v)) n t (tu u c v) := by
  obtain ⟨hn, hrows, hth, hst, hu0, ⟨m0, m1, m2, m3, m4, m5, m6, m7, m8, m9, m10, m11, m12⟩, hac⟩ := id h
  refine ⟨hn, hrows, fun j hj => ?_, fun j hj => ?_, ?_, ⟨?_, ?_, ?_, ?_, ?_, ?_, ?_, ?_, ?_, ?_, ?_, ?_, ?_⟩, hac⟩
  · rw [un (by omega)]
    exact hth j hj
  · by_cases hjc : j = c
    · subst hjc
      rw [tu_s]
      exact ⟨us, us, hv⟩
    · rw [tu_n hjc, un (by omega)]
      obtain ⟨g1, g2, g3⟩ := hst j hj
      exact ⟨(un hjc).trans g1, g2, g3⟩
  · by_cases q : c = 0
    · subst q
      rw [tu_s]
      exact h0 rfl
    · rw [tu_n (fun w => q w.symm)]
      exact hu0
  · rw [un (by omega), m0]
  · rw [un (by omega), m1]; rfl
  · rw [un (by omega), m2]; rfl
  · rw [un (by omega), m3]; rfl
  · rw [un (by omega), m4]; rfl
  · rw [un (by omega), m5]; rfl
  · rw [un (by omega), m6]; rfl
  · rw [un (by omega), m7]; rfl
  · rw [un (by omega), m8]; rfl
  · rw [un (by omega), m9]; rfl
  · rw [un (by omega), m10]; rfl
  · rw [un (by omega), m11]; rfl
  · rw [un (by omega), m12]; rfl
theorem setJ {k c a b : Nat} {F : FD} {M : MD} {T : TD} {qA : Nat → AF} {qz : Int32} {qS : Nat → FD} (hk : 300 ≤ k) (h : RS F qz qS T M) (x2 : Int32) (hc : c < 7) (ea : tb_LEAST_SETTING c = nI a) (eb : tb_GREATEST_SETTING c = nI b) (hab : a ≤ b) (hb : b ≤ 100000) (h0 : c = 0 → b ≤ 100) (eq : p_X5_canBe k (nI c) x2 = some (bet x2 (nI a) (nI b))) :
    ∃ (r : Int32) (F' : FD) (A' : Nat → AF) (z' : Int32) (S' : Nat → FD) (M' : MD), p_X4_set k F qA qz qS (nI c) x2 = some (r, F', A', z', S') ∧ p_X5_set k M (nI c) x2 = some (r, M') ∧ RS F' z' S' T M' := by
  obtain ⟨⟨n, t, u, hf⟩, hh, ht⟩ := id h
  unfold p_X4_set p_X5_set
  rw [if_neg (nI_pos (by omega)), if_pos (show nI c < 7 from nI_lt (b := 7) hc (by decide)), ald_at c rfl hc (by decide), Option.bind_some, ald_at c rfl hc (by decide), Option.bind_some, ea, eb, q_bet, Option.bind_some, eq, Option.bind_some]
  by_cases d : bet x2 (nI a) (nI b) = 0
  · rw [if_pos d, if_pos d]
    exact ⟨_, _, _, _, _, _, rfl, rfl, h⟩
  · rw [if_neg d, if_neg d]
    obtain ⟨v, h1, h2, rfl⟩ := bet_n (by omega) hab d
    obtain ⟨A', z', S', g, z, e1, e2, hh'⟩ := keepR (qA := qA) hk hf hh
    obtain ⟨g1, g2, g3⟩ := hf.2.2.2.1 c hc
    rw [e1, e2, Option.bind_some, q_ofN hc, Option.bind_some, show ast (MD.st (wpp M g z)) 44 (13 + nI c) (nI v) = some (upd (MD.st M) (13 + c) (nI v)) from ast_at (13 + c) (n13 c) (by omega) (by decide), Option.bind_some]
    refine ⟨FD.st F c, mkFD (FD.th F) (upd (FD.st F) c (nI v)) (FD.ac F) (FD.rows F) (FD.ticks F) (FD.drops F) (FD.bursts F) (FD.burstReason F) (FD.burstNumber F) (FD.ticksBeforeBurst F), A', z', S', wst (wpp M g z) (upd (MD.st M) (13 + c) (nI v)), ?_, ?_, ⟨n, t, tu u c v, setRF hf hc (by omega) (fun q => Nat.le_trans h2 (h0 q))⟩, hh', ht⟩
    · show (ald (FD.st F) 7 (nI c)).bind _ = _
      rw [ald_at c rfl hc (by decide), Option.bind_some, ast_at c rfl hc (by decide), Option.bind_some]
    · show some (MD.st M (13 + c), wst (wpp M g z) (upd (MD.st M) (13 + c) (nI v))) = _
      rw [g1, g2]
theorem setR {k : Nat} {F : FD} {M : MD} {T : TD} {qA : Nat → AF} {qz : Int32} {qS : Nat → FD} (hk : 300 ≤ k) (h : RS F qz qS T M) (x1 x2 : Int32) :
    ∃ (r : Int32) (F' : FD) (A' : Nat → AF) (z' : Int32) (S' : Nat → FD) (M' : MD), p_X4_set k F qA qz qS x1 x2 = some (r, F', A', z', S') ∧ p_X5_set k M x1 x2 = some (r, M') ∧ RS F' z' S' T M' := by
  have out : (∀ j : Nat, j < 7 → ¬ x1 = nI j) → p_X5_set k M x1 x2 = some (-1, M) := by
    intro g
    unfold p_X5_set p_X5_canBe
    rw [if_neg (show ¬ x1 = 0 from g 0 (by decide)), if_neg (show ¬ x1 = 1 from g 1 (by decide)), if_neg (show ¬ x1 = 2 from g 2 (by decide)), if_neg (show ¬ x1 = 3 from g 3 (by decide)), if_neg (show ¬ x1 = 4 from g 4 (by decide)), if_neg (show ¬ x1 = 5 from g 5 (by decide)), if_neg (show ¬ x1 = 6 from g 6 (by decide))]
    rfl
  rcases pk_ix x1 (show 7 < 2 ^ 31 by decide) with hx | hx | ⟨c, hc, rfl⟩
  · refine ⟨-1, F, qA, qz, qS, M, ?_, out (fun j hj w => ?_), h⟩
    · unfold p_X4_set
      rw [if_pos hx]
    · rw [w] at hx
      exact nI_pos (by omega) hx
  · refine ⟨-1, F, qA, qz, qS, M, ?_, out (fun j hj w => ?_), h⟩
    · unfold p_X4_set
      have h0 : ¬ x1 < 0 := fun q => absurd (Int32.lt_of_le_of_lt hx q) (by decide)
      rw [if_neg h0, if_neg (show ¬ x1 < 7 from Int32.not_lt.mpr hx)]
    · rw [w] at hx
      exact nI_ge hj (by decide) hx
  · have : c = 0 ∨ c = 1 ∨ c = 2 ∨ c = 3 ∨ c = 4 ∨ c = 5 ∨ c = 6 := by omega
    rcases this with rfl | rfl | rfl | rfl | rfl | rfl | rfl
    · exact setJ (a := 0) (b := 100) hk h x2 (by decide) rfl rfl (by decide) (by decide) (fun _ => by decide) (show (p_X5_in k x2 0 100).bind some = _ by rw [q_in]; rfl)
    · exact setJ (a := 0) (b := 50) hk h x2 (by decide) rfl rfl (by decide) (by decide) (fun q => absurd q (by decide)) (show (p_X5_in k x2 0 50).bind some = _ by rw [q_in]; rfl)
    · exact setJ (a := 0) (b := 500) hk h x2 (by decide) rfl rfl (by decide) (by decide) (fun q => absurd q (by decide)) (show (p_X5_in k x2 0 500).bind some = _ by rw [q_in]; rfl)
    · exact setJ (a := 1) (b := 200) hk h x2 (by decide) rfl rfl (by decide) (by decide) (fun q => absurd q (by decide)) (show (p_X5_in k x2 1 200).bind some = _ by rw [q_in]; rfl)
    · exact setJ (a := 0) (b := 100) hk h x2 (by decide) rfl rfl (by decide) (by decide) (fun q => absurd q (by decide)) (show (p_X5_in k x2 0 100).bind some = _ by rw [q_in]; rfl)
    · exact setJ (a := 1) (b := 24) hk h x2 (by decide) rfl rfl (by decide) (by decide) (fun q => absurd q (by decide)) (show (p_X5_in k x2 1 24).bind some = _ by rw [q_in]; rfl)
    · refine setJ (a := 1) (b := 100000) hk h x2 (by decide) rfl rfl (by decide) (by decide) (fun q => absurd q (by decide)) ?_
      show (p_X5_in k x2 1 100000).bind (fun v => if v = 0 then some 0 else some 1) = some (bet x2 1 100000)
      rw [q_in, Option.bind_some]
      unfold bet
      split
      · rfl
      · split <;> rfl
theorem dipL {k : Nat} {qA : Nat → AF} {qz : Int32} {qS : Nat → FD} {a b c : Nat} {u : Nat → Nat} (hk : 100 ≤ k) (ha : a ≤ 24) (hx : b + c * (a - 1) ≤ 5000) : ∀ (d i f g : Nat) (F : FD) (M : MD) (t : Nat → Nat), RF F (MD.st M) i t u → i + d = a → d < f → d < g →
    ∃ (r : Int32) (F' : FD) (m' : Nat → Int32) (n' : Nat) (t' : Nat → Nat), p_X4_dip_L66 k qA qz qS (nI a) (nI b) (nI c) f F (nI i) = some (r, F', qA, qz, qS) ∧ p_X5_dip_L58 k (nI a) (nI b) (nI c) g M (nI i) = some (r, wst M m') ∧ RF F' m' n' t' u
  | 0, i, f, g, F, M, t, h, hd, hf, hg => by
    obtain ⟨f, rfl⟩ : ∃ f', f = f' + 1 := ⟨f - 1, by omega⟩
    obtain ⟨g, rfl⟩ : ∃ g', g = g' + 1 := ⟨g - 1, by omega⟩
    have hi : i = a := by omega
    subst hi
    obtain ⟨hn, hrows, hth, hst, hu0, ⟨m0, -⟩, hac⟩ := id h
    refine ⟨nI (sumN t i), F, MD.st M, i, t, ?_, ?_, h⟩
    · rw [p_X4_dip_L66, if_pos (Int32.le_refl (nI i)), a7_1, Option.bind_some, hac]
    · rw [p_X5_dip_L58, if_pos (Int32.le_refl (nI i)), q_liq hk hn m0 (fun j hj => (hth j hj).2.1)]
      rfl
  | d + 1, i, f, g, F, M, t, h, hd, hf, hg => by
    obtain ⟨f, rfl⟩ : ∃ f', f = f' + 1 := ⟨f - 1, by omega⟩
    obtain ⟨g, rfl⟩ : ∃ g', g = g' + 1 := ⟨g - 1, by omega⟩
    have hci : c * i ≤ c * (a - 1) := Nat.mul_le_mul_left c (by omega)
    obtain ⟨F1, m1, e1, e2, h1⟩ := appendR (k := k) (x := b + c * i) h (by omega) (by omega)
    obtain ⟨r, F2, m2, n2, t2, e3, e4, h2⟩ := dipL (qA := qA) (qz := qz) (qS := qS) (b := b) hk ha hx d (i + 1) f g F1 (wst M m1) _ h1 (by omega) (by omega) (by omega)
    refine ⟨r, F2, m2, n2, t2, ?_, ?_, h2⟩
    · rw [p_X4_dip_L66, if_neg (nI_ge (by omega) (by omega)), pk_mul, nI_add, e1, Option.bind_some, nI_1]
      exact e3
    · rw [p_X5_dip_L58, if_neg (nI_ge (by omega) (by omega)), pk_mul, nI_add, Nat.mul_comm i c, e2, Option.bind_some, nI_1]
      exact e4
theorem dipR {k : Nat} {F : FD} {M : MD} {T : TD} {qA : Nat → AF} {qz : Int32} {qS : Nat → FD} (hk : 300 ≤ k) (h : RS F qz qS T M) (x1 x2 x3 : Int32) :
    ∃ (r : Int32) (F' : FD) (A' : Nat → AF) (z' : Int32) (S' : Nat → FD) (M' : MD), p_X4_dip k F qA qz qS x1 x2 x3 = some (r, F', A', z', S') ∧ p_X5_dip k M x1 x2 x3 = some (r, M') ∧ RS F' z' S' T M' := by
  obtain ⟨⟨n, t, u, hf⟩, hh, ht⟩ := id h
  unfold p_X4_dip p_X5_dip
  rw [q_bet, q_in, Option.bind_some, Option.bind_some]
  by_cases c1 : bet x1 1 24 = 0
  · rw [if_pos c1, if_pos c1]
    exact ⟨_, _, _, _, _, _, rfl, rfl, h⟩
  rw [if_neg c1, if_neg c1, q_isT, q_in, Option.bind_some, Option.bind_some]
  by_cases c2 : bet x2 0 5000 = 0
  · rw [if_pos c2, if_pos c2]
    exact ⟨_, _, _, _, _, _, rfl, rfl, h⟩
  rw [if_neg c2, if_neg c2, q_bet, q_in, Option.bind_some, Option.bind_some]
  by_cases c3 : bet x3 0 500 = 0
  · rw [if_pos c3, if_pos c3]
    exact ⟨_, _, _, _, _, _, rfl, rfl, h⟩
  rw [if_neg c3, if_neg c3]
  obtain ⟨a, a1, a2, rfl⟩ := bet_n (a := 1) (b := 24) (by decide) (by decide) c1
  obtain ⟨b, -, b2, rfl⟩ := bet_n (a := 0) (b := 5000) (by decide) (by decide) c2
  obtain ⟨c, -, c4, rfl⟩ := bet_n (a := 0) (b := 500) (by decide) (by decide) c3
  obtain ⟨a, rfl⟩ : ∃ q, a = q + 1 := ⟨a - 1, by omega⟩
  have hca : c * a ≤ 500 * 23 := Nat.mul_le_mul c4 (by omega)
  rw [nI_pred, pk_mul, nI_add, q_isT, Option.bind_some, pk_mul, nI_add, Nat.mul_comm a c]
  by_cases d : b + c * a ≤ 5000
  · rw [if_neg (show ¬ bet (nI (b + c * a)) 0 5000 = 0 from bet_y (a := 0) (b := 5000) (by decide) (Nat.zero_le _) d), if_pos (show nI (b + c * a) ≤ 5000 from nI_le (b := 5000) d (by decide))]
    obtain ⟨A', z', S', g, z, e1, e2, hh'⟩ := keepR (qA := qA) hk hf hh
    obtain ⟨F1, m1, e3, e4, h1⟩ := awayR (k := k) (M := wpp M g z) (by omega) hf
    obtain ⟨r, F2, m2, n2, t2, e5, e6, h2⟩ := dipL (k := k) (qA := A') (qz := z') (qS := S') (a := a + 1) (b := b) (c := c) (by omega) a2 d (a + 1) 0 k k F1 (wst (wpp M g z) m1) t h1 (by omega) (by omega) (by omega)
    rw [e1, e2, Option.bind_some]
    refine ⟨r, F2, A', z', S', wst (wpp M g z) m2, ?_, ?_, ⟨n2, t2, u, h2⟩, hh', ht⟩
    · rw [b3, e3, Option.bind_some]
      exact e5
    · rw [e4, Option.bind_some]
      exact e6
  · have hb : bet (nI (b + c * a)) 0 5000 = 0 := bet_no (Or.inr (nI_lt (a := 5000) (by omega) (by omega)))
    rw [if_pos hb, if_neg (show ¬ nI (b + c * a) ≤ 5000 from nI_ge (a := 5000) (by omega) (by omega))]
    exact ⟨_, _, _, _, _, _, rfl, rfl, h⟩
theorem pourRF {n : Nat} {u t : Nat → Nat} {F : FD} {m : Nat → Int32} (h : RF F m n t u) {r v : Nat} (hr : r < n) (hv : t r + v ≤ 5000) :
    RF (mkFD (upd (FD.th F) r (nI (t r + v))) (FD.st F) (upd (upd (FD.ac F) 0 (FD.ac F 0 + nI v)) 1 (FD.ac F 1 + nI v)) (FD.rows F) (FD.ticks F) (FD.drops F) (FD.bursts F) (FD.burstReason F) (FD.burstNumber F) (FD.ticksBeforeBurst F)) (upd (upd m (20 + r) (nI (t r + v))) 3 (m 3 + nI v)) n (tu t r (t r + v)) u := by
  obtain ⟨hn, hrows, hth, hst, hu0, ⟨m0, m1, m2, m3, m4, m5, m6, m7, m8, m9, m10, m11, m12⟩, hac⟩ := id h
  have hs := sum_tu (t := t) (r := r) (v := t r + v) n hr
  refine ⟨hn, hrows, fun j hj => ?_, fun j hj => ?_, hu0, ⟨?_, ?_, ?_, ?_, ?_, ?_, ?_, ?_, ?_, ?_, ?_, ?_, ?_⟩, ?_⟩
  · by_cases hjr : j = r
    · subst hjr
      rw [tu_s]
      exact ⟨us, (un (by omega)).trans us, by omega⟩
    · rw [tu_n hjr, un (by omega), un (by omega)]
      obtain ⟨g1, g2, g3⟩ := hth j hj
      exact ⟨(un hjr).trans g1, g2, g3⟩
  · rw [un (by omega), un (by omega)]
    exact hst j hj
  · rw [un (by omega), un (by omega), m0]
  · rw [un (by omega), un (by omega), m1]; rfl
  · rw [un (by omega), un (by omega), m2]; rfl
  · rw [us, m3]; rfl
  · rw [un (by omega), un (by omega), m4]; rfl
  · rw [un (by omega), un (by omega), m5]; rfl
  · rw [un (by omega), un (by omega), m6]; rfl
  · rw [un (by omega), un (by omega), m7]; rfl
  · rw [un (by omega), un (by omega), m8]; rfl
  · rw [un (by omega), un (by omega), m9]; rfl
  · rw [un (by omega), un (by omega), m10]; rfl
  · rw [un (by omega), un (by omega), m11]; rfl
  · rw [un (by omega), un (by omega), m12]; rfl
  · show FD.ac F 1 + nI v = _
    rw [hac, nI_add]
    congr 1
    omega
theorem pourR {k : Nat} {F : FD} {M : MD} {T : TD} {qA : Nat → AF} {qz : Int32} {qS : Nat → FD} (hk : 300 ≤ k) (h : RS F qz qS T M) (x1 x2 : Int32) :
    ∃ (r : Int32) (F' : FD) (A' : Nat → AF) (z' : Int32) (S' : Nat → FD) (M' : MD), p_X4_pour k F qA qz qS x1 x2 = some (r, F', A', z', S') ∧ p_X5_pour k M x1 x2 = some (r, M') ∧ RS F' z' S' T M' := by
  obtain ⟨⟨n, t, u, hf⟩, hh, ht⟩ := id h
  unfold p_X4_pour p_X5_pour
  rcases q_rowIs (k := k) hf x1 with ⟨e1, e2⟩ | ⟨r, hr, rfl, e1, e2⟩
  · rw [e1, e2]
    exact ⟨_, _, _, _, _, _, rfl, rfl, h⟩
  rw [e1, e2, Option.bind_some, Option.bind_some, if_neg (show ¬ (1 : Int32) = 0 by decide), if_neg (show ¬ (1 : Int32) = 0 by decide), q_bet, q_in, Option.bind_some, Option.bind_some]
  by_cases c2 : bet x2 1 5000 = 0
  · rw [if_pos c2, if_pos c2]
    exact ⟨_, _, _, _, _, _, rfl, rfl, h⟩
  rw [if_neg c2, if_neg c2]
  obtain ⟨v, v1, v2, rfl⟩ := bet_n (a := 1) (b := 5000) (by decide) (by decide) c2
  obtain ⟨hn, hrows, hth, hst, hu0, ⟨m0, m1, m2, m3, -⟩, hac⟩ := id hf
  obtain ⟨r1, r2, r3⟩ := hth r hr
  have hr24 : r < 24 := by omega
  rw [a24 _ hr24, Option.bind_some, r1, nI_add, q_isT, Option.bind_some, a20 _ hr24, Option.bind_some, r2, nI_add]
  by_cases d : t r + v ≤ 5000
  · rw [if_neg (show ¬ bet (nI (t r + v)) 0 5000 = 0 from bet_y (a := 0) (b := 5000) (by decide) (Nat.zero_le _) d), if_pos (show nI (t r + v) ≤ 5000 from nI_le (b := 5000) d (by decide))]
    obtain ⟨A', z', S', g, z, e3, e4, hh'⟩ := keepR (qA := qA) hk hf hh
    rw [e3, e4, Option.bind_some]
    refine ⟨nI (t r + v), mkFD (upd (FD.th F) r (nI (t r + v))) (FD.st F) (upd (upd (FD.ac F) 0 (FD.ac F 0 + nI v)) 1 (FD.ac F 1 + nI v)) (FD.rows F) (FD.ticks F) (FD.drops F) (FD.bursts F) (FD.burstReason F) (FD.burstNumber F) (FD.ticksBeforeBurst F), A', z', S', wst (wpp M g z) (upd (upd (MD.st M) (20 + r) (nI (t r + v))) 3 (MD.st M 3 + nI v)), ?_, ?_, ⟨n, tu t r (t r + v), u, pourRF hf hr d⟩, hh', ht⟩
    · rw [b3, Option.bind_some, nI_add, s24 _ _ hr24, Option.bind_some]
      unfold p_X0_bring
      show Option.bind (Option.bind (ald (FD.ac F) 7 0) _) _ = _
      rw [a7_0, Option.bind_some, show FD.ac (mkFD (upd (FD.th F) r (nI (t r + v))) (FD.st F) (FD.ac F) (FD.rows F) (FD.ticks F) (FD.drops F) (FD.bursts F) (FD.burstReason F) (FD.burstNumber F) (FD.ticksBeforeBurst F)) = FD.ac F from rfl, s7_0, Option.bind_some, a7_1, Option.bind_some, s7_1, Option.bind_some, Option.bind_some]
      show (ald (upd (FD.th F) r (nI (t r + v))) 24 (nI r)).bind _ = _
      rw [a24 _ hr24, Option.bind_some, us]
      rfl
    · show (ald (MD.st M) 44 (20 + nI r)).bind _ = _
      rw [a20 _ hr24, Option.bind_some, r2, nI_add, show ast (MD.st (wpp M g z)) 44 (20 + nI r) (nI (t r + v)) = some (upd (MD.st M) (20 + r) (nI (t r + v))) from s20 _ _ hr24, Option.bind_some, a44_3, Option.bind_some, un (by omega), s44_3, Option.bind_some, a20 _ hr24, Option.bind_some, un (by omega), us]
      rfl
  · have hb : bet (nI (t r + v)) 0 5000 = 0 := bet_no (Or.inr (nI_lt (a := 5000) (by omega) (by omega)))
    rw [if_pos hb, if_neg (show ¬ nI (t r + v) ≤ 5000 from nI_ge (a := 5000) (by omega) (by omega))]
    exact ⟨_, _, _, _, _, _, rfl, rfl, h⟩
theorem addR {k : Nat} {F : FD} {M : MD} {T : TD} {qA : Nat → AF} {qz : Int32} {qS : Nat → FD} (hk : 300 ≤ k) (h : RS F qz qS T M) (x1 : Int32) :
    ∃ (r : Int32) (F' : FD) (A' : Nat → AF) (z' : Int32) (S' : Nat → FD) (M' : MD), p_X4_add k F qA qz qS x1 = some (r, F', A', z', S') ∧ p_X5_add k M x1 = some (r, M') ∧ RS F' z' S' T M' := by
  obtain ⟨⟨n, t, u, hf⟩, hh, ht⟩ := id h
  obtain ⟨hn, hrows, hth, hst, hu0, ⟨m0, -⟩, hac⟩ := id hf
  unfold p_X4_add p_X5_add
  rw [q_isT, q_in, Option.bind_some, Option.bind_some]
  by_cases c2 : bet x1 0 5000 = 0
  · rw [if_pos c2, if_pos c2]
    exact ⟨_, _, _, _, _, _, rfl, rfl, h⟩
  rw [if_neg c2, if_neg c2, a44_0, Option.bind_some, m0, Option.bind_some]
  by_cases c0 : n = 0
  · subst c0
    rw [if_pos (show FD.rows F = 0 from hrows), if_pos (show nI 0 = 0 from rfl)]
    exact ⟨_, _, _, _, _, _, rfl, rfl, h⟩
  by_cases c24 : n = 24
  · subst c24
    rw [if_neg (show ¬ FD.rows F = 0 by rw [hrows]; decide), if_neg (show ¬ nI 24 = 0 by decide), if_pos (show FD.rows F = 24 from hrows), if_pos (show nI 24 = 24 from rfl)]
    exact ⟨_, _, _, _, _, _, rfl, rfl, h⟩
  have g0 : ¬ nI n = 0 := nI_ne0 (by omega) (by omega)
  have g24 : ¬ nI n = 24 := fun w => c24 ((nI_eq (b := 24) (by omega) (by decide)).mp w)
  rw [hrows, if_neg g0, if_neg g0, if_neg g24, if_neg g24]
  obtain ⟨v, -, v2, rfl⟩ := bet_n (a := 0) (b := 5000) (by decide) (by decide) c2
  obtain ⟨A', z', S', g, z, e1, e2, hh'⟩ := keepR (qA := qA) hk hf hh
  obtain ⟨F1, m1, e3, e4, h1⟩ := appendR (k := k) (x := v) (M := wpp M g z) hf (by omega) v2
  rw [e1, e2, Option.bind_some, e4, Option.bind_some]
  refine ⟨nI (n + 1), F1, A', z', S', wst (wpp M g z) m1, ?_, ?_, ⟨n + 1, _, u, h1⟩, hh', ht⟩
  · rw [b3, e3, Option.bind_some, h1.2.1]
  · show (ald m1 44 0).bind _ = _
    rw [a44_0, Option.bind_some, h1.2.2.2.2.2.1.1]
theorem thinR {k : Nat} {F : FD} {M : MD} {T : TD} {qA : Nat → AF} {qz : Int32} {qS : Nat → FD} (hk : 300 ≤ k) (h : RS F qz qS T M) (x1 x2 : Int32) :
    ∃ (r : Int32) (F' : FD) (A' : Nat → AF) (z' : Int32) (S' : Nat → FD) (M' : MD), p_X4_thin k F qA qz qS x1 x2 = some (r, F', A', z', S') ∧ p_X5_thin k M x1 x2 = some (r, M') ∧ RS F' z' S' T M' := by
  obtain ⟨⟨n, t, u, hf⟩, hh, ht⟩ := id h
  unfold p_X4_thin p_X5_thin
  rcases q_rowIs (k := k) hf x1 with ⟨e1, e2⟩ | ⟨r, hr, rfl, e1, e2⟩
  · rw [e1, e2]
    exact ⟨_, _, _, _, _, _, rfl, rfl, h⟩
  rw [e1, e2, Option.bind_some, Option.bind_some, if_neg (show ¬ (1 : Int32) = 0 by decide), if_neg (show ¬ (1 : Int32) = 0 by decide), q_bet, q_in, Option.bind_some, Option.bind_some]
  by_cases c2 : bet x2 1 5000 = 0
  · rw [if_pos c2, if_pos c2]
    exact ⟨_, _, _, _, _, _, rfl, rfl, h⟩
  rw [if_neg c2, if_neg c2]
  obtain ⟨v, v1, v2, rfl⟩ := bet_n (a := 1) (b := 5000) (by decide) (by decide) c2
  obtain ⟨hn, hrows, hth, hst, hu0, ⟨m0, m1, m2, m3, -⟩, hac⟩ := id hf
  obtain ⟨r1, r2, r3⟩ := hth r hr
  have hr24 : r < 24 := by omega
  have hmin : min v (t r) ≤ t r := Nat.min_le_right v (t r)
  obtain ⟨A', z', S', g, z, e3, e4, hh'⟩ := keepR (qA := qA) hk hf hh
  rw [e3, e4, Option.bind_some]
  refine ⟨nI (min v (t r)), _, A', z', S', wst (wpp M g z) (upd (upd (MD.st M) (20 + r) (nI (t r - min v (t r)))) 7 (MD.st M 7 + nI (min v (t r)))), ?_, ?_, ⟨n, _, u, loseR hf hr hmin⟩, hh', ht⟩
  · rw [b3, show (6 : Int32) = nI 6 from rfl, q_lose hr24 (by omega) (by omega) r1 (by decide) (by decide)]
    rfl
  · show (ald (MD.st M) 44 (20 + nI r)).bind _ = _
    rw [a20 _ hr24, Option.bind_some, r2, q_lesser (by omega) (by omega), Option.bind_some, show ald (MD.st (wpp M g z)) 44 (20 + nI r) = some (nI (t r)) from (a20 _ hr24).trans (congrArg some r2), Option.bind_some, pk_sub hmin, show ast (MD.st (wpp M g z)) 44 (20 + nI r) (nI (t r - min v (t r))) = some (upd (MD.st M) (20 + r) (nI (t r - min v (t r)))) from s20 _ _ hr24, Option.bind_some, a44_7, Option.bind_some, un (by omega), s44_7, Option.bind_some]
    rfl
theorem cutRF {n : Nat} {u t : Nat → Nat} {F : FD} {m : Nat → Int32} (h : RF F m (n + 1) t u) (x : Int32) :
    RF (mkFD (upd (FD.th F) n x) (FD.st F) (upd (upd (FD.ac F) 1 (FD.ac F 1 - nI (t n))) 6 (FD.ac F 6 + nI (t n))) (FD.rows F - 1) (FD.ticks F) (FD.drops F) (FD.bursts F) (FD.burstReason F) (FD.burstNumber F) (FD.ticksBeforeBurst F)) (upd (upd m 0 (nI n)) 7 (m 7 + nI (t n))) n t u := by
  obtain ⟨hn, hrows, hth, hst, hu0, ⟨m0, m1, m2, m3, m4, m5, m6, m7, m8, m9, m10, m11, m12⟩, hac⟩ := id h
  refine ⟨by omega, ?_, fun j hj => ?_, fun j hj => ?_, hu0, ⟨?_, ?_, ?_, ?_, ?_, ?_, ?_, ?_, ?_, ?_, ?_, ?_, ?_⟩, ?_⟩
  · show FD.rows F - 1 = _
    rw [hrows, nI_pred]
  · rw [un (by omega), un (by omega)]
    obtain ⟨g1, g2, g3⟩ := hth j (by omega)
    exact ⟨(un (by omega)).trans g1, g2, g3⟩
  · rw [un (by omega), un (by omega)]
    exact hst j hj
  · rw [un (by omega), us]
  · rw [un (by omega), un (by omega), m1]; rfl
  · rw [un (by omega), un (by omega), m2]; rfl
  · rw [un (by omega), un (by omega), m3]; rfl
  · rw [un (by omega), un (by omega), m4]; rfl
  · rw [un (by omega), un (by omega), m5]; rfl
  · rw [un (by omega), un (by omega), m6]; rfl
  · rw [us, m7]; rfl
  · rw [un (by omega), un (by omega), m8]; rfl
  · rw [un (by omega), un (by omega), m9]; rfl
  · rw [un (by omega), un (by omega), m10]; rfl
  · rw [un (by omega), un (by omega), m11]; rfl
  · rw [un (by omega), un (by omega), m12]; rfl
  · show FD.ac F 1 - nI (t n) = _
    rw [hac]
    exact nI_subE rfl
theorem cutR {k : Nat} {F : FD} {M : MD} {T : TD} {qA : Nat → AF} {qz : Int32} {qS : Nat → FD} (hk : 300 ≤ k) (h : RS F qz qS T M) :
    ∃ (r : Int32) (F' : FD) (A' : Nat → AF) (z' : Int32) (S' : Nat → FD) (M' : MD), p_X4_cut k F qA qz qS = some (r, F', A', z', S') ∧ p_X5_cut k M = some (r, M') ∧ RS F' z' S' T M' := by
  obtain ⟨⟨n, t, u, hf⟩, hh, ht⟩ := id h
  obtain ⟨hn, hrows, hth, hst, hu0, ⟨m0, m1, m2, m3, -⟩, hac⟩ := id hf
  unfold p_X4_cut p_X5_cut
  rw [hrows, a44_0, Option.bind_some, m0]
  by_cases d : 2 ≤ n
  · obtain ⟨n, rfl⟩ : ∃ q, n = q + 1 := ⟨n - 1, by omega⟩
    have d' : (2 : Int32) ≤ nI (n + 1) := nI_le (a := 2) d (by omega)
    rw [if_pos d', if_pos d', nI_pred]
    obtain ⟨r1, r2, r3⟩ := hth n (by omega)
    have hr24 : n < 24 := by omega
    have hmin : min 5000 (t n) = t n := Nat.min_eq_right r3
    obtain ⟨A', z', S', g, z, e3, e4, hh'⟩ := keepR (qA := qA) hk hf hh
    rw [e3, e4, Option.bind_some, b3]
    refine ⟨nI (t n), _, A', z', S', wst (wpp M g z) (upd (upd (MD.st M) 0 (nI n)) 7 (MD.st M 7 + nI (t n))), ?_, ?_, ⟨n, t, u, cutRF hf (nI (t n - t n))⟩, hh', ht⟩
    · show bind2 (p_X0_loseFrom k F (nI n) 5000 6) _ = _
      have e := q_lose (k := k) (F := F) (r := n) (a := 5000) (v := t n) (c := 6) hr24 (by decide) (by omega) r1 (by decide) (by decide)
      rw [hmin] at e
      rw [show p_X0_loseFrom k F (nI n) 5000 6 = _ from e]
      rfl
    · show (ald (MD.st M) 44 0).bind _ = _
      rw [a44_0, Option.bind_some, m0, nI_pred, show ast (MD.st (wpp M g z)) 44 0 (nI n) = some (upd (MD.st M) 0 (nI n)) from s44_0 _ _, Option.bind_some, a44_7, Option.bind_some, un (by omega), a44_0, Option.bind_some, us, a20 _ hr24, Option.bind_some, un (by omega), r2, s44_7, Option.bind_some, a44_0, Option.bind_some, un (by omega), us, a20 _ hr24, Option.bind_some, un (by omega), un (by omega), r2]
      rfl
  · have d' : ¬ (2 : Int32) ≤ nI n := nI_ge (b := 2) (by omega) (by decide)
    rw [if_neg d', if_neg d']
    exact ⟨_, _, _, _, _, _, rfl, rfl, h⟩
theorem goL {k : Nat} {qA : Nat → AF} {qz : Int32} {qS : Nat → FD} {a : Nat} {u : Nat → Nat} (hk : 100 ≤ k) (ha : a ≤ 1000) : ∀ (d i f g : Nat) (F : FD) (M : MD) (n : Nat) (t : Nat → Nat) (x : Int32), RF F (MD.st M) n t u → i + d = a → d < f → d < g →
    ∃ (r : Int32) (F' : FD) (m' : Nat → Int32) (n' : Nat) (t' : Nat → Nat), p_X4_go_L45 k qA qz qS (nI a) f F x (nI i) = some (r, F', qA, qz, qS) ∧ p_X5_go_L37 k (nI a) g M x (nI i) = some (r, wst M m') ∧ RF F' m' n' t' u
  | 0, i, f, g, F, M, n, t, x, h, hd, hf, hg => by
    obtain ⟨f, rfl⟩ : ∃ f', f = f' + 1 := ⟨f - 1, by omega⟩
    obtain ⟨g, rfl⟩ : ∃ g', g = g' + 1 := ⟨g - 1, by omega⟩
    have hi : i = a := by omega
    subst hi
    refine ⟨x, F, MD.st M, n, t, ?_, ?_, h⟩
    · rw [p_X4_go_L45, if_pos (Int32.le_refl (nI i))]
    · rw [p_X5_go_L37, if_pos (Int32.le_refl (nI i))]
      rfl
  | d + 1, i, f, g, F, M, n, t, x, h, hd, hf, hg => by
    obtain ⟨f, rfl⟩ : ∃ f', f = f' + 1 := ⟨f - 1, by omega⟩
    obtain ⟨g, rfl⟩ : ∃ g', g = g' + 1 := ⟨g - 1, by omega⟩
    have hn := h.1
    obtain ⟨F1, m1, n1, t1, e1, e2, h1, -⟩ := tickR (k := k) hk h
    rw [p_X4_go_L45, if_neg (nI_ge (by omega) (by omega)), p_X5_go_L37, if_neg (nI_ge (by omega) (by omega)), e1, Option.bind_some, Option.bind_some, e2, h.2.1]
    show ∃ (r : Int32) (F' : FD) (m' : Nat → Int32) (n' : Nat) (t' : Nat → Nat), _ ∧ (if (if n = 0 then (0 : Int32) else 1) = 0 then p_X5_go_L37 k (nI a) g (wst M m1) (x + 0) (nI i + 1) else p_X5_go_L37 k (nI a) g (wst M m1) (x + 1) (nI i + 1)) = some (r, wst M m') ∧ RF F' m' n' t' u
    rw [nI_1]
    by_cases c : n = 0
    · subst c
      rw [if_pos (show nI 0 ≤ 0 by decide), if_pos rfl, if_pos rfl, Int32.add_zero]
      obtain ⟨r, F2, m2, n2, t2, e3, e4, h2⟩ := goL (qA := qA) (qz := qz) (qS := qS) hk ha d (i + 1) f g F1 (wst M m1) n1 t1 x h1 (by omega) (by omega) (by omega)
      exact ⟨r, F2, m2, n2, t2, e3, e4, h2⟩
    · rw [if_neg (nI_nle (by omega) (by omega)), if_neg c, if_neg (show ¬ (1 : Int32) = 0 by decide)]
      obtain ⟨r, F2, m2, n2, t2, e3, e4, h2⟩ := goL (qA := qA) (qz := qz) (qS := qS) hk ha d (i + 1) f g F1 (wst M m1) n1 t1 (x + 1) h1 (by omega) (by omega) (by omega)
      exact ⟨r, F2, m2, n2, t2, e3, e4, h2⟩
theorem goR {k : Nat} {F : FD} {M : MD} {T : TD} {qA : Nat → AF} {qz : Int32} {qS : Nat → FD} (hk : 3000 ≤ k) (h : RS F qz qS T M) (x1 : Int32) :
    ∃ (r : Int32) (F' : FD) (A' : Nat → AF) (z' : Int32) (S' : Nat → FD) (M' : MD), p_X4_go k F qA qz qS x1 = some (r, F', A', z', S') ∧ p_X5_go k M x1 = some (r, M') ∧ RS F' z' S' T M' := by
  obtain ⟨⟨n, t, u, hf⟩, hh, ht⟩ := id h
  obtain ⟨hn, hrows, hth, hst, hu0, ⟨m0, m1, m2, m3, -⟩, hac⟩ := id hf
  unfold p_X4_go p_X5_go
  rw [q_bet, q_in, Option.bind_some, Option.bind_some]
  by_cases c1 : bet x1 1 1000 = 0
  · rw [if_pos c1, if_pos c1]
    exact ⟨_, _, _, _, _, _, rfl, rfl, h⟩
  rw [if_neg c1, if_neg c1, a44_1, Option.bind_some, m1]
  by_cases c2 : FD.ticks F + x1 ≤ 100000
  · rw [if_pos c2, if_pos c2]
    obtain ⟨a, a1, a2, rfl⟩ := bet_n (a := 1) (b := 1000) (by decide) (by decide) c1
    obtain ⟨A', z', S', g, z, e1, e2, hh'⟩ := keepR (k := k) (qA := qA) (by omega) hf hh
    obtain ⟨r, F2, m2, n2, t2, e5, e6, h2⟩ := goL (k := k) (qA := A') (qz := z') (qS := S') (by omega) a2 a 0 k k F (wpp M g z) n t 0 hf (by omega) (by omega) (by omega)
    rw [e1, e2, Option.bind_some]
    exact ⟨r, F2, A', z', S', wst (wpp M g z) m2, e5, e6, ⟨n2, t2, u, h2⟩, hh', ht⟩
  · rw [if_neg c2, if_neg c2]
    exact ⟨_, _, _, _, _, _, rfl, rfl, h⟩
