/-! p23, PURE: each change is a function of the film alone, and keep or not. -/
def app (k : Nat) (F : FD) (g : Option (Int32 × Option FD)) (A : Nat → AF) (z : Int32) (S : Nat → FD) : Option (Int32 × FD × (Nat → AF) × Int32 × (Nat → FD)) :=
  match g with
  | none => none
  | some (r, none) => some (r, F, A, z, S)
  | some (r, some F1) => bind3 (p_X2_keep k A z S F) fun A1 z1 S1 => some (r, F1, A1, z1, S1)
def Uni (k : Nat) (F : FD) (P : (Nat → AF) → Int32 → (Nat → FD) → Option (Int32 × FD × (Nat → AF) × Int32 × (Nat → FD))) : Prop :=
  ∃ g : Option (Int32 × Option FD), (∀ r, g = some (r, none) → r < 0) ∧ (∀ r F1, g = some (r, some F1) → (SM F → SM F1) ∧ ∀ m n t u, RF F m n t u → ∀ m' n' t' u', RF F1 m' n' t' u' → 0 ≤ r) ∧ ∀ A z S, P A z S = app k F g A z S
section UNI
variable {k : Nat} {F : FD} {P : (Nat → AF) → Int32 → (Nat → FD) → Option (Int32 × FD × (Nat → AF) × Int32 × (Nat → FD))}
theorem Uni.no (r : Int32) (hr : r < 0) (h : ∀ A z S, P A z S = some (r, F, A, z, S)) : Uni k F P :=
  ⟨some (r, none), fun r' e => by cases e; exact hr, fun r' F1 e => (by cases e), h⟩
theorem Uni.nil (h : ∀ A z S, P A z S = none) : Uni k F P :=
  ⟨none, fun r' e => (by cases e), fun r' F1 e => (by cases e), h⟩
theorem bind3_none {α β γ δ : Type} (o : Option (α × β × γ)) : bind3 o (fun _ _ _ => (none : Option δ)) = none := by
  cases o <;> rfl
theorem Uni.dead (h : ∀ A z S, P A z S = bind3 (p_X2_keep k A z S F) fun _ _ _ => none) : Uni k F P :=
  Uni.nil (fun A z S => (h A z S).trans (bind3_none _))
theorem Uni.yes (r : Int32) (F1 : FD) (hs : SM F → SM F1) (hn : ∀ m n t u, RF F m n t u → ∀ m' n' t' u', RF F1 m' n' t' u' → 0 ≤ r) (h : ∀ A z S, P A z S = bind3 (p_X2_keep k A z S F) fun A1 z1 S1 => some (r, F1, A1, z1, S1)) : Uni k F P :=
  ⟨some (r, some F1), fun r' e => (by cases e), fun r' F' e => (by cases e; exact ⟨hs, hn⟩), h⟩
end UNI
set_option maxRecDepth 10000 in
theorem uni_set (k : Nat) (F : FD) (x1 x2 : Int32) : Uni k F (fun A z S => p_X4_set k F A z S x1 x2) := by
  by_cases c1 : x1 < 0
  · exact Uni.no (-1) (by decide) (fun A z S => by show p_X4_set k F A z S x1 x2 = _; unfold p_X4_set; rw [if_pos c1])
  by_cases c2 : x1 < 7
  rotate_left
  · exact Uni.no (-1) (by decide) (fun A z S => by show p_X4_set k F A z S x1 x2 = _; unfold p_X4_set; rw [if_neg c1, if_neg c2])
  rcases pk_ix x1 (show 7 < 2 ^ 31 by decide) with hx | hx | ⟨c, hc, rfl⟩
  · exact absurd hx c1
  · exact absurd c2 (Int32.not_lt.mpr hx)
  by_cases c5 : bet x2 (tb_LEAST_SETTING c) (tb_GREATEST_SETTING c) = 0
  · exact Uni.no (-1) (by decide) (fun A z S => by show p_X4_set k F A z S (nI c) x2 = _; unfold p_X4_set; rw [if_neg c1, if_pos c2, ald_at c rfl hc (by decide), Option.bind_some, ald_at c rfl hc (by decide), Option.bind_some, q_bet, Option.bind_some, if_pos c5])
  · refine Uni.yes (FD.st F c) (mkFD (FD.th F) (upd (FD.st F) c x2) (FD.ac F) (FD.rows F) (FD.ticks F) (FD.drops F) (FD.bursts F) (FD.burstReason F) (FD.burstNumber F) (FD.ticksBeforeBurst F)) (fun h => h) (fun m n t u h m' n' t' u' h' => ?_) (fun A z S => by show p_X4_set k F A z S (nI c) x2 = _; unfold p_X4_set; rw [if_neg c1, if_pos c2, ald_at c rfl hc (by decide), Option.bind_some, ald_at c rfl hc (by decide), Option.bind_some, q_bet, Option.bind_some, if_neg c5, ald_at c rfl hc (by decide), ast_at c rfl hc (by decide)]; rfl)
    obtain ⟨g1, -, g3⟩ := h.2.2.2.1 c hc
    rw [g1]
    exact nI_nn (by omega)
theorem dip_loop {k : Nat} {y1 y2 y3 : Int32} : ∀ (n : Nat) (F : FD) (x : Int32), ∃ g : Option (Int32 × FD), (∀ r F1, g = some (r, F1) → r = FD.ac F1 1 ∧ (SM F → SM F1)) ∧ ∀ A z S, p_X4_dip_L66 k A z S y1 y2 y3 n F x = g.bind fun q => some (q.1, q.2, A, z, S)
  | 0, F, x => ⟨none, fun r F1 e => (by cases e), fun A z S => rfl⟩
  | n + 1, F, x => by
    by_cases c : y1 ≤ x
    · exact ⟨some (FD.ac F 1, F), fun r F1 e => by cases e; exact ⟨rfl, fun h => h⟩, fun A z S => by rw [p_X4_dip_L66, if_pos c, a7_1]; rfl⟩
    · cases e : p_X0_appendRow k F (y2 + y3 * x) with
      | none => exact ⟨none, fun r F1 e => (by cases e), fun A z S => by rw [p_X4_dip_L66, if_neg c, e]; rfl⟩
      | some F3 =>
        obtain ⟨g, h1, h2⟩ := dip_loop (k := k) (y1 := y1) (y2 := y2) (y3 := y3) n F3 (x + 1)
        exact ⟨g, fun r F1 e2 => ⟨(h1 r F1 e2).1, fun h => (h1 r F1 e2).2 (sm_append e h)⟩, fun A z S => by rw [p_X4_dip_L66, if_neg c, e, Option.bind_some]; exact h2 A z S⟩
set_option maxRecDepth 10000 in
theorem uni_dip (k : Nat) (F : FD) (x1 x2 x3 : Int32) : Uni k F (fun A z S => p_X4_dip k F A z S x1 x2 x3) := by
  by_cases c1 : bet x1 1 24 = 0
  · exact Uni.no (-1) (by decide) (fun A z S => by show p_X4_dip k F A z S x1 x2 x3 = _; unfold p_X4_dip; rw [q_bet, Option.bind_some, if_pos c1])
  by_cases c2 : bet x2 0 5000 = 0
  · exact Uni.no (-1) (by decide) (fun A z S => by show p_X4_dip k F A z S x1 x2 x3 = _; unfold p_X4_dip; rw [q_bet, Option.bind_some, if_neg c1, q_isT, Option.bind_some, if_pos c2])
  by_cases c3 : bet x3 0 500 = 0
  · exact Uni.no (-1) (by decide) (fun A z S => by show p_X4_dip k F A z S x1 x2 x3 = _; unfold p_X4_dip; rw [q_bet, Option.bind_some, if_neg c1, q_isT, Option.bind_some, if_neg c2, q_bet, Option.bind_some, if_pos c3])
  by_cases c4 : bet (x2 + x3 * (x1 - 1)) 0 5000 = 0
  · exact Uni.no (-1) (by decide) (fun A z S => by show p_X4_dip k F A z S x1 x2 x3 = _; unfold p_X4_dip; rw [q_bet, Option.bind_some, if_neg c1, q_isT, Option.bind_some, if_neg c2, q_bet, Option.bind_some, if_neg c3, q_isT, Option.bind_some, if_pos c4])
  have start : ∀ A z S, p_X4_dip k F A z S x1 x2 x3 = bind3 (p_X2_keep k A z S F) fun A9 z10 S11 => (p_X0_takeAway k F).bind fun F12 => p_X4_dip_L66 k A9 z10 S11 x1 x2 x3 k F12 0 := by
    intro A z S
    unfold p_X4_dip
    rw [q_bet, Option.bind_some, if_neg c1, q_isT, Option.bind_some, if_neg c2, q_bet, Option.bind_some, if_neg c3, q_isT, Option.bind_some, if_neg c4]
  cases e : p_X0_takeAway k F with
  | none => exact Uni.dead (fun A z S => by show p_X4_dip k F A z S x1 x2 x3 = _; rw [start, e]; rfl)
  | some F12 =>
    obtain ⟨g, h1, h2⟩ := dip_loop (k := k) (y1 := x1) (y2 := x2) (y3 := x3) k F12 0
    cases eg : g with
    | none =>
      subst eg
      refine Uni.dead (fun A z S => ?_)
      show p_X4_dip k F A z S x1 x2 x3 = _
      rw [start, e]
      congr 1
      funext A1 z1 S1
      exact h2 A1 z1 S1
    | some q =>
      obtain ⟨r, F1⟩ := q
      subst eg
      obtain ⟨h3, h4⟩ := h1 r F1 rfl
      refine Uni.yes r F1 (fun h => h4 (sm_away e h)) (fun m n t u h m' n' t' u' h' => ?_) (fun A z S => ?_)
      · rw [h3]
        exact RF_ac h'
      · show p_X4_dip k F A z S x1 x2 x3 = _
        rw [start, e]
        congr 1
        funext A1 z1 S1
        exact h2 A1 z1 S1
theorem bring_th {k : Nat} {F F' : FD} {x : Int32} (h : p_X0_bring k F x = some F') : FD.th F' = FD.th F := by
  unfold p_X0_bring at h
  obtain ⟨_, -, h⟩ := bnd h
  obtain ⟨_, -, h⟩ := bnd h
  obtain ⟨_, -, h⟩ := bnd h
  obtain ⟨_, -, h⟩ := bnd h
  obtain rfl := Option.some.inj h
  rfl
theorem bet_nn {x : Int32} {b : Nat} (hb : b < 2 ^ 31) (h : ¬ bet x 0 (nI b) = 0) : 0 ≤ x := by
  obtain ⟨j, -, h2, rfl⟩ := bet_n (a := 0) hb (Nat.zero_le _) h
  exact nI_nn (by omega)
set_option maxRecDepth 10000 in
theorem uni_pour (k : Nat) (F : FD) (x1 x2 : Int32) : Uni k F (fun A z S => p_X4_pour k F A z S x1 x2) := by
  cases e1 : p_X0_hasRow k F x1 with
  | none => exact Uni.nil (fun A z S => by show p_X4_pour k F A z S x1 x2 = _; unfold p_X4_pour; rw [e1]; rfl)
  | some v1 =>
  by_cases c1 : v1 = 0
  · exact Uni.no (-1) (by decide) (fun A z S => by show p_X4_pour k F A z S x1 x2 = _; unfold p_X4_pour; rw [e1, Option.bind_some, if_pos c1])
  by_cases c2 : bet x2 1 5000 = 0
  · exact Uni.no (-1) (by decide) (fun A z S => by show p_X4_pour k F A z S x1 x2 = _; unfold p_X4_pour; rw [e1, Option.bind_some, if_neg c1, q_bet, Option.bind_some, if_pos c2])
  cases e5 : ald (FD.th F) 24 x1 with
  | none => exact Uni.nil (fun A z S => by show p_X4_pour k F A z S x1 x2 = _; unfold p_X4_pour; rw [e1, Option.bind_some, if_neg c1, q_bet, Option.bind_some, if_neg c2, e5]; rfl)
  | some v5 =>
  by_cases c6 : bet (v5 + x2) 0 5000 = 0
  · exact Uni.no (-3) (by decide) (fun A z S => by show p_X4_pour k F A z S x1 x2 = _; unfold p_X4_pour; rw [e1, Option.bind_some, if_neg c1, q_bet, Option.bind_some, if_neg c2, e5, Option.bind_some, q_isT, Option.bind_some, if_pos c6])
  have start : ∀ A z S, p_X4_pour k F A z S x1 x2 = bind3 (p_X2_keep k A z S F) fun A8 z9 S10 => (some v5).bind fun v11 => (ast (FD.th F) 24 x1 (v11 + x2)).bind fun f12 => (p_X0_bring k (mkFD f12 (FD.st F) (FD.ac F) (FD.rows F) (FD.ticks F) (FD.drops F) (FD.bursts F) (FD.burstReason F) (FD.burstNumber F) (FD.ticksBeforeBurst F)) x2).bind fun F13 => (ald (FD.th F13) 24 x1).bind fun v14 => some (v14, F13, A8, z9, S10) := by
    intro A z S
    unfold p_X4_pour
    rw [e1, Option.bind_some, if_neg c1, q_bet, Option.bind_some, if_neg c2, e5, Option.bind_some, q_isT, Option.bind_some, if_neg c6]
  cases e12 : ast (FD.th F) 24 x1 (v5 + x2) with
  | none =>
    refine Uni.dead (fun A z S => ?_)
    show p_X4_pour k F A z S x1 x2 = _
    rw [start]
    congr 1
    funext A1 z1 S1
    rw [Option.bind_some, e12]
    rfl
  | some f12 =>
  cases e13 : p_X0_bring k (mkFD f12 (FD.st F) (FD.ac F) (FD.rows F) (FD.ticks F) (FD.drops F) (FD.bursts F) (FD.burstReason F) (FD.burstNumber F) (FD.ticksBeforeBurst F)) x2 with
  | none =>
    refine Uni.dead (fun A z S => ?_)
    show p_X4_pour k F A z S x1 x2 = _
    rw [start]
    congr 1
    funext A1 z1 S1
    rw [Option.bind_some, e12, Option.bind_some, e13]
    rfl
  | some F13 =>
  cases e14 : ald (FD.th F13) 24 x1 with
  | none =>
    refine Uni.dead (fun A z S => ?_)
    show p_X4_pour k F A z S x1 x2 = _
    rw [start]
    congr 1
    funext A1 z1 S1
    rw [Option.bind_some, e12, Option.bind_some, e13, Option.bind_some, e14]
    rfl
  | some v14 =>
    refine Uni.yes v14 F13 (fun h => sm_bring e13 h) (fun m n t u h m' n' t' u' h' => ?_) (fun A z S => ?_)
    · have h1 : FD.th F13 = f12 := bring_th e13
      obtain ⟨-, h2⟩ := ast_in e12
      obtain ⟨-, h3⟩ := ald_in e14
      rw [h1, ← h2, us] at h3
      rw [← h3]
      exact bet_nn (b := 5000) (by decide) c6
    · show p_X4_pour k F A z S x1 x2 = _
      rw [start]
      congr 1
      funext A1 z1 S1
      rw [Option.bind_some, e12, Option.bind_some, e13, Option.bind_some, e14]
      rfl
set_option maxRecDepth 10000 in
theorem uni_add (k : Nat) (F : FD) (x1 : Int32) : Uni k F (fun A z S => p_X4_add k F A z S x1) := by
  by_cases c1 : bet x1 0 5000 = 0
  · exact Uni.no (-1) (by decide) (fun A z S => by show p_X4_add k F A z S x1 = _; unfold p_X4_add; rw [q_isT, Option.bind_some, if_pos c1])
  by_cases c2 : FD.rows F = 0
  · exact Uni.no (-2) (by decide) (fun A z S => by show p_X4_add k F A z S x1 = _; unfold p_X4_add; rw [q_isT, Option.bind_some, if_neg c1, if_pos c2])
  by_cases c3 : FD.rows F = 24
  · exact Uni.no (-3) (by decide) (fun A z S => by show p_X4_add k F A z S x1 = _; unfold p_X4_add; rw [q_isT, Option.bind_some, if_neg c1, if_neg c2, if_pos c3])
  cases e : p_X0_appendRow k F x1 with
  | none => exact Uni.dead (fun A z S => by show p_X4_add k F A z S x1 = _; unfold p_X4_add; rw [q_isT, Option.bind_some, if_neg c1, if_neg c2, if_neg c3, e]; rfl)
  | some F8 =>
    refine Uni.yes (FD.rows F8) F8 (fun h => sm_append e h) (fun m n t u h m' n' t' u' h' => ?_) (fun A z S => by show p_X4_add k F A z S x1 = _; unfold p_X4_add; rw [q_isT, Option.bind_some, if_neg c1, if_neg c2, if_neg c3, e]; rfl)
    rw [h'.2.1]
    have := h'.1
    exact nI_nn (by omega)
set_option maxRecDepth 10000 in
theorem uni_thin (k : Nat) (F : FD) (x1 x2 : Int32) : Uni k F (fun A z S => p_X4_thin k F A z S x1 x2) := by
  cases e1 : p_X0_hasRow k F x1 with
  | none => exact Uni.nil (fun A z S => by show p_X4_thin k F A z S x1 x2 = _; unfold p_X4_thin; rw [e1]; rfl)
  | some v1 =>
  by_cases c1 : v1 = 0
  · exact Uni.no (-1) (by decide) (fun A z S => by show p_X4_thin k F A z S x1 x2 = _; unfold p_X4_thin; rw [e1, Option.bind_some, if_pos c1])
  by_cases c2 : bet x2 1 5000 = 0
  · exact Uni.no (-1) (by decide) (fun A z S => by show p_X4_thin k F A z S x1 x2 = _; unfold p_X4_thin; rw [e1, Option.bind_some, if_neg c1, q_bet, Option.bind_some, if_pos c2])
  cases e : p_X0_loseFrom k F x1 x2 6 with
  | none => exact Uni.dead (fun A z S => by show p_X4_thin k F A z S x1 x2 = _; unfold p_X4_thin; rw [e1, Option.bind_some, if_neg c1, q_bet, Option.bind_some, if_neg c2, e]; rfl)
  | some q =>
    obtain ⟨r, F1⟩ := q
    refine Uni.yes r F1 (fun h => sm_lose 6 (by decide) (show p_X0_loseFrom k F x1 x2 (nI 6) = _ from e) h) (fun m n t u h m' n' t' u' h' => ?_) (fun A z S => by show p_X4_thin k F A z S x1 x2 = _; unfold p_X4_thin; rw [e1, Option.bind_some, if_neg c1, q_bet, Option.bind_some, if_neg c2, e]; rfl)
    obtain ⟨b, -, b2, rfl⟩ := bet_n (a := 1) (b := 5000) (by decide) (by decide) c2
    have hn := h.1
    obtain ⟨j, hj, rfl⟩ : ∃ j : Nat, j < n ∧ x1 = nI j := by
      unfold p_X0_hasRow at e1
      rcases pk_ix x1 (show n < 2 ^ 31 by omega) with hx | hx | ⟨c, hc, rfl⟩
      · rw [if_pos hx] at e1
        exact absurd (Option.some.inj e1).symm c1
      · by_cases hx0 : x1 < 0
        · rw [if_pos hx0] at e1
          exact absurd (Option.some.inj e1).symm c1
        · rw [if_neg hx0, h.2.1, if_pos hx] at e1
          exact absurd (Option.some.inj e1).symm c1
      · exact ⟨c, hc, rfl⟩
    obtain ⟨g1, -, g3⟩ := h.2.2.1 j hj
    rw [show (6 : Int32) = nI 6 from rfl, q_lose (by omega) (by omega) (by omega) g1 (by decide) (by decide)] at e
    obtain ⟨e2, -⟩ := inj2 e
    rw [← e2]
    exact nI_nn (by omega)
set_option maxRecDepth 10000 in
theorem uni_cut (k : Nat) (F : FD) : Uni k F (fun A z S => p_X4_cut k F A z S) := by
  by_cases c1 : 2 ≤ FD.rows F
  rotate_left
  · exact Uni.no (-2) (by decide) (fun A z S => by show p_X4_cut k F A z S = _; unfold p_X4_cut; rw [if_neg c1])
  cases e : p_X0_loseFrom k F (FD.rows F - 1) 5000 6 with
  | none => exact Uni.dead (fun A z S => by show p_X4_cut k F A z S = _; unfold p_X4_cut; rw [if_pos c1, e]; rfl)
  | some q =>
    obtain ⟨r, F1⟩ := q
    refine Uni.yes r (mkFD (FD.th F1) (FD.st F1) (FD.ac F1) (FD.rows F1 - 1) (FD.ticks F1) (FD.drops F1) (FD.bursts F1) (FD.burstReason F1) (FD.burstNumber F1) (FD.ticksBeforeBurst F1)) (fun h => (show SM F1 from sm_lose 6 (by decide) (show p_X0_loseFrom k F _ _ (nI 6) = some (r, F1) from e) h)) (fun m n t u h m' n' t' u' h' => ?_) (fun A z S => by show p_X4_cut k F A z S = _; unfold p_X4_cut; rw [if_pos c1, e]; rfl)
    have hn := h.1
    have h2 : 2 ≤ n := by
      rw [h.2.1] at c1
      have c3 := Int32.le_iff_toInt_le.mp c1
      rw [nI_toInt (by omega), show (2 : Int32).toInt = 2 from by decide] at c3
      omega
    obtain ⟨n, rfl⟩ : ∃ q, n = q + 1 := ⟨n - 1, by omega⟩
    obtain ⟨g1, -, g3⟩ := h.2.2.1 n (by omega)
    rw [h.2.1, nI_pred, show (6 : Int32) = nI 6 from rfl, show (5000 : Int32) = nI 5000 from rfl, q_lose (by omega) (by decide) (by omega) g1 (by decide) (by decide)] at e
    obtain ⟨e2, -⟩ := inj2 e
    rw [← e2]
    exact nI_nn (by omega)
theorem go_loop {k : Nat} {y1 : Int32} : ∀ (n c : Nat) (F : FD) (x : Int32), ∃ g : Option (Int32 × FD), (∀ r F1, g = some (r, F1) → (SM F → SM F1) ∧ ∃ j : Nat, j ≤ c + n ∧ r = nI j) ∧ ∀ A z S, p_X4_go_L45 k A z S y1 n F (nI c) x = g.bind fun q => some (q.1, q.2, A, z, S)
  | 0, c, F, x => ⟨none, fun r F1 e => (by cases e), fun A z S => rfl⟩
  | n + 1, c, F, x => by
    by_cases d : y1 ≤ x
    · exact ⟨some (nI c, F), fun r F1 e => by cases e; exact ⟨fun h => h, c, by omega, rfl⟩, fun A z S => by rw [p_X4_go_L45, if_pos d]; rfl⟩
    · cases e : p_X0_tick k F with
      | none => exact ⟨none, fun r F1 e => (by cases e), fun A z S => by rw [p_X4_go_L45, if_neg d, e]; split <;> rfl⟩
      | some F3 =>
        by_cases b : FD.rows F ≤ 0
        · obtain ⟨g, h1, h2⟩ := go_loop (k := k) (y1 := y1) n c F3 (x + 1)
          exact ⟨g, fun r F1 e2 => ⟨fun h => (h1 r F1 e2).1 (sm_tick e h), by obtain ⟨j, hj, hr⟩ := (h1 r F1 e2).2; exact ⟨j, by omega, hr⟩⟩, fun A z S => by rw [p_X4_go_L45, if_neg d, if_pos b, e, Option.bind_some]; exact h2 A z S⟩
        · obtain ⟨g, h1, h2⟩ := go_loop (k := k) (y1 := y1) n (c + 1) F3 (x + 1)
          exact ⟨g, fun r F1 e2 => ⟨fun h => (h1 r F1 e2).1 (sm_tick e h), by obtain ⟨j, hj, hr⟩ := (h1 r F1 e2).2; exact ⟨j, by omega, hr⟩⟩, fun A z S => by rw [p_X4_go_L45, if_neg d, if_neg b, e, Option.bind_some, nI_1]; exact h2 A z S⟩
set_option maxRecDepth 10000 in
theorem uni_go (k : Nat) (hk : k < 2 ^ 30) (F : FD) (x1 : Int32) : Uni k F (fun A z S => p_X4_go k F A z S x1) := by
  by_cases c1 : bet x1 1 1000 = 0
  · exact Uni.no (-1) (by decide) (fun A z S => by show p_X4_go k F A z S x1 = _; unfold p_X4_go; rw [q_bet, Option.bind_some, if_pos c1])
  by_cases c2 : FD.ticks F + x1 ≤ 100000
  rotate_left
  · exact Uni.no (-3) (by decide) (fun A z S => by show p_X4_go k F A z S x1 = _; unfold p_X4_go; rw [q_bet, Option.bind_some, if_neg c1, if_neg c2])
  obtain ⟨g, h1, h2⟩ := go_loop (k := k) (y1 := x1) k 0 F 0
  have start : ∀ A z S, p_X4_go k F A z S x1 = bind3 (p_X2_keep k A z S F) fun A1 z1 S1 => g.bind fun q => some (q.1, q.2, A1, z1, S1) := by
    intro A z S
    unfold p_X4_go
    rw [q_bet, Option.bind_some, if_neg c1, if_pos c2]
    congr 1
    funext A1 z1 S1
    exact h2 A1 z1 S1
  cases eg : g with
  | none =>
    subst eg
    exact Uni.dead start
  | some q =>
    obtain ⟨r, F1⟩ := q
    subst eg
    obtain ⟨h3, j, hj, rfl⟩ := h1 r F1 rfl
    exact Uni.yes (nI j) F1 h3 (fun m n t u h m' n' t' u' h' => nI_nn (by omega)) start
/-- what a change does: nothing, or it is recorded -/
theorem uni_all {k : Nat} {F : FD} {P : (Nat → AF) → Int32 → (Nat → FD) → Option (Int32 × FD × (Nat → AF) × Int32 × (Nat → FD))} (hu : Uni k F P) {A : Nat → AF} {z : Int32} {S : Nat → FD} {r : Int32} {F1 : FD} {A1 : Nat → AF} {z1 : Int32} {S1 : Nat → FD} (h : P A z S = some (r, F1, A1, z1, S1)) {m : Nat → Int32} {n : Nat} {t u : Nat → Nat} (hf : RF F m n t u) {m' : Nat → Int32} {n' : Nat} {t' u' : Nat → Nat} (hf' : RF F1 m' n' t' u') :
    (SM F → SM F1) ∧ ((r < 0 ∧ F1 = F ∧ A1 = A ∧ z1 = z ∧ S1 = S) ∨ (0 ≤ r ∧ p_X2_keep k A z S F = some (A1, z1, S1))) := by
  obtain ⟨g, h1, h2, h3⟩ := hu
  rw [h3] at h
  match g, h1, h2, h with
  | none, h1, h2, h => cases h
  | some (r0, none), h1, h2, h =>
    obtain ⟨rfl, rfl, rfl, rfl, rfl⟩ := inj5 h
    exact ⟨fun q => q, Or.inl ⟨h1 _ rfl, rfl, rfl, rfl, rfl⟩⟩
  | some (r0, some F0), h1, h2, h =>
    have h : bind3 (p_X2_keep k A z S F) (fun A1 z1 S1 => some (r0, F0, A1, z1, S1)) = some (r, F1, A1, z1, S1) := h
    obtain ⟨B, y, X, hk, h⟩ := bnd3 h
    obtain ⟨rfl, rfl, rfl, rfl, rfl⟩ := inj5 h
    obtain ⟨h4, h5⟩ := h2 _ _ rfl
    exact ⟨h4, Or.inr ⟨h5 _ _ _ _ hf _ _ _ _ hf', hk⟩⟩
