/-! p23: calls on written films and texts, reckoned by the kernel. -/
def tb (l : List Int32) : Nat → Int32 := fun j => l.getD j 0
def eqN (N : Nat) (f g : Nat → Int32) : Bool := (List.range N).all fun j => f j == g j
theorem eqN_spec {N : Nat} {f g : Nat → Int32} (h : eqN N f g = true) : ∀ j, j < N → f j = g j := fun j hj => by
  have h1 := List.all_eq_true.mp h j (List.mem_range.mpr hj)
  exact eq_of_beq h1
def agr (F G : FD) : Bool := eqN 24 (FD.th F) (FD.th G) && (eqN 7 (FD.st F) (FD.st G) && (eqN 7 (FD.ac F) (FD.ac G) && (FD.rows F == FD.rows G && (FD.ticks F == FD.ticks G && (FD.drops F == FD.drops G && (FD.bursts F == FD.bursts G && (FD.burstReason F == FD.burstReason G && (FD.burstNumber F == FD.burstNumber G && FD.ticksBeforeBurst F == FD.ticksBeforeBurst G))))))))
def agT (T U : TD) : Bool := eqN 100 (TD.sg T) (TD.sg U) && (eqN 24 (TD.th T) (TD.th U) && (TD.length T == TD.length U && (TD.rows T == TD.rows U && (TD.position T == TD.position U && TD.reason T == TD.reason U))))
theorem and_b {a b : Bool} (h : (a && b) = true) : a = true ∧ b = true := by
  cases a <;> cases b <;> simp_all
theorem vset {D : va_G} {w : va_W} {H : Heap} {cA : ClassId} {nA a q0 : Nat} {f g : Nat → Int32} (hP : va_P D vwCl w H) (ha : w[q0]? = some (a, .inl (cA, nA, .inl f))) (h : ∀ j, j < nA → f j = g j) : va_P D vwCl (w.set q0 (a, .inl (cA, nA, .inl g))) H := by
  have hl := (List.getElem?_eq_some_iff.mp ha).1
  intro k x hk
  by_cases hkq : k = q0
  · subst hkq
    rw [List.getElem?_set_self hl] at hk
    cases hk
    have h1 : H[a]? = some (vp_cell cA (nA, .inl f)) := hP k _ ha
    show H[a]? = some (vp_cell cA (nA, .inl g))
    rw [h1, vcong h]
  · rw [List.getElem?_set_ne (Ne.symm hkq)] at hk
    exact hP k x hk
section CONV
variable {D : va_G} {ks : K3} {H : Heap} {A : Nat → Prop} {o : Nat} {a b : AF} {h : AH} {t : AT} {F F1 G : FD} {qA : Nat → AF} {qz : Int32} {qS : Nat → FD} {T T1 : TD}
set_option maxRecDepth 10000 in
theorem convF (hag : agr F1 F = true) (hP : va_P D vwCl (wO ks o a b h t F1 G qA qz qS T) H) (hD : va_D A (wO ks o a b h t F1 G qA qz qS T)) : va_P D vwCl (wO ks o a b h t F G qA qz qS T) H ∧ va_D A (wO ks o a b h t F G qA qz qS T) := by
  obtain ⟨th, st, ac, x0, x1, x2, x3, x4, x5, x6⟩ := F1
  obtain ⟨th', st', ac', y0, y1, y2, y3, y4, y5, y6⟩ := F
  obtain ⟨h1, hag⟩ := and_b hag
  obtain ⟨h2, hag⟩ := and_b hag
  obtain ⟨h3, hag⟩ := and_b hag
  obtain ⟨e0, hag⟩ := and_b hag
  obtain ⟨e1, hag⟩ := and_b hag
  obtain ⟨e2, hag⟩ := and_b hag
  obtain ⟨e3, hag⟩ := and_b hag
  obtain ⟨e4, hag⟩ := and_b hag
  obtain ⟨e5, e6⟩ := and_b hag
  have g0 : x0 = y0 := eq_of_beq e0
  have g1 : x1 = y1 := eq_of_beq e1
  have g2 : x2 = y2 := eq_of_beq e2
  have g3 : x3 = y3 := eq_of_beq e3
  have g4 : x4 = y4 := eq_of_beq e4
  have g5 : x5 = y5 := eq_of_beq e5
  have g6 : x6 = y6 := eq_of_beq e6
  subst g0 g1 g2 g3 g4 g5 g6
  have p1 := vset (q0 := 2) (g := th') hP rfl (eqN_spec h1)
  have p2 := vset (q0 := 3) (g := st') p1 rfl (eqN_spec h2)
  have p3 := vset (q0 := 4) (g := ac') p2 rfl (eqN_spec h3)
  have d1 := hD.set (p := 2) (e := .inl (ks.1, 24, .inl th')) rfl
  have d2 := d1.set (p := 3) (e := .inl (ks.1, 7, .inl st')) rfl
  have d3 := d2.set (p := 4) (e := .inl (ks.1, 7, .inl ac')) rfl
  exact ⟨p3, d3⟩
set_option maxRecDepth 10000 in
theorem convT (hag : agT T1 T = true) (hP : va_P D vwCl (wO ks o a b h t F G qA qz qS T1) H) (hD : va_D A (wO ks o a b h t F G qA qz qS T1)) : va_P D vwCl (wO ks o a b h t F G qA qz qS T) H ∧ va_D A (wO ks o a b h t F G qA qz qS T) := by
  obtain ⟨sg, th, x0, x1, x2, x3⟩ := T1
  obtain ⟨sg', th', y0, y1, y2, y3⟩ := T
  obtain ⟨h1, hag⟩ := and_b hag
  obtain ⟨h2, hag⟩ := and_b hag
  obtain ⟨e0, hag⟩ := and_b hag
  obtain ⟨e1, hag⟩ := and_b hag
  obtain ⟨e2, e3⟩ := and_b hag
  have g0 : x0 = y0 := eq_of_beq e0
  have g1 : x1 = y1 := eq_of_beq e1
  have g2 : x2 = y2 := eq_of_beq e2
  have g3 : x3 = y3 := eq_of_beq e3
  subst g0 g1 g2 g3
  have p1 := vset (q0 := 32) (g := sg') hP rfl (eqN_spec h1)
  have p2 := vset (q0 := 33) (g := th') p1 rfl (eqN_spec h2)
  have d1 := hD.set (p := 32) (e := .inl (ks.2.1, 100, .inl sg')) rfl
  have d2 := d1.set (p := 33) (e := .inl (ks.1, 24, .inl th')) rfl
  exact ⟨p2, d2⟩
end CONV
/-! one call, reckoned at a past that is written down, holds for every past -/
def A00 : Nat → AF := fun _ => (0, 0, 0, 0)
def S00 : Nat → FD := fun _ => fd0
def chk (x : Option (Int32 × FD × (Nat → AF) × Int32 × (Nat → FD))) (r z : Int32) (F' : FD) : Bool :=
  match x with
  | some (r1, F1, _, z1, _) => r1 == r && (z1 == z && agr F1 F')
  | none => false
section STEPF
variable {k : Nat} {F F' : FD} {P : (Nat → AF) → Int32 → (Nat → FD) → Option (Int32 × FD × (Nat → AF) × Int32 × (Nat → FD))} {r : Int32} {A : Nat → AF} {S : Nat → FD}
theorem stepN {z : Int32} (hu : Uni k F P) (hc : chk (P A00 0 S00) r 0 F' = true) : P A z S = some (r, F, A, z, S) := by
  obtain ⟨g, -, -, h3⟩ := hu
  rw [h3] at hc ⊢
  match g, hc with
  | none, hc => cases hc
  | some (r0, none), hc =>
    have e : r0 = r := eq_of_beq (and_b hc).1
    rw [e]
    rfl
  | some (r0, some F1), hc => exact absurd (eq_of_beq (and_b (and_b (show (r0 == r && ((1 : Int32) == 0 && agr F1 F')) = true from hc)).2).1) (by decide)
theorem stepY {z z' : Int32} {A' : Nat → AF} {S' : Nat → FD} (hk : p_X2_keep k A z S F = some (A', z', S')) (hu : Uni k F P) (hc : chk (P A00 0 S00) r 1 F' = true) : ∃ F1, P A z S = some (r, F1, A', z', S') ∧ agr F1 F' = true := by
  obtain ⟨g, -, -, h3⟩ := hu
  rw [h3] at hc
  match g, h3, hc with
  | none, h3, hc => cases hc
  | some (r0, none), h3, hc => exact absurd (eq_of_beq (and_b (and_b (show (r0 == r && ((0 : Int32) == 1 && agr F F')) = true from hc)).2).1) (by decide)
  | some (r0, some F1), h3, hc =>
    obtain ⟨e, hc⟩ := and_b (show (r0 == r && ((1 : Int32) == 1 && agr F1 F')) = true from hc)
    have e : r0 = r := eq_of_beq e
    refine ⟨F1, ?_, (and_b hc).2⟩
    rw [h3, ← e]
    show bind3 (p_X2_keep k A z S F) (fun A1 z1 S1 => some (r0, F1, A1, z1, S1)) = _
    rw [hk]
    rfl
theorem step0 (hu : Uni k F P) (hc : chk (P A00 0 S00) r 1 F' = true) : ∃ F1, P A 0 S = some (r, F1, A, 1, va_up S 0 F) ∧ agr F1 F' = true := stepY rfl hu hc
theorem step1 (hu : Uni k F P) (hc : chk (P A00 0 S00) r 1 F' = true) : ∃ F1, P A 1 S = some (r, F1, A, 2, va_up S 1 F) ∧ agr F1 F' = true := stepY rfl hu hc
theorem step2 (hu : Uni k F P) (hc : chk (P A00 0 S00) r 1 F' = true) : ∃ F1, P A 2 S = some (r, F1, A, 3, va_up S 2 F) ∧ agr F1 F' = true := stepY rfl hu hc
theorem step3 (hu : Uni k F P) (hc : chk (P A00 0 S00) r 1 F' = true) : ∃ F1, P A 3 S = some (r, F1, A, 4, va_up S 3 F) ∧ agr F1 F' = true := stepY rfl hu hc
theorem step4 (hu : Uni k F P) (hc : chk (P A00 0 S00) r 1 F' = true) : ∃ F1, P A 4 S = some (r, F1, A, 5, va_up S 4 F) ∧ agr F1 F' = true := stepY rfl hu hc
theorem step5 (hu : Uni k F P) (hc : chk (P A00 0 S00) r 1 F' = true) : ∃ F1, P A 5 S = some (r, F1, rot A, 5, va_up (rot S) 4 F) ∧ agr F1 F' = true := stepY rfl hu hc
end STEPF
/-! questions: the trial that was there doesn't count -/
theorem until_G {k : Nat} {F G : FD} {x y r : Int32} (hq : ¬ qu x y = 0) (h : (p_X4_until k F fd0 x y).map (fun q => q.1) = some r) : ∃ G1, p_X4_until k F G x y = some (r, G1) := by
  have e : p_X4_until k F G x y = p_X4_until k F fd0 x y := by
    unfold p_X4_until
    rw [q_qu, Option.bind_some, if_neg hq, Option.bind_some, if_neg hq]
    rfl
  rw [e]
  cases e2 : p_X4_until k F fd0 x y with
  | none => rw [e2] at h; cases h
  | some q => rw [e2] at h; exact ⟨q.2, by rw [← Option.some.inj h]⟩
theorem ifGo_G {k : Nat} {F G : FD} {x y r v : Int32} (h1 : p_X0_hasRow k F x = some v) (hv : ¬ v = 0) (hq : ¬ bet y 1 1000 = 0) (h : (p_X4_ifGo k F fd0 x y).map (fun q => q.1) = some r) : ∃ G1, p_X4_ifGo k F G x y = some (r, G1) := by
  have e : p_X4_ifGo k F G x y = p_X4_ifGo k F fd0 x y := by
    unfold p_X4_ifGo
    rw [h1, Option.bind_some, if_neg hv, q_bet, Option.bind_some, if_neg hq, Option.bind_some, if_neg hv, Option.bind_some, if_neg hq]
    rfl
  rw [e]
  cases e2 : p_X4_ifGo k F fd0 x y with
  | none => rw [e2] at h; cases h
  | some q => rw [e2] at h; exact ⟨q.2, by rw [← Option.some.inj h]⟩
/-! texts -/
def chkT (x : Option (Int32 × TD)) (r : Int32) (T' : TD) : Bool :=
  match x with
  | some (r1, T1) => r1 == r && agT T1 T'
  | none => false
theorem stepT {x : Option (Int32 × TD)} {r : Int32} {T' : TD} (h : chkT x r T' = true) : ∃ T1, x = some (r, T1) ∧ agT T1 T' = true := by
  match x, h with
  | none, h => cases h
  | some (r1, T1), h =>
    obtain ⟨e, h⟩ := and_b (show (r1 == r && agT T1 T') = true from h)
    have e : r1 = r := eq_of_beq e
    exact ⟨T1, by rw [e], h⟩
/-! read -/
def appR (k : Nat) (F : FD) (g : Option (Int32 × Option FD × TD)) (A : Nat → AF) (z : Int32) (S : Nat → FD) : Option (Int32 × FD × (Nat → AF) × Int32 × (Nat → FD) × TD) :=
  match g with
  | none => none
  | some (r, none, T) => some (r, F, A, z, S, T)
  | some (r, some F1, T) => bind3 (p_X2_keep k A z S F) fun A1 z1 S1 => some (r, F1, A1, z1, S1, T)
theorem read_loop {k : Nat} {T : TD} : ∀ (n : Nat) (F : FD) (x : Int32), ∃ g : Option (Int32 × FD), ∀ A z S, p_X4_read_L40 k A z S T n F x = g.bind fun q => some (q.1, q.2, A, z, S, T)
  | 0, F, x => ⟨none, fun A z S => rfl⟩
  | n + 1, F, x => by
    by_cases c : TD.rows T ≤ x
    · exact ⟨some (FD.rows F, F), fun A z S => by rw [p_X4_read_L40, if_pos c]; rfl⟩
    · cases e : ald (TD.th T) 24 x with
      | none => exact ⟨none, fun A z S => by rw [p_X4_read_L40, if_neg c, e]; rfl⟩
      | some v2 =>
        cases e3 : p_X0_appendRow k F v2 with
        | none => exact ⟨none, fun A z S => by rw [p_X4_read_L40, if_neg c, e, Option.bind_some, e3]; rfl⟩
        | some F3 =>
          obtain ⟨g, h2⟩ := read_loop (k := k) (T := T) n F3 (x + 1)
          exact ⟨g, fun A z S => by rw [p_X4_read_L40, if_neg c, e, Option.bind_some, e3, Option.bind_some]; exact h2 A z S⟩
theorem uni_read (k : Nat) (F : FD) (T : TD) : ∃ g : Option (Int32 × Option FD × TD), ∀ A z S, p_X4_read k F A z S T = appR k F g A z S := by
  cases e1 : p_X1_parse k T with
  | none => exact ⟨none, fun A z S => by unfold p_X4_read; rw [e1]; rfl⟩
  | some T1 =>
  by_cases c : TD.reason T1 = 0
  rotate_left
  · exact ⟨some (-2, none, T1), fun A z S => by unfold p_X4_read; rw [e1, Option.bind_some, if_neg c]; rfl⟩
  have start : ∀ A z S, p_X4_read k F A z S T = bind3 (p_X2_keep k A z S F) fun A3 z4 S5 => (p_X0_takeAway k F).bind fun F6 => p_X4_read_L40 k A3 z4 S5 T1 k F6 0 := by
    intro A z S
    unfold p_X4_read
    rw [e1, Option.bind_some, if_pos c]
  cases e : p_X0_takeAway k F with
  | none => exact ⟨none, fun A z S => by rw [start, e]; exact bind3_none _⟩
  | some F6 =>
    obtain ⟨g, h2⟩ := read_loop (k := k) (T := T1) k F6 0
    cases g with
    | none =>
      refine ⟨none, fun A z S => ?_⟩
      rw [start, e]
      refine Eq.trans ?_ (bind3_none (p_X2_keep k A z S F))
      congr 1
      funext A1 z1 S1
      exact h2 A1 z1 S1
    | some q =>
      obtain ⟨r, F1⟩ := q
      refine ⟨some (r, some F1, T1), fun A z S => ?_⟩
      rw [start, e]
      show _ = bind3 (p_X2_keep k A z S F) fun A1 z1 S1 => some (r, F1, A1, z1, S1, T1)
      congr 1
      funext A1 z1 S1
      exact h2 A1 z1 S1
def chkR (x : Option (Int32 × FD × (Nat → AF) × Int32 × (Nat → FD) × TD)) (r z : Int32) (F' : FD) (T' : TD) : Bool :=
  match x with
  | some (r1, F1, _, z1, _, T1) => r1 == r && (z1 == z && (agr F1 F' && agT T1 T'))
  | none => false
section STEPR
variable {k : Nat} {F F' : FD} {T T' : TD} {r : Int32} {A : Nat → AF} {S : Nat → FD}
theorem readN {z : Int32} (hc : chkR (p_X4_read k F A00 0 S00 T) r 0 F' T' = true) : ∃ T1, p_X4_read k F A z S T = some (r, F, A, z, S, T1) ∧ agT T1 T' = true := by
  obtain ⟨g, h3⟩ := uni_read k F T
  rw [h3] at hc
  match g, h3, hc with
  | none, h3, hc => cases hc
  | some (r0, none, T1), h3, hc =>
    obtain ⟨e, hc⟩ := and_b (show (r0 == r && ((0 : Int32) == 0 && (agr F F' && agT T1 T'))) = true from hc)
    have e : r0 = r := eq_of_beq e
    exact ⟨T1, by rw [h3, e]; rfl, (and_b (and_b hc).2).2⟩
  | some (r0, some F1, T1), h3, hc => exact absurd (eq_of_beq (and_b (and_b (show (r0 == r && ((1 : Int32) == 0 && (agr F1 F' && agT T1 T'))) = true from hc)).2).1) (by decide)
theorem readY {z z' : Int32} {A' : Nat → AF} {S' : Nat → FD} (hk : p_X2_keep k A z S F = some (A', z', S')) (hc : chkR (p_X4_read k F A00 0 S00 T) r 1 F' T' = true) : ∃ F1 T1, p_X4_read k F A z S T = some (r, F1, A', z', S', T1) ∧ agr F1 F' = true ∧ agT T1 T' = true := by
  obtain ⟨g, h3⟩ := uni_read k F T
  rw [h3] at hc
  match g, h3, hc with
  | none, h3, hc => cases hc
  | some (r0, none, T1), h3, hc => exact absurd (eq_of_beq (and_b (and_b (show (r0 == r && ((0 : Int32) == 1 && (agr F F' && agT T1 T'))) = true from hc)).2).1) (by decide)
  | some (r0, some F1, T1), h3, hc =>
    obtain ⟨e, hc⟩ := and_b (show (r0 == r && ((1 : Int32) == 1 && (agr F1 F' && agT T1 T'))) = true from hc)
    have e : r0 = r := eq_of_beq e
    refine ⟨F1, T1, ?_, (and_b (and_b hc).2).1, (and_b (and_b hc).2).2⟩
    rw [h3, ← e]
    show bind3 (p_X2_keep k A z S F) (fun A1 z1 S1 => some (r0, F1, A1, z1, S1, T1)) = _
    rw [hk]
    rfl
end STEPR
/-! the start of a film, with the ghost of the reference -/
def u0 : Nat → Nat := fun j => match j with
  | 0 => 20
  | 1 => 1
  | 2 => 10
  | 3 => 30
  | 4 => 5
  | 5 => 12
  | _ => 3000
theorem rs0 (S : Nat → FD) : RS fd0 0 S td0 md0 := by
  refine ⟨⟨0, fun _ => 0, u0, Nat.zero_le _, rfl, fun j hj => absurd hj (Nat.not_lt_zero j), fun j hj => ?_, by decide, ⟨rfl, rfl, rfl, rfl, rfl, rfl, rfl, rfl, rfl, rfl, rfl, rfl, rfl⟩, rfl⟩, ⟨0, by decide, rfl, rfl, fun i hi => absurd hi (Nat.not_lt_zero i)⟩, ⟨0, fun _ => 0, by decide, rfl, rfl, fun j hj => absurd hj (Nat.not_lt_zero j)⟩⟩
  have : j = 0 ∨ j = 1 ∨ j = 2 ∨ j = 3 ∨ j = 4 ∨ j = 5 ∨ j = 6 := by omega
  rcases this with rfl | rfl | rfl | rfl | rfl | rfl | rfl <;> exact ⟨rfl, rfl, by decide⟩
