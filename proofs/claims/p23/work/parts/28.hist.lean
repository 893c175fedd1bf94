/-! PURE PART: the past, and what is laid aside. -/
def wpp (M : MD) (g : Nat → Int32) (z : Int32) : MD := mkMD (MD.st M) g (MD.aside M) (MD.text M) z (MD.length M) (MD.spot M) (MD.itsThickness M) (MD.itsRows M) (MD.from_ M)
def was (M : MD) (g : Nat → Int32) : MD := mkMD (MD.st M) (MD.past M) g (MD.text M) (MD.pasts M) (MD.length M) (MD.spot M) (MD.itsThickness M) (MD.itsRows M) (MD.from_ M)
theorem RF_cong {F : FD} {m m' : Nat → Int32} {n : Nat} {t u : Nat → Nat} (e : ∀ j, j < 44 → m j = m' j) (h : RF F m n t u) : RF F m' n t u := by
  obtain ⟨hn, hrows, hth, hst, hu0, ⟨m0, m1, m2, m3, m4, m5, m6, m7, m8, m9, m10, m11, m12⟩, hac⟩ := h
  refine ⟨hn, hrows, fun j hj => ⟨(hth j hj).1, (e (20 + j) (by omega)).symm.trans (hth j hj).2.1, (hth j hj).2.2⟩, fun j hj => ⟨(hst j hj).1, (e (13 + j) (by omega)).symm.trans (hst j hj).2.1, (hst j hj).2.2⟩, hu0, ⟨?_, ?_, ?_, ?_, ?_, ?_, ?_, ?_, ?_, ?_, ?_, ?_, ?_⟩, hac⟩
  · rw [← e 0 (by decide)]; exact m0
  · rw [← e 1 (by decide)]; exact m1
  · rw [← e 2 (by decide)]; exact m2
  · rw [← e 3 (by decide)]; exact m3
  · rw [← e 4 (by decide)]; exact m4
  · rw [← e 5 (by decide)]; exact m5
  · rw [← e 6 (by decide)]; exact m6
  · rw [← e 7 (by decide)]; exact m7
  · rw [← e 8 (by decide)]; exact m8
  · rw [← e 9 (by decide)]; exact m9
  · rw [← e 10 (by decide)]; exact m10
  · rw [← e 11 (by decide)]; exact m11
  · rw [← e 12 (by decide)]; exact m12
def RH (qz : Int32) (qS : Nat → FD) (M : MD) : Prop := ∃ h : Nat, h ≤ 5 ∧ qz = nI h ∧ MD.pasts M = nI h ∧ ∀ i, i < h → ∃ (n : Nat) (t u : Nat → Nat), RF (qS i) (fun j => MD.past M (44 * i + j)) n t u
theorem n44 (h i : Nat) : (44 : Int32) * nI h + nI i = nI (44 * h + i) := by
  rw [show (44 : Int32) * nI h = nI (44 * h) from pk_mul 44 h, nI_add]
theorem rec50 {k h : Nat} (hh : h ≤ 4) : ∀ (d i f : Nat) (M : MD), i + d = 44 → d < f → MD.pasts M = nI h →
    ∃ g : Nat → Int32, p_X5_records_L50 k f M (nI i) = some (wpp M g (nI (h + 1))) ∧ (∀ j, i ≤ j → j < 44 → g (44 * h + j) = MD.st M j) ∧ ∀ q, q < 44 * h + i → g q = MD.past M q
  | 0, i, f, M, hd, hf, hp => by
    obtain ⟨f, rfl⟩ : ∃ f', f = f' + 1 := ⟨f - 1, by omega⟩
    have hi : i = 44 := by omega
    subst hi
    refine ⟨MD.past M, ?_, fun j h1 h2 => absurd h1 (by omega), fun q hq => rfl⟩
    rw [p_X5_records_L50, if_pos (by decide), hp, nI_1]
    rfl
  | d + 1, i, f, M, hd, hf, hp => by
    obtain ⟨f, rfl⟩ : ∃ f', f = f' + 1 := ⟨f - 1, by omega⟩
    obtain ⟨g, e1, e2, e3⟩ := rec50 (k := k) hh d (i + 1) f (wpp M (upd (MD.past M) (44 * h + i) (MD.st M i)) (MD.pasts M)) (by omega) (by omega) hp
    refine ⟨g, ?_, fun j h1 h2 => ?_, fun q hq => (e3 q (by omega)).trans (un (by omega))⟩
    · rw [p_X5_records_L50, if_neg (show ¬ (44 : Int32) ≤ nI i from nI_ge (b := 44) (by omega) (by decide)), ald_at i rfl (by omega) (by decide), Option.bind_some, hp, n44, ast_at (44 * h + i) rfl (by omega) (by decide), Option.bind_some, nI_1]
      rw [hp] at e1
      exact e1
    · by_cases c : j = i
      · subst c
        exact (e3 (44 * h + j) (by omega)).trans us
      · exact e2 j (by omega) h2
theorem rec10 {k : Nat} : ∀ (d i f : Nat) (M : MD), i + d = 176 → d < f →
    ∃ g : Nat → Int32, p_X5_records_L10 k f M (nI i) = p_X5_records_L50 k k (wpp M g (MD.pasts M - 1)) 0 ∧ (∀ q, i ≤ q → q < 176 → g q = MD.past M (q + 44)) ∧ ∀ q, q < i → g q = MD.past M q
  | 0, i, f, M, hd, hf => by
    obtain ⟨f, rfl⟩ : ∃ f', f = f' + 1 := ⟨f - 1, by omega⟩
    have hi : i = 176 := by omega
    subst hi
    refine ⟨MD.past M, ?_, fun j h1 h2 => absurd h1 (by omega), fun q hq => rfl⟩
    rw [p_X5_records_L10, if_pos (by decide)]
    rfl
  | d + 1, i, f, M, hd, hf => by
    obtain ⟨f, rfl⟩ : ∃ f', f = f' + 1 := ⟨f - 1, by omega⟩
    obtain ⟨g, e1, e2, e3⟩ := rec10 (k := k) d (i + 1) f (wpp M (upd (MD.past M) i (MD.past M (i + 44))) (MD.pasts M)) (by omega) (by omega)
    refine ⟨g, ?_, fun q h1 h2 => ?_, fun q hq => (e3 q (by omega)).trans (un (by omega))⟩
    · rw [p_X5_records_L10, if_neg (show ¬ (176 : Int32) ≤ nI i from nI_ge (b := 176) (by omega) (by decide)), show nI i + 44 = nI (i + 44) from nI_add i 44, ald_at (i + 44) rfl (by omega) (by decide), Option.bind_some, ast_at i rfl (by omega) (by decide), Option.bind_some, nI_1]
      exact e1
    · by_cases c : q = i
      · subst c
        exact (e3 q (by omega)).trans us
      · exact (e2 q (by omega) h2).trans (un (by omega))
theorem keep_lt {k h : Nat} {qA : Nat → AF} {qS : Nat → FD} {F : FD} (hh : h ≤ 4) : p_X2_keep k qA (nI h) qS F = some (qA, nI (h + 1), va_up qS h F) := by
  have : h = 0 ∨ h = 1 ∨ h = 2 ∨ h = 3 ∨ h = 4 := by omega
  rcases this with rfl | rfl | rfl | rfl | rfl <;> rfl
theorem keep_5 {k : Nat} {qA : Nat → AF} {qS : Nat → FD} {F : FD} : p_X2_keep k qA (nI 5) qS F = some (rot qA, 5, va_up (rot qS) 4 F) := rfl
theorem rest_h {k h : Nat} {qA : Nat → AF} {qS : Nat → FD} {F : FD} (hh : h ≤ 4) : p_X2_restore k qA (nI (h + 1)) qS F = some (qA, nI h, qS, qS h) := by
  have : h = 0 ∨ h = 1 ∨ h = 2 ∨ h = 3 ∨ h = 4 := by omega
  rcases this with rfl | rfl | rfl | rfl | rfl <;> rfl
theorem keepR {k n : Nat} {u t : Nat → Nat} {F : FD} {M : MD} {qA : Nat → AF} {qz : Int32} {qS : Nat → FD} (hk : 300 ≤ k) (h : RF F (MD.st M) n t u) (hh : RH qz qS M) :
    ∃ (A' : Nat → AF) (z' : Int32) (S' : Nat → FD) (g : Nat → Int32) (z : Int32), p_X2_keep k qA qz qS F = some (A', z', S') ∧ p_X5_records k M = some (wpp M g z) ∧ RH z' S' (wpp M g z) := by
  obtain ⟨h', h5, rfl, hp, hs⟩ := hh
  unfold p_X5_records
  by_cases c : h' = 5
  · subst c
    obtain ⟨g1, e1, e2, -⟩ := rec10 (k := k) 176 0 k M (by omega) (by omega)
    obtain ⟨g2, e3, e4, e5⟩ := rec50 (k := k) (h := 4) (by decide) 44 0 k (wpp M g1 (MD.pasts M - 1)) (by omega) (by omega) (by show MD.pasts M - 1 = nI 4; rw [hp]; rfl)
    refine ⟨_, _, _, g2, nI 5, keep_5, ?_, 5, Nat.le_refl 5, rfl, rfl, fun i hi => ?_⟩
    · rw [hp, if_pos (show nI 5 = 5 from rfl)]
      exact e1.trans e3
    · by_cases ci : i = 4
      · subst ci
        exact ⟨n, t, u, RF_cong (fun j hj => (e4 j (Nat.zero_le j) hj).symm) h⟩
      · obtain ⟨n2, t2, u2, h2⟩ := hs (i + 1) (by omega)
        refine ⟨n2, t2, u2, ?_⟩
        have es : va_up (rot qS) 4 F i = qS (i + 1) := by
          have : i = 0 ∨ i = 1 ∨ i = 2 ∨ i = 3 := by omega
          rcases this with rfl | rfl | rfl | rfl <;> rfl
        rw [es]
        refine RF_cong (fun j hj => ?_) h2
        show MD.past M (44 * (i + 1) + j) = g2 (44 * i + j)
        rw [e5 (44 * i + j) (by omega)]
        show _ = g1 (44 * i + j)
        rw [e2 (44 * i + j) (Nat.zero_le _) (by omega)]
        congr 1
        omega
  · obtain ⟨g2, e3, e4, e5⟩ := rec50 (k := k) (h := h') (by omega) 44 0 k M (by omega) (by omega) hp
    refine ⟨_, _, _, g2, nI (h' + 1), keep_lt (by omega), ?_, h' + 1, by omega, rfl, rfl, fun i hi => ?_⟩
    · rw [hp, if_neg (show ¬ nI h' = 5 from fun w => c ((nI_eq (b := 5) (by omega) (by decide)).mp w))]
      exact e3
    · by_cases ci : i = h'
      · subst ci
        refine ⟨n, t, u, ?_⟩
        rw [show va_up qS i F i = F from if_pos rfl]
        exact RF_cong (fun j hj => (e4 j (Nat.zero_le j) hj).symm) h
      · obtain ⟨n2, t2, u2, h2⟩ := hs i (by omega)
        refine ⟨n2, t2, u2, ?_⟩
        rw [show va_up qS h' F i = qS i from if_neg ci]
        exact RF_cong (fun j hj => (e5 (44 * i + j) (by omega)).symm) h2
theorem und22 {k h : Nat} (hh : h ≤ 4) : ∀ (d i f : Nat) (M : MD), i + d = 44 → d < f → MD.pasts M = nI h →
    ∃ g : Nat → Int32, p_X5_undo_L22 k f M (nI i) = some (nI h, wst M g) ∧ (∀ j, i ≤ j → j < 44 → g j = MD.past M (44 * h + j)) ∧ ∀ q, q < i → g q = MD.st M q
  | 0, i, f, M, hd, hf, hp => by
    obtain ⟨f, rfl⟩ : ∃ f', f = f' + 1 := ⟨f - 1, by omega⟩
    have hi : i = 44 := by omega
    subst hi
    refine ⟨MD.st M, ?_, fun j h1 h2 => absurd h1 (by omega), fun q hq => rfl⟩
    rw [p_X5_undo_L22, if_pos (by decide), hp]
    rfl
  | d + 1, i, f, M, hd, hf, hp => by
    obtain ⟨f, rfl⟩ : ∃ f', f = f' + 1 := ⟨f - 1, by omega⟩
    obtain ⟨g, e1, e2, e3⟩ := und22 (k := k) hh d (i + 1) f (wst M (upd (MD.st M) i (MD.past M (44 * h + i)))) (by omega) (by omega) hp
    refine ⟨g, ?_, fun j h1 h2 => ?_, fun q hq => (e3 q (by omega)).trans (un (by omega))⟩
    · rw [p_X5_undo_L22, if_neg (show ¬ (44 : Int32) ≤ nI i from nI_ge (b := 44) (by omega) (by decide)), show ald (MD.past M) 220 (44 * MD.pasts M + nI i) = some (MD.past M (44 * h + i)) by rw [hp, n44]; exact ald_at (44 * h + i) rfl (by omega) (by decide), Option.bind_some, ast_at i rfl (by omega) (by decide), Option.bind_some, nI_1]
      exact e1
    · by_cases c : j = i
      · subst c
        exact (e3 j (by omega)).trans us
      · exact e2 j (by omega) h2
theorem asideL {k : Nat} : ∀ (d i f : Nat) (M : MD), i + d = 44 → d < f →
    ∃ g : Nat → Int32, p_X5_laysAside_L2 k f M (nI i) = some (was M g) ∧ (∀ j, i ≤ j → j < 44 → g j = MD.st M j) ∧ ∀ q, q < i → g q = MD.aside M q
  | 0, i, f, M, hd, hf => by
    obtain ⟨f, rfl⟩ : ∃ f', f = f' + 1 := ⟨f - 1, by omega⟩
    have hi : i = 44 := by omega
    subst hi
    refine ⟨MD.aside M, ?_, fun j h1 h2 => absurd h1 (by omega), fun q hq => rfl⟩
    rw [p_X5_laysAside_L2, if_pos (by decide)]
    rfl
  | d + 1, i, f, M, hd, hf => by
    obtain ⟨f, rfl⟩ : ∃ f', f = f' + 1 := ⟨f - 1, by omega⟩
    obtain ⟨g, e1, e2, e3⟩ := asideL (k := k) d (i + 1) f (was M (upd (MD.aside M) i (MD.st M i))) (by omega) (by omega)
    refine ⟨g, ?_, fun j h1 h2 => ?_, fun q hq => (e3 q (by omega)).trans (un (by omega))⟩
    · rw [p_X5_laysAside_L2, if_neg (show ¬ (44 : Int32) ≤ nI i from nI_ge (b := 44) (by omega) (by decide)), ald_at i rfl (by omega) (by decide), Option.bind_some, ast_at i rfl (by omega) (by decide), Option.bind_some, nI_1]
      exact e1
    · by_cases c : j = i
      · subst c
        exact (e3 j (by omega)).trans us
      · exact e2 j (by omega) h2
theorem backL {k : Nat} : ∀ (d i f : Nat) (M : MD), i + d = 44 → d < f →
    ∃ g : Nat → Int32, p_X5_bringsBack_L2 k f M (nI i) = some (wst M g) ∧ (∀ j, i ≤ j → j < 44 → g j = MD.aside M j) ∧ ∀ q, q < i → g q = MD.st M q
  | 0, i, f, M, hd, hf => by
    obtain ⟨f, rfl⟩ : ∃ f', f = f' + 1 := ⟨f - 1, by omega⟩
    have hi : i = 44 := by omega
    subst hi
    refine ⟨MD.st M, ?_, fun j h1 h2 => absurd h1 (by omega), fun q hq => rfl⟩
    rw [p_X5_bringsBack_L2, if_pos (by decide)]
    rfl
  | d + 1, i, f, M, hd, hf => by
    obtain ⟨f, rfl⟩ : ∃ f', f = f' + 1 := ⟨f - 1, by omega⟩
    obtain ⟨g, e1, e2, e3⟩ := backL (k := k) d (i + 1) f (wst M (upd (MD.st M) i (MD.aside M i))) (by omega) (by omega)
    refine ⟨g, ?_, fun j h1 h2 => ?_, fun q hq => (e3 q (by omega)).trans (un (by omega))⟩
    · rw [p_X5_bringsBack_L2, if_neg (show ¬ (44 : Int32) ≤ nI i from nI_ge (b := 44) (by omega) (by decide)), ald_at i rfl (by omega) (by decide), Option.bind_some, ast_at i rfl (by omega) (by decide), Option.bind_some, nI_1]
      exact e1
    · by_cases c : j = i
      · subst c
        exact (e3 j (by omega)).trans us
      · exact e2 j (by omega) h2
theorem q_aside {k : Nat} (hk : 100 ≤ k) (M : MD) : ∃ g : Nat → Int32, p_X5_laysAside k M = some (was M g) ∧ ∀ j, j < 44 → g j = MD.st M j := by
  obtain ⟨g, e1, e2, -⟩ := asideL (k := k) 44 0 k M (by omega) (by omega)
  exact ⟨g, e1, fun j hj => e2 j (Nat.zero_le j) hj⟩
theorem q_back {k : Nat} (hk : 100 ≤ k) (M : MD) : ∃ g : Nat → Int32, p_X5_bringsBack k M = some (wst M g) ∧ ∀ j, j < 44 → g j = MD.aside M j := by
  obtain ⟨g, e1, e2, -⟩ := backL (k := k) 44 0 k M (by omega) (by omega)
  exact ⟨g, e1, fun j hj => e2 j (Nat.zero_le j) hj⟩
/-- the texts -/
def RT (T : TD) (M : MD) : Prop := ∃ (L : Nat) (c : Nat → Nat), L ≤ 100 ∧ TD.length T = nI L ∧ MD.length M = nI L ∧ ∀ j, j < L → TD.sg T j = nI (c j) ∧ MD.text M j = nI (c j) ∧ 32 ≤ c j ∧ c j ≤ 126
def RS (F : FD) (qz : Int32) (qS : Nat → FD) (T : TD) (M : MD) : Prop := (∃ (n : Nat) (t u : Nat → Nat), RF F (MD.st M) n t u) ∧ RH qz qS M ∧ RT T M
theorem undoR {k : Nat} {F : FD} {M : MD} {T : TD} {qA : Nat → AF} {qz : Int32} {qS : Nat → FD} (hk : 300 ≤ k) (h : RS F qz qS T M) :
    ∃ (r : Int32) (F' : FD) (A' : Nat → AF) (z' : Int32) (S' : Nat → FD) (M' : MD), p_X4_undo k F qA qz qS = some (r, F', A', z', S') ∧ p_X5_undo k M = some (r, M') ∧ RS F' z' S' T M' := by
  obtain ⟨hf, hh, ht⟩ := id h
  obtain ⟨h', h5, rfl, hp, hs⟩ := hh
  unfold p_X4_undo p_X5_undo
  by_cases c : h' = 0
  · subst c
    rw [if_pos (show nI 0 = 0 from rfl), hp, if_pos (show nI 0 = 0 from rfl)]
    exact ⟨_, _, _, _, _, _, rfl, rfl, h⟩
  · obtain ⟨h', rfl⟩ : ∃ q, h' = q + 1 := ⟨h' - 1, by omega⟩
    obtain ⟨g, e1, e2, -⟩ := und22 (k := k) (h := h') (by omega) 44 0 k (wpp M (MD.past M) (MD.pasts M - 1)) (by omega) (by omega) (by show MD.pasts M - 1 = nI h'; rw [hp, nI_pred])
    rw [if_neg (nI_ne0 (by omega) (by omega)), hp, if_neg (nI_ne0 (by omega) (by omega)), rest_h (by omega)]
    rw [hp] at e1 e2
    refine ⟨nI h', qS h', qA, nI h', qS, _, rfl, e1, ?_, ⟨h', by omega, rfl, nI_pred h', fun i hi => hs i (by omega)⟩, ht⟩
    obtain ⟨n2, t2, u2, h2⟩ := hs h' (by omega)
    exact ⟨n2, t2, u2, RF_cong (fun j hj => (e2 j (Nat.zero_le j) hj).symm) h2⟩
