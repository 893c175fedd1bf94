/-! p23, PURE: what the law's own run needs. -/
theorem prtR (k : Nat) (v : Int32) {x : Int32} (n : Nat) (hx : x = nI n) (h0 : 0 < n) (hn : n < 2 ^ 31) : ∃ i : Nat, i < n ∧ p_L_part k v x = some (nI i) := by
  subst hx
  obtain ⟨j, hj, e⟩ := pk_andE v (m := 2147483647) 31 (by decide)
  refine ⟨j % n, Nat.mod_lt j h0, ?_⟩
  unfold p_L_part
  rw [e, pk_rem hj h0 hn]
theorem opAll {k : Nat} {F : FD} {P : (Nat → AF) → Int32 → (Nat → FD) → Option (Int32 × FD × (Nat → AF) × Int32 × (Nat → FD))} {A : Nat → AF} {z : Int32} {S : Nat → FD} {T : TD} {M : MD} {X : Int32 → MD → Prop} (hu : Uni k F P) (hR : RS F z S T M) (h : ∃ (r : Int32) (F1 : FD) (A1 : Nat → AF) (z1 : Int32) (S1 : Nat → FD) (M1 : MD), P A z S = some (r, F1, A1, z1, S1) ∧ X r M1 ∧ RS F1 z1 S1 T M1) :
    ∃ (r : Int32) (F1 : FD) (A1 : Nat → AF) (z1 : Int32) (S1 : Nat → FD) (M1 : MD), P A z S = some (r, F1, A1, z1, S1) ∧ RS F1 z1 S1 T M1 ∧ (SM F → SM F1) ∧ ((r < 0 ∧ F1 = F ∧ A1 = A ∧ z1 = z ∧ S1 = S) ∨ (0 ≤ r ∧ p_X2_keep k A z S F = some (A1, z1, S1))) := by
  obtain ⟨r, F1, A1, z1, S1, M1, e, -, hR1⟩ := h
  obtain ⟨⟨n, t, u, hf⟩, -, -⟩ := id hR
  obtain ⟨⟨n', t', u', hf'⟩, -, -⟩ := id hR1
  obtain ⟨h1, h2⟩ := uni_all hu e hf hf'
  exact ⟨r, F1, A1, z1, S1, M1, e, hR1, h1, h2⟩
/-- the digest, of the film alone -/
def dgF (k : Nat) (F : FD) : Option Int64 := p_L_state k F A00 0 S00 td0
theorem dgF_of {k : Nat} {F : FD} {A : Nat → AF} {z : Int32} {S : Nat → FD} {T : TD} : p_L_state k F A z S T = dgF k F := st_free
/-- the law's run of changes: c of them so far, the digests ahead of them in w -/
def LI (k : Nat) (F : FD) (z : Int32) (S : Nat → FD) (T : TD) (w : Nat → Int64) (c : Nat) : Prop :=
  SM F ∧ (∃ M, RS F z S T M) ∧ z = nI (min 5 (3 + c)) ∧ ∀ i, i < min c 5 → dgF k (S (min 5 (3 + c) - 1 - i)) = some (w (c - 1 - i))
/-- a change is recorded -/
theorem LI_keep {k c : Nat} {F F1 : FD} {A A1 : Nat → AF} {z z1 : Int32} {S S1 : Nat → FD} {T : TD} {w : Nat → Int64} {v : Int64} (h : LI k F z S T w c) (hv : dgF k F = some v) (hk : p_X2_keep k A z S F = some (A1, z1, S1)) (hs : SM F1) (hR : ∃ M, RS F1 z1 S1 T M) : LI k F1 z1 S1 T (vp_updL w c v) (c + 1) := by
  obtain ⟨-, -, hz, hw⟩ := h
  subst hz
  by_cases h5 : 2 ≤ c
  · rw [show min 5 (3 + c) = 5 by omega] at hk hw
    rw [keep_5] at hk
    obtain ⟨rfl, rfl, rfl⟩ := inj3 hk
    refine ⟨hs, hR, by rw [show min 5 (3 + (c + 1)) = 5 by omega]; rfl, fun i hi => ?_⟩
    rw [show min 5 (3 + (c + 1)) = 5 by omega]
    by_cases c0 : i = 0
    · subst c0
      show dgF k (va_up (rot S) 4 F 4) = some (vp_updL w c v (c + 1 - 1 - 0))
      rw [show va_up (rot S) 4 F 4 = F from if_pos rfl, show c + 1 - 1 - 0 = c by omega, pk_uLs]
      exact hv
    · rw [pk_uLn (show c + 1 - 1 - i ≠ c by omega)]
      have h1 := hw (i - 1) (by omega)
      rw [show c - 1 - (i - 1) = c + 1 - 1 - i by omega] at h1
      rw [← h1]
      congr 1
      have : i = 1 ∨ i = 2 ∨ i = 3 ∨ i = 4 := by omega
      rcases this with rfl | rfl | rfl | rfl <;> rfl
  · have hm : min 5 (3 + c) = 3 + c := by omega
    have hm1 : min 5 (3 + (c + 1)) = 3 + c + 1 := by omega
    rw [hm] at hk hw
    rw [keep_lt (by omega)] at hk
    obtain ⟨rfl, rfl, rfl⟩ := inj3 hk
    refine ⟨hs, hR, by rw [hm1], fun i hi => ?_⟩
    rw [hm1]
    by_cases c0 : i = 0
    · subst c0
      rw [show 3 + c + 1 - 1 - 0 = 3 + c by omega, show c + 1 - 1 - 0 = c by omega, pk_uLs, show va_up S (3 + c) F (3 + c) = F from if_pos rfl]
      exact hv
    · rw [pk_uLn (show c + 1 - 1 - i ≠ c by omega), show va_up S (3 + c) F (3 + c + 1 - 1 - i) = S (3 + c + 1 - 1 - i) from if_neg (by omega)]
      have h1 := hw (i - 1) (by omega)
      rw [show c - 1 - (i - 1) = c + 1 - 1 - i by omega, show 3 + c - 1 - (i - 1) = 3 + c + 1 - 1 - i by omega] at h1
      exact h1
/-- what is refused leaves all of it -/
theorem LI_same {k c : Nat} {F : FD} {z : Int32} {S : Nat → FD} {T : TD} {w : Nat → Int64} {v : Int64} (h : LI k F z S T w c) : LI k F z S T (vp_updL w c v) c := by
  obtain ⟨h1, h2, h3, h4⟩ := h
  refine ⟨h1, h2, h3, fun i hi => ?_⟩
  rw [pk_uLn (show c - 1 - i ≠ c by omega)]
  exact h4 i hi
theorem LI_start {k : Nat} {F : FD} {z : Int32} {S : Nat → FD} {T : TD} {w : Nat → Int64} (hs : SM F) (hR : ∃ M, RS F z S T M) (hz : z = 3) : LI k F z S T w 0 :=
  ⟨hs, hR, by rw [hz]; rfl, fun i hi => absurd hi (by omega)⟩
/-- j times undone -/
def LU (k : Nat) (F : FD) (z : Int32) (S : Nat → FD) (T : TD) (w : Nat → Int64) (c j : Nat) : Prop :=
  (∃ M, RS F z S T M) ∧ j ≤ min c 5 ∧ z = nI (min 5 (3 + c) - j) ∧ ∀ i, i < min c 5 → dgF k (S (min 5 (3 + c) - 1 - i)) = some (w (c - 1 - i))
theorem LU_0 {k c : Nat} {F : FD} {z : Int32} {S : Nat → FD} {T : TD} {w : Nat → Int64} (h : LI k F z S T w c) : LU k F z S T w c 0 := ⟨h.2.1, Nat.zero_le _, h.2.2.1, h.2.2.2⟩
theorem LU_step {k c j : Nat} {F : FD} {A : Nat → AF} {z : Int32} {S : Nat → FD} {T : TD} {w : Nat → Int64} (hk : 300 ≤ k) (h : LU k F z S T w c j) (hj : j < min c 5) :
    ∃ F1, p_X4_undo k F A z S = some (nI (min 5 (3 + c) - (j + 1)), F1, A, nI (min 5 (3 + c) - (j + 1)), S) ∧ LU k F1 (nI (min 5 (3 + c) - (j + 1))) S T w c (j + 1) ∧ dgF k F1 = some (w (c - (j + 1))) := by
  obtain ⟨⟨M, hR⟩, h1, hz, h2⟩ := h
  obtain ⟨q, hq⟩ : ∃ q, min 5 (3 + c) - j = q + 1 := ⟨min 5 (3 + c) - j - 1, by omega⟩
  have hq4 : q ≤ 4 := by omega
  rw [hq] at hz
  subst hz
  have e : p_X4_undo k F A (nI (q + 1)) S = some (nI q, S q, A, nI q, S) := by
    unfold p_X4_undo
    rw [if_neg (nI_ne0 (by omega) (by omega)), rest_h hq4]
    rfl
  obtain ⟨r, F', A', z', S', M', e2, -, hR'⟩ := undoR (k := k) (qA := A) hk hR
  obtain ⟨rfl, rfl, rfl, rfl, rfl⟩ := inj5 (e.symm.trans e2)
  rw [show min 5 (3 + c) - (j + 1) = q by omega]
  refine ⟨S q, e, ⟨⟨M', hR'⟩, by omega, by rw [show min 5 (3 + c) - (j + 1) = q by omega], h2⟩, ?_⟩
  have h3 := h2 j hj
  rw [show min 5 (3 + c) - 1 - j = q by omega, show c - 1 - j = c - (j + 1) by omega] at h3
  exact h3
theorem undo_none {k : Nat} {F : FD} {A : Nat → AF} {S : Nat → FD} : p_X4_undo k F A 0 S = some (-2, F, A, 0, S) := rfl
/-! the empty frame: ticks alone -/
def fdt (n : Nat) : FD := mkFD (fun _ => 0) tb_FIRST_SETTING (fun _ => 0) 0 (nI n) 0 0 0 0 0
theorem fdt_tick {k n : Nat} : p_X0_tick k (fdt n) = some (fdt (n + 1)) := by
  unfold p_X0_tick
  rw [if_pos (show FD.rows (fdt n) ≤ 0 from Int32.le_refl 0), show FD.ticks (fdt n) + 1 = nI (n + 1) from nI_1 n]
  rfl
theorem fdt_goL {k a : Nat} {A : Nat → AF} {z : Int32} {S : Nat → FD} (ha : a ≤ 1000) : ∀ (d i f n : Nat), i + d = a → d < f → p_X4_go_L45 k A z S (nI a) f (fdt n) 0 (nI i) = some (0, fdt (n + d), A, z, S)
  | 0, i, f, n, hd, hf => by
    obtain ⟨f, rfl⟩ : ∃ f', f = f' + 1 := ⟨f - 1, by omega⟩
    have hi : i = a := by omega
    subst hi
    rw [p_X4_go_L45, if_pos (Int32.le_refl _)]
    rfl
  | d + 1, i, f, n, hd, hf => by
    obtain ⟨f, rfl⟩ : ∃ f', f = f' + 1 := ⟨f - 1, by omega⟩
    rw [p_X4_go_L45, if_neg (nI_ge (by omega) (by omega)), if_pos (show FD.rows (fdt n) ≤ 0 from Int32.le_refl 0), fdt_tick, Option.bind_some, nI_1, fdt_goL ha d (i + 1) f (n + 1) (by omega) (by omega), show n + 1 + d = n + (d + 1) by omega]
theorem fdt_go {k n : Nat} {A A1 : Nat → AF} {z z1 : Int32} {S S1 : Nat → FD} (hk : 1001 ≤ k) (hn : n + 1000 ≤ 100000) (he : p_X2_keep k A z S (fdt n) = some (A1, z1, S1)) : p_X4_go k (fdt n) A z S 1000 = some (0, fdt (n + 1000), A1, z1, S1) := by
  unfold p_X4_go
  rw [show p_X4_isBetween k 1000 1 1000 = some 1 from rfl, Option.bind_some, if_neg (by decide), if_pos (show FD.ticks (fdt n) + 1000 ≤ 100000 by
    show nI n + nI 1000 ≤ nI 100000
    rw [nI_add]
    exact nI_le hn (by decide)), he]
  exact fdt_goL (a := 1000) (Nat.le_refl _) 1000 0 k n (by omega) (by omega)
theorem fdt_full {k : Nat} {A : Nat → AF} {z : Int32} {S : Nat → FD} : p_X4_go k (fdt 100000) A z S 1 = some (-3, fdt 100000, A, z, S) := by
  unfold p_X4_go
  rw [show p_X4_isBetween k 1 1 1000 = some 1 from rfl, Option.bind_some, if_neg (by decide), if_neg (show ¬ FD.ticks (fdt 100000) + 1 ≤ 100000 by decide)]
/-- j thousands of ticks have gone by -/
def LE0 (F : FD) (z : Int32) (S : Nat → FD) (j : Nat) : Prop := F = fdt (1000 * j) ∧ z = nI (min 5 j) ∧ (0 < j → S (min 5 j - 1) = fdt (1000 * (j - 1)))
theorem LE0_go {k j : Nat} {F : FD} {A : Nat → AF} {z : Int32} {S : Nat → FD} (hk : 1001 ≤ k) (hj : j < 100) (h : LE0 F z S j) : ∃ F1 A1 z1 S1, p_X4_go k F A z S 1000 = some (0, F1, A1, z1, S1) ∧ LE0 F1 z1 S1 (j + 1) := by
  obtain ⟨rfl, rfl, -⟩ := h
  by_cases h5 : 5 ≤ j
  · rw [show min 5 j = 5 by omega]
    refine ⟨_, _, _, _, fdt_go hk (by omega) keep_5, by rw [show 1000 * (j + 1) = 1000 * j + 1000 by omega], by rw [show min 5 (j + 1) = 5 by omega]; rfl, fun _ => ?_⟩
    rw [show min 5 (j + 1) - 1 = 4 by omega, show j + 1 - 1 = j by omega]
    exact if_pos rfl
  · rw [show min 5 j = j by omega]
    refine ⟨_, _, _, _, fdt_go hk (by omega) (keep_lt (by omega)), by rw [show 1000 * (j + 1) = 1000 * j + 1000 by omega], by rw [show min 5 (j + 1) = j + 1 by omega], fun _ => ?_⟩
    rw [show min 5 (j + 1) - 1 = j by omega, show j + 1 - 1 = j by omega]
    exact if_pos rfl
theorem LE0_undo {k : Nat} {F : FD} {A : Nat → AF} {z : Int32} {S : Nat → FD} (h : LE0 F z S 100) : F = fdt 100000 ∧ p_X4_undo k F A z S = some (4, fdt 99000, A, 4, S) ∧ z = 5 := by
  obtain ⟨rfl, rfl, h3⟩ := h
  refine ⟨rfl, ?_, rfl⟩
  have e : S 4 = fdt 99000 := h3 (by decide)
  show (if nI (4 + 1) = 0 then _ else bind4 (p_X2_restore k A (nI (4 + 1)) S (fdt (1000 * 100))) fun A2 z3 S4 F5 => some (z3, F5, A2, z3, S4)) = _
  rw [if_neg (nI_ne0 (by omega) (by decide)), rest_h (Nat.le_refl 4), e]
  rfl
/-! counts that the law asks for -/
section CNT
variable {k : Nat} {F : FD} {A : Nat → AF} {z : Int32} {S : Nat → FD} {T : TD}
theorem cnt_20 : p_X4_count k F A z S T 20 = some (FD.ac F 0) := by unfold p_X4_count; rw [show p_X4_isBetween k 20 20 26 = some 1 from rfl, Option.bind_some, if_neg (by decide), show (20 : Int32) - 20 = 0 from by decide, a7_0]; rfl
theorem cnt_21 : p_X4_count k F A z S T 21 = some (FD.ac F 1) := by unfold p_X4_count; rw [show p_X4_isBetween k 21 20 26 = some 1 from rfl, Option.bind_some, if_neg (by decide), show (21 : Int32) - 20 = 1 from by decide, a7_1]; rfl
theorem cnt_22 : p_X4_count k F A z S T 22 = some (FD.ac F 2) := by unfold p_X4_count; rw [show p_X4_isBetween k 22 20 26 = some 1 from rfl, Option.bind_some, if_neg (by decide), show (22 : Int32) - 20 = 2 from by decide, a7_2]; rfl
theorem cnt_23 : p_X4_count k F A z S T 23 = some (FD.ac F 3) := by unfold p_X4_count; rw [show p_X4_isBetween k 23 20 26 = some 1 from rfl, Option.bind_some, if_neg (by decide), show (23 : Int32) - 20 = 3 from by decide, a7_3]; rfl
theorem cnt_24 : p_X4_count k F A z S T 24 = some (FD.ac F 4) := by unfold p_X4_count; rw [show p_X4_isBetween k 24 20 26 = some 1 from rfl, Option.bind_some, if_neg (by decide), show (24 : Int32) - 20 = 4 from by decide, a7_4]; rfl
theorem cnt_25 : p_X4_count k F A z S T 25 = some (FD.ac F 5) := by unfold p_X4_count; rw [show p_X4_isBetween k 25 20 26 = some 1 from rfl, Option.bind_some, if_neg (by decide), show (25 : Int32) - 20 = 5 from by decide, a7_5]; rfl
theorem cnt_26 : p_X4_count k F A z S T 26 = some (FD.ac F 6) := by unfold p_X4_count; rw [show p_X4_isBetween k 26 20 26 = some 1 from rfl, Option.bind_some, if_neg (by decide), show (26 : Int32) - 20 = 6 from by decide, a7_6]; rfl
end CNT
/-! the law's first calls -/
theorem nn_lt {r : Int32} (h : 0 ≤ r) : ¬ r < 0 := Int32.not_lt.mpr h
/-- twenty-four rows: dipped, and the room is used up -/
theorem dip24 {k b c : Nat} (hk : 300 ≤ k) (hb : b < 500) (hc : c < 196) {A : Nat → AF} {S : Nat → FD} : ∃ (r : Int32) (F1 : FD) (M1 : MD), p_X4_dip k fd0 A 0 S 24 (nI b) (nI c) = some (r, F1, A, 1, va_up S 0 fd0) ∧ ¬ r < 0 ∧ SM F1 ∧ RS F1 1 (va_up S 0 fd0) td0 M1 ∧ FD.rows F1 = 24 := by
  have hs0 : SM fd0 := by
    show (0 : Int32) = 0 + 0 + 0 + 0 + 0 + 0
    decide
  have step : p_X4_dip k fd0 A 0 S 24 (nI b) (nI c) = bind3 (p_X2_keep k A 0 S fd0) fun A9 z10 S11 => (p_X0_takeAway k fd0).bind fun F12 => p_X4_dip_L66 k A9 z10 S11 24 (nI b) (nI c) k F12 0 := by
    unfold p_X4_dip
    have hca : c * 23 ≤ 195 * 23 := Nat.mul_le_mul (by omega) (Nat.le_refl _)
    have e1 : ¬ bet (24 : Int32) 1 24 = 0 := by decide
    have e2 : ¬ bet (nI b) 0 5000 = 0 := bet_y (a := 0) (b := 5000) (by decide) (Nat.zero_le _) (by omega)
    have e3 : ¬ bet (nI c) 0 500 = 0 := bet_y (a := 0) (b := 500) (by decide) (Nat.zero_le _) (by omega)
    have e4 : ¬ bet (nI b + nI c * ((24 : Int32) - 1)) 0 5000 = 0 := by
      rw [show (24 : Int32) - 1 = nI 23 from by decide, pk_mul, nI_add]
      exact bet_y (a := 0) (b := 5000) (by decide) (Nat.zero_le _) (by omega)
    rw [q_bet, Option.bind_some, if_neg e1, q_isT, Option.bind_some, if_neg e2, q_bet, Option.bind_some, if_neg e3, q_isT, Option.bind_some, if_neg e4]
  obtain ⟨r, F1, A1, z1, S1, M1, e, hR1, hs, hn⟩ := opAll (A := A) (uni_dip k fd0 24 (nI b) (nI c)) (rs0 S) (dipR (k := k) (qA := A) hk (rs0 S) 24 (nI b) (nI c))
  have e' : p_X4_dip k fd0 A 0 S 24 (nI b) (nI c) = some (r, F1, A1, z1, S1) := e
  -- the loop adds twenty-four rows
  obtain ⟨⟨n0, t0, w0, hf0⟩, -, -⟩ := id (rs0 S)
  obtain ⟨F12, m12, e12, -, hf12⟩ := awayR (k := k) (by omega) hf0
  have loop : ∀ (d i f : Nat) (F : FD) (M : MD) (t u : Nat → Nat) (A : Nat → AF) (z : Int32) (S : Nat → FD), RF F (MD.st M) i t u → i + d = 24 → d < f → ∃ (r : Int32) (F2 : FD), p_X4_dip_L66 k A z S 24 (nI b) (nI c) f F (nI i) = some (r, F2, A, z, S) ∧ FD.rows F2 = 24 := by
    intro d
    induction d with
    | zero =>
      intro i f F M t u A z S h hd hf
      obtain ⟨f, rfl⟩ : ∃ f', f = f' + 1 := ⟨f - 1, by omega⟩
      have hi : i = 24 := by omega
      subst hi
      refine ⟨FD.ac F 1, F, ?_, h.2.1⟩
      rw [p_X4_dip_L66, if_pos (show (24 : Int32) ≤ nI 24 by decide), a7_1]
      rfl
    | succ d ih =>
      intro i f F M t u A z S h hd hf
      obtain ⟨f, rfl⟩ : ∃ f', f = f' + 1 := ⟨f - 1, by omega⟩
      have hci : c * i ≤ 195 * 23 := Nat.mul_le_mul (by omega) (by omega)
      obtain ⟨F3, m3, e3, -, h3⟩ := appendR (k := k) (x := b + c * i) h (by omega) (by omega)
      obtain ⟨r, F2, e4, h4⟩ := ih (i + 1) f F3 (wst M m3) _ u A z S h3 (by omega) (by omega)
      refine ⟨r, F2, ?_, h4⟩
      rw [p_X4_dip_L66, if_neg (show ¬ (24 : Int32) ≤ nI i from nI_ge (b := 24) (by omega) (by decide)), pk_mul, nI_add, e3, Option.bind_some, nI_1]
      exact e4
  obtain ⟨r2, F2, e2, h24⟩ := loop 24 0 k F12 (wst md0 m12) _ _ A 1 (va_up S 0 fd0) hf12 (by omega) (by omega)
  have e3 : p_X4_dip k fd0 A 0 S 24 (nI b) (nI c) = some (r2, F2, A, 1, va_up S 0 fd0) := by
    rw [step, show p_X2_keep k A 0 S fd0 = some (A, 1, va_up S 0 fd0) from rfl]
    rw [b3, e12, Option.bind_some]
    exact e2
  obtain ⟨rfl, rfl, rfl, rfl, rfl⟩ := inj5 (e3.symm.trans e')
  refine ⟨_, _, M1, e3, ?_, hs hs0, hR1, h24⟩
  rcases hn with ⟨-, -, -, hz, -⟩ | ⟨hn, -⟩
  · exact absurd hz (by decide)
  · exact nn_lt hn
theorem add_24 {k : Nat} {F : FD} {A : Nat → AF} {z : Int32} {S : Nat → FD} (h : FD.rows F = 24) : p_X4_add k F A z S 1 = some (-3, F, A, z, S) := by
  unfold p_X4_add; rw [q_isT, Option.bind_some, if_neg (by decide), if_neg (by rw [h]; decide), if_pos h]
/-- the last of twenty-four rows is cut off, and one comes instead -/
theorem cut_24 {k : Nat} (hk : 300 ≤ k) {F : FD} {A : Nat → AF} {S : Nat → FD} {T : TD} {M : MD} (hs : SM F) (hR : RS F 1 S T M) (h : FD.rows F = 24) : ∃ (r : Int32) (F1 : FD) (M1 : MD), p_X4_cut k F A 1 S = some (r, F1, A, 2, va_up S 1 F) ∧ ¬ r < 0 ∧ SM F1 ∧ RS F1 2 (va_up S 1 F) T M1 ∧ FD.rows F1 = 23 := by
  obtain ⟨r, F1, A1, z1, S1, M1, e, hR1, hs1, hn⟩ := opAll (A := A) (uni_cut k F) hR (cutR (k := k) (qA := A) hk hR)
  have e : p_X4_cut k F A 1 S = some (r, F1, A1, z1, S1) := e
  rcases hn with ⟨hr, -, -, -, -⟩ | ⟨hn, hkp⟩
  · exfalso
    unfold p_X4_cut at e
    rw [if_pos (show (2 : Int32) ≤ FD.rows F by rw [h]; decide)] at e
    obtain ⟨B, y, X, hq, e⟩ := bnd3 e
    obtain ⟨v, F6, h6, e⟩ := bnd2 e
    obtain ⟨⟨n, t, u, hf⟩, -, -⟩ := id hR
    obtain ⟨rfl, -⟩ := inj5 e
    have hn24 := hf.1
    have hrow := hf.2.1
    rw [h] at hrow
    have hn : n = 24 := ((nI_eq (a := 24) (b := n) (by decide) (by omega)).mp hrow).symm
    subst hn
    obtain ⟨g1, -, g3⟩ := hf.2.2.1 23 (by decide)
    rw [h, show (24 : Int32) - 1 = nI 23 from by decide, show (6 : Int32) = nI 6 from rfl, show (5000 : Int32) = nI 5000 from rfl, q_lose (by decide) (by decide) (by omega) g1 (by decide) (by decide)] at h6
    obtain ⟨h7, -⟩ := inj2 h6
    rw [← h7] at hr
    exact nn_lt (nI_nn (by omega)) hr
  · rw [show p_X2_keep k A 1 S F = some (A, 2, va_up S 1 F) from rfl] at hkp
    obtain ⟨rfl, rfl, rfl⟩ := inj3 hkp
    refine ⟨r, F1, M1, e, nn_lt hn, hs1 hs, hR1, ?_⟩
    unfold p_X4_cut at e
    rw [if_pos (show (2 : Int32) ≤ FD.rows F by rw [h]; decide)] at e
    obtain ⟨B, y, X, hq, e⟩ := bnd3 e
    obtain ⟨v, F6, h6, e⟩ := bnd2 e
    obtain ⟨-, e, -⟩ := inj5 e
    unfold p_X0_loseFrom at h6
    obtain ⟨_, -, h6⟩ := bnd h6
    obtain ⟨_, -, h6⟩ := bnd h6
    obtain ⟨_, -, h6⟩ := bnd h6
    obtain ⟨F4, h4, h6⟩ := bnd h6
    obtain ⟨-, rfl⟩ := inj2 h6
    rw [show (6 : Int32) = nI 6 from rfl, q_move (by decide) (by decide)] at h4
    obtain rfl := Option.some.inj h4
    rw [← e]
    show FD.rows F - 1 = 23
    rw [h]
    decide
theorem add_23 {k a : Nat} (hk : 300 ≤ k) (ha : a ≤ 5000) {F : FD} {A : Nat → AF} {S : Nat → FD} {T : TD} {M : MD} (hs : SM F) (hR : RS F 2 S T M) (h : FD.rows F = 23) : ∃ (F1 : FD) (M1 : MD), p_X4_add k F A 2 S (nI a) = some (24, F1, A, 3, va_up S 2 F) ∧ SM F1 ∧ RS F1 3 (va_up S 2 F) T M1 := by
  obtain ⟨r, F1, A1, z1, S1, M1, e, hR1, hs1, hn⟩ := opAll (A := A) (uni_add k F (nI a)) hR (addR (k := k) (qA := A) hk hR (nI a))
  have e : p_X4_add k F A 2 S (nI a) = some (r, F1, A1, z1, S1) := e
  have e0 := e
  unfold p_X4_add at e
  rw [q_isT, Option.bind_some, if_neg (show ¬ bet (nI a) 0 5000 = 0 from bet_y (a := 0) (b := 5000) (by decide) (Nat.zero_le _) ha), if_neg (by rw [h]; decide), if_neg (by rw [h]; decide), show p_X2_keep k A 2 S F = some (A, 3, va_up S 2 F) from rfl, b3] at e
  obtain ⟨F8, h8, e⟩ := bnd e
  obtain ⟨rfl, rfl, rfl, rfl, rfl⟩ := inj5 e
  refine ⟨F8, M1, ?_, hs1 hs, hR1⟩
  rw [e0]
  unfold p_X0_appendRow at h8
  rw [if_neg (by rw [h]; decide)] at h8
  obtain ⟨f2, -, h8⟩ := bnd h8
  obtain ⟨F3, h3, h8⟩ := bnd h8
  obtain rfl := Option.some.inj h8
  have hb : FD.rows F3 = FD.rows F + 1 := by
    unfold p_X0_bring at h3
    obtain ⟨_, -, h3⟩ := bnd h3
    obtain ⟨_, -, h3⟩ := bnd h3
    obtain ⟨_, -, h3⟩ := bnd h3
    obtain ⟨_, -, h3⟩ := bnd h3
    obtain rfl := Option.some.inj h3
    rfl
  rw [hb, h]
  rfl
