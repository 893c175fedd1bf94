/-! PURE PART: signs, numbers, parts of the text. -/
abbrev dg (x : Nat) : Prop := 48 ≤ x ∧ x ≤ 57
def sc (c : Nat → Nat) (L : Nat) : Nat → Nat → Nat
  | 0, _ => 0
  | w + 1, a => if a < L ∧ dg (c a) then sc c L w (a + 1) + 1 else 0
def vl (c : Nat → Nat) : Nat → Nat → Nat → Nat
  | 0, _, x => x
  | m + 1, a, x => vl c m (a + 1) (x * 10 + c a - 48)
theorem sc_le (c : Nat → Nat) (L : Nat) : ∀ w a, sc c L w a ≤ w
  | 0, _ => Nat.le_refl 0
  | w + 1, a => by
    have := sc_le c L w (a + 1)
    rw [sc]
    split <;> omega
theorem sc_in (c : Nat → Nat) (L : Nat) : ∀ w a, a ≤ L → a + sc c L w a ≤ L
  | 0, a, h => h
  | w + 1, a, h => by
    rw [sc]
    by_cases q : a < L ∧ dg (c a)
    · rw [if_pos q]
      have := sc_in c L w (a + 1) q.1
      omega
    · rw [if_neg q]
      exact h
theorem sc_dig (c : Nat → Nat) (L : Nat) : ∀ w a i, i < sc c L w a → dg (c (a + i))
  | 0, a, i, h => absurd h (Nat.not_lt_zero i)
  | w + 1, a, i, h => by
    rw [sc] at h
    by_cases q : a < L ∧ dg (c a)
    · rw [if_pos q] at h
      cases i with
      | zero => exact q.2
      | succ i =>
        have := sc_dig c L w (a + 1) i (by omega)
        rw [show a + (i + 1) = a + 1 + i by omega]
        exact this
    · rw [if_neg q] at h
      omega
theorem sc_end (c : Nat → Nat) (L : Nat) : ∀ w a, sc c L w a < w → a + sc c L w a < L → ¬ dg (c (a + sc c L w a))
  | 0, a, h, _ => absurd h (Nat.not_lt_zero _)
  | w + 1, a, h, h2 => by
    rw [sc] at h h2 ⊢
    by_cases q : a < L ∧ dg (c a)
    · rw [if_pos q] at h h2 ⊢
      have := sc_end c L w (a + 1) (by omega) (by omega)
      rw [show a + (sc c L w (a + 1) + 1) = a + 1 + sc c L w (a + 1) by omega]
      exact this
    · rw [if_neg q] at h h2 ⊢
      intro w2
      exact q ⟨by omega, w2⟩
theorem vl_lt (c : Nat → Nat) : ∀ m a x B, x < B → (∀ i, i < m → dg (c (a + i))) → vl c m a x < B * 10 ^ m
  | 0, a, x, B, h, _ => by
    rw [vl]
    omega
  | m + 1, a, x, B, h, hd => by
    have h0 := hd 0 (by omega)
    unfold dg at h0
    have h1 := vl_lt c m (a + 1) (x * 10 + c a - 48) (B * 10) (by rw [Nat.add_zero] at h0; omega) (fun i hi => by
      have := hd (i + 1) (by omega)
      rw [show a + (i + 1) = a + 1 + i by omega] at this
      exact this)
    rw [vl, Nat.pow_succ]
    have e : B * 10 * 10 ^ m = B * (10 ^ m * 10) := by rw [Nat.mul_assoc, Nat.mul_comm 10]
    rw [e] at h1
    exact h1
theorem v_step (x y : Nat) (h : 48 ≤ y) : nI x * 10 + nI y - 48 = nI (x * 10 + y - 48) := by
  rw [show nI x * 10 = nI (x * 10) from pk_mul x 10, nI_add]
  exact pk_sub (b := 48) (by omega)
theorem v_step5 (x y : Nat) (h : 48 ≤ y) : 10 * nI x + nI y - 48 = nI (x * 10 + y - 48) := by
  rw [show 10 * nI x = nI (x * 10) by rw [Nat.mul_comm]; exact pk_mul 10 x, nI_add]
  exact pk_sub (b := 48) (by omega)
/-- the texts' signs -/
def sgs (f : Nat → Int32) (L : Nat) (c : Nat → Nat) : Prop := L ≤ 100 ∧ ∀ j, j < L → f j = nI (c j) ∧ 32 ≤ c j ∧ c j ≤ 126
theorem sg_at {f : Nat → Int32} {L : Nat} {c : Nat → Nat} (h : sgs f L c) {j : Nat} (hj : j < L) : ald f 100 (nI j) = some (nI (c j)) := by
  have := h.1
  rw [ald_at j rfl (by omega) (by decide), (h.2 j hj).1]
theorem finL {k : Nat} {T : TD} {L e : Nat} {c : Nat → Nat} (h : sgs (TD.sg T) L c) (he : e ≤ L) : ∀ (d i f : Nat), i + d = e → d < f →
    ∃ v : Nat, p_X1_findCross_L2 k T (nI e) f (nI i) = some (nI v) ∧ i ≤ v ∧ v ≤ e ∧ (v < e → c v = 120) ∧ ∀ j, i ≤ j → j < v → c j ≠ 120
  | 0, i, f, hd, hf => by
    obtain ⟨f, rfl⟩ : ∃ f', f = f' + 1 := ⟨f - 1, by omega⟩
    have hi : i = e := by omega
    subst hi
    refine ⟨i, ?_, Nat.le_refl i, Nat.le_refl i, fun q => absurd q (Nat.lt_irrefl i), fun j h1 h2 => by omega⟩
    rw [p_X1_findCross_L2, if_pos (Int32.le_refl (nI i))]
  | d + 1, i, f, hd, hf => by
    obtain ⟨f, rfl⟩ : ∃ f', f = f' + 1 := ⟨f - 1, by omega⟩
    have hL := h.1
    have hc := (h.2 i (by omega)).2
    rw [p_X1_findCross_L2, if_neg (nI_ge (by omega) (by omega)), sg_at h (by omega), Option.bind_some]
    by_cases q : c i = 120
    · rw [if_pos (show nI (c i) = 120 by rw [q]; rfl)]
      exact ⟨i, rfl, Nat.le_refl i, by omega, fun _ => q, fun j h1 h2 => by omega⟩
    · rw [if_neg (show ¬ nI (c i) = 120 from fun w => q ((nI_eq (b := 120) (by omega) (by omega)).mp w)), nI_1]
      obtain ⟨v, e1, e2, e3, e4, e5⟩ := finL (k := k) h he d (i + 1) f (by omega) (by omega)
      refine ⟨v, e1, by omega, e3, e4, fun j h1 h2 => ?_⟩
      by_cases w : j = i
      · subst w
        exact q
      · exact e5 j (by omega) h2
theorem finR {k : Nat} {T : TD} {L e a : Nat} {c : Nat → Nat} (hk : 200 ≤ k) (h : sgs (TD.sg T) L c) (ha : a ≤ e) (he : e ≤ L) :
    ∃ v : Nat, p_X1_findCross k T (nI a) (nI e) = some (nI v) ∧ a ≤ v ∧ v ≤ e ∧ (v < e → c v = 120) ∧ ∀ j, a ≤ j → j < v → c j ≠ 120 := by
  have hL := h.1
  exact finL (k := k) h he (e - a) a k (by omega) (by omega)
/-- where the next comma stands, or the end -/
theorem commaAt (c : Nat → Nat) (L : Nat) : ∀ (d i : Nat), i + d = L → ∃ v : Nat, i ≤ v ∧ v ≤ L ∧ (v < L → c v = 44) ∧ ∀ j, i ≤ j → j < v → c j ≠ 44
  | 0, i, hd => ⟨i, Nat.le_refl i, by omega, fun q => by omega, fun j h1 h2 => by omega⟩
  | d + 1, i, hd => by
    by_cases q : c i = 44
    · exact ⟨i, Nat.le_refl i, by omega, fun _ => q, fun j h1 h2 => by omega⟩
    · obtain ⟨v, e2, e3, e4, e5⟩ := commaAt c L d (i + 1) (by omega)
      refine ⟨v, by omega, e3, e4, fun j h1 h2 => ?_⟩
      by_cases w : j = i
      · subst w
        exact q
      · exact e5 j (by omega) h2
theorem numY {k : Nat} {T : TD} {L b : Nat} {c : Nat → Nat} (h : sgs (TD.sg T) L c) (hb : b ≤ L) : ∀ (d i x f : Nat), i + d = b → d < f → (∀ j, j < d → dg (c (i + j))) → p_X1_number_L22 k T (nI b) f (nI x) (nI i) = some (nI (vl c d i x))
  | 0, i, x, f, hd, hf, _ => by
    obtain ⟨f, rfl⟩ : ∃ f', f = f' + 1 := ⟨f - 1, by omega⟩
    have hi : i = b := by omega
    subst hi
    rw [p_X1_number_L22, if_pos (Int32.le_refl (nI i))]
    rfl
  | d + 1, i, x, f, hd, hf, hg => by
    obtain ⟨f, rfl⟩ : ∃ f', f = f' + 1 := ⟨f - 1, by omega⟩
    have hL := h.1
    obtain ⟨g1, g2⟩ := hg 0 (by omega)
    rw [Nat.add_zero] at g1 g2
    rw [p_X1_number_L22, if_neg (nI_ge (by omega) (by omega)), sg_at h (by omega), Option.bind_some, if_neg (show ¬ nI (c i) < 48 from nI_nlt (b := 48) g1 (by omega)), Option.bind_some, if_pos (show nI (c i) ≤ 57 from nI_le (b := 57) g2 (by decide)), Option.bind_some, v_step _ _ g1, nI_1]
    exact numY h hb d (i + 1) _ f (by omega) (by omega) (fun j hj => by
      have := hg (j + 1) (by omega)
      rw [show i + (j + 1) = i + 1 + j by omega] at this
      exact this)
theorem numN {k : Nat} {T : TD} {L b : Nat} {c : Nat → Nat} (h : sgs (TD.sg T) L c) (hb : b ≤ L) : ∀ (d i x f : Nat), i + d = b → d < f → (∃ j, j < d ∧ ¬ dg (c (i + j))) → p_X1_number_L22 k T (nI b) f (nI x) (nI i) = some (-1)
  | 0, i, x, f, hd, hf, ⟨j, hj, _⟩ => absurd hj (Nat.not_lt_zero j)
  | d + 1, i, x, f, hd, hf, ⟨j, hj, hg⟩ => by
    obtain ⟨f, rfl⟩ : ∃ f', f = f' + 1 := ⟨f - 1, by omega⟩
    have hL := h.1
    have hc := (h.2 i (by omega)).2
    rw [p_X1_number_L22, if_neg (nI_ge (by omega) (by omega)), sg_at h (by omega), Option.bind_some]
    by_cases g1 : 48 ≤ c i
    · rw [if_neg (show ¬ nI (c i) < 48 from nI_nlt (b := 48) g1 (by omega)), Option.bind_some]
      by_cases g2 : c i ≤ 57
      · rw [if_pos (show nI (c i) ≤ 57 from nI_le (b := 57) g2 (by decide)), Option.bind_some, v_step _ _ g1, nI_1]
        cases j with
        | zero => exact absurd ⟨g1, g2⟩ hg
        | succ j =>
          exact numN h hb d (i + 1) _ f (by omega) (by omega) ⟨j, by omega, by rw [show i + 1 + j = i + (j + 1) by omega]; exact hg⟩
      · rw [if_neg (show ¬ nI (c i) ≤ 57 from nI_ge (a := 57) (by omega) (by omega))]
    · rw [if_pos (show nI (c i) < 48 from nI_lt (b := 48) (by omega) (by decide))]
theorem numR {k : Nat} {T : TD} {L a b w : Nat} {c : Nat → Nat} (hk : 200 ≤ k) (h : sgs (TD.sg T) L c) (hab : a ≤ b) (hb : b ≤ L) (hw : w ≤ 10) (he : b = L ∨ ¬ dg (c b)) :
    p_X1_number k T (nI a) (nI b) (nI w) = some (if 0 < sc c L w a ∧ a + sc c L w a = b then nI (vl c (sc c L w a) a 0) else -1) := by
  have hL := h.1
  have s1 := sc_le c L w a
  have s2 := sc_in c L w a (by omega)
  unfold p_X1_number
  rw [pk_sub hab]
  by_cases c1 : b - a = 0
  · rw [if_pos (show nI (b - a) < 1 from nI_lt (b := 1) (by omega) (by decide)), if_neg (by omega)]
  rw [if_neg (show ¬ nI (b - a) < 1 from nI_nlt (b := 1) (by omega) (by omega))]
  by_cases c2 : b - a ≤ w
  · rw [if_pos (nI_le c2 (by omega))]
    by_cases c3 : sc c L w a = b - a
    · rw [if_pos (by omega), c3]
      exact numY (k := k) (T := T) h hb (b - a) a 0 k (by omega) (by omega) (fun j hj => sc_dig c L w a j (by omega))
    · rw [if_neg (by omega)]
      refine numN (k := k) (T := T) h hb (b - a) a 0 k (by omega) (by omega) ?_
      by_cases c4 : b - a < sc c L w a
      · have g := sc_dig c L w a (b - a) c4
        rw [show a + (b - a) = b by omega] at g
        rcases he with he | he
        · omega
        · exact absurd g he
      · exact ⟨sc c L w a, by omega, sc_end c L w a (by omega) (by omega)⟩
  · rw [if_neg (show ¬ nI (b - a) ≤ nI w from nI_ge (by omega) (by omega)), if_neg (by omega)]
/-- the reference's side -/
def sM (M : MD) (s i r fr : Int32) : MD := mkMD (MD.st M) (MD.past M) (MD.aside M) (MD.text M) (MD.pasts M) (MD.length M) s i r fr
theorem atR {k : Nat} {M : MD} {L s lo hi : Nat} {c : Nat → Nat} (h : sgs (MD.text M) L c) (hl : MD.length M = nI L) (hs : MD.spot M = nI s) (h1 : s < 1000) (h2 : lo < 1000) (h3 : hi < 1000) :
    p_X5_isAt k M (nI lo) (nI hi) = some (if s < L ∧ lo ≤ c s ∧ c s ≤ hi then 1 else 0) := by
  have hL := h.1
  unfold p_X5_isAt
  rw [hl, hs]
  by_cases c1 : s < L
  · have hc := (h.2 s c1).2
    rw [if_neg (nI_ge c1 (by omega)), sg_at h c1, Option.bind_some, q_in, Option.bind_some]
    by_cases c2 : lo ≤ c s ∧ c s ≤ hi
    · rw [if_pos (show s < L ∧ lo ≤ c s ∧ c s ≤ hi from ⟨c1, c2⟩), bet_yes (nI_nlt c2.1 (by omega)) (nI_nlt c2.2 (by omega))]
      rfl
    · rw [if_neg (show ¬ (s < L ∧ lo ≤ c s ∧ c s ≤ hi) from fun q => c2 q.2)]
      refine if_pos (bet_0.mpr ?_)
      by_cases c3 : c s < lo
      · exact Or.inl (nI_lt c3 (by omega))
      · exact Or.inr (nI_lt (by omega) (by omega))
  · rw [if_pos (nI_le (by omega) (by omega)), if_neg (fun q => c1 q.1)]
theorem digL {k : Nat} {L w a : Nat} {c : Nat → Nat} (hw : w ≤ 10) (hw0 : 0 < w) (haL : a ≤ L) : ∀ (r j x f : Nat) (M : MD), sgs (MD.text M) L c → MD.length M = nI L → j + r = w → r < f → MD.spot M = nI (a + j) → a + j ≤ L →
    p_X5_digits_L7 k (nI w) (nI a) f M (nI x) = some (if j + sc c L r (a + j) = 0 then -1 else nI (vl c (sc c L r (a + j)) (a + j) x), sM M (nI (a + j + sc c L r (a + j))) (MD.itsThickness M) (MD.itsRows M) (MD.from_ M))
  | 0, j, x, f, M, h, hl, hd, hf, hs, hj => by
    obtain ⟨f, rfl⟩ : ∃ f', f = f' + 1 := ⟨f - 1, by omega⟩
    have hL := h.1
    have hjw : j = w := by omega
    subst hjw
    rw [p_X5_digits_L7, hs, nI_add, if_pos (Int32.le_refl (nI (a + j))), if_neg (fun q => by have := (nI_eq (by omega) (by omega)).mp q; omega), sc, if_neg (by omega), vl, Nat.add_zero, ← hs]
    rfl
  | r + 1, j, x, f, M, h, hl, hd, hf, hs, hj => by
    obtain ⟨f, rfl⟩ : ∃ f', f = f' + 1 := ⟨f - 1, by omega⟩
    have hL := h.1
    have ea := atR (k := k) (lo := 48) (hi := 57) h hl hs (by omega) (by decide) (by decide)
    rw [p_X5_digits_L7, show p_X5_isAt k M 48 57 = _ from ea, Option.bind_some, hs, nI_add, if_neg (nI_ge (by omega) (by omega)), sc]
    by_cases q : a + j < L ∧ dg (c (a + j))
    · rw [if_pos (show a + j < L ∧ 48 ≤ c (a + j) ∧ c (a + j) ≤ 57 from q), if_neg (show ¬ (1 : Int32) = 0 by decide), if_pos q, sg_at h q.1, Option.bind_some, v_step5 _ _ q.2.1, nI_1]
      have ih := digL (k := k) (w := w) hw hw0 haL r (j + 1) (x * 10 + c (a + j) - 48) f (sM M (nI (a + (j + 1))) (MD.itsThickness M) (MD.itsRows M) (MD.from_ M)) h hl (by omega) (by omega) rfl (by omega)
      rw [if_neg (by omega)] at ih
      rw [if_neg (by omega), vl]
      rw [show a + j + (sc c L r (a + j + 1) + 1) = a + (j + 1) + sc c L r (a + (j + 1)) by rw [show a + (j + 1) = a + j + 1 by omega]; omega]
      exact ih
    · rw [if_neg (show ¬ (a + j < L ∧ 48 ≤ c (a + j) ∧ c (a + j) ≤ 57) from q), if_pos rfl, if_neg q, Nat.add_zero, Nat.add_zero, vl]
      by_cases c0 : j = 0
      · subst c0
        rw [if_pos (show nI (a + 0) = nI a from rfl), if_pos (show (0 : Nat) = 0 from rfl), ← hs]
        rfl
      · rw [if_neg (fun w => c0 (by have := (nI_eq (by omega) (by omega)).mp w; omega)), if_neg c0, ← hs]
        rfl
theorem digR {k : Nat} {L w a : Nat} {c : Nat → Nat} {M : MD} (hk : 200 ≤ k) (hw : w ≤ 10) (hw0 : 0 < w) (h : sgs (MD.text M) L c) (hl : MD.length M = nI L) (hs : MD.spot M = nI a) (ha : a ≤ L) :
    p_X5_digits k M (nI w) = some (if sc c L w a = 0 then -1 else nI (vl c (sc c L w a) a 0), sM M (nI (a + sc c L w a)) (MD.itsThickness M) (MD.itsRows M) (MD.from_ M)) := by
  have e := digL (k := k) hw hw0 ha w 0 0 k M h hl (by omega) (by omega) hs ha
  rw [Nat.zero_add, Nat.add_zero] at e
  unfold p_X5_digits
  rw [hs]
  exact e
