/-! PURE PART: one part of the text, on both sides. -/
def HM (M : MD) (L p : Nat) (c : Nat → Nat) : Prop := sgs (MD.text M) L c ∧ MD.length M = nI L ∧ MD.spot M = nI p
theorem HM_s {M : MD} {L p q : Nat} {c : Nat → Nat} (h : HM M L p c) (i r fr : Int32) : HM (sM M (nI q) i r fr) L q c := ⟨h.1, h.2.1, rfl⟩
theorem atH {k : Nat} {M : MD} {L s : Nat} {c : Nat → Nat} (h : HM M L s c) (hs : s < 1000) {lo hi : Nat} (h2 : lo < 1000) (h3 : hi < 1000) :
    p_X5_isAt k M (nI lo) (nI hi) = some (if s < L ∧ lo ≤ c s ∧ c s ≤ hi then 1 else 0) := atR h.1 h.2.1 h.2.2 hs h2 h3
theorem vn {c : Nat → Nat} {L w p : Nat} (hw : w ≤ 4) : vl c (sc c L w p) p 0 < 10000 := by
  have h := vl_lt c (sc c L w p) p 0 1 (by decide) (fun i hi => sc_dig c L w p i hi)
  have h2 := sc_le c L w p
  have h3 : 10 ^ sc c L w p ≤ 10 ^ 4 := Nat.pow_le_pow_right (by decide) (by omega)
  omega
/-- no number at the start -/
theorem form0 {k : Nat} {M : MD} {L p : Nat} {c : Nat → Nat} (hk : 200 ≤ k) (h : HM M L p c) (hp : p ≤ L) (hm : sc c L 4 p = 0) :
    ∃ s i r : Int32, p_X5_isFormed k M = some (0, sM M s i r (MD.from_ M)) := by
  unfold p_X5_isFormed
  rw [show p_X5_digits k M 4 = _ from digR (w := 4) hk (by decide) (by decide) h.1 h.2.1 h.2.2 hp, b2, if_pos hm, if_pos (show (-1 : Int32) < 0 by decide), if_pos (show (-1 : Int32) < 0 by decide)]
  exact ⟨_, _, _, rfl⟩
/-- a number, then the end, a comma or something wrong -/
theorem form1 {k : Nat} {M : MD} {L p : Nat} {c : Nat → Nat} (hk : 200 ≤ k) (h : HM M L p c) (hp : p ≤ L) (hm : 0 < sc c L 4 p) (hx : ¬ (p + sc c L 4 p < L ∧ c (p + sc c L 4 p) = 120)) :
    p_X5_isFormed k M = some (if p + sc c L 4 p = L ∨ c (p + sc c L 4 p) = 44 then 1 else 0, sM M (nI (p + sc c L 4 p)) (nI (vl c (sc c L 4 p) p 0)) 1 (MD.from_ M)) := by
  have hL := h.1.1
  have hin := sc_in c L 4 p hp
  have hv := vn (c := c) (L := L) (w := 4) (p := p) (by decide)
  have hg : ¬ nI (vl c (sc c L 4 p) p 0) < 0 := nI_pos (by omega)
  have e1 : p_X5_digits k M 4 = some (nI (vl c (sc c L 4 p) p 0), sM M (nI (p + sc c L 4 p)) (MD.itsThickness M) (MD.itsRows M) (MD.from_ M)) := by
    have := digR (k := k) (w := 4) hk (by decide) (by decide) h.1 h.2.1 h.2.2 hp
    rw [if_neg (by omega)] at this
    exact this
  unfold p_X5_isFormed
  rw [e1, b2, if_neg hg]
  have ex := atH (k := k) (HM_s (q := p + sc c L 4 p) h (nI (vl c (sc c L 4 p) p 0)) 1 (MD.from_ M)) (by omega) (lo := 120) (hi := 120) (by decide) (by decide)
  have ec := atH (k := k) (HM_s (q := p + sc c L 4 p) h (nI (vl c (sc c L 4 p) p 0)) 1 (MD.from_ M)) (by omega) (lo := 44) (hi := 44) (by decide) (by decide)
  show (p_X5_isAt k (sM M (nI (p + sc c L 4 p)) (nI (vl c (sc c L 4 p) p 0)) 1 (MD.from_ M)) (nI 120) (nI 120)).bind _ = _
  rw [ex, Option.bind_some, if_neg (show ¬ (p + sc c L 4 p < L ∧ 120 ≤ c (p + sc c L 4 p) ∧ c (p + sc c L 4 p) ≤ 120) from fun q => hx ⟨q.1, by omega⟩), if_pos (show (0 : Int32) = 0 from rfl), if_neg hg]
  show (if nI (p + sc c L 4 p) = MD.length M then _ else (p_X5_isAt k (sM M (nI (p + sc c L 4 p)) (nI (vl c (sc c L 4 p) p 0)) 1 (MD.from_ M)) (nI 44) (nI 44)).bind _) = _
  rw [ec, h.2.1]
  by_cases q : p + sc c L 4 p = L
  · rw [if_pos (show nI (p + sc c L 4 p) = nI L by rw [q]), if_pos (Or.inl q)]
    rfl
  · rw [if_neg (fun w => q ((nI_eq (by omega) (by omega)).mp w)), Option.bind_some]
    by_cases q2 : c (p + sc c L 4 p) = 44
    · rw [if_pos (show p + sc c L 4 p < L ∧ 44 ≤ c (p + sc c L 4 p) ∧ c (p + sc c L 4 p) ≤ 44 by omega), if_neg (show ¬ (1 : Int32) = 0 by decide), if_pos (Or.inr q2)]
      rfl
    · rw [if_neg (show ¬ (p + sc c L 4 p < L ∧ 44 ≤ c (p + sc c L 4 p) ∧ c (p + sc c L 4 p) ≤ 44) by omega), if_pos (show (0 : Int32) = 0 from rfl), if_neg (show ¬ (p + sc c L 4 p = L ∨ c (p + sc c L 4 p) = 44) from fun w => w.elim q q2)]
      rfl
/-- a number, an x, and what follows -/
theorem form2 {k : Nat} {M : MD} {L p a m b n : Nat} {c : Nat → Nat} (hk : 200 ≤ k) (h : HM M L p c) (hp : p ≤ L) (em : sc c L 4 p = m) (ea : p + m = a) (hm : 0 < m) (hx : a < L ∧ c a = 120) (en : sc c L 2 (a + 1) = n) (eb : a + 1 + n = b) :
    (0 < n ∧ (b = L ∨ c b = 44) → p_X5_isFormed k M = some (1, sM M (nI b) (nI (vl c m p 0)) (nI (vl c n (a + 1) 0)) (MD.from_ M))) ∧
    (¬ (0 < n ∧ (b = L ∨ c b = 44)) → ∃ s i r : Int32, p_X5_isFormed k M = some (0, sM M s i r (MD.from_ M))) := by
  subst em
  have hL := h.1.1
  have hv := vn (c := c) (L := L) (w := 4) (p := p) (by decide)
  have hg : ¬ nI (vl c (sc c L 4 p) p 0) < 0 := nI_pos (by omega)
  have hbL : b ≤ L := by
    have := sc_in c L 2 (a + 1) (by omega)
    omega
  have hv2 : vl c n (a + 1) 0 < 10000 := by
    rw [← en]
    exact vn (by decide)
  have hg2 : ¬ nI (vl c n (a + 1) 0) < 0 := nI_pos (by omega)
  have e1 : p_X5_digits k M 4 = some (nI (vl c (sc c L 4 p) p 0), sM M (nI a) (MD.itsThickness M) (MD.itsRows M) (MD.from_ M)) := by
    have := digR (k := k) (w := 4) hk (by decide) (by decide) h.1 h.2.1 h.2.2 hp
    rw [if_neg (by omega), ea] at this
    exact this
  have e2 : p_X5_digits k (sM M (nI a + 1) (nI (vl c (sc c L 4 p) p 0)) 1 (MD.from_ M)) 2 = some (if n = 0 then -1 else nI (vl c n (a + 1) 0), sM M (nI b) (nI (vl c (sc c L 4 p) p 0)) 1 (MD.from_ M)) := by
    have := digR (k := k) (w := 2) (L := L) (a := a + 1) (c := c) (M := sM M (nI a + 1) (nI (vl c (sc c L 4 p) p 0)) 1 (MD.from_ M)) hk (by decide) (by decide) h.1 h.2.1 (nI_1 a) (by omega)
    rw [en, eb] at this
    exact this
  have ex := atH (k := k) (HM_s (q := a) h (nI (vl c (sc c L 4 p) p 0)) 1 (MD.from_ M)) (by omega) (lo := 120) (hi := 120) (by decide) (by decide)
  rw [if_pos (show a < L ∧ 120 ≤ c a ∧ c a ≤ 120 by omega)] at ex
  have E : p_X5_isFormed k M = (fun v14 : Int32 => (if v14 < 0 then (some (0, sM M (nI b) (nI (vl c (sc c L 4 p) p 0)) v14 (MD.from_ M))) else (if nI b = MD.length M then (some (1, sM M (nI b) (nI (vl c (sc c L 4 p) p 0)) v14 (MD.from_ M))) else ((p_X5_isAt k (sM M (nI b) (nI (vl c (sc c L 4 p) p 0)) v14 (MD.from_ M)) 44 44).bind fun v19 => if v19 = 0 then (some (0, sM M (nI b) (nI (vl c (sc c L 4 p) p 0)) v14 (MD.from_ M))) else (some (1, sM M (nI b) (nI (vl c (sc c L 4 p) p 0)) v14 (MD.from_ M))))))) (if n = 0 then (-1 : Int32) else nI (vl c n (a + 1) 0)) := by
    unfold p_X5_isFormed
    rw [e1, b2, if_neg hg]
    show (p_X5_isAt k (sM M (nI a) (nI (vl c (sc c L 4 p) p 0)) 1 (MD.from_ M)) (nI 120) (nI 120)).bind _ = _
    rw [ex, Option.bind_some, if_neg (show ¬ (1 : Int32) = 0 by decide)]
    show bind2 (p_X5_digits k (sM M (nI a + 1) (nI (vl c (sc c L 4 p) p 0)) 1 (MD.from_ M)) 2) _ = _
    rw [e2, b2]
    show (if nI (vl c (sc c L 4 p) p 0) < 0 then _ else _) = _
    rw [if_neg hg]
    rfl
  constructor
  · rintro ⟨h1, h2⟩
    rw [E, if_neg (by omega)]
    show (if nI (vl c n (a + 1) 0) < 0 then _ else _) = _
    rw [if_neg hg2, h.2.1]
    by_cases q : b = L
    · rw [if_pos (show nI b = nI L by rw [q])]
    · rw [if_neg (fun w => q ((nI_eq (by omega) (by omega)).mp w))]
      have ec := atH (k := k) (HM_s (q := b) h (nI (vl c (sc c L 4 p) p 0)) (nI (vl c n (a + 1) 0)) (MD.from_ M)) (by omega) (lo := 44) (hi := 44) (by decide) (by decide)
      rw [if_pos (show b < L ∧ 44 ≤ c b ∧ c b ≤ 44 by omega)] at ec
      rw [show p_X5_isAt k (sM M (nI b) (nI (vl c (sc c L 4 p) p 0)) (nI (vl c n (a + 1) 0)) (MD.from_ M)) 44 44 = some 1 from ec]
      rfl
  · intro h1
    rw [E]
    by_cases c0 : n = 0
    · rw [if_pos c0]
      exact ⟨_, _, _, rfl⟩
    · rw [if_neg c0]
      show ∃ s i r : Int32, (if nI (vl c n (a + 1) 0) < 0 then _ else _) = _
      rw [if_neg hg2, h.2.1, if_neg (fun w => h1 ⟨by omega, Or.inl ((nI_eq (by omega) (by omega)).mp w)⟩)]
      have ec := atH (k := k) (HM_s (q := b) h (nI (vl c (sc c L 4 p) p 0)) (nI (vl c n (a + 1) 0)) (MD.from_ M)) (by omega) (lo := 44) (hi := 44) (by decide) (by decide)
      rw [if_neg (show ¬ (b < L ∧ 44 ≤ c b ∧ c b ≤ 44) from fun w => h1 ⟨by omega, Or.inr (by omega)⟩)] at ec
      rw [show p_X5_isAt k (sM M (nI b) (nI (vl c (sc c L 4 p) p 0)) (nI (vl c n (a + 1) 0)) (MD.from_ M)) 44 44 = some 0 from ec]
      exact ⟨_, _, _, rfl⟩
/-- what the component does with a part that is formed -/
def took (k : Nat) (T : TD) (y v : Int32) : Option (Int32 × TD) :=
  if bet y 0 5000 = 0 then some (2, T) else if bet v 1 24 = 0 then some (2, T) else if TD.rows T + v ≤ 24 then p_X1_takePart_L88 k y v k T 0 else some (3, T)
theorem tk1 {k : Nat} {T : TD} {x1 x2 v1 : Int32} (e1 : p_X1_findCross k T x1 x2 = some v1) (e2 : p_X1_number k T x1 v1 4 = some (-1)) (e3 : ¬ x2 ≤ v1 → ∃ z, p_X1_number k T (v1 + 1) x2 2 = some z) : p_X1_takePart k T x1 x2 = some (1, T) := by
  unfold p_X1_takePart
  rw [e1, Option.bind_some, e2, Option.bind_some]
  by_cases c : x2 ≤ v1
  · rw [if_pos c, if_pos rfl]
  · obtain ⟨z, hz⟩ := e3 c
    rw [if_neg c, hz, Option.bind_some, if_pos rfl]
theorem tk1' {k : Nat} {T : TD} {x1 x2 v1 y : Int32} (e1 : p_X1_findCross k T x1 x2 = some v1) (e2 : p_X1_number k T x1 v1 4 = some y) (c : ¬ x2 ≤ v1) (e3 : p_X1_number k T (v1 + 1) x2 2 = some (-1)) : p_X1_takePart k T x1 x2 = some (1, T) := by
  unfold p_X1_takePart
  rw [e1, Option.bind_some, e2, Option.bind_some, if_neg c, e3, Option.bind_some, if_pos rfl]
  split <;> rfl
theorem tk2 {k : Nat} {T : TD} {x1 x2 v1 y : Int32} (e1 : p_X1_findCross k T x1 x2 = some v1) (e2 : p_X1_number k T x1 v1 4 = some y) (hy : ¬ y = -1) (c : x2 ≤ v1) : p_X1_takePart k T x1 x2 = took k T y 1 := by
  unfold p_X1_takePart took
  rw [e1, Option.bind_some, e2, Option.bind_some, if_pos c, if_neg hy, q_isT, Option.bind_some, q_bet, Option.bind_some]
theorem tk3 {k : Nat} {T : TD} {x1 x2 v1 y v : Int32} (e1 : p_X1_findCross k T x1 x2 = some v1) (e2 : p_X1_number k T x1 v1 4 = some y) (hy : ¬ y = -1) (c : ¬ x2 ≤ v1) (e3 : p_X1_number k T (v1 + 1) x2 2 = some v) (hv : ¬ v = -1) : p_X1_takePart k T x1 x2 = took k T y v := by
  unfold p_X1_takePart took
  rw [e1, Option.bind_some, e2, Option.bind_some, if_neg c, e3, Option.bind_some, if_neg hy, if_neg hv, q_isT, Option.bind_some, q_bet, Option.bind_some]
theorem n_m1 {x : Nat} (h : x < 2 ^ 31) : ¬ nI x = -1 := fun w => nI_pos h (by rw [w]; decide)
theorem partR {k : Nat} {T : TD} {L p e : Nat} {c : Nat → Nat} (hk : 200 ≤ k) (h : sgs (TD.sg T) L c) (hpe : p ≤ e) (he : e ≤ L) (h44 : e < L → c e = 44) (hno : ∀ j, p ≤ j → j < e → c j ≠ 44) :
    (p_X1_takePart k T (nI p) (nI e) = some (1, T) ∧ ∀ M, HM M L p c → ∃ s i r : Int32, p_X5_isFormed k M = some (0, sM M s i r (MD.from_ M))) ∨
    (∃ y v : Nat, y < 10000 ∧ v < 10000 ∧ p < L ∧ p_X1_takePart k T (nI p) (nI e) = took k T (nI y) (nI v) ∧ ∀ M, HM M L p c → p_X5_isFormed k M = some (1, sM M (nI e) (nI y) (nI v) (MD.from_ M))) := by
  have hL := h.1
  obtain ⟨x, ex, x1, x2, x3, x4⟩ := finR (k := k) (T := T) hk h hpe he
  have ex : p_X1_findCross k T (nI p) (nI e) = some (nI x) := ex
  have hxe : x = L ∨ ¬ dg (c x) := by
    by_cases q : x < e
    · right
      have := x3 q
      intro w
      unfold dg at w
      omega
    · have q2 : x = e := by omega
      subst q2
      by_cases q3 : x < L
      · right
        have := h44 q3
        intro w
        unfold dg at w
        omega
      · left; omega
  have hee : e = L ∨ ¬ dg (c e) := by
    by_cases q3 : e < L
    · right
      have := h44 q3
      intro w
      unfold dg at w
      omega
    · left; omega
  have en := numR (k := k) (T := T) (w := 4) hk h x1 (by omega) (by decide) hxe
  have en : p_X1_number k T (nI p) (nI x) 4 = _ := en
  obtain ⟨m, em⟩ : ∃ m, sc c L 4 p = m := ⟨_, rfl⟩
  have hmin : p + m ≤ L := by
    rw [← em]
    exact sc_in c L 4 p (by omega)
  have hmd : ∀ i, i < m → dg (c (p + i)) := fun i hi => sc_dig c L 4 p i (by omega)
  have hv : vl c m p 0 < 10000 := by
    rw [← em]
    exact vn (by decide)
  -- the number's digits lie before the comma
  have hme : p + m ≤ e := by
    by_cases q : e < p + m
    · exfalso
      have g := hmd (e - p) (by omega)
      rw [show p + (e - p) = e by omega] at g
      rcases hee with w | w
      · omega
      · exact w g
    · omega
  have hmx : p + m ≤ x := by
    by_cases q : x < p + m
    · exfalso
      have g := hmd (x - p) (by omega)
      rw [show p + (x - p) = x by omega] at g
      rcases hxe with w | w
      · omega
      · exact w g
    · omega
  have e2 : ¬ nI e ≤ nI x → ∃ z, p_X1_number k T (nI x + 1) (nI e) 2 = some z := by
    intro q
    have hxe2 : x < e := by
      by_cases w : x < e
      · exact w
      · exact absurd (nI_le (by omega) (by omega)) q
    have := numR (k := k) (T := T) (a := x + 1) (b := e) (w := 2) hk h (by omega) he (by decide) hee
    rw [nI_1]
    exact ⟨_, this⟩
  rw [em] at en
  by_cases c0 : m = 0
  · left
    rw [if_neg (by omega)] at en
    exact ⟨tk1 ex en e2, fun M hM => form0 hk hM (by omega) (by omega)⟩
  by_cases c1 : p + m < L ∧ c (p + m) = 120
  · -- an x
    have hxm : x = p + m := by
      by_cases q : p + m < x
      · exact absurd c1.2 (x4 (p + m) (by omega) q)
      · omega
    subst hxm
    have hpe2 : p + m < e := by
      by_cases q : p + m < e
      · exact q
      · have : e = p + m := by omega
        subst this
        have := h44 c1.1
        omega
    rw [if_pos ⟨by omega, rfl⟩] at en
    have c2 : ¬ nI e ≤ nI (p + m) := nI_ge hpe2 (by omega)
    have en2 := numR (k := k) (T := T) (a := p + m + 1) (b := e) (w := 2) hk h (by omega) he (by decide) hee
    rw [← nI_1] at en2
    obtain ⟨n, en3⟩ : ∃ n, sc c L 2 (p + m + 1) = n := ⟨_, rfl⟩
    have hnin : p + m + 1 + n ≤ L := by
      rw [← en3]
      exact sc_in c L 2 (p + m + 1) (by omega)
    have hv2 : vl c n (p + m + 1) 0 < 10000 := by
      rw [← en3]
      exact vn (by decide)
    rw [en3] at en2
    have key : (0 < n ∧ (p + m + 1 + n = L ∨ c (p + m + 1 + n) = 44)) ↔ (0 < n ∧ p + m + 1 + n = e) := by
      constructor
      · rintro ⟨g1, g2⟩
        refine ⟨g1, ?_⟩
        have g3 : ∀ i, i < n → dg (c (p + m + 1 + i)) := fun i hi => sc_dig c L 2 (p + m + 1) i (by omega)
        have g4 : p + m + 1 + n ≤ e := by
          by_cases q : e < p + m + 1 + n
          · exfalso
            have g := g3 (e - (p + m + 1)) (by omega)
            rw [show p + m + 1 + (e - (p + m + 1)) = e by omega] at g
            rcases hee with w | w
            · omega
            · exact w g
          · omega
        rcases g2 with g2 | g2
        · omega
        · by_cases q : p + m + 1 + n < e
          · exact absurd g2 (hno _ (by omega) q)
          · omega
      · rintro ⟨g1, g2⟩
        refine ⟨g1, ?_⟩
        by_cases q : e < L
        · right
          rw [g2]
          exact h44 q
        · left; omega
    by_cases c3 : 0 < n ∧ p + m + 1 + n = e
    · right
      rw [if_pos c3] at en2
      refine ⟨_, _, hv, hv2, by omega, tk3 ex en (n_m1 (by omega)) c2 en2 (n_m1 (by omega)), fun M hM => ?_⟩
      have := (form2 (k := k) (b := p + m + 1 + n) hk hM (by omega) em rfl (by omega) c1 en3 rfl).1 (key.mpr c3)
      rw [c3.2] at this
      exact this
    · left
      rw [if_neg c3] at en2
      exact ⟨tk1' ex en c2 en2, fun M hM => (form2 (k := k) (b := p + m + 1 + n) hk hM (by omega) em rfl (by omega) c1 en3 rfl).2 (fun w => c3 (key.mp w))⟩
  · have key : (p + m = L ∨ c (p + m) = 44) ↔ p + m = e := by
      constructor
      · rintro (g | g)
        · omega
        · by_cases q : p + m < e
          · exact absurd g (hno _ (by omega) q)
          · omega
      · intro g
        by_cases q : e < L
        · right
          rw [g]
          exact h44 q
        · left; omega
    by_cases c3 : p + m = e
    · right
      have hxm : x = p + m := by omega
      subst hxm
      rw [if_pos ⟨by omega, rfl⟩] at en
      refine ⟨_, 1, hv, by decide, by omega, tk2 ex en (n_m1 (by omega)) (nI_le (by omega) (by omega)), fun M hM => ?_⟩
      have := form1 (k := k) hk hM (by omega) (by omega) (by rw [em]; exact c1)
      rw [em, if_pos (key.mpr c3), c3] at this
      exact this
    · left
      have hxm : ¬ p + m = x := by
        intro w
        by_cases q : x < e
        · exact c1 ⟨by omega, by rw [w]; exact x3 q⟩
        · omega
      rw [if_neg (fun w => hxm w.2)] at en
      refine ⟨tk1 ex en e2, fun M hM => ?_⟩
      have := form1 (k := k) hk hM (by omega) (by omega) (by rw [em]; exact c1)
      rw [em, if_neg (fun w => c3 (key.mp w))] at this
      exact ⟨_, _, _, this⟩
