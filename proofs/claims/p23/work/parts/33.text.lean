/-! PURE PART: the text, whole. -/
def tT (T : TD) (g : Nat → Int32) (z : Int32) : TD := mkTD (TD.sg T) g (TD.length T) z (TD.position T) (TD.reason T)
theorem fillL {k v R : Nat} {y : Int32} (hR : R + v ≤ 24) : ∀ (d i f : Nat) (T : TD), i + d = v → d < f → TD.rows T = nI (R + i) →
    ∃ g : Nat → Int32, p_X1_takePart_L88 k y (nI v) f T (nI i) = some (0, tT T g (nI (R + v))) ∧ (∀ j, R + i ≤ j → j < R + v → g j = y) ∧ ∀ j, j < R + i → g j = TD.th T j
  | 0, i, f, T, hd, hf, hr => by
    obtain ⟨f, rfl⟩ : ∃ f', f = f' + 1 := ⟨f - 1, by omega⟩
    have hi : i = v := by omega
    subst hi
    refine ⟨TD.th T, ?_, fun j h1 h2 => by omega, fun j hj => rfl⟩
    rw [p_X1_takePart_L88, if_pos (Int32.le_refl (nI i)), ← hr]
    rfl
  | d + 1, i, f, T, hd, hf, hr => by
    obtain ⟨f, rfl⟩ : ∃ f', f = f' + 1 := ⟨f - 1, by omega⟩
    obtain ⟨g, e1, e2, e3⟩ := fillL (k := k) (y := y) hR d (i + 1) f (tT T (upd (TD.th T) (R + i) y) (nI (R + (i + 1)))) (by omega) (by omega) rfl
    refine ⟨g, ?_, fun j h1 h2 => ?_, fun j hj => (e3 j (by omega)).trans (un (by omega))⟩
    · rw [p_X1_takePart_L88, if_neg (nI_ge (by omega) (by omega)), show ast (TD.th T) 24 (TD.rows T) y = some (upd (TD.th T) (R + i) y) by rw [hr]; exact s24 _ _ (by omega), Option.bind_some, hr, nI_1, nI_1]
      exact e1
    · by_cases c : j = R + i
      · subst c
        exact (e3 (R + i) (by omega)).trans us
      · exact e2 j (by omega) h2
theorem readL {k v R RT y : Nat} {qA : Nat → AF} {qz : Int32} {qS : Nat → FD} {T : TD} {u : Nat → Nat} (hR : R + v ≤ RT) (hRT : RT ≤ 24) (hT : TD.rows T = nI RT) (hy : y ≤ 5000) (hth : ∀ j, R ≤ j → j < R + v → TD.th T j = nI y) :
    ∀ (d i f g : Nat) (F : FD) (M : MD) (t : Nat → Nat), i + d = v → RF F (MD.st M) (R + i) t u → MD.itsRows M = nI v → MD.itsThickness M = nI y → d < g →
    ∃ (F' : FD) (m' : Nat → Int32) (t' : Nat → Nat), p_X4_read_L40 k qA qz qS T (f + d) F (nI (R + i)) = p_X4_read_L40 k qA qz qS T f F' (nI (R + v)) ∧ p_X5_read_L43 k g M (nI i) = some (wst M m') ∧ RF F' m' (R + v) t' u
  | 0, i, f, g, F, M, t, hd, h, h1, h2, hg => by
    obtain ⟨g, rfl⟩ : ∃ g', g = g' + 1 := ⟨g - 1, by omega⟩
    have hi : i = v := by omega
    subst hi
    refine ⟨F, MD.st M, t, rfl, ?_, h⟩
    rw [p_X5_read_L43, h1, if_pos (Int32.le_refl (nI i))]
    rfl
  | d + 1, i, f, g, F, M, t, hd, h, h1, h2, hg => by
    obtain ⟨g, rfl⟩ : ∃ g', g = g' + 1 := ⟨g - 1, by omega⟩
    obtain ⟨F1, m1, e1, e2, h3⟩ := appendR (k := k) (x := y) h (by omega) hy
    obtain ⟨F2, m2, t2, e3, e4, h4⟩ := readL (k := k) (qA := qA) (qz := qz) (qS := qS) hR hRT hT hy hth d (i + 1) f g F1 (wst M m1) _ (by omega) h3 h1 h2 (by omega)
    refine ⟨F2, m2, t2, ?_, ?_, h4⟩
    · rw [show f + (d + 1) = f + d + 1 by omega, p_X4_read_L40, hT, if_neg (nI_ge (by omega) (by omega)), a24 _ (show R + i < 24 by omega), Option.bind_some, hth (R + i) (by omega) (by omega), e1, Option.bind_some, nI_1]
      exact e3
    · rw [p_X5_read_L43, h1, if_neg (nI_ge (by omega) (by omega)), h2, e2, Option.bind_some, nI_1]
      exact e4
theorem stopL {k f : Nat} {T : TD} {x y : Int32} (h : ¬ TD.reason T = 0) : p_X1_parse_L14 k (f + 1) T x y = some T := by
  rw [p_X1_parse_L14]
  by_cases c : TD.length T < y
  · rw [if_pos c]
  · rw [if_neg c, if_neg h]
/-- to the next comma, or the end -/
theorem skipL {k L e f : Nat} {T : TD} {c : Nat → Nat} {x : Int32} (hsg : sgs (TD.sg T) L c) (hl : TD.length T = nI L) (h0 : TD.reason T = 0) (he : e ≤ L) : ∀ (d i : Nat), i + d = e → (∀ j, i ≤ j → j < e → c j ≠ 44) → p_X1_parse_L14 k (f + d) T x (nI i) = p_X1_parse_L14 k f T x (nI e)
  | 0, i, hd, _ => by
    have hi : i = e := by omega
    subst hi
    rfl
  | d + 1, i, hd, hn => by
    have hL := hsg.1
    have hc := (hsg.2 i (by omega)).2
    have q := hn i (Nat.le_refl i) (by omega)
    rw [show f + (d + 1) = f + d + 1 by omega, p_X1_parse_L14, hl, if_neg (nI_nlt (by omega) (by omega)), if_pos h0, if_neg (fun w => by have := (nI_eq (by omega) (by omega)).mp w; omega), sg_at hsg (by omega), Option.bind_some, if_neg (show ¬ nI (c i) = 44 from fun w => q ((nI_eq (b := 44) (by omega) (by omega)).mp w)), nI_1]
    exact skipL hsg hl h0 he d (i + 1) (by omega) (fun j h1 h2 => hn j (by omega) h2)
/-- at a comma, or the end -/
theorem atL {k L e f p : Nat} {T : TD} {c : Nat → Nat} (hsg : sgs (TD.sg T) L c) (hl : TD.length T = nI L) (h0 : TD.reason T = 0) (he : e ≤ L) (h44 : e < L → c e = 44) : p_X1_parse_L14 k (f + 1) T (nI p) (nI e) = bind2 (p_X1_takePart k (mkTD (TD.sg T) (TD.th T) (TD.length T) (TD.rows T) (nI p) (TD.reason T)) (nI p) (nI e)) fun v4 T5 => p_X1_parse_L14 k f (mkTD (TD.sg T5) (TD.th T5) (TD.length T5) (TD.rows T5) (TD.position T5) v4) (nI e + 1) (nI e + 1) := by
  have hL := hsg.1
  rw [p_X1_parse_L14, hl, if_neg (nI_nlt he (by omega)), if_pos h0]
  by_cases q : e = L
  · rw [if_pos (show nI e = nI L by rw [q])]
  · rw [if_neg (fun w => q ((nI_eq (by omega) (by omega)).mp w)), sg_at hsg (by omega), Option.bind_some, if_pos (show nI (c e) = 44 by rw [h44 (by omega)]; rfl)]
theorem lastT {k g : Nat} {M : MD} {x : Int32} : p_X5_reasonOfText_L14 k (g + 1) M x 0 = some (0, M) := by
  rw [p_X5_reasonOfText_L14, if_pos rfl]
def RD (k L p R : Nat) (c : Nat → Nat) (N : Nat) (T' : TD) : Prop := ∀ (qA : Nat → AF) (qz : Int32) (qS : Nat → FD) (u : Nat → Nat) (F : FD) (M : MD) (t : Nat → Nat) (f g : Nat), HM M L p c → RF F (MD.st M) R t u → 30 ≤ f + R → N + 2 < g →
  ∃ (F' : FD) (m' : Nat → Int32) (n' : Nat) (t' : Nat → Nat) (s i rr : Int32), p_X4_read_L40 k qA qz qS T' f F (nI R) = some (FD.rows F', F', qA, qz, qS, T') ∧ p_X5_read_L23 k g M = some (FD.rows F', wst (sM M s i rr (MD.from_ M)) m') ∧ RF F' m' n' t' u
/-- the parts, one after another, on both sides -/
theorem parseL {k L : Nat} {c : Nat → Nat} (hk : 300 ≤ k) : ∀ (N p R f g : Nat) (T : TD) (M : MD), p ≤ L → L < p + N → sgs (TD.sg T) L c → TD.length T = nI L → TD.rows T = nI R → R ≤ 24 → TD.reason T = 0 → HM M L p c → L + 3 < f + p → N + 2 < g →
    ∃ (T' : TD) (r s i rr fr : Int32), p_X1_parse_L14 k f T (nI p) (nI p) = some T' ∧ p_X5_reasonOfText_L14 k g M (nI R) 1 = some (r, sM M s i rr fr) ∧ TD.sg T' = TD.sg T ∧ TD.length T' = nI L ∧ TD.reason T' = r ∧ (¬ r = 0 → TD.position T' = fr) ∧
      (r = 0 → (∃ RT : Nat, TD.rows T' = nI RT ∧ R ≤ RT ∧ RT ≤ 24) ∧ (∀ j, j < R → TD.th T' j = TD.th T j) ∧ RD k L p R c N T')
  | 0, p, R, f, g, T, M, hp, hN, _, _, _, _, _, _, _, _ => absurd hN (by omega)
  | N + 1, p, R, f, g, T, M, hp, hN, hsg, hl, hr, hR, h0, hM, hf, hg => by
    have hL := hsg.1
    obtain ⟨e, q2, q3, q4, q5⟩ := commaAt c L (L - p) p (by omega)
    obtain ⟨f, rfl⟩ : ∃ f', f = f' + 2 + (e - p) := ⟨f - 2 - (e - p), by omega⟩
    obtain ⟨g, rfl⟩ : ∃ g', g = g' + 2 := ⟨g - 2, by omega⟩
    obtain ⟨T1, hT1⟩ : ∃ T1, mkTD (TD.sg T) (TD.th T) (TD.length T) (TD.rows T) (nI p) (TD.reason T) = T1 := ⟨_, rfl⟩
    have sg1 : TD.sg T1 = TD.sg T := by rw [← hT1]; rfl
    have l1 : TD.length T1 = nI L := by rw [← hT1]; exact hl
    have r1 : TD.rows T1 = nI R := by rw [← hT1]; exact hr
    have th1 : TD.th T1 = TD.th T := by rw [← hT1]; rfl
    have po1 : TD.position T1 = nI p := by rw [← hT1]; rfl
    have re1 : TD.reason T1 = 0 := by rw [← hT1]; exact h0
    have hsg1 : sgs (TD.sg T1) L c := by rw [sg1]; exact hsg
    obtain ⟨M1, hM1⟩ : ∃ M1, M1 = sM M (MD.spot M) (MD.itsThickness M) (MD.itsRows M) (MD.spot M) := ⟨_, rfl⟩
    have hHM1 : HM M1 L p c := by rw [hM1]; exact hM
    have fr1 : MD.from_ M1 = nI p := by rw [hM1]; exact hM.2.2
    have EP : p_X1_parse_L14 k (f + 2 + (e - p)) T (nI p) (nI p) = bind2 (p_X1_takePart k T1 (nI p) (nI e)) fun v4 T5 => p_X1_parse_L14 k (f + 1) (mkTD (TD.sg T5) (TD.th T5) (TD.length T5) (TD.rows T5) (TD.position T5) v4) (nI e + 1) (nI e + 1) := by
      rw [skipL hsg hl h0 q3 (e - p) p (by omega) q5, atL hsg hl h0 q3 q4, ← hT1]
    have ER : p_X5_reasonOfText_L14 k (g + 2) M (nI R) 1 = bind2 (p_X5_isFormed k M1) fun v2 M3 => if v2 = 0 then (some (1, M3)) else ((p_X5_in k (MD.itsThickness M3) 0 5000).bind fun v5 => if v5 = 0 then (some (2, M3)) else ((p_X5_in k (MD.itsRows M3) 1 24).bind fun v7 => if v7 = 0 then (some (2, M3)) else (if (nI R + (MD.itsRows M3)) ≤ 24 then (if (MD.length M3) ≤ (MD.spot M3) then (p_X5_reasonOfText_L14 k (g + 1) (mkMD (MD.st M3) (MD.past M3) (MD.aside M3) (MD.text M3) (MD.pasts M3) (MD.length M3) ((MD.spot M3) + 1) (MD.itsThickness M3) (MD.itsRows M3) (MD.from_ M3)) (nI R + (MD.itsRows M3)) 0) else (p_X5_reasonOfText_L14 k (g + 1) (mkMD (MD.st M3) (MD.past M3) (MD.aside M3) (MD.text M3) (MD.pasts M3) (MD.length M3) ((MD.spot M3) + 1) (MD.itsThickness M3) (MD.itsRows M3) (MD.from_ M3)) (nI R + (MD.itsRows M3)) 1)) else (some (3, M3))))) := by
      rw [p_X5_reasonOfText_L14, if_neg (show ¬ (1 : Int32) = 0 by decide), hM1]
      rfl
    -- a fault ends both
    have bad : ∀ (r s i rr : Int32), ¬ r = 0 → p_X1_takePart k T1 (nI p) (nI e) = some (r, T1) → p_X5_reasonOfText_L14 k (g + 2) M (nI R) 1 = some (r, sM M1 s i rr (MD.from_ M1)) → ∃ (T' : TD) (r s i rr fr : Int32), p_X1_parse_L14 k (f + 2 + (e - p)) T (nI p) (nI p) = some T' ∧ p_X5_reasonOfText_L14 k (g + 2) M (nI R) 1 = some (r, sM M s i rr fr) ∧ TD.sg T' = TD.sg T ∧ TD.length T' = nI L ∧ TD.reason T' = r ∧ (¬ r = 0 → TD.position T' = fr) ∧ (r = 0 → (∃ RT : Nat, TD.rows T' = nI RT ∧ R ≤ RT ∧ RT ≤ 24) ∧ (∀ j, j < R → TD.th T' j = TD.th T j) ∧ RD k L p R c (N + 1) T') := by
      intro r s i rr hr0 g1 g2
      refine ⟨mkTD (TD.sg T1) (TD.th T1) (TD.length T1) (TD.rows T1) (TD.position T1) r, r, s, i, rr, MD.from_ M1, ?_, ?_, sg1, l1, rfl, fun _ => po1.trans fr1.symm, fun w => absurd w hr0⟩
      · rw [EP, g1, b2]
        exact stopL hr0
      · rw [g2, hM1]
        rfl
    rcases partR (k := k) (T := T1) (by omega) hsg1 q2 q3 q4 q5 with ⟨g1, g2⟩ | ⟨y, v, hy, hv, hpL, g1, g2⟩
    · obtain ⟨s, i, rr, g3⟩ := g2 M1 hHM1
      refine bad 1 s i rr (by decide) g1 ?_
      rw [ER, g3, b2, if_pos (show (0 : Int32) = 0 from rfl)]
    · have g3 := g2 M1 hHM1
      rw [g3, b2, if_neg (show ¬ (1 : Int32) = 0 by decide)] at ER
      have ER : p_X5_reasonOfText_L14 k (g + 2) M (nI R) 1 = (p_X5_in k (nI y) 0 5000).bind fun v5 => if v5 = 0 then (some (2, sM M1 (nI e) (nI y) (nI v) (MD.from_ M1))) else ((p_X5_in k (nI v) 1 24).bind fun v7 => if v7 = 0 then (some (2, sM M1 (nI e) (nI y) (nI v) (MD.from_ M1))) else (if (nI R + nI v) ≤ 24 then (if (MD.length M1) ≤ nI e then (p_X5_reasonOfText_L14 k (g + 1) (sM M1 (nI e + 1) (nI y) (nI v) (MD.from_ M1)) (nI R + nI v) 0) else (p_X5_reasonOfText_L14 k (g + 1) (sM M1 (nI e + 1) (nI y) (nI v) (MD.from_ M1)) (nI R + nI v) 1)) else (some (3, sM M1 (nI e) (nI y) (nI v) (MD.from_ M1))))) := ER
      rw [q_in, Option.bind_some, q_in, hHM1.2.1, nI_add, nI_1] at ER
      unfold took at g1
      rw [r1, nI_add] at g1
      by_cases c1 : bet (nI y) 0 5000 = 0
      · rw [if_pos c1] at g1 ER
        exact bad 2 _ _ _ (by decide) g1 ER
      rw [if_neg c1] at g1 ER
      rw [Option.bind_some] at ER
      by_cases c2 : bet (nI v) 1 24 = 0
      · rw [if_pos c2] at g1 ER
        exact bad 2 _ _ _ (by decide) g1 ER
      rw [if_neg c2] at g1 ER
      have hv24 : v ≤ 24 := by
        obtain ⟨j, -, j2, j3⟩ := bet_n (a := 1) (b := 24) (by decide) (by decide) c2
        have := (nI_eq (by omega) (by omega)).mp j3
        omega
      have hv1 : 1 ≤ v := by
        obtain ⟨j, j1, j2, j3⟩ := bet_n (a := 1) (b := 24) (by decide) (by decide) c2
        have := (nI_eq (by omega) (by omega)).mp j3
        omega
      have hy5 : y ≤ 5000 := by
        obtain ⟨j, -, j2, j3⟩ := bet_n (a := 0) (b := 5000) (by decide) (by decide) c1
        have := (nI_eq (by omega) (by omega)).mp j3
        omega
      by_cases c3 : R + v ≤ 24
      · have c3' : nI (R + v) ≤ 24 := nI_le (b := 24) c3 (by decide)
        rw [if_pos c3'] at g1 ER
        obtain ⟨th2, f1, fE, f3⟩ := fillL (k := k) (y := nI y) c3 v 0 k T1 (by omega) (by omega) r1
        have f1 : p_X1_takePart_L88 k (nI y) (nI v) k T1 0 = some (0, tT T1 th2 (nI (R + v))) := f1
        rw [f1] at g1
        rw [g1, b2, nI_1] at EP
        obtain ⟨T2, hT2⟩ : ∃ T2, mkTD (TD.sg (tT T1 th2 (nI (R + v)))) (TD.th (tT T1 th2 (nI (R + v)))) (TD.length (tT T1 th2 (nI (R + v)))) (TD.rows (tT T1 th2 (nI (R + v)))) (TD.position (tT T1 th2 (nI (R + v)))) 0 = T2 := ⟨_, rfl⟩
        have sg2 : TD.sg T2 = TD.sg T := by rw [← hT2]; exact sg1
        have l2 : TD.length T2 = nI L := by rw [← hT2]; exact l1
        have r2 : TD.rows T2 = nI (R + v) := by rw [← hT2]; rfl
        have th2e : TD.th T2 = th2 := by rw [← hT2]; rfl
        have re2 : TD.reason T2 = 0 := by rw [← hT2]; rfl
        rw [hT2] at EP
        by_cases c4 : e = L
        · -- the last part
          rw [if_pos (show nI L ≤ nI e from nI_le (by omega) (by omega)), lastT] at ER
          have EQ : p_X1_parse_L14 k (f + 1) T2 (nI (e + 1)) (nI (e + 1)) = some T2 := by
            rw [p_X1_parse_L14, l2, if_pos (show nI L < nI (e + 1) from nI_lt (by omega) (by omega))]
          rw [EQ] at EP
          refine ⟨T2, 0, nI (e + 1), nI y, nI v, MD.from_ M1, EP, ?_, sg2, l2, re2, fun w => absurd rfl w, fun _ => ⟨⟨R + v, r2, by omega, c3⟩, fun j hj => ?_, ?_⟩⟩
          · rw [ER, hM1]
            rfl
          · rw [th2e, f3 j (by omega), th1]
          · intro qA qz qS u F M2 t f2 g2' hM2 hF hf2 hg2
            obtain ⟨f2, rfl⟩ : ∃ q, f2 = q + 1 + v := ⟨f2 - 1 - v, by omega⟩
            obtain ⟨g2', rfl⟩ : ∃ q, g2' = q + 2 := ⟨g2' - 2, by omega⟩
            obtain ⟨F', m', t', a1, a2, a3⟩ := readL (k := k) (v := v) (R := R) (RT := R + v) (y := y) (qA := qA) (qz := qz) (qS := qS) (T := T2) (u := u) (Nat.le_refl _) c3 r2 hy5 (fun j j1 j2 => by rw [th2e]; exact fE j (by omega) j2) v 0 (f2 + 1) k F (sM M2 (nI e) (nI y) (nI v) (MD.from_ M2)) t (by omega) hF rfl rfl (by omega)
            refine ⟨F', m', R + v, t', nI (e + 1), nI y, nI v, ?_, ?_, a3⟩
            · rw [show f2 + 1 + v = f2 + 1 + v from rfl]
              refine a1.trans ?_
              rw [p_X4_read_L40, r2, if_pos (Int32.le_refl (nI (R + v)))]
            · rw [p_X5_read_L23, hM2.2.1, hM2.2.2, if_neg (nI_ge hpL (by omega)), g2 M2 hM2, b2, if_neg (show ¬ (1 : Int32) = 0 by decide), show p_X5_read_L43 k k (sM M2 (nI e) (nI y) (nI v) (MD.from_ M2)) 0 = _ from a2, Option.bind_some, p_X5_read_L23]
              show (if MD.length M2 ≤ nI e + 1 then (ald m' 44 0).bind _ else _) = _
              rw [hM2.2.1, nI_1, if_pos (nI_le (by omega) (by omega)), a44_0, Option.bind_some, a3.2.2.2.2.2.1.1, a3.2.1]
              show some (nI (R + v), sM (wst (sM M2 (nI e) (nI y) (nI v) (MD.from_ M2)) m') (nI e + 1) (nI y) (nI v) (MD.from_ M2)) = _
              rw [nI_1]
              rfl
        · rw [if_neg (show ¬ nI L ≤ nI e from nI_ge (by omega) (by omega))] at ER
          obtain ⟨T', r, s, i, rr, fr, b1, b2', b3', b4, b5, b6, b7⟩ := parseL (k := k) (L := L) (c := c) hk N (e + 1) (R + v) (f + 1) (g + 1) T2 (sM M1 (nI (e + 1)) (nI y) (nI v) (MD.from_ M1)) (by omega) (by omega) (by rw [sg2]; exact hsg) l2 r2 c3 re2 (HM_s hHM1 _ _ _) (by omega) (by omega)
          refine ⟨T', r, s, i, rr, fr, EP.trans b1, ?_, b3'.trans sg2, b4, b5, b6, fun w => ?_⟩
          · rw [ER, b2', hM1]
            rfl
          · obtain ⟨⟨RT, w1, w2, w3⟩, w4, w5⟩ := b7 w
            refine ⟨⟨RT, w1, by omega, w3⟩, fun j hj => ?_, ?_⟩
            · rw [w4 j (by omega), th2e, f3 j (by omega), th1]
            · intro qA qz qS u F M2 t f2' g2' hM2 hF hf2 hg2
              obtain ⟨f2', rfl⟩ : ∃ q, f2' = q + v := ⟨f2' - v, by omega⟩
              obtain ⟨g2', rfl⟩ : ∃ q, g2' = q + 1 := ⟨g2' - 1, by omega⟩
              obtain ⟨F', m', t', a1, a2, a3⟩ := readL (k := k) (v := v) (R := R) (RT := RT) (y := y) (qA := qA) (qz := qz) (qS := qS) (T := T') (u := u) w2 w3 w1 hy5 (fun j j1 j2 => by rw [w4 j j2, th2e]; exact fE j (by omega) j2) v 0 f2' k F (sM M2 (nI e) (nI y) (nI v) (MD.from_ M2)) t (by omega) hF rfl rfl (by omega)
              obtain ⟨F2, m2, n2, t2, s2, i2, rr2, d1, d2, d3⟩ := w5 qA qz qS u F' (sM (wst (sM M2 (nI e) (nI y) (nI v) (MD.from_ M2)) m') (nI (e + 1)) (nI y) (nI v) (MD.from_ M2)) t' f2' g2' ⟨hM2.1, hM2.2.1, rfl⟩ a3 (by omega) (by omega)
              refine ⟨F2, m2, n2, t2, s2, i2, rr2, a1.trans d1, ?_, d3⟩
              rw [p_X5_read_L23, hM2.2.1, hM2.2.2, if_neg (nI_ge hpL (by omega)), g2 M2 hM2, b2, if_neg (show ¬ (1 : Int32) = 0 by decide), show p_X5_read_L43 k k (sM M2 (nI e) (nI y) (nI v) (MD.from_ M2)) 0 = _ from a2, Option.bind_some]
              show p_X5_read_L23 k g2' (sM (wst (sM M2 (nI e) (nI y) (nI v) (MD.from_ M2)) m') (nI e + 1) (nI y) (nI v) (MD.from_ M2)) = _
              rw [nI_1, d2]
              rfl
      · have c3' : ¬ nI (R + v) ≤ 24 := nI_ge (a := 24) (by omega) (by omega)
        rw [if_neg c3'] at g1 ER
        exact bad 3 _ _ _ (by decide) g1 ER
