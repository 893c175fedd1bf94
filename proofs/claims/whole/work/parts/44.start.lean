/-! THE LAW: its start. -/
def u0 : Nat → Nat := fun j => match j with
  | 0 => 20
  | 1 => 1
  | 2 => 10
  | 3 => 30
  | 4 => 5
  | 5 => 12
  | _ => 3000
theorem rs0 : RS fd0 0 (fun _ => fd0) td0 md0 := by
  refine ⟨⟨0, fun _ => 0, u0, Nat.zero_le _, rfl, fun j hj => absurd hj (Nat.not_lt_zero j), fun j hj => ?_, by decide, ⟨rfl, rfl, rfl, rfl, rfl, rfl, rfl, rfl, rfl, rfl, rfl, rfl, rfl⟩, rfl⟩, ⟨0, by decide, rfl, rfl, fun i hi => absurd hi (Nat.not_lt_zero i)⟩, ⟨0, fun _ => 0, by decide, rfl, rfl, fun j hj => absurd hj (Nat.not_lt_zero j)⟩⟩
  have : j = 0 ∨ j = 1 ∨ j = 2 ∨ j = 3 ∨ j = 4 ∨ j = 5 ∨ j = 6 := by omega
  rcases this with rfl | rfl | rfl | rfl | rfl | rfl | rfl <;> exact ⟨rfl, rfl, by decide⟩
theorem j7 {P : Nat → Prop} (h0 : P 0) (h1 : P 1) (h2 : P 2) (h3 : P 3) (h4 : P 4) (h5 : P 5) (h6 : P 6) : ∀ j, j < 7 → P j := by
  intro j hj
  have : j = 0 ∨ j = 1 ∨ j = 2 ∨ j = 3 ∨ j = 4 ∨ j = 5 ∨ j = 6 := by omega
  rcases this with rfl | rfl | rfl | rfl | rfl | rfl | rfl
  · exact h0
  · exact h1
  · exact h2
  · exact h3
  · exact h4
  · exact h5
  · exact h6
set_option maxHeartbeats 4000000 in
set_option maxRecDepth 100000 in
/-- the tables of settings, at the start -/
theorem start_tabs {s : State} {b : Nat} (hts : ∀ w ∈ lw_tbl, w.before #[Value.ref b] s = true) (hgv : (Jvm.Cond.and given_1 narrow_1).before #[Value.ref b] s = true) : xEF (lA s) s s.heap ∧ xEset (lA s) s s.heap := by
  have hs := flat_of_before _ hgv
  have hA : ∀ a : Nat, a < s.heap.size → ¬ lA s a := fun a h => Nat.not_le.mpr h
  have hini : (Cond.initialized "SoapFilm").before #[Value.ref b] s = true := hts _ (by decide +kernel)
  refine ⟨?_, ?_, ?_⟩
  · have harr : (Cond.arrayOf (.static "SoapFilm" "FIRST_SETTING" "[I") .int).before #[Value.ref b] s = true := hs _ (by decide +kernel)
    have hlen : (Cond.eq (.length (.static "SoapFilm" "FIRST_SETTING" "[I")) (.int 7)).before #[Value.ref b] s = true := hs _ (by decide +kernel)
    obtain ⟨t, ht, hT⟩ := va_Tof (tm := .static "SoapFilm" "FIRST_SETTING" "[I") (ty := .int) (N := 7) (f := fun j => .int (tb_FIRST_SETTING j)) (A := lA s) (by decide) harr (va_eqt hlen) (j7 (va_eqt (z := 20) (hs _ (by decide +kernel))) (va_eqt (z := 1) (hs _ (by decide +kernel))) (va_eqt (z := 10) (hs _ (by decide +kernel))) (va_eqt (z := 30) (hs _ (by decide +kernel))) (va_eqt (z := 5) (hs _ (by decide +kernel))) (va_eqt (z := 12) (hs _ (by decide +kernel))) (va_eqt (z := 3000) (hs _ (by decide +kernel)))) hA
    exact ⟨t, va_Zof (hts (.laysStatic "SoapFilm" "FIRST_SETTING" "[I") (by decide +kernel)) hini ht hA, hT⟩
  · have harr : (Cond.arrayOf (.static "SoapFilm" "LEAST_SETTING" "[I") .int).before #[Value.ref b] s = true := hs _ (by decide +kernel)
    have hlen : (Cond.eq (.length (.static "SoapFilm" "LEAST_SETTING" "[I")) (.int 7)).before #[Value.ref b] s = true := hs _ (by decide +kernel)
    obtain ⟨t, ht, hT⟩ := va_Tof (tm := .static "SoapFilm" "LEAST_SETTING" "[I") (ty := .int) (N := 7) (f := fun j => .int (tb_LEAST_SETTING j)) (A := lA s) (by decide) harr (va_eqt hlen) (j7 (va_eqt (z := 0) (hs _ (by decide +kernel))) (va_eqt (z := 0) (hs _ (by decide +kernel))) (va_eqt (z := 0) (hs _ (by decide +kernel))) (va_eqt (z := 1) (hs _ (by decide +kernel))) (va_eqt (z := 0) (hs _ (by decide +kernel))) (va_eqt (z := 1) (hs _ (by decide +kernel))) (va_eqt (z := 1) (hs _ (by decide +kernel)))) hA
    exact ⟨t, va_Zof (hts (.laysStatic "SoapFilm" "LEAST_SETTING" "[I") (by decide +kernel)) hini ht hA, hT⟩
  · have harr : (Cond.arrayOf (.static "SoapFilm" "GREATEST_SETTING" "[I") .int).before #[Value.ref b] s = true := hs _ (by decide +kernel)
    have hlen : (Cond.eq (.length (.static "SoapFilm" "GREATEST_SETTING" "[I")) (.int 7)).before #[Value.ref b] s = true := hs _ (by decide +kernel)
    obtain ⟨t, ht, hT⟩ := va_Tof (tm := .static "SoapFilm" "GREATEST_SETTING" "[I") (ty := .int) (N := 7) (f := fun j => .int (tb_GREATEST_SETTING j)) (A := lA s) (by decide) harr (va_eqt hlen) (j7 (va_eqt (z := 100) (hs _ (by decide +kernel))) (va_eqt (z := 50) (hs _ (by decide +kernel))) (va_eqt (z := 500) (hs _ (by decide +kernel))) (va_eqt (z := 200) (hs _ (by decide +kernel))) (va_eqt (z := 100) (hs _ (by decide +kernel))) (va_eqt (z := 24) (hs _ (by decide +kernel))) (va_eqt (z := 100000) (hs _ (by decide +kernel)))) hA
    exact ⟨t, va_Zof (hts (.laysStatic "SoapFilm" "GREATEST_SETTING" "[I") (by decide +kernel)) hini ht hA, hT⟩
set_option maxHeartbeats 4000000 in
set_option maxRecDepth 100000 in
/-- the classes and the arrays, at the start -/
theorem start_known {s : State} {b : Nat} (hts : ∀ w ∈ lw_tbl, w.before #[Value.ref b] s = true) : ∃ (D : va_G) (ks : K3), xK D ks s := by
  have h1 : ∀ w ∈ wsL_law_r1, w.before #[Value.ref b] s = true := fun w h => hts w (wsL_law_r1_in w h)
  have h2 : ∀ w ∈ wsL_law_r2, w.before #[Value.ref b] s = true := fun w h => hts w (wsL_law_r2_in w h)
  obtain ⟨c0, iS0, hKn0⟩ := u_known (C := RX0) (T := TX0) (N := 10) (n := 10) hts inX0 (h1 (.instantiable RX0 10) (by decide +kernel))
  obtain ⟨c1, iS1, hKn1⟩ := u_known (C := RX1) (T := TX1) (N := 6) (n := 6) hts inX1 (h1 (.instantiable RX1 6) (by decide +kernel))
  obtain ⟨c2, iS2, hKn2⟩ := u_known (C := RX2) (T := TX2) (N := 2) (n := 2) hts inX2 (h1 (.instantiable RX2 2) (by decide +kernel))
  obtain ⟨c4, iS4, hKn4⟩ := u_known (C := RX4) (T := TX4) (N := 4) (n := 4) hts inX4 (h1 (.instantiable RX4 4) (by decide +kernel))
  obtain ⟨c5, iS5, hKn5⟩ := u_known (C := RX5) (T := TX5) (N := 10) (n := 10) hts inX5 (h1 (.instantiable RX5 10) (by decide +kernel))
  obtain ⟨dC, dI, hKc⟩ : ∃ (dC : Nat → ClassId) (dI : Nat → Nat → Nat), ∀ (k : Nat) (q : vw_C), vwCl[k]? = some q → u_Kn s q.1 q.2.1 q.2.2 (dC k) (dI k) := by
    refine ⟨fun k => match k with | 0 => c0 | 1 => c1 | 2 => c2 | 3 => c4 | _ => c5, fun k => match k with | 0 => iS0 | 1 => iS1 | 2 => iS2 | 3 => iS4 | _ => iS5, ?_⟩
    intro k q hq
    match k, hq with
    | 0, hq => cases hq; exact hKn0
    | 1, hq => cases hq; exact hKn1
    | 2, hq => cases hq; exact hKn2
    | 3, hq => cases hq; exact hKn4
    | 4, hq => cases hq; exact hKn5
    | k + 5, hq => simp [vwCl] at hq
  obtain ⟨cI, kI, mI, f1, f2, f3⟩ := Cond.arrayClass_spec (h2 (.arrayClass .int) (by decide +kernel))
  obtain ⟨cC, kC, mC, g1, g2, g3⟩ := Cond.arrayClass_spec (h2 (.arrayClass .char) (by decide +kernel))
  have hO : (Cond.arrayOver (.object "SoapFilm$Film")).before #[Value.ref b] s = true := hts _ (by decide +kernel)
  obtain ⟨mF, cF, kF, o1, o2, o3, o4, o5⟩ := Cond.arrayOver_spec hO
  refine ⟨(dC, dI), (cI, cC, cF), ⟨hKc, fun k q hk => ?_⟩, va_Nw.of rfl (hts _ (by decide +kernel)), va_Nw.of rfl (hts _ (by decide +kernel)), va_Nw.of rfl (hts _ (by decide +kernel)), va_Nw.of rfl (hts _ (by decide +kernel)), va_AO.of hO⟩
  match k, hk with
  | 0, hk => cases hk; exact ⟨fun n z => ⟨fun k h => (by cases h), kI, f2, mI, f3⟩, f1⟩
  | 1, hk => cases hk; exact ⟨fun n z => ⟨fun k h => (by cases h), kC, g2, mC, g3⟩, g1⟩
  | 2, hk => cases hk; exact ⟨fun n z => ⟨fun k h => (by cases h), kF, o3, mF, o4⟩, kF, mF, o3, o4, o1, o5⟩
  | k + 3, hk => simp [tyK] at hk
set_option maxHeartbeats 4000000 in
set_option maxRecDepth 100000 in
/-- YOUR PART: from the entry, for every script of at most 2048 ints, the law comes to its end with true -/
theorem whole_start {p : Program} {e : Env} {s : State} {m : MethodId} {below : List Frame} {meth : Method} {c : Code} (l : Launch) (hflags : l.flags = flags0) {b L : Nat} {xs : Nat → Int32} (hL : L ≤ 2048) (C0 : lw_At p s m meth c b L xs) : W p l e room_1 s m #[Value.ref b] below meth c s.heap [] 0 0 (lw_Z below #[Value.ref b] s) (entryFrame m ([Value.ref b] : List Value).toArray 4) := by
  obtain ⟨hx, hb, hr, hml, hown, hts0, hX0, hbl, hlocks, hgv⟩ := id C0
  have hown : s.vm.findClass RL = some m.cls := hown
  have hA : ∀ q : Nat, s.heap.size ≤ q → lA s q := fun _ h => h
  obtain ⟨hEF, hEs⟩ := start_tabs hts0 hgv
  obtain ⟨D, ks, hX⟩ := start_known hts0
  have hK := hX.1
  have h1 : ∀ w ∈ wsL_law_r1, w.before #[Value.ref b] s = true := fun w h => hts0 w (wsL_law_r1_in w h)
  have h3 : ∀ w ∈ wsL_law_r3, w.before #[Value.ref b] s = true := fun w h => hts0 w (wsL_law_r3_in w h)
  have hts : ∀ w ∈ wsL_law, w.before #[Value.ref b] s = true := fun w h => hts0 w (wsL_law_in w h)
  have hS : va_S (lA s) s.heap s.heap [] := va_S.rf
  have hP : va_P D vwCl [] s.heap := fun k q h => by simp at h
  have hD : va_D (lA s) [] := ⟨fun i j p q h => by simp at h, fun k q h => by simp at h⟩
  have hl := lv_entry ([.ref b]) (n := 4) (Nat.le_of_ble_eq_true rfl)
  rw [lg_entry_eq]
  generalize (lg_sl ([.ref b]) ++ List.replicate (4 - (lg_sl ([.ref b])).length) Slot.unset).toArray = ls at hl ⊢
  have hl : lv_has ls 4 [(0, .ref b)] := hl
  refine va_new (ci := 3) (fs := [.null, .null, .null, .null]) (C := RX4) (T := TX4) (N := 4) hx hb hts inlX4 tyX4 tyX4_ok hown (h1 (.classLink RL 7 RX4) (by decide +kernel)) (h1 (.instantiable RX4 4) (by decide +kernel)) (h1 (.initialized RX4) (by decide +kernel)) hK hP hD hS hA rfl (fun j hj => by rcases (show j = 0 ∨ j = 1 ∨ j = 2 ∨ j = 3 by omega) with rfl | rfl | rfl | rfl <;> rfl) (Nat.le_of_ble_eq_true rfl) (Nat.le_of_ble_eq_true rfl) dL_law_0 (fun o H hP hD hS => ?_)
  replace hP : va_P D vwCl [(o, .inr (3, [.null, .null, .null, .null]))] H := hP
  replace hD : va_D (lA s) [(o, .inr (3, [.null, .null, .null, .null]))] := hD
  refine lv_dup hx hb dL_law_3 rfl ?_
  refine xcallC (As := []) (rest := [.ref o]) (wc := [(o, .inr (3, [.null, .null, .null, .null]))]) (wr := ([] : va_W)) ⟨hx, hb, hml, hown, hts⟩ (c_X4_init o) (cwI 0 hts gL_law_X4_init rfl rfl rfl (h1 (.initialized RX4) (by decide +kernel)) (h1 (.methodLink RL 9 yX4_init) (by decide +kernel)) (h1 (.instanceMethod yX4_init) (by decide +kernel)) rfl (by decide +kernel) ⟨Nat.le_of_ble_eq_true rfl, Nat.le_of_ble_eq_true rfl⟩) hX hP hD hS hA [0] [] rfl rfl ⟨by decide, by decide⟩ (by decide) hEF ok_xEF rfl hl.1 rfl (Nat.le_of_ble_eq_true rfl) dL_law_4 ⟨Nat.le_of_ble_eq_true rfl, Nat.le_of_ble_eq_true rfl⟩ (fun v H locs hu hP2 hD2 hS => ?_)
  obtain ⟨fa, fb, fh, fq, ft⟩ := v
  have hP : va_P D vwCl (wS o fa fb fh ft ++ (wF ks fa fd0 ++ (wF ks fb fd0 ++ (wH ks fh fq 0 (fun _ => fd0) ++ wT ks ft td0)))) H := hP2
  have hD : va_D (lA s) (wS o fa fb fh ft ++ (wF ks fa fd0 ++ (wF ks fb fd0 ++ (wH ks fh fq 0 (fun _ => fd0) ++ wT ks ft td0)))) := hD2
  clear hP2 hD2
  refine lv_astore_n (lv' := [(1, .ref o), (0, .ref b)]) hx hb dL_law_7 rfl hl (by decide) rfl (fun ls hl => ?_)
  refine va_new (ci := 4) (fs := [.null, .null, .null, .int 0, .null, .int 0, .int 0, .int 0, .int 0, .int 0]) (C := RX5) (T := TX5) (N := 10) hx hb hts inlX5 tyX5 tyX5_ok hown (h1 (.classLink RL 10 RX5) (by decide +kernel)) (h1 (.instantiable RX5 10) (by decide +kernel)) (h1 (.initialized RX5) (by decide +kernel)) hK hP hD hS hA rfl (fun j hj => by rcases (show j = 0 ∨ j = 1 ∨ j = 2 ∨ j = 3 ∨ j = 4 ∨ j = 5 ∨ j = 6 ∨ j = 7 ∨ j = 8 ∨ j = 9 by omega) with rfl | rfl | rfl | rfl | rfl | rfl | rfl | rfl | rfl | rfl <;> rfl) (Nat.le_of_ble_eq_true rfl) (Nat.le_of_ble_eq_true rfl) dL_law_8 (fun q5 H hP hD hS => ?_)
  refine lv_dup hx hb dL_law_11 rfl ?_
  refine xcallC (As := []) (rest := [.ref q5]) (wc := [(q5, .inr (4, [.null, .null, .null, .int 0, .null, .int 0, .int 0, .int 0, .int 0, .int 0]))]) (wr := (wS o fa fb fh ft ++ (wF ks fa fd0 ++ (wF ks fb fd0 ++ (wH ks fh fq 0 (fun _ => fd0) ++ wT ks ft td0))))) ⟨hx, hb, hml, hown, hts⟩ (c_X5_init q5) (cwI 0 hts gL_law_X5_init rfl rfl rfl (h1 (.initialized RX5) (by decide +kernel)) (h3 (.methodLink RL 12 yX5_init) (by decide +kernel)) (h3 (.instanceMethod yX5_init) (by decide +kernel)) rfl (by decide +kernel) ⟨Nat.le_of_ble_eq_true rfl, Nat.le_of_ble_eq_true rfl⟩) hX hP hD hS hA [34] [0, 1, 2, 3, 4, 5, 6, 7, 8, 9, 10, 11, 12, 13, 14, 15, 16, 17, 18, 19, 20, 21, 22, 23, 24, 25, 26, 27, 28, 29, 30, 31, 32, 33] rfl rfl ⟨by decide, by decide⟩ (by decide) trivial ok_E0 rfl hl.1 rfl (Nat.le_of_ble_eq_true rfl) dL_law_12 ⟨Nat.le_of_ble_eq_true rfl, Nat.le_of_ble_eq_true rfl⟩ (fun u H locs hu hP2 hD2 hS => ?_)
  try dsimp only at hu
  subst hu
  have hP : va_P D vwCl (wL ks o fa fb fh ft u fd0 fd0 fq 0 (fun _ => fd0) td0 md0) H := hP2
  have hD : va_D (lA s) (wL ks o fa fb fh ft u fd0 fd0 fq 0 (fun _ => fd0) td0 md0) := hD2
  clear hP2 hD2
  refine W.widen (k := 39) (n := 895) (Nat.le_of_ble_eq_true rfl) (Nat.le_of_ble_eq_true rfl) ?_
  refine lv_astore_n (lv' := [(2, .ref u.1), (1, .ref o), (0, .ref b)]) hx hb dL_law_15 rfl hl (by decide) rfl (fun ls hl => ?_)
  refine lv_iconst (v := 0) hx hb dL_law_16 (by decide) ?_
  refine lv_istore_n (lv' := [(3, .int (nI (4 * 0))), (2, .ref u.1), (1, .ref o), (0, .ref b)]) hx hb dL_law_17 rfl hl (by decide) rfl (fun ls hl => ?_)
  exact law_loop (k := 6000) (Nat.le_refl _) C0 hX hEs hL L 0 fd0 fd0 fq 0 (fun _ => fd0) td0 md0 H locs ls (by omega) (by omega) rs0 hP hD hS hl
