/-! THE LAW: its start. -/
theorem j7 {P : Nat → Prop} (h0 : P 0) (h1 : P 1) (h2 : P 2) (h3 : P 3) (h4 : P 4) (h5 : P 5) (h6 : P 6) : ∀ j, j < 7 → P j := by
  intro j hj
  have : j = 0 ∨ j = 1 ∨ j = 2 ∨ j = 3 ∨ j = 4 ∨ j = 5 ∨ j = 6 := by omega
  rcases this with rfl | rfl | rfl | rfl | rfl | rfl | rfl
  · exact h0
  · exact h1
  · exact h2
  · exact h3
  · exact h4
  · exact h5
  · exact h6
set_option maxHeartbeats 4000000 in
set_option maxRecDepth 100000 in
/-- the tables of settings, at the start -/
theorem start_tabs {s : State} {b : Nat} (hts : ∀ w ∈ lw_tbl, w.before #[Value.ref b] s = true) (hgv : (Jvm.Cond.and given_1 narrow_1).before #[Value.ref b] s = true) : xEF (lA s) s s.heap ∧ xEset (lA s) s s.heap := by
  have hs := flat_of_before _ hgv
  have hA : ∀ a : Nat, a < s.heap.size → ¬ lA s a := fun a h => Nat.not_le.mpr h
  have hini : (Cond.initialized "SoapFilm").before #[Value.ref b] s = true := hts _ (by decide +kernel)
  refine ⟨?_, ?_, ?_⟩
  · have harr : (Cond.arrayOf (.static "SoapFilm" "FIRST_SETTING" "[I") .int).before #[Value.ref b] s = true := hs _ (by decide +kernel)
    have hlen : (Cond.eq (.length (.static "SoapFilm" "FIRST_SETTING" "[I")) (.int 7)).before #[Value.ref b] s = true := hs _ (by decide +kernel)
    obtain ⟨t, ht, hT⟩ := va_Tof (tm := .static "SoapFilm" "FIRST_SETTING" "[I") (ty := .int) (N := 7) (f := fun j => .int (tb_FIRST_SETTING j)) (A := lA s) (by decide) harr (va_eqt hlen) (j7 (va_eqt (z := 20) (hs _ (by decide +kernel))) (va_eqt (z := 1) (hs _ (by decide +kernel))) (va_eqt (z := 10) (hs _ (by decide +kernel))) (va_eqt (z := 30) (hs _ (by decide +kernel))) (va_eqt (z := 5) (hs _ (by decide +kernel))) (va_eqt (z := 12) (hs _ (by decide +kernel))) (va_eqt (z := 3000) (hs _ (by decide +kernel)))) hA
    exact ⟨t, va_Zof (hts (.laysStatic "SoapFilm" "FIRST_SETTING" "[I") (by decide +kernel)) hini ht hA, hT⟩
  · have harr : (Cond.arrayOf (.static "SoapFilm" "LEAST_SETTING" "[I") .int).before #[Value.ref b] s = true := hs _ (by decide +kernel)
    have hlen : (Cond.eq (.length (.static "SoapFilm" "LEAST_SETTING" "[I")) (.int 7)).before #[Value.ref b] s = true := hs _ (by decide +kernel)
    obtain ⟨t, ht, hT⟩ := va_Tof (tm := .static "SoapFilm" "LEAST_SETTING" "[I") (ty := .int) (N := 7) (f := fun j => .int (tb_LEAST_SETTING j)) (A := lA s) (by decide) harr (va_eqt hlen) (j7 (va_eqt (z := 0) (hs _ (by decide +kernel))) (va_eqt (z := 0) (hs _ (by decide +kernel))) (va_eqt (z := 0) (hs _ (by decide +kernel))) (va_eqt (z := 1) (hs _ (by decide +kernel))) (va_eqt (z := 0) (hs _ (by decide +kernel))) (va_eqt (z := 1) (hs _ (by decide +kernel))) (va_eqt (z := 1) (hs _ (by decide +kernel)))) hA
    exact ⟨t, va_Zof (hts (.laysStatic "SoapFilm" "LEAST_SETTING" "[I") (by decide +kernel)) hini ht hA, hT⟩
  · have harr : (Cond.arrayOf (.static "SoapFilm" "GREATEST_SETTING" "[I") .int).before #[Value.ref b] s = true := hs _ (by decide +kernel)
    have hlen : (Cond.eq (.length (.static "SoapFilm" "GREATEST_SETTING" "[I")) (.int 7)).before #[Value.ref b] s = true := hs _ (by decide +kernel)
    obtain ⟨t, ht, hT⟩ := va_Tof (tm := .static "SoapFilm" "GREATEST_SETTING" "[I") (ty := .int) (N := 7) (f := fun j => .int (tb_GREATEST_SETTING j)) (A := lA s) (by decide) harr (va_eqt hlen) (j7 (va_eqt (z := 100) (hs _ (by decide +kernel))) (va_eqt (z := 50) (hs _ (by decide +kernel))) (va_eqt (z := 500) (hs _ (by decide +kernel))) (va_eqt (z := 200) (hs _ (by decide +kernel))) (va_eqt (z := 100) (hs _ (by decide +kernel))) (va_eqt (z := 24) (hs _ (by decide +kernel))) (va_eqt (z := 100000) (hs _ (by decide +kernel)))) hA
    exact ⟨t, va_Zof (hts (.laysStatic "SoapFilm" "GREATEST_SETTING" "[I") (by decide +kernel)) hini ht hA, hT⟩
set_option maxHeartbeats 4000000 in
set_option maxRecDepth 100000 in
/-- the classes and the arrays, at the start -/
theorem start_known {s : State} {b : Nat} (hts : ∀ w ∈ lw_tbl, w.before #[Value.ref b] s = true) : ∃ (D : va_G) (ks : K3), xK D ks s := by
  obtain ⟨c0, iS0, hKn0⟩ := u_known (C := RX0) (T := TX0) (N := 10) (n := 10) hts inX0 (hts (.instantiable RX0 10) (by decide +kernel))
  obtain ⟨c1, iS1, hKn1⟩ := u_known (C := RX1) (T := TX1) (N := 6) (n := 6) hts inX1 (hts (.instantiable RX1 6) (by decide +kernel))
  obtain ⟨c2, iS2, hKn2⟩ := u_known (C := RX2) (T := TX2) (N := 2) (n := 2) hts inX2 (hts (.instantiable RX2 2) (by decide +kernel))
  obtain ⟨c4, iS4, hKn4⟩ := u_known (C := RX4) (T := TX4) (N := 4) (n := 4) hts inX4 (hts (.instantiable RX4 4) (by decide +kernel))
  obtain ⟨dC, dI, hKc⟩ : ∃ (dC : Nat → ClassId) (dI : Nat → Nat → Nat), ∀ (k : Nat) (q : vw_C), vwCl[k]? = some q → u_Kn s q.1 q.2.1 q.2.2 (dC k) (dI k) := by
    refine ⟨fun k => match k with | 0 => c0 | 1 => c1 | 2 => c2 | _ => c4, fun k => match k with | 0 => iS0 | 1 => iS1 | 2 => iS2 | _ => iS4, ?_⟩
    intro k q hq
    match k, hq with
    | 0, hq => cases hq; exact hKn0
    | 1, hq => cases hq; exact hKn1
    | 2, hq => cases hq; exact hKn2
    | 3, hq => cases hq; exact hKn4
    | k + 4, hq => simp [vwCl] at hq
  obtain ⟨cI, kI, mI, f1, f2, f3⟩ := Cond.arrayClass_spec (hts (.arrayClass .int) (by decide +kernel))
  obtain ⟨cC, kC, mC, g1, g2, g3⟩ := Cond.arrayClass_spec (hts (.arrayClass .char) (by decide +kernel))
  have hO : (Cond.arrayOver (.object "SoapFilm$Film")).before #[Value.ref b] s = true := hts _ (by decide +kernel)
  obtain ⟨mF, cF, kF, o1, o2, o3, o4, o5⟩ := Cond.arrayOver_spec hO
  refine ⟨(dC, dI), (cI, cC, cF), ⟨hKc, fun k q hk => ?_⟩, va_Nw.of rfl (hts _ (by decide +kernel)), va_Nw.of rfl (hts _ (by decide +kernel)), va_Nw.of rfl (hts _ (by decide +kernel)), va_Nw.of rfl (hts _ (by decide +kernel)), va_AO.of hO⟩
  match k, hk with
  | 0, hk => cases hk; exact ⟨fun n z => ⟨fun k h => (by cases h), kI, f2, mI, f3⟩, f1⟩
  | 1, hk => cases hk; exact ⟨fun n z => ⟨fun k h => (by cases h), kC, g2, mC, g3⟩, g1⟩
  | 2, hk => cases hk; exact ⟨fun n z => ⟨fun k h => (by cases h), kF, o3, mF, o4⟩, kF, mF, o3, o4, o1, o5⟩
  | k + 3, hk => simp [tyK] at hk
set_option maxHeartbeats 4000000 in
set_option maxRecDepth 100000 in
/-- YOUR PART: from the entry, for every script of at most 260 ints, the law comes to its end with true ('hflags': the launch's flags, for a law that throws: no stack traces) -/
theorem whole_start {p : Program} {e : Env} {s : State} {m : MethodId} {below : List Frame} {meth : Method} {c : Code} (l : Launch) (hflags : l.flags = flags0) {b L : Nat} {xs : Nat → Int32} (hL : L ≤ 260) (C0 : lw_At p s m meth c b L xs) : W p l e room_1 s m #[Value.ref b] below meth c s.heap [] 0 0 (lw_Z below #[Value.ref b] s) (entryFrame m ([Value.ref b] : List Value).toArray 9) := by
  obtain ⟨hx, hb, hr, hml, hown, hts0, hX0, hbl, hlocks, hgv⟩ := id C0
  have hown : s.vm.findClass RL = some m.cls := hown
  have hA : ∀ q : Nat, s.heap.size ≤ q → lA s q := fun _ h => h
  have hbA : ¬ lA s b := Nat.not_le.mpr hbl
  obtain ⟨hEF, hEs⟩ := start_tabs hts0 hgv
  obtain ⟨D, ks, hX⟩ := start_known hts0
  have hK := hX.1
  have hts : ∀ w ∈ wsL_law, w.before #[Value.ref b] s = true := fun w h => hts0 w (wsL_law_in w h)
  have S0 : CallFix p m c cL_law 9 s #[Value.ref b] wsL_law RL := ⟨hx, hb, hml, hown, hts⟩
  have hS : va_S (lA s) s.heap s.heap [] := va_S.rf
  have hl := lv_entry ([.ref b]) (n := 9) (Nat.le_of_ble_eq_true rfl)
  rw [lg_entry_eq]
  generalize (lg_sl ([.ref b]) ++ List.replicate (9 - (lg_sl ([.ref b])).length) Slot.unset).toArray = ls at hl ⊢
  have hl : lv_has ls 9 [(0, .ref b)] := hl
  refine xcallN (mc := 34) (ms := 477) (rest := []) ⟨hx, hb, hml, hown, hts⟩ c_L_texts (va_cwS 0 hts gL_law_L_texts rfl rfl rfl (by decide +kernel) ⟨Nat.le_of_ble_eq_true rfl, Nat.le_of_ble_eq_true rfl⟩) hX hS hA ⟨hEF, hEs⟩ ok_xE2 hl.1 (Nat.le_of_ble_eq_true rfl) dL_law_0 ⟨Nat.le_of_ble_eq_true rfl, Nat.le_of_ble_eq_true rfl⟩ (fun H locs hS => ?_)
  refine lv_if_eq (tgt := 12) hx hb dL_law_3 (by decide) (fun c => absurd c (by decide)) (fun _ => ?_)
  refine xcallN (mc := 34) (ms := 477) (rest := []) ⟨hx, hb, hml, hown, hts⟩ c_L_known (va_cwS 0 hts gL_law_L_known rfl rfl rfl (by decide +kernel) ⟨Nat.le_of_ble_eq_true rfl, Nat.le_of_ble_eq_true rfl⟩) hX hS hA ⟨hEF, hEs⟩ ok_xE2 hl.1 (Nat.le_of_ble_eq_true rfl) dL_law_6 ⟨Nat.le_of_ble_eq_true rfl, Nat.le_of_ble_eq_true rfl⟩ (fun H locs hS => ?_)
  refine lv_if_ne (tgt := 14) hx hb dL_law_9 (by decide) (fun _ => ?_) (fun c => absurd c (by decide))
  refine W.widen (k := 68) (n := 954) (Nat.le_of_ble_eq_true rfl) (Nat.le_of_ble_eq_true rfl) ?_
  have hP := va_P00 D vwCl H
  have hD := va_D00 (lA s)
  refine va_new (ci := 3) (fs := [.null, .null, .null, .null]) (C := RX4) (T := TX4) (N := 4) hx hb hts inlX4 tyX4 tyX4_ok hown (hts (.classLink RL 14 RX4) (by decide +kernel)) (hts (.instantiable RX4 4) (by decide +kernel)) (hts (.initialized RX4) (by decide +kernel)) hK hP hD hS hA rfl (fun j hj => by rcases (show j = 0 ∨ j = 1 ∨ j = 2 ∨ j = 3 by omega) with rfl | rfl | rfl | rfl <;> rfl) (Nat.le_of_ble_eq_true rfl) (Nat.le_of_ble_eq_true rfl) dL_law_14 (fun o H hP hD hS => ?_)
  replace hP : va_P D vwCl [(o, .inr (3, [.null, .null, .null, .null]))] H := hP
  replace hD : va_D (lA s) [(o, .inr (3, [.null, .null, .null, .null]))] := hD
  refine lv_dup hx hb dL_law_17 rfl ?_
  refine xcallC (As := []) (rest := [.ref o]) (wc := [(o, .inr (3, [.null, .null, .null, .null]))]) (wr := ([] : va_W)) ⟨hx, hb, hml, hown, hts⟩ (c_X4_init o) (cwI 0 hts gL_law_X4_init rfl rfl rfl (hts (.initialized RX4) (by decide +kernel)) (hts (.methodLink RL 90 yX4_init) (by decide +kernel)) (hts (.instanceMethod yX4_init) (by decide +kernel)) rfl (by decide +kernel) ⟨Nat.le_of_ble_eq_true rfl, Nat.le_of_ble_eq_true rfl⟩) hX hP hD hS hA [0] [] rfl rfl ⟨by decide, by decide⟩ (by decide) hEF ok_xEF rfl hl.1 rfl (Nat.le_of_ble_eq_true rfl) dL_law_18 ⟨Nat.le_of_ble_eq_true rfl, Nat.le_of_ble_eq_true rfl⟩ (fun v H locs hu hP2 hD2 hS => ?_)
  obtain ⟨fa, fb, fh, fq, ft⟩ := v
  have hP : va_P D vwCl (wO ks o fa fb fh ft fd0 fd0 fq 0 (fun _ => fd0) td0) H := hP2
  have hD : va_D (lA s) (wO ks o fa fb fh ft fd0 fd0 fq 0 (fun _ => fd0) td0) := hD2
  clear hP2 hD2
  refine W.widen (k := 102) (n := 1431) (Nat.le_of_ble_eq_true rfl) (Nat.le_of_ble_eq_true rfl) ?_
  refine lv_astore_n (lv' := [(1, .ref o), (0, .ref b)]) hx hb dL_law_21 rfl hl (by decide) rfl (fun ls hl => ?_)
  refine lw_set S0 hX hEs hA hX0 hbl hbA hL hP hD hS hl (fun F qA qz qS wq cL w H locs ls hI hKL hP hD hS hl => ?_)
  refine lw_loop S0 hX hEs hA hX0 hbl hbA hL hKL (fun F qA qz qS w cn H locs ls hc hI hP hD hS hl => ?_) 24 0 F qA qz qS w 0 H locs ls rfl (Nat.le_refl 0) hI hP hD hS hl
  refine lw_ref2 S0 hX hEs hA hX0 hbl hbA hL hKL hI hP hD hS hl (fun G H locs ls hP hD hS hl => ?_)
  refine lw_undos S0 hX hEs hA hX0 hbl hbA hL hKL hc (fun F qz H locs ls hU hP hD hS hl => ?_) (min cn 5) 0 F qz H locs ls (by omega) (LU_0 hI) hP hD hS hl
  refine lw_last S0 hX hEs hA hX0 hbl hbA hL hKL hc hU hP hD hS hl (fun H locs hS => ?_)
  clear hP hD
  have hP := va_P00 D vwCl H
  have hD := va_D00 (lA s)
  refine va_new (ci := 3) (fs := [.null, .null, .null, .null]) (C := RX4) (T := TX4) (N := 4) hx hb hts inlX4 tyX4 tyX4_ok hown (hts (.classLink RL 14 RX4) (by decide +kernel)) (hts (.instantiable RX4 4) (by decide +kernel)) (hts (.initialized RX4) (by decide +kernel)) hK hP hD hS hA rfl (fun j hj => by rcases (show j = 0 ∨ j = 1 ∨ j = 2 ∨ j = 3 by omega) with rfl | rfl | rfl | rfl <;> rfl) (Nat.le_of_ble_eq_true rfl) (Nat.le_of_ble_eq_true rfl) dL_law_533 (fun o2 H hP hD hS => ?_)
  replace hP : va_P D vwCl [(o2, .inr (3, [.null, .null, .null, .null]))] H := hP
  replace hD : va_D (lA s) [(o2, .inr (3, [.null, .null, .null, .null]))] := hD
  refine lv_dup hx hb dL_law_536 rfl ?_
  refine xcallC (As := []) (rest := [.ref o2]) (wc := [(o2, .inr (3, [.null, .null, .null, .null]))]) (wr := ([] : va_W)) ⟨hx, hb, hml, hown, hts⟩ (c_X4_init o2) (cwI 0 hts gL_law_X4_init rfl rfl rfl (hts (.initialized RX4) (by decide +kernel)) (hts (.methodLink RL 90 yX4_init) (by decide +kernel)) (hts (.instanceMethod yX4_init) (by decide +kernel)) rfl (by decide +kernel) ⟨Nat.le_of_ble_eq_true rfl, Nat.le_of_ble_eq_true rfl⟩) hX hP hD hS hA [0] [] rfl rfl ⟨by decide, by decide⟩ (by decide) hEF ok_xEF rfl hl.1 rfl (Nat.le_of_ble_eq_true rfl) dL_law_537 ⟨Nat.le_of_ble_eq_true rfl, Nat.le_of_ble_eq_true rfl⟩ (fun v H locs hu hP2 hD2 hS => ?_)
  obtain ⟨fa, fb, fh, fq, ft⟩ := v
  have hP : va_P D vwCl (wO ks o2 fa fb fh ft fd0 fd0 fq 0 (fun _ => fd0) td0) H := hP2
  have hD : va_D (lA s) (wO ks o2 fa fb fh ft fd0 fd0 fq 0 (fun _ => fd0) td0) := hD2
  clear hP2 hD2
  refine W.widen (k := 137) (n := 1940) (Nat.le_of_ble_eq_true rfl) (Nat.le_of_ble_eq_true rfl) ?_
  refine lv_astore (lv' := [(4, .ref o2)]) hx hb dL_law_540 (lv_sub hl [] rfl) (by decide) rfl (fun ls hl => ?_)
  refine lv_iconst (v := 0) hx hb dL_law_542 (by decide) ?_
  refine lv_istore (lv' := [(5, .int (nI 0)), (4, .ref o2)]) hx hb dL_law_543 hl (by decide) rfl (fun ls hl => ?_)
  refine lw_emp S0 hX hEs hA hX0 hbl hbA hL (fun F qA qz qS H locs ls hE0 hP hD hS hl => ?_) 100 0 fd0 fq 0 (fun _ => fd0) H locs ls rfl ⟨rfl, rfl, fun h => absurd h (Nat.not_lt_zero 0)⟩ hP hD hS hl
  refine lw_fin S0 hX hEs hA hX0 hbl hbA hL hE0 hP hD hS hl (fun H locs ls hS => ?_)
  refine W.widen (k := 600000) (n := 7302250) (Nat.le_of_ble_eq_true rfl) (Nat.le_of_ble_eq_true rfl) ?_
  refine va_forget (fun q hq => hS.2.2 q hq) ?_
  exact lw_ret hx hb hr hlocks dL_law_628
