/-! ===== X4_row ===== -/
def p_X4_row (k : Nat) (F : FD) (x1 : Int32) (x2 : Int32) : Option (Int32) :=
  (p_X0_hasRow k F x1).bind fun v1 => if v1 = 0 then (some (-1)) else ((ald (FD.th F) 24 x1).bind fun v3 => (p_X3_path k v3).bind fun v4 => if x2 = 0 then (some v3) else (if x2 = 1 then (some v4) else (if x2 = 2 then ((p_X3_red k v4).bind fun v8 => some v8) else (if x2 = 3 then ((p_X3_green k v4).bind fun v10 => some v10) else (if x2 = 4 then ((p_X3_blue k v4).bind fun v12 => some v12) else (if x2 = 5 then ((p_X0_colourAt k F x1).bind fun v14 => some v14) else (if x2 = 6 then ((p_X3_order k v4).bind fun v16 => some v16) else (if x2 = 7 then ((p_X0_isBlack k F x1).bind fun v18 => if v18 = 0 then (some 0) else (some 1)) else (some (-1))))))))))

set_option maxHeartbeats 4000000 in
set_option maxRecDepth 100000 in
theorem c_X4_row {l : Launch} {D : va_G} {ks : K3} (k : Nat) (o : Nat) (a b : AF) (h : AH) (t : AT) (F : FD) (x1 : Int32) (x2 : Int32) (r : Int32) (hf : p_X4_row k F x1 x2 = some r) : MetR l yX4_row wsX4_row { frames := 4, cells := 0, slots := 0, locals := 85 } D ks [.ref o, .int x1, .int x2] (wS o a b h t ++ wF ks a F) r True := by
  refine MetR.of (cc := cX4_row) (maxL := 5) (ret := (some .int)) (by decide +kernel) rfl (Nat.le_of_ble_eq_true rfl) ?_ ⟨_, rfl⟩
  intro p e s m below meth c Q hx hb hml hts hown hP hX hret ls hl
  have hK := hX.1
  replace hl : lv_has ls 5 [(0, .ref o), (1, .int x1), (2, .int x2)] := hl
  have hiX0 : ∀ w ∈ wsX00, w ∈ wsX4_row := by decide +kernel
  have hiX4 : ∀ w ∈ wsX40, w ∈ wsX4_row := by decide +kernel
  have hk10 := hts (.fieldLink RX4 10 "SoapFilm" "film" "LSoapFilm$Film;") (by decide +kernel)
  have hk68 := hts (.fieldLink RX4 68 "SoapFilm$Film" "thickness" "[I") (by decide +kernel)
  unfold p_X4_row at hf
  refine lv_aload_n hx hb dX4_row_0 rfl (lv_at hl 0 rfl) ?_
  refine va_get (v := .ref a.1) (C := RX4) (T := TX4) (N := 4) hx hb hts hiX4 hown hK hP 0 rfl rfl 0 (by decide) hk10 (fun _ h9 => h9) rfl dX4_row_1 ?_
  refine lv_iload_n hx hb dX4_row_4 rfl (lv_at hl 1 rfl) ?_
  obtain ⟨v1, hv1, hf⟩ := bnd hf
  refine xcallRV (As := [.int x1]) (rest := []) (wc := (wF ks a F)) ⟨hx, hb, hml, hown, hts⟩ (c_X0_hasRow k a F x1 v1 hv1) (cwV 1 hts gX4_row_X0_hasRow rfl rfl rfl (by decide +kernel) ⟨Nat.le_of_ble_eq_true rfl, Nat.le_of_ble_eq_true rfl⟩) hX (hP.sub (ws' := (wF ks a F)) [1, 2, 3, 4] rfl) (ci := 0) (q0 := 0) rfl rfl rfl hl.1 rfl (Nat.le_of_ble_eq_true rfl) dX4_row_5 ⟨Nat.zero_le _, Nat.zero_le _⟩ (fun zv1 => ?_)
  refine lv_if_ne (tgt := 13) hx hb dX4_row_8 (by decide) (fun c2 => ?_) (fun c2 => ?_)
  · replace hf := ifF hf c2
    refine lv_aload_n hx hb dX4_row_13 rfl (lv_at hl 0 rfl) ?_
    refine va_get (v := .ref a.1) (C := RX4) (T := TX4) (N := 4) hx hb hts hiX4 hown hK hP 0 rfl rfl 0 (by decide) hk10 (fun _ h9 => h9) rfl dX4_row_14 ?_
    refine va_get (v := .ref a.2.1) (C := RX0) (T := TX0) (N := 10) hx hb hts hiX0 hown hK hP 1 rfl rfl 0 (by decide) hk68 (fun _ h9 => h9) rfl dX4_row_17 ?_
    refine lv_iload_n hx hb dX4_row_20 rfl (lv_at hl 1 rfl) ?_
    obtain ⟨v3, hv3, hf⟩ := bnd hf
    refine xa_iald hx hb hK hP hv3 2 0 rfl rfl dX4_row_21 ?_
    refine lv_istore_n (lv' := [(3, .int v3), (0, .ref o), (1, .int x1), (2, .int x2)]) hx hb dX4_row_22 rfl hl (by decide) rfl (fun ls hl => ?_)
    refine lv_iload_n hx hb dX4_row_23 rfl (lv_at hl 0 rfl) ?_
    obtain ⟨v4, hv4, hf⟩ := bnd hf
    refine xcallRS (As := [.int v3]) (rest := []) (wc := []) ⟨hx, hb, hml, hown, hts⟩ (c_X3_path k v3 v4 hv4) (va_cwS 1 hts gX4_row_X3_path rfl rfl rfl (by decide +kernel) ⟨Nat.le_of_ble_eq_true rfl, Nat.le_of_ble_eq_true rfl⟩) hX (va_P0 _ _ _) rfl hl.1 rfl (Nat.le_of_ble_eq_true rfl) dX4_row_24 ⟨Nat.zero_le _, Nat.zero_le _⟩ (fun zv4 => ?_)
    refine lv_istore (lv' := [(4, .int v4), (3, .int v3), (0, .ref o), (1, .int x1), (2, .int x2)]) hx hb dX4_row_27 hl (by decide) rfl (fun ls hl => ?_)
    refine lv_iload_n hx hb dX4_row_29 rfl (lv_at hl 4 rfl) ?_
    by_cases c5 : x2 = 0
    · replace hf := ifT hf c5
      refine lv_tableIn (tgt := 76) (off := 46) hx hb dX4_row_30 (by rw [c5]; decide) (by rw [c5]; decide) (by rw [c5]; rfl) (by decide) ?_
      refine lv_iload_n hx hb dX4_row_76 rfl (lv_at hl 1 rfl) ?_
      obtain rfl := Option.some.inj hf
      exact hret trivial _ _ dX4_row_77 (fun ty h => by cases h; rfl)
    replace hf := ifF hf c5
    by_cases c6 : x2 = 1
    · replace hf := ifT hf c6
      refine lv_tableIn (tgt := 78) (off := 48) hx hb dX4_row_30 (by rw [c6]; decide) (by rw [c6]; decide) (by rw [c6]; rfl) (by decide) ?_
      refine lv_iload hx hb dX4_row_78 (lv_at hl 0 rfl) ?_
      obtain rfl := Option.some.inj hf
      exact hret trivial _ _ dX4_row_80 (fun ty h => by cases h; rfl)
    replace hf := ifF hf c6
    by_cases c7 : x2 = 2
    · replace hf := ifT hf c7
      refine lv_tableIn (tgt := 81) (off := 51) hx hb dX4_row_30 (by rw [c7]; decide) (by rw [c7]; decide) (by rw [c7]; rfl) (by decide) ?_
      refine lv_iload hx hb dX4_row_81 (lv_at hl 0 rfl) ?_
      obtain ⟨v8, hv8, hf⟩ := bnd hf
      refine xcallRS (As := [.int v4]) (rest := []) (wc := []) ⟨hx, hb, hml, hown, hts⟩ (c_X3_red k v4 v8 hv8) (va_cwS 1 hts gX4_row_X3_red rfl rfl rfl (by decide +kernel) ⟨Nat.le_of_ble_eq_true rfl, Nat.le_of_ble_eq_true rfl⟩) hX (va_P0 _ _ _) rfl hl.1 rfl (Nat.le_of_ble_eq_true rfl) dX4_row_83 ⟨Nat.zero_le _, Nat.zero_le _⟩ (fun zv8 => ?_)
      obtain rfl := Option.some.inj hf
      exact hret trivial _ _ dX4_row_86 (fun ty h => by cases h; rfl)
    replace hf := ifF hf c7
    by_cases c9 : x2 = 3
    · replace hf := ifT hf c9
      refine lv_tableIn (tgt := 87) (off := 57) hx hb dX4_row_30 (by rw [c9]; decide) (by rw [c9]; decide) (by rw [c9]; rfl) (by decide) ?_
      refine lv_iload hx hb dX4_row_87 (lv_at hl 0 rfl) ?_
      obtain ⟨v10, hv10, hf⟩ := bnd hf
      refine xcallRS (As := [.int v4]) (rest := []) (wc := []) ⟨hx, hb, hml, hown, hts⟩ (c_X3_green k v4 v10 hv10) (va_cwS 1 hts gX4_row_X3_green rfl rfl rfl (by decide +kernel) ⟨Nat.le_of_ble_eq_true rfl, Nat.le_of_ble_eq_true rfl⟩) hX (va_P0 _ _ _) rfl hl.1 rfl (Nat.le_of_ble_eq_true rfl) dX4_row_89 ⟨Nat.zero_le _, Nat.zero_le _⟩ (fun zv10 => ?_)
      obtain rfl := Option.some.inj hf
      exact hret trivial _ _ dX4_row_92 (fun ty h => by cases h; rfl)
    replace hf := ifF hf c9
    by_cases c11 : x2 = 4
    · replace hf := ifT hf c11
      refine lv_tableIn (tgt := 93) (off := 63) hx hb dX4_row_30 (by rw [c11]; decide) (by rw [c11]; decide) (by rw [c11]; rfl) (by decide) ?_
      refine lv_iload hx hb dX4_row_93 (lv_at hl 0 rfl) ?_
      obtain ⟨v12, hv12, hf⟩ := bnd hf
      refine xcallRS (As := [.int v4]) (rest := []) (wc := []) ⟨hx, hb, hml, hown, hts⟩ (c_X3_blue k v4 v12 hv12) (va_cwS 1 hts gX4_row_X3_blue rfl rfl rfl (by decide +kernel) ⟨Nat.le_of_ble_eq_true rfl, Nat.le_of_ble_eq_true rfl⟩) hX (va_P0 _ _ _) rfl hl.1 rfl (Nat.le_of_ble_eq_true rfl) dX4_row_95 ⟨Nat.zero_le _, Nat.zero_le _⟩ (fun zv12 => ?_)
      obtain rfl := Option.some.inj hf
      exact hret trivial _ _ dX4_row_98 (fun ty h => by cases h; rfl)
    replace hf := ifF hf c11
    by_cases c13 : x2 = 5
    · replace hf := ifT hf c13
      refine lv_tableIn (tgt := 99) (off := 69) hx hb dX4_row_30 (by rw [c13]; decide) (by rw [c13]; decide) (by rw [c13]; rfl) (by decide) ?_
      refine lv_aload_n hx hb dX4_row_99 rfl (lv_at hl 2 rfl) ?_
      refine va_get (v := .ref a.1) (C := RX4) (T := TX4) (N := 4) hx hb hts hiX4 hown hK hP 0 rfl rfl 0 (by decide) hk10 (fun _ h9 => h9) rfl dX4_row_100 ?_
      refine lv_iload_n hx hb dX4_row_103 rfl (lv_at hl 3 rfl) ?_
      obtain ⟨v14, hv14, hf⟩ := bnd hf
      refine xcallRV (As := [.int x1]) (rest := []) (wc := (wF ks a F)) ⟨hx, hb, hml, hown, hts⟩ (c_X0_colourAt k a F x1 v14 hv14) (cwV 1 hts gX4_row_X0_colourAt rfl rfl rfl (by decide +kernel) ⟨Nat.le_of_ble_eq_true rfl, Nat.le_of_ble_eq_true rfl⟩) hX (hP.sub (ws' := (wF ks a F)) [1, 2, 3, 4] rfl) (ci := 0) (q0 := 0) rfl rfl rfl hl.1 rfl (Nat.le_of_ble_eq_true rfl) dX4_row_104 ⟨Nat.zero_le _, Nat.zero_le _⟩ (fun zv14 => ?_)
      obtain rfl := Option.some.inj hf
      exact hret trivial _ _ dX4_row_107 (fun ty h => by cases h; rfl)
    replace hf := ifF hf c13
    by_cases c15 : x2 = 6
    · replace hf := ifT hf c15
      refine lv_tableIn (tgt := 108) (off := 78) hx hb dX4_row_30 (by rw [c15]; decide) (by rw [c15]; decide) (by rw [c15]; rfl) (by decide) ?_
      refine lv_iload hx hb dX4_row_108 (lv_at hl 0 rfl) ?_
      obtain ⟨v16, hv16, hf⟩ := bnd hf
      refine xcallRS (As := [.int v4]) (rest := []) (wc := []) ⟨hx, hb, hml, hown, hts⟩ (c_X3_order k v4 v16 hv16) (va_cwS 1 hts gX4_row_X3_order rfl rfl rfl (by decide +kernel) ⟨Nat.le_of_ble_eq_true rfl, Nat.le_of_ble_eq_true rfl⟩) hX (va_P0 _ _ _) rfl hl.1 rfl (Nat.le_of_ble_eq_true rfl) dX4_row_110 ⟨Nat.zero_le _, Nat.zero_le _⟩ (fun zv16 => ?_)
      obtain rfl := Option.some.inj hf
      exact hret trivial _ _ dX4_row_113 (fun ty h => by cases h; rfl)
    replace hf := ifF hf c15
    by_cases c17 : x2 = 7
    · replace hf := ifT hf c17
      refine lv_tableIn (tgt := 114) (off := 84) hx hb dX4_row_30 (by rw [c17]; decide) (by rw [c17]; decide) (by rw [c17]; rfl) (by decide) ?_
      refine lv_aload_n hx hb dX4_row_114 rfl (lv_at hl 2 rfl) ?_
      refine va_get (v := .ref a.1) (C := RX4) (T := TX4) (N := 4) hx hb hts hiX4 hown hK hP 0 rfl rfl 0 (by decide) hk10 (fun _ h9 => h9) rfl dX4_row_115 ?_
      refine lv_iload_n hx hb dX4_row_118 rfl (lv_at hl 3 rfl) ?_
      obtain ⟨v18, hv18, hf⟩ := bnd hf
      refine xcallRV (As := [.int x1]) (rest := []) (wc := (wF ks a F)) ⟨hx, hb, hml, hown, hts⟩ (c_X0_isBlack k a F x1 v18 hv18) (cwV 1 hts gX4_row_X0_isBlack rfl rfl rfl (by decide +kernel) ⟨Nat.le_of_ble_eq_true rfl, Nat.le_of_ble_eq_true rfl⟩) hX (hP.sub (ws' := (wF ks a F)) [1, 2, 3, 4] rfl) (ci := 0) (q0 := 0) rfl rfl rfl hl.1 rfl (Nat.le_of_ble_eq_true rfl) dX4_row_119 ⟨Nat.zero_le _, Nat.zero_le _⟩ (fun zv18 => ?_)
      refine lv_if_eq (tgt := 129) hx hb dX4_row_122 (by decide) (fun c19 => ?_) (fun c19 => ?_)
      · replace hf := ifT hf c19
        refine lv_iconst (v := 0) hx hb dX4_row_129 (by decide) ?_
        obtain rfl := Option.some.inj hf
        exact hret trivial _ _ dX4_row_130 (fun ty h => by cases h; rfl)
      · replace hf := ifF hf c19
        refine lv_iconst (v := 1) hx hb dX4_row_125 (by decide) ?_
        refine lv_goto (tgt := 130) hx hb dX4_row_126 (by decide) ?_
        obtain rfl := Option.some.inj hf
        exact hret trivial _ _ dX4_row_130 (fun ty h => by cases h; rfl)
    replace hf := ifF hf c17
    refine lv_tableOut (tgt := 131) hx hb dX4_row_30 (by have := lv_neT (a := 0) c5 (by decide); have := lv_neT (a := 1) c6 (by decide); have := lv_neT (a := 2) c7 (by decide); have := lv_neT (a := 3) c9 (by decide); have := lv_neT (a := 4) c11 (by decide); have := lv_neT (a := 5) c13 (by decide); have := lv_neT (a := 6) c15 (by decide); have := lv_neT (a := 7) c17 (by decide); omega) (by decide) ?_
    refine lv_iconst (v := (-1)) hx hb dX4_row_131 (by decide) ?_
    obtain rfl := Option.some.inj hf
    exact hret trivial _ _ dX4_row_132 (fun ty h => by cases h; rfl)
  · replace hf := ifT hf c2
    refine lv_iconst (v := (-1)) hx hb dX4_row_11 (by decide) ?_
    obtain rfl := Option.some.inj hf
    exact hret trivial _ _ dX4_row_12 (fun ty h => by cases h; rfl)

/-! ===== X4_count ===== -/
def p_X4_count (k : Nat) (F : FD) (qA : Nat → AF) (qz : Int32) (qS : Nat → FD) (T : TD) (x1 : Int32) : Option (Int32) :=
  (p_X4_isBetween k x1 20 26).bind fun v1 => if v1 = 0 then ((p_X4_isBetween k x1 30 36).bind fun v3 => if v3 = 0 then (if x1 = 0 then (some (FD.rows F)) else (if x1 = 1 then (some (FD.ticks F)) else (if x1 = 2 then ((p_X0_blackRows k F).bind fun v8 => some v8) else (if x1 = 3 then ((p_X0_fringes k F).bind fun v10 => some v10) else (if x1 = 4 then ((p_X0_differentColours k F).bind fun v12 => some v12) else (if x1 = 5 then (if (FD.rows F) = 0 then (some (-4)) else ((p_X0_greatestOrder k F).bind fun v15 => some v15)) else (if x1 = 6 then (some (FD.burstReason F)) else (if x1 = 7 then (if (FD.bursts F) = 0 then (some (-4)) else (some (FD.burstNumber F))) else (if x1 = 8 then (if (FD.bursts F) = 0 then (some (-4)) else (some (FD.ticksBeforeBurst F))) else (if x1 = 9 then (some (FD.bursts F)) else (if x1 = 10 then (some (FD.drops F)) else (if x1 = 11 then (some qz) else (if x1 = 12 then (some (TD.length T)) else (some (-1))))))))))))))) else ((ald (FD.st F) 7 (x1 - 30)).bind fun v25 => some v25)) else ((ald (FD.ac F) 7 (x1 - 20)).bind fun v26 => some v26)

set_option maxHeartbeats 4000000 in
set_option maxRecDepth 100000 in
theorem c_X4_count {l : Launch} {D : va_G} {ks : K3} (k : Nat) (o : Nat) (a b : AF) (h : AH) (t : AT) (F : FD) (qA : Nat → AF) (qz : Int32) (qS : Nat → FD) (T : TD) (x1 : Int32) (r : Int32) (hf : p_X4_count k F qA qz qS T x1 = some r) : MetR l yX4_count wsX4_count { frames := 6, cells := 0, slots := 0, locals := 128 } D ks [.ref o, .int x1] (wS o a b h t ++ wF ks a F ++ wH ks h qA qz qS ++ wT ks t T) r True := by
  refine MetR.of (cc := cX4_count) (maxL := 2) (ret := (some .int)) (by decide +kernel) rfl (Nat.le_of_ble_eq_true rfl) ?_ ⟨_, rfl⟩
  intro p e s m below meth c Q hx hb hml hts hown hP hX hret ls hl
  have hK := hX.1
  replace hl : lv_has ls 2 [(0, .ref o), (1, .int x1)] := hl
  have hiX0 : ∀ w ∈ wsX00, w ∈ wsX4_count := by decide +kernel
  have hiX1 : ∀ w ∈ wsX10, w ∈ wsX4_count := by decide +kernel
  have hiX2 : ∀ w ∈ wsX20, w ∈ wsX4_count := by decide +kernel
  have hiX4 : ∀ w ∈ wsX40, w ∈ wsX4_count := by decide +kernel
  have hk10 := hts (.fieldLink RX4 10 "SoapFilm" "film" "LSoapFilm$Film;") (by decide +kernel)
  have hk74 := hts (.fieldLink RX4 74 "SoapFilm$Film" "rows" "I") (by decide +kernel)
  have hk82 := hts (.fieldLink RX4 82 "SoapFilm$Film" "ticks" "I") (by decide +kernel)
  have hk132 := hts (.fieldLink RX4 132 "SoapFilm$Film" "burstReason" "I") (by decide +kernel)
  have hk135 := hts (.fieldLink RX4 135 "SoapFilm$Film" "bursts" "I") (by decide +kernel)
  have hk138 := hts (.fieldLink RX4 138 "SoapFilm$Film" "burstNumber" "I") (by decide +kernel)
  have hk141 := hts (.fieldLink RX4 141 "SoapFilm$Film" "ticksBeforeBurst" "I") (by decide +kernel)
  have hk144 := hts (.fieldLink RX4 144 "SoapFilm$Film" "drops" "I") (by decide +kernel)
  have hk22 := hts (.fieldLink RX4 22 "SoapFilm" "history" "LSoapFilm$History;") (by decide +kernel)
  have hk89 := hts (.fieldLink RX4 89 "SoapFilm$History" "size" "I") (by decide +kernel)
  have hk29 := hts (.fieldLink RX4 29 "SoapFilm" "text" "LSoapFilm$FilmText;") (by decide +kernel)
  have hk147 := hts (.fieldLink RX4 147 "SoapFilm$FilmText" "length" "I") (by decide +kernel)
  have hk48 := hts (.fieldLink RX4 48 "SoapFilm$Film" "settings" "[I") (by decide +kernel)
  have hk62 := hts (.fieldLink RX4 62 "SoapFilm$Film" "accounts" "[I") (by decide +kernel)
  unfold p_X4_count at hf
  refine lv_iload_n hx hb dX4_count_0 rfl (lv_at hl 1 rfl) ?_
  refine lv_bipush (v := 20) hx hb dX4_count_1 (by decide) ?_
  refine lv_bipush (v := 26) hx hb dX4_count_3 (by decide) ?_
  obtain ⟨v1, hv1, hf⟩ := bnd hf
  refine xcallRS (As := [.int x1, .int 20, .int 26]) (rest := []) (wc := []) ⟨hx, hb, hml, hown, hts⟩ (c_X4_isBetween k x1 20 26 v1 hv1) (va_cwS 3 hts gX4_count_X4_isBetween rfl rfl rfl (by decide +kernel) ⟨Nat.le_of_ble_eq_true rfl, Nat.le_of_ble_eq_true rfl⟩) hX (va_P0 _ _ _) rfl hl.1 rfl (Nat.le_of_ble_eq_true rfl) dX4_count_5 ⟨Nat.zero_le _, Nat.zero_le _⟩ (fun zv1 => ?_)
  refine lv_if_eq (tgt := 24) hx hb dX4_count_8 (by decide) (fun c2 => ?_) (fun c2 => ?_)
  · replace hf := ifT hf c2
    refine lv_iload_n hx hb dX4_count_24 rfl (lv_at hl 1 rfl) ?_
    refine lv_bipush (v := 30) hx hb dX4_count_25 (by decide) ?_
    refine lv_bipush (v := 36) hx hb dX4_count_27 (by decide) ?_
    obtain ⟨v3, hv3, hf⟩ := bnd hf
    refine xcallRS (As := [.int x1, .int 30, .int 36]) (rest := []) (wc := []) ⟨hx, hb, hml, hown, hts⟩ (c_X4_isBetween k x1 30 36 v3 hv3) (va_cwS 3 hts gX4_count_X4_isBetween rfl rfl rfl (by decide +kernel) ⟨Nat.le_of_ble_eq_true rfl, Nat.le_of_ble_eq_true rfl⟩) hX (va_P0 _ _ _) rfl hl.1 rfl (Nat.le_of_ble_eq_true rfl) dX4_count_29 ⟨Nat.zero_le _, Nat.zero_le _⟩ (fun zv3 => ?_)
    refine lv_if_eq (tgt := 48) hx hb dX4_count_32 (by decide) (fun c4 => ?_) (fun c4 => ?_)
    · replace hf := ifT hf c4
      refine lv_iload_n hx hb dX4_count_48 rfl (lv_at hl 1 rfl) ?_
      by_cases c5 : x1 = 0
      · replace hf := ifT hf c5
        refine lv_tableIn (tgt := 116) (off := 67) hx hb dX4_count_49 (by rw [c5]; decide) (by rw [c5]; decide) (by rw [c5]; rfl) (by decide) ?_
        refine lv_aload_n hx hb dX4_count_116 rfl (lv_at hl 0 rfl) ?_
        refine va_get (v := .ref a.1) (C := RX4) (T := TX4) (N := 4) hx hb hts hiX4 hown hK hP 0 rfl rfl 0 (by decide) hk10 (fun _ h9 => h9) rfl dX4_count_117 ?_
        refine va_get (v := .int (FD.rows F)) (C := RX0) (T := TX0) (N := 10) hx hb hts hiX0 hown hK hP 1 rfl rfl 3 (by decide) hk74 (fun _ h9 => h9) rfl dX4_count_120 ?_
        obtain rfl := Option.some.inj hf
        exact hret trivial _ _ dX4_count_123 (fun ty h => by cases h; rfl)
      replace hf := ifF hf c5
      by_cases c6 : x1 = 1
      · replace hf := ifT hf c6
        refine lv_tableIn (tgt := 124) (off := 75) hx hb dX4_count_49 (by rw [c6]; decide) (by rw [c6]; decide) (by rw [c6]; rfl) (by decide) ?_
        refine lv_aload_n hx hb dX4_count_124 rfl (lv_at hl 0 rfl) ?_
        refine va_get (v := .ref a.1) (C := RX4) (T := TX4) (N := 4) hx hb hts hiX4 hown hK hP 0 rfl rfl 0 (by decide) hk10 (fun _ h9 => h9) rfl dX4_count_125 ?_
        refine va_get (v := .int (FD.ticks F)) (C := RX0) (T := TX0) (N := 10) hx hb hts hiX0 hown hK hP 1 rfl rfl 4 (by decide) hk82 (fun _ h9 => h9) rfl dX4_count_128 ?_
        obtain rfl := Option.some.inj hf
        exact hret trivial _ _ dX4_count_131 (fun ty h => by cases h; rfl)
      replace hf := ifF hf c6
      by_cases c7 : x1 = 2
      · replace hf := ifT hf c7
        refine lv_tableIn (tgt := 132) (off := 83) hx hb dX4_count_49 (by rw [c7]; decide) (by rw [c7]; decide) (by rw [c7]; rfl) (by decide) ?_
        refine lv_aload_n hx hb dX4_count_132 rfl (lv_at hl 0 rfl) ?_
        refine va_get (v := .ref a.1) (C := RX4) (T := TX4) (N := 4) hx hb hts hiX4 hown hK hP 0 rfl rfl 0 (by decide) hk10 (fun _ h9 => h9) rfl dX4_count_133 ?_
        obtain ⟨v8, hv8, hf⟩ := bnd hf
        refine xcallRV (As := []) (rest := []) (wc := (wF ks a F)) ⟨hx, hb, hml, hown, hts⟩ (c_X0_blackRows k a F v8 hv8) (cwV 0 hts gX4_count_X0_blackRows rfl rfl rfl (by decide +kernel) ⟨Nat.le_of_ble_eq_true rfl, Nat.le_of_ble_eq_true rfl⟩) hX (hP.sub (ws' := (wF ks a F)) [1, 2, 3, 4] rfl) (ci := 0) (q0 := 0) rfl rfl rfl hl.1 rfl (Nat.le_of_ble_eq_true rfl) dX4_count_136 ⟨Nat.zero_le _, Nat.zero_le _⟩ (fun zv8 => ?_)
        obtain rfl := Option.some.inj hf
        exact hret trivial _ _ dX4_count_139 (fun ty h => by cases h; rfl)
      replace hf := ifF hf c7
      by_cases c9 : x1 = 3
      · replace hf := ifT hf c9
        refine lv_tableIn (tgt := 140) (off := 91) hx hb dX4_count_49 (by rw [c9]; decide) (by rw [c9]; decide) (by rw [c9]; rfl) (by decide) ?_
        refine lv_aload_n hx hb dX4_count_140 rfl (lv_at hl 0 rfl) ?_
        refine va_get (v := .ref a.1) (C := RX4) (T := TX4) (N := 4) hx hb hts hiX4 hown hK hP 0 rfl rfl 0 (by decide) hk10 (fun _ h9 => h9) rfl dX4_count_141 ?_
        obtain ⟨v10, hv10, hf⟩ := bnd hf
        refine xcallRV (As := []) (rest := []) (wc := (wF ks a F)) ⟨hx, hb, hml, hown, hts⟩ (c_X0_fringes k a F v10 hv10) (cwV 0 hts gX4_count_X0_fringes rfl rfl rfl (by decide +kernel) ⟨Nat.le_of_ble_eq_true rfl, Nat.le_of_ble_eq_true rfl⟩) hX (hP.sub (ws' := (wF ks a F)) [1, 2, 3, 4] rfl) (ci := 0) (q0 := 0) rfl rfl rfl hl.1 rfl (Nat.le_of_ble_eq_true rfl) dX4_count_144 ⟨Nat.zero_le _, Nat.zero_le _⟩ (fun zv10 => ?_)
        obtain rfl := Option.some.inj hf
        exact hret trivial _ _ dX4_count_147 (fun ty h => by cases h; rfl)
      replace hf := ifF hf c9
      by_cases c11 : x1 = 4
      · replace hf := ifT hf c11
        refine lv_tableIn (tgt := 148) (off := 99) hx hb dX4_count_49 (by rw [c11]; decide) (by rw [c11]; decide) (by rw [c11]; rfl) (by decide) ?_
        refine lv_aload_n hx hb dX4_count_148 rfl (lv_at hl 0 rfl) ?_
        refine va_get (v := .ref a.1) (C := RX4) (T := TX4) (N := 4) hx hb hts hiX4 hown hK hP 0 rfl rfl 0 (by decide) hk10 (fun _ h9 => h9) rfl dX4_count_149 ?_
        obtain ⟨v12, hv12, hf⟩ := bnd hf
        refine xcallRV (As := []) (rest := []) (wc := (wF ks a F)) ⟨hx, hb, hml, hown, hts⟩ (c_X0_differentColours k a F v12 hv12) (cwV 0 hts gX4_count_X0_differentColours rfl rfl rfl (by decide +kernel) ⟨Nat.le_of_ble_eq_true rfl, Nat.le_of_ble_eq_true rfl⟩) hX (hP.sub (ws' := (wF ks a F)) [1, 2, 3, 4] rfl) (ci := 0) (q0 := 0) rfl rfl rfl hl.1 rfl (Nat.le_of_ble_eq_true rfl) dX4_count_152 ⟨Nat.zero_le _, Nat.zero_le _⟩ (fun zv12 => ?_)
        obtain rfl := Option.some.inj hf
        exact hret trivial _ _ dX4_count_155 (fun ty h => by cases h; rfl)
      replace hf := ifF hf c11
      by_cases c13 : x1 = 5
      · replace hf := ifT hf c13
        refine lv_tableIn (tgt := 156) (off := 107) hx hb dX4_count_49 (by rw [c13]; decide) (by rw [c13]; decide) (by rw [c13]; rfl) (by decide) ?_
        refine lv_aload_n hx hb dX4_count_156 rfl (lv_at hl 0 rfl) ?_
        refine va_get (v := .ref a.1) (C := RX4) (T := TX4) (N := 4) hx hb hts hiX4 hown hK hP 0 rfl rfl 0 (by decide) hk10 (fun _ h9 => h9) rfl dX4_count_157 ?_
        refine va_get (v := .int (FD.rows F)) (C := RX0) (T := TX0) (N := 10) hx hb hts hiX0 hown hK hP 1 rfl rfl 3 (by decide) hk74 (fun _ h9 => h9) rfl dX4_count_160 ?_
        refine lv_if_ne (tgt := 171) hx hb dX4_count_163 (by decide) (fun c14 => ?_) (fun c14 => ?_)
        · replace hf := ifF hf c14
          refine lv_aload_n hx hb dX4_count_171 rfl (lv_at hl 0 rfl) ?_
          refine va_get (v := .ref a.1) (C := RX4) (T := TX4) (N := 4) hx hb hts hiX4 hown hK hP 0 rfl rfl 0 (by decide) hk10 (fun _ h9 => h9) rfl dX4_count_172 ?_
          obtain ⟨v15, hv15, hf⟩ := bnd hf
          refine xcallRV (As := []) (rest := []) (wc := (wF ks a F)) ⟨hx, hb, hml, hown, hts⟩ (c_X0_greatestOrder k a F v15 hv15) (cwV 0 hts gX4_count_X0_greatestOrder rfl rfl rfl (by decide +kernel) ⟨Nat.le_of_ble_eq_true rfl, Nat.le_of_ble_eq_true rfl⟩) hX (hP.sub (ws' := (wF ks a F)) [1, 2, 3, 4] rfl) (ci := 0) (q0 := 0) rfl rfl rfl hl.1 rfl (Nat.le_of_ble_eq_true rfl) dX4_count_175 ⟨Nat.zero_le _, Nat.zero_le _⟩ (fun zv15 => ?_)
          obtain rfl := Option.some.inj hf
          exact hret trivial _ _ dX4_count_178 (fun ty h => by cases h; rfl)
        · replace hf := ifT hf c14
          refine lv_bipush (v := (-4)) hx hb dX4_count_166 (by decide) ?_
          refine lv_goto (tgt := 178) hx hb dX4_count_168 (by decide) ?_
          obtain rfl := Option.some.inj hf
          exact hret trivial _ _ dX4_count_178 (fun ty h => by cases h; rfl)
      replace hf := ifF hf c13
      by_cases c16 : x1 = 6
      · replace hf := ifT hf c16
        refine lv_tableIn (tgt := 179) (off := 130) hx hb dX4_count_49 (by rw [c16]; decide) (by rw [c16]; decide) (by rw [c16]; rfl) (by decide) ?_
        refine lv_aload_n hx hb dX4_count_179 rfl (lv_at hl 0 rfl) ?_
        refine va_get (v := .ref a.1) (C := RX4) (T := TX4) (N := 4) hx hb hts hiX4 hown hK hP 0 rfl rfl 0 (by decide) hk10 (fun _ h9 => h9) rfl dX4_count_180 ?_
        refine va_get (v := .int (FD.burstReason F)) (C := RX0) (T := TX0) (N := 10) hx hb hts hiX0 hown hK hP 1 rfl rfl 7 (by decide) hk132 (fun _ h9 => h9) rfl dX4_count_183 ?_
        obtain rfl := Option.some.inj hf
        exact hret trivial _ _ dX4_count_186 (fun ty h => by cases h; rfl)
      replace hf := ifF hf c16
      by_cases c17 : x1 = 7
      · replace hf := ifT hf c17
        refine lv_tableIn (tgt := 187) (off := 138) hx hb dX4_count_49 (by rw [c17]; decide) (by rw [c17]; decide) (by rw [c17]; rfl) (by decide) ?_
        refine lv_aload_n hx hb dX4_count_187 rfl (lv_at hl 0 rfl) ?_
        refine va_get (v := .ref a.1) (C := RX4) (T := TX4) (N := 4) hx hb hts hiX4 hown hK hP 0 rfl rfl 0 (by decide) hk10 (fun _ h9 => h9) rfl dX4_count_188 ?_
        refine va_get (v := .int (FD.bursts F)) (C := RX0) (T := TX0) (N := 10) hx hb hts hiX0 hown hK hP 1 rfl rfl 6 (by decide) hk135 (fun _ h9 => h9) rfl dX4_count_191 ?_
        refine lv_if_ne (tgt := 202) hx hb dX4_count_194 (by decide) (fun c18 => ?_) (fun c18 => ?_)
        · replace hf := ifF hf c18
          refine lv_aload_n hx hb dX4_count_202 rfl (lv_at hl 0 rfl) ?_
          refine va_get (v := .ref a.1) (C := RX4) (T := TX4) (N := 4) hx hb hts hiX4 hown hK hP 0 rfl rfl 0 (by decide) hk10 (fun _ h9 => h9) rfl dX4_count_203 ?_
          refine va_get (v := .int (FD.burstNumber F)) (C := RX0) (T := TX0) (N := 10) hx hb hts hiX0 hown hK hP 1 rfl rfl 8 (by decide) hk138 (fun _ h9 => h9) rfl dX4_count_206 ?_
          obtain rfl := Option.some.inj hf
          exact hret trivial _ _ dX4_count_209 (fun ty h => by cases h; rfl)
        · replace hf := ifT hf c18
          refine lv_bipush (v := (-4)) hx hb dX4_count_197 (by decide) ?_
          refine lv_goto (tgt := 209) hx hb dX4_count_199 (by decide) ?_
          obtain rfl := Option.some.inj hf
          exact hret trivial _ _ dX4_count_209 (fun ty h => by cases h; rfl)
      replace hf := ifF hf c17
      by_cases c19 : x1 = 8
      · replace hf := ifT hf c19
        refine lv_tableIn (tgt := 210) (off := 161) hx hb dX4_count_49 (by rw [c19]; decide) (by rw [c19]; decide) (by rw [c19]; rfl) (by decide) ?_
        refine lv_aload_n hx hb dX4_count_210 rfl (lv_at hl 0 rfl) ?_
        refine va_get (v := .ref a.1) (C := RX4) (T := TX4) (N := 4) hx hb hts hiX4 hown hK hP 0 rfl rfl 0 (by decide) hk10 (fun _ h9 => h9) rfl dX4_count_211 ?_
        refine va_get (v := .int (FD.bursts F)) (C := RX0) (T := TX0) (N := 10) hx hb hts hiX0 hown hK hP 1 rfl rfl 6 (by decide) hk135 (fun _ h9 => h9) rfl dX4_count_214 ?_
        refine lv_if_ne (tgt := 225) hx hb dX4_count_217 (by decide) (fun c20 => ?_) (fun c20 => ?_)
        · replace hf := ifF hf c20
          refine lv_aload_n hx hb dX4_count_225 rfl (lv_at hl 0 rfl) ?_
          refine va_get (v := .ref a.1) (C := RX4) (T := TX4) (N := 4) hx hb hts hiX4 hown hK hP 0 rfl rfl 0 (by decide) hk10 (fun _ h9 => h9) rfl dX4_count_226 ?_
          refine va_get (v := .int (FD.ticksBeforeBurst F)) (C := RX0) (T := TX0) (N := 10) hx hb hts hiX0 hown hK hP 1 rfl rfl 9 (by decide) hk141 (fun _ h9 => h9) rfl dX4_count_229 ?_
          obtain rfl := Option.some.inj hf
          exact hret trivial _ _ dX4_count_232 (fun ty h => by cases h; rfl)
        · replace hf := ifT hf c20
          refine lv_bipush (v := (-4)) hx hb dX4_count_220 (by decide) ?_
          refine lv_goto (tgt := 232) hx hb dX4_count_222 (by decide) ?_
          obtain rfl := Option.some.inj hf
          exact hret trivial _ _ dX4_count_232 (fun ty h => by cases h; rfl)
      replace hf := ifF hf c19
      by_cases c21 : x1 = 9
      · replace hf := ifT hf c21
        refine lv_tableIn (tgt := 233) (off := 184) hx hb dX4_count_49 (by rw [c21]; decide) (by rw [c21]; decide) (by rw [c21]; rfl) (by decide) ?_
        refine lv_aload_n hx hb dX4_count_233 rfl (lv_at hl 0 rfl) ?_
        refine va_get (v := .ref a.1) (C := RX4) (T := TX4) (N := 4) hx hb hts hiX4 hown hK hP 0 rfl rfl 0 (by decide) hk10 (fun _ h9 => h9) rfl dX4_count_234 ?_
        refine va_get (v := .int (FD.bursts F)) (C := RX0) (T := TX0) (N := 10) hx hb hts hiX0 hown hK hP 1 rfl rfl 6 (by decide) hk135 (fun _ h9 => h9) rfl dX4_count_237 ?_
        obtain rfl := Option.some.inj hf
        exact hret trivial _ _ dX4_count_240 (fun ty h => by cases h; rfl)
      replace hf := ifF hf c21
      by_cases c22 : x1 = 10
      · replace hf := ifT hf c22
        refine lv_tableIn (tgt := 241) (off := 192) hx hb dX4_count_49 (by rw [c22]; decide) (by rw [c22]; decide) (by rw [c22]; rfl) (by decide) ?_
        refine lv_aload_n hx hb dX4_count_241 rfl (lv_at hl 0 rfl) ?_
        refine va_get (v := .ref a.1) (C := RX4) (T := TX4) (N := 4) hx hb hts hiX4 hown hK hP 0 rfl rfl 0 (by decide) hk10 (fun _ h9 => h9) rfl dX4_count_242 ?_
        refine va_get (v := .int (FD.drops F)) (C := RX0) (T := TX0) (N := 10) hx hb hts hiX0 hown hK hP 1 rfl rfl 5 (by decide) hk144 (fun _ h9 => h9) rfl dX4_count_245 ?_
        obtain rfl := Option.some.inj hf
        exact hret trivial _ _ dX4_count_248 (fun ty h => by cases h; rfl)
      replace hf := ifF hf c22
      by_cases c23 : x1 = 11
      · replace hf := ifT hf c23
        refine lv_tableIn (tgt := 249) (off := 200) hx hb dX4_count_49 (by rw [c23]; decide) (by rw [c23]; decide) (by rw [c23]; rfl) (by decide) ?_
        refine lv_aload_n hx hb dX4_count_249 rfl (lv_at hl 0 rfl) ?_
        refine va_get (v := .ref h.1) (C := RX4) (T := TX4) (N := 4) hx hb hts hiX4 hown hK hP 0 rfl rfl 2 (by decide) hk22 (fun _ h9 => h9) rfl dX4_count_250 ?_
        refine va_get (v := .int qz) (C := RX2) (T := TX2) (N := 2) hx hb hts hiX2 hown hK hP 5 rfl rfl 1 (by decide) hk89 (fun _ h9 => h9) rfl dX4_count_253 ?_
        obtain rfl := Option.some.inj hf
        exact hret trivial _ _ dX4_count_256 (fun ty h => by cases h; rfl)
      replace hf := ifF hf c23
      by_cases c24 : x1 = 12
      · replace hf := ifT hf c24
        refine lv_tableIn (tgt := 257) (off := 208) hx hb dX4_count_49 (by rw [c24]; decide) (by rw [c24]; decide) (by rw [c24]; rfl) (by decide) ?_
        refine lv_aload_n hx hb dX4_count_257 rfl (lv_at hl 0 rfl) ?_
        refine va_get (v := .ref t.1) (C := RX4) (T := TX4) (N := 4) hx hb hts hiX4 hown hK hP 0 rfl rfl 3 (by decide) hk29 (fun _ h9 => h9) rfl dX4_count_258 ?_
        refine va_get (v := .int (TD.length T)) (C := RX1) (T := TX1) (N := 6) hx hb hts hiX1 hown hK hP 27 rfl rfl 1 (by decide) hk147 (fun _ h9 => h9) rfl dX4_count_261 ?_
        obtain rfl := Option.some.inj hf
        exact hret trivial _ _ dX4_count_264 (fun ty h => by cases h; rfl)
      replace hf := ifF hf c24
      refine lv_tableOut (tgt := 265) hx hb dX4_count_49 (by have := lv_neT (a := 0) c5 (by decide); have := lv_neT (a := 1) c6 (by decide); have := lv_neT (a := 2) c7 (by decide); have := lv_neT (a := 3) c9 (by decide); have := lv_neT (a := 4) c11 (by decide); have := lv_neT (a := 5) c13 (by decide); have := lv_neT (a := 6) c16 (by decide); have := lv_neT (a := 7) c17 (by decide); have := lv_neT (a := 8) c19 (by decide); have := lv_neT (a := 9) c21 (by decide); have := lv_neT (a := 10) c22 (by decide); have := lv_neT (a := 11) c23 (by decide); have := lv_neT (a := 12) c24 (by decide); omega) (by decide) ?_
      refine lv_iconst (v := (-1)) hx hb dX4_count_265 (by decide) ?_
      obtain rfl := Option.some.inj hf
      exact hret trivial _ _ dX4_count_266 (fun ty h => by cases h; rfl)
    · replace hf := ifF hf c4
      refine lv_aload_n hx hb dX4_count_35 rfl (lv_at hl 0 rfl) ?_
      refine va_get (v := .ref a.1) (C := RX4) (T := TX4) (N := 4) hx hb hts hiX4 hown hK hP 0 rfl rfl 0 (by decide) hk10 (fun _ h9 => h9) rfl dX4_count_36 ?_
      refine va_get (v := .ref a.2.2.1) (C := RX0) (T := TX0) (N := 10) hx hb hts hiX0 hown hK hP 1 rfl rfl 1 (by decide) hk48 (fun _ h9 => h9) rfl dX4_count_39 ?_
      refine lv_iload_n hx hb dX4_count_42 rfl (lv_at hl 1 rfl) ?_
      refine lv_bipush (v := 30) hx hb dX4_count_43 (by decide) ?_
      refine lv_isub hx hb dX4_count_45 ?_
      obtain ⟨v25, hv25, hf⟩ := bnd hf
      refine xa_iald hx hb hK hP hv25 3 0 rfl rfl dX4_count_46 ?_
      obtain rfl := Option.some.inj hf
      exact hret trivial _ _ dX4_count_47 (fun ty h => by cases h; rfl)
  · replace hf := ifF hf c2
    refine lv_aload_n hx hb dX4_count_11 rfl (lv_at hl 0 rfl) ?_
    refine va_get (v := .ref a.1) (C := RX4) (T := TX4) (N := 4) hx hb hts hiX4 hown hK hP 0 rfl rfl 0 (by decide) hk10 (fun _ h9 => h9) rfl dX4_count_12 ?_
    refine va_get (v := .ref a.2.2.2) (C := RX0) (T := TX0) (N := 10) hx hb hts hiX0 hown hK hP 1 rfl rfl 2 (by decide) hk62 (fun _ h9 => h9) rfl dX4_count_15 ?_
    refine lv_iload_n hx hb dX4_count_18 rfl (lv_at hl 1 rfl) ?_
    refine lv_bipush (v := 20) hx hb dX4_count_19 (by decide) ?_
    refine lv_isub hx hb dX4_count_21 ?_
    obtain ⟨v26, hv26, hf⟩ := bnd hf
    refine xa_iald hx hb hK hP hv26 4 0 rfl rfl dX4_count_22 ?_
    obtain rfl := Option.some.inj hf
    exact hret trivial _ _ dX4_count_23 (fun ty h => by cases h; rfl)

/-! ===== X4_ladder ===== -/
def p_X4_ladder_L10 (k : Nat) (F : FD) (y1 : Int32) : Nat → (Int32) → (Int32) → Option (Int32)
  | 0, _, _ => none
  | n + 1, x2, x3 =>
    if (FD.rows F) ≤ x3 then (some (-4)) else ((p_X0_startsColour k F x3).bind fun v2 => if v2 = 0 then (p_X4_ladder_L10 k F y1 n x2 (x3 + 1)) else (if x2 = y1 then ((p_X0_colourAt k F x3).bind fun v5 => some v5) else (p_X4_ladder_L10 k F y1 n (x2 + 1) (x3 + 1))))

def p_X4_ladder (k : Nat) (F : FD) (x1 : Int32) : Option (Int32) :=
  if 0 ≤ x1 then (p_X4_ladder_L10 k F x1 k 0 0) else (some (-1))

set_option maxHeartbeats 4000000 in
set_option maxRecDepth 100000 in
theorem c_X4_ladder {l : Launch} {D : va_G} {ks : K3} (k : Nat) (o : Nat) (a b : AF) (h : AH) (t : AT) (F : FD) (x1 : Int32) (r : Int32) (hf : p_X4_ladder k F x1 = some r) : MetR l yX4_ladder wsX4_ladder { frames := 5, cells := 0, slots := 0, locals := 106 } D ks [.ref o, .int x1] (wS o a b h t ++ wF ks a F) r True := by
  refine MetR.of (cc := cX4_ladder) (maxL := 4) (ret := (some .int)) (by decide +kernel) rfl (Nat.le_of_ble_eq_true rfl) ?_ ⟨_, rfl⟩
  intro p e s m below meth c Q hx hb hml hts hown hP hX hret ls hl
  have hK := hX.1
  replace hl : lv_has ls 4 [(0, .ref o), (1, .int x1)] := hl
  have hiX0 : ∀ w ∈ wsX00, w ∈ wsX4_ladder := by decide +kernel
  have hiX4 : ∀ w ∈ wsX40, w ∈ wsX4_ladder := by decide +kernel
  have hk10 := hts (.fieldLink RX4 10 "SoapFilm" "film" "LSoapFilm$Film;") (by decide +kernel)
  have hk74 := hts (.fieldLink RX4 74 "SoapFilm$Film" "rows" "I") (by decide +kernel)
  unfold p_X4_ladder at hf
  refine lv_iload_n hx hb dX4_ladder_0 rfl (lv_at hl 1 rfl) ?_
  refine lv_if_ge (tgt := 6) hx hb dX4_ladder_1 (by decide) (fun c1 => ?_) (fun c1 => ?_)
  · replace hf := ifT hf c1
    refine lv_iconst (v := 0) hx hb dX4_ladder_6 (by decide) ?_
    refine lv_istore_n (lv' := [(2, .int 0), (0, .ref o), (1, .int x1)]) hx hb dX4_ladder_7 rfl hl (by decide) rfl (fun ls hl => ?_)
    refine lv_iconst (v := 0) hx hb dX4_ladder_8 (by decide) ?_
    refine lv_istore_n (lv' := [(3, .int 0), (2, .int 0), (0, .ref o), (1, .int x1)]) hx hb dX4_ladder_9 rfl hl (by decide) rfl (fun ls hl => ?_)
    have L10 : ∀ (n : Nat) (x2q10 : Int32) (x3q10 : Int32) (ls : Array Slot), p_X4_ladder_L10 k F x1 n x2q10 x3q10 = some r → lv_has ls 4 [(0, .ref o), (1, .int x1), (2, .int x2q10), (3, .int x3q10)] → W p l e { frames := 5, cells := 0, slots := 0, locals := 106 } s m ([.ref o, .int x1] : List Value).toArray below meth c s.heap [] 0 0 Q (F0 m 10 ls []) := by
      intro n
      induction n with
      | zero => intro x2q10 x3q10 ls hf; cases hf
      | succ n ih10 =>
        intro x2q10 x3q10 ls hf hl
        rw [p_X4_ladder_L10] at hf
        refine lv_iload_n hx hb dX4_ladder_10 rfl (lv_at hl 3 rfl) ?_
        refine lv_aload_n hx hb dX4_ladder_11 rfl (lv_at hl 0 rfl) ?_
        refine va_get (v := .ref a.1) (C := RX4) (T := TX4) (N := 4) hx hb hts hiX4 hown hK hP 0 rfl rfl 0 (by decide) hk10 (fun _ h9 => h9) rfl dX4_ladder_12 ?_
        refine va_get (v := .int (FD.rows F)) (C := RX0) (T := TX0) (N := 10) hx hb hts hiX0 hown hK hP 1 rfl rfl 3 (by decide) hk74 (fun _ h9 => h9) rfl dX4_ladder_15 ?_
        refine lv_icmp_ge (tgt := 55) hx hb dX4_ladder_18 (by decide) (fun c2 => ?_) (fun c2 => ?_)
        · replace hf := ifT hf c2
          refine lv_bipush (v := (-4)) hx hb dX4_ladder_55 (by decide) ?_
          obtain rfl := Option.some.inj hf
          exact hret trivial _ _ dX4_ladder_57 (fun ty h => by cases h; rfl)
        · replace hf := ifF hf c2
          refine lv_aload_n hx hb dX4_ladder_21 rfl (lv_at hl 0 rfl) ?_
          refine va_get (v := .ref a.1) (C := RX4) (T := TX4) (N := 4) hx hb hts hiX4 hown hK hP 0 rfl rfl 0 (by decide) hk10 (fun _ h9 => h9) rfl dX4_ladder_22 ?_
          refine lv_iload_n hx hb dX4_ladder_25 rfl (lv_at hl 3 rfl) ?_
          obtain ⟨v3, hv3, hf⟩ := bnd hf
          refine xcallRV (As := [.int x3q10]) (rest := []) (wc := (wF ks a F)) ⟨hx, hb, hml, hown, hts⟩ (c_X0_startsColour k a F x3q10 v3 hv3) (cwV 1 hts gX4_ladder_X0_startsColour rfl rfl rfl (by decide +kernel) ⟨Nat.le_of_ble_eq_true rfl, Nat.le_of_ble_eq_true rfl⟩) hX (hP.sub (ws' := (wF ks a F)) [1, 2, 3, 4] rfl) (ci := 0) (q0 := 0) rfl rfl rfl hl.1 rfl (Nat.le_of_ble_eq_true rfl) dX4_ladder_26 ⟨Nat.zero_le _, Nat.zero_le _⟩ (fun zv3 => ?_)
          refine lv_if_eq (tgt := 49) hx hb dX4_ladder_29 (by decide) (fun c4 => ?_) (fun c4 => ?_)
          · replace hf := ifT hf c4
            refine lv_iinc (v := (x3q10 + 1)) (lv' := [(3, .int (x3q10 + 1)), (0, .ref o), (1, .int x1), (2, .int x2q10)]) hx hb dX4_ladder_49 hl (k := 3) rfl rfl (by decide) rfl (fun ls hl => ?_)
            refine lv_goto (tgt := 10) hx hb dX4_ladder_52 (by decide) ?_
            exact ih10 _ _  _ hf (lv_sub hl [1, 2, 3, 0] rfl)
          · replace hf := ifF hf c4
            refine lv_iload_n hx hb dX4_ladder_32 rfl (lv_at hl 2 rfl) ?_
            refine lv_iload_n hx hb dX4_ladder_33 rfl (lv_at hl 1 rfl) ?_
            refine lv_icmp_ne (tgt := 46) hx hb dX4_ladder_34 (by decide) (fun c5 => ?_) (fun c5 => ?_)
            · replace hf := ifF hf c5
              refine lv_iinc (v := (x2q10 + 1)) (lv' := [(2, .int (x2q10 + 1)), (0, .ref o), (1, .int x1), (3, .int x3q10)]) hx hb dX4_ladder_46 hl (k := 2) rfl rfl (by decide) rfl (fun ls hl => ?_)
              refine lv_iinc (v := (x3q10 + 1)) (lv' := [(3, .int (x3q10 + 1)), (2, .int (x2q10 + 1)), (0, .ref o), (1, .int x1)]) hx hb dX4_ladder_49 hl (k := 3) rfl rfl (by decide) rfl (fun ls hl => ?_)
              refine lv_goto (tgt := 10) hx hb dX4_ladder_52 (by decide) ?_
              exact ih10 _ _  _ hf (lv_sub hl [2, 3, 1, 0] rfl)
            · replace hf := ifT hf c5
              refine lv_aload_n hx hb dX4_ladder_37 rfl (lv_at hl 0 rfl) ?_
              refine va_get (v := .ref a.1) (C := RX4) (T := TX4) (N := 4) hx hb hts hiX4 hown hK hP 0 rfl rfl 0 (by decide) hk10 (fun _ h9 => h9) rfl dX4_ladder_38 ?_
              refine lv_iload_n hx hb dX4_ladder_41 rfl (lv_at hl 3 rfl) ?_
              obtain ⟨v6, hv6, hf⟩ := bnd hf
              refine xcallRV (As := [.int x3q10]) (rest := []) (wc := (wF ks a F)) ⟨hx, hb, hml, hown, hts⟩ (c_X0_colourAt k a F x3q10 v6 hv6) (cwV 1 hts gX4_ladder_X0_colourAt rfl rfl rfl (by decide +kernel) ⟨Nat.le_of_ble_eq_true rfl, Nat.le_of_ble_eq_true rfl⟩) hX (hP.sub (ws' := (wF ks a F)) [1, 2, 3, 4] rfl) (ci := 0) (q0 := 0) rfl rfl rfl hl.1 rfl (Nat.le_of_ble_eq_true rfl) dX4_ladder_42 ⟨Nat.zero_le _, Nat.zero_le _⟩ (fun zv6 => ?_)
              obtain rfl := Option.some.inj hf
              exact hret trivial _ _ dX4_ladder_45 (fun ty h => by cases h; rfl)
    exact L10 k _ _ _ hf (lv_sub hl [2, 3, 1, 0] rfl)
  · replace hf := ifF hf c1
    refine lv_iconst (v := (-1)) hx hb dX4_ladder_4 (by decide) ?_
    obtain rfl := Option.some.inj hf
    exact hret trivial _ _ dX4_ladder_5 (fun ty h => by cases h; rfl)

/-! ===== X4_find ===== -/
def p_X4_find_L15 (k : Nat) (F : FD) (y1 : Int32) : Nat → (Int32) → Option (Int32)
  | 0, _ => none
  | n + 1, x3 =>
    if (FD.rows F) ≤ x3 then (some (-4)) else ((p_X0_colourAt k F x3).bind fun v2 => if v2 = y1 then (some x3) else (p_X4_find_L15 k F y1 n (x3 + 1)))

def p_X4_find (k : Nat) (F : FD) (x1 : Int32) (x2 : Int32) : Option (Int32) :=
  (p_X4_isColour k x1).bind fun v1 => if v1 = 0 then (some (-1)) else (if 0 ≤ x2 then (p_X4_find_L15 k F x1 k x2) else (some (-1)))

set_option maxHeartbeats 4000000 in
set_option maxRecDepth 100000 in
theorem c_X4_find {l : Launch} {D : va_G} {ks : K3} (k : Nat) (o : Nat) (a b : AF) (h : AH) (t : AT) (F : FD) (x1 : Int32) (x2 : Int32) (r : Int32) (hf : p_X4_find k F x1 x2 = some r) : MetR l yX4_find wsX4_find { frames := 4, cells := 0, slots := 0, locals := 85 } D ks [.ref o, .int x1, .int x2] (wS o a b h t ++ wF ks a F) r True := by
  refine MetR.of (cc := cX4_find) (maxL := 4) (ret := (some .int)) (by decide +kernel) rfl (Nat.le_of_ble_eq_true rfl) ?_ ⟨_, rfl⟩
  intro p e s m below meth c Q hx hb hml hts hown hP hX hret ls hl
  have hK := hX.1
  replace hl : lv_has ls 4 [(0, .ref o), (1, .int x1), (2, .int x2)] := hl
  have hiX0 : ∀ w ∈ wsX00, w ∈ wsX4_find := by decide +kernel
  have hiX4 : ∀ w ∈ wsX40, w ∈ wsX4_find := by decide +kernel
  have hk10 := hts (.fieldLink RX4 10 "SoapFilm" "film" "LSoapFilm$Film;") (by decide +kernel)
  have hk74 := hts (.fieldLink RX4 74 "SoapFilm$Film" "rows" "I") (by decide +kernel)
  unfold p_X4_find at hf
  refine lv_iload_n hx hb dX4_find_0 rfl (lv_at hl 1 rfl) ?_
  obtain ⟨v1, hv1, hf⟩ := bnd hf
  refine xcallRS (As := [.int x1]) (rest := []) (wc := []) ⟨hx, hb, hml, hown, hts⟩ (c_X4_isColour k x1 v1 hv1) (va_cwS 1 hts gX4_find_X4_isColour rfl rfl rfl (by decide +kernel) ⟨Nat.le_of_ble_eq_true rfl, Nat.le_of_ble_eq_true rfl⟩) hX (va_P0 _ _ _) rfl hl.1 rfl (Nat.le_of_ble_eq_true rfl) dX4_find_1 ⟨Nat.zero_le _, Nat.zero_le _⟩ (fun zv1 => ?_)
  refine lv_if_eq (tgt := 11) hx hb dX4_find_4 (by decide) (fun c2 => ?_) (fun c2 => ?_)
  · replace hf := ifT hf c2
    refine lv_iconst (v := (-1)) hx hb dX4_find_11 (by decide) ?_
    obtain rfl := Option.some.inj hf
    exact hret trivial _ _ dX4_find_12 (fun ty h => by cases h; rfl)
  · replace hf := ifF hf c2
    refine lv_iload_n hx hb dX4_find_7 rfl (lv_at hl 2 rfl) ?_
    refine lv_if_ge (tgt := 13) hx hb dX4_find_8 (by decide) (fun c3 => ?_) (fun c3 => ?_)
    · replace hf := ifT hf c3
      refine lv_iload_n hx hb dX4_find_13 rfl (lv_at hl 2 rfl) ?_
      refine lv_istore_n (lv' := [(3, .int x2), (0, .ref o), (1, .int x1), (2, .int x2)]) hx hb dX4_find_14 rfl hl (by decide) rfl (fun ls hl => ?_)
      have L15 : ∀ (n : Nat) (x3q15 : Int32) (ls : Array Slot), p_X4_find_L15 k F x1 n x3q15 = some r → lv_has ls 4 [(0, .ref o), (1, .int x1), (3, .int x3q15)] → W p l e { frames := 4, cells := 0, slots := 0, locals := 85 } s m ([.ref o, .int x1, .int x2] : List Value).toArray below meth c s.heap [] 0 0 Q (F0 m 15 ls []) := by
        intro n
        induction n with
        | zero => intro x3q15 ls hf; cases hf
        | succ n ih15 =>
          intro x3q15 ls hf hl
          rw [p_X4_find_L15] at hf
          refine lv_iload_n hx hb dX4_find_15 rfl (lv_at hl 2 rfl) ?_
          refine lv_aload_n hx hb dX4_find_16 rfl (lv_at hl 0 rfl) ?_
          refine va_get (v := .ref a.1) (C := RX4) (T := TX4) (N := 4) hx hb hts hiX4 hown hK hP 0 rfl rfl 0 (by decide) hk10 (fun _ h9 => h9) rfl dX4_find_17 ?_
          refine va_get (v := .int (FD.rows F)) (C := RX0) (T := TX0) (N := 10) hx hb hts hiX0 hown hK hP 1 rfl rfl 3 (by decide) hk74 (fun _ h9 => h9) rfl dX4_find_20 ?_
          refine lv_icmp_ge (tgt := 46) hx hb dX4_find_23 (by decide) (fun c4 => ?_) (fun c4 => ?_)
          · replace hf := ifT hf c4
            refine lv_bipush (v := (-4)) hx hb dX4_find_46 (by decide) ?_
            obtain rfl := Option.some.inj hf
            exact hret trivial _ _ dX4_find_48 (fun ty h => by cases h; rfl)
          · replace hf := ifF hf c4
            refine lv_aload_n hx hb dX4_find_26 rfl (lv_at hl 0 rfl) ?_
            refine va_get (v := .ref a.1) (C := RX4) (T := TX4) (N := 4) hx hb hts hiX4 hown hK hP 0 rfl rfl 0 (by decide) hk10 (fun _ h9 => h9) rfl dX4_find_27 ?_
            refine lv_iload_n hx hb dX4_find_30 rfl (lv_at hl 2 rfl) ?_
            obtain ⟨v5, hv5, hf⟩ := bnd hf
            refine xcallRV (As := [.int x3q15]) (rest := []) (wc := (wF ks a F)) ⟨hx, hb, hml, hown, hts⟩ (c_X0_colourAt k a F x3q15 v5 hv5) (cwV 1 hts gX4_find_X0_colourAt rfl rfl rfl (by decide +kernel) ⟨Nat.le_of_ble_eq_true rfl, Nat.le_of_ble_eq_true rfl⟩) hX (hP.sub (ws' := (wF ks a F)) [1, 2, 3, 4] rfl) (ci := 0) (q0 := 0) rfl rfl rfl hl.1 rfl (Nat.le_of_ble_eq_true rfl) dX4_find_31 ⟨Nat.zero_le _, Nat.zero_le _⟩ (fun zv5 => ?_)
            refine lv_iload_n hx hb dX4_find_34 rfl (lv_at hl 1 rfl) ?_
            refine lv_icmp_ne (tgt := 40) hx hb dX4_find_35 (by decide) (fun c6 => ?_) (fun c6 => ?_)
            · replace hf := ifF hf c6
              refine lv_iinc (v := (x3q15 + 1)) (lv' := [(3, .int (x3q15 + 1)), (0, .ref o), (1, .int x1)]) hx hb dX4_find_40 hl (k := 2) rfl rfl (by decide) rfl (fun ls hl => ?_)
              refine lv_goto (tgt := 15) hx hb dX4_find_43 (by decide) ?_
              exact ih15 _  _ hf (lv_sub hl [1, 2, 0] rfl)
            · replace hf := ifT hf c6
              refine lv_iload_n hx hb dX4_find_38 rfl (lv_at hl 2 rfl) ?_
              obtain rfl := Option.some.inj hf
              exact hret trivial _ _ dX4_find_39 (fun ty h => by cases h; rfl)
      exact L15 k _ _ hf (lv_sub hl [1, 2, 0] rfl)
    · replace hf := ifF hf c3
      refine lv_iconst (v := (-1)) hx hb dX4_find_11 (by decide) ?_
      obtain rfl := Option.some.inj hf
      exact hret trivial _ _ dX4_find_12 (fun ty h => by cases h; rfl)

/-! ===== X4_colourOf ===== -/
def p_X4_colourOf (k : Nat) (F : FD) (x1 : Int32) : Option (Int32) :=
  (p_X4_isThickness k x1).bind fun v1 => if v1 = 0 then (some (-1)) else ((ald (FD.st F) 7 3).bind fun v3 => (p_X3_colour k x1 v3).bind fun v4 => some v4)

set_option maxHeartbeats 4000000 in
set_option maxRecDepth 100000 in
theorem c_X4_colourOf {l : Launch} {D : va_G} {ks : K3} (k : Nat) (o : Nat) (a b : AF) (h : AH) (t : AT) (F : FD) (x1 : Int32) (r : Int32) (hf : p_X4_colourOf k F x1 = some r) : MetR l yX4_colourOf wsX4_colourOf { frames := 3, cells := 0, slots := 0, locals := 64 } D ks [.ref o, .int x1] (wS o a b h t ++ wF ks a F) r True := by
  refine MetR.of (cc := cX4_colourOf) (maxL := 2) (ret := (some .int)) (by decide +kernel) rfl (Nat.le_of_ble_eq_true rfl) ?_ ⟨_, rfl⟩
  intro p e s m below meth c Q hx hb hml hts hown hP hX hret ls hl
  have hK := hX.1
  replace hl : lv_has ls 2 [(0, .ref o), (1, .int x1)] := hl
  have hiX0 : ∀ w ∈ wsX00, w ∈ wsX4_colourOf := by decide +kernel
  have hiX4 : ∀ w ∈ wsX40, w ∈ wsX4_colourOf := by decide +kernel
  have hk10 := hts (.fieldLink RX4 10 "SoapFilm" "film" "LSoapFilm$Film;") (by decide +kernel)
  have hk48 := hts (.fieldLink RX4 48 "SoapFilm$Film" "settings" "[I") (by decide +kernel)
  unfold p_X4_colourOf at hf
  refine lv_iload_n hx hb dX4_colourOf_0 rfl (lv_at hl 1 rfl) ?_
  obtain ⟨v1, hv1, hf⟩ := bnd hf
  refine xcallRS (As := [.int x1]) (rest := []) (wc := []) ⟨hx, hb, hml, hown, hts⟩ (c_X4_isThickness k x1 v1 hv1) (va_cwS 1 hts gX4_colourOf_X4_isThickness rfl rfl rfl (by decide +kernel) ⟨Nat.le_of_ble_eq_true rfl, Nat.le_of_ble_eq_true rfl⟩) hX (va_P0 _ _ _) rfl hl.1 rfl (Nat.le_of_ble_eq_true rfl) dX4_colourOf_1 ⟨Nat.zero_le _, Nat.zero_le _⟩ (fun zv1 => ?_)
  refine lv_if_ne (tgt := 9) hx hb dX4_colourOf_4 (by decide) (fun c2 => ?_) (fun c2 => ?_)
  · replace hf := ifF hf c2
    refine lv_iload_n hx hb dX4_colourOf_9 rfl (lv_at hl 1 rfl) ?_
    refine lv_aload_n hx hb dX4_colourOf_10 rfl (lv_at hl 0 rfl) ?_
    refine va_get (v := .ref a.1) (C := RX4) (T := TX4) (N := 4) hx hb hts hiX4 hown hK hP 0 rfl rfl 0 (by decide) hk10 (fun _ h9 => h9) rfl dX4_colourOf_11 ?_
    refine va_get (v := .ref a.2.2.1) (C := RX0) (T := TX0) (N := 10) hx hb hts hiX0 hown hK hP 1 rfl rfl 1 (by decide) hk48 (fun _ h9 => h9) rfl dX4_colourOf_14 ?_
    refine lv_iconst (v := 3) hx hb dX4_colourOf_17 (by decide) ?_
    obtain ⟨v3, hv3, hf⟩ := bnd hf
    refine xa_iald hx hb hK hP hv3 3 0 rfl rfl dX4_colourOf_18 ?_
    obtain ⟨v4, hv4, hf⟩ := bnd hf
    refine xcallRS (As := [.int x1, .int v3]) (rest := []) (wc := []) ⟨hx, hb, hml, hown, hts⟩ (c_X3_colour k x1 v3 v4 hv4) (va_cwS 2 hts gX4_colourOf_X3_colour rfl rfl rfl (by decide +kernel) ⟨Nat.le_of_ble_eq_true rfl, Nat.le_of_ble_eq_true rfl⟩) hX (va_P0 _ _ _) rfl hl.1 rfl (Nat.le_of_ble_eq_true rfl) dX4_colourOf_19 ⟨Nat.zero_le _, Nat.zero_le _⟩ (fun zv4 => ?_)
    obtain rfl := Option.some.inj hf
    exact hret trivial _ _ dX4_colourOf_22 (fun ty h => by cases h; rfl)
  · replace hf := ifT hf c2
    refine lv_iconst (v := (-1)) hx hb dX4_colourOf_7 (by decide) ?_
    obtain rfl := Option.some.inj hf
    exact hret trivial _ _ dX4_colourOf_8 (fun ty h => by cases h; rfl)

/-! ===== X4_thicknessFor ===== -/
def p_X4_thicknessFor_L18 (k : Nat) (F : FD) (y1 : Int32) : Nat → (Int32) → Option (Int32)
  | 0, _ => none
  | n + 1, x3 =>
    if 5000 < x3 then (some (-4)) else ((ald (FD.st F) 7 3).bind fun v2 => (p_X3_colour k x3 v2).bind fun v3 => if v3 = y1 then (some x3) else (p_X4_thicknessFor_L18 k F y1 n (x3 + 1)))

def p_X4_thicknessFor (k : Nat) (F : FD) (x1 : Int32) (x2 : Int32) : Option (Int32) :=
  (p_X4_isColour k x1).bind fun v1 => if v1 = 0 then (some (-1)) else ((p_X4_isThickness k x2).bind fun v3 => if v3 = 0 then (some (-1)) else (p_X4_thicknessFor_L18 k F x1 k x2))

set_option maxHeartbeats 4000000 in
set_option maxRecDepth 100000 in
theorem c_X4_thicknessFor {l : Launch} {D : va_G} {ks : K3} (k : Nat) (o : Nat) (a b : AF) (h : AH) (t : AT) (F : FD) (x1 : Int32) (x2 : Int32) (r : Int32) (hf : p_X4_thicknessFor k F x1 x2 = some r) : MetR l yX4_thicknessFor wsX4_thicknessFor { frames := 3, cells := 0, slots := 0, locals := 64 } D ks [.ref o, .int x1, .int x2] (wS o a b h t ++ wF ks a F) r True := by
  refine MetR.of (cc := cX4_thicknessFor) (maxL := 4) (ret := (some .int)) (by decide +kernel) rfl (Nat.le_of_ble_eq_true rfl) ?_ ⟨_, rfl⟩
  intro p e s m below meth c Q hx hb hml hts hown hP hX hret ls hl
  have hK := hX.1
  replace hl : lv_has ls 4 [(0, .ref o), (1, .int x1), (2, .int x2)] := hl
  have hiX0 : ∀ w ∈ wsX00, w ∈ wsX4_thicknessFor := by decide +kernel
  have hiX4 : ∀ w ∈ wsX40, w ∈ wsX4_thicknessFor := by decide +kernel
  have hk10 := hts (.fieldLink RX4 10 "SoapFilm" "film" "LSoapFilm$Film;") (by decide +kernel)
  have hk48 := hts (.fieldLink RX4 48 "SoapFilm$Film" "settings" "[I") (by decide +kernel)
  unfold p_X4_thicknessFor at hf
  refine lv_iload_n hx hb dX4_thicknessFor_0 rfl (lv_at hl 1 rfl) ?_
  obtain ⟨v1, hv1, hf⟩ := bnd hf
  refine xcallRS (As := [.int x1]) (rest := []) (wc := []) ⟨hx, hb, hml, hown, hts⟩ (c_X4_isColour k x1 v1 hv1) (va_cwS 1 hts gX4_thicknessFor_X4_isColour rfl rfl rfl (by decide +kernel) ⟨Nat.le_of_ble_eq_true rfl, Nat.le_of_ble_eq_true rfl⟩) hX (va_P0 _ _ _) rfl hl.1 rfl (Nat.le_of_ble_eq_true rfl) dX4_thicknessFor_1 ⟨Nat.zero_le _, Nat.zero_le _⟩ (fun zv1 => ?_)
  refine lv_if_eq (tgt := 14) hx hb dX4_thicknessFor_4 (by decide) (fun c2 => ?_) (fun c2 => ?_)
  · replace hf := ifT hf c2
    refine lv_iconst (v := (-1)) hx hb dX4_thicknessFor_14 (by decide) ?_
    obtain rfl := Option.some.inj hf
    exact hret trivial _ _ dX4_thicknessFor_15 (fun ty h => by cases h; rfl)
  · replace hf := ifF hf c2
    refine lv_iload_n hx hb dX4_thicknessFor_7 rfl (lv_at hl 2 rfl) ?_
    obtain ⟨v3, hv3, hf⟩ := bnd hf
    refine xcallRS (As := [.int x2]) (rest := []) (wc := []) ⟨hx, hb, hml, hown, hts⟩ (c_X4_isThickness k x2 v3 hv3) (va_cwS 1 hts gX4_thicknessFor_X4_isThickness rfl rfl rfl (by decide +kernel) ⟨Nat.le_of_ble_eq_true rfl, Nat.le_of_ble_eq_true rfl⟩) hX (va_P0 _ _ _) rfl hl.1 rfl (Nat.le_of_ble_eq_true rfl) dX4_thicknessFor_8 ⟨Nat.zero_le _, Nat.zero_le _⟩ (fun zv3 => ?_)
    refine lv_if_ne (tgt := 16) hx hb dX4_thicknessFor_11 (by decide) (fun c4 => ?_) (fun c4 => ?_)
    · replace hf := ifF hf c4
      refine lv_iload_n hx hb dX4_thicknessFor_16 rfl (lv_at hl 2 rfl) ?_
      refine lv_istore_n (lv' := [(3, .int x2), (0, .ref o), (1, .int x1), (2, .int x2)]) hx hb dX4_thicknessFor_17 rfl hl (by decide) rfl (fun ls hl => ?_)
      have L18 : ∀ (n : Nat) (x3q18 : Int32) (ls : Array Slot), p_X4_thicknessFor_L18 k F x1 n x3q18 = some r → lv_has ls 4 [(0, .ref o), (1, .int x1), (3, .int x3q18)] → W p l e { frames := 3, cells := 0, slots := 0, locals := 64 } s m ([.ref o, .int x1, .int x2] : List Value).toArray below meth c s.heap [] 0 0 Q (F0 m 18 ls []) := by
        intro n
        induction n with
        | zero => intro x3q18 ls hf; cases hf
        | succ n ih18 =>
          intro x3q18 ls hf hl
          rw [p_X4_thicknessFor_L18] at hf
          refine lv_iload_n hx hb dX4_thicknessFor_18 rfl (lv_at hl 2 rfl) ?_
          refine lv_sipush (v := 5000) hx hb dX4_thicknessFor_19 (by decide) ?_
          refine lv_icmp_gt (tgt := 50) hx hb dX4_thicknessFor_22 (by decide) (fun c5 => ?_) (fun c5 => ?_)
          · replace hf := ifT hf c5
            refine lv_bipush (v := (-4)) hx hb dX4_thicknessFor_50 (by decide) ?_
            obtain rfl := Option.some.inj hf
            exact hret trivial _ _ dX4_thicknessFor_52 (fun ty h => by cases h; rfl)
          · replace hf := ifF hf c5
            refine lv_iload_n hx hb dX4_thicknessFor_25 rfl (lv_at hl 2 rfl) ?_
            refine lv_aload_n hx hb dX4_thicknessFor_26 rfl (lv_at hl 0 rfl) ?_
            refine va_get (v := .ref a.1) (C := RX4) (T := TX4) (N := 4) hx hb hts hiX4 hown hK hP 0 rfl rfl 0 (by decide) hk10 (fun _ h9 => h9) rfl dX4_thicknessFor_27 ?_
            refine va_get (v := .ref a.2.2.1) (C := RX0) (T := TX0) (N := 10) hx hb hts hiX0 hown hK hP 1 rfl rfl 1 (by decide) hk48 (fun _ h9 => h9) rfl dX4_thicknessFor_30 ?_
            refine lv_iconst (v := 3) hx hb dX4_thicknessFor_33 (by decide) ?_
            obtain ⟨v6, hv6, hf⟩ := bnd hf
            refine xa_iald hx hb hK hP hv6 3 0 rfl rfl dX4_thicknessFor_34 ?_
            obtain ⟨v7, hv7, hf⟩ := bnd hf
            refine xcallRS (As := [.int x3q18, .int v6]) (rest := []) (wc := []) ⟨hx, hb, hml, hown, hts⟩ (c_X3_colour k x3q18 v6 v7 hv7) (va_cwS 2 hts gX4_thicknessFor_X3_colour rfl rfl rfl (by decide +kernel) ⟨Nat.le_of_ble_eq_true rfl, Nat.le_of_ble_eq_true rfl⟩) hX (va_P0 _ _ _) rfl hl.1 rfl (Nat.le_of_ble_eq_true rfl) dX4_thicknessFor_35 ⟨Nat.zero_le _, Nat.zero_le _⟩ (fun zv7 => ?_)
            refine lv_iload_n hx hb dX4_thicknessFor_38 rfl (lv_at hl 1 rfl) ?_
            refine lv_icmp_ne (tgt := 44) hx hb dX4_thicknessFor_39 (by decide) (fun c8 => ?_) (fun c8 => ?_)
            · replace hf := ifF hf c8
              refine lv_iinc (v := (x3q18 + 1)) (lv' := [(3, .int (x3q18 + 1)), (0, .ref o), (1, .int x1)]) hx hb dX4_thicknessFor_44 hl (k := 2) rfl rfl (by decide) rfl (fun ls hl => ?_)
              refine lv_goto (tgt := 18) hx hb dX4_thicknessFor_47 (by decide) ?_
              exact ih18 _  _ hf (lv_sub hl [1, 2, 0] rfl)
            · replace hf := ifT hf c8
              refine lv_iload_n hx hb dX4_thicknessFor_42 rfl (lv_at hl 2 rfl) ?_
              obtain rfl := Option.some.inj hf
              exact hret trivial _ _ dX4_thicknessFor_43 (fun ty h => by cases h; rfl)
      exact L18 k _ _ hf (lv_sub hl [1, 2, 0] rfl)
    · replace hf := ifT hf c4
      refine lv_iconst (v := (-1)) hx hb dX4_thicknessFor_14 (by decide) ?_
      obtain rfl := Option.some.inj hf
      exact hret trivial _ _ dX4_thicknessFor_15 (fun ty h => by cases h; rfl)

/-! ===== X4_until ===== -/
def p_X4_until_L34 (k : Nat) (F : FD) (y1 : Int32) (y2 : Int32) : Nat → (FD) → (Int32) → Option (Int32 × FD)
  | 0, _, _ => none
  | n + 1, G, x3 =>
    if 1000 < x3 then (some ((-4), G)) else (if (FD.rows G) ≤ 0 then (some ((-4), G)) else ((p_X0_tick k G).bind fun G3 => (p_X4_isSo k F G3 y1 y2).bind fun v4 => if v4 = 0 then (p_X4_until_L34 k F y1 y2 n G3 (x3 + 1)) else (some (x3, G3))))

def p_X4_until (k : Nat) (F : FD) (G : FD) (x1 : Int32) (x2 : Int32) : Option (Int32 × FD) :=
  (p_X4_isQuestion k x1 x2).bind fun v1 => if v1 = 0 then (some ((-1), G)) else ((p_X0_copyFrom k G F).bind fun G3 => (p_X4_isSo k F G3 x1 x2).bind fun v4 => if v4 = 0 then (p_X4_until_L34 k F x1 x2 k G3 1) else (some (0, G3)))

set_option maxHeartbeats 4000000 in
set_option maxRecDepth 100000 in
theorem c_X4_until {l : Launch} {D : va_G} {ks : K3} (k : Nat) (o : Nat) (a b : AF) (h : AH) (t : AT) (F : FD) (G : FD) (x1 : Int32) (x2 : Int32) (r : Int32) (rG : FD) (hf : p_X4_until k F G x1 x2 = some (r, rG)) : MetI l yX4_until wsX4_until { frames := 5, cells := 0, slots := 0, locals := 115 } D ks [.ref o, .int x1, .int x2] (wS o a b h t ++ wF ks a F ++ wF ks b G) (wS o a b h t ++ wF ks a F ++ wF ks b rG) r True := by
  refine MetI.of (cc := cX4_until) (maxL := 4) (ret := (some .int)) (by decide +kernel) rfl (Nat.le_of_ble_eq_true rfl) ?_ ⟨_, rfl⟩
  intro p e s m below meth c Q A hx hb hml hts hown hP hX hD hA hret ls hl
  have hK := hX.1
  replace hl : lv_has ls 4 [(0, .ref o), (1, .int x1), (2, .int x2)] := hl
  have hS : va_S A s.heap s.heap [] := va_S.rf
  have hiX0 : ∀ w ∈ wsX00, w ∈ wsX4_until := by decide +kernel
  have hiX4 : ∀ w ∈ wsX40, w ∈ wsX4_until := by decide +kernel
  have hk16 := hts (.fieldLink RX4 16 "SoapFilm" "trial" "LSoapFilm$Film;") (by decide +kernel)
  have hk10 := hts (.fieldLink RX4 10 "SoapFilm" "film" "LSoapFilm$Film;") (by decide +kernel)
  have hk74 := hts (.fieldLink RX4 74 "SoapFilm$Film" "rows" "I") (by decide +kernel)
  unfold p_X4_until at hf
  refine lv_iload_n hx hb dX4_until_0 rfl (lv_at hl 1 rfl) ?_
  refine lv_iload_n hx hb dX4_until_1 rfl (lv_at hl 2 rfl) ?_
  obtain ⟨v1, hv1, hf⟩ := bnd hf
  refine xcallRS (As := [.int x1, .int x2]) (rest := []) (wc := []) ⟨hx, hb, hml, hown, hts⟩ (c_X4_isQuestion k x1 x2 v1 hv1) (va_cwS 2 hts gX4_until_X4_isQuestion rfl rfl rfl (by decide +kernel) ⟨Nat.le_of_ble_eq_true rfl, Nat.le_of_ble_eq_true rfl⟩) hX (va_P0 _ _ _) rfl hl.1 rfl (Nat.le_of_ble_eq_true rfl) dX4_until_2 ⟨Nat.zero_le _, Nat.zero_le _⟩ (fun zv1 => ?_)
  refine lv_if_ne (tgt := 10) hx hb dX4_until_5 (by decide) (fun c2 => ?_) (fun c2 => ?_)
  · replace hf := ifF hf c2
    refine lv_aload_n hx hb dX4_until_10 rfl (lv_at hl 0 rfl) ?_
    refine va_get (v := .ref b.1) (C := RX4) (T := TX4) (N := 4) hx hb hts hiX4 hown hK hP 0 rfl rfl 1 (by decide) hk16 (fun _ h9 => h9) rfl dX4_until_11 ?_
    refine lv_aload_n hx hb dX4_until_14 rfl (lv_at hl 0 rfl) ?_
    refine va_get (v := .ref a.1) (C := RX4) (T := TX4) (N := 4) hx hb hts hiX4 hown hK hP 0 rfl rfl 0 (by decide) hk10 (fun _ h9 => h9) rfl dX4_until_15 ?_
    obtain ⟨G3, hG3, hf⟩ := bnd hf
    refine xcallV (As := [.ref a.1]) (rest := []) (wc := (wF ks b G ++ wF ks a F)) (w1 := (wF ks b G3 ++ wF ks a F)) (wr := ((wS o a b h t))) (wn := (wS o a b h t ++ wF ks a F ++ wF ks b G3)) ⟨hx, hb, hml, hown, hts⟩ (c_X0_copyFrom k b a G F G3 hG3) (cwV 1 hts gX4_until_X0_copyFrom rfl rfl rfl (by decide +kernel) ⟨Nat.le_of_ble_eq_true rfl, Nat.le_of_ble_eq_true rfl⟩) hX hP hD hS hA [5, 6, 7, 8, 1, 2, 3, 4] [0] [0, 5, 6, 7, 8, 1, 2, 3, 4] rfl rfl rfl ⟨by decide, by decide, by decide⟩ (by decide) (ci := 0) (q0 := 0) rfl rfl rfl hl.1 rfl (Nat.le_of_ble_eq_true rfl) dX4_until_18 ⟨Nat.zero_le _, Nat.zero_le _⟩ (fun H locs hP hD hS => ?_)
    refine lv_aload_n hx hb dX4_until_21 rfl (lv_at hl 0 rfl) ?_
    refine lv_iload_n hx hb dX4_until_22 rfl (lv_at hl 1 rfl) ?_
    refine lv_iload_n hx hb dX4_until_23 rfl (lv_at hl 2 rfl) ?_
    obtain ⟨v4, hv4, hf⟩ := bnd hf
    refine xcallRV (As := [.int x1, .int x2]) (rest := []) (wc := (wS o a b h t ++ wF ks a F ++ wF ks b G3)) ⟨hx, hb, hml, hown, hts⟩ (c_X4_isSo k o a b h t F G3 x1 x2 v4 hv4) (cwV 2 hts gX4_until_X4_isSo rfl rfl rfl (by decide +kernel) ⟨Nat.le_of_ble_eq_true rfl, Nat.le_of_ble_eq_true rfl⟩) hX hP (ci := 3) (q0 := 0) rfl rfl rfl hl.1 rfl (Nat.le_of_ble_eq_true rfl) dX4_until_24 ⟨Nat.zero_le _, Nat.zero_le _⟩ (fun zv4 => ?_)
    refine lv_if_eq (tgt := 32) hx hb dX4_until_27 (by decide) (fun c5 => ?_) (fun c5 => ?_)
    · replace hf := ifT hf c5
      refine lv_iconst (v := 1) hx hb dX4_until_32 (by decide) ?_
      refine lv_istore_n (lv' := [(3, .int 1), (0, .ref o), (1, .int x1), (2, .int x2)]) hx hb dX4_until_33 rfl hl (by decide) rfl (fun ls hl => ?_)
      have L34 : ∀ (n : Nat) (Gq34 : FD) (x3q34 : Int32) (H : Heap) (locs : List Loc) (ls : Array Slot), p_X4_until_L34 k F x1 x2 n Gq34 x3q34 = some (r, rG) → va_P D vwCl (wS o a b h t ++ wF ks a F ++ wF ks b Gq34) H → va_D A (wS o a b h t ++ wF ks a F ++ wF ks b Gq34) → va_S A s.heap H locs → lv_has ls 4 [(0, .ref o), (1, .int x1), (2, .int x2), (3, .int x3q34)] → W p l e { frames := 5, cells := 0, slots := 0, locals := 115 } s m ([.ref o, .int x1, .int x2] : List Value).toArray below meth c H locs 0 0 Q (F0 m 34 ls []) := by
        intro n
        induction n with
        | zero => intro Gq34 x3q34 H locs ls hf; cases hf
        | succ n ih34 =>
          intro Gq34 x3q34 H locs ls hf hP hD hS hl
          rw [p_X4_until_L34] at hf
          refine lv_iload_n hx hb dX4_until_34 rfl (lv_at hl 3 rfl) ?_
          refine lv_sipush (v := 1000) hx hb dX4_until_35 (by decide) ?_
          refine lv_icmp_gt (tgt := 75) hx hb dX4_until_38 (by decide) (fun c6 => ?_) (fun c6 => ?_)
          · replace hf := ifT hf c6
            refine lv_bipush (v := (-4)) hx hb dX4_until_75 (by decide) ?_
            obtain ⟨rfl, rfl⟩ := inj2 hf
            exact hret trivial _ _ _ _ dX4_until_77 (fun ty h => by cases h; rfl) hP hD hS
          · replace hf := ifF hf c6
            refine lv_aload_n hx hb dX4_until_41 rfl (lv_at hl 0 rfl) ?_
            refine va_get (v := .ref b.1) (C := RX4) (T := TX4) (N := 4) hx hb hts hiX4 hown hK hP 0 rfl rfl 1 (by decide) hk16 (fun _ h9 => h9) rfl dX4_until_42 ?_
            refine va_get (v := .int (FD.rows Gq34)) (C := RX0) (T := TX0) (N := 10) hx hb hts hiX0 hown hK hP 5 rfl rfl 3 (by decide) hk74 (fun _ h9 => h9) rfl dX4_until_45 ?_
            refine lv_if_le (tgt := 75) hx hb dX4_until_48 (by decide) (fun c7 => ?_) (fun c7 => ?_)
            · replace hf := ifT hf c7
              refine lv_bipush (v := (-4)) hx hb dX4_until_75 (by decide) ?_
              obtain ⟨rfl, rfl⟩ := inj2 hf
              exact hret trivial _ _ _ _ dX4_until_77 (fun ty h => by cases h; rfl) hP hD hS
            · replace hf := ifF hf c7
              refine lv_aload_n hx hb dX4_until_51 rfl (lv_at hl 0 rfl) ?_
              refine va_get (v := .ref b.1) (C := RX4) (T := TX4) (N := 4) hx hb hts hiX4 hown hK hP 0 rfl rfl 1 (by decide) hk16 (fun _ h9 => h9) rfl dX4_until_52 ?_
              obtain ⟨G8, hG8, hf⟩ := bnd hf
              refine xcallV (As := []) (rest := []) (wc := (wF ks b Gq34)) (w1 := (wF ks b G8)) (wr := ((wS o a b h t ++ wF ks a F))) (wn := (wS o a b h t ++ wF ks a F ++ wF ks b G8)) ⟨hx, hb, hml, hown, hts⟩ (c_X0_tick k b Gq34 G8 hG8) (cwV 0 hts gX4_until_X0_tick rfl rfl rfl (by decide +kernel) ⟨Nat.le_of_ble_eq_true rfl, Nat.le_of_ble_eq_true rfl⟩) hX hP hD hS hA [5, 6, 7, 8] [0, 1, 2, 3, 4] [0, 1, 2, 3, 4, 5, 6, 7, 8] rfl rfl rfl ⟨by decide, by decide, by decide⟩ (by decide) (ci := 0) (q0 := 0) rfl rfl rfl hl.1 rfl (Nat.le_of_ble_eq_true rfl) dX4_until_55 ⟨Nat.zero_le _, Nat.zero_le _⟩ (fun H locs hP hD hS => ?_)
              refine lv_aload_n hx hb dX4_until_58 rfl (lv_at hl 0 rfl) ?_
              refine lv_iload_n hx hb dX4_until_59 rfl (lv_at hl 1 rfl) ?_
              refine lv_iload_n hx hb dX4_until_60 rfl (lv_at hl 2 rfl) ?_
              obtain ⟨v9, hv9, hf⟩ := bnd hf
              refine xcallRV (As := [.int x1, .int x2]) (rest := []) (wc := (wS o a b h t ++ wF ks a F ++ wF ks b G8)) ⟨hx, hb, hml, hown, hts⟩ (c_X4_isSo k o a b h t F G8 x1 x2 v9 hv9) (cwV 2 hts gX4_until_X4_isSo rfl rfl rfl (by decide +kernel) ⟨Nat.le_of_ble_eq_true rfl, Nat.le_of_ble_eq_true rfl⟩) hX hP (ci := 3) (q0 := 0) rfl rfl rfl hl.1 rfl (Nat.le_of_ble_eq_true rfl) dX4_until_61 ⟨Nat.zero_le _, Nat.zero_le _⟩ (fun zv9 => ?_)
              refine lv_if_eq (tgt := 69) hx hb dX4_until_64 (by decide) (fun c10 => ?_) (fun c10 => ?_)
              · replace hf := ifT hf c10
                refine lv_iinc (v := (x3q34 + 1)) (lv' := [(3, .int (x3q34 + 1)), (0, .ref o), (1, .int x1), (2, .int x2)]) hx hb dX4_until_69 hl (k := 3) rfl rfl (by decide) rfl (fun ls hl => ?_)
                refine lv_goto (tgt := 34) hx hb dX4_until_72 (by decide) ?_
                exact ih34 _ _  _ _ _ hf hP hD hS (lv_sub hl [1, 2, 3, 0] rfl)
              · replace hf := ifF hf c10
                refine lv_iload_n hx hb dX4_until_67 rfl (lv_at hl 3 rfl) ?_
                obtain ⟨rfl, rfl⟩ := inj2 hf
                exact hret trivial _ _ _ _ dX4_until_68 (fun ty h => by cases h; rfl) hP hD hS
      exact L34 k _ _ _ _ _ hf hP hD hS (lv_sub hl [1, 2, 3, 0] rfl)
    · replace hf := ifF hf c5
      refine lv_iconst (v := 0) hx hb dX4_until_30 (by decide) ?_
      obtain ⟨rfl, rfl⟩ := inj2 hf
      exact hret trivial _ _ _ _ dX4_until_31 (fun ty h => by cases h; rfl) hP hD hS
  · replace hf := ifT hf c2
    refine lv_iconst (v := (-1)) hx hb dX4_until_8 (by decide) ?_
    obtain ⟨rfl, rfl⟩ := inj2 hf
    exact hret trivial _ _ _ _ dX4_until_9 (fun ty h => by cases h; rfl) hP hD hS

/-! ===== X4_ifGo ===== -/
def p_X4_ifGo_L37 (k : Nat) (F : FD) (y1 : Int32) (y2 : Int32) : Nat → (FD) → (Int32) → Option (Int32 × FD)
  | 0, _, _ => none
  | n + 1, G, x3 =>
    if y2 ≤ x3 then ((p_X0_hasRow k G y1).bind fun v2 => if v2 = 0 then (some ((-4), G)) else ((ald (FD.th G) 24 y1).bind fun v4 => some (v4, G))) else (if (FD.rows G) ≤ 0 then ((p_X0_hasRow k G y1).bind fun v6 => if v6 = 0 then (some ((-4), G)) else ((ald (FD.th G) 24 y1).bind fun v8 => some (v8, G))) else ((p_X0_tick k G).bind fun G9 => p_X4_ifGo_L37 k F y1 y2 n G9 (x3 + 1)))

def p_X4_ifGo (k : Nat) (F : FD) (G : FD) (x1 : Int32) (x2 : Int32) : Option (Int32 × FD) :=
  (p_X0_hasRow k F x1).bind fun v1 => if v1 = 0 then (some ((-1), G)) else ((p_X4_isBetween k x2 1 1000).bind fun v3 => if v3 = 0 then (some ((-1), G)) else ((p_X0_copyFrom k G F).bind fun G5 => p_X4_ifGo_L37 k F x1 x2 k G5 0))

set_option maxHeartbeats 4000000 in
set_option maxRecDepth 100000 in
theorem c_X4_ifGo {l : Launch} {D : va_G} {ks : K3} (k : Nat) (o : Nat) (a b : AF) (h : AH) (t : AT) (F : FD) (G : FD) (x1 : Int32) (x2 : Int32) (r : Int32) (rG : FD) (hf : p_X4_ifGo k F G x1 x2 = some (r, rG)) : MetI l yX4_ifGo wsX4_ifGo { frames := 5, cells := 0, slots := 0, locals := 115 } D ks [.ref o, .int x1, .int x2] (wS o a b h t ++ wF ks a F ++ wF ks b G) (wS o a b h t ++ wF ks a F ++ wF ks b rG) r True := by
  refine MetI.of (cc := cX4_ifGo) (maxL := 4) (ret := (some .int)) (by decide +kernel) rfl (Nat.le_of_ble_eq_true rfl) ?_ ⟨_, rfl⟩
  intro p e s m below meth c Q A hx hb hml hts hown hP hX hD hA hret ls hl
  have hK := hX.1
  replace hl : lv_has ls 4 [(0, .ref o), (1, .int x1), (2, .int x2)] := hl
  have hS : va_S A s.heap s.heap [] := va_S.rf
  have hiX0 : ∀ w ∈ wsX00, w ∈ wsX4_ifGo := by decide +kernel
  have hiX4 : ∀ w ∈ wsX40, w ∈ wsX4_ifGo := by decide +kernel
  have hk10 := hts (.fieldLink RX4 10 "SoapFilm" "film" "LSoapFilm$Film;") (by decide +kernel)
  have hk16 := hts (.fieldLink RX4 16 "SoapFilm" "trial" "LSoapFilm$Film;") (by decide +kernel)
  have hk68 := hts (.fieldLink RX4 68 "SoapFilm$Film" "thickness" "[I") (by decide +kernel)
  have hk74 := hts (.fieldLink RX4 74 "SoapFilm$Film" "rows" "I") (by decide +kernel)
  unfold p_X4_ifGo at hf
  refine lv_aload_n hx hb dX4_ifGo_0 rfl (lv_at hl 0 rfl) ?_
  refine va_get (v := .ref a.1) (C := RX4) (T := TX4) (N := 4) hx hb hts hiX4 hown hK hP 0 rfl rfl 0 (by decide) hk10 (fun _ h9 => h9) rfl dX4_ifGo_1 ?_
  refine lv_iload_n hx hb dX4_ifGo_4 rfl (lv_at hl 1 rfl) ?_
  obtain ⟨v1, hv1, hf⟩ := bnd hf
  refine xcallRV (As := [.int x1]) (rest := []) (wc := (wF ks a F)) ⟨hx, hb, hml, hown, hts⟩ (c_X0_hasRow k a F x1 v1 hv1) (cwV 1 hts gX4_ifGo_X0_hasRow rfl rfl rfl (by decide +kernel) ⟨Nat.le_of_ble_eq_true rfl, Nat.le_of_ble_eq_true rfl⟩) hX (hP.sub (ws' := (wF ks a F)) [1, 2, 3, 4] rfl) (ci := 0) (q0 := 0) rfl rfl rfl hl.1 rfl (Nat.le_of_ble_eq_true rfl) dX4_ifGo_5 ⟨Nat.zero_le _, Nat.zero_le _⟩ (fun zv1 => ?_)
  refine lv_if_eq (tgt := 22) hx hb dX4_ifGo_8 (by decide) (fun c2 => ?_) (fun c2 => ?_)
  · replace hf := ifT hf c2
    refine lv_iconst (v := (-1)) hx hb dX4_ifGo_22 (by decide) ?_
    obtain ⟨rfl, rfl⟩ := inj2 hf
    exact hret trivial _ _ _ _ dX4_ifGo_23 (fun ty h => by cases h; rfl) hP hD hS
  · replace hf := ifF hf c2
    refine lv_iload_n hx hb dX4_ifGo_11 rfl (lv_at hl 2 rfl) ?_
    refine lv_iconst (v := 1) hx hb dX4_ifGo_12 (by decide) ?_
    refine lv_sipush (v := 1000) hx hb dX4_ifGo_13 (by decide) ?_
    obtain ⟨v3, hv3, hf⟩ := bnd hf
    refine xcallRS (As := [.int x2, .int 1, .int 1000]) (rest := []) (wc := []) ⟨hx, hb, hml, hown, hts⟩ (c_X4_isBetween k x2 1 1000 v3 hv3) (va_cwS 3 hts gX4_ifGo_X4_isBetween rfl rfl rfl (by decide +kernel) ⟨Nat.le_of_ble_eq_true rfl, Nat.le_of_ble_eq_true rfl⟩) hX (va_P0 _ _ _) rfl hl.1 rfl (Nat.le_of_ble_eq_true rfl) dX4_ifGo_16 ⟨Nat.zero_le _, Nat.zero_le _⟩ (fun zv3 => ?_)
    refine lv_if_ne (tgt := 24) hx hb dX4_ifGo_19 (by decide) (fun c4 => ?_) (fun c4 => ?_)
    · replace hf := ifF hf c4
      refine lv_aload_n hx hb dX4_ifGo_24 rfl (lv_at hl 0 rfl) ?_
      refine va_get (v := .ref b.1) (C := RX4) (T := TX4) (N := 4) hx hb hts hiX4 hown hK hP 0 rfl rfl 1 (by decide) hk16 (fun _ h9 => h9) rfl dX4_ifGo_25 ?_
      refine lv_aload_n hx hb dX4_ifGo_28 rfl (lv_at hl 0 rfl) ?_
      refine va_get (v := .ref a.1) (C := RX4) (T := TX4) (N := 4) hx hb hts hiX4 hown hK hP 0 rfl rfl 0 (by decide) hk10 (fun _ h9 => h9) rfl dX4_ifGo_29 ?_
      obtain ⟨G5, hG5, hf⟩ := bnd hf
      refine xcallV (As := [.ref a.1]) (rest := []) (wc := (wF ks b G ++ wF ks a F)) (w1 := (wF ks b G5 ++ wF ks a F)) (wr := ((wS o a b h t))) (wn := (wS o a b h t ++ wF ks a F ++ wF ks b G5)) ⟨hx, hb, hml, hown, hts⟩ (c_X0_copyFrom k b a G F G5 hG5) (cwV 1 hts gX4_ifGo_X0_copyFrom rfl rfl rfl (by decide +kernel) ⟨Nat.le_of_ble_eq_true rfl, Nat.le_of_ble_eq_true rfl⟩) hX hP hD hS hA [5, 6, 7, 8, 1, 2, 3, 4] [0] [0, 5, 6, 7, 8, 1, 2, 3, 4] rfl rfl rfl ⟨by decide, by decide, by decide⟩ (by decide) (ci := 0) (q0 := 0) rfl rfl rfl hl.1 rfl (Nat.le_of_ble_eq_true rfl) dX4_ifGo_32 ⟨Nat.zero_le _, Nat.zero_le _⟩ (fun H locs hP hD hS => ?_)
      refine lv_iconst (v := 0) hx hb dX4_ifGo_35 (by decide) ?_
      refine lv_istore_n (lv' := [(3, .int 0), (0, .ref o), (1, .int x1), (2, .int x2)]) hx hb dX4_ifGo_36 rfl hl (by decide) rfl (fun ls hl => ?_)
      have L37 : ∀ (n : Nat) (Gq37 : FD) (x3q37 : Int32) (H : Heap) (locs : List Loc) (ls : Array Slot), p_X4_ifGo_L37 k F x1 x2 n Gq37 x3q37 = some (r, rG) → va_P D vwCl (wS o a b h t ++ wF ks a F ++ wF ks b Gq37) H → va_D A (wS o a b h t ++ wF ks a F ++ wF ks b Gq37) → va_S A s.heap H locs → lv_has ls 4 [(0, .ref o), (1, .int x1), (2, .int x2), (3, .int x3q37)] → W p l e { frames := 5, cells := 0, slots := 0, locals := 115 } s m ([.ref o, .int x1, .int x2] : List Value).toArray below meth c H locs 0 0 Q (F0 m 37 ls []) := by
        intro n
        induction n with
        | zero => intro Gq37 x3q37 H locs ls hf; cases hf
        | succ n ih37 =>
          intro Gq37 x3q37 H locs ls hf hP hD hS hl
          rw [p_X4_ifGo_L37] at hf
          refine lv_iload_n hx hb dX4_ifGo_37 rfl (lv_at hl 3 rfl) ?_
          refine lv_iload_n hx hb dX4_ifGo_38 rfl (lv_at hl 2 rfl) ?_
          refine lv_icmp_ge (tgt := 65) hx hb dX4_ifGo_39 (by decide) (fun c6 => ?_) (fun c6 => ?_)
          · replace hf := ifT hf c6
            refine lv_aload_n hx hb dX4_ifGo_65 rfl (lv_at hl 0 rfl) ?_
            refine va_get (v := .ref b.1) (C := RX4) (T := TX4) (N := 4) hx hb hts hiX4 hown hK hP 0 rfl rfl 1 (by decide) hk16 (fun _ h9 => h9) rfl dX4_ifGo_66 ?_
            refine lv_iload_n hx hb dX4_ifGo_69 rfl (lv_at hl 1 rfl) ?_
            obtain ⟨v7, hv7, hf⟩ := bnd hf
            refine xcallRV (As := [.int x1]) (rest := []) (wc := (wF ks b Gq37)) ⟨hx, hb, hml, hown, hts⟩ (c_X0_hasRow k b Gq37 x1 v7 hv7) (cwV 1 hts gX4_ifGo_X0_hasRow rfl rfl rfl (by decide +kernel) ⟨Nat.le_of_ble_eq_true rfl, Nat.le_of_ble_eq_true rfl⟩) hX (hP.sub (ws' := (wF ks b Gq37)) [5, 6, 7, 8] rfl) (ci := 0) (q0 := 0) rfl rfl rfl hl.1 rfl (Nat.le_of_ble_eq_true rfl) dX4_ifGo_70 ⟨Nat.zero_le _, Nat.zero_le _⟩ (fun zv7 => ?_)
            refine lv_if_eq (tgt := 88) hx hb dX4_ifGo_73 (by decide) (fun c8 => ?_) (fun c8 => ?_)
            · replace hf := ifT hf c8
              refine lv_bipush (v := (-4)) hx hb dX4_ifGo_88 (by decide) ?_
              obtain ⟨rfl, rfl⟩ := inj2 hf
              exact hret trivial _ _ _ _ dX4_ifGo_90 (fun ty h => by cases h; rfl) hP hD hS
            · replace hf := ifF hf c8
              refine lv_aload_n hx hb dX4_ifGo_76 rfl (lv_at hl 0 rfl) ?_
              refine va_get (v := .ref b.1) (C := RX4) (T := TX4) (N := 4) hx hb hts hiX4 hown hK hP 0 rfl rfl 1 (by decide) hk16 (fun _ h9 => h9) rfl dX4_ifGo_77 ?_
              refine va_get (v := .ref b.2.1) (C := RX0) (T := TX0) (N := 10) hx hb hts hiX0 hown hK hP 5 rfl rfl 0 (by decide) hk68 (fun _ h9 => h9) rfl dX4_ifGo_80 ?_
              refine lv_iload_n hx hb dX4_ifGo_83 rfl (lv_at hl 1 rfl) ?_
              obtain ⟨v9, hv9, hf⟩ := bnd hf
              refine xa_iald hx hb hK hP hv9 6 0 rfl rfl dX4_ifGo_84 ?_
              refine lv_goto (tgt := 90) hx hb dX4_ifGo_85 (by decide) ?_
              obtain ⟨rfl, rfl⟩ := inj2 hf
              exact hret trivial _ _ _ _ dX4_ifGo_90 (fun ty h => by cases h; rfl) hP hD hS
          · replace hf := ifF hf c6
            refine lv_aload_n hx hb dX4_ifGo_42 rfl (lv_at hl 0 rfl) ?_
            refine va_get (v := .ref b.1) (C := RX4) (T := TX4) (N := 4) hx hb hts hiX4 hown hK hP 0 rfl rfl 1 (by decide) hk16 (fun _ h9 => h9) rfl dX4_ifGo_43 ?_
            refine va_get (v := .int (FD.rows Gq37)) (C := RX0) (T := TX0) (N := 10) hx hb hts hiX0 hown hK hP 5 rfl rfl 3 (by decide) hk74 (fun _ h9 => h9) rfl dX4_ifGo_46 ?_
            refine lv_if_le (tgt := 65) hx hb dX4_ifGo_49 (by decide) (fun c10 => ?_) (fun c10 => ?_)
            · replace hf := ifT hf c10
              refine lv_aload_n hx hb dX4_ifGo_65 rfl (lv_at hl 0 rfl) ?_
              refine va_get (v := .ref b.1) (C := RX4) (T := TX4) (N := 4) hx hb hts hiX4 hown hK hP 0 rfl rfl 1 (by decide) hk16 (fun _ h9 => h9) rfl dX4_ifGo_66 ?_
              refine lv_iload_n hx hb dX4_ifGo_69 rfl (lv_at hl 1 rfl) ?_
              obtain ⟨v11, hv11, hf⟩ := bnd hf
              refine xcallRV (As := [.int x1]) (rest := []) (wc := (wF ks b Gq37)) ⟨hx, hb, hml, hown, hts⟩ (c_X0_hasRow k b Gq37 x1 v11 hv11) (cwV 1 hts gX4_ifGo_X0_hasRow rfl rfl rfl (by decide +kernel) ⟨Nat.le_of_ble_eq_true rfl, Nat.le_of_ble_eq_true rfl⟩) hX (hP.sub (ws' := (wF ks b Gq37)) [5, 6, 7, 8] rfl) (ci := 0) (q0 := 0) rfl rfl rfl hl.1 rfl (Nat.le_of_ble_eq_true rfl) dX4_ifGo_70 ⟨Nat.zero_le _, Nat.zero_le _⟩ (fun zv11 => ?_)
              refine lv_if_eq (tgt := 88) hx hb dX4_ifGo_73 (by decide) (fun c12 => ?_) (fun c12 => ?_)
              · replace hf := ifT hf c12
                refine lv_bipush (v := (-4)) hx hb dX4_ifGo_88 (by decide) ?_
                obtain ⟨rfl, rfl⟩ := inj2 hf
                exact hret trivial _ _ _ _ dX4_ifGo_90 (fun ty h => by cases h; rfl) hP hD hS
              · replace hf := ifF hf c12
                refine lv_aload_n hx hb dX4_ifGo_76 rfl (lv_at hl 0 rfl) ?_
                refine va_get (v := .ref b.1) (C := RX4) (T := TX4) (N := 4) hx hb hts hiX4 hown hK hP 0 rfl rfl 1 (by decide) hk16 (fun _ h9 => h9) rfl dX4_ifGo_77 ?_
                refine va_get (v := .ref b.2.1) (C := RX0) (T := TX0) (N := 10) hx hb hts hiX0 hown hK hP 5 rfl rfl 0 (by decide) hk68 (fun _ h9 => h9) rfl dX4_ifGo_80 ?_
                refine lv_iload_n hx hb dX4_ifGo_83 rfl (lv_at hl 1 rfl) ?_
                obtain ⟨v13, hv13, hf⟩ := bnd hf
                refine xa_iald hx hb hK hP hv13 6 0 rfl rfl dX4_ifGo_84 ?_
                refine lv_goto (tgt := 90) hx hb dX4_ifGo_85 (by decide) ?_
                obtain ⟨rfl, rfl⟩ := inj2 hf
                exact hret trivial _ _ _ _ dX4_ifGo_90 (fun ty h => by cases h; rfl) hP hD hS
            · replace hf := ifF hf c10
              refine lv_aload_n hx hb dX4_ifGo_52 rfl (lv_at hl 0 rfl) ?_
              refine va_get (v := .ref b.1) (C := RX4) (T := TX4) (N := 4) hx hb hts hiX4 hown hK hP 0 rfl rfl 1 (by decide) hk16 (fun _ h9 => h9) rfl dX4_ifGo_53 ?_
              obtain ⟨G14, hG14, hf⟩ := bnd hf
              refine xcallV (As := []) (rest := []) (wc := (wF ks b Gq37)) (w1 := (wF ks b G14)) (wr := ((wS o a b h t ++ wF ks a F))) (wn := (wS o a b h t ++ wF ks a F ++ wF ks b G14)) ⟨hx, hb, hml, hown, hts⟩ (c_X0_tick k b Gq37 G14 hG14) (cwV 0 hts gX4_ifGo_X0_tick rfl rfl rfl (by decide +kernel) ⟨Nat.le_of_ble_eq_true rfl, Nat.le_of_ble_eq_true rfl⟩) hX hP hD hS hA [5, 6, 7, 8] [0, 1, 2, 3, 4] [0, 1, 2, 3, 4, 5, 6, 7, 8] rfl rfl rfl ⟨by decide, by decide, by decide⟩ (by decide) (ci := 0) (q0 := 0) rfl rfl rfl hl.1 rfl (Nat.le_of_ble_eq_true rfl) dX4_ifGo_56 ⟨Nat.zero_le _, Nat.zero_le _⟩ (fun H locs hP hD hS => ?_)
              refine lv_iinc (v := (x3q37 + 1)) (lv' := [(3, .int (x3q37 + 1)), (0, .ref o), (1, .int x1), (2, .int x2)]) hx hb dX4_ifGo_59 hl (k := 3) rfl rfl (by decide) rfl (fun ls hl => ?_)
              refine lv_goto (tgt := 37) hx hb dX4_ifGo_62 (by decide) ?_
              exact ih37 _ _  _ _ _ hf hP hD hS (lv_sub hl [1, 2, 3, 0] rfl)
      exact L37 k _ _ _ _ _ hf hP hD hS (lv_sub hl [1, 2, 3, 0] rfl)
    · replace hf := ifT hf c4
      refine lv_iconst (v := (-1)) hx hb dX4_ifGo_22 (by decide) ?_
      obtain ⟨rfl, rfl⟩ := inj2 hf
      exact hret trivial _ _ _ _ dX4_ifGo_23 (fun ty h => by cases h; rfl) hP hD hS

/-! ===== X4_type ===== -/
def p_X4_type (k : Nat) (T : TD) (x1 : Int32) : Option (Int32 × TD) :=
  (p_X4_isBetween k x1 32 126).bind fun v1 => if v1 = 0 then (some ((-1), T)) else (if (TD.length T) = 100 then (some ((-3), T)) else ((p_X1_append k T (i2c x1)).bind fun T4 => some ((TD.length T4), T4)))

set_option maxHeartbeats 4000000 in
set_option maxRecDepth 100000 in
theorem c_X4_type {l : Launch} {D : va_G} {ks : K3} (k : Nat) (o : Nat) (a b : AF) (h : AH) (t : AT) (T : TD) (x1 : Int32) (r : Int32) (rT : TD) (hf : p_X4_type k T x1 = some (r, rT)) : MetI l yX4_type wsX4_type { frames := 1, cells := 0, slots := 0, locals := 22 } D ks [.ref o, .int x1] (wS o a b h t ++ wT ks t T) (wS o a b h t ++ wT ks t rT) r True := by
  refine MetI.of (cc := cX4_type) (maxL := 2) (ret := (some .int)) (by decide +kernel) rfl (Nat.le_of_ble_eq_true rfl) ?_ ⟨_, rfl⟩
  intro p e s m below meth c Q A hx hb hml hts hown hP hX hD hA hret ls hl
  have hK := hX.1
  replace hl : lv_has ls 2 [(0, .ref o), (1, .int x1)] := hl
  have hS : va_S A s.heap s.heap [] := va_S.rf
  have hiX1 : ∀ w ∈ wsX10, w ∈ wsX4_type := by decide +kernel
  have hiX4 : ∀ w ∈ wsX40, w ∈ wsX4_type := by decide +kernel
  have hk29 := hts (.fieldLink RX4 29 "SoapFilm" "text" "LSoapFilm$FilmText;") (by decide +kernel)
  have hk147 := hts (.fieldLink RX4 147 "SoapFilm$FilmText" "length" "I") (by decide +kernel)
  unfold p_X4_type at hf
  refine lv_iload_n hx hb dX4_type_0 rfl (lv_at hl 1 rfl) ?_
  refine lv_bipush (v := 32) hx hb dX4_type_1 (by decide) ?_
  refine lv_bipush (v := 126) hx hb dX4_type_3 (by decide) ?_
  obtain ⟨v1, hv1, hf⟩ := bnd hf
  refine xcallRS (As := [.int x1, .int 32, .int 126]) (rest := []) (wc := []) ⟨hx, hb, hml, hown, hts⟩ (c_X4_isBetween k x1 32 126 v1 hv1) (va_cwS 3 hts gX4_type_X4_isBetween rfl rfl rfl (by decide +kernel) ⟨Nat.le_of_ble_eq_true rfl, Nat.le_of_ble_eq_true rfl⟩) hX (va_P0 _ _ _) rfl hl.1 rfl (Nat.le_of_ble_eq_true rfl) dX4_type_5 ⟨Nat.zero_le _, Nat.zero_le _⟩ (fun zv1 => ?_)
  refine lv_if_ne (tgt := 13) hx hb dX4_type_8 (by decide) (fun c2 => ?_) (fun c2 => ?_)
  · replace hf := ifF hf c2
    refine lv_aload_n hx hb dX4_type_13 rfl (lv_at hl 0 rfl) ?_
    refine va_get (v := .ref t.1) (C := RX4) (T := TX4) (N := 4) hx hb hts hiX4 hown hK hP 0 rfl rfl 3 (by decide) hk29 (fun _ h9 => h9) rfl dX4_type_14 ?_
    refine va_get (v := .int (TD.length T)) (C := RX1) (T := TX1) (N := 6) hx hb hts hiX1 hown hK hP 1 rfl rfl 1 (by decide) hk147 (fun _ h9 => h9) rfl dX4_type_17 ?_
    refine lv_bipush (v := 100) hx hb dX4_type_20 (by decide) ?_
    refine lv_icmp_ne (tgt := 28) hx hb dX4_type_22 (by decide) (fun c3 => ?_) (fun c3 => ?_)
    · replace hf := ifF hf c3
      refine lv_aload_n hx hb dX4_type_28 rfl (lv_at hl 0 rfl) ?_
      refine va_get (v := .ref t.1) (C := RX4) (T := TX4) (N := 4) hx hb hts hiX4 hown hK hP 0 rfl rfl 3 (by decide) hk29 (fun _ h9 => h9) rfl dX4_type_29 ?_
      refine lv_iload_n hx hb dX4_type_32 rfl (lv_at hl 1 rfl) ?_
      refine lv_i2c hx hb dX4_type_33 rfl ?_
      rw [show (Int32.toUInt32 x1 % 65536).toInt32 = i2c x1 from rfl]
      obtain ⟨T4, hT4, hf⟩ := bnd hf
      refine xcallV (As := [.int (i2c x1)]) (rest := []) (wc := (wT ks t T)) (w1 := (wT ks t T4)) (wr := ((wS o a b h t))) (wn := (wS o a b h t ++ wT ks t T4)) ⟨hx, hb, hml, hown, hts⟩ (c_X1_append k t T (i2c x1) T4 hT4) (cwV 1 hts gX4_type_X1_append rfl rfl rfl (by decide +kernel) ⟨Nat.le_of_ble_eq_true rfl, Nat.le_of_ble_eq_true rfl⟩) hX hP hD hS hA [1, 2, 3] [0] [0, 1, 2, 3] rfl rfl rfl ⟨by decide, by decide, by decide⟩ (by decide) (ci := 1) (q0 := 0) rfl rfl rfl hl.1 rfl (Nat.le_of_ble_eq_true rfl) dX4_type_34 ⟨Nat.zero_le _, Nat.zero_le _⟩ (fun H locs hP hD hS => ?_)
      refine lv_aload_n hx hb dX4_type_37 rfl (lv_at hl 0 rfl) ?_
      refine va_get (v := .ref t.1) (C := RX4) (T := TX4) (N := 4) hx hb hts hiX4 hown hK hP 0 rfl rfl 3 (by decide) hk29 (fun _ h9 => h9) rfl dX4_type_38 ?_
      refine va_get (v := .int (TD.length T4)) (C := RX1) (T := TX1) (N := 6) hx hb hts hiX1 hown hK hP 1 rfl rfl 1 (by decide) hk147 (fun _ h9 => h9) rfl dX4_type_41 ?_
      obtain ⟨rfl, rfl⟩ := inj2 hf
      exact hret trivial _ _ _ _ dX4_type_44 (fun ty h => by cases h; rfl) hP hD hS
    · replace hf := ifT hf c3
      refine lv_bipush (v := (-3)) hx hb dX4_type_25 (by decide) ?_
      obtain ⟨rfl, rfl⟩ := inj2 hf
      exact hret trivial _ _ _ _ dX4_type_27 (fun ty h => by cases h; rfl) hP hD hS
  · replace hf := ifT hf c2
    refine lv_iconst (v := (-1)) hx hb dX4_type_11 (by decide) ?_
    obtain ⟨rfl, rfl⟩ := inj2 hf
    exact hret trivial _ _ _ _ dX4_type_12 (fun ty h => by cases h; rfl) hP hD hS

/-! ===== X4_clearText ===== -/
def p_X4_clearText (k : Nat) (T : TD) : Option (Int32 × TD) :=
  some ((TD.length T), (mkTD (TD.sg T) (TD.th T) 0 (TD.rows T) (TD.position T) (TD.reason T)))

set_option maxHeartbeats 4000000 in
set_option maxRecDepth 100000 in
theorem c_X4_clearText {l : Launch} {D : va_G} {ks : K3} (k : Nat) (o : Nat) (a b : AF) (h : AH) (t : AT) (T : TD) (r : Int32) (rT : TD) (hf : p_X4_clearText k T = some (r, rT)) : MetI l yX4_clearText wsX4_clearText { frames := 0, cells := 0, slots := 0, locals := 0 } D ks [.ref o] (wS o a b h t ++ wT ks t T) (wS o a b h t ++ wT ks t rT) r True := by
  refine MetI.of (cc := cX4_clearText) (maxL := 2) (ret := (some .int)) (by decide +kernel) rfl (Nat.le_of_ble_eq_true rfl) ?_ ⟨_, rfl⟩
  intro p e s m below meth c Q A hx hb hml hts hown hP hX hD hA hret ls hl
  have hK := hX.1
  replace hl : lv_has ls 2 [(0, .ref o)] := hl
  have hS : va_S A s.heap s.heap [] := va_S.rf
  have hiX1 : ∀ w ∈ wsX10, w ∈ wsX4_clearText := by decide +kernel
  have hiX4 : ∀ w ∈ wsX40, w ∈ wsX4_clearText := by decide +kernel
  have hk29 := hts (.fieldLink RX4 29 "SoapFilm" "text" "LSoapFilm$FilmText;") (by decide +kernel)
  have hk147 := hts (.fieldLink RX4 147 "SoapFilm$FilmText" "length" "I") (by decide +kernel)
  unfold p_X4_clearText at hf
  refine lv_aload_n hx hb dX4_clearText_0 rfl (lv_at hl 0 rfl) ?_
  refine va_get (v := .ref t.1) (C := RX4) (T := TX4) (N := 4) hx hb hts hiX4 hown hK hP 0 rfl rfl 3 (by decide) hk29 (fun _ h9 => h9) rfl dX4_clearText_1 ?_
  refine va_get (v := .int (TD.length T)) (C := RX1) (T := TX1) (N := 6) hx hb hts hiX1 hown hK hP 1 rfl rfl 1 (by decide) hk147 (fun _ h9 => h9) rfl dX4_clearText_4 ?_
  refine lv_istore_n (lv' := [(1, .int (TD.length T)), (0, .ref o)]) hx hb dX4_clearText_7 rfl hl (by decide) rfl (fun ls hl => ?_)
  refine lv_aload_n hx hb dX4_clearText_8 rfl (lv_at hl 1 rfl) ?_
  refine va_get (v := .ref t.1) (C := RX4) (T := TX4) (N := 4) hx hb hts hiX4 hown hK hP 0 rfl rfl 3 (by decide) hk29 (fun _ h9 => h9) rfl dX4_clearText_9 ?_
  refine lv_iconst (v := 0) hx hb dX4_clearText_12 (by decide) ?_
  refine xputI (wn := (wS o a b h t ++ wT ks t (mkTD (TD.sg T) (TD.th T) 0 (TD.rows T) (TD.position T) (TD.reason T)))) (C := RX1) (T := TX1) (N := 6) hx hb hts hiX1 tyX1 tyX1_ok nmX1 hown hK hP hD hS 1 rfl rfl 1 (by decide) hk147 (fun _ h9 => h9) rfl (by decide +kernel) (Nat.le_of_ble_eq_true rfl) dX4_clearText_13 rfl (fun H locs hP hD hS => ?_)
  refine lv_iload_n hx hb dX4_clearText_16 rfl (lv_at hl 0 rfl) ?_
  obtain ⟨rfl, rfl⟩ := inj2 hf
  exact hret trivial _ _ _ _ dX4_clearText_17 (fun ty h => by cases h; rfl) hP hD hS

/-! ===== X4_fault ===== -/
def p_X4_fault (k : Nat) (T : TD) (x1 : Int32) : Option (Int32 × TD) :=
  (p_X4_isBetween k x1 0 1).bind fun v1 => if v1 = 0 then (some ((-1), T)) else ((p_X1_parse k T).bind fun T3 => if (TD.reason T3) = 0 then (some ((-4), T3)) else (if x1 = 0 then (some ((TD.position T3), T3)) else (some ((TD.reason T3), T3))))

set_option maxHeartbeats 4000000 in
set_option maxRecDepth 100000 in
theorem c_X4_fault {l : Launch} {D : va_G} {ks : K3} (k : Nat) (o : Nat) (a b : AF) (h : AH) (t : AT) (T : TD) (x1 : Int32) (r : Int32) (rT : TD) (hf : p_X4_fault k T x1 = some (r, rT)) : MetI l yX4_fault wsX4_fault { frames := 4, cells := 0, slots := 0, locals := 90 } D ks [.ref o, .int x1] (wS o a b h t ++ wT ks t T) (wS o a b h t ++ wT ks t rT) r True := by
  refine MetI.of (cc := cX4_fault) (maxL := 2) (ret := (some .int)) (by decide +kernel) rfl (Nat.le_of_ble_eq_true rfl) ?_ ⟨_, rfl⟩
  intro p e s m below meth c Q A hx hb hml hts hown hP hX hD hA hret ls hl
  have hK := hX.1
  replace hl : lv_has ls 2 [(0, .ref o), (1, .int x1)] := hl
  have hS : va_S A s.heap s.heap [] := va_S.rf
  have hiX1 : ∀ w ∈ wsX10, w ∈ wsX4_fault := by decide +kernel
  have hiX4 : ∀ w ∈ wsX40, w ∈ wsX4_fault := by decide +kernel
  have hk29 := hts (.fieldLink RX4 29 "SoapFilm" "text" "LSoapFilm$FilmText;") (by decide +kernel)
  have hk177 := hts (.fieldLink RX4 177 "SoapFilm$FilmText" "reason" "I") (by decide +kernel)
  have hk180 := hts (.fieldLink RX4 180 "SoapFilm$FilmText" "position" "I") (by decide +kernel)
  unfold p_X4_fault at hf
  refine lv_iload_n hx hb dX4_fault_0 rfl (lv_at hl 1 rfl) ?_
  refine lv_iconst (v := 0) hx hb dX4_fault_1 (by decide) ?_
  refine lv_iconst (v := 1) hx hb dX4_fault_2 (by decide) ?_
  obtain ⟨v1, hv1, hf⟩ := bnd hf
  refine xcallRS (As := [.int x1, .int 0, .int 1]) (rest := []) (wc := []) ⟨hx, hb, hml, hown, hts⟩ (c_X4_isBetween k x1 0 1 v1 hv1) (va_cwS 3 hts gX4_fault_X4_isBetween rfl rfl rfl (by decide +kernel) ⟨Nat.le_of_ble_eq_true rfl, Nat.le_of_ble_eq_true rfl⟩) hX (va_P0 _ _ _) rfl hl.1 rfl (Nat.le_of_ble_eq_true rfl) dX4_fault_3 ⟨Nat.zero_le _, Nat.zero_le _⟩ (fun zv1 => ?_)
  refine lv_if_ne (tgt := 11) hx hb dX4_fault_6 (by decide) (fun c2 => ?_) (fun c2 => ?_)
  · replace hf := ifF hf c2
    refine lv_aload_n hx hb dX4_fault_11 rfl (lv_at hl 0 rfl) ?_
    refine va_get (v := .ref t.1) (C := RX4) (T := TX4) (N := 4) hx hb hts hiX4 hown hK hP 0 rfl rfl 3 (by decide) hk29 (fun _ h9 => h9) rfl dX4_fault_12 ?_
    obtain ⟨T3, hT3, hf⟩ := bnd hf
    refine xcallV (As := []) (rest := []) (wc := (wT ks t T)) (w1 := (wT ks t T3)) (wr := ((wS o a b h t))) (wn := (wS o a b h t ++ wT ks t T3)) ⟨hx, hb, hml, hown, hts⟩ (c_X1_parse k t T T3 hT3) (cwV 0 hts gX4_fault_X1_parse rfl rfl rfl (by decide +kernel) ⟨Nat.le_of_ble_eq_true rfl, Nat.le_of_ble_eq_true rfl⟩) hX hP hD hS hA [1, 2, 3] [0] [0, 1, 2, 3] rfl rfl rfl ⟨by decide, by decide, by decide⟩ (by decide) (ci := 1) (q0 := 0) rfl rfl rfl hl.1 rfl (Nat.le_of_ble_eq_true rfl) dX4_fault_15 ⟨Nat.zero_le _, Nat.zero_le _⟩ (fun H locs hP hD hS => ?_)
    refine lv_aload_n hx hb dX4_fault_18 rfl (lv_at hl 0 rfl) ?_
    refine va_get (v := .ref t.1) (C := RX4) (T := TX4) (N := 4) hx hb hts hiX4 hown hK hP 0 rfl rfl 3 (by decide) hk29 (fun _ h9 => h9) rfl dX4_fault_19 ?_
    refine va_get (v := .int (TD.reason T3)) (C := RX1) (T := TX1) (N := 6) hx hb hts hiX1 hown hK hP 1 rfl rfl 5 (by decide) hk177 (fun _ h9 => h9) rfl dX4_fault_22 ?_
    refine lv_if_ne (tgt := 31) hx hb dX4_fault_25 (by decide) (fun c4 => ?_) (fun c4 => ?_)
    · replace hf := ifF hf c4
      refine lv_iload_n hx hb dX4_fault_31 rfl (lv_at hl 1 rfl) ?_
      refine lv_if_ne (tgt := 45) hx hb dX4_fault_32 (by decide) (fun c5 => ?_) (fun c5 => ?_)
      · replace hf := ifF hf c5
        refine lv_aload_n hx hb dX4_fault_45 rfl (lv_at hl 0 rfl) ?_
        refine va_get (v := .ref t.1) (C := RX4) (T := TX4) (N := 4) hx hb hts hiX4 hown hK hP 0 rfl rfl 3 (by decide) hk29 (fun _ h9 => h9) rfl dX4_fault_46 ?_
        refine va_get (v := .int (TD.reason T3)) (C := RX1) (T := TX1) (N := 6) hx hb hts hiX1 hown hK hP 1 rfl rfl 5 (by decide) hk177 (fun _ h9 => h9) rfl dX4_fault_49 ?_
        obtain ⟨rfl, rfl⟩ := inj2 hf
        exact hret trivial _ _ _ _ dX4_fault_52 (fun ty h => by cases h; rfl) hP hD hS
      · replace hf := ifT hf c5
        refine lv_aload_n hx hb dX4_fault_35 rfl (lv_at hl 0 rfl) ?_
        refine va_get (v := .ref t.1) (C := RX4) (T := TX4) (N := 4) hx hb hts hiX4 hown hK hP 0 rfl rfl 3 (by decide) hk29 (fun _ h9 => h9) rfl dX4_fault_36 ?_
        refine va_get (v := .int (TD.position T3)) (C := RX1) (T := TX1) (N := 6) hx hb hts hiX1 hown hK hP 1 rfl rfl 4 (by decide) hk180 (fun _ h9 => h9) rfl dX4_fault_39 ?_
        refine lv_goto (tgt := 52) hx hb dX4_fault_42 (by decide) ?_
        obtain ⟨rfl, rfl⟩ := inj2 hf
        exact hret trivial _ _ _ _ dX4_fault_52 (fun ty h => by cases h; rfl) hP hD hS
    · replace hf := ifT hf c4
      refine lv_bipush (v := (-4)) hx hb dX4_fault_28 (by decide) ?_
      obtain ⟨rfl, rfl⟩ := inj2 hf
      exact hret trivial _ _ _ _ dX4_fault_30 (fun ty h => by cases h; rfl) hP hD hS
  · replace hf := ifT hf c2
    refine lv_iconst (v := (-1)) hx hb dX4_fault_9 (by decide) ?_
    obtain ⟨rfl, rfl⟩ := inj2 hf
    exact hret trivial _ _ _ _ dX4_fault_10 (fun ty h => by cases h; rfl) hP hD hS

/-! ===== X4_read ===== -/
def p_X4_read_L40 (k : Nat) (qA : Nat → AF) (qz : Int32) (qS : Nat → FD) (T : TD) : Nat → (FD) → (Int32) → Option (Int32 × FD × (Nat → AF) × Int32 × (Nat → FD) × TD)
  | 0, _, _ => none
  | n + 1, F, x1 =>
    if (TD.rows T) ≤ x1 then (some ((FD.rows F), F, qA, qz, qS, T)) else ((ald (TD.th T) 24 x1).bind fun v2 => (p_X0_appendRow k F v2).bind fun F3 => p_X4_read_L40 k qA qz qS T n F3 (x1 + 1))

def p_X4_read (k : Nat) (F : FD) (qA : Nat → AF) (qz : Int32) (qS : Nat → FD) (T : TD) : Option (Int32 × FD × (Nat → AF) × Int32 × (Nat → FD) × TD) :=
  (p_X1_parse k T).bind fun T1 => if (TD.reason T1) = 0 then (bind3 (p_X2_keep k qA qz qS F) fun A3 z4 S5 => (p_X0_takeAway k F).bind fun F6 => p_X4_read_L40 k A3 z4 S5 T1 k F6 0) else (some ((-2), F, qA, qz, qS, T1))

set_option maxHeartbeats 4000000 in
set_option maxRecDepth 100000 in
theorem c_X4_read {l : Launch} {D : va_G} {ks : K3} (k : Nat) (o : Nat) (a b : AF) (h : AH) (t : AT) (F : FD) (qA : Nat → AF) (qz : Int32) (qS : Nat → FD) (T : TD) (r : Int32) (rF : FD) (rA : Nat → AF) (rz : Int32) (rS : Nat → FD) (rT : TD) (hf : p_X4_read k F qA qz qS T = some (r, rF, rA, rz, rS, rT)) : MetI l yX4_read wsX4_read { frames := 4, cells := 0, slots := 0, locals := 90 } D ks [.ref o] (wS o a b h t ++ wF ks a F ++ wH ks h qA qz qS ++ wT ks t T) (wS o a b h t ++ wF ks a rF ++ wH ks h rA rz rS ++ wT ks t rT) r True := by
  refine MetI.of (cc := cX4_read) (maxL := 2) (ret := (some .int)) (by decide +kernel) rfl (Nat.le_of_ble_eq_true rfl) ?_ ⟨_, rfl⟩
  intro p e s m below meth c Q A hx hb hml hts hown hP hX hD hA hret ls hl
  have hK := hX.1
  replace hl : lv_has ls 2 [(0, .ref o)] := hl
  have hS : va_S A s.heap s.heap [] := va_S.rf
  have hiX0 : ∀ w ∈ wsX00, w ∈ wsX4_read := by decide +kernel
  have hiX1 : ∀ w ∈ wsX10, w ∈ wsX4_read := by decide +kernel
  have hiX4 : ∀ w ∈ wsX40, w ∈ wsX4_read := by decide +kernel
  have hk29 := hts (.fieldLink RX4 29 "SoapFilm" "text" "LSoapFilm$FilmText;") (by decide +kernel)
  have hk177 := hts (.fieldLink RX4 177 "SoapFilm$FilmText" "reason" "I") (by decide +kernel)
  have hk22 := hts (.fieldLink RX4 22 "SoapFilm" "history" "LSoapFilm$History;") (by decide +kernel)
  have hk10 := hts (.fieldLink RX4 10 "SoapFilm" "film" "LSoapFilm$Film;") (by decide +kernel)
  have hk183 := hts (.fieldLink RX4 183 "SoapFilm$FilmText" "rows" "I") (by decide +kernel)
  have hk74 := hts (.fieldLink RX4 74 "SoapFilm$Film" "rows" "I") (by decide +kernel)
  have hk184 := hts (.fieldLink RX4 184 "SoapFilm$FilmText" "thickness" "[I") (by decide +kernel)
  unfold p_X4_read at hf
  refine lv_aload_n hx hb dX4_read_0 rfl (lv_at hl 0 rfl) ?_
  refine va_get (v := .ref t.1) (C := RX4) (T := TX4) (N := 4) hx hb hts hiX4 hown hK hP 0 rfl rfl 3 (by decide) hk29 (fun _ h9 => h9) rfl dX4_read_1 ?_
  obtain ⟨T1, hT1, hf⟩ := bnd hf
  refine xcallV (As := []) (rest := []) (wc := (wT ks t T)) (w1 := (wT ks t T1)) (wr := ((wS o a b h t ++ wF ks a F ++ wH ks h qA qz qS))) (wn := (wS o a b h t ++ wF ks a F ++ wH ks h qA qz qS ++ wT ks t T1)) ⟨hx, hb, hml, hown, hts⟩ (c_X1_parse k t T T1 hT1) (cwV 0 hts gX4_read_X1_parse rfl rfl rfl (by decide +kernel) ⟨Nat.le_of_ble_eq_true rfl, Nat.le_of_ble_eq_true rfl⟩) hX hP hD hS hA [27, 28, 29] [0, 1, 2, 3, 4, 5, 6, 7, 8, 9, 10, 11, 12, 13, 14, 15, 16, 17, 18, 19, 20, 21, 22, 23, 24, 25, 26] [0, 1, 2, 3, 4, 5, 6, 7, 8, 9, 10, 11, 12, 13, 14, 15, 16, 17, 18, 19, 20, 21, 22, 23, 24, 25, 26, 27, 28, 29] rfl rfl rfl ⟨by decide, by decide, by decide⟩ (by decide) (ci := 1) (q0 := 0) rfl rfl rfl hl.1 rfl (Nat.le_of_ble_eq_true rfl) dX4_read_4 ⟨Nat.zero_le _, Nat.zero_le _⟩ (fun H locs hP hD hS => ?_)
  refine lv_aload_n hx hb dX4_read_7 rfl (lv_at hl 0 rfl) ?_
  refine va_get (v := .ref t.1) (C := RX4) (T := TX4) (N := 4) hx hb hts hiX4 hown hK hP 0 rfl rfl 3 (by decide) hk29 (fun _ h9 => h9) rfl dX4_read_8 ?_
  refine va_get (v := .int (TD.reason T1)) (C := RX1) (T := TX1) (N := 6) hx hb hts hiX1 hown hK hP 27 rfl rfl 5 (by decide) hk177 (fun _ h9 => h9) rfl dX4_read_11 ?_
  refine lv_if_eq (tgt := 20) hx hb dX4_read_14 (by decide) (fun c2 => ?_) (fun c2 => ?_)
  · replace hf := ifT hf c2
    refine lv_aload_n hx hb dX4_read_20 rfl (lv_at hl 0 rfl) ?_
    refine va_get (v := .ref h.1) (C := RX4) (T := TX4) (N := 4) hx hb hts hiX4 hown hK hP 0 rfl rfl 2 (by decide) hk22 (fun _ h9 => h9) rfl dX4_read_21 ?_
    refine lv_aload_n hx hb dX4_read_24 rfl (lv_at hl 0 rfl) ?_
    refine va_get (v := .ref a.1) (C := RX4) (T := TX4) (N := 4) hx hb hts hiX4 hown hK hP 0 rfl rfl 0 (by decide) hk10 (fun _ h9 => h9) rfl dX4_read_25 ?_
    obtain ⟨A3, z4, S5, hA3, hf⟩ := bnd3 hf
    refine xcallV (As := [.ref a.1]) (rest := []) (wc := (wH ks h qA qz qS ++ wF ks a F)) (w1 := (wH ks h A3 z4 S5 ++ wF ks a F)) (wr := ((wS o a b h t ++ wT ks t T1))) (wn := (wS o a b h t ++ wF ks a F ++ wH ks h A3 z4 S5 ++ wT ks t T1)) ⟨hx, hb, hml, hown, hts⟩ (c_X2_keep k h a qA qz qS F A3 z4 S5 hA3) (cwV 1 hts gX4_read_X2_keep rfl rfl rfl (by decide +kernel) ⟨Nat.le_of_ble_eq_true rfl, Nat.le_of_ble_eq_true rfl⟩) hX hP hD hS hA [5, 6, 7, 8, 9, 10, 11, 12, 13, 14, 15, 16, 17, 18, 19, 20, 21, 22, 23, 24, 25, 26, 1, 2, 3, 4] [0, 27, 28, 29] [0, 26, 27, 28, 29, 4, 5, 6, 7, 8, 9, 10, 11, 12, 13, 14, 15, 16, 17, 18, 19, 20, 21, 22, 23, 24, 25, 1, 2, 3] rfl rfl rfl ⟨by decide, by decide, by decide⟩ (by decide) (ci := 2) (q0 := 0) rfl rfl rfl hl.1 rfl (Nat.le_of_ble_eq_true rfl) dX4_read_28 ⟨Nat.zero_le _, Nat.zero_le _⟩ (fun H locs hP hD hS => ?_)
    refine lv_aload_n hx hb dX4_read_31 rfl (lv_at hl 0 rfl) ?_
    refine va_get (v := .ref a.1) (C := RX4) (T := TX4) (N := 4) hx hb hts hiX4 hown hK hP 0 rfl rfl 0 (by decide) hk10 (fun _ h9 => h9) rfl dX4_read_32 ?_
    obtain ⟨F6, hF6, hf⟩ := bnd hf
    refine xcallV (As := []) (rest := []) (wc := (wF ks a F)) (w1 := (wF ks a F6)) (wr := ((wS o a b h t ++ wH ks h A3 z4 S5 ++ wT ks t T1))) (wn := (wS o a b h t ++ wF ks a F6 ++ wH ks h A3 z4 S5 ++ wT ks t T1)) ⟨hx, hb, hml, hown, hts⟩ (c_X0_takeAway k a F F6 hF6) (cwV 0 hts gX4_read_X0_takeAway rfl rfl rfl (by decide +kernel) ⟨Nat.le_of_ble_eq_true rfl, Nat.le_of_ble_eq_true rfl⟩) hX hP hD hS hA [1, 2, 3, 4] [0, 5, 6, 7, 8, 9, 10, 11, 12, 13, 14, 15, 16, 17, 18, 19, 20, 21, 22, 23, 24, 25, 26, 27, 28, 29] [0, 26, 27, 28, 29, 1, 2, 3, 4, 5, 6, 7, 8, 9, 10, 11, 12, 13, 14, 15, 16, 17, 18, 19, 20, 21, 22, 23, 24, 25] rfl rfl rfl ⟨by decide, by decide, by decide⟩ (by decide) (ci := 0) (q0 := 0) rfl rfl rfl hl.1 rfl (Nat.le_of_ble_eq_true rfl) dX4_read_35 ⟨Nat.zero_le _, Nat.zero_le _⟩ (fun H locs hP hD hS => ?_)
    refine lv_iconst (v := 0) hx hb dX4_read_38 (by decide) ?_
    refine lv_istore_n (lv' := [(1, .int 0), (0, .ref o)]) hx hb dX4_read_39 rfl hl (by decide) rfl (fun ls hl => ?_)
    have L40 : ∀ (n : Nat) (Fq40 : FD) (x1q40 : Int32) (H : Heap) (locs : List Loc) (ls : Array Slot), p_X4_read_L40 k A3 z4 S5 T1 n Fq40 x1q40 = some (r, rF, rA, rz, rS, rT) → va_P D vwCl (wS o a b h t ++ wF ks a Fq40 ++ wH ks h A3 z4 S5 ++ wT ks t T1) H → va_D A (wS o a b h t ++ wF ks a Fq40 ++ wH ks h A3 z4 S5 ++ wT ks t T1) → va_S A s.heap H locs → lv_has ls 2 [(0, .ref o), (1, .int x1q40)] → W p l e { frames := 4, cells := 0, slots := 0, locals := 90 } s m ([.ref o] : List Value).toArray below meth c H locs 0 0 Q (F0 m 40 ls []) := by
      intro n
      induction n with
      | zero => intro Fq40 x1q40 H locs ls hf; cases hf
      | succ n ih40 =>
        intro Fq40 x1q40 H locs ls hf hP hD hS hl
        rw [p_X4_read_L40] at hf
        refine lv_iload_n hx hb dX4_read_40 rfl (lv_at hl 1 rfl) ?_
        refine lv_aload_n hx hb dX4_read_41 rfl (lv_at hl 0 rfl) ?_
        refine va_get (v := .ref t.1) (C := RX4) (T := TX4) (N := 4) hx hb hts hiX4 hown hK hP 0 rfl rfl 3 (by decide) hk29 (fun _ h9 => h9) rfl dX4_read_42 ?_
        refine va_get (v := .int (TD.rows T1)) (C := RX1) (T := TX1) (N := 6) hx hb hts hiX1 hown hK hP 27 rfl rfl 3 (by decide) hk183 (fun _ h9 => h9) rfl dX4_read_45 ?_
        refine lv_icmp_ge (tgt := 73) hx hb dX4_read_48 (by decide) (fun c7 => ?_) (fun c7 => ?_)
        · replace hf := ifT hf c7
          refine lv_aload_n hx hb dX4_read_73 rfl (lv_at hl 0 rfl) ?_
          refine va_get (v := .ref a.1) (C := RX4) (T := TX4) (N := 4) hx hb hts hiX4 hown hK hP 0 rfl rfl 0 (by decide) hk10 (fun _ h9 => h9) rfl dX4_read_74 ?_
          refine va_get (v := .int (FD.rows Fq40)) (C := RX0) (T := TX0) (N := 10) hx hb hts hiX0 hown hK hP 1 rfl rfl 3 (by decide) hk74 (fun _ h9 => h9) rfl dX4_read_77 ?_
          obtain ⟨rfl, rfl, rfl, rfl, rfl, rfl⟩ := inj6 hf
          exact hret trivial _ _ _ _ dX4_read_80 (fun ty h => by cases h; rfl) hP hD hS
        · replace hf := ifF hf c7
          refine lv_aload_n hx hb dX4_read_51 rfl (lv_at hl 0 rfl) ?_
          refine va_get (v := .ref a.1) (C := RX4) (T := TX4) (N := 4) hx hb hts hiX4 hown hK hP 0 rfl rfl 0 (by decide) hk10 (fun _ h9 => h9) rfl dX4_read_52 ?_
          refine lv_aload_n hx hb dX4_read_55 rfl (lv_at hl 0 rfl) ?_
          refine va_get (v := .ref t.1) (C := RX4) (T := TX4) (N := 4) hx hb hts hiX4 hown hK hP 0 rfl rfl 3 (by decide) hk29 (fun _ h9 => h9) rfl dX4_read_56 ?_
          refine va_get (v := .ref t.2.2) (C := RX1) (T := TX1) (N := 6) hx hb hts hiX1 hown hK hP 27 rfl rfl 2 (by decide) hk184 (fun _ h9 => h9) rfl dX4_read_59 ?_
          refine lv_iload_n hx hb dX4_read_62 rfl (lv_at hl 1 rfl) ?_
          obtain ⟨v8, hv8, hf⟩ := bnd hf
          refine xa_iald hx hb hK hP hv8 29 0 rfl rfl dX4_read_63 ?_
          obtain ⟨F9, hF9, hf⟩ := bnd hf
          refine xcallV (As := [.int v8]) (rest := []) (wc := (wF ks a Fq40)) (w1 := (wF ks a F9)) (wr := ((wS o a b h t ++ wH ks h A3 z4 S5 ++ wT ks t T1))) (wn := (wS o a b h t ++ wF ks a F9 ++ wH ks h A3 z4 S5 ++ wT ks t T1)) ⟨hx, hb, hml, hown, hts⟩ (c_X0_appendRow k a Fq40 v8 F9 hF9) (cwV 1 hts gX4_read_X0_appendRow rfl rfl rfl (by decide +kernel) ⟨Nat.le_of_ble_eq_true rfl, Nat.le_of_ble_eq_true rfl⟩) hX hP hD hS hA [1, 2, 3, 4] [0, 5, 6, 7, 8, 9, 10, 11, 12, 13, 14, 15, 16, 17, 18, 19, 20, 21, 22, 23, 24, 25, 26, 27, 28, 29] [0, 26, 27, 28, 29, 1, 2, 3, 4, 5, 6, 7, 8, 9, 10, 11, 12, 13, 14, 15, 16, 17, 18, 19, 20, 21, 22, 23, 24, 25] rfl rfl rfl ⟨by decide, by decide, by decide⟩ (by decide) (ci := 0) (q0 := 0) rfl rfl rfl hl.1 rfl (Nat.le_of_ble_eq_true rfl) dX4_read_64 ⟨Nat.zero_le _, Nat.zero_le _⟩ (fun H locs hP hD hS => ?_)
          refine lv_iinc (v := (x1q40 + 1)) (lv' := [(1, .int (x1q40 + 1)), (0, .ref o)]) hx hb dX4_read_67 hl (k := 1) rfl rfl (by decide) rfl (fun ls hl => ?_)
          refine lv_goto (tgt := 40) hx hb dX4_read_70 (by decide) ?_
          exact ih40 _ _  _ _ _ hf hP hD hS (lv_sub hl [1, 0] rfl)
    exact L40 k _ _ _ _ _ hf hP hD hS (lv_sub hl [1, 0] rfl)
  · replace hf := ifF hf c2
    refine lv_bipush (v := (-2)) hx hb dX4_read_17 (by decide) ?_
    obtain ⟨rfl, rfl, rfl, rfl, rfl, rfl⟩ := inj6 hf
    exact hret trivial _ _ _ _ dX4_read_19 (fun ty h => by cases h; rfl) hP hD hS
