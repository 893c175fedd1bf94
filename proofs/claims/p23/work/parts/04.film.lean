/-! ===== J6_bitCount_0f7a4 ===== -/
def p_J6_bitCount_0f7a4 (k : Nat) (x0 : Int32) : Option (Int32) :=
  nm (((x0 - ((iushr x0 1) &&& 1431655765)) &&& 858993459) + ((iushr (x0 - ((iushr x0 1) &&& 1431655765)) 2) &&& 858993459)) fun w1 => nm (((w1 + (iushr w1 4)) &&& 252645135) + (iushr ((w1 + (iushr w1 4)) &&& 252645135) 8)) fun w2 => some ((w2 + (iushr w2 16)) &&& 63)

set_option maxHeartbeats 4000000 in
set_option maxRecDepth 100000 in
theorem c_J6_bitCount_0f7a4 {l : Launch} {D : va_G} {ks : K3} (k : Nat) (x0 : Int32) (r : Int32) (hf : p_J6_bitCount_0f7a4 k x0 = some r) : MetR l yJ6_bitCount_0f7a4 wsJ6_bitCount_0f7a4 { frames := 0, cells := 0, slots := 0, locals := 0 } D ks [.int x0] [] r True := by
  refine MetR.of (cc := cJ6_bitCount_0f7a4) (maxL := 1) (ret := (some .int)) (by decide +kernel) rfl (Nat.le_of_ble_eq_true rfl) ?_ ⟨_, rfl⟩
  intro p e s m below meth c Q hx hb hml hts hown hP hX hret ls hl
  have hK := hX.1
  replace hl : lv_has ls 1 [(0, .int x0)] := hl
  have hc265 := hts (.constant RJ6 265 (1431655765)) (by decide +kernel)
  have hc266 := hts (.constant RJ6 266 (858993459)) (by decide +kernel)
  have hc267 := hts (.constant RJ6 267 (252645135)) (by decide +kernel)
  unfold p_J6_bitCount_0f7a4 at hf
  refine lv_iload_n hx hb dJ6_bitCount_0f7a4_0 rfl (lv_at hl 0 rfl) ?_
  refine lv_iload_n hx hb dJ6_bitCount_0f7a4_1 rfl (lv_at hl 0 rfl) ?_
  refine lv_iconst (v := 1) hx hb dJ6_bitCount_0f7a4_2 (by decide) ?_
  refine lv_iushr (v := (iushr x0 1)) hx hb dJ6_bitCount_0f7a4_3 rfl ?_
  refine lv_ldcw (v := 1431655765) hx hb hown hc265 dJ6_bitCount_0f7a4_4 ?_
  refine lv_iand hx hb dJ6_bitCount_0f7a4_7 ?_
  refine lv_isub hx hb dJ6_bitCount_0f7a4_8 ?_
  refine lv_istore_n (lv' := [(0, .int (x0 - ((iushr x0 1) &&& 1431655765)))]) hx hb dJ6_bitCount_0f7a4_9 rfl hl (by decide) rfl (fun ls hl => ?_)
  refine lv_iload_n hx hb dJ6_bitCount_0f7a4_10 rfl (lv_at hl 0 rfl) ?_
  refine lv_ldcw (v := 858993459) hx hb hown hc266 dJ6_bitCount_0f7a4_11 ?_
  refine lv_iand hx hb dJ6_bitCount_0f7a4_14 ?_
  refine lv_iload_n hx hb dJ6_bitCount_0f7a4_15 rfl (lv_at hl 0 rfl) ?_
  refine lv_iconst (v := 2) hx hb dJ6_bitCount_0f7a4_16 (by decide) ?_
  refine lv_iushr (v := (iushr (x0 - ((iushr x0 1) &&& 1431655765)) 2)) hx hb dJ6_bitCount_0f7a4_17 rfl ?_
  refine lv_ldcw (v := 858993459) hx hb hown hc266 dJ6_bitCount_0f7a4_18 ?_
  refine lv_iand hx hb dJ6_bitCount_0f7a4_21 ?_
  refine lv_iadd hx hb dJ6_bitCount_0f7a4_22 ?_
  obtain ⟨w1, ew1, hf⟩ := nmd hf
  refine lv_name ew1 ?_
  refine lv_istore_n (lv' := [(0, .int w1)]) hx hb dJ6_bitCount_0f7a4_23 rfl hl (by decide) rfl (fun ls hl => ?_)
  refine lv_iload_n hx hb dJ6_bitCount_0f7a4_24 rfl (lv_at hl 0 rfl) ?_
  refine lv_iload_n hx hb dJ6_bitCount_0f7a4_25 rfl (lv_at hl 0 rfl) ?_
  refine lv_iconst (v := 4) hx hb dJ6_bitCount_0f7a4_26 (by decide) ?_
  refine lv_iushr (v := (iushr w1 4)) hx hb dJ6_bitCount_0f7a4_27 rfl ?_
  refine lv_iadd hx hb dJ6_bitCount_0f7a4_28 ?_
  refine lv_ldcw (v := 252645135) hx hb hown hc267 dJ6_bitCount_0f7a4_29 ?_
  refine lv_iand hx hb dJ6_bitCount_0f7a4_32 ?_
  refine lv_istore_n (lv' := [(0, .int ((w1 + (iushr w1 4)) &&& 252645135))]) hx hb dJ6_bitCount_0f7a4_33 rfl hl (by decide) rfl (fun ls hl => ?_)
  refine lv_iload_n hx hb dJ6_bitCount_0f7a4_34 rfl (lv_at hl 0 rfl) ?_
  refine lv_iload_n hx hb dJ6_bitCount_0f7a4_35 rfl (lv_at hl 0 rfl) ?_
  refine lv_bipush (v := 8) hx hb dJ6_bitCount_0f7a4_36 (by decide) ?_
  refine lv_iushr (v := (iushr ((w1 + (iushr w1 4)) &&& 252645135) 8)) hx hb dJ6_bitCount_0f7a4_38 rfl ?_
  refine lv_iadd hx hb dJ6_bitCount_0f7a4_39 ?_
  obtain ⟨w2, ew2, hf⟩ := nmd hf
  refine lv_name ew2 ?_
  refine lv_istore_n (lv' := [(0, .int w2)]) hx hb dJ6_bitCount_0f7a4_40 rfl hl (by decide) rfl (fun ls hl => ?_)
  refine lv_iload_n hx hb dJ6_bitCount_0f7a4_41 rfl (lv_at hl 0 rfl) ?_
  refine lv_iload_n hx hb dJ6_bitCount_0f7a4_42 rfl (lv_at hl 0 rfl) ?_
  refine lv_bipush (v := 16) hx hb dJ6_bitCount_0f7a4_43 (by decide) ?_
  refine lv_iushr (v := (iushr w2 16)) hx hb dJ6_bitCount_0f7a4_45 rfl ?_
  refine lv_iadd hx hb dJ6_bitCount_0f7a4_46 ?_
  refine lv_istore_n (lv' := [(0, .int (w2 + (iushr w2 16)))]) hx hb dJ6_bitCount_0f7a4_47 rfl hl (by decide) rfl (fun ls hl => ?_)
  refine lv_iload_n hx hb dJ6_bitCount_0f7a4_48 rfl (lv_at hl 0 rfl) ?_
  refine lv_bipush (v := 63) hx hb dJ6_bitCount_0f7a4_49 (by decide) ?_
  refine lv_iand hx hb dJ6_bitCount_0f7a4_51 ?_
  obtain rfl := Option.some.inj hf
  exact hret trivial _ _ dJ6_bitCount_0f7a4_52 (fun ty h => by cases h; rfl)

/-! ===== X0_fringes ===== -/
def p_X0_fringes_L4 (k : Nat) (F : FD) : Nat → (Int32) → (Int32) → Option (Int32)
  | 0, _, _ => none
  | n + 1, x1, x2 =>
    if (FD.rows F) ≤ x2 then (some x1) else ((p_X0_startsColour k F x2).bind fun v2 => if v2 = 0 then (p_X0_fringes_L4 k F n x1 (x2 + 1)) else (p_X0_fringes_L4 k F n (x1 + 1) (x2 + 1)))

def p_X0_fringes (k : Nat) (F : FD) : Option (Int32) :=
  p_X0_fringes_L4 k F k 0 1

set_option maxHeartbeats 4000000 in
set_option maxRecDepth 100000 in
theorem c_X0_fringes {l : Launch} {D : va_G} {ks : K3} (k : Nat) (a : AF) (F : FD) (r : Int32) (hf : p_X0_fringes k F = some r) : MetR l yX0_fringes wsX0_fringes { frames := 5, cells := 0, slots := 0, locals := 106 } D ks [.ref a.1] (wF ks a F) r True := by
  refine MetR.of (cc := cX0_fringes) (maxL := 3) (ret := (some .int)) (by decide +kernel) rfl (Nat.le_of_ble_eq_true rfl) ?_ ⟨_, rfl⟩
  intro p e s m below meth c Q hx hb hml hts hown hP hX hret ls hl
  have hK := hX.1
  replace hl : lv_has ls 3 [(0, .ref a.1)] := hl
  have hiX0 : ∀ w ∈ wsX00, w ∈ wsX0_fringes := by decide +kernel
  have hk30 := hts (.fieldLink RX0 30 "SoapFilm$Film" "rows" "I") (by decide +kernel)
  unfold p_X0_fringes at hf
  refine lv_iconst (v := 0) hx hb dX0_fringes_0 (by decide) ?_
  refine lv_istore_n (lv' := [(1, .int 0), (0, .ref a.1)]) hx hb dX0_fringes_1 rfl hl (by decide) rfl (fun ls hl => ?_)
  refine lv_iconst (v := 1) hx hb dX0_fringes_2 (by decide) ?_
  refine lv_istore_n (lv' := [(2, .int 1), (1, .int 0), (0, .ref a.1)]) hx hb dX0_fringes_3 rfl hl (by decide) rfl (fun ls hl => ?_)
  have L4 : ∀ (n : Nat) (x1q4 : Int32) (x2q4 : Int32) (ls : Array Slot), p_X0_fringes_L4 k F n x1q4 x2q4 = some r → lv_has ls 3 [(0, .ref a.1), (1, .int x1q4), (2, .int x2q4)] → W p l e { frames := 5, cells := 0, slots := 0, locals := 106 } s m ([.ref a.1] : List Value).toArray below meth c s.heap [] 0 0 Q (F0 m 4 ls []) := by
    intro n
    induction n with
    | zero => intro x1q4 x2q4 ls hf; cases hf
    | succ n ih4 =>
      intro x1q4 x2q4 ls hf hl
      rw [p_X0_fringes_L4] at hf
      refine lv_iload_n hx hb dX0_fringes_4 rfl (lv_at hl 2 rfl) ?_
      refine lv_aload_n hx hb dX0_fringes_5 rfl (lv_at hl 0 rfl) ?_
      refine va_get (v := .int (FD.rows F)) (C := RX0) (T := TX0) (N := 10) hx hb hts hiX0 hown hK hP 0 rfl rfl 3 (by decide) hk30 (fun _ h9 => h9) rfl dX0_fringes_6 ?_
      refine lv_icmp_ge (tgt := 29) hx hb dX0_fringes_9 (by decide) (fun c1 => ?_) (fun c1 => ?_)
      · replace hf := ifT hf c1
        refine lv_iload_n hx hb dX0_fringes_29 rfl (lv_at hl 1 rfl) ?_
        obtain rfl := Option.some.inj hf
        exact hret trivial _ _ dX0_fringes_30 (fun ty h => by cases h; rfl)
      · replace hf := ifF hf c1
        refine lv_aload_n hx hb dX0_fringes_12 rfl (lv_at hl 0 rfl) ?_
        refine lv_iload_n hx hb dX0_fringes_13 rfl (lv_at hl 2 rfl) ?_
        obtain ⟨v2, hv2, hf⟩ := bnd hf
        refine xcallRV (As := [.int x2q4]) (rest := []) (wc := (wF ks a F)) ⟨hx, hb, hml, hown, hts⟩ (c_X0_startsColour k a F x2q4 v2 hv2) (cwV 1 hts gX0_fringes_X0_startsColour rfl rfl rfl (by decide +kernel) ⟨Nat.le_of_ble_eq_true rfl, Nat.le_of_ble_eq_true rfl⟩) hX hP (ci := 0) (q0 := 0) rfl rfl rfl hl.1 rfl (Nat.le_of_ble_eq_true rfl) dX0_fringes_14 ⟨Nat.zero_le _, Nat.zero_le _⟩ (fun zv2 => ?_)
        refine lv_if_eq (tgt := 23) hx hb dX0_fringes_17 (by decide) (fun c3 => ?_) (fun c3 => ?_)
        · replace hf := ifT hf c3
          refine lv_iinc (v := (x2q4 + 1)) (lv' := [(2, .int (x2q4 + 1)), (0, .ref a.1), (1, .int x1q4)]) hx hb dX0_fringes_23 hl (k := 2) rfl rfl (by decide) rfl (fun ls hl => ?_)
          refine lv_goto (tgt := 4) hx hb dX0_fringes_26 (by decide) ?_
          exact ih4 _ _  _ hf (lv_sub hl [1, 2, 0] rfl)
        · replace hf := ifF hf c3
          refine lv_iinc (v := (x1q4 + 1)) (lv' := [(1, .int (x1q4 + 1)), (0, .ref a.1), (2, .int x2q4)]) hx hb dX0_fringes_20 hl (k := 1) rfl rfl (by decide) rfl (fun ls hl => ?_)
          refine lv_iinc (v := (x2q4 + 1)) (lv' := [(2, .int (x2q4 + 1)), (1, .int (x1q4 + 1)), (0, .ref a.1)]) hx hb dX0_fringes_23 hl (k := 2) rfl rfl (by decide) rfl (fun ls hl => ?_)
          refine lv_goto (tgt := 4) hx hb dX0_fringes_26 (by decide) ?_
          exact ih4 _ _  _ hf (lv_sub hl [2, 1, 0] rfl)
  exact L4 k _ _ _ hf (lv_sub hl [2, 1, 0] rfl)

/-! ===== X0_differentColours ===== -/
def p_X0_differentColours_L4 (k : Nat) (F : FD) : Nat → (Int32) → (Int32) → Option (Int32)
  | 0, _, _ => none
  | n + 1, x1, x2 =>
    if (FD.rows F) ≤ x2 then ((p_J6_bitCount_0f7a4 k x1).bind fun v2 => some v2) else ((p_X0_colourAt k F x2).bind fun v3 => p_X0_differentColours_L4 k F n (x1 ||| (jshl 1 v3)) (x2 + 1))

def p_X0_differentColours (k : Nat) (F : FD) : Option (Int32) :=
  p_X0_differentColours_L4 k F k 0 0

set_option maxHeartbeats 4000000 in
set_option maxRecDepth 100000 in
theorem c_X0_differentColours {l : Launch} {D : va_G} {ks : K3} (k : Nat) (a : AF) (F : FD) (r : Int32) (hf : p_X0_differentColours k F = some r) : MetR l yX0_differentColours wsX0_differentColours { frames := 4, cells := 0, slots := 0, locals := 85 } D ks [.ref a.1] (wF ks a F) r True := by
  refine MetR.of (cc := cX0_differentColours) (maxL := 3) (ret := (some .int)) (by decide +kernel) rfl (Nat.le_of_ble_eq_true rfl) ?_ ⟨_, rfl⟩
  intro p e s m below meth c Q hx hb hml hts hown hP hX hret ls hl
  have hK := hX.1
  replace hl : lv_has ls 3 [(0, .ref a.1)] := hl
  have hiX0 : ∀ w ∈ wsX00, w ∈ wsX0_differentColours := by decide +kernel
  have hk30 := hts (.fieldLink RX0 30 "SoapFilm$Film" "rows" "I") (by decide +kernel)
  unfold p_X0_differentColours at hf
  refine lv_iconst (v := 0) hx hb dX0_differentColours_0 (by decide) ?_
  refine lv_istore_n (lv' := [(1, .int 0), (0, .ref a.1)]) hx hb dX0_differentColours_1 rfl hl (by decide) rfl (fun ls hl => ?_)
  refine lv_iconst (v := 0) hx hb dX0_differentColours_2 (by decide) ?_
  refine lv_istore_n (lv' := [(2, .int 0), (1, .int 0), (0, .ref a.1)]) hx hb dX0_differentColours_3 rfl hl (by decide) rfl (fun ls hl => ?_)
  have L4 : ∀ (n : Nat) (x1q4 : Int32) (x2q4 : Int32) (ls : Array Slot), p_X0_differentColours_L4 k F n x1q4 x2q4 = some r → lv_has ls 3 [(0, .ref a.1), (1, .int x1q4), (2, .int x2q4)] → W p l e { frames := 4, cells := 0, slots := 0, locals := 85 } s m ([.ref a.1] : List Value).toArray below meth c s.heap [] 0 0 Q (F0 m 4 ls []) := by
    intro n
    induction n with
    | zero => intro x1q4 x2q4 ls hf; cases hf
    | succ n ih4 =>
      intro x1q4 x2q4 ls hf hl
      rw [p_X0_differentColours_L4] at hf
      refine lv_iload_n hx hb dX0_differentColours_4 rfl (lv_at hl 2 rfl) ?_
      refine lv_aload_n hx hb dX0_differentColours_5 rfl (lv_at hl 0 rfl) ?_
      refine va_get (v := .int (FD.rows F)) (C := RX0) (T := TX0) (N := 10) hx hb hts hiX0 hown hK hP 0 rfl rfl 3 (by decide) hk30 (fun _ h9 => h9) rfl dX0_differentColours_6 ?_
      refine lv_icmp_ge (tgt := 28) hx hb dX0_differentColours_9 (by decide) (fun c1 => ?_) (fun c1 => ?_)
      · replace hf := ifT hf c1
        refine lv_iload_n hx hb dX0_differentColours_28 rfl (lv_at hl 1 rfl) ?_
        obtain ⟨v2, hv2, hf⟩ := bnd hf
        refine xcallRS (As := [.int x1q4]) (rest := []) (wc := []) ⟨hx, hb, hml, hown, hts⟩ (c_J6_bitCount_0f7a4 k x1q4 v2 hv2) (va_cwS 1 hts gX0_differentColours_J6_bitCount_0f7a4 rfl rfl rfl (by decide +kernel) ⟨Nat.le_of_ble_eq_true rfl, Nat.le_of_ble_eq_true rfl⟩) hX (va_P0 _ _ _) rfl hl.1 rfl (Nat.le_of_ble_eq_true rfl) dX0_differentColours_29 ⟨Nat.zero_le _, Nat.zero_le _⟩ (fun zv2 => ?_)
        obtain rfl := Option.some.inj hf
        exact hret trivial _ _ dX0_differentColours_32 (fun ty h => by cases h; rfl)
      · replace hf := ifF hf c1
        refine lv_iload_n hx hb dX0_differentColours_12 rfl (lv_at hl 1 rfl) ?_
        refine lv_iconst (v := 1) hx hb dX0_differentColours_13 (by decide) ?_
        refine lv_aload_n hx hb dX0_differentColours_14 rfl (lv_at hl 0 rfl) ?_
        refine lv_iload_n hx hb dX0_differentColours_15 rfl (lv_at hl 2 rfl) ?_
        obtain ⟨v3, hv3, hf⟩ := bnd hf
        refine xcallRV (As := [.int x2q4]) (rest := [.int 1, .int x1q4]) (wc := (wF ks a F)) ⟨hx, hb, hml, hown, hts⟩ (c_X0_colourAt k a F x2q4 v3 hv3) (cwV 1 hts gX0_differentColours_X0_colourAt rfl rfl rfl (by decide +kernel) ⟨Nat.le_of_ble_eq_true rfl, Nat.le_of_ble_eq_true rfl⟩) hX hP (ci := 0) (q0 := 0) rfl rfl rfl hl.1 rfl (Nat.le_of_ble_eq_true rfl) dX0_differentColours_16 ⟨Nat.zero_le _, Nat.zero_le _⟩ (fun zv3 => ?_)
        refine xx_ishl hx hb dX0_differentColours_19 ?_
        refine lv_ior hx hb dX0_differentColours_20 ?_
        refine lv_istore_n (lv' := [(1, .int (x1q4 ||| (jshl 1 v3))), (0, .ref a.1), (2, .int x2q4)]) hx hb dX0_differentColours_21 rfl hl (by decide) rfl (fun ls hl => ?_)
        refine lv_iinc (v := (x2q4 + 1)) (lv' := [(2, .int (x2q4 + 1)), (1, .int (x1q4 ||| (jshl 1 v3))), (0, .ref a.1)]) hx hb dX0_differentColours_22 hl (k := 2) rfl rfl (by decide) rfl (fun ls hl => ?_)
        refine lv_goto (tgt := 4) hx hb dX0_differentColours_25 (by decide) ?_
        exact ih4 _ _  _ hf (lv_sub hl [2, 1, 0] rfl)
  exact L4 k _ _ _ hf (lv_sub hl [2, 1, 0] rfl)

/-! ===== X0_greatestOrder ===== -/
def p_X0_greatestOrder_L4 (k : Nat) (F : FD) : Nat → (Int32) → (Int32) → Option (Int32)
  | 0, _, _ => none
  | n + 1, x1, x2 =>
    if (FD.rows F) ≤ x2 then (some x1) else ((ald (FD.th F) 24 x2).bind fun v2 => (p_X3_path k v2).bind fun v3 => (p_X3_order k v3).bind fun v4 => p_X0_greatestOrder_L4 k F n (imax x1 v4) (x2 + 1))

def p_X0_greatestOrder (k : Nat) (F : FD) : Option (Int32) :=
  p_X0_greatestOrder_L4 k F k 0 0

set_option maxHeartbeats 4000000 in
set_option maxRecDepth 100000 in
theorem c_X0_greatestOrder {l : Launch} {D : va_G} {ks : K3} (k : Nat) (a : AF) (F : FD) (r : Int32) (hf : p_X0_greatestOrder k F = some r) : MetR l yX0_greatestOrder wsX0_greatestOrder { frames := 1, cells := 0, slots := 0, locals := 21 } D ks [.ref a.1] (wF ks a F) r True := by
  refine MetR.of (cc := cX0_greatestOrder) (maxL := 3) (ret := (some .int)) (by decide +kernel) rfl (Nat.le_of_ble_eq_true rfl) ?_ ⟨_, rfl⟩
  intro p e s m below meth c Q hx hb hml hts hown hP hX hret ls hl
  have hK := hX.1
  replace hl : lv_has ls 3 [(0, .ref a.1)] := hl
  have hiX0 : ∀ w ∈ wsX00, w ∈ wsX0_greatestOrder := by decide +kernel
  have hk30 := hts (.fieldLink RX0 30 "SoapFilm$Film" "rows" "I") (by decide +kernel)
  have hk9 := hts (.fieldLink RX0 9 "SoapFilm$Film" "thickness" "[I") (by decide +kernel)
  have hm96 := hts (.methodLink RX0 96 Lib.Math.max.name) (by decide +kernel)
  have hs_max := hts (.static Lib.Math.max.name) (by decide +kernel)
  have hi_math := hts (.initialized "java/lang/Math") (by decide +kernel)
  have hcd_max := hts (.code Lib.Math.max.name Lib.Math.max.code 2 (some .int)) (by decide +kernel)
  unfold p_X0_greatestOrder at hf
  refine lv_iconst (v := 0) hx hb dX0_greatestOrder_0 (by decide) ?_
  refine lv_istore_n (lv' := [(1, .int 0), (0, .ref a.1)]) hx hb dX0_greatestOrder_1 rfl hl (by decide) rfl (fun ls hl => ?_)
  refine lv_iconst (v := 0) hx hb dX0_greatestOrder_2 (by decide) ?_
  refine lv_istore_n (lv' := [(2, .int 0), (1, .int 0), (0, .ref a.1)]) hx hb dX0_greatestOrder_3 rfl hl (by decide) rfl (fun ls hl => ?_)
  have L4 : ∀ (n : Nat) (x1q4 : Int32) (x2q4 : Int32) (ls : Array Slot), p_X0_greatestOrder_L4 k F n x1q4 x2q4 = some r → lv_has ls 3 [(0, .ref a.1), (1, .int x1q4), (2, .int x2q4)] → W p l e { frames := 1, cells := 0, slots := 0, locals := 21 } s m ([.ref a.1] : List Value).toArray below meth c s.heap [] 0 0 Q (F0 m 4 ls []) := by
    intro n
    induction n with
    | zero => intro x1q4 x2q4 ls hf; cases hf
    | succ n ih4 =>
      intro x1q4 x2q4 ls hf hl
      rw [p_X0_greatestOrder_L4] at hf
      refine lv_iload_n hx hb dX0_greatestOrder_4 rfl (lv_at hl 2 rfl) ?_
      refine lv_aload_n hx hb dX0_greatestOrder_5 rfl (lv_at hl 0 rfl) ?_
      refine va_get (v := .int (FD.rows F)) (C := RX0) (T := TX0) (N := 10) hx hb hts hiX0 hown hK hP 0 rfl rfl 3 (by decide) hk30 (fun _ h9 => h9) rfl dX0_greatestOrder_6 ?_
      refine lv_icmp_ge (tgt := 35) hx hb dX0_greatestOrder_9 (by decide) (fun c1 => ?_) (fun c1 => ?_)
      · replace hf := ifT hf c1
        refine lv_iload_n hx hb dX0_greatestOrder_35 rfl (lv_at hl 1 rfl) ?_
        obtain rfl := Option.some.inj hf
        exact hret trivial _ _ dX0_greatestOrder_36 (fun ty h => by cases h; rfl)
      · replace hf := ifF hf c1
        refine lv_iload_n hx hb dX0_greatestOrder_12 rfl (lv_at hl 1 rfl) ?_
        refine lv_aload_n hx hb dX0_greatestOrder_13 rfl (lv_at hl 0 rfl) ?_
        refine va_get (v := .ref a.2.1) (C := RX0) (T := TX0) (N := 10) hx hb hts hiX0 hown hK hP 0 rfl rfl 0 (by decide) hk9 (fun _ h9 => h9) rfl dX0_greatestOrder_14 ?_
        refine lv_iload_n hx hb dX0_greatestOrder_17 rfl (lv_at hl 2 rfl) ?_
        obtain ⟨v2, hv2, hf⟩ := bnd hf
        refine xa_iald hx hb hK hP hv2 1 0 rfl rfl dX0_greatestOrder_18 ?_
        obtain ⟨v3, hv3, hf⟩ := bnd hf
        refine xcallRS (As := [.int v2]) (rest := [.int x1q4]) (wc := []) ⟨hx, hb, hml, hown, hts⟩ (c_X3_path k v2 v3 hv3) (va_cwS 1 hts gX0_greatestOrder_X3_path rfl rfl rfl (by decide +kernel) ⟨Nat.le_of_ble_eq_true rfl, Nat.le_of_ble_eq_true rfl⟩) hX (va_P0 _ _ _) rfl hl.1 rfl (Nat.le_of_ble_eq_true rfl) dX0_greatestOrder_19 ⟨Nat.zero_le _, Nat.zero_le _⟩ (fun zv3 => ?_)
        obtain ⟨v4, hv4, hf⟩ := bnd hf
        refine xcallRS (As := [.int v3]) (rest := [.int x1q4]) (wc := []) ⟨hx, hb, hml, hown, hts⟩ (c_X3_order k v3 v4 hv4) (va_cwS 1 hts gX0_greatestOrder_X3_order rfl rfl rfl (by decide +kernel) ⟨Nat.le_of_ble_eq_true rfl, Nat.le_of_ble_eq_true rfl⟩) hX (va_P0 _ _ _) rfl hl.1 rfl (Nat.le_of_ble_eq_true rfl) dX0_greatestOrder_22 ⟨Nat.zero_le _, Nat.zero_le _⟩ (fun zv4 => ?_)
        refine xmmax hx hb hml hl.1 hown hm96 hs_max hi_math hcd_max (Nat.le_of_ble_eq_true rfl) (Nat.le_of_ble_eq_true rfl) (Nat.zero_le _) (Nat.zero_le _) dX0_greatestOrder_25 ?_
        refine lv_istore_n (lv' := [(1, .int (imax x1q4 v4)), (0, .ref a.1), (2, .int x2q4)]) hx hb dX0_greatestOrder_28 rfl hl (by decide) rfl (fun ls hl => ?_)
        refine lv_iinc (v := (x2q4 + 1)) (lv' := [(2, .int (x2q4 + 1)), (1, .int (imax x1q4 v4)), (0, .ref a.1)]) hx hb dX0_greatestOrder_29 hl (k := 2) rfl rfl (by decide) rfl (fun ls hl => ?_)
        refine lv_goto (tgt := 4) hx hb dX0_greatestOrder_32 (by decide) ?_
        exact ih4 _ _  _ hf (lv_sub hl [2, 1, 0] rfl)
  exact L4 k _ _ _ hf (lv_sub hl [2, 1, 0] rfl)

/-! ===== X0_runEdges ===== -/
def p_X0_runEdges_L25 (k : Nat) : Nat → (FD) → (Int32) → (Int32) → (Int32) → Option (FD)
  | 0, _, _, _, _ => none
  | n + 1, F, x1, x2, x3 =>
    if (FD.rows F) ≤ x3 then (some F) else (if (FD.rows F) ≤ (x3 + 1) then (if x1 = 0 then (p_X0_runEdges_L25 k n F x2 0 (x3 + 1)) else (if x2 = 0 then ((ald (FD.st F) 7 2).bind fun v5 => (p_X0_giveDown k F x3 v5).bind fun F6 => p_X0_runEdges_L25 k n F6 x2 0 (x3 + 1)) else (p_X0_runEdges_L25 k n F x2 0 (x3 + 1)))) else ((p_X0_isBlack k F (x3 + 1)).bind fun v7 => if v7 = 0 then (if x1 = 0 then (p_X0_runEdges_L25 k n F x2 0 (x3 + 1)) else (if x2 = 0 then ((ald (FD.st F) 7 2).bind fun v11 => (p_X0_giveDown k F x3 v11).bind fun F12 => p_X0_runEdges_L25 k n F12 x2 0 (x3 + 1)) else (p_X0_runEdges_L25 k n F x2 0 (x3 + 1)))) else (if x1 = 0 then (p_X0_runEdges_L25 k n F x2 1 (x3 + 1)) else (if x2 = 0 then ((ald (FD.st F) 7 2).bind fun v15 => (p_X0_giveDown k F x3 v15).bind fun F16 => p_X0_runEdges_L25 k n F16 x2 1 (x3 + 1)) else (p_X0_runEdges_L25 k n F x2 1 (x3 + 1))))))

def p_X0_runEdges (k : Nat) (F : FD) : Option (FD) :=
  if (FD.rows F) ≤ 0 then (p_X0_runEdges_L25 k k F 0 0 0) else ((p_X0_isBlack k F 0).bind fun v18 => if v18 = 0 then (p_X0_runEdges_L25 k k F 0 0 0) else (p_X0_runEdges_L25 k k F 0 1 0))

set_option maxHeartbeats 4000000 in
set_option maxRecDepth 100000 in
theorem c_X0_runEdges {l : Launch} {D : va_G} {ks : K3} (k : Nat) (a : AF) (F : FD) (rF : FD) (hf : p_X0_runEdges k F = some rF) : MetV l yX0_runEdges wsX0_runEdges { frames := 3, cells := 0, slots := 0, locals := 71 } D ks [.ref a.1] (wF ks a F) (wF ks a rF) := by
  refine MetV.of (cc := cX0_runEdges) (maxL := 5) (by decide +kernel) rfl (Nat.le_of_ble_eq_true rfl) ?_
  intro p e s m below meth c Q A hx hb hml hts hown hP hX hD hA hret ls hl
  have hK := hX.1
  replace hl : lv_has ls 5 [(0, .ref a.1)] := hl
  have hS : va_S A s.heap s.heap [] := va_S.rf
  have hiX0 : ∀ w ∈ wsX00, w ∈ wsX0_runEdges := by decide +kernel
  have hk30 := hts (.fieldLink RX0 30 "SoapFilm$Film" "rows" "I") (by decide +kernel)
  have hk15 := hts (.fieldLink RX0 15 "SoapFilm$Film" "settings" "[I") (by decide +kernel)
  unfold p_X0_runEdges at hf
  refine lv_iconst (v := 0) hx hb dX0_runEdges_0 (by decide) ?_
  refine lv_istore_n (lv' := [(1, .int 0), (0, .ref a.1)]) hx hb dX0_runEdges_1 rfl hl (by decide) rfl (fun ls hl => ?_)
  refine lv_aload_n hx hb dX0_runEdges_2 rfl (lv_at hl 1 rfl) ?_
  refine va_get (v := .int (FD.rows F)) (C := RX0) (T := TX0) (N := 10) hx hb hts hiX0 hown hK hP 0 rfl rfl 3 (by decide) hk30 (fun _ h9 => h9) rfl dX0_runEdges_3 ?_
  refine lv_if_le (tgt := 21) hx hb dX0_runEdges_6 (by decide) (fun c1 => ?_) (fun c1 => ?_)
  · replace hf := ifT hf c1
    refine lv_iconst (v := 0) hx hb dX0_runEdges_21 (by decide) ?_
    refine lv_istore_n (lv' := [(2, .int 0), (1, .int 0), (0, .ref a.1)]) hx hb dX0_runEdges_22 rfl hl (by decide) rfl (fun ls hl => ?_)
    refine lv_iconst (v := 0) hx hb dX0_runEdges_23 (by decide) ?_
    refine lv_istore_n (lv' := [(3, .int 0), (2, .int 0), (1, .int 0), (0, .ref a.1)]) hx hb dX0_runEdges_24 rfl hl (by decide) rfl (fun ls hl => ?_)
    have L25 : ∀ (n : Nat) (Fq25 : FD) (x1q25 : Int32) (x2q25 : Int32) (x3q25 : Int32) (H : Heap) (locs : List Loc) (ls : Array Slot), p_X0_runEdges_L25 k n Fq25 x1q25 x2q25 x3q25 = some rF → va_P D vwCl (wF ks a Fq25) H → va_D A (wF ks a Fq25) → va_S A s.heap H locs → lv_has ls 5 [(0, .ref a.1), (1, .int x1q25), (2, .int x2q25), (3, .int x3q25)] → W p l e { frames := 3, cells := 0, slots := 0, locals := 71 } s m ([.ref a.1] : List Value).toArray below meth c H locs 0 0 Q (F0 m 25 ls []) := by
      intro n
      induction n with
      | zero => intro Fq25 x1q25 x2q25 x3q25 H locs ls hf; cases hf
      | succ n ih25 =>
        intro Fq25 x1q25 x2q25 x3q25 H locs ls hf hP hD hS hl
        rw [p_X0_runEdges_L25] at hf
        refine lv_iload_n hx hb dX0_runEdges_25 rfl (lv_at hl 3 rfl) ?_
        refine lv_aload_n hx hb dX0_runEdges_26 rfl (lv_at hl 0 rfl) ?_
        refine va_get (v := .int (FD.rows Fq25)) (C := RX0) (T := TX0) (N := 10) hx hb hts hiX0 hown hK hP 0 rfl rfl 3 (by decide) hk30 (fun _ h9 => h9) rfl dX0_runEdges_27 ?_
        refine lv_icmp_ge (tgt := 90) hx hb dX0_runEdges_30 (by decide) (fun c2 => ?_) (fun c2 => ?_)
        · replace hf := ifT hf c2
          obtain rfl := Option.some.inj hf
          exact hret _ _ _ _ dX0_runEdges_90 hP hD hS
        · replace hf := ifF hf c2
          refine lv_iload_n hx hb dX0_runEdges_33 rfl (lv_at hl 3 rfl) ?_
          refine lv_iconst (v := 1) hx hb dX0_runEdges_34 (by decide) ?_
          refine lv_iadd hx hb dX0_runEdges_35 ?_
          refine lv_aload_n hx hb dX0_runEdges_36 rfl (lv_at hl 0 rfl) ?_
          refine va_get (v := .int (FD.rows Fq25)) (C := RX0) (T := TX0) (N := 10) hx hb hts hiX0 hown hK hP 0 rfl rfl 3 (by decide) hk30 (fun _ h9 => h9) rfl dX0_runEdges_37 ?_
          refine lv_icmp_ge (tgt := 57) hx hb dX0_runEdges_40 (by decide) (fun c3 => ?_) (fun c3 => ?_)
          · replace hf := ifT hf c3
            refine lv_iconst (v := 0) hx hb dX0_runEdges_57 (by decide) ?_
            refine lv_istore (lv' := [(4, .int 0), (0, .ref a.1), (1, .int x1q25), (2, .int x2q25), (3, .int x3q25)]) hx hb dX0_runEdges_58 hl (by decide) rfl (fun ls hl => ?_)
            refine lv_iload_n hx hb dX0_runEdges_60 rfl (lv_at hl 2 rfl) ?_
            refine lv_if_eq (tgt := 79) hx hb dX0_runEdges_61 (by decide) (fun c4 => ?_) (fun c4 => ?_)
            · replace hf := ifT hf c4
              refine lv_iload_n hx hb dX0_runEdges_79 rfl (lv_at hl 3 rfl) ?_
              refine lv_istore_n (lv' := [(1, .int x2q25), (4, .int 0), (0, .ref a.1), (2, .int x2q25), (3, .int x3q25)]) hx hb dX0_runEdges_80 rfl hl (by decide) rfl (fun ls hl => ?_)
              refine lv_iload hx hb dX0_runEdges_81 (lv_at hl 1 rfl) ?_
              refine lv_istore_n (lv' := [(2, .int 0), (1, .int x2q25), (4, .int 0), (0, .ref a.1), (3, .int x3q25)]) hx hb dX0_runEdges_83 rfl hl (by decide) rfl (fun ls hl => ?_)
              refine lv_iinc (v := (x3q25 + 1)) (lv' := [(3, .int (x3q25 + 1)), (2, .int 0), (1, .int x2q25), (4, .int 0), (0, .ref a.1)]) hx hb dX0_runEdges_84 hl (k := 4) rfl rfl (by decide) rfl (fun ls hl => ?_)
              refine lv_goto (tgt := 25) hx hb dX0_runEdges_87 (by decide) ?_
              exact ih25 _ _ _ _  _ _ _ hf hP hD hS (lv_sub hl [4, 2, 1, 0] rfl)
            · replace hf := ifF hf c4
              refine lv_iload_n hx hb dX0_runEdges_64 rfl (lv_at hl 3 rfl) ?_
              refine lv_if_ne (tgt := 79) hx hb dX0_runEdges_65 (by decide) (fun c5 => ?_) (fun c5 => ?_)
              · replace hf := ifF hf c5
                refine lv_iload_n hx hb dX0_runEdges_79 rfl (lv_at hl 3 rfl) ?_
                refine lv_istore_n (lv' := [(1, .int x2q25), (4, .int 0), (0, .ref a.1), (2, .int x2q25), (3, .int x3q25)]) hx hb dX0_runEdges_80 rfl hl (by decide) rfl (fun ls hl => ?_)
                refine lv_iload hx hb dX0_runEdges_81 (lv_at hl 1 rfl) ?_
                refine lv_istore_n (lv' := [(2, .int 0), (1, .int x2q25), (4, .int 0), (0, .ref a.1), (3, .int x3q25)]) hx hb dX0_runEdges_83 rfl hl (by decide) rfl (fun ls hl => ?_)
                refine lv_iinc (v := (x3q25 + 1)) (lv' := [(3, .int (x3q25 + 1)), (2, .int 0), (1, .int x2q25), (4, .int 0), (0, .ref a.1)]) hx hb dX0_runEdges_84 hl (k := 4) rfl rfl (by decide) rfl (fun ls hl => ?_)
                refine lv_goto (tgt := 25) hx hb dX0_runEdges_87 (by decide) ?_
                exact ih25 _ _ _ _  _ _ _ hf hP hD hS (lv_sub hl [4, 2, 1, 0] rfl)
              · replace hf := ifT hf c5
                refine lv_aload_n hx hb dX0_runEdges_68 rfl (lv_at hl 1 rfl) ?_
                refine lv_iload_n hx hb dX0_runEdges_69 rfl (lv_at hl 4 rfl) ?_
                refine lv_aload_n hx hb dX0_runEdges_70 rfl (lv_at hl 1 rfl) ?_
                refine va_get (v := .ref a.2.2.1) (C := RX0) (T := TX0) (N := 10) hx hb hts hiX0 hown hK hP 0 rfl rfl 1 (by decide) hk15 (fun _ h9 => h9) rfl dX0_runEdges_71 ?_
                refine lv_iconst (v := 2) hx hb dX0_runEdges_74 (by decide) ?_
                obtain ⟨v6, hv6, hf⟩ := bnd hf
                refine xa_iald hx hb hK hP hv6 2 0 rfl rfl dX0_runEdges_75 ?_
                obtain ⟨F7, hF7, hf⟩ := bnd hf
                refine xcallV (As := [.int x3q25, .int v6]) (rest := []) (wc := (wF ks a Fq25)) (w1 := (wF ks a F7)) (wr := ([] : va_W)) (wn := (wF ks a F7)) ⟨hx, hb, hml, hown, hts⟩ (c_X0_giveDown k a Fq25 x3q25 v6 F7 hF7) (cwV 2 hts gX0_runEdges_X0_giveDown rfl rfl rfl (by decide +kernel) ⟨Nat.le_of_ble_eq_true rfl, Nat.le_of_ble_eq_true rfl⟩) hX hP hD hS hA [0, 1, 2, 3] [] [0, 1, 2, 3] rfl rfl rfl ⟨by decide, by decide, by decide⟩ (by decide) (ci := 0) (q0 := 0) rfl rfl rfl hl.1 rfl (Nat.le_of_ble_eq_true rfl) dX0_runEdges_76 ⟨Nat.zero_le _, Nat.zero_le _⟩ (fun H locs hP hD hS => ?_)
                refine lv_iload_n hx hb dX0_runEdges_79 rfl (lv_at hl 3 rfl) ?_
                refine lv_istore_n (lv' := [(1, .int x2q25), (4, .int 0), (0, .ref a.1), (2, .int x2q25), (3, .int x3q25)]) hx hb dX0_runEdges_80 rfl hl (by decide) rfl (fun ls hl => ?_)
                refine lv_iload hx hb dX0_runEdges_81 (lv_at hl 1 rfl) ?_
                refine lv_istore_n (lv' := [(2, .int 0), (1, .int x2q25), (4, .int 0), (0, .ref a.1), (3, .int x3q25)]) hx hb dX0_runEdges_83 rfl hl (by decide) rfl (fun ls hl => ?_)
                refine lv_iinc (v := (x3q25 + 1)) (lv' := [(3, .int (x3q25 + 1)), (2, .int 0), (1, .int x2q25), (4, .int 0), (0, .ref a.1)]) hx hb dX0_runEdges_84 hl (k := 4) rfl rfl (by decide) rfl (fun ls hl => ?_)
                refine lv_goto (tgt := 25) hx hb dX0_runEdges_87 (by decide) ?_
                exact ih25 _ _ _ _  _ _ _ hf hP hD hS (lv_sub hl [4, 2, 1, 0] rfl)
          · replace hf := ifF hf c3
            refine lv_aload_n hx hb dX0_runEdges_43 rfl (lv_at hl 0 rfl) ?_
            refine lv_iload_n hx hb dX0_runEdges_44 rfl (lv_at hl 3 rfl) ?_
            refine lv_iconst (v := 1) hx hb dX0_runEdges_45 (by decide) ?_
            refine lv_iadd hx hb dX0_runEdges_46 ?_
            obtain ⟨v8, hv8, hf⟩ := bnd hf
            refine xcallRV (As := [.int (x3q25 + 1)]) (rest := []) (wc := (wF ks a Fq25)) ⟨hx, hb, hml, hown, hts⟩ (c_X0_isBlack k a Fq25 (x3q25 + 1) v8 hv8) (cwV 1 hts gX0_runEdges_X0_isBlack rfl rfl rfl (by decide +kernel) ⟨Nat.le_of_ble_eq_true rfl, Nat.le_of_ble_eq_true rfl⟩) hX hP (ci := 0) (q0 := 0) rfl rfl rfl hl.1 rfl (Nat.le_of_ble_eq_true rfl) dX0_runEdges_47 ⟨Nat.zero_le _, Nat.zero_le _⟩ (fun zv8 => ?_)
            refine lv_if_eq (tgt := 57) hx hb dX0_runEdges_50 (by decide) (fun c9 => ?_) (fun c9 => ?_)
            · replace hf := ifT hf c9
              refine lv_iconst (v := 0) hx hb dX0_runEdges_57 (by decide) ?_
              refine lv_istore (lv' := [(4, .int 0), (0, .ref a.1), (1, .int x1q25), (2, .int x2q25), (3, .int x3q25)]) hx hb dX0_runEdges_58 hl (by decide) rfl (fun ls hl => ?_)
              refine lv_iload_n hx hb dX0_runEdges_60 rfl (lv_at hl 2 rfl) ?_
              refine lv_if_eq (tgt := 79) hx hb dX0_runEdges_61 (by decide) (fun c10 => ?_) (fun c10 => ?_)
              · replace hf := ifT hf c10
                refine lv_iload_n hx hb dX0_runEdges_79 rfl (lv_at hl 3 rfl) ?_
                refine lv_istore_n (lv' := [(1, .int x2q25), (4, .int 0), (0, .ref a.1), (2, .int x2q25), (3, .int x3q25)]) hx hb dX0_runEdges_80 rfl hl (by decide) rfl (fun ls hl => ?_)
                refine lv_iload hx hb dX0_runEdges_81 (lv_at hl 1 rfl) ?_
                refine lv_istore_n (lv' := [(2, .int 0), (1, .int x2q25), (4, .int 0), (0, .ref a.1), (3, .int x3q25)]) hx hb dX0_runEdges_83 rfl hl (by decide) rfl (fun ls hl => ?_)
                refine lv_iinc (v := (x3q25 + 1)) (lv' := [(3, .int (x3q25 + 1)), (2, .int 0), (1, .int x2q25), (4, .int 0), (0, .ref a.1)]) hx hb dX0_runEdges_84 hl (k := 4) rfl rfl (by decide) rfl (fun ls hl => ?_)
                refine lv_goto (tgt := 25) hx hb dX0_runEdges_87 (by decide) ?_
                exact ih25 _ _ _ _  _ _ _ hf hP hD hS (lv_sub hl [4, 2, 1, 0] rfl)
              · replace hf := ifF hf c10
                refine lv_iload_n hx hb dX0_runEdges_64 rfl (lv_at hl 3 rfl) ?_
                refine lv_if_ne (tgt := 79) hx hb dX0_runEdges_65 (by decide) (fun c11 => ?_) (fun c11 => ?_)
                · replace hf := ifF hf c11
                  refine lv_iload_n hx hb dX0_runEdges_79 rfl (lv_at hl 3 rfl) ?_
                  refine lv_istore_n (lv' := [(1, .int x2q25), (4, .int 0), (0, .ref a.1), (2, .int x2q25), (3, .int x3q25)]) hx hb dX0_runEdges_80 rfl hl (by decide) rfl (fun ls hl => ?_)
                  refine lv_iload hx hb dX0_runEdges_81 (lv_at hl 1 rfl) ?_
                  refine lv_istore_n (lv' := [(2, .int 0), (1, .int x2q25), (4, .int 0), (0, .ref a.1), (3, .int x3q25)]) hx hb dX0_runEdges_83 rfl hl (by decide) rfl (fun ls hl => ?_)
                  refine lv_iinc (v := (x3q25 + 1)) (lv' := [(3, .int (x3q25 + 1)), (2, .int 0), (1, .int x2q25), (4, .int 0), (0, .ref a.1)]) hx hb dX0_runEdges_84 hl (k := 4) rfl rfl (by decide) rfl (fun ls hl => ?_)
                  refine lv_goto (tgt := 25) hx hb dX0_runEdges_87 (by decide) ?_
                  exact ih25 _ _ _ _  _ _ _ hf hP hD hS (lv_sub hl [4, 2, 1, 0] rfl)
                · replace hf := ifT hf c11
                  refine lv_aload_n hx hb dX0_runEdges_68 rfl (lv_at hl 1 rfl) ?_
                  refine lv_iload_n hx hb dX0_runEdges_69 rfl (lv_at hl 4 rfl) ?_
                  refine lv_aload_n hx hb dX0_runEdges_70 rfl (lv_at hl 1 rfl) ?_
                  refine va_get (v := .ref a.2.2.1) (C := RX0) (T := TX0) (N := 10) hx hb hts hiX0 hown hK hP 0 rfl rfl 1 (by decide) hk15 (fun _ h9 => h9) rfl dX0_runEdges_71 ?_
                  refine lv_iconst (v := 2) hx hb dX0_runEdges_74 (by decide) ?_
                  obtain ⟨v12, hv12, hf⟩ := bnd hf
                  refine xa_iald hx hb hK hP hv12 2 0 rfl rfl dX0_runEdges_75 ?_
                  obtain ⟨F13, hF13, hf⟩ := bnd hf
                  refine xcallV (As := [.int x3q25, .int v12]) (rest := []) (wc := (wF ks a Fq25)) (w1 := (wF ks a F13)) (wr := ([] : va_W)) (wn := (wF ks a F13)) ⟨hx, hb, hml, hown, hts⟩ (c_X0_giveDown k a Fq25 x3q25 v12 F13 hF13) (cwV 2 hts gX0_runEdges_X0_giveDown rfl rfl rfl (by decide +kernel) ⟨Nat.le_of_ble_eq_true rfl, Nat.le_of_ble_eq_true rfl⟩) hX hP hD hS hA [0, 1, 2, 3] [] [0, 1, 2, 3] rfl rfl rfl ⟨by decide, by decide, by decide⟩ (by decide) (ci := 0) (q0 := 0) rfl rfl rfl hl.1 rfl (Nat.le_of_ble_eq_true rfl) dX0_runEdges_76 ⟨Nat.zero_le _, Nat.zero_le _⟩ (fun H locs hP hD hS => ?_)
                  refine lv_iload_n hx hb dX0_runEdges_79 rfl (lv_at hl 3 rfl) ?_
                  refine lv_istore_n (lv' := [(1, .int x2q25), (4, .int 0), (0, .ref a.1), (2, .int x2q25), (3, .int x3q25)]) hx hb dX0_runEdges_80 rfl hl (by decide) rfl (fun ls hl => ?_)
                  refine lv_iload hx hb dX0_runEdges_81 (lv_at hl 1 rfl) ?_
                  refine lv_istore_n (lv' := [(2, .int 0), (1, .int x2q25), (4, .int 0), (0, .ref a.1), (3, .int x3q25)]) hx hb dX0_runEdges_83 rfl hl (by decide) rfl (fun ls hl => ?_)
                  refine lv_iinc (v := (x3q25 + 1)) (lv' := [(3, .int (x3q25 + 1)), (2, .int 0), (1, .int x2q25), (4, .int 0), (0, .ref a.1)]) hx hb dX0_runEdges_84 hl (k := 4) rfl rfl (by decide) rfl (fun ls hl => ?_)
                  refine lv_goto (tgt := 25) hx hb dX0_runEdges_87 (by decide) ?_
                  exact ih25 _ _ _ _  _ _ _ hf hP hD hS (lv_sub hl [4, 2, 1, 0] rfl)
            · replace hf := ifF hf c9
              refine lv_iconst (v := 1) hx hb dX0_runEdges_53 (by decide) ?_
              refine lv_goto (tgt := 58) hx hb dX0_runEdges_54 (by decide) ?_
              refine lv_istore (lv' := [(4, .int 1), (0, .ref a.1), (1, .int x1q25), (2, .int x2q25), (3, .int x3q25)]) hx hb dX0_runEdges_58 hl (by decide) rfl (fun ls hl => ?_)
              refine lv_iload_n hx hb dX0_runEdges_60 rfl (lv_at hl 2 rfl) ?_
              refine lv_if_eq (tgt := 79) hx hb dX0_runEdges_61 (by decide) (fun c14 => ?_) (fun c14 => ?_)
              · replace hf := ifT hf c14
                refine lv_iload_n hx hb dX0_runEdges_79 rfl (lv_at hl 3 rfl) ?_
                refine lv_istore_n (lv' := [(1, .int x2q25), (4, .int 1), (0, .ref a.1), (2, .int x2q25), (3, .int x3q25)]) hx hb dX0_runEdges_80 rfl hl (by decide) rfl (fun ls hl => ?_)
                refine lv_iload hx hb dX0_runEdges_81 (lv_at hl 1 rfl) ?_
                refine lv_istore_n (lv' := [(2, .int 1), (1, .int x2q25), (4, .int 1), (0, .ref a.1), (3, .int x3q25)]) hx hb dX0_runEdges_83 rfl hl (by decide) rfl (fun ls hl => ?_)
                refine lv_iinc (v := (x3q25 + 1)) (lv' := [(3, .int (x3q25 + 1)), (2, .int 1), (1, .int x2q25), (4, .int 1), (0, .ref a.1)]) hx hb dX0_runEdges_84 hl (k := 4) rfl rfl (by decide) rfl (fun ls hl => ?_)
                refine lv_goto (tgt := 25) hx hb dX0_runEdges_87 (by decide) ?_
                exact ih25 _ _ _ _  _ _ _ hf hP hD hS (lv_sub hl [4, 2, 1, 0] rfl)
              · replace hf := ifF hf c14
                refine lv_iload_n hx hb dX0_runEdges_64 rfl (lv_at hl 3 rfl) ?_
                refine lv_if_ne (tgt := 79) hx hb dX0_runEdges_65 (by decide) (fun c15 => ?_) (fun c15 => ?_)
                · replace hf := ifF hf c15
                  refine lv_iload_n hx hb dX0_runEdges_79 rfl (lv_at hl 3 rfl) ?_
                  refine lv_istore_n (lv' := [(1, .int x2q25), (4, .int 1), (0, .ref a.1), (2, .int x2q25), (3, .int x3q25)]) hx hb dX0_runEdges_80 rfl hl (by decide) rfl (fun ls hl => ?_)
                  refine lv_iload hx hb dX0_runEdges_81 (lv_at hl 1 rfl) ?_
                  refine lv_istore_n (lv' := [(2, .int 1), (1, .int x2q25), (4, .int 1), (0, .ref a.1), (3, .int x3q25)]) hx hb dX0_runEdges_83 rfl hl (by decide) rfl (fun ls hl => ?_)
                  refine lv_iinc (v := (x3q25 + 1)) (lv' := [(3, .int (x3q25 + 1)), (2, .int 1), (1, .int x2q25), (4, .int 1), (0, .ref a.1)]) hx hb dX0_runEdges_84 hl (k := 4) rfl rfl (by decide) rfl (fun ls hl => ?_)
                  refine lv_goto (tgt := 25) hx hb dX0_runEdges_87 (by decide) ?_
                  exact ih25 _ _ _ _  _ _ _ hf hP hD hS (lv_sub hl [4, 2, 1, 0] rfl)
                · replace hf := ifT hf c15
                  refine lv_aload_n hx hb dX0_runEdges_68 rfl (lv_at hl 1 rfl) ?_
                  refine lv_iload_n hx hb dX0_runEdges_69 rfl (lv_at hl 4 rfl) ?_
                  refine lv_aload_n hx hb dX0_runEdges_70 rfl (lv_at hl 1 rfl) ?_
                  refine va_get (v := .ref a.2.2.1) (C := RX0) (T := TX0) (N := 10) hx hb hts hiX0 hown hK hP 0 rfl rfl 1 (by decide) hk15 (fun _ h9 => h9) rfl dX0_runEdges_71 ?_
                  refine lv_iconst (v := 2) hx hb dX0_runEdges_74 (by decide) ?_
                  obtain ⟨v16, hv16, hf⟩ := bnd hf
                  refine xa_iald hx hb hK hP hv16 2 0 rfl rfl dX0_runEdges_75 ?_
                  obtain ⟨F17, hF17, hf⟩ := bnd hf
                  refine xcallV (As := [.int x3q25, .int v16]) (rest := []) (wc := (wF ks a Fq25)) (w1 := (wF ks a F17)) (wr := ([] : va_W)) (wn := (wF ks a F17)) ⟨hx, hb, hml, hown, hts⟩ (c_X0_giveDown k a Fq25 x3q25 v16 F17 hF17) (cwV 2 hts gX0_runEdges_X0_giveDown rfl rfl rfl (by decide +kernel) ⟨Nat.le_of_ble_eq_true rfl, Nat.le_of_ble_eq_true rfl⟩) hX hP hD hS hA [0, 1, 2, 3] [] [0, 1, 2, 3] rfl rfl rfl ⟨by decide, by decide, by decide⟩ (by decide) (ci := 0) (q0 := 0) rfl rfl rfl hl.1 rfl (Nat.le_of_ble_eq_true rfl) dX0_runEdges_76 ⟨Nat.zero_le _, Nat.zero_le _⟩ (fun H locs hP hD hS => ?_)
                  refine lv_iload_n hx hb dX0_runEdges_79 rfl (lv_at hl 3 rfl) ?_
                  refine lv_istore_n (lv' := [(1, .int x2q25), (4, .int 1), (0, .ref a.1), (2, .int x2q25), (3, .int x3q25)]) hx hb dX0_runEdges_80 rfl hl (by decide) rfl (fun ls hl => ?_)
                  refine lv_iload hx hb dX0_runEdges_81 (lv_at hl 1 rfl) ?_
                  refine lv_istore_n (lv' := [(2, .int 1), (1, .int x2q25), (4, .int 1), (0, .ref a.1), (3, .int x3q25)]) hx hb dX0_runEdges_83 rfl hl (by decide) rfl (fun ls hl => ?_)
                  refine lv_iinc (v := (x3q25 + 1)) (lv' := [(3, .int (x3q25 + 1)), (2, .int 1), (1, .int x2q25), (4, .int 1), (0, .ref a.1)]) hx hb dX0_runEdges_84 hl (k := 4) rfl rfl (by decide) rfl (fun ls hl => ?_)
                  refine lv_goto (tgt := 25) hx hb dX0_runEdges_87 (by decide) ?_
                  exact ih25 _ _ _ _  _ _ _ hf hP hD hS (lv_sub hl [4, 2, 1, 0] rfl)
    exact L25 k _ _ _ _ _ _ _ hf hP hD hS (lv_sub hl [3, 2, 1, 0] rfl)
  · replace hf := ifF hf c1
    refine lv_aload_n hx hb dX0_runEdges_9 rfl (lv_at hl 1 rfl) ?_
    refine lv_iconst (v := 0) hx hb dX0_runEdges_10 (by decide) ?_
    obtain ⟨v18, hv18, hf⟩ := bnd hf
    refine xcallRV (As := [.int 0]) (rest := []) (wc := (wF ks a F)) ⟨hx, hb, hml, hown, hts⟩ (c_X0_isBlack k a F 0 v18 hv18) (cwV 1 hts gX0_runEdges_X0_isBlack rfl rfl rfl (by decide +kernel) ⟨Nat.le_of_ble_eq_true rfl, Nat.le_of_ble_eq_true rfl⟩) hX hP (ci := 0) (q0 := 0) rfl rfl rfl hl.1 rfl (Nat.le_of_ble_eq_true rfl) dX0_runEdges_11 ⟨Nat.zero_le _, Nat.zero_le _⟩ (fun zv18 => ?_)
    refine lv_if_eq (tgt := 21) hx hb dX0_runEdges_14 (by decide) (fun c19 => ?_) (fun c19 => ?_)
    · replace hf := ifT hf c19
      refine lv_iconst (v := 0) hx hb dX0_runEdges_21 (by decide) ?_
      refine lv_istore_n (lv' := [(2, .int 0), (1, .int 0), (0, .ref a.1)]) hx hb dX0_runEdges_22 rfl hl (by decide) rfl (fun ls hl => ?_)
      refine lv_iconst (v := 0) hx hb dX0_runEdges_23 (by decide) ?_
      refine lv_istore_n (lv' := [(3, .int 0), (2, .int 0), (1, .int 0), (0, .ref a.1)]) hx hb dX0_runEdges_24 rfl hl (by decide) rfl (fun ls hl => ?_)
      have L25 : ∀ (n : Nat) (Fq25 : FD) (x1q25 : Int32) (x2q25 : Int32) (x3q25 : Int32) (H : Heap) (locs : List Loc) (ls : Array Slot), p_X0_runEdges_L25 k n Fq25 x1q25 x2q25 x3q25 = some rF → va_P D vwCl (wF ks a Fq25) H → va_D A (wF ks a Fq25) → va_S A s.heap H locs → lv_has ls 5 [(0, .ref a.1), (1, .int x1q25), (2, .int x2q25), (3, .int x3q25)] → W p l e { frames := 3, cells := 0, slots := 0, locals := 71 } s m ([.ref a.1] : List Value).toArray below meth c H locs 0 0 Q (F0 m 25 ls []) := by
        intro n
        induction n with
        | zero => intro Fq25 x1q25 x2q25 x3q25 H locs ls hf; cases hf
        | succ n ih25 =>
          intro Fq25 x1q25 x2q25 x3q25 H locs ls hf hP hD hS hl
          rw [p_X0_runEdges_L25] at hf
          refine lv_iload_n hx hb dX0_runEdges_25 rfl (lv_at hl 3 rfl) ?_
          refine lv_aload_n hx hb dX0_runEdges_26 rfl (lv_at hl 0 rfl) ?_
          refine va_get (v := .int (FD.rows Fq25)) (C := RX0) (T := TX0) (N := 10) hx hb hts hiX0 hown hK hP 0 rfl rfl 3 (by decide) hk30 (fun _ h9 => h9) rfl dX0_runEdges_27 ?_
          refine lv_icmp_ge (tgt := 90) hx hb dX0_runEdges_30 (by decide) (fun c20 => ?_) (fun c20 => ?_)
          · replace hf := ifT hf c20
            obtain rfl := Option.some.inj hf
            exact hret _ _ _ _ dX0_runEdges_90 hP hD hS
          · replace hf := ifF hf c20
            refine lv_iload_n hx hb dX0_runEdges_33 rfl (lv_at hl 3 rfl) ?_
            refine lv_iconst (v := 1) hx hb dX0_runEdges_34 (by decide) ?_
            refine lv_iadd hx hb dX0_runEdges_35 ?_
            refine lv_aload_n hx hb dX0_runEdges_36 rfl (lv_at hl 0 rfl) ?_
            refine va_get (v := .int (FD.rows Fq25)) (C := RX0) (T := TX0) (N := 10) hx hb hts hiX0 hown hK hP 0 rfl rfl 3 (by decide) hk30 (fun _ h9 => h9) rfl dX0_runEdges_37 ?_
            refine lv_icmp_ge (tgt := 57) hx hb dX0_runEdges_40 (by decide) (fun c21 => ?_) (fun c21 => ?_)
            · replace hf := ifT hf c21
              refine lv_iconst (v := 0) hx hb dX0_runEdges_57 (by decide) ?_
              refine lv_istore (lv' := [(4, .int 0), (0, .ref a.1), (1, .int x1q25), (2, .int x2q25), (3, .int x3q25)]) hx hb dX0_runEdges_58 hl (by decide) rfl (fun ls hl => ?_)
              refine lv_iload_n hx hb dX0_runEdges_60 rfl (lv_at hl 2 rfl) ?_
              refine lv_if_eq (tgt := 79) hx hb dX0_runEdges_61 (by decide) (fun c22 => ?_) (fun c22 => ?_)
              · replace hf := ifT hf c22
                refine lv_iload_n hx hb dX0_runEdges_79 rfl (lv_at hl 3 rfl) ?_
                refine lv_istore_n (lv' := [(1, .int x2q25), (4, .int 0), (0, .ref a.1), (2, .int x2q25), (3, .int x3q25)]) hx hb dX0_runEdges_80 rfl hl (by decide) rfl (fun ls hl => ?_)
                refine lv_iload hx hb dX0_runEdges_81 (lv_at hl 1 rfl) ?_
                refine lv_istore_n (lv' := [(2, .int 0), (1, .int x2q25), (4, .int 0), (0, .ref a.1), (3, .int x3q25)]) hx hb dX0_runEdges_83 rfl hl (by decide) rfl (fun ls hl => ?_)
                refine lv_iinc (v := (x3q25 + 1)) (lv' := [(3, .int (x3q25 + 1)), (2, .int 0), (1, .int x2q25), (4, .int 0), (0, .ref a.1)]) hx hb dX0_runEdges_84 hl (k := 4) rfl rfl (by decide) rfl (fun ls hl => ?_)
                refine lv_goto (tgt := 25) hx hb dX0_runEdges_87 (by decide) ?_
                exact ih25 _ _ _ _  _ _ _ hf hP hD hS (lv_sub hl [4, 2, 1, 0] rfl)
              · replace hf := ifF hf c22
                refine lv_iload_n hx hb dX0_runEdges_64 rfl (lv_at hl 3 rfl) ?_
                refine lv_if_ne (tgt := 79) hx hb dX0_runEdges_65 (by decide) (fun c23 => ?_) (fun c23 => ?_)
                · replace hf := ifF hf c23
                  refine lv_iload_n hx hb dX0_runEdges_79 rfl (lv_at hl 3 rfl) ?_
                  refine lv_istore_n (lv' := [(1, .int x2q25), (4, .int 0), (0, .ref a.1), (2, .int x2q25), (3, .int x3q25)]) hx hb dX0_runEdges_80 rfl hl (by decide) rfl (fun ls hl => ?_)
                  refine lv_iload hx hb dX0_runEdges_81 (lv_at hl 1 rfl) ?_
                  refine lv_istore_n (lv' := [(2, .int 0), (1, .int x2q25), (4, .int 0), (0, .ref a.1), (3, .int x3q25)]) hx hb dX0_runEdges_83 rfl hl (by decide) rfl (fun ls hl => ?_)
                  refine lv_iinc (v := (x3q25 + 1)) (lv' := [(3, .int (x3q25 + 1)), (2, .int 0), (1, .int x2q25), (4, .int 0), (0, .ref a.1)]) hx hb dX0_runEdges_84 hl (k := 4) rfl rfl (by decide) rfl (fun ls hl => ?_)
                  refine lv_goto (tgt := 25) hx hb dX0_runEdges_87 (by decide) ?_
                  exact ih25 _ _ _ _  _ _ _ hf hP hD hS (lv_sub hl [4, 2, 1, 0] rfl)
                · replace hf := ifT hf c23
                  refine lv_aload_n hx hb dX0_runEdges_68 rfl (lv_at hl 1 rfl) ?_
                  refine lv_iload_n hx hb dX0_runEdges_69 rfl (lv_at hl 4 rfl) ?_
                  refine lv_aload_n hx hb dX0_runEdges_70 rfl (lv_at hl 1 rfl) ?_
                  refine va_get (v := .ref a.2.2.1) (C := RX0) (T := TX0) (N := 10) hx hb hts hiX0 hown hK hP 0 rfl rfl 1 (by decide) hk15 (fun _ h9 => h9) rfl dX0_runEdges_71 ?_
                  refine lv_iconst (v := 2) hx hb dX0_runEdges_74 (by decide) ?_
                  obtain ⟨v24, hv24, hf⟩ := bnd hf
                  refine xa_iald hx hb hK hP hv24 2 0 rfl rfl dX0_runEdges_75 ?_
                  obtain ⟨F25, hF25, hf⟩ := bnd hf
                  refine xcallV (As := [.int x3q25, .int v24]) (rest := []) (wc := (wF ks a Fq25)) (w1 := (wF ks a F25)) (wr := ([] : va_W)) (wn := (wF ks a F25)) ⟨hx, hb, hml, hown, hts⟩ (c_X0_giveDown k a Fq25 x3q25 v24 F25 hF25) (cwV 2 hts gX0_runEdges_X0_giveDown rfl rfl rfl (by decide +kernel) ⟨Nat.le_of_ble_eq_true rfl, Nat.le_of_ble_eq_true rfl⟩) hX hP hD hS hA [0, 1, 2, 3] [] [0, 1, 2, 3] rfl rfl rfl ⟨by decide, by decide, by decide⟩ (by decide) (ci := 0) (q0 := 0) rfl rfl rfl hl.1 rfl (Nat.le_of_ble_eq_true rfl) dX0_runEdges_76 ⟨Nat.zero_le _, Nat.zero_le _⟩ (fun H locs hP hD hS => ?_)
                  refine lv_iload_n hx hb dX0_runEdges_79 rfl (lv_at hl 3 rfl) ?_
                  refine lv_istore_n (lv' := [(1, .int x2q25), (4, .int 0), (0, .ref a.1), (2, .int x2q25), (3, .int x3q25)]) hx hb dX0_runEdges_80 rfl hl (by decide) rfl (fun ls hl => ?_)
                  refine lv_iload hx hb dX0_runEdges_81 (lv_at hl 1 rfl) ?_
                  refine lv_istore_n (lv' := [(2, .int 0), (1, .int x2q25), (4, .int 0), (0, .ref a.1), (3, .int x3q25)]) hx hb dX0_runEdges_83 rfl hl (by decide) rfl (fun ls hl => ?_)
                  refine lv_iinc (v := (x3q25 + 1)) (lv' := [(3, .int (x3q25 + 1)), (2, .int 0), (1, .int x2q25), (4, .int 0), (0, .ref a.1)]) hx hb dX0_runEdges_84 hl (k := 4) rfl rfl (by decide) rfl (fun ls hl => ?_)
                  refine lv_goto (tgt := 25) hx hb dX0_runEdges_87 (by decide) ?_
                  exact ih25 _ _ _ _  _ _ _ hf hP hD hS (lv_sub hl [4, 2, 1, 0] rfl)
            · replace hf := ifF hf c21
              refine lv_aload_n hx hb dX0_runEdges_43 rfl (lv_at hl 0 rfl) ?_
              refine lv_iload_n hx hb dX0_runEdges_44 rfl (lv_at hl 3 rfl) ?_
              refine lv_iconst (v := 1) hx hb dX0_runEdges_45 (by decide) ?_
              refine lv_iadd hx hb dX0_runEdges_46 ?_
              obtain ⟨v26, hv26, hf⟩ := bnd hf
              refine xcallRV (As := [.int (x3q25 + 1)]) (rest := []) (wc := (wF ks a Fq25)) ⟨hx, hb, hml, hown, hts⟩ (c_X0_isBlack k a Fq25 (x3q25 + 1) v26 hv26) (cwV 1 hts gX0_runEdges_X0_isBlack rfl rfl rfl (by decide +kernel) ⟨Nat.le_of_ble_eq_true rfl, Nat.le_of_ble_eq_true rfl⟩) hX hP (ci := 0) (q0 := 0) rfl rfl rfl hl.1 rfl (Nat.le_of_ble_eq_true rfl) dX0_runEdges_47 ⟨Nat.zero_le _, Nat.zero_le _⟩ (fun zv26 => ?_)
              refine lv_if_eq (tgt := 57) hx hb dX0_runEdges_50 (by decide) (fun c27 => ?_) (fun c27 => ?_)
              · replace hf := ifT hf c27
                refine lv_iconst (v := 0) hx hb dX0_runEdges_57 (by decide) ?_
                refine lv_istore (lv' := [(4, .int 0), (0, .ref a.1), (1, .int x1q25), (2, .int x2q25), (3, .int x3q25)]) hx hb dX0_runEdges_58 hl (by decide) rfl (fun ls hl => ?_)
                refine lv_iload_n hx hb dX0_runEdges_60 rfl (lv_at hl 2 rfl) ?_
                refine lv_if_eq (tgt := 79) hx hb dX0_runEdges_61 (by decide) (fun c28 => ?_) (fun c28 => ?_)
                · replace hf := ifT hf c28
                  refine lv_iload_n hx hb dX0_runEdges_79 rfl (lv_at hl 3 rfl) ?_
                  refine lv_istore_n (lv' := [(1, .int x2q25), (4, .int 0), (0, .ref a.1), (2, .int x2q25), (3, .int x3q25)]) hx hb dX0_runEdges_80 rfl hl (by decide) rfl (fun ls hl => ?_)
                  refine lv_iload hx hb dX0_runEdges_81 (lv_at hl 1 rfl) ?_
                  refine lv_istore_n (lv' := [(2, .int 0), (1, .int x2q25), (4, .int 0), (0, .ref a.1), (3, .int x3q25)]) hx hb dX0_runEdges_83 rfl hl (by decide) rfl (fun ls hl => ?_)
                  refine lv_iinc (v := (x3q25 + 1)) (lv' := [(3, .int (x3q25 + 1)), (2, .int 0), (1, .int x2q25), (4, .int 0), (0, .ref a.1)]) hx hb dX0_runEdges_84 hl (k := 4) rfl rfl (by decide) rfl (fun ls hl => ?_)
                  refine lv_goto (tgt := 25) hx hb dX0_runEdges_87 (by decide) ?_
                  exact ih25 _ _ _ _  _ _ _ hf hP hD hS (lv_sub hl [4, 2, 1, 0] rfl)
                · replace hf := ifF hf c28
                  refine lv_iload_n hx hb dX0_runEdges_64 rfl (lv_at hl 3 rfl) ?_
                  refine lv_if_ne (tgt := 79) hx hb dX0_runEdges_65 (by decide) (fun c29 => ?_) (fun c29 => ?_)
                  · replace hf := ifF hf c29
                    refine lv_iload_n hx hb dX0_runEdges_79 rfl (lv_at hl 3 rfl) ?_
                    refine lv_istore_n (lv' := [(1, .int x2q25), (4, .int 0), (0, .ref a.1), (2, .int x2q25), (3, .int x3q25)]) hx hb dX0_runEdges_80 rfl hl (by decide) rfl (fun ls hl => ?_)
                    refine lv_iload hx hb dX0_runEdges_81 (lv_at hl 1 rfl) ?_
                    refine lv_istore_n (lv' := [(2, .int 0), (1, .int x2q25), (4, .int 0), (0, .ref a.1), (3, .int x3q25)]) hx hb dX0_runEdges_83 rfl hl (by decide) rfl (fun ls hl => ?_)
                    refine lv_iinc (v := (x3q25 + 1)) (lv' := [(3, .int (x3q25 + 1)), (2, .int 0), (1, .int x2q25), (4, .int 0), (0, .ref a.1)]) hx hb dX0_runEdges_84 hl (k := 4) rfl rfl (by decide) rfl (fun ls hl => ?_)
                    refine lv_goto (tgt := 25) hx hb dX0_runEdges_87 (by decide) ?_
                    exact ih25 _ _ _ _  _ _ _ hf hP hD hS (lv_sub hl [4, 2, 1, 0] rfl)
                  · replace hf := ifT hf c29
                    refine lv_aload_n hx hb dX0_runEdges_68 rfl (lv_at hl 1 rfl) ?_
                    refine lv_iload_n hx hb dX0_runEdges_69 rfl (lv_at hl 4 rfl) ?_
                    refine lv_aload_n hx hb dX0_runEdges_70 rfl (lv_at hl 1 rfl) ?_
                    refine va_get (v := .ref a.2.2.1) (C := RX0) (T := TX0) (N := 10) hx hb hts hiX0 hown hK hP 0 rfl rfl 1 (by decide) hk15 (fun _ h9 => h9) rfl dX0_runEdges_71 ?_
                    refine lv_iconst (v := 2) hx hb dX0_runEdges_74 (by decide) ?_
                    obtain ⟨v30, hv30, hf⟩ := bnd hf
                    refine xa_iald hx hb hK hP hv30 2 0 rfl rfl dX0_runEdges_75 ?_
                    obtain ⟨F31, hF31, hf⟩ := bnd hf
                    refine xcallV (As := [.int x3q25, .int v30]) (rest := []) (wc := (wF ks a Fq25)) (w1 := (wF ks a F31)) (wr := ([] : va_W)) (wn := (wF ks a F31)) ⟨hx, hb, hml, hown, hts⟩ (c_X0_giveDown k a Fq25 x3q25 v30 F31 hF31) (cwV 2 hts gX0_runEdges_X0_giveDown rfl rfl rfl (by decide +kernel) ⟨Nat.le_of_ble_eq_true rfl, Nat.le_of_ble_eq_true rfl⟩) hX hP hD hS hA [0, 1, 2, 3] [] [0, 1, 2, 3] rfl rfl rfl ⟨by decide, by decide, by decide⟩ (by decide) (ci := 0) (q0 := 0) rfl rfl rfl hl.1 rfl (Nat.le_of_ble_eq_true rfl) dX0_runEdges_76 ⟨Nat.zero_le _, Nat.zero_le _⟩ (fun H locs hP hD hS => ?_)
                    refine lv_iload_n hx hb dX0_runEdges_79 rfl (lv_at hl 3 rfl) ?_
                    refine lv_istore_n (lv' := [(1, .int x2q25), (4, .int 0), (0, .ref a.1), (2, .int x2q25), (3, .int x3q25)]) hx hb dX0_runEdges_80 rfl hl (by decide) rfl (fun ls hl => ?_)
                    refine lv_iload hx hb dX0_runEdges_81 (lv_at hl 1 rfl) ?_
                    refine lv_istore_n (lv' := [(2, .int 0), (1, .int x2q25), (4, .int 0), (0, .ref a.1), (3, .int x3q25)]) hx hb dX0_runEdges_83 rfl hl (by decide) rfl (fun ls hl => ?_)
                    refine lv_iinc (v := (x3q25 + 1)) (lv' := [(3, .int (x3q25 + 1)), (2, .int 0), (1, .int x2q25), (4, .int 0), (0, .ref a.1)]) hx hb dX0_runEdges_84 hl (k := 4) rfl rfl (by decide) rfl (fun ls hl => ?_)
                    refine lv_goto (tgt := 25) hx hb dX0_runEdges_87 (by decide) ?_
                    exact ih25 _ _ _ _  _ _ _ hf hP hD hS (lv_sub hl [4, 2, 1, 0] rfl)
              · replace hf := ifF hf c27
                refine lv_iconst (v := 1) hx hb dX0_runEdges_53 (by decide) ?_
                refine lv_goto (tgt := 58) hx hb dX0_runEdges_54 (by decide) ?_
                refine lv_istore (lv' := [(4, .int 1), (0, .ref a.1), (1, .int x1q25), (2, .int x2q25), (3, .int x3q25)]) hx hb dX0_runEdges_58 hl (by decide) rfl (fun ls hl => ?_)
                refine lv_iload_n hx hb dX0_runEdges_60 rfl (lv_at hl 2 rfl) ?_
                refine lv_if_eq (tgt := 79) hx hb dX0_runEdges_61 (by decide) (fun c32 => ?_) (fun c32 => ?_)
                · replace hf := ifT hf c32
                  refine lv_iload_n hx hb dX0_runEdges_79 rfl (lv_at hl 3 rfl) ?_
                  refine lv_istore_n (lv' := [(1, .int x2q25), (4, .int 1), (0, .ref a.1), (2, .int x2q25), (3, .int x3q25)]) hx hb dX0_runEdges_80 rfl hl (by decide) rfl (fun ls hl => ?_)
                  refine lv_iload hx hb dX0_runEdges_81 (lv_at hl 1 rfl) ?_
                  refine lv_istore_n (lv' := [(2, .int 1), (1, .int x2q25), (4, .int 1), (0, .ref a.1), (3, .int x3q25)]) hx hb dX0_runEdges_83 rfl hl (by decide) rfl (fun ls hl => ?_)
                  refine lv_iinc (v := (x3q25 + 1)) (lv' := [(3, .int (x3q25 + 1)), (2, .int 1), (1, .int x2q25), (4, .int 1), (0, .ref a.1)]) hx hb dX0_runEdges_84 hl (k := 4) rfl rfl (by decide) rfl (fun ls hl => ?_)
                  refine lv_goto (tgt := 25) hx hb dX0_runEdges_87 (by decide) ?_
                  exact ih25 _ _ _ _  _ _ _ hf hP hD hS (lv_sub hl [4, 2, 1, 0] rfl)
                · replace hf := ifF hf c32
                  refine lv_iload_n hx hb dX0_runEdges_64 rfl (lv_at hl 3 rfl) ?_
                  refine lv_if_ne (tgt := 79) hx hb dX0_runEdges_65 (by decide) (fun c33 => ?_) (fun c33 => ?_)
                  · replace hf := ifF hf c33
                    refine lv_iload_n hx hb dX0_runEdges_79 rfl (lv_at hl 3 rfl) ?_
                    refine lv_istore_n (lv' := [(1, .int x2q25), (4, .int 1), (0, .ref a.1), (2, .int x2q25), (3, .int x3q25)]) hx hb dX0_runEdges_80 rfl hl (by decide) rfl (fun ls hl => ?_)
                    refine lv_iload hx hb dX0_runEdges_81 (lv_at hl 1 rfl) ?_
                    refine lv_istore_n (lv' := [(2, .int 1), (1, .int x2q25), (4, .int 1), (0, .ref a.1), (3, .int x3q25)]) hx hb dX0_runEdges_83 rfl hl (by decide) rfl (fun ls hl => ?_)
                    refine lv_iinc (v := (x3q25 + 1)) (lv' := [(3, .int (x3q25 + 1)), (2, .int 1), (1, .int x2q25), (4, .int 1), (0, .ref a.1)]) hx hb dX0_runEdges_84 hl (k := 4) rfl rfl (by decide) rfl (fun ls hl => ?_)
                    refine lv_goto (tgt := 25) hx hb dX0_runEdges_87 (by decide) ?_
                    exact ih25 _ _ _ _  _ _ _ hf hP hD hS (lv_sub hl [4, 2, 1, 0] rfl)
                  · replace hf := ifT hf c33
                    refine lv_aload_n hx hb dX0_runEdges_68 rfl (lv_at hl 1 rfl) ?_
                    refine lv_iload_n hx hb dX0_runEdges_69 rfl (lv_at hl 4 rfl) ?_
                    refine lv_aload_n hx hb dX0_runEdges_70 rfl (lv_at hl 1 rfl) ?_
                    refine va_get (v := .ref a.2.2.1) (C := RX0) (T := TX0) (N := 10) hx hb hts hiX0 hown hK hP 0 rfl rfl 1 (by decide) hk15 (fun _ h9 => h9) rfl dX0_runEdges_71 ?_
                    refine lv_iconst (v := 2) hx hb dX0_runEdges_74 (by decide) ?_
                    obtain ⟨v34, hv34, hf⟩ := bnd hf
                    refine xa_iald hx hb hK hP hv34 2 0 rfl rfl dX0_runEdges_75 ?_
                    obtain ⟨F35, hF35, hf⟩ := bnd hf
                    refine xcallV (As := [.int x3q25, .int v34]) (rest := []) (wc := (wF ks a Fq25)) (w1 := (wF ks a F35)) (wr := ([] : va_W)) (wn := (wF ks a F35)) ⟨hx, hb, hml, hown, hts⟩ (c_X0_giveDown k a Fq25 x3q25 v34 F35 hF35) (cwV 2 hts gX0_runEdges_X0_giveDown rfl rfl rfl (by decide +kernel) ⟨Nat.le_of_ble_eq_true rfl, Nat.le_of_ble_eq_true rfl⟩) hX hP hD hS hA [0, 1, 2, 3] [] [0, 1, 2, 3] rfl rfl rfl ⟨by decide, by decide, by decide⟩ (by decide) (ci := 0) (q0 := 0) rfl rfl rfl hl.1 rfl (Nat.le_of_ble_eq_true rfl) dX0_runEdges_76 ⟨Nat.zero_le _, Nat.zero_le _⟩ (fun H locs hP hD hS => ?_)
                    refine lv_iload_n hx hb dX0_runEdges_79 rfl (lv_at hl 3 rfl) ?_
                    refine lv_istore_n (lv' := [(1, .int x2q25), (4, .int 1), (0, .ref a.1), (2, .int x2q25), (3, .int x3q25)]) hx hb dX0_runEdges_80 rfl hl (by decide) rfl (fun ls hl => ?_)
                    refine lv_iload hx hb dX0_runEdges_81 (lv_at hl 1 rfl) ?_
                    refine lv_istore_n (lv' := [(2, .int 1), (1, .int x2q25), (4, .int 1), (0, .ref a.1), (3, .int x3q25)]) hx hb dX0_runEdges_83 rfl hl (by decide) rfl (fun ls hl => ?_)
                    refine lv_iinc (v := (x3q25 + 1)) (lv' := [(3, .int (x3q25 + 1)), (2, .int 1), (1, .int x2q25), (4, .int 1), (0, .ref a.1)]) hx hb dX0_runEdges_84 hl (k := 4) rfl rfl (by decide) rfl (fun ls hl => ?_)
                    refine lv_goto (tgt := 25) hx hb dX0_runEdges_87 (by decide) ?_
                    exact ih25 _ _ _ _  _ _ _ hf hP hD hS (lv_sub hl [4, 2, 1, 0] rfl)
      exact L25 k _ _ _ _ _ _ _ hf hP hD hS (lv_sub hl [3, 2, 1, 0] rfl)
    · replace hf := ifF hf c19
      refine lv_iconst (v := 1) hx hb dX0_runEdges_17 (by decide) ?_
      refine lv_goto (tgt := 22) hx hb dX0_runEdges_18 (by decide) ?_
      refine lv_istore_n (lv' := [(2, .int 1), (1, .int 0), (0, .ref a.1)]) hx hb dX0_runEdges_22 rfl hl (by decide) rfl (fun ls hl => ?_)
      refine lv_iconst (v := 0) hx hb dX0_runEdges_23 (by decide) ?_
      refine lv_istore_n (lv' := [(3, .int 0), (2, .int 1), (1, .int 0), (0, .ref a.1)]) hx hb dX0_runEdges_24 rfl hl (by decide) rfl (fun ls hl => ?_)
      have L25 : ∀ (n : Nat) (Fq25 : FD) (x1q25 : Int32) (x2q25 : Int32) (x3q25 : Int32) (H : Heap) (locs : List Loc) (ls : Array Slot), p_X0_runEdges_L25 k n Fq25 x1q25 x2q25 x3q25 = some rF → va_P D vwCl (wF ks a Fq25) H → va_D A (wF ks a Fq25) → va_S A s.heap H locs → lv_has ls 5 [(0, .ref a.1), (1, .int x1q25), (2, .int x2q25), (3, .int x3q25)] → W p l e { frames := 3, cells := 0, slots := 0, locals := 71 } s m ([.ref a.1] : List Value).toArray below meth c H locs 0 0 Q (F0 m 25 ls []) := by
        intro n
        induction n with
        | zero => intro Fq25 x1q25 x2q25 x3q25 H locs ls hf; cases hf
        | succ n ih25 =>
          intro Fq25 x1q25 x2q25 x3q25 H locs ls hf hP hD hS hl
          rw [p_X0_runEdges_L25] at hf
          refine lv_iload_n hx hb dX0_runEdges_25 rfl (lv_at hl 3 rfl) ?_
          refine lv_aload_n hx hb dX0_runEdges_26 rfl (lv_at hl 0 rfl) ?_
          refine va_get (v := .int (FD.rows Fq25)) (C := RX0) (T := TX0) (N := 10) hx hb hts hiX0 hown hK hP 0 rfl rfl 3 (by decide) hk30 (fun _ h9 => h9) rfl dX0_runEdges_27 ?_
          refine lv_icmp_ge (tgt := 90) hx hb dX0_runEdges_30 (by decide) (fun c36 => ?_) (fun c36 => ?_)
          · replace hf := ifT hf c36
            obtain rfl := Option.some.inj hf
            exact hret _ _ _ _ dX0_runEdges_90 hP hD hS
          · replace hf := ifF hf c36
            refine lv_iload_n hx hb dX0_runEdges_33 rfl (lv_at hl 3 rfl) ?_
            refine lv_iconst (v := 1) hx hb dX0_runEdges_34 (by decide) ?_
            refine lv_iadd hx hb dX0_runEdges_35 ?_
            refine lv_aload_n hx hb dX0_runEdges_36 rfl (lv_at hl 0 rfl) ?_
            refine va_get (v := .int (FD.rows Fq25)) (C := RX0) (T := TX0) (N := 10) hx hb hts hiX0 hown hK hP 0 rfl rfl 3 (by decide) hk30 (fun _ h9 => h9) rfl dX0_runEdges_37 ?_
            refine lv_icmp_ge (tgt := 57) hx hb dX0_runEdges_40 (by decide) (fun c37 => ?_) (fun c37 => ?_)
            · replace hf := ifT hf c37
              refine lv_iconst (v := 0) hx hb dX0_runEdges_57 (by decide) ?_
              refine lv_istore (lv' := [(4, .int 0), (0, .ref a.1), (1, .int x1q25), (2, .int x2q25), (3, .int x3q25)]) hx hb dX0_runEdges_58 hl (by decide) rfl (fun ls hl => ?_)
              refine lv_iload_n hx hb dX0_runEdges_60 rfl (lv_at hl 2 rfl) ?_
              refine lv_if_eq (tgt := 79) hx hb dX0_runEdges_61 (by decide) (fun c38 => ?_) (fun c38 => ?_)
              · replace hf := ifT hf c38
                refine lv_iload_n hx hb dX0_runEdges_79 rfl (lv_at hl 3 rfl) ?_
                refine lv_istore_n (lv' := [(1, .int x2q25), (4, .int 0), (0, .ref a.1), (2, .int x2q25), (3, .int x3q25)]) hx hb dX0_runEdges_80 rfl hl (by decide) rfl (fun ls hl => ?_)
                refine lv_iload hx hb dX0_runEdges_81 (lv_at hl 1 rfl) ?_
                refine lv_istore_n (lv' := [(2, .int 0), (1, .int x2q25), (4, .int 0), (0, .ref a.1), (3, .int x3q25)]) hx hb dX0_runEdges_83 rfl hl (by decide) rfl (fun ls hl => ?_)
                refine lv_iinc (v := (x3q25 + 1)) (lv' := [(3, .int (x3q25 + 1)), (2, .int 0), (1, .int x2q25), (4, .int 0), (0, .ref a.1)]) hx hb dX0_runEdges_84 hl (k := 4) rfl rfl (by decide) rfl (fun ls hl => ?_)
                refine lv_goto (tgt := 25) hx hb dX0_runEdges_87 (by decide) ?_
                exact ih25 _ _ _ _  _ _ _ hf hP hD hS (lv_sub hl [4, 2, 1, 0] rfl)
              · replace hf := ifF hf c38
                refine lv_iload_n hx hb dX0_runEdges_64 rfl (lv_at hl 3 rfl) ?_
                refine lv_if_ne (tgt := 79) hx hb dX0_runEdges_65 (by decide) (fun c39 => ?_) (fun c39 => ?_)
                · replace hf := ifF hf c39
                  refine lv_iload_n hx hb dX0_runEdges_79 rfl (lv_at hl 3 rfl) ?_
                  refine lv_istore_n (lv' := [(1, .int x2q25), (4, .int 0), (0, .ref a.1), (2, .int x2q25), (3, .int x3q25)]) hx hb dX0_runEdges_80 rfl hl (by decide) rfl (fun ls hl => ?_)
                  refine lv_iload hx hb dX0_runEdges_81 (lv_at hl 1 rfl) ?_
                  refine lv_istore_n (lv' := [(2, .int 0), (1, .int x2q25), (4, .int 0), (0, .ref a.1), (3, .int x3q25)]) hx hb dX0_runEdges_83 rfl hl (by decide) rfl (fun ls hl => ?_)
                  refine lv_iinc (v := (x3q25 + 1)) (lv' := [(3, .int (x3q25 + 1)), (2, .int 0), (1, .int x2q25), (4, .int 0), (0, .ref a.1)]) hx hb dX0_runEdges_84 hl (k := 4) rfl rfl (by decide) rfl (fun ls hl => ?_)
                  refine lv_goto (tgt := 25) hx hb dX0_runEdges_87 (by decide) ?_
                  exact ih25 _ _ _ _  _ _ _ hf hP hD hS (lv_sub hl [4, 2, 1, 0] rfl)
                · replace hf := ifT hf c39
                  refine lv_aload_n hx hb dX0_runEdges_68 rfl (lv_at hl 1 rfl) ?_
                  refine lv_iload_n hx hb dX0_runEdges_69 rfl (lv_at hl 4 rfl) ?_
                  refine lv_aload_n hx hb dX0_runEdges_70 rfl (lv_at hl 1 rfl) ?_
                  refine va_get (v := .ref a.2.2.1) (C := RX0) (T := TX0) (N := 10) hx hb hts hiX0 hown hK hP 0 rfl rfl 1 (by decide) hk15 (fun _ h9 => h9) rfl dX0_runEdges_71 ?_
                  refine lv_iconst (v := 2) hx hb dX0_runEdges_74 (by decide) ?_
                  obtain ⟨v40, hv40, hf⟩ := bnd hf
                  refine xa_iald hx hb hK hP hv40 2 0 rfl rfl dX0_runEdges_75 ?_
                  obtain ⟨F41, hF41, hf⟩ := bnd hf
                  refine xcallV (As := [.int x3q25, .int v40]) (rest := []) (wc := (wF ks a Fq25)) (w1 := (wF ks a F41)) (wr := ([] : va_W)) (wn := (wF ks a F41)) ⟨hx, hb, hml, hown, hts⟩ (c_X0_giveDown k a Fq25 x3q25 v40 F41 hF41) (cwV 2 hts gX0_runEdges_X0_giveDown rfl rfl rfl (by decide +kernel) ⟨Nat.le_of_ble_eq_true rfl, Nat.le_of_ble_eq_true rfl⟩) hX hP hD hS hA [0, 1, 2, 3] [] [0, 1, 2, 3] rfl rfl rfl ⟨by decide, by decide, by decide⟩ (by decide) (ci := 0) (q0 := 0) rfl rfl rfl hl.1 rfl (Nat.le_of_ble_eq_true rfl) dX0_runEdges_76 ⟨Nat.zero_le _, Nat.zero_le _⟩ (fun H locs hP hD hS => ?_)
                  refine lv_iload_n hx hb dX0_runEdges_79 rfl (lv_at hl 3 rfl) ?_
                  refine lv_istore_n (lv' := [(1, .int x2q25), (4, .int 0), (0, .ref a.1), (2, .int x2q25), (3, .int x3q25)]) hx hb dX0_runEdges_80 rfl hl (by decide) rfl (fun ls hl => ?_)
                  refine lv_iload hx hb dX0_runEdges_81 (lv_at hl 1 rfl) ?_
                  refine lv_istore_n (lv' := [(2, .int 0), (1, .int x2q25), (4, .int 0), (0, .ref a.1), (3, .int x3q25)]) hx hb dX0_runEdges_83 rfl hl (by decide) rfl (fun ls hl => ?_)
                  refine lv_iinc (v := (x3q25 + 1)) (lv' := [(3, .int (x3q25 + 1)), (2, .int 0), (1, .int x2q25), (4, .int 0), (0, .ref a.1)]) hx hb dX0_runEdges_84 hl (k := 4) rfl rfl (by decide) rfl (fun ls hl => ?_)
                  refine lv_goto (tgt := 25) hx hb dX0_runEdges_87 (by decide) ?_
                  exact ih25 _ _ _ _  _ _ _ hf hP hD hS (lv_sub hl [4, 2, 1, 0] rfl)
            · replace hf := ifF hf c37
              refine lv_aload_n hx hb dX0_runEdges_43 rfl (lv_at hl 0 rfl) ?_
              refine lv_iload_n hx hb dX0_runEdges_44 rfl (lv_at hl 3 rfl) ?_
              refine lv_iconst (v := 1) hx hb dX0_runEdges_45 (by decide) ?_
              refine lv_iadd hx hb dX0_runEdges_46 ?_
              obtain ⟨v42, hv42, hf⟩ := bnd hf
              refine xcallRV (As := [.int (x3q25 + 1)]) (rest := []) (wc := (wF ks a Fq25)) ⟨hx, hb, hml, hown, hts⟩ (c_X0_isBlack k a Fq25 (x3q25 + 1) v42 hv42) (cwV 1 hts gX0_runEdges_X0_isBlack rfl rfl rfl (by decide +kernel) ⟨Nat.le_of_ble_eq_true rfl, Nat.le_of_ble_eq_true rfl⟩) hX hP (ci := 0) (q0 := 0) rfl rfl rfl hl.1 rfl (Nat.le_of_ble_eq_true rfl) dX0_runEdges_47 ⟨Nat.zero_le _, Nat.zero_le _⟩ (fun zv42 => ?_)
              refine lv_if_eq (tgt := 57) hx hb dX0_runEdges_50 (by decide) (fun c43 => ?_) (fun c43 => ?_)
              · replace hf := ifT hf c43
                refine lv_iconst (v := 0) hx hb dX0_runEdges_57 (by decide) ?_
                refine lv_istore (lv' := [(4, .int 0), (0, .ref a.1), (1, .int x1q25), (2, .int x2q25), (3, .int x3q25)]) hx hb dX0_runEdges_58 hl (by decide) rfl (fun ls hl => ?_)
                refine lv_iload_n hx hb dX0_runEdges_60 rfl (lv_at hl 2 rfl) ?_
                refine lv_if_eq (tgt := 79) hx hb dX0_runEdges_61 (by decide) (fun c44 => ?_) (fun c44 => ?_)
                · replace hf := ifT hf c44
                  refine lv_iload_n hx hb dX0_runEdges_79 rfl (lv_at hl 3 rfl) ?_
                  refine lv_istore_n (lv' := [(1, .int x2q25), (4, .int 0), (0, .ref a.1), (2, .int x2q25), (3, .int x3q25)]) hx hb dX0_runEdges_80 rfl hl (by decide) rfl (fun ls hl => ?_)
                  refine lv_iload hx hb dX0_runEdges_81 (lv_at hl 1 rfl) ?_
                  refine lv_istore_n (lv' := [(2, .int 0), (1, .int x2q25), (4, .int 0), (0, .ref a.1), (3, .int x3q25)]) hx hb dX0_runEdges_83 rfl hl (by decide) rfl (fun ls hl => ?_)
                  refine lv_iinc (v := (x3q25 + 1)) (lv' := [(3, .int (x3q25 + 1)), (2, .int 0), (1, .int x2q25), (4, .int 0), (0, .ref a.1)]) hx hb dX0_runEdges_84 hl (k := 4) rfl rfl (by decide) rfl (fun ls hl => ?_)
                  refine lv_goto (tgt := 25) hx hb dX0_runEdges_87 (by decide) ?_
                  exact ih25 _ _ _ _  _ _ _ hf hP hD hS (lv_sub hl [4, 2, 1, 0] rfl)
                · replace hf := ifF hf c44
                  refine lv_iload_n hx hb dX0_runEdges_64 rfl (lv_at hl 3 rfl) ?_
                  refine lv_if_ne (tgt := 79) hx hb dX0_runEdges_65 (by decide) (fun c45 => ?_) (fun c45 => ?_)
                  · replace hf := ifF hf c45
                    refine lv_iload_n hx hb dX0_runEdges_79 rfl (lv_at hl 3 rfl) ?_
                    refine lv_istore_n (lv' := [(1, .int x2q25), (4, .int 0), (0, .ref a.1), (2, .int x2q25), (3, .int x3q25)]) hx hb dX0_runEdges_80 rfl hl (by decide) rfl (fun ls hl => ?_)
                    refine lv_iload hx hb dX0_runEdges_81 (lv_at hl 1 rfl) ?_
                    refine lv_istore_n (lv' := [(2, .int 0), (1, .int x2q25), (4, .int 0), (0, .ref a.1), (3, .int x3q25)]) hx hb dX0_runEdges_83 rfl hl (by decide) rfl (fun ls hl => ?_)
                    refine lv_iinc (v := (x3q25 + 1)) (lv' := [(3, .int (x3q25 + 1)), (2, .int 0), (1, .int x2q25), (4, .int 0), (0, .ref a.1)]) hx hb dX0_runEdges_84 hl (k := 4) rfl rfl (by decide) rfl (fun ls hl => ?_)
                    refine lv_goto (tgt := 25) hx hb dX0_runEdges_87 (by decide) ?_
                    exact ih25 _ _ _ _  _ _ _ hf hP hD hS (lv_sub hl [4, 2, 1, 0] rfl)
                  · replace hf := ifT hf c45
                    refine lv_aload_n hx hb dX0_runEdges_68 rfl (lv_at hl 1 rfl) ?_
                    refine lv_iload_n hx hb dX0_runEdges_69 rfl (lv_at hl 4 rfl) ?_
                    refine lv_aload_n hx hb dX0_runEdges_70 rfl (lv_at hl 1 rfl) ?_
                    refine va_get (v := .ref a.2.2.1) (C := RX0) (T := TX0) (N := 10) hx hb hts hiX0 hown hK hP 0 rfl rfl 1 (by decide) hk15 (fun _ h9 => h9) rfl dX0_runEdges_71 ?_
                    refine lv_iconst (v := 2) hx hb dX0_runEdges_74 (by decide) ?_
                    obtain ⟨v46, hv46, hf⟩ := bnd hf
                    refine xa_iald hx hb hK hP hv46 2 0 rfl rfl dX0_runEdges_75 ?_
                    obtain ⟨F47, hF47, hf⟩ := bnd hf
                    refine xcallV (As := [.int x3q25, .int v46]) (rest := []) (wc := (wF ks a Fq25)) (w1 := (wF ks a F47)) (wr := ([] : va_W)) (wn := (wF ks a F47)) ⟨hx, hb, hml, hown, hts⟩ (c_X0_giveDown k a Fq25 x3q25 v46 F47 hF47) (cwV 2 hts gX0_runEdges_X0_giveDown rfl rfl rfl (by decide +kernel) ⟨Nat.le_of_ble_eq_true rfl, Nat.le_of_ble_eq_true rfl⟩) hX hP hD hS hA [0, 1, 2, 3] [] [0, 1, 2, 3] rfl rfl rfl ⟨by decide, by decide, by decide⟩ (by decide) (ci := 0) (q0 := 0) rfl rfl rfl hl.1 rfl (Nat.le_of_ble_eq_true rfl) dX0_runEdges_76 ⟨Nat.zero_le _, Nat.zero_le _⟩ (fun H locs hP hD hS => ?_)
                    refine lv_iload_n hx hb dX0_runEdges_79 rfl (lv_at hl 3 rfl) ?_
                    refine lv_istore_n (lv' := [(1, .int x2q25), (4, .int 0), (0, .ref a.1), (2, .int x2q25), (3, .int x3q25)]) hx hb dX0_runEdges_80 rfl hl (by decide) rfl (fun ls hl => ?_)
                    refine lv_iload hx hb dX0_runEdges_81 (lv_at hl 1 rfl) ?_
                    refine lv_istore_n (lv' := [(2, .int 0), (1, .int x2q25), (4, .int 0), (0, .ref a.1), (3, .int x3q25)]) hx hb dX0_runEdges_83 rfl hl (by decide) rfl (fun ls hl => ?_)
                    refine lv_iinc (v := (x3q25 + 1)) (lv' := [(3, .int (x3q25 + 1)), (2, .int 0), (1, .int x2q25), (4, .int 0), (0, .ref a.1)]) hx hb dX0_runEdges_84 hl (k := 4) rfl rfl (by decide) rfl (fun ls hl => ?_)
                    refine lv_goto (tgt := 25) hx hb dX0_runEdges_87 (by decide) ?_
                    exact ih25 _ _ _ _  _ _ _ hf hP hD hS (lv_sub hl [4, 2, 1, 0] rfl)
              · replace hf := ifF hf c43
                refine lv_iconst (v := 1) hx hb dX0_runEdges_53 (by decide) ?_
                refine lv_goto (tgt := 58) hx hb dX0_runEdges_54 (by decide) ?_
                refine lv_istore (lv' := [(4, .int 1), (0, .ref a.1), (1, .int x1q25), (2, .int x2q25), (3, .int x3q25)]) hx hb dX0_runEdges_58 hl (by decide) rfl (fun ls hl => ?_)
                refine lv_iload_n hx hb dX0_runEdges_60 rfl (lv_at hl 2 rfl) ?_
                refine lv_if_eq (tgt := 79) hx hb dX0_runEdges_61 (by decide) (fun c48 => ?_) (fun c48 => ?_)
                · replace hf := ifT hf c48
                  refine lv_iload_n hx hb dX0_runEdges_79 rfl (lv_at hl 3 rfl) ?_
                  refine lv_istore_n (lv' := [(1, .int x2q25), (4, .int 1), (0, .ref a.1), (2, .int x2q25), (3, .int x3q25)]) hx hb dX0_runEdges_80 rfl hl (by decide) rfl (fun ls hl => ?_)
                  refine lv_iload hx hb dX0_runEdges_81 (lv_at hl 1 rfl) ?_
                  refine lv_istore_n (lv' := [(2, .int 1), (1, .int x2q25), (4, .int 1), (0, .ref a.1), (3, .int x3q25)]) hx hb dX0_runEdges_83 rfl hl (by decide) rfl (fun ls hl => ?_)
                  refine lv_iinc (v := (x3q25 + 1)) (lv' := [(3, .int (x3q25 + 1)), (2, .int 1), (1, .int x2q25), (4, .int 1), (0, .ref a.1)]) hx hb dX0_runEdges_84 hl (k := 4) rfl rfl (by decide) rfl (fun ls hl => ?_)
                  refine lv_goto (tgt := 25) hx hb dX0_runEdges_87 (by decide) ?_
                  exact ih25 _ _ _ _  _ _ _ hf hP hD hS (lv_sub hl [4, 2, 1, 0] rfl)
                · replace hf := ifF hf c48
                  refine lv_iload_n hx hb dX0_runEdges_64 rfl (lv_at hl 3 rfl) ?_
                  refine lv_if_ne (tgt := 79) hx hb dX0_runEdges_65 (by decide) (fun c49 => ?_) (fun c49 => ?_)
                  · replace hf := ifF hf c49
                    refine lv_iload_n hx hb dX0_runEdges_79 rfl (lv_at hl 3 rfl) ?_
                    refine lv_istore_n (lv' := [(1, .int x2q25), (4, .int 1), (0, .ref a.1), (2, .int x2q25), (3, .int x3q25)]) hx hb dX0_runEdges_80 rfl hl (by decide) rfl (fun ls hl => ?_)
                    refine lv_iload hx hb dX0_runEdges_81 (lv_at hl 1 rfl) ?_
                    refine lv_istore_n (lv' := [(2, .int 1), (1, .int x2q25), (4, .int 1), (0, .ref a.1), (3, .int x3q25)]) hx hb dX0_runEdges_83 rfl hl (by decide) rfl (fun ls hl => ?_)
                    refine lv_iinc (v := (x3q25 + 1)) (lv' := [(3, .int (x3q25 + 1)), (2, .int 1), (1, .int x2q25), (4, .int 1), (0, .ref a.1)]) hx hb dX0_runEdges_84 hl (k := 4) rfl rfl (by decide) rfl (fun ls hl => ?_)
                    refine lv_goto (tgt := 25) hx hb dX0_runEdges_87 (by decide) ?_
                    exact ih25 _ _ _ _  _ _ _ hf hP hD hS (lv_sub hl [4, 2, 1, 0] rfl)
                  · replace hf := ifT hf c49
                    refine lv_aload_n hx hb dX0_runEdges_68 rfl (lv_at hl 1 rfl) ?_
                    refine lv_iload_n hx hb dX0_runEdges_69 rfl (lv_at hl 4 rfl) ?_
                    refine lv_aload_n hx hb dX0_runEdges_70 rfl (lv_at hl 1 rfl) ?_
                    refine va_get (v := .ref a.2.2.1) (C := RX0) (T := TX0) (N := 10) hx hb hts hiX0 hown hK hP 0 rfl rfl 1 (by decide) hk15 (fun _ h9 => h9) rfl dX0_runEdges_71 ?_
                    refine lv_iconst (v := 2) hx hb dX0_runEdges_74 (by decide) ?_
                    obtain ⟨v50, hv50, hf⟩ := bnd hf
                    refine xa_iald hx hb hK hP hv50 2 0 rfl rfl dX0_runEdges_75 ?_
                    obtain ⟨F51, hF51, hf⟩ := bnd hf
                    refine xcallV (As := [.int x3q25, .int v50]) (rest := []) (wc := (wF ks a Fq25)) (w1 := (wF ks a F51)) (wr := ([] : va_W)) (wn := (wF ks a F51)) ⟨hx, hb, hml, hown, hts⟩ (c_X0_giveDown k a Fq25 x3q25 v50 F51 hF51) (cwV 2 hts gX0_runEdges_X0_giveDown rfl rfl rfl (by decide +kernel) ⟨Nat.le_of_ble_eq_true rfl, Nat.le_of_ble_eq_true rfl⟩) hX hP hD hS hA [0, 1, 2, 3] [] [0, 1, 2, 3] rfl rfl rfl ⟨by decide, by decide, by decide⟩ (by decide) (ci := 0) (q0 := 0) rfl rfl rfl hl.1 rfl (Nat.le_of_ble_eq_true rfl) dX0_runEdges_76 ⟨Nat.zero_le _, Nat.zero_le _⟩ (fun H locs hP hD hS => ?_)
                    refine lv_iload_n hx hb dX0_runEdges_79 rfl (lv_at hl 3 rfl) ?_
                    refine lv_istore_n (lv' := [(1, .int x2q25), (4, .int 1), (0, .ref a.1), (2, .int x2q25), (3, .int x3q25)]) hx hb dX0_runEdges_80 rfl hl (by decide) rfl (fun ls hl => ?_)
                    refine lv_iload hx hb dX0_runEdges_81 (lv_at hl 1 rfl) ?_
                    refine lv_istore_n (lv' := [(2, .int 1), (1, .int x2q25), (4, .int 1), (0, .ref a.1), (3, .int x3q25)]) hx hb dX0_runEdges_83 rfl hl (by decide) rfl (fun ls hl => ?_)
                    refine lv_iinc (v := (x3q25 + 1)) (lv' := [(3, .int (x3q25 + 1)), (2, .int 1), (1, .int x2q25), (4, .int 1), (0, .ref a.1)]) hx hb dX0_runEdges_84 hl (k := 4) rfl rfl (by decide) rfl (fun ls hl => ?_)
                    refine lv_goto (tgt := 25) hx hb dX0_runEdges_87 (by decide) ?_
                    exact ih25 _ _ _ _  _ _ _ hf hP hD hS (lv_sub hl [4, 2, 1, 0] rfl)
      exact L25 k _ _ _ _ _ _ _ hf hP hD hS (lv_sub hl [3, 2, 1, 0] rfl)

/-! ===== X0_dry ===== -/
def p_X0_dry_L2 (k : Nat) : Nat → (FD) → (Int32) → Option (FD)
  | 0, _, _ => none
  | n + 1, F, x1 =>
    if (FD.rows F) ≤ x1 then (some F) else ((ald (FD.st F) 7 1).bind fun v2 => bind2 (p_X0_loseFrom k F x1 v2 4) fun v3 F4 => p_X0_dry_L2 k n F4 (x1 + 1))

def p_X0_dry (k : Nat) (F : FD) : Option (FD) :=
  p_X0_dry_L2 k k F 0

set_option maxHeartbeats 4000000 in
set_option maxRecDepth 100000 in
theorem c_X0_dry {l : Launch} {D : va_G} {ks : K3} (k : Nat) (a : AF) (F : FD) (rF : FD) (hf : p_X0_dry k F = some rF) : MetV l yX0_dry wsX0_dry { frames := 2, cells := 0, slots := 0, locals := 47 } D ks [.ref a.1] (wF ks a F) (wF ks a rF) := by
  refine MetV.of (cc := cX0_dry) (maxL := 2) (by decide +kernel) rfl (Nat.le_of_ble_eq_true rfl) ?_
  intro p e s m below meth c Q A hx hb hml hts hown hP hX hD hA hret ls hl
  have hK := hX.1
  replace hl : lv_has ls 2 [(0, .ref a.1)] := hl
  have hS : va_S A s.heap s.heap [] := va_S.rf
  have hiX0 : ∀ w ∈ wsX00, w ∈ wsX0_dry := by decide +kernel
  have hk30 := hts (.fieldLink RX0 30 "SoapFilm$Film" "rows" "I") (by decide +kernel)
  have hk15 := hts (.fieldLink RX0 15 "SoapFilm$Film" "settings" "[I") (by decide +kernel)
  unfold p_X0_dry at hf
  refine lv_iconst (v := 0) hx hb dX0_dry_0 (by decide) ?_
  refine lv_istore_n (lv' := [(1, .int 0), (0, .ref a.1)]) hx hb dX0_dry_1 rfl hl (by decide) rfl (fun ls hl => ?_)
  have L2 : ∀ (n : Nat) (Fq2 : FD) (x1q2 : Int32) (H : Heap) (locs : List Loc) (ls : Array Slot), p_X0_dry_L2 k n Fq2 x1q2 = some rF → va_P D vwCl (wF ks a Fq2) H → va_D A (wF ks a Fq2) → va_S A s.heap H locs → lv_has ls 2 [(0, .ref a.1), (1, .int x1q2)] → W p l e { frames := 2, cells := 0, slots := 0, locals := 47 } s m ([.ref a.1] : List Value).toArray below meth c H locs 0 0 Q (F0 m 2 ls []) := by
    intro n
    induction n with
    | zero => intro Fq2 x1q2 H locs ls hf; cases hf
    | succ n ih2 =>
      intro Fq2 x1q2 H locs ls hf hP hD hS hl
      rw [p_X0_dry_L2] at hf
      refine lv_iload_n hx hb dX0_dry_2 rfl (lv_at hl 1 rfl) ?_
      refine lv_aload_n hx hb dX0_dry_3 rfl (lv_at hl 0 rfl) ?_
      refine va_get (v := .int (FD.rows Fq2)) (C := RX0) (T := TX0) (N := 10) hx hb hts hiX0 hown hK hP 0 rfl rfl 3 (by decide) hk30 (fun _ h9 => h9) rfl dX0_dry_4 ?_
      refine lv_icmp_ge (tgt := 29) hx hb dX0_dry_7 (by decide) (fun c1 => ?_) (fun c1 => ?_)
      · replace hf := ifT hf c1
        obtain rfl := Option.some.inj hf
        exact hret _ _ _ _ dX0_dry_29 hP hD hS
      · replace hf := ifF hf c1
        refine lv_aload_n hx hb dX0_dry_10 rfl (lv_at hl 0 rfl) ?_
        refine lv_iload_n hx hb dX0_dry_11 rfl (lv_at hl 1 rfl) ?_
        refine lv_aload_n hx hb dX0_dry_12 rfl (lv_at hl 0 rfl) ?_
        refine va_get (v := .ref a.2.2.1) (C := RX0) (T := TX0) (N := 10) hx hb hts hiX0 hown hK hP 0 rfl rfl 1 (by decide) hk15 (fun _ h9 => h9) rfl dX0_dry_13 ?_
        refine lv_iconst (v := 1) hx hb dX0_dry_16 (by decide) ?_
        obtain ⟨v2, hv2, hf⟩ := bnd hf
        refine xa_iald hx hb hK hP hv2 2 0 rfl rfl dX0_dry_17 ?_
        refine lv_iconst (v := 4) hx hb dX0_dry_18 (by decide) ?_
        obtain ⟨v3, F4, hv3, hf⟩ := bnd2 hf
        refine xcallI (As := [.int x1q2, .int v2, .int 4]) (rest := []) (wc := (wF ks a Fq2)) (w1 := (wF ks a F4)) (wr := ([] : va_W)) (wn := (wF ks a F4)) ⟨hx, hb, hml, hown, hts⟩ (c_X0_loseFrom k a Fq2 x1q2 v2 4 v3 F4 hv3) (cwV 3 hts gX0_dry_X0_loseFrom rfl rfl rfl (by decide +kernel) ⟨Nat.le_of_ble_eq_true rfl, Nat.le_of_ble_eq_true rfl⟩) hX hP hD hS hA [0, 1, 2, 3] [] [0, 1, 2, 3] rfl rfl rfl ⟨by decide, by decide, by decide⟩ (by decide) (ci := 0) (q0 := 0) rfl rfl rfl hl.1 rfl (Nat.le_of_ble_eq_true rfl) dX0_dry_19 ⟨Nat.zero_le _, Nat.zero_le _⟩ (fun zv3 H locs hP hD hS => ?_)
        refine lv_pop hx hb dX0_dry_22 rfl ?_
        refine lv_iinc (v := (x1q2 + 1)) (lv' := [(1, .int (x1q2 + 1)), (0, .ref a.1)]) hx hb dX0_dry_23 hl (k := 1) rfl rfl (by decide) rfl (fun ls hl => ?_)
        refine lv_goto (tgt := 2) hx hb dX0_dry_26 (by decide) ?_
        exact ih2 _ _  _ _ _ hf hP hD hS (lv_sub hl [1, 0] rfl)
  exact L2 k _ _ _ _ _ hf hP hD hS (lv_sub hl [1, 0] rfl)

/-! ===== X0_letDropFall ===== -/
def p_X0_letDropFall (k : Nat) (F : FD) : Option (FD) :=
  (ald (FD.ac F) 7 2).bind fun v1 => (ald (FD.st F) 7 6).bind fun v2 => if v1 < v2 then (some F) else ((ald (FD.ac F) 7 2).bind fun v4 => (p_X0_move k F 2 3 v4).bind fun F5 => some (mkFD (FD.th F5) (FD.st F5) (FD.ac F5) (FD.rows F5) (FD.ticks F5) ((FD.drops F5) + 1) (FD.bursts F5) (FD.burstReason F5) (FD.burstNumber F5) (FD.ticksBeforeBurst F5)))

set_option maxHeartbeats 4000000 in
set_option maxRecDepth 100000 in
theorem c_X0_letDropFall {l : Launch} {D : va_G} {ks : K3} (k : Nat) (a : AF) (F : FD) (rF : FD) (hf : p_X0_letDropFall k F = some rF) : MetV l yX0_letDropFall wsX0_letDropFall { frames := 1, cells := 0, slots := 0, locals := 23 } D ks [.ref a.1] (wF ks a F) (wF ks a rF) := by
  refine MetV.of (cc := cX0_letDropFall) (maxL := 1) (by decide +kernel) rfl (Nat.le_of_ble_eq_true rfl) ?_
  intro p e s m below meth c Q A hx hb hml hts hown hP hX hD hA hret ls hl
  have hK := hX.1
  replace hl : lv_has ls 1 [(0, .ref a.1)] := hl
  have hS : va_S A s.heap s.heap [] := va_S.rf
  have hiX0 : ∀ w ∈ wsX00, w ∈ wsX0_letDropFall := by decide +kernel
  have hk18 := hts (.fieldLink RX0 18 "SoapFilm$Film" "accounts" "[I") (by decide +kernel)
  have hk15 := hts (.fieldLink RX0 15 "SoapFilm$Film" "settings" "[I") (by decide +kernel)
  have hk37 := hts (.fieldLink RX0 37 "SoapFilm$Film" "drops" "I") (by decide +kernel)
  unfold p_X0_letDropFall at hf
  refine lv_aload_n hx hb dX0_letDropFall_0 rfl (lv_at hl 0 rfl) ?_
  refine va_get (v := .ref a.2.2.2) (C := RX0) (T := TX0) (N := 10) hx hb hts hiX0 hown hK hP 0 rfl rfl 2 (by decide) hk18 (fun _ h9 => h9) rfl dX0_letDropFall_1 ?_
  refine lv_iconst (v := 2) hx hb dX0_letDropFall_4 (by decide) ?_
  obtain ⟨v1, hv1, hf⟩ := bnd hf
  refine xa_iald hx hb hK hP hv1 3 0 rfl rfl dX0_letDropFall_5 ?_
  refine lv_aload_n hx hb dX0_letDropFall_6 rfl (lv_at hl 0 rfl) ?_
  refine va_get (v := .ref a.2.2.1) (C := RX0) (T := TX0) (N := 10) hx hb hts hiX0 hown hK hP 0 rfl rfl 1 (by decide) hk15 (fun _ h9 => h9) rfl dX0_letDropFall_7 ?_
  refine lv_bipush (v := 6) hx hb dX0_letDropFall_10 (by decide) ?_
  obtain ⟨v2, hv2, hf⟩ := bnd hf
  refine xa_iald hx hb hK hP hv2 2 0 rfl rfl dX0_letDropFall_12 ?_
  refine lv_icmp_lt (tgt := 38) hx hb dX0_letDropFall_13 (by decide) (fun c3 => ?_) (fun c3 => ?_)
  · replace hf := ifT hf c3
    obtain rfl := Option.some.inj hf
    exact hret _ _ _ _ dX0_letDropFall_38 hP hD hS
  · replace hf := ifF hf c3
    refine lv_aload_n hx hb dX0_letDropFall_16 rfl (lv_at hl 0 rfl) ?_
    refine lv_iconst (v := 2) hx hb dX0_letDropFall_17 (by decide) ?_
    refine lv_iconst (v := 3) hx hb dX0_letDropFall_18 (by decide) ?_
    refine lv_aload_n hx hb dX0_letDropFall_19 rfl (lv_at hl 0 rfl) ?_
    refine va_get (v := .ref a.2.2.2) (C := RX0) (T := TX0) (N := 10) hx hb hts hiX0 hown hK hP 0 rfl rfl 2 (by decide) hk18 (fun _ h9 => h9) rfl dX0_letDropFall_20 ?_
    refine lv_iconst (v := 2) hx hb dX0_letDropFall_23 (by decide) ?_
    obtain ⟨v4, hv4, hf⟩ := bnd hf
    refine xa_iald hx hb hK hP hv4 3 0 rfl rfl dX0_letDropFall_24 ?_
    obtain ⟨F5, hF5, hf⟩ := bnd hf
    refine xcallV (As := [.int 2, .int 3, .int v4]) (rest := []) (wc := (wF ks a F)) (w1 := (wF ks a F5)) (wr := ([] : va_W)) (wn := (wF ks a F5)) ⟨hx, hb, hml, hown, hts⟩ (c_X0_move k a F 2 3 v4 F5 hF5) (cwV 3 hts gX0_letDropFall_X0_move rfl rfl rfl (by decide +kernel) ⟨Nat.le_of_ble_eq_true rfl, Nat.le_of_ble_eq_true rfl⟩) hX hP hD hS hA [0, 1, 2, 3] [] [0, 1, 2, 3] rfl rfl rfl ⟨by decide, by decide, by decide⟩ (by decide) (ci := 0) (q0 := 0) rfl rfl rfl hl.1 rfl (Nat.le_of_ble_eq_true rfl) dX0_letDropFall_25 ⟨Nat.zero_le _, Nat.zero_le _⟩ (fun H locs hP hD hS => ?_)
    refine lv_aload_n hx hb dX0_letDropFall_28 rfl (lv_at hl 0 rfl) ?_
    refine lv_dup hx hb dX0_letDropFall_29 rfl ?_
    refine va_get (v := .int (FD.drops F5)) (C := RX0) (T := TX0) (N := 10) hx hb hts hiX0 hown hK hP 0 rfl rfl 5 (by decide) hk37 (fun _ h9 => h9) rfl dX0_letDropFall_30 ?_
    refine lv_iconst (v := 1) hx hb dX0_letDropFall_33 (by decide) ?_
    refine lv_iadd hx hb dX0_letDropFall_34 ?_
    refine xputI (wn := (wF ks a (mkFD (FD.th F5) (FD.st F5) (FD.ac F5) (FD.rows F5) (FD.ticks F5) ((FD.drops F5) + 1) (FD.bursts F5) (FD.burstReason F5) (FD.burstNumber F5) (FD.ticksBeforeBurst F5)))) (C := RX0) (T := TX0) (N := 10) hx hb hts hiX0 tyX0 tyX0_ok nmX0 hown hK hP hD hS 0 rfl rfl 5 (by decide) hk37 (fun _ h9 => h9) rfl (by decide +kernel) (Nat.le_of_ble_eq_true rfl) dX0_letDropFall_35 rfl (fun H locs hP hD hS => ?_)
    obtain rfl := Option.some.inj hf
    exact hret _ _ _ _ dX0_letDropFall_38 hP hD hS

/-! ===== X0_firstTooThin ===== -/
def p_X0_firstTooThin_L2 (k : Nat) (F : FD) : Nat → (Int32) → Option (Int32)
  | 0, _ => none
  | n + 1, x1 =>
    if (FD.rows F) ≤ x1 then (some (-1)) else ((ald (FD.th F) 24 x1).bind fun v2 => (ald (FD.st F) 7 4).bind fun v3 => if v3 ≤ v2 then (p_X0_firstTooThin_L2 k F n (x1 + 1)) else (some x1))

def p_X0_firstTooThin (k : Nat) (F : FD) : Option (Int32) :=
  p_X0_firstTooThin_L2 k F k 0

set_option maxHeartbeats 4000000 in
set_option maxRecDepth 100000 in
theorem c_X0_firstTooThin {l : Launch} {D : va_G} {ks : K3} (k : Nat) (a : AF) (F : FD) (r : Int32) (hf : p_X0_firstTooThin k F = some r) : MetR l yX0_firstTooThin wsX0_firstTooThin { frames := 0, cells := 0, slots := 0, locals := 0 } D ks [.ref a.1] (wF ks a F) r True := by
  refine MetR.of (cc := cX0_firstTooThin) (maxL := 2) (ret := (some .int)) (by decide +kernel) rfl (Nat.le_of_ble_eq_true rfl) ?_ ⟨_, rfl⟩
  intro p e s m below meth c Q hx hb hml hts hown hP hX hret ls hl
  have hK := hX.1
  replace hl : lv_has ls 2 [(0, .ref a.1)] := hl
  have hiX0 : ∀ w ∈ wsX00, w ∈ wsX0_firstTooThin := by decide +kernel
  have hk30 := hts (.fieldLink RX0 30 "SoapFilm$Film" "rows" "I") (by decide +kernel)
  have hk9 := hts (.fieldLink RX0 9 "SoapFilm$Film" "thickness" "[I") (by decide +kernel)
  have hk15 := hts (.fieldLink RX0 15 "SoapFilm$Film" "settings" "[I") (by decide +kernel)
  unfold p_X0_firstTooThin at hf
  refine lv_iconst (v := 0) hx hb dX0_firstTooThin_0 (by decide) ?_
  refine lv_istore_n (lv' := [(1, .int 0), (0, .ref a.1)]) hx hb dX0_firstTooThin_1 rfl hl (by decide) rfl (fun ls hl => ?_)
  have L2 : ∀ (n : Nat) (x1q2 : Int32) (ls : Array Slot), p_X0_firstTooThin_L2 k F n x1q2 = some r → lv_has ls 2 [(0, .ref a.1), (1, .int x1q2)] → W p l e { frames := 0, cells := 0, slots := 0, locals := 0 } s m ([.ref a.1] : List Value).toArray below meth c s.heap [] 0 0 Q (F0 m 2 ls []) := by
    intro n
    induction n with
    | zero => intro x1q2 ls hf; cases hf
    | succ n ih2 =>
      intro x1q2 ls hf hl
      rw [p_X0_firstTooThin_L2] at hf
      refine lv_iload_n hx hb dX0_firstTooThin_2 rfl (lv_at hl 1 rfl) ?_
      refine lv_aload_n hx hb dX0_firstTooThin_3 rfl (lv_at hl 0 rfl) ?_
      refine va_get (v := .int (FD.rows F)) (C := RX0) (T := TX0) (N := 10) hx hb hts hiX0 hown hK hP 0 rfl rfl 3 (by decide) hk30 (fun _ h9 => h9) rfl dX0_firstTooThin_4 ?_
      refine lv_icmp_ge (tgt := 33) hx hb dX0_firstTooThin_7 (by decide) (fun c1 => ?_) (fun c1 => ?_)
      · replace hf := ifT hf c1
        refine lv_iconst (v := (-1)) hx hb dX0_firstTooThin_33 (by decide) ?_
        obtain rfl := Option.some.inj hf
        exact hret trivial _ _ dX0_firstTooThin_34 (fun ty h => by cases h; rfl)
      · replace hf := ifF hf c1
        refine lv_aload_n hx hb dX0_firstTooThin_10 rfl (lv_at hl 0 rfl) ?_
        refine va_get (v := .ref a.2.1) (C := RX0) (T := TX0) (N := 10) hx hb hts hiX0 hown hK hP 0 rfl rfl 0 (by decide) hk9 (fun _ h9 => h9) rfl dX0_firstTooThin_11 ?_
        refine lv_iload_n hx hb dX0_firstTooThin_14 rfl (lv_at hl 1 rfl) ?_
        obtain ⟨v2, hv2, hf⟩ := bnd hf
        refine xa_iald hx hb hK hP hv2 1 0 rfl rfl dX0_firstTooThin_15 ?_
        refine lv_aload_n hx hb dX0_firstTooThin_16 rfl (lv_at hl 0 rfl) ?_
        refine va_get (v := .ref a.2.2.1) (C := RX0) (T := TX0) (N := 10) hx hb hts hiX0 hown hK hP 0 rfl rfl 1 (by decide) hk15 (fun _ h9 => h9) rfl dX0_firstTooThin_17 ?_
        refine lv_iconst (v := 4) hx hb dX0_firstTooThin_20 (by decide) ?_
        obtain ⟨v3, hv3, hf⟩ := bnd hf
        refine xa_iald hx hb hK hP hv3 2 0 rfl rfl dX0_firstTooThin_21 ?_
        refine lv_icmp_ge (tgt := 27) hx hb dX0_firstTooThin_22 (by decide) (fun c4 => ?_) (fun c4 => ?_)
        · replace hf := ifT hf c4
          refine lv_iinc (v := (x1q2 + 1)) (lv' := [(1, .int (x1q2 + 1)), (0, .ref a.1)]) hx hb dX0_firstTooThin_27 hl (k := 1) rfl rfl (by decide) rfl (fun ls hl => ?_)
          refine lv_goto (tgt := 2) hx hb dX0_firstTooThin_30 (by decide) ?_
          exact ih2 _  _ hf (lv_sub hl [1, 0] rfl)
        · replace hf := ifF hf c4
          refine lv_iload_n hx hb dX0_firstTooThin_25 rfl (lv_at hl 1 rfl) ?_
          obtain rfl := Option.some.inj hf
          exact hret trivial _ _ dX0_firstTooThin_26 (fun ty h => by cases h; rfl)
  exact L2 k _ _ hf (lv_sub hl [1, 0] rfl)

/-! ===== X0_burst ===== -/
def p_X0_burst (k : Nat) (F : FD) (x1 : Int32) (x2 : Int32) : Option (FD) :=
  (p_X0_endFilm k F 5).bind fun F1 => some (mkFD (FD.th F1) (FD.st F1) (FD.ac F1) (FD.rows F1) (FD.ticks F1) (FD.drops F1) ((FD.bursts F1) + 1) x1 x2 (FD.ticks F1))

set_option maxHeartbeats 4000000 in
set_option maxRecDepth 100000 in
theorem c_X0_burst {l : Launch} {D : va_G} {ks : K3} (k : Nat) (a : AF) (F : FD) (x1 : Int32) (x2 : Int32) (rF : FD) (hf : p_X0_burst k F x1 x2 = some rF) : MetV l yX0_burst wsX0_burst { frames := 2, cells := 0, slots := 0, locals := 44 } D ks [.ref a.1, .int x1, .int x2] (wF ks a F) (wF ks a rF) := by
  refine MetV.of (cc := cX0_burst) (maxL := 3) (by decide +kernel) rfl (Nat.le_of_ble_eq_true rfl) ?_
  intro p e s m below meth c Q A hx hb hml hts hown hP hX hD hA hret ls hl
  have hK := hX.1
  replace hl : lv_has ls 3 [(0, .ref a.1), (1, .int x1), (2, .int x2)] := hl
  have hS : va_S A s.heap s.heap [] := va_S.rf
  have hiX0 : ∀ w ∈ wsX00, w ∈ wsX0_burst := by decide +kernel
  have hk40 := hts (.fieldLink RX0 40 "SoapFilm$Film" "bursts" "I") (by decide +kernel)
  have hk43 := hts (.fieldLink RX0 43 "SoapFilm$Film" "burstReason" "I") (by decide +kernel)
  have hk46 := hts (.fieldLink RX0 46 "SoapFilm$Film" "burstNumber" "I") (by decide +kernel)
  have hk34 := hts (.fieldLink RX0 34 "SoapFilm$Film" "ticks" "I") (by decide +kernel)
  have hk49 := hts (.fieldLink RX0 49 "SoapFilm$Film" "ticksBeforeBurst" "I") (by decide +kernel)
  unfold p_X0_burst at hf
  refine lv_aload_n hx hb dX0_burst_0 rfl (lv_at hl 0 rfl) ?_
  refine lv_iconst (v := 5) hx hb dX0_burst_1 (by decide) ?_
  obtain ⟨F1, hF1, hf⟩ := bnd hf
  refine xcallV (As := [.int 5]) (rest := []) (wc := (wF ks a F)) (w1 := (wF ks a F1)) (wr := ([] : va_W)) (wn := (wF ks a F1)) ⟨hx, hb, hml, hown, hts⟩ (c_X0_endFilm k a F 5 F1 hF1) (cwV 1 hts gX0_burst_X0_endFilm rfl rfl rfl (by decide +kernel) ⟨Nat.le_of_ble_eq_true rfl, Nat.le_of_ble_eq_true rfl⟩) hX hP hD hS hA [0, 1, 2, 3] [] [0, 1, 2, 3] rfl rfl rfl ⟨by decide, by decide, by decide⟩ (by decide) (ci := 0) (q0 := 0) rfl rfl rfl hl.1 rfl (Nat.le_of_ble_eq_true rfl) dX0_burst_2 ⟨Nat.zero_le _, Nat.zero_le _⟩ (fun H locs hP hD hS => ?_)
  refine lv_aload_n hx hb dX0_burst_5 rfl (lv_at hl 0 rfl) ?_
  refine lv_dup hx hb dX0_burst_6 rfl ?_
  refine va_get (v := .int (FD.bursts F1)) (C := RX0) (T := TX0) (N := 10) hx hb hts hiX0 hown hK hP 0 rfl rfl 6 (by decide) hk40 (fun _ h9 => h9) rfl dX0_burst_7 ?_
  refine lv_iconst (v := 1) hx hb dX0_burst_10 (by decide) ?_
  refine lv_iadd hx hb dX0_burst_11 ?_
  refine xputI (wn := (wF ks a (mkFD (FD.th F1) (FD.st F1) (FD.ac F1) (FD.rows F1) (FD.ticks F1) (FD.drops F1) ((FD.bursts F1) + 1) (FD.burstReason F1) (FD.burstNumber F1) (FD.ticksBeforeBurst F1)))) (C := RX0) (T := TX0) (N := 10) hx hb hts hiX0 tyX0 tyX0_ok nmX0 hown hK hP hD hS 0 rfl rfl 6 (by decide) hk40 (fun _ h9 => h9) rfl (by decide +kernel) (Nat.le_of_ble_eq_true rfl) dX0_burst_12 rfl (fun H locs hP hD hS => ?_)
  refine lv_aload_n hx hb dX0_burst_15 rfl (lv_at hl 0 rfl) ?_
  refine lv_iload_n hx hb dX0_burst_16 rfl (lv_at hl 1 rfl) ?_
  refine xputI (wn := (wF ks a (mkFD (FD.th F1) (FD.st F1) (FD.ac F1) (FD.rows F1) (FD.ticks F1) (FD.drops F1) ((FD.bursts F1) + 1) x1 (FD.burstNumber F1) (FD.ticksBeforeBurst F1)))) (C := RX0) (T := TX0) (N := 10) hx hb hts hiX0 tyX0 tyX0_ok nmX0 hown hK hP hD hS 0 rfl rfl 7 (by decide) hk43 (fun _ h9 => h9) rfl (by decide +kernel) (Nat.le_of_ble_eq_true rfl) dX0_burst_17 rfl (fun H locs hP hD hS => ?_)
  refine lv_aload_n hx hb dX0_burst_20 rfl (lv_at hl 0 rfl) ?_
  refine lv_iload_n hx hb dX0_burst_21 rfl (lv_at hl 2 rfl) ?_
  refine xputI (wn := (wF ks a (mkFD (FD.th F1) (FD.st F1) (FD.ac F1) (FD.rows F1) (FD.ticks F1) (FD.drops F1) ((FD.bursts F1) + 1) x1 x2 (FD.ticksBeforeBurst F1)))) (C := RX0) (T := TX0) (N := 10) hx hb hts hiX0 tyX0 tyX0_ok nmX0 hown hK hP hD hS 0 rfl rfl 8 (by decide) hk46 (fun _ h9 => h9) rfl (by decide +kernel) (Nat.le_of_ble_eq_true rfl) dX0_burst_22 rfl (fun H locs hP hD hS => ?_)
  refine lv_aload_n hx hb dX0_burst_25 rfl (lv_at hl 0 rfl) ?_
  refine lv_aload_n hx hb dX0_burst_26 rfl (lv_at hl 0 rfl) ?_
  refine va_get (v := .int (FD.ticks F1)) (C := RX0) (T := TX0) (N := 10) hx hb hts hiX0 hown hK hP 0 rfl rfl 4 (by decide) hk34 (fun _ h9 => h9) rfl dX0_burst_27 ?_
  refine xputI (wn := (wF ks a (mkFD (FD.th F1) (FD.st F1) (FD.ac F1) (FD.rows F1) (FD.ticks F1) (FD.drops F1) ((FD.bursts F1) + 1) x1 x2 (FD.ticks F1)))) (C := RX0) (T := TX0) (N := 10) hx hb hts hiX0 tyX0 tyX0_ok nmX0 hown hK hP hD hS 0 rfl rfl 9 (by decide) hk49 (fun _ h9 => h9) rfl (by decide +kernel) (Nat.le_of_ble_eq_true rfl) dX0_burst_30 rfl (fun H locs hP hD hS => ?_)
  obtain rfl := Option.some.inj hf
  exact hret _ _ _ _ dX0_burst_33 hP hD hS

/-! ===== X0_burstIfDue ===== -/
def p_X0_burstIfDue (k : Nat) (F : FD) : Option (FD) :=
  (p_X0_firstTooThin k F).bind fun v1 => (p_X0_blackRows k F).bind fun v2 => if v1 < 0 then ((ald (FD.st F) 7 5).bind fun v4 => if v2 ≤ v4 then (some F) else ((p_X0_burst k F 2 v2).bind fun F6 => some F6)) else ((p_X0_burst k F 1 v1).bind fun F7 => some F7)

set_option maxHeartbeats 4000000 in
set_option maxRecDepth 100000 in
theorem c_X0_burstIfDue {l : Launch} {D : va_G} {ks : K3} (k : Nat) (a : AF) (F : FD) (rF : FD) (hf : p_X0_burstIfDue k F = some rF) : MetV l yX0_burstIfDue wsX0_burstIfDue { frames := 3, cells := 0, slots := 0, locals := 66 } D ks [.ref a.1] (wF ks a F) (wF ks a rF) := by
  refine MetV.of (cc := cX0_burstIfDue) (maxL := 3) (by decide +kernel) rfl (Nat.le_of_ble_eq_true rfl) ?_
  intro p e s m below meth c Q A hx hb hml hts hown hP hX hD hA hret ls hl
  have hK := hX.1
  replace hl : lv_has ls 3 [(0, .ref a.1)] := hl
  have hS : va_S A s.heap s.heap [] := va_S.rf
  have hiX0 : ∀ w ∈ wsX00, w ∈ wsX0_burstIfDue := by decide +kernel
  have hk15 := hts (.fieldLink RX0 15 "SoapFilm$Film" "settings" "[I") (by decide +kernel)
  unfold p_X0_burstIfDue at hf
  refine lv_aload_n hx hb dX0_burstIfDue_0 rfl (lv_at hl 0 rfl) ?_
  obtain ⟨v1, hv1, hf⟩ := bnd hf
  refine xcallRV (As := []) (rest := []) (wc := (wF ks a F)) ⟨hx, hb, hml, hown, hts⟩ (c_X0_firstTooThin k a F v1 hv1) (cwV 0 hts gX0_burstIfDue_X0_firstTooThin rfl rfl rfl (by decide +kernel) ⟨Nat.le_of_ble_eq_true rfl, Nat.le_of_ble_eq_true rfl⟩) hX hP (ci := 0) (q0 := 0) rfl rfl rfl hl.1 rfl (Nat.le_of_ble_eq_true rfl) dX0_burstIfDue_1 ⟨Nat.zero_le _, Nat.zero_le _⟩ (fun zv1 => ?_)
  refine lv_istore_n (lv' := [(1, .int v1), (0, .ref a.1)]) hx hb dX0_burstIfDue_4 rfl hl (by decide) rfl (fun ls hl => ?_)
  refine lv_aload_n hx hb dX0_burstIfDue_5 rfl (lv_at hl 1 rfl) ?_
  obtain ⟨v2, hv2, hf⟩ := bnd hf
  refine xcallRV (As := []) (rest := []) (wc := (wF ks a F)) ⟨hx, hb, hml, hown, hts⟩ (c_X0_blackRows k a F v2 hv2) (cwV 0 hts gX0_burstIfDue_X0_blackRows rfl rfl rfl (by decide +kernel) ⟨Nat.le_of_ble_eq_true rfl, Nat.le_of_ble_eq_true rfl⟩) hX hP (ci := 0) (q0 := 0) rfl rfl rfl hl.1 rfl (Nat.le_of_ble_eq_true rfl) dX0_burstIfDue_6 ⟨Nat.zero_le _, Nat.zero_le _⟩ (fun zv2 => ?_)
  refine lv_istore_n (lv' := [(2, .int v2), (1, .int v1), (0, .ref a.1)]) hx hb dX0_burstIfDue_9 rfl hl (by decide) rfl (fun ls hl => ?_)
  refine lv_iload_n hx hb dX0_burstIfDue_10 rfl (lv_at hl 1 rfl) ?_
  refine lv_if_lt (tgt := 23) hx hb dX0_burstIfDue_11 (by decide) (fun c3 => ?_) (fun c3 => ?_)
  · replace hf := ifT hf c3
    refine lv_iload_n hx hb dX0_burstIfDue_23 rfl (lv_at hl 0 rfl) ?_
    refine lv_aload_n hx hb dX0_burstIfDue_24 rfl (lv_at hl 2 rfl) ?_
    refine va_get (v := .ref a.2.2.1) (C := RX0) (T := TX0) (N := 10) hx hb hts hiX0 hown hK hP 0 rfl rfl 1 (by decide) hk15 (fun _ h9 => h9) rfl dX0_burstIfDue_25 ?_
    refine lv_iconst (v := 5) hx hb dX0_burstIfDue_28 (by decide) ?_
    obtain ⟨v4, hv4, hf⟩ := bnd hf
    refine xa_iald hx hb hK hP hv4 2 0 rfl rfl dX0_burstIfDue_29 ?_
    refine lv_icmp_le (tgt := 39) hx hb dX0_burstIfDue_30 (by decide) (fun c5 => ?_) (fun c5 => ?_)
    · replace hf := ifT hf c5
      obtain rfl := Option.some.inj hf
      exact hret _ _ _ _ dX0_burstIfDue_39 hP hD hS
    · replace hf := ifF hf c5
      refine lv_aload_n hx hb dX0_burstIfDue_33 rfl (lv_at hl 2 rfl) ?_
      refine lv_iconst (v := 2) hx hb dX0_burstIfDue_34 (by decide) ?_
      refine lv_iload_n hx hb dX0_burstIfDue_35 rfl (lv_at hl 0 rfl) ?_
      obtain ⟨F6, hF6, hf⟩ := bnd hf
      refine xcallV (As := [.int 2, .int v2]) (rest := []) (wc := (wF ks a F)) (w1 := (wF ks a F6)) (wr := ([] : va_W)) (wn := (wF ks a F6)) ⟨hx, hb, hml, hown, hts⟩ (c_X0_burst k a F 2 v2 F6 hF6) (cwV 2 hts gX0_burstIfDue_X0_burst rfl rfl rfl (by decide +kernel) ⟨Nat.le_of_ble_eq_true rfl, Nat.le_of_ble_eq_true rfl⟩) hX hP hD hS hA [0, 1, 2, 3] [] [0, 1, 2, 3] rfl rfl rfl ⟨by decide, by decide, by decide⟩ (by decide) (ci := 0) (q0 := 0) rfl rfl rfl hl.1 rfl (Nat.le_of_ble_eq_true rfl) dX0_burstIfDue_36 ⟨Nat.zero_le _, Nat.zero_le _⟩ (fun H locs hP hD hS => ?_)
      obtain rfl := Option.some.inj hf
      exact hret _ _ _ _ dX0_burstIfDue_39 hP hD hS
  · replace hf := ifF hf c3
    refine lv_aload_n hx hb dX0_burstIfDue_14 rfl (lv_at hl 2 rfl) ?_
    refine lv_iconst (v := 1) hx hb dX0_burstIfDue_15 (by decide) ?_
    refine lv_iload_n hx hb dX0_burstIfDue_16 rfl (lv_at hl 1 rfl) ?_
    obtain ⟨F7, hF7, hf⟩ := bnd hf
    refine xcallV (As := [.int 1, .int v1]) (rest := []) (wc := (wF ks a F)) (w1 := (wF ks a F7)) (wr := ([] : va_W)) (wn := (wF ks a F7)) ⟨hx, hb, hml, hown, hts⟩ (c_X0_burst k a F 1 v1 F7 hF7) (cwV 2 hts gX0_burstIfDue_X0_burst rfl rfl rfl (by decide +kernel) ⟨Nat.le_of_ble_eq_true rfl, Nat.le_of_ble_eq_true rfl⟩) hX hP hD hS hA [0, 1, 2, 3] [] [0, 1, 2, 3] rfl rfl rfl ⟨by decide, by decide, by decide⟩ (by decide) (ci := 0) (q0 := 0) rfl rfl rfl hl.1 rfl (Nat.le_of_ble_eq_true rfl) dX0_burstIfDue_17 ⟨Nat.zero_le _, Nat.zero_le _⟩ (fun H locs hP hD hS => ?_)
    refine lv_goto (tgt := 39) hx hb dX0_burstIfDue_20 (by decide) ?_
    obtain rfl := Option.some.inj hf
    exact hret _ _ _ _ dX0_burstIfDue_39 hP hD hS

/-! ===== X0_tick ===== -/
def p_X0_tick (k : Nat) (F : FD) : Option (FD) :=
  if (FD.rows F) ≤ 0 then (some (mkFD (FD.th F) (FD.st F) (FD.ac F) (FD.rows F) ((FD.ticks F) + 1) (FD.drops F) (FD.bursts F) (FD.burstReason F) (FD.burstNumber F) (FD.ticksBeforeBurst F))) else ((p_X0_drain k F).bind fun F2 => (p_X0_runEdges k F2).bind fun F3 => (p_X0_dry k F3).bind fun F4 => (p_X0_letDropFall k F4).bind fun F5 => (p_X0_burstIfDue k F5).bind fun F6 => some (mkFD (FD.th F6) (FD.st F6) (FD.ac F6) (FD.rows F6) ((FD.ticks F6) + 1) (FD.drops F6) (FD.bursts F6) (FD.burstReason F6) (FD.burstNumber F6) (FD.ticksBeforeBurst F6)))

set_option maxHeartbeats 4000000 in
set_option maxRecDepth 100000 in
theorem c_X0_tick {l : Launch} {D : va_G} {ks : K3} (k : Nat) (a : AF) (F : FD) (rF : FD) (hf : p_X0_tick k F = some rF) : MetV l yX0_tick wsX0_tick { frames := 4, cells := 0, slots := 0, locals := 95 } D ks [.ref a.1] (wF ks a F) (wF ks a rF) := by
  refine MetV.of (cc := cX0_tick) (maxL := 1) (by decide +kernel) rfl (Nat.le_of_ble_eq_true rfl) ?_
  intro p e s m below meth c Q A hx hb hml hts hown hP hX hD hA hret ls hl
  have hK := hX.1
  replace hl : lv_has ls 1 [(0, .ref a.1)] := hl
  have hS : va_S A s.heap s.heap [] := va_S.rf
  have hiX0 : ∀ w ∈ wsX00, w ∈ wsX0_tick := by decide +kernel
  have hk30 := hts (.fieldLink RX0 30 "SoapFilm$Film" "rows" "I") (by decide +kernel)
  have hk34 := hts (.fieldLink RX0 34 "SoapFilm$Film" "ticks" "I") (by decide +kernel)
  unfold p_X0_tick at hf
  refine lv_aload_n hx hb dX0_tick_0 rfl (lv_at hl 0 rfl) ?_
  refine va_get (v := .int (FD.rows F)) (C := RX0) (T := TX0) (N := 10) hx hb hts hiX0 hown hK hP 0 rfl rfl 3 (by decide) hk30 (fun _ h9 => h9) rfl dX0_tick_1 ?_
  refine lv_if_le (tgt := 27) hx hb dX0_tick_4 (by decide) (fun c1 => ?_) (fun c1 => ?_)
  · replace hf := ifT hf c1
    refine lv_aload_n hx hb dX0_tick_27 rfl (lv_at hl 0 rfl) ?_
    refine lv_dup hx hb dX0_tick_28 rfl ?_
    refine va_get (v := .int (FD.ticks F)) (C := RX0) (T := TX0) (N := 10) hx hb hts hiX0 hown hK hP 0 rfl rfl 4 (by decide) hk34 (fun _ h9 => h9) rfl dX0_tick_29 ?_
    refine lv_iconst (v := 1) hx hb dX0_tick_32 (by decide) ?_
    refine lv_iadd hx hb dX0_tick_33 ?_
    refine xputI (wn := (wF ks a (mkFD (FD.th F) (FD.st F) (FD.ac F) (FD.rows F) ((FD.ticks F) + 1) (FD.drops F) (FD.bursts F) (FD.burstReason F) (FD.burstNumber F) (FD.ticksBeforeBurst F)))) (C := RX0) (T := TX0) (N := 10) hx hb hts hiX0 tyX0 tyX0_ok nmX0 hown hK hP hD hS 0 rfl rfl 4 (by decide) hk34 (fun _ h9 => h9) rfl (by decide +kernel) (Nat.le_of_ble_eq_true rfl) dX0_tick_34 rfl (fun H locs hP hD hS => ?_)
    obtain rfl := Option.some.inj hf
    exact hret _ _ _ _ dX0_tick_37 hP hD hS
  · replace hf := ifF hf c1
    refine lv_aload_n hx hb dX0_tick_7 rfl (lv_at hl 0 rfl) ?_
    obtain ⟨F2, hF2, hf⟩ := bnd hf
    refine xcallV (As := []) (rest := []) (wc := (wF ks a F)) (w1 := (wF ks a F2)) (wr := ([] : va_W)) (wn := (wF ks a F2)) ⟨hx, hb, hml, hown, hts⟩ (c_X0_drain k a F F2 hF2) (cwV 0 hts gX0_tick_X0_drain rfl rfl rfl (by decide +kernel) ⟨Nat.le_of_ble_eq_true rfl, Nat.le_of_ble_eq_true rfl⟩) hX hP hD hS hA [0, 1, 2, 3] [] [0, 1, 2, 3] rfl rfl rfl ⟨by decide, by decide, by decide⟩ (by decide) (ci := 0) (q0 := 0) rfl rfl rfl hl.1 rfl (Nat.le_of_ble_eq_true rfl) dX0_tick_8 ⟨Nat.zero_le _, Nat.zero_le _⟩ (fun H locs hP hD hS => ?_)
    refine lv_aload_n hx hb dX0_tick_11 rfl (lv_at hl 0 rfl) ?_
    obtain ⟨F3, hF3, hf⟩ := bnd hf
    refine xcallV (As := []) (rest := []) (wc := (wF ks a F2)) (w1 := (wF ks a F3)) (wr := ([] : va_W)) (wn := (wF ks a F3)) ⟨hx, hb, hml, hown, hts⟩ (c_X0_runEdges k a F2 F3 hF3) (cwV 0 hts gX0_tick_X0_runEdges rfl rfl rfl (by decide +kernel) ⟨Nat.le_of_ble_eq_true rfl, Nat.le_of_ble_eq_true rfl⟩) hX hP hD hS hA [0, 1, 2, 3] [] [0, 1, 2, 3] rfl rfl rfl ⟨by decide, by decide, by decide⟩ (by decide) (ci := 0) (q0 := 0) rfl rfl rfl hl.1 rfl (Nat.le_of_ble_eq_true rfl) dX0_tick_12 ⟨Nat.zero_le _, Nat.zero_le _⟩ (fun H locs hP hD hS => ?_)
    refine lv_aload_n hx hb dX0_tick_15 rfl (lv_at hl 0 rfl) ?_
    obtain ⟨F4, hF4, hf⟩ := bnd hf
    refine xcallV (As := []) (rest := []) (wc := (wF ks a F3)) (w1 := (wF ks a F4)) (wr := ([] : va_W)) (wn := (wF ks a F4)) ⟨hx, hb, hml, hown, hts⟩ (c_X0_dry k a F3 F4 hF4) (cwV 0 hts gX0_tick_X0_dry rfl rfl rfl (by decide +kernel) ⟨Nat.le_of_ble_eq_true rfl, Nat.le_of_ble_eq_true rfl⟩) hX hP hD hS hA [0, 1, 2, 3] [] [0, 1, 2, 3] rfl rfl rfl ⟨by decide, by decide, by decide⟩ (by decide) (ci := 0) (q0 := 0) rfl rfl rfl hl.1 rfl (Nat.le_of_ble_eq_true rfl) dX0_tick_16 ⟨Nat.zero_le _, Nat.zero_le _⟩ (fun H locs hP hD hS => ?_)
    refine lv_aload_n hx hb dX0_tick_19 rfl (lv_at hl 0 rfl) ?_
    obtain ⟨F5, hF5, hf⟩ := bnd hf
    refine xcallV (As := []) (rest := []) (wc := (wF ks a F4)) (w1 := (wF ks a F5)) (wr := ([] : va_W)) (wn := (wF ks a F5)) ⟨hx, hb, hml, hown, hts⟩ (c_X0_letDropFall k a F4 F5 hF5) (cwV 0 hts gX0_tick_X0_letDropFall rfl rfl rfl (by decide +kernel) ⟨Nat.le_of_ble_eq_true rfl, Nat.le_of_ble_eq_true rfl⟩) hX hP hD hS hA [0, 1, 2, 3] [] [0, 1, 2, 3] rfl rfl rfl ⟨by decide, by decide, by decide⟩ (by decide) (ci := 0) (q0 := 0) rfl rfl rfl hl.1 rfl (Nat.le_of_ble_eq_true rfl) dX0_tick_20 ⟨Nat.zero_le _, Nat.zero_le _⟩ (fun H locs hP hD hS => ?_)
    refine lv_aload_n hx hb dX0_tick_23 rfl (lv_at hl 0 rfl) ?_
    obtain ⟨F6, hF6, hf⟩ := bnd hf
    refine xcallV (As := []) (rest := []) (wc := (wF ks a F5)) (w1 := (wF ks a F6)) (wr := ([] : va_W)) (wn := (wF ks a F6)) ⟨hx, hb, hml, hown, hts⟩ (c_X0_burstIfDue k a F5 F6 hF6) (cwV 0 hts gX0_tick_X0_burstIfDue rfl rfl rfl (by decide +kernel) ⟨Nat.le_of_ble_eq_true rfl, Nat.le_of_ble_eq_true rfl⟩) hX hP hD hS hA [0, 1, 2, 3] [] [0, 1, 2, 3] rfl rfl rfl ⟨by decide, by decide, by decide⟩ (by decide) (ci := 0) (q0 := 0) rfl rfl rfl hl.1 rfl (Nat.le_of_ble_eq_true rfl) dX0_tick_24 ⟨Nat.zero_le _, Nat.zero_le _⟩ (fun H locs hP hD hS => ?_)
    refine lv_aload_n hx hb dX0_tick_27 rfl (lv_at hl 0 rfl) ?_
    refine lv_dup hx hb dX0_tick_28 rfl ?_
    refine va_get (v := .int (FD.ticks F6)) (C := RX0) (T := TX0) (N := 10) hx hb hts hiX0 hown hK hP 0 rfl rfl 4 (by decide) hk34 (fun _ h9 => h9) rfl dX0_tick_29 ?_
    refine lv_iconst (v := 1) hx hb dX0_tick_32 (by decide) ?_
    refine lv_iadd hx hb dX0_tick_33 ?_
    refine xputI (wn := (wF ks a (mkFD (FD.th F6) (FD.st F6) (FD.ac F6) (FD.rows F6) ((FD.ticks F6) + 1) (FD.drops F6) (FD.bursts F6) (FD.burstReason F6) (FD.burstNumber F6) (FD.ticksBeforeBurst F6)))) (C := RX0) (T := TX0) (N := 10) hx hb hts hiX0 tyX0 tyX0_ok nmX0 hown hK hP hD hS 0 rfl rfl 4 (by decide) hk34 (fun _ h9 => h9) rfl (by decide +kernel) (Nat.le_of_ble_eq_true rfl) dX0_tick_34 rfl (fun H locs hP hD hS => ?_)
    obtain rfl := Option.some.inj hf
    exact hret _ _ _ _ dX0_tick_37 hP hD hS

/-! ===== X0_copyFrom ===== -/
def p_X0_copyFrom (k : Nat) (F : FD) (G : FD) : Option (FD) :=
  some (mkFD (FD.th G) (FD.st G) (FD.ac G) (FD.rows G) (FD.ticks G) (FD.drops G) (FD.bursts G) (FD.burstReason G) (FD.burstNumber G) (FD.ticksBeforeBurst G))

set_option maxHeartbeats 4000000 in
set_option maxRecDepth 100000 in
theorem c_X0_copyFrom {l : Launch} {D : va_G} {ks : K3} (k : Nat) (a : AF) (b : AF) (F : FD) (G : FD) (rF : FD) (hf : p_X0_copyFrom k F G = some rF) : MetV l yX0_copyFrom wsX0_copyFrom { frames := 1, cells := 0, slots := 0, locals := 26 } D ks [.ref a.1, .ref b.1] (wF ks a F ++ wF ks b G) (wF ks a rF ++ wF ks b G) := by
  refine MetV.of (cc := cX0_copyFrom) (maxL := 2) (by decide +kernel) rfl (Nat.le_of_ble_eq_true rfl) ?_
  intro p e s m below meth c Q A hx hb hml hts hown hP hX hD hA hret ls hl
  have hK := hX.1
  replace hl : lv_has ls 2 [(0, .ref a.1), (1, .ref b.1)] := hl
  have hS : va_S A s.heap s.heap [] := va_S.rf
  have hiX0 : ∀ w ∈ wsX00, w ∈ wsX0_copyFrom := by decide +kernel
  have hk9 := hts (.fieldLink RX0 9 "SoapFilm$Film" "thickness" "[I") (by decide +kernel)
  have hm24 := hts (.methodLink RX0 24 arraycopyName) (by decide +kernel)
  have hnat := hts (.native arraycopyName) (by decide +kernel)
  have hstat := hts (.static arraycopyName) (by decide +kernel)
  have hini := hts (.initialized "java/lang/System") (by decide +kernel)
  have hk15 := hts (.fieldLink RX0 15 "SoapFilm$Film" "settings" "[I") (by decide +kernel)
  have hk18 := hts (.fieldLink RX0 18 "SoapFilm$Film" "accounts" "[I") (by decide +kernel)
  have hk30 := hts (.fieldLink RX0 30 "SoapFilm$Film" "rows" "I") (by decide +kernel)
  have hk34 := hts (.fieldLink RX0 34 "SoapFilm$Film" "ticks" "I") (by decide +kernel)
  have hk37 := hts (.fieldLink RX0 37 "SoapFilm$Film" "drops" "I") (by decide +kernel)
  have hk40 := hts (.fieldLink RX0 40 "SoapFilm$Film" "bursts" "I") (by decide +kernel)
  have hk43 := hts (.fieldLink RX0 43 "SoapFilm$Film" "burstReason" "I") (by decide +kernel)
  have hk46 := hts (.fieldLink RX0 46 "SoapFilm$Film" "burstNumber" "I") (by decide +kernel)
  have hk49 := hts (.fieldLink RX0 49 "SoapFilm$Film" "ticksBeforeBurst" "I") (by decide +kernel)
  unfold p_X0_copyFrom at hf
  refine lv_aload_n hx hb dX0_copyFrom_0 rfl (lv_at hl 1 rfl) ?_
  refine va_get (v := .ref b.2.1) (C := RX0) (T := TX0) (N := 10) hx hb hts hiX0 hown hK hP 4 rfl rfl 0 (by decide) hk9 (fun _ h9 => h9) rfl dX0_copyFrom_1 ?_
  refine lv_iconst (v := 0) hx hb dX0_copyFrom_4 (by decide) ?_
  refine lv_aload_n hx hb dX0_copyFrom_5 rfl (lv_at hl 0 rfl) ?_
  refine va_get (v := .ref a.2.1) (C := RX0) (T := TX0) (N := 10) hx hb hts hiX0 hown hK hP 0 rfl rfl 0 (by decide) hk9 (fun _ h9 => h9) rfl dX0_copyFrom_6 ?_
  refine lv_iconst (v := 0) hx hb dX0_copyFrom_9 (by decide) ?_
  refine lv_bipush (v := 24) hx hb dX0_copyFrom_10 (by decide) ?_
  refine xcopy (wn := (wF ks a (mkFD (FD.th G) (FD.st F) (FD.ac F) (FD.rows F) (FD.ticks F) (FD.drops F) (FD.bursts F) (FD.burstReason F) (FD.burstNumber F) (FD.ticksBeforeBurst F)) ++ wF ks b G)) hx hb hml hl.1 hown hm24 hnat hstat hini hK hP hD hS 5 1 0 rfl rfl rfl (by decide) (by decide) (Nat.le_of_ble_eq_true rfl) (Nat.le_of_ble_eq_true rfl) dX0_copyFrom_12 rfl (fun H locs hP hD hS => ?_)
  refine lv_aload_n hx hb dX0_copyFrom_15 rfl (lv_at hl 1 rfl) ?_
  refine va_get (v := .ref b.2.2.1) (C := RX0) (T := TX0) (N := 10) hx hb hts hiX0 hown hK hP 4 rfl rfl 1 (by decide) hk15 (fun _ h9 => h9) rfl dX0_copyFrom_16 ?_
  refine lv_iconst (v := 0) hx hb dX0_copyFrom_19 (by decide) ?_
  refine lv_aload_n hx hb dX0_copyFrom_20 rfl (lv_at hl 0 rfl) ?_
  refine va_get (v := .ref a.2.2.1) (C := RX0) (T := TX0) (N := 10) hx hb hts hiX0 hown hK hP 0 rfl rfl 1 (by decide) hk15 (fun _ h9 => h9) rfl dX0_copyFrom_21 ?_
  refine lv_iconst (v := 0) hx hb dX0_copyFrom_24 (by decide) ?_
  refine lv_bipush (v := 7) hx hb dX0_copyFrom_25 (by decide) ?_
  refine xcopy (wn := (wF ks a (mkFD (FD.th G) (FD.st G) (FD.ac F) (FD.rows F) (FD.ticks F) (FD.drops F) (FD.bursts F) (FD.burstReason F) (FD.burstNumber F) (FD.ticksBeforeBurst F)) ++ wF ks b G)) hx hb hml hl.1 hown hm24 hnat hstat hini hK hP hD hS 6 2 0 rfl rfl rfl (by decide) (by decide) (Nat.le_of_ble_eq_true rfl) (Nat.le_of_ble_eq_true rfl) dX0_copyFrom_27 rfl (fun H locs hP hD hS => ?_)
  refine lv_aload_n hx hb dX0_copyFrom_30 rfl (lv_at hl 1 rfl) ?_
  refine va_get (v := .ref b.2.2.2) (C := RX0) (T := TX0) (N := 10) hx hb hts hiX0 hown hK hP 4 rfl rfl 2 (by decide) hk18 (fun _ h9 => h9) rfl dX0_copyFrom_31 ?_
  refine lv_iconst (v := 0) hx hb dX0_copyFrom_34 (by decide) ?_
  refine lv_aload_n hx hb dX0_copyFrom_35 rfl (lv_at hl 0 rfl) ?_
  refine va_get (v := .ref a.2.2.2) (C := RX0) (T := TX0) (N := 10) hx hb hts hiX0 hown hK hP 0 rfl rfl 2 (by decide) hk18 (fun _ h9 => h9) rfl dX0_copyFrom_36 ?_
  refine lv_iconst (v := 0) hx hb dX0_copyFrom_39 (by decide) ?_
  refine lv_bipush (v := 7) hx hb dX0_copyFrom_40 (by decide) ?_
  refine xcopy (wn := (wF ks a (mkFD (FD.th G) (FD.st G) (FD.ac G) (FD.rows F) (FD.ticks F) (FD.drops F) (FD.bursts F) (FD.burstReason F) (FD.burstNumber F) (FD.ticksBeforeBurst F)) ++ wF ks b G)) hx hb hml hl.1 hown hm24 hnat hstat hini hK hP hD hS 7 3 0 rfl rfl rfl (by decide) (by decide) (Nat.le_of_ble_eq_true rfl) (Nat.le_of_ble_eq_true rfl) dX0_copyFrom_42 rfl (fun H locs hP hD hS => ?_)
  refine lv_aload_n hx hb dX0_copyFrom_45 rfl (lv_at hl 0 rfl) ?_
  refine lv_aload_n hx hb dX0_copyFrom_46 rfl (lv_at hl 1 rfl) ?_
  refine va_get (v := .int (FD.rows G)) (C := RX0) (T := TX0) (N := 10) hx hb hts hiX0 hown hK hP 4 rfl rfl 3 (by decide) hk30 (fun _ h9 => h9) rfl dX0_copyFrom_47 ?_
  refine xputI (wn := (wF ks a (mkFD (FD.th G) (FD.st G) (FD.ac G) (FD.rows G) (FD.ticks F) (FD.drops F) (FD.bursts F) (FD.burstReason F) (FD.burstNumber F) (FD.ticksBeforeBurst F)) ++ wF ks b G)) (C := RX0) (T := TX0) (N := 10) hx hb hts hiX0 tyX0 tyX0_ok nmX0 hown hK hP hD hS 0 rfl rfl 3 (by decide) hk30 (fun _ h9 => h9) rfl (by decide +kernel) (Nat.le_of_ble_eq_true rfl) dX0_copyFrom_50 rfl (fun H locs hP hD hS => ?_)
  refine lv_aload_n hx hb dX0_copyFrom_53 rfl (lv_at hl 0 rfl) ?_
  refine lv_aload_n hx hb dX0_copyFrom_54 rfl (lv_at hl 1 rfl) ?_
  refine va_get (v := .int (FD.ticks G)) (C := RX0) (T := TX0) (N := 10) hx hb hts hiX0 hown hK hP 4 rfl rfl 4 (by decide) hk34 (fun _ h9 => h9) rfl dX0_copyFrom_55 ?_
  refine xputI (wn := (wF ks a (mkFD (FD.th G) (FD.st G) (FD.ac G) (FD.rows G) (FD.ticks G) (FD.drops F) (FD.bursts F) (FD.burstReason F) (FD.burstNumber F) (FD.ticksBeforeBurst F)) ++ wF ks b G)) (C := RX0) (T := TX0) (N := 10) hx hb hts hiX0 tyX0 tyX0_ok nmX0 hown hK hP hD hS 0 rfl rfl 4 (by decide) hk34 (fun _ h9 => h9) rfl (by decide +kernel) (Nat.le_of_ble_eq_true rfl) dX0_copyFrom_58 rfl (fun H locs hP hD hS => ?_)
  refine lv_aload_n hx hb dX0_copyFrom_61 rfl (lv_at hl 0 rfl) ?_
  refine lv_aload_n hx hb dX0_copyFrom_62 rfl (lv_at hl 1 rfl) ?_
  refine va_get (v := .int (FD.drops G)) (C := RX0) (T := TX0) (N := 10) hx hb hts hiX0 hown hK hP 4 rfl rfl 5 (by decide) hk37 (fun _ h9 => h9) rfl dX0_copyFrom_63 ?_
  refine xputI (wn := (wF ks a (mkFD (FD.th G) (FD.st G) (FD.ac G) (FD.rows G) (FD.ticks G) (FD.drops G) (FD.bursts F) (FD.burstReason F) (FD.burstNumber F) (FD.ticksBeforeBurst F)) ++ wF ks b G)) (C := RX0) (T := TX0) (N := 10) hx hb hts hiX0 tyX0 tyX0_ok nmX0 hown hK hP hD hS 0 rfl rfl 5 (by decide) hk37 (fun _ h9 => h9) rfl (by decide +kernel) (Nat.le_of_ble_eq_true rfl) dX0_copyFrom_66 rfl (fun H locs hP hD hS => ?_)
  refine lv_aload_n hx hb dX0_copyFrom_69 rfl (lv_at hl 0 rfl) ?_
  refine lv_aload_n hx hb dX0_copyFrom_70 rfl (lv_at hl 1 rfl) ?_
  refine va_get (v := .int (FD.bursts G)) (C := RX0) (T := TX0) (N := 10) hx hb hts hiX0 hown hK hP 4 rfl rfl 6 (by decide) hk40 (fun _ h9 => h9) rfl dX0_copyFrom_71 ?_
  refine xputI (wn := (wF ks a (mkFD (FD.th G) (FD.st G) (FD.ac G) (FD.rows G) (FD.ticks G) (FD.drops G) (FD.bursts G) (FD.burstReason F) (FD.burstNumber F) (FD.ticksBeforeBurst F)) ++ wF ks b G)) (C := RX0) (T := TX0) (N := 10) hx hb hts hiX0 tyX0 tyX0_ok nmX0 hown hK hP hD hS 0 rfl rfl 6 (by decide) hk40 (fun _ h9 => h9) rfl (by decide +kernel) (Nat.le_of_ble_eq_true rfl) dX0_copyFrom_74 rfl (fun H locs hP hD hS => ?_)
  refine lv_aload_n hx hb dX0_copyFrom_77 rfl (lv_at hl 0 rfl) ?_
  refine lv_aload_n hx hb dX0_copyFrom_78 rfl (lv_at hl 1 rfl) ?_
  refine va_get (v := .int (FD.burstReason G)) (C := RX0) (T := TX0) (N := 10) hx hb hts hiX0 hown hK hP 4 rfl rfl 7 (by decide) hk43 (fun _ h9 => h9) rfl dX0_copyFrom_79 ?_
  refine xputI (wn := (wF ks a (mkFD (FD.th G) (FD.st G) (FD.ac G) (FD.rows G) (FD.ticks G) (FD.drops G) (FD.bursts G) (FD.burstReason G) (FD.burstNumber F) (FD.ticksBeforeBurst F)) ++ wF ks b G)) (C := RX0) (T := TX0) (N := 10) hx hb hts hiX0 tyX0 tyX0_ok nmX0 hown hK hP hD hS 0 rfl rfl 7 (by decide) hk43 (fun _ h9 => h9) rfl (by decide +kernel) (Nat.le_of_ble_eq_true rfl) dX0_copyFrom_82 rfl (fun H locs hP hD hS => ?_)
  refine lv_aload_n hx hb dX0_copyFrom_85 rfl (lv_at hl 0 rfl) ?_
  refine lv_aload_n hx hb dX0_copyFrom_86 rfl (lv_at hl 1 rfl) ?_
  refine va_get (v := .int (FD.burstNumber G)) (C := RX0) (T := TX0) (N := 10) hx hb hts hiX0 hown hK hP 4 rfl rfl 8 (by decide) hk46 (fun _ h9 => h9) rfl dX0_copyFrom_87 ?_
  refine xputI (wn := (wF ks a (mkFD (FD.th G) (FD.st G) (FD.ac G) (FD.rows G) (FD.ticks G) (FD.drops G) (FD.bursts G) (FD.burstReason G) (FD.burstNumber G) (FD.ticksBeforeBurst F)) ++ wF ks b G)) (C := RX0) (T := TX0) (N := 10) hx hb hts hiX0 tyX0 tyX0_ok nmX0 hown hK hP hD hS 0 rfl rfl 8 (by decide) hk46 (fun _ h9 => h9) rfl (by decide +kernel) (Nat.le_of_ble_eq_true rfl) dX0_copyFrom_90 rfl (fun H locs hP hD hS => ?_)
  refine lv_aload_n hx hb dX0_copyFrom_93 rfl (lv_at hl 0 rfl) ?_
  refine lv_aload_n hx hb dX0_copyFrom_94 rfl (lv_at hl 1 rfl) ?_
  refine va_get (v := .int (FD.ticksBeforeBurst G)) (C := RX0) (T := TX0) (N := 10) hx hb hts hiX0 hown hK hP 4 rfl rfl 9 (by decide) hk49 (fun _ h9 => h9) rfl dX0_copyFrom_95 ?_
  refine xputI (wn := (wF ks a (mkFD (FD.th G) (FD.st G) (FD.ac G) (FD.rows G) (FD.ticks G) (FD.drops G) (FD.bursts G) (FD.burstReason G) (FD.burstNumber G) (FD.ticksBeforeBurst G)) ++ wF ks b G)) (C := RX0) (T := TX0) (N := 10) hx hb hts hiX0 tyX0 tyX0_ok nmX0 hown hK hP hD hS 0 rfl rfl 9 (by decide) hk49 (fun _ h9 => h9) rfl (by decide +kernel) (Nat.le_of_ble_eq_true rfl) dX0_copyFrom_98 rfl (fun H locs hP hD hS => ?_)
  obtain rfl := Option.some.inj hf
  exact hret _ _ _ _ dX0_copyFrom_101 hP hD hS
