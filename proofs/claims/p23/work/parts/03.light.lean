/-! ===== X3_path ===== -/
def p_X3_path (k : Nat) (x0 : Int32) : Option (Int32) :=
  some ((x0 * 266) / 100)

set_option maxHeartbeats 4000000 in
set_option maxRecDepth 100000 in
theorem c_X3_path {l : Launch} {D : va_G} {ks : K3} (k : Nat) (x0 : Int32) (r : Int32) (hf : p_X3_path k x0 = some r) : MetR l yX3_path wsX3_path { frames := 0, cells := 0, slots := 0, locals := 0 } D ks [.int x0] [] r True := by
  refine MetR.of (cc := cX3_path) (maxL := 1) (ret := (some .int)) (by decide +kernel) rfl (Nat.le_of_ble_eq_true rfl) ?_ ⟨_, rfl⟩
  intro p e s m below meth c Q hx hb hml hts hown hP hX hret ls hl
  have hK := hX.1
  replace hl : lv_has ls 1 [(0, .int x0)] := hl
  unfold p_X3_path at hf
  refine lv_iload_n hx hb dX3_path_0 rfl (lv_at hl 0 rfl) ?_
  refine lv_sipush (v := 266) hx hb dX3_path_1 (by decide) ?_
  refine lv_imul hx hb dX3_path_4 ?_
  refine lv_bipush (v := 100) hx hb dX3_path_5 (by decide) ?_
  refine lv_idiv hx hb dX3_path_7 (by decide) ?_
  obtain rfl := Option.some.inj hf
  exact hret trivial _ _ dX3_path_8 (fun ty h => by cases h; rfl)

/-! ===== X3_brightness ===== -/
def p_X3_brightness (k : Nat) (x0 : Int32) : Option (Int32) :=
  if 500 < (x0 - x0 / 1000 * 1000) then (some (2 * (1000 - (x0 - x0 / 1000 * 1000)))) else (some (2 * (x0 - x0 / 1000 * 1000)))

set_option maxHeartbeats 4000000 in
set_option maxRecDepth 100000 in
theorem c_X3_brightness {l : Launch} {D : va_G} {ks : K3} (k : Nat) (x0 : Int32) (r : Int32) (hf : p_X3_brightness k x0 = some r) : MetR l yX3_brightness wsX3_brightness { frames := 0, cells := 0, slots := 0, locals := 0 } D ks [.int x0] [] r True := by
  refine MetR.of (cc := cX3_brightness) (maxL := 2) (ret := (some .int)) (by decide +kernel) rfl (Nat.le_of_ble_eq_true rfl) ?_ ⟨_, rfl⟩
  intro p e s m below meth c Q hx hb hml hts hown hP hX hret ls hl
  have hK := hX.1
  replace hl : lv_has ls 2 [(0, .int x0)] := hl
  unfold p_X3_brightness at hf
  refine lv_iload_n hx hb dX3_brightness_0 rfl (lv_at hl 0 rfl) ?_
  refine lv_sipush (v := 1000) hx hb dX3_brightness_1 (by decide) ?_
  refine lv_irem hx hb dX3_brightness_4 (by decide) ?_
  refine lv_istore_n (lv' := [(1, .int (x0 - x0 / 1000 * 1000)), (0, .int x0)]) hx hb dX3_brightness_5 rfl hl (by decide) rfl (fun ls hl => ?_)
  refine lv_iload_n hx hb dX3_brightness_6 rfl (lv_at hl 0 rfl) ?_
  refine lv_sipush (v := 500) hx hb dX3_brightness_7 (by decide) ?_
  refine lv_icmp_gt (tgt := 19) hx hb dX3_brightness_10 (by decide) (fun c1 => ?_) (fun c1 => ?_)
  · replace hf := ifT hf c1
    refine lv_iconst (v := 2) hx hb dX3_brightness_19 (by decide) ?_
    refine lv_sipush (v := 1000) hx hb dX3_brightness_20 (by decide) ?_
    refine lv_iload_n hx hb dX3_brightness_23 rfl (lv_at hl 0 rfl) ?_
    refine lv_isub hx hb dX3_brightness_24 ?_
    refine lv_imul hx hb dX3_brightness_25 ?_
    obtain rfl := Option.some.inj hf
    exact hret trivial _ _ dX3_brightness_26 (fun ty h => by cases h; rfl)
  · replace hf := ifF hf c1
    refine lv_iconst (v := 2) hx hb dX3_brightness_13 (by decide) ?_
    refine lv_iload_n hx hb dX3_brightness_14 rfl (lv_at hl 0 rfl) ?_
    refine lv_imul hx hb dX3_brightness_15 ?_
    refine lv_goto (tgt := 26) hx hb dX3_brightness_16 (by decide) ?_
    obtain rfl := Option.some.inj hf
    exact hret trivial _ _ dX3_brightness_26 (fun ty h => by cases h; rfl)

/-! ===== X3_red ===== -/
def p_X3_red (k : Nat) (x0 : Int32) : Option (Int32) :=
  (p_X3_brightness k ((x0 * 1000) / 650)).bind fun v1 => some v1

set_option maxHeartbeats 4000000 in
set_option maxRecDepth 100000 in
theorem c_X3_red {l : Launch} {D : va_G} {ks : K3} (k : Nat) (x0 : Int32) (r : Int32) (hf : p_X3_red k x0 = some r) : MetR l yX3_red wsX3_red { frames := 1, cells := 0, slots := 0, locals := 21 } D ks [.int x0] [] r True := by
  refine MetR.of (cc := cX3_red) (maxL := 1) (ret := (some .int)) (by decide +kernel) rfl (Nat.le_of_ble_eq_true rfl) ?_ ⟨_, rfl⟩
  intro p e s m below meth c Q hx hb hml hts hown hP hX hret ls hl
  have hK := hX.1
  replace hl : lv_has ls 1 [(0, .int x0)] := hl
  unfold p_X3_red at hf
  refine lv_iload_n hx hb dX3_red_0 rfl (lv_at hl 0 rfl) ?_
  refine lv_sipush (v := 1000) hx hb dX3_red_1 (by decide) ?_
  refine lv_imul hx hb dX3_red_4 ?_
  refine lv_sipush (v := 650) hx hb dX3_red_5 (by decide) ?_
  refine lv_idiv hx hb dX3_red_8 (by decide) ?_
  obtain ⟨v1, hv1, hf⟩ := bnd hf
  refine xcallRS (As := [.int ((x0 * 1000) / 650)]) (rest := []) (wc := []) ⟨hx, hb, hml, hown, hts⟩ (c_X3_brightness k ((x0 * 1000) / 650) v1 hv1) (va_cwS 1 hts gX3_red_X3_brightness rfl rfl rfl (by decide +kernel) ⟨Nat.le_of_ble_eq_true rfl, Nat.le_of_ble_eq_true rfl⟩) hX (va_P0 _ _ _) rfl hl.1 rfl (Nat.le_of_ble_eq_true rfl) dX3_red_9 ⟨Nat.zero_le _, Nat.zero_le _⟩ (fun zv1 => ?_)
  obtain rfl := Option.some.inj hf
  exact hret trivial _ _ dX3_red_12 (fun ty h => by cases h; rfl)

/-! ===== X3_green ===== -/
def p_X3_green (k : Nat) (x0 : Int32) : Option (Int32) :=
  (p_X3_brightness k ((x0 * 1000) / 530)).bind fun v1 => some v1

set_option maxHeartbeats 4000000 in
set_option maxRecDepth 100000 in
theorem c_X3_green {l : Launch} {D : va_G} {ks : K3} (k : Nat) (x0 : Int32) (r : Int32) (hf : p_X3_green k x0 = some r) : MetR l yX3_green wsX3_green { frames := 1, cells := 0, slots := 0, locals := 21 } D ks [.int x0] [] r True := by
  refine MetR.of (cc := cX3_green) (maxL := 1) (ret := (some .int)) (by decide +kernel) rfl (Nat.le_of_ble_eq_true rfl) ?_ ⟨_, rfl⟩
  intro p e s m below meth c Q hx hb hml hts hown hP hX hret ls hl
  have hK := hX.1
  replace hl : lv_has ls 1 [(0, .int x0)] := hl
  unfold p_X3_green at hf
  refine lv_iload_n hx hb dX3_green_0 rfl (lv_at hl 0 rfl) ?_
  refine lv_sipush (v := 1000) hx hb dX3_green_1 (by decide) ?_
  refine lv_imul hx hb dX3_green_4 ?_
  refine lv_sipush (v := 530) hx hb dX3_green_5 (by decide) ?_
  refine lv_idiv hx hb dX3_green_8 (by decide) ?_
  obtain ⟨v1, hv1, hf⟩ := bnd hf
  refine xcallRS (As := [.int ((x0 * 1000) / 530)]) (rest := []) (wc := []) ⟨hx, hb, hml, hown, hts⟩ (c_X3_brightness k ((x0 * 1000) / 530) v1 hv1) (va_cwS 1 hts gX3_green_X3_brightness rfl rfl rfl (by decide +kernel) ⟨Nat.le_of_ble_eq_true rfl, Nat.le_of_ble_eq_true rfl⟩) hX (va_P0 _ _ _) rfl hl.1 rfl (Nat.le_of_ble_eq_true rfl) dX3_green_9 ⟨Nat.zero_le _, Nat.zero_le _⟩ (fun zv1 => ?_)
  obtain rfl := Option.some.inj hf
  exact hret trivial _ _ dX3_green_12 (fun ty h => by cases h; rfl)

/-! ===== X3_blue ===== -/
def p_X3_blue (k : Nat) (x0 : Int32) : Option (Int32) :=
  (p_X3_brightness k ((x0 * 1000) / 460)).bind fun v1 => some v1

set_option maxHeartbeats 4000000 in
set_option maxRecDepth 100000 in
theorem c_X3_blue {l : Launch} {D : va_G} {ks : K3} (k : Nat) (x0 : Int32) (r : Int32) (hf : p_X3_blue k x0 = some r) : MetR l yX3_blue wsX3_blue { frames := 1, cells := 0, slots := 0, locals := 21 } D ks [.int x0] [] r True := by
  refine MetR.of (cc := cX3_blue) (maxL := 1) (ret := (some .int)) (by decide +kernel) rfl (Nat.le_of_ble_eq_true rfl) ?_ ⟨_, rfl⟩
  intro p e s m below meth c Q hx hb hml hts hown hP hX hret ls hl
  have hK := hX.1
  replace hl : lv_has ls 1 [(0, .int x0)] := hl
  unfold p_X3_blue at hf
  refine lv_iload_n hx hb dX3_blue_0 rfl (lv_at hl 0 rfl) ?_
  refine lv_sipush (v := 1000) hx hb dX3_blue_1 (by decide) ?_
  refine lv_imul hx hb dX3_blue_4 ?_
  refine lv_sipush (v := 460) hx hb dX3_blue_5 (by decide) ?_
  refine lv_idiv hx hb dX3_blue_8 (by decide) ?_
  obtain ⟨v1, hv1, hf⟩ := bnd hf
  refine xcallRS (As := [.int ((x0 * 1000) / 460)]) (rest := []) (wc := []) ⟨hx, hb, hml, hown, hts⟩ (c_X3_brightness k ((x0 * 1000) / 460) v1 hv1) (va_cwS 1 hts gX3_blue_X3_brightness rfl rfl rfl (by decide +kernel) ⟨Nat.le_of_ble_eq_true rfl, Nat.le_of_ble_eq_true rfl⟩) hX (va_P0 _ _ _) rfl hl.1 rfl (Nat.le_of_ble_eq_true rfl) dX3_blue_9 ⟨Nat.zero_le _, Nat.zero_le _⟩ (fun zv1 => ?_)
  obtain rfl := Option.some.inj hf
  exact hret trivial _ _ dX3_blue_12 (fun ty h => by cases h; rfl)

/-! ===== X3_order ===== -/
def p_X3_order (k : Nat) (x0 : Int32) : Option (Int32) :=
  some (x0 / 530)

set_option maxHeartbeats 4000000 in
set_option maxRecDepth 100000 in
theorem c_X3_order {l : Launch} {D : va_G} {ks : K3} (k : Nat) (x0 : Int32) (r : Int32) (hf : p_X3_order k x0 = some r) : MetR l yX3_order wsX3_order { frames := 0, cells := 0, slots := 0, locals := 0 } D ks [.int x0] [] r True := by
  refine MetR.of (cc := cX3_order) (maxL := 1) (ret := (some .int)) (by decide +kernel) rfl (Nat.le_of_ble_eq_true rfl) ?_ ⟨_, rfl⟩
  intro p e s m below meth c Q hx hb hml hts hown hP hX hret ls hl
  have hK := hX.1
  replace hl : lv_has ls 1 [(0, .int x0)] := hl
  unfold p_X3_order at hf
  refine lv_iload_n hx hb dX3_order_0 rfl (lv_at hl 0 rfl) ?_
  refine lv_sipush (v := 530) hx hb dX3_order_1 (by decide) ?_
  refine lv_idiv hx hb dX3_order_4 (by decide) ?_
  obtain rfl := Option.some.inj hf
  exact hret trivial _ _ dX3_order_5 (fun ty h => by cases h; rfl)

/-! ===== X3_colour ===== -/
def p_X3_colour (k : Nat) (x0 : Int32) (x1 : Int32) : Option (Int32) :=
  if x1 ≤ x0 then ((p_X3_path k x0).bind fun v2 => (p_X3_red k v2).bind fun v3 => if v3 < 500 then ((p_X3_green k v2).bind fun v5 => if v5 < 500 then ((p_X3_blue k v2).bind fun v7 => if v7 < 500 then (some 0) else (some (0 + 1))) else ((p_X3_blue k v2).bind fun v9 => if v9 < 500 then (some (0 + 2)) else (some ((0 + 2) + 1)))) else ((p_X3_green k v2).bind fun v11 => if v11 < 500 then ((p_X3_blue k v2).bind fun v13 => if v13 < 500 then (some 4) else (some (4 + 1))) else ((p_X3_blue k v2).bind fun v15 => if v15 < 500 then (some (4 + 2)) else (some ((4 + 2) + 1))))) else (some 0)

set_option maxHeartbeats 4000000 in
set_option maxRecDepth 100000 in
theorem c_X3_colour {l : Launch} {D : va_G} {ks : K3} (k : Nat) (x0 : Int32) (x1 : Int32) (r : Int32) (hf : p_X3_colour k x0 x1 = some r) : MetR l yX3_colour wsX3_colour { frames := 2, cells := 0, slots := 0, locals := 41 } D ks [.int x0, .int x1] [] r True := by
  refine MetR.of (cc := cX3_colour) (maxL := 4) (ret := (some .int)) (by decide +kernel) rfl (Nat.le_of_ble_eq_true rfl) ?_ ⟨_, rfl⟩
  intro p e s m below meth c Q hx hb hml hts hown hP hX hret ls hl
  have hK := hX.1
  replace hl : lv_has ls 4 [(0, .int x0), (1, .int x1)] := hl
  unfold p_X3_colour at hf
  refine lv_iload_n hx hb dX3_colour_0 rfl (lv_at hl 0 rfl) ?_
  refine lv_iload_n hx hb dX3_colour_1 rfl (lv_at hl 1 rfl) ?_
  refine lv_icmp_ge (tgt := 7) hx hb dX3_colour_2 (by decide) (fun c1 => ?_) (fun c1 => ?_)
  · replace hf := ifT hf c1
    refine lv_iload_n hx hb dX3_colour_7 rfl (lv_at hl 0 rfl) ?_
    obtain ⟨v2, hv2, hf⟩ := bnd hf
    refine xcallRS (As := [.int x0]) (rest := []) (wc := []) ⟨hx, hb, hml, hown, hts⟩ (c_X3_path k x0 v2 hv2) (va_cwS 1 hts gX3_colour_X3_path rfl rfl rfl (by decide +kernel) ⟨Nat.le_of_ble_eq_true rfl, Nat.le_of_ble_eq_true rfl⟩) hX (va_P0 _ _ _) rfl hl.1 rfl (Nat.le_of_ble_eq_true rfl) dX3_colour_8 ⟨Nat.zero_le _, Nat.zero_le _⟩ (fun zv2 => ?_)
    refine lv_istore_n (lv' := [(2, .int v2), (0, .int x0), (1, .int x1)]) hx hb dX3_colour_11 rfl hl (by decide) rfl (fun ls hl => ?_)
    refine lv_iload_n hx hb dX3_colour_12 rfl (lv_at hl 0 rfl) ?_
    obtain ⟨v3, hv3, hf⟩ := bnd hf
    refine xcallRS (As := [.int v2]) (rest := []) (wc := []) ⟨hx, hb, hml, hown, hts⟩ (c_X3_red k v2 v3 hv3) (va_cwS 1 hts gX3_colour_X3_red rfl rfl rfl (by decide +kernel) ⟨Nat.le_of_ble_eq_true rfl, Nat.le_of_ble_eq_true rfl⟩) hX (va_P0 _ _ _) rfl hl.1 rfl (Nat.le_of_ble_eq_true rfl) dX3_colour_13 ⟨Nat.zero_le _, Nat.zero_le _⟩ (fun zv3 => ?_)
    refine lv_sipush (v := 500) hx hb dX3_colour_16 (by decide) ?_
    refine lv_icmp_lt (tgt := 26) hx hb dX3_colour_19 (by decide) (fun c4 => ?_) (fun c4 => ?_)
    · replace hf := ifT hf c4
      refine lv_iconst (v := 0) hx hb dX3_colour_26 (by decide) ?_
      refine lv_istore_n (lv' := [(3, .int 0), (2, .int v2), (0, .int x0), (1, .int x1)]) hx hb dX3_colour_27 rfl hl (by decide) rfl (fun ls hl => ?_)
      refine lv_iload_n hx hb dX3_colour_28 rfl (lv_at hl 1 rfl) ?_
      obtain ⟨v5, hv5, hf⟩ := bnd hf
      refine xcallRS (As := [.int v2]) (rest := []) (wc := []) ⟨hx, hb, hml, hown, hts⟩ (c_X3_green k v2 v5 hv5) (va_cwS 1 hts gX3_colour_X3_green rfl rfl rfl (by decide +kernel) ⟨Nat.le_of_ble_eq_true rfl, Nat.le_of_ble_eq_true rfl⟩) hX (va_P0 _ _ _) rfl hl.1 rfl (Nat.le_of_ble_eq_true rfl) dX3_colour_29 ⟨Nat.zero_le _, Nat.zero_le _⟩ (fun zv5 => ?_)
      refine lv_sipush (v := 500) hx hb dX3_colour_32 (by decide) ?_
      refine lv_icmp_lt (tgt := 41) hx hb dX3_colour_35 (by decide) (fun c6 => ?_) (fun c6 => ?_)
      · replace hf := ifT hf c6
        refine lv_iload_n hx hb dX3_colour_41 rfl (lv_at hl 1 rfl) ?_
        obtain ⟨v7, hv7, hf⟩ := bnd hf
        refine xcallRS (As := [.int v2]) (rest := []) (wc := []) ⟨hx, hb, hml, hown, hts⟩ (c_X3_blue k v2 v7 hv7) (va_cwS 1 hts gX3_colour_X3_blue rfl rfl rfl (by decide +kernel) ⟨Nat.le_of_ble_eq_true rfl, Nat.le_of_ble_eq_true rfl⟩) hX (va_P0 _ _ _) rfl hl.1 rfl (Nat.le_of_ble_eq_true rfl) dX3_colour_42 ⟨Nat.zero_le _, Nat.zero_le _⟩ (fun zv7 => ?_)
        refine lv_sipush (v := 500) hx hb dX3_colour_45 (by decide) ?_
        refine lv_icmp_lt (tgt := 54) hx hb dX3_colour_48 (by decide) (fun c8 => ?_) (fun c8 => ?_)
        · replace hf := ifT hf c8
          refine lv_iload_n hx hb dX3_colour_54 rfl (lv_at hl 0 rfl) ?_
          obtain rfl := Option.some.inj hf
          exact hret trivial _ _ dX3_colour_55 (fun ty h => by cases h; rfl)
        · replace hf := ifF hf c8
          refine lv_iinc (v := (0 + 1)) (lv' := [(3, .int (0 + 1)), (2, .int v2), (0, .int x0), (1, .int x1)]) hx hb dX3_colour_51 hl (k := 0) rfl rfl (by decide) rfl (fun ls hl => ?_)
          refine lv_iload_n hx hb dX3_colour_54 rfl (lv_at hl 0 rfl) ?_
          obtain rfl := Option.some.inj hf
          exact hret trivial _ _ dX3_colour_55 (fun ty h => by cases h; rfl)
      · replace hf := ifF hf c6
        refine lv_iinc (v := (0 + 2)) (lv' := [(3, .int (0 + 2)), (2, .int v2), (0, .int x0), (1, .int x1)]) hx hb dX3_colour_38 hl (k := 0) rfl rfl (by decide) rfl (fun ls hl => ?_)
        refine lv_iload_n hx hb dX3_colour_41 rfl (lv_at hl 1 rfl) ?_
        obtain ⟨v9, hv9, hf⟩ := bnd hf
        refine xcallRS (As := [.int v2]) (rest := []) (wc := []) ⟨hx, hb, hml, hown, hts⟩ (c_X3_blue k v2 v9 hv9) (va_cwS 1 hts gX3_colour_X3_blue rfl rfl rfl (by decide +kernel) ⟨Nat.le_of_ble_eq_true rfl, Nat.le_of_ble_eq_true rfl⟩) hX (va_P0 _ _ _) rfl hl.1 rfl (Nat.le_of_ble_eq_true rfl) dX3_colour_42 ⟨Nat.zero_le _, Nat.zero_le _⟩ (fun zv9 => ?_)
        refine lv_sipush (v := 500) hx hb dX3_colour_45 (by decide) ?_
        refine lv_icmp_lt (tgt := 54) hx hb dX3_colour_48 (by decide) (fun c10 => ?_) (fun c10 => ?_)
        · replace hf := ifT hf c10
          refine lv_iload_n hx hb dX3_colour_54 rfl (lv_at hl 0 rfl) ?_
          obtain rfl := Option.some.inj hf
          exact hret trivial _ _ dX3_colour_55 (fun ty h => by cases h; rfl)
        · replace hf := ifF hf c10
          refine lv_iinc (v := ((0 + 2) + 1)) (lv' := [(3, .int ((0 + 2) + 1)), (2, .int v2), (0, .int x0), (1, .int x1)]) hx hb dX3_colour_51 hl (k := 0) rfl rfl (by decide) rfl (fun ls hl => ?_)
          refine lv_iload_n hx hb dX3_colour_54 rfl (lv_at hl 0 rfl) ?_
          obtain rfl := Option.some.inj hf
          exact hret trivial _ _ dX3_colour_55 (fun ty h => by cases h; rfl)
    · replace hf := ifF hf c4
      refine lv_iconst (v := 4) hx hb dX3_colour_22 (by decide) ?_
      refine lv_goto (tgt := 27) hx hb dX3_colour_23 (by decide) ?_
      refine lv_istore_n (lv' := [(3, .int 4), (2, .int v2), (0, .int x0), (1, .int x1)]) hx hb dX3_colour_27 rfl hl (by decide) rfl (fun ls hl => ?_)
      refine lv_iload_n hx hb dX3_colour_28 rfl (lv_at hl 1 rfl) ?_
      obtain ⟨v11, hv11, hf⟩ := bnd hf
      refine xcallRS (As := [.int v2]) (rest := []) (wc := []) ⟨hx, hb, hml, hown, hts⟩ (c_X3_green k v2 v11 hv11) (va_cwS 1 hts gX3_colour_X3_green rfl rfl rfl (by decide +kernel) ⟨Nat.le_of_ble_eq_true rfl, Nat.le_of_ble_eq_true rfl⟩) hX (va_P0 _ _ _) rfl hl.1 rfl (Nat.le_of_ble_eq_true rfl) dX3_colour_29 ⟨Nat.zero_le _, Nat.zero_le _⟩ (fun zv11 => ?_)
      refine lv_sipush (v := 500) hx hb dX3_colour_32 (by decide) ?_
      refine lv_icmp_lt (tgt := 41) hx hb dX3_colour_35 (by decide) (fun c12 => ?_) (fun c12 => ?_)
      · replace hf := ifT hf c12
        refine lv_iload_n hx hb dX3_colour_41 rfl (lv_at hl 1 rfl) ?_
        obtain ⟨v13, hv13, hf⟩ := bnd hf
        refine xcallRS (As := [.int v2]) (rest := []) (wc := []) ⟨hx, hb, hml, hown, hts⟩ (c_X3_blue k v2 v13 hv13) (va_cwS 1 hts gX3_colour_X3_blue rfl rfl rfl (by decide +kernel) ⟨Nat.le_of_ble_eq_true rfl, Nat.le_of_ble_eq_true rfl⟩) hX (va_P0 _ _ _) rfl hl.1 rfl (Nat.le_of_ble_eq_true rfl) dX3_colour_42 ⟨Nat.zero_le _, Nat.zero_le _⟩ (fun zv13 => ?_)
        refine lv_sipush (v := 500) hx hb dX3_colour_45 (by decide) ?_
        refine lv_icmp_lt (tgt := 54) hx hb dX3_colour_48 (by decide) (fun c14 => ?_) (fun c14 => ?_)
        · replace hf := ifT hf c14
          refine lv_iload_n hx hb dX3_colour_54 rfl (lv_at hl 0 rfl) ?_
          obtain rfl := Option.some.inj hf
          exact hret trivial _ _ dX3_colour_55 (fun ty h => by cases h; rfl)
        · replace hf := ifF hf c14
          refine lv_iinc (v := (4 + 1)) (lv' := [(3, .int (4 + 1)), (2, .int v2), (0, .int x0), (1, .int x1)]) hx hb dX3_colour_51 hl (k := 0) rfl rfl (by decide) rfl (fun ls hl => ?_)
          refine lv_iload_n hx hb dX3_colour_54 rfl (lv_at hl 0 rfl) ?_
          obtain rfl := Option.some.inj hf
          exact hret trivial _ _ dX3_colour_55 (fun ty h => by cases h; rfl)
      · replace hf := ifF hf c12
        refine lv_iinc (v := (4 + 2)) (lv' := [(3, .int (4 + 2)), (2, .int v2), (0, .int x0), (1, .int x1)]) hx hb dX3_colour_38 hl (k := 0) rfl rfl (by decide) rfl (fun ls hl => ?_)
        refine lv_iload_n hx hb dX3_colour_41 rfl (lv_at hl 1 rfl) ?_
        obtain ⟨v15, hv15, hf⟩ := bnd hf
        refine xcallRS (As := [.int v2]) (rest := []) (wc := []) ⟨hx, hb, hml, hown, hts⟩ (c_X3_blue k v2 v15 hv15) (va_cwS 1 hts gX3_colour_X3_blue rfl rfl rfl (by decide +kernel) ⟨Nat.le_of_ble_eq_true rfl, Nat.le_of_ble_eq_true rfl⟩) hX (va_P0 _ _ _) rfl hl.1 rfl (Nat.le_of_ble_eq_true rfl) dX3_colour_42 ⟨Nat.zero_le _, Nat.zero_le _⟩ (fun zv15 => ?_)
        refine lv_sipush (v := 500) hx hb dX3_colour_45 (by decide) ?_
        refine lv_icmp_lt (tgt := 54) hx hb dX3_colour_48 (by decide) (fun c16 => ?_) (fun c16 => ?_)
        · replace hf := ifT hf c16
          refine lv_iload_n hx hb dX3_colour_54 rfl (lv_at hl 0 rfl) ?_
          obtain rfl := Option.some.inj hf
          exact hret trivial _ _ dX3_colour_55 (fun ty h => by cases h; rfl)
        · replace hf := ifF hf c16
          refine lv_iinc (v := ((4 + 2) + 1)) (lv' := [(3, .int ((4 + 2) + 1)), (2, .int v2), (0, .int x0), (1, .int x1)]) hx hb dX3_colour_51 hl (k := 0) rfl rfl (by decide) rfl (fun ls hl => ?_)
          refine lv_iload_n hx hb dX3_colour_54 rfl (lv_at hl 0 rfl) ?_
          obtain rfl := Option.some.inj hf
          exact hret trivial _ _ dX3_colour_55 (fun ty h => by cases h; rfl)
  · replace hf := ifF hf c1
    refine lv_iconst (v := 0) hx hb dX3_colour_5 (by decide) ?_
    obtain rfl := Option.some.inj hf
    exact hret trivial _ _ dX3_colour_6 (fun ty h => by cases h; rfl)

/-! ===== X0_hasRow ===== -/
def p_X0_hasRow (k : Nat) (F : FD) (x1 : Int32) : Option (Int32) :=
  if x1 < 0 then (some 0) else (if (FD.rows F) ≤ x1 then (some 0) else (some 1))

set_option maxHeartbeats 4000000 in
set_option maxRecDepth 100000 in
theorem c_X0_hasRow {l : Launch} {D : va_G} {ks : K3} (k : Nat) (a : AF) (F : FD) (x1 : Int32) (r : Int32) (hf : p_X0_hasRow k F x1 = some r) : MetR l yX0_hasRow wsX0_hasRow { frames := 0, cells := 0, slots := 0, locals := 0 } D ks [.ref a.1, .int x1] (wF ks a F) r (narrow .boolean (.int r) = .int r) := by
  refine MetR.of (cc := cX0_hasRow) (maxL := 2) (ret := (some .boolean)) (by decide +kernel) rfl (Nat.le_of_ble_eq_true rfl) ?_ ⟨_, rfl⟩
  intro p e s m below meth c Q hx hb hml hts hown hP hX hret ls hl
  have hK := hX.1
  replace hl : lv_has ls 2 [(0, .ref a.1), (1, .int x1)] := hl
  have hiX0 : ∀ w ∈ wsX00, w ∈ wsX0_hasRow := by decide +kernel
  have hk30 := hts (.fieldLink RX0 30 "SoapFilm$Film" "rows" "I") (by decide +kernel)
  unfold p_X0_hasRow at hf
  refine lv_iload_n hx hb dX0_hasRow_0 rfl (lv_at hl 1 rfl) ?_
  refine lv_if_lt (tgt := 16) hx hb dX0_hasRow_1 (by decide) (fun c1 => ?_) (fun c1 => ?_)
  · replace hf := ifT hf c1
    refine lv_iconst (v := 0) hx hb dX0_hasRow_16 (by decide) ?_
    obtain rfl := Option.some.inj hf
    exact hret rfl _ _ dX0_hasRow_17 (fun ty h => by cases h; rfl)
  · replace hf := ifF hf c1
    refine lv_iload_n hx hb dX0_hasRow_4 rfl (lv_at hl 1 rfl) ?_
    refine lv_aload_n hx hb dX0_hasRow_5 rfl (lv_at hl 0 rfl) ?_
    refine va_get (v := .int (FD.rows F)) (C := RX0) (T := TX0) (N := 10) hx hb hts hiX0 hown hK hP 0 rfl rfl 3 (by decide) hk30 (fun _ h9 => h9) rfl dX0_hasRow_6 ?_
    refine lv_icmp_ge (tgt := 16) hx hb dX0_hasRow_9 (by decide) (fun c2 => ?_) (fun c2 => ?_)
    · replace hf := ifT hf c2
      refine lv_iconst (v := 0) hx hb dX0_hasRow_16 (by decide) ?_
      obtain rfl := Option.some.inj hf
      exact hret rfl _ _ dX0_hasRow_17 (fun ty h => by cases h; rfl)
    · replace hf := ifF hf c2
      refine lv_iconst (v := 1) hx hb dX0_hasRow_12 (by decide) ?_
      refine lv_goto (tgt := 17) hx hb dX0_hasRow_13 (by decide) ?_
      obtain rfl := Option.some.inj hf
      exact hret rfl _ _ dX0_hasRow_17 (fun ty h => by cases h; rfl)

/-! ===== X0_bring ===== -/
def p_X0_bring (k : Nat) (F : FD) (x1 : Int32) : Option (FD) :=
  (ald (FD.ac F) 7 0).bind fun v1 => (ast (FD.ac F) 7 0 (v1 + x1)).bind fun f2 => (ald f2 7 1).bind fun v3 => (ast f2 7 1 (v3 + x1)).bind fun f4 => some (mkFD (FD.th F) (FD.st F) f4 (FD.rows F) (FD.ticks F) (FD.drops F) (FD.bursts F) (FD.burstReason F) (FD.burstNumber F) (FD.ticksBeforeBurst F))

set_option maxHeartbeats 4000000 in
set_option maxRecDepth 100000 in
theorem c_X0_bring {l : Launch} {D : va_G} {ks : K3} (k : Nat) (a : AF) (F : FD) (x1 : Int32) (rF : FD) (hf : p_X0_bring k F x1 = some rF) : MetV l yX0_bring wsX0_bring { frames := 0, cells := 0, slots := 0, locals := 0 } D ks [.ref a.1, .int x1] (wF ks a F) (wF ks a rF) := by
  refine MetV.of (cc := cX0_bring) (maxL := 2) (by decide +kernel) rfl (Nat.le_of_ble_eq_true rfl) ?_
  intro p e s m below meth c Q A hx hb hml hts hown hP hX hD hA hret ls hl
  have hK := hX.1
  replace hl : lv_has ls 2 [(0, .ref a.1), (1, .int x1)] := hl
  have hS : va_S A s.heap s.heap [] := va_S.rf
  have hiX0 : ∀ w ∈ wsX00, w ∈ wsX0_bring := by decide +kernel
  have hk18 := hts (.fieldLink RX0 18 "SoapFilm$Film" "accounts" "[I") (by decide +kernel)
  unfold p_X0_bring at hf
  refine lv_aload_n hx hb dX0_bring_0 rfl (lv_at hl 0 rfl) ?_
  refine va_get (v := .ref a.2.2.2) (C := RX0) (T := TX0) (N := 10) hx hb hts hiX0 hown hK hP 0 rfl rfl 2 (by decide) hk18 (fun _ h9 => h9) rfl dX0_bring_1 ?_
  refine lv_iconst (v := 0) hx hb dX0_bring_4 (by decide) ?_
  refine lv_dup2_11 hx hb dX0_bring_5 rfl rfl ?_
  obtain ⟨v1, hv1, hf⟩ := bnd hf
  refine xa_iald hx hb hK hP hv1 3 0 rfl rfl dX0_bring_6 ?_
  refine lv_iload_n hx hb dX0_bring_7 rfl (lv_at hl 1 rfl) ?_
  refine lv_iadd hx hb dX0_bring_8 ?_
  obtain ⟨f2, hf2, hf⟩ := bnd hf
  refine xa_iast (wn := (wF ks a (mkFD (FD.th F) (FD.st F) f2 (FD.rows F) (FD.ticks F) (FD.drops F) (FD.bursts F) (FD.burstReason F) (FD.burstNumber F) (FD.ticksBeforeBurst F)))) hx hb hK hP hD hS hf2 3 0 rfl rfl dX0_bring_9 rfl (fun H locs hP hD hS => ?_)
  refine lv_aload_n hx hb dX0_bring_10 rfl (lv_at hl 0 rfl) ?_
  refine va_get (v := .ref a.2.2.2) (C := RX0) (T := TX0) (N := 10) hx hb hts hiX0 hown hK hP 0 rfl rfl 2 (by decide) hk18 (fun _ h9 => h9) rfl dX0_bring_11 ?_
  refine lv_iconst (v := 1) hx hb dX0_bring_14 (by decide) ?_
  refine lv_dup2_11 hx hb dX0_bring_15 rfl rfl ?_
  obtain ⟨v3, hv3, hf⟩ := bnd hf
  refine xa_iald hx hb hK hP hv3 3 0 rfl rfl dX0_bring_16 ?_
  refine lv_iload_n hx hb dX0_bring_17 rfl (lv_at hl 1 rfl) ?_
  refine lv_iadd hx hb dX0_bring_18 ?_
  obtain ⟨f4, hf4, hf⟩ := bnd hf
  refine xa_iast (wn := (wF ks a (mkFD (FD.th F) (FD.st F) f4 (FD.rows F) (FD.ticks F) (FD.drops F) (FD.bursts F) (FD.burstReason F) (FD.burstNumber F) (FD.ticksBeforeBurst F)))) hx hb hK hP hD hS hf4 3 0 rfl rfl dX0_bring_19 rfl (fun H locs hP hD hS => ?_)
  obtain rfl := Option.some.inj hf
  exact hret _ _ _ _ dX0_bring_20 hP hD hS

/-! ===== X0_move ===== -/
def p_X0_move (k : Nat) (F : FD) (x1 : Int32) (x2 : Int32) (x3 : Int32) : Option (FD) :=
  (ald (FD.ac F) 7 x1).bind fun v1 => (ast (FD.ac F) 7 x1 (v1 - x3)).bind fun f2 => (ald f2 7 x2).bind fun v3 => (ast f2 7 x2 (v3 + x3)).bind fun f4 => some (mkFD (FD.th F) (FD.st F) f4 (FD.rows F) (FD.ticks F) (FD.drops F) (FD.bursts F) (FD.burstReason F) (FD.burstNumber F) (FD.ticksBeforeBurst F))

set_option maxHeartbeats 4000000 in
set_option maxRecDepth 100000 in
theorem c_X0_move {l : Launch} {D : va_G} {ks : K3} (k : Nat) (a : AF) (F : FD) (x1 : Int32) (x2 : Int32) (x3 : Int32) (rF : FD) (hf : p_X0_move k F x1 x2 x3 = some rF) : MetV l yX0_move wsX0_move { frames := 0, cells := 0, slots := 0, locals := 0 } D ks [.ref a.1, .int x1, .int x2, .int x3] (wF ks a F) (wF ks a rF) := by
  refine MetV.of (cc := cX0_move) (maxL := 4) (by decide +kernel) rfl (Nat.le_of_ble_eq_true rfl) ?_
  intro p e s m below meth c Q A hx hb hml hts hown hP hX hD hA hret ls hl
  have hK := hX.1
  replace hl : lv_has ls 4 [(0, .ref a.1), (1, .int x1), (2, .int x2), (3, .int x3)] := hl
  have hS : va_S A s.heap s.heap [] := va_S.rf
  have hiX0 : ∀ w ∈ wsX00, w ∈ wsX0_move := by decide +kernel
  have hk18 := hts (.fieldLink RX0 18 "SoapFilm$Film" "accounts" "[I") (by decide +kernel)
  unfold p_X0_move at hf
  refine lv_aload_n hx hb dX0_move_0 rfl (lv_at hl 0 rfl) ?_
  refine va_get (v := .ref a.2.2.2) (C := RX0) (T := TX0) (N := 10) hx hb hts hiX0 hown hK hP 0 rfl rfl 2 (by decide) hk18 (fun _ h9 => h9) rfl dX0_move_1 ?_
  refine lv_iload_n hx hb dX0_move_4 rfl (lv_at hl 1 rfl) ?_
  refine lv_dup2_11 hx hb dX0_move_5 rfl rfl ?_
  obtain ⟨v1, hv1, hf⟩ := bnd hf
  refine xa_iald hx hb hK hP hv1 3 0 rfl rfl dX0_move_6 ?_
  refine lv_iload_n hx hb dX0_move_7 rfl (lv_at hl 3 rfl) ?_
  refine lv_isub hx hb dX0_move_8 ?_
  obtain ⟨f2, hf2, hf⟩ := bnd hf
  refine xa_iast (wn := (wF ks a (mkFD (FD.th F) (FD.st F) f2 (FD.rows F) (FD.ticks F) (FD.drops F) (FD.bursts F) (FD.burstReason F) (FD.burstNumber F) (FD.ticksBeforeBurst F)))) hx hb hK hP hD hS hf2 3 0 rfl rfl dX0_move_9 rfl (fun H locs hP hD hS => ?_)
  refine lv_aload_n hx hb dX0_move_10 rfl (lv_at hl 0 rfl) ?_
  refine va_get (v := .ref a.2.2.2) (C := RX0) (T := TX0) (N := 10) hx hb hts hiX0 hown hK hP 0 rfl rfl 2 (by decide) hk18 (fun _ h9 => h9) rfl dX0_move_11 ?_
  refine lv_iload_n hx hb dX0_move_14 rfl (lv_at hl 2 rfl) ?_
  refine lv_dup2_11 hx hb dX0_move_15 rfl rfl ?_
  obtain ⟨v3, hv3, hf⟩ := bnd hf
  refine xa_iald hx hb hK hP hv3 3 0 rfl rfl dX0_move_16 ?_
  refine lv_iload_n hx hb dX0_move_17 rfl (lv_at hl 3 rfl) ?_
  refine lv_iadd hx hb dX0_move_18 ?_
  obtain ⟨f4, hf4, hf⟩ := bnd hf
  refine xa_iast (wn := (wF ks a (mkFD (FD.th F) (FD.st F) f4 (FD.rows F) (FD.ticks F) (FD.drops F) (FD.bursts F) (FD.burstReason F) (FD.burstNumber F) (FD.ticksBeforeBurst F)))) hx hb hK hP hD hS hf4 3 0 rfl rfl dX0_move_19 rfl (fun H locs hP hD hS => ?_)
  obtain rfl := Option.some.inj hf
  exact hret _ _ _ _ dX0_move_20 hP hD hS

/-! ===== X0_appendRow ===== -/
def p_X0_appendRow (k : Nat) (F : FD) (x1 : Int32) : Option (FD) :=
  if 24 ≤ (FD.rows F) then (some F) else ((ast (FD.th F) 24 (FD.rows F) x1).bind fun f2 => (p_X0_bring k (mkFD f2 (FD.st F) (FD.ac F) ((FD.rows F) + 1) (FD.ticks F) (FD.drops F) (FD.bursts F) (FD.burstReason F) (FD.burstNumber F) (FD.ticksBeforeBurst F)) x1).bind fun F3 => some F3)

set_option maxHeartbeats 4000000 in
set_option maxRecDepth 100000 in
theorem c_X0_appendRow {l : Launch} {D : va_G} {ks : K3} (k : Nat) (a : AF) (F : FD) (x1 : Int32) (rF : FD) (hf : p_X0_appendRow k F x1 = some rF) : MetV l yX0_appendRow wsX0_appendRow { frames := 1, cells := 0, slots := 0, locals := 21 } D ks [.ref a.1, .int x1] (wF ks a F) (wF ks a rF) := by
  refine MetV.of (cc := cX0_appendRow) (maxL := 2) (by decide +kernel) rfl (Nat.le_of_ble_eq_true rfl) ?_
  intro p e s m below meth c Q A hx hb hml hts hown hP hX hD hA hret ls hl
  have hK := hX.1
  replace hl : lv_has ls 2 [(0, .ref a.1), (1, .int x1)] := hl
  have hS : va_S A s.heap s.heap [] := va_S.rf
  have hiX0 : ∀ w ∈ wsX00, w ∈ wsX0_appendRow := by decide +kernel
  have hk30 := hts (.fieldLink RX0 30 "SoapFilm$Film" "rows" "I") (by decide +kernel)
  have hk9 := hts (.fieldLink RX0 9 "SoapFilm$Film" "thickness" "[I") (by decide +kernel)
  unfold p_X0_appendRow at hf
  refine lv_aload_n hx hb dX0_appendRow_0 rfl (lv_at hl 0 rfl) ?_
  refine va_get (v := .int (FD.rows F)) (C := RX0) (T := TX0) (N := 10) hx hb hts hiX0 hown hK hP 0 rfl rfl 3 (by decide) hk30 (fun _ h9 => h9) rfl dX0_appendRow_1 ?_
  refine lv_bipush (v := 24) hx hb dX0_appendRow_4 (by decide) ?_
  refine lv_icmp_ge (tgt := 34) hx hb dX0_appendRow_6 (by decide) (fun c1 => ?_) (fun c1 => ?_)
  · replace hf := ifT hf c1
    obtain rfl := Option.some.inj hf
    exact hret _ _ _ _ dX0_appendRow_34 hP hD hS
  · replace hf := ifF hf c1
    refine lv_aload_n hx hb dX0_appendRow_9 rfl (lv_at hl 0 rfl) ?_
    refine va_get (v := .ref a.2.1) (C := RX0) (T := TX0) (N := 10) hx hb hts hiX0 hown hK hP 0 rfl rfl 0 (by decide) hk9 (fun _ h9 => h9) rfl dX0_appendRow_10 ?_
    refine lv_aload_n hx hb dX0_appendRow_13 rfl (lv_at hl 0 rfl) ?_
    refine va_get (v := .int (FD.rows F)) (C := RX0) (T := TX0) (N := 10) hx hb hts hiX0 hown hK hP 0 rfl rfl 3 (by decide) hk30 (fun _ h9 => h9) rfl dX0_appendRow_14 ?_
    refine lv_iload_n hx hb dX0_appendRow_17 rfl (lv_at hl 1 rfl) ?_
    obtain ⟨f2, hf2, hf⟩ := bnd hf
    refine xa_iast (wn := (wF ks a (mkFD f2 (FD.st F) (FD.ac F) (FD.rows F) (FD.ticks F) (FD.drops F) (FD.bursts F) (FD.burstReason F) (FD.burstNumber F) (FD.ticksBeforeBurst F)))) hx hb hK hP hD hS hf2 1 0 rfl rfl dX0_appendRow_18 rfl (fun H locs hP hD hS => ?_)
    refine lv_aload_n hx hb dX0_appendRow_19 rfl (lv_at hl 0 rfl) ?_
    refine lv_dup hx hb dX0_appendRow_20 rfl ?_
    refine va_get (v := .int (FD.rows F)) (C := RX0) (T := TX0) (N := 10) hx hb hts hiX0 hown hK hP 0 rfl rfl 3 (by decide) hk30 (fun _ h9 => h9) rfl dX0_appendRow_21 ?_
    refine lv_iconst (v := 1) hx hb dX0_appendRow_24 (by decide) ?_
    refine lv_iadd hx hb dX0_appendRow_25 ?_
    refine xputI (wn := (wF ks a (mkFD f2 (FD.st F) (FD.ac F) ((FD.rows F) + 1) (FD.ticks F) (FD.drops F) (FD.bursts F) (FD.burstReason F) (FD.burstNumber F) (FD.ticksBeforeBurst F)))) (C := RX0) (T := TX0) (N := 10) hx hb hts hiX0 tyX0 tyX0_ok nmX0 hown hK hP hD hS 0 rfl rfl 3 (by decide) hk30 (fun _ h9 => h9) rfl (by decide +kernel) (Nat.le_of_ble_eq_true rfl) dX0_appendRow_26 rfl (fun H locs hP hD hS => ?_)
    refine lv_aload_n hx hb dX0_appendRow_29 rfl (lv_at hl 0 rfl) ?_
    refine lv_iload_n hx hb dX0_appendRow_30 rfl (lv_at hl 1 rfl) ?_
    obtain ⟨F3, hF3, hf⟩ := bnd hf
    refine xcallV (As := [.int x1]) (rest := []) (wc := (wF ks a (mkFD f2 (FD.st F) (FD.ac F) ((FD.rows F) + 1) (FD.ticks F) (FD.drops F) (FD.bursts F) (FD.burstReason F) (FD.burstNumber F) (FD.ticksBeforeBurst F)))) (w1 := (wF ks a F3)) (wr := ([] : va_W)) (wn := (wF ks a F3)) ⟨hx, hb, hml, hown, hts⟩ (c_X0_bring k a (mkFD f2 (FD.st F) (FD.ac F) ((FD.rows F) + 1) (FD.ticks F) (FD.drops F) (FD.bursts F) (FD.burstReason F) (FD.burstNumber F) (FD.ticksBeforeBurst F)) x1 F3 hF3) (cwV 1 hts gX0_appendRow_X0_bring rfl rfl rfl (by decide +kernel) ⟨Nat.le_of_ble_eq_true rfl, Nat.le_of_ble_eq_true rfl⟩) hX hP hD hS hA [0, 1, 2, 3] [] [0, 1, 2, 3] rfl rfl rfl ⟨by decide, by decide, by decide⟩ (by decide) (ci := 0) (q0 := 0) rfl rfl rfl hl.1 rfl (Nat.le_of_ble_eq_true rfl) dX0_appendRow_31 ⟨Nat.zero_le _, Nat.zero_le _⟩ (fun H locs hP hD hS => ?_)
    obtain rfl := Option.some.inj hf
    exact hret _ _ _ _ dX0_appendRow_34 hP hD hS

/-! ===== X0_endFilm ===== -/
def p_X0_endFilm (k : Nat) (F : FD) (x1 : Int32) : Option (FD) :=
  (ald (FD.ac F) 7 1).bind fun v1 => (p_X0_move k F 1 x1 v1).bind fun F2 => some (mkFD (FD.th F2) (FD.st F2) (FD.ac F2) 0 (FD.ticks F2) (FD.drops F2) (FD.bursts F2) (FD.burstReason F2) (FD.burstNumber F2) (FD.ticksBeforeBurst F2))

set_option maxHeartbeats 4000000 in
set_option maxRecDepth 100000 in
theorem c_X0_endFilm {l : Launch} {D : va_G} {ks : K3} (k : Nat) (a : AF) (F : FD) (x1 : Int32) (rF : FD) (hf : p_X0_endFilm k F x1 = some rF) : MetV l yX0_endFilm wsX0_endFilm { frames := 1, cells := 0, slots := 0, locals := 23 } D ks [.ref a.1, .int x1] (wF ks a F) (wF ks a rF) := by
  refine MetV.of (cc := cX0_endFilm) (maxL := 2) (by decide +kernel) rfl (Nat.le_of_ble_eq_true rfl) ?_
  intro p e s m below meth c Q A hx hb hml hts hown hP hX hD hA hret ls hl
  have hK := hX.1
  replace hl : lv_has ls 2 [(0, .ref a.1), (1, .int x1)] := hl
  have hS : va_S A s.heap s.heap [] := va_S.rf
  have hiX0 : ∀ w ∈ wsX00, w ∈ wsX0_endFilm := by decide +kernel
  have hk18 := hts (.fieldLink RX0 18 "SoapFilm$Film" "accounts" "[I") (by decide +kernel)
  have hk30 := hts (.fieldLink RX0 30 "SoapFilm$Film" "rows" "I") (by decide +kernel)
  unfold p_X0_endFilm at hf
  refine lv_aload_n hx hb dX0_endFilm_0 rfl (lv_at hl 0 rfl) ?_
  refine lv_iconst (v := 1) hx hb dX0_endFilm_1 (by decide) ?_
  refine lv_iload_n hx hb dX0_endFilm_2 rfl (lv_at hl 1 rfl) ?_
  refine lv_aload_n hx hb dX0_endFilm_3 rfl (lv_at hl 0 rfl) ?_
  refine va_get (v := .ref a.2.2.2) (C := RX0) (T := TX0) (N := 10) hx hb hts hiX0 hown hK hP 0 rfl rfl 2 (by decide) hk18 (fun _ h9 => h9) rfl dX0_endFilm_4 ?_
  refine lv_iconst (v := 1) hx hb dX0_endFilm_7 (by decide) ?_
  obtain ⟨v1, hv1, hf⟩ := bnd hf
  refine xa_iald hx hb hK hP hv1 3 0 rfl rfl dX0_endFilm_8 ?_
  obtain ⟨F2, hF2, hf⟩ := bnd hf
  refine xcallV (As := [.int 1, .int x1, .int v1]) (rest := []) (wc := (wF ks a F)) (w1 := (wF ks a F2)) (wr := ([] : va_W)) (wn := (wF ks a F2)) ⟨hx, hb, hml, hown, hts⟩ (c_X0_move k a F 1 x1 v1 F2 hF2) (cwV 3 hts gX0_endFilm_X0_move rfl rfl rfl (by decide +kernel) ⟨Nat.le_of_ble_eq_true rfl, Nat.le_of_ble_eq_true rfl⟩) hX hP hD hS hA [0, 1, 2, 3] [] [0, 1, 2, 3] rfl rfl rfl ⟨by decide, by decide, by decide⟩ (by decide) (ci := 0) (q0 := 0) rfl rfl rfl hl.1 rfl (Nat.le_of_ble_eq_true rfl) dX0_endFilm_9 ⟨Nat.zero_le _, Nat.zero_le _⟩ (fun H locs hP hD hS => ?_)
  refine lv_aload_n hx hb dX0_endFilm_12 rfl (lv_at hl 0 rfl) ?_
  refine lv_iconst (v := 0) hx hb dX0_endFilm_13 (by decide) ?_
  refine xputI (wn := (wF ks a (mkFD (FD.th F2) (FD.st F2) (FD.ac F2) 0 (FD.ticks F2) (FD.drops F2) (FD.bursts F2) (FD.burstReason F2) (FD.burstNumber F2) (FD.ticksBeforeBurst F2)))) (C := RX0) (T := TX0) (N := 10) hx hb hts hiX0 tyX0 tyX0_ok nmX0 hown hK hP hD hS 0 rfl rfl 3 (by decide) hk30 (fun _ h9 => h9) rfl (by decide +kernel) (Nat.le_of_ble_eq_true rfl) dX0_endFilm_14 rfl (fun H locs hP hD hS => ?_)
  obtain rfl := Option.some.inj hf
  exact hret _ _ _ _ dX0_endFilm_17 hP hD hS

/-! ===== X0_takeAway ===== -/
def p_X0_takeAway (k : Nat) (F : FD) : Option (FD) :=
  (p_X0_endFilm k F 6).bind fun F1 => some F1

set_option maxHeartbeats 4000000 in
set_option maxRecDepth 100000 in
theorem c_X0_takeAway {l : Launch} {D : va_G} {ks : K3} (k : Nat) (a : AF) (F : FD) (rF : FD) (hf : p_X0_takeAway k F = some rF) : MetV l yX0_takeAway wsX0_takeAway { frames := 2, cells := 0, slots := 0, locals := 44 } D ks [.ref a.1] (wF ks a F) (wF ks a rF) := by
  refine MetV.of (cc := cX0_takeAway) (maxL := 1) (by decide +kernel) rfl (Nat.le_of_ble_eq_true rfl) ?_
  intro p e s m below meth c Q A hx hb hml hts hown hP hX hD hA hret ls hl
  have hK := hX.1
  replace hl : lv_has ls 1 [(0, .ref a.1)] := hl
  have hS : va_S A s.heap s.heap [] := va_S.rf
  unfold p_X0_takeAway at hf
  refine lv_aload_n hx hb dX0_takeAway_0 rfl (lv_at hl 0 rfl) ?_
  refine lv_bipush (v := 6) hx hb dX0_takeAway_1 (by decide) ?_
  obtain ⟨F1, hF1, hf⟩ := bnd hf
  refine xcallV (As := [.int 6]) (rest := []) (wc := (wF ks a F)) (w1 := (wF ks a F1)) (wr := ([] : va_W)) (wn := (wF ks a F1)) ⟨hx, hb, hml, hown, hts⟩ (c_X0_endFilm k a F 6 F1 hF1) (cwV 1 hts gX0_takeAway_X0_endFilm rfl rfl rfl (by decide +kernel) ⟨Nat.le_of_ble_eq_true rfl, Nat.le_of_ble_eq_true rfl⟩) hX hP hD hS hA [0, 1, 2, 3] [] [0, 1, 2, 3] rfl rfl rfl ⟨by decide, by decide, by decide⟩ (by decide) (ci := 0) (q0 := 0) rfl rfl rfl hl.1 rfl (Nat.le_of_ble_eq_true rfl) dX0_takeAway_3 ⟨Nat.zero_le _, Nat.zero_le _⟩ (fun H locs hP hD hS => ?_)
  obtain rfl := Option.some.inj hf
  exact hret _ _ _ _ dX0_takeAway_6 hP hD hS

/-! ===== X0_loseFrom ===== -/
def p_X0_loseFrom (k : Nat) (F : FD) (x1 : Int32) (x2 : Int32) (x3 : Int32) : Option (Int32 × FD) :=
  (ald (FD.th F) 24 x1).bind fun v1 => (ald (FD.th F) 24 x1).bind fun v2 => (ast (FD.th F) 24 x1 (v2 - (imin x2 v1))).bind fun f3 => (p_X0_move k (mkFD f3 (FD.st F) (FD.ac F) (FD.rows F) (FD.ticks F) (FD.drops F) (FD.bursts F) (FD.burstReason F) (FD.burstNumber F) (FD.ticksBeforeBurst F)) 1 x3 (imin x2 v1)).bind fun F4 => some ((imin x2 v1), F4)

set_option maxHeartbeats 4000000 in
set_option maxRecDepth 100000 in
theorem c_X0_loseFrom {l : Launch} {D : va_G} {ks : K3} (k : Nat) (a : AF) (F : FD) (x1 : Int32) (x2 : Int32) (x3 : Int32) (r : Int32) (rF : FD) (hf : p_X0_loseFrom k F x1 x2 x3 = some (r, rF)) : MetI l yX0_loseFrom wsX0_loseFrom { frames := 1, cells := 0, slots := 0, locals := 23 } D ks [.ref a.1, .int x1, .int x2, .int x3] (wF ks a F) (wF ks a rF) r True := by
  refine MetI.of (cc := cX0_loseFrom) (maxL := 5) (ret := (some .int)) (by decide +kernel) rfl (Nat.le_of_ble_eq_true rfl) ?_ ⟨_, rfl⟩
  intro p e s m below meth c Q A hx hb hml hts hown hP hX hD hA hret ls hl
  have hK := hX.1
  replace hl : lv_has ls 5 [(0, .ref a.1), (1, .int x1), (2, .int x2), (3, .int x3)] := hl
  have hS : va_S A s.heap s.heap [] := va_S.rf
  have hiX0 : ∀ w ∈ wsX00, w ∈ wsX0_loseFrom := by decide +kernel
  have hk9 := hts (.fieldLink RX0 9 "SoapFilm$Film" "thickness" "[I") (by decide +kernel)
  have hm63 := hts (.methodLink RX0 63 Lib.Math.min.name) (by decide +kernel)
  have hs_min := hts (.static Lib.Math.min.name) (by decide +kernel)
  have hi_math := hts (.initialized "java/lang/Math") (by decide +kernel)
  have hcd_min := hts (.code Lib.Math.min.name Lib.Math.min.code 2 (some .int)) (by decide +kernel)
  unfold p_X0_loseFrom at hf
  refine lv_iload_n hx hb dX0_loseFrom_0 rfl (lv_at hl 2 rfl) ?_
  refine lv_aload_n hx hb dX0_loseFrom_1 rfl (lv_at hl 0 rfl) ?_
  refine va_get (v := .ref a.2.1) (C := RX0) (T := TX0) (N := 10) hx hb hts hiX0 hown hK hP 0 rfl rfl 0 (by decide) hk9 (fun _ h9 => h9) rfl dX0_loseFrom_2 ?_
  refine lv_iload_n hx hb dX0_loseFrom_5 rfl (lv_at hl 1 rfl) ?_
  obtain ⟨v1, hv1, hf⟩ := bnd hf
  refine xa_iald hx hb hK hP hv1 1 0 rfl rfl dX0_loseFrom_6 ?_
  refine xmmin hx hb hml hl.1 hown hm63 hs_min hi_math hcd_min (Nat.le_of_ble_eq_true rfl) (Nat.le_of_ble_eq_true rfl) (Nat.zero_le _) (Nat.zero_le _) dX0_loseFrom_7 ?_
  refine lv_istore (lv' := [(4, .int (imin x2 v1)), (0, .ref a.1), (1, .int x1), (2, .int x2), (3, .int x3)]) hx hb dX0_loseFrom_10 hl (by decide) rfl (fun ls hl => ?_)
  refine lv_aload_n hx hb dX0_loseFrom_12 rfl (lv_at hl 1 rfl) ?_
  refine va_get (v := .ref a.2.1) (C := RX0) (T := TX0) (N := 10) hx hb hts hiX0 hown hK hP 0 rfl rfl 0 (by decide) hk9 (fun _ h9 => h9) rfl dX0_loseFrom_13 ?_
  refine lv_iload_n hx hb dX0_loseFrom_16 rfl (lv_at hl 2 rfl) ?_
  refine lv_dup2_11 hx hb dX0_loseFrom_17 rfl rfl ?_
  obtain ⟨v2, hv2, hf⟩ := bnd hf
  refine xa_iald hx hb hK hP hv2 1 0 rfl rfl dX0_loseFrom_18 ?_
  refine lv_iload hx hb dX0_loseFrom_19 (lv_at hl 0 rfl) ?_
  refine lv_isub hx hb dX0_loseFrom_21 ?_
  obtain ⟨f3, hf3, hf⟩ := bnd hf
  refine xa_iast (wn := (wF ks a (mkFD f3 (FD.st F) (FD.ac F) (FD.rows F) (FD.ticks F) (FD.drops F) (FD.bursts F) (FD.burstReason F) (FD.burstNumber F) (FD.ticksBeforeBurst F)))) hx hb hK hP hD hS hf3 1 0 rfl rfl dX0_loseFrom_22 rfl (fun H locs hP hD hS => ?_)
  refine lv_aload_n hx hb dX0_loseFrom_23 rfl (lv_at hl 1 rfl) ?_
  refine lv_iconst (v := 1) hx hb dX0_loseFrom_24 (by decide) ?_
  refine lv_iload_n hx hb dX0_loseFrom_25 rfl (lv_at hl 4 rfl) ?_
  refine lv_iload hx hb dX0_loseFrom_26 (lv_at hl 0 rfl) ?_
  obtain ⟨F4, hF4, hf⟩ := bnd hf
  refine xcallV (As := [.int 1, .int x3, .int (imin x2 v1)]) (rest := []) (wc := (wF ks a (mkFD f3 (FD.st F) (FD.ac F) (FD.rows F) (FD.ticks F) (FD.drops F) (FD.bursts F) (FD.burstReason F) (FD.burstNumber F) (FD.ticksBeforeBurst F)))) (w1 := (wF ks a F4)) (wr := ([] : va_W)) (wn := (wF ks a F4)) ⟨hx, hb, hml, hown, hts⟩ (c_X0_move k a (mkFD f3 (FD.st F) (FD.ac F) (FD.rows F) (FD.ticks F) (FD.drops F) (FD.bursts F) (FD.burstReason F) (FD.burstNumber F) (FD.ticksBeforeBurst F)) 1 x3 (imin x2 v1) F4 hF4) (cwV 3 hts gX0_loseFrom_X0_move rfl rfl rfl (by decide +kernel) ⟨Nat.le_of_ble_eq_true rfl, Nat.le_of_ble_eq_true rfl⟩) hX hP hD hS hA [0, 1, 2, 3] [] [0, 1, 2, 3] rfl rfl rfl ⟨by decide, by decide, by decide⟩ (by decide) (ci := 0) (q0 := 0) rfl rfl rfl hl.1 rfl (Nat.le_of_ble_eq_true rfl) dX0_loseFrom_28 ⟨Nat.zero_le _, Nat.zero_le _⟩ (fun H locs hP hD hS => ?_)
  refine lv_iload hx hb dX0_loseFrom_31 (lv_at hl 0 rfl) ?_
  obtain ⟨rfl, rfl⟩ := inj2 hf
  exact hret trivial _ _ _ _ dX0_loseFrom_33 (fun ty h => by cases h; rfl) hP hD hS

/-! ===== X0_colourAt ===== -/
def p_X0_colourAt (k : Nat) (F : FD) (x1 : Int32) : Option (Int32) :=
  (ald (FD.th F) 24 x1).bind fun v1 => (ald (FD.st F) 7 3).bind fun v2 => (p_X3_colour k v1 v2).bind fun v3 => some v3

set_option maxHeartbeats 4000000 in
set_option maxRecDepth 100000 in
theorem c_X0_colourAt {l : Launch} {D : va_G} {ks : K3} (k : Nat) (a : AF) (F : FD) (x1 : Int32) (r : Int32) (hf : p_X0_colourAt k F x1 = some r) : MetR l yX0_colourAt wsX0_colourAt { frames := 3, cells := 0, slots := 0, locals := 64 } D ks [.ref a.1, .int x1] (wF ks a F) r True := by
  refine MetR.of (cc := cX0_colourAt) (maxL := 2) (ret := (some .int)) (by decide +kernel) rfl (Nat.le_of_ble_eq_true rfl) ?_ ⟨_, rfl⟩
  intro p e s m below meth c Q hx hb hml hts hown hP hX hret ls hl
  have hK := hX.1
  replace hl : lv_has ls 2 [(0, .ref a.1), (1, .int x1)] := hl
  have hiX0 : ∀ w ∈ wsX00, w ∈ wsX0_colourAt := by decide +kernel
  have hk9 := hts (.fieldLink RX0 9 "SoapFilm$Film" "thickness" "[I") (by decide +kernel)
  have hk15 := hts (.fieldLink RX0 15 "SoapFilm$Film" "settings" "[I") (by decide +kernel)
  unfold p_X0_colourAt at hf
  refine lv_aload_n hx hb dX0_colourAt_0 rfl (lv_at hl 0 rfl) ?_
  refine va_get (v := .ref a.2.1) (C := RX0) (T := TX0) (N := 10) hx hb hts hiX0 hown hK hP 0 rfl rfl 0 (by decide) hk9 (fun _ h9 => h9) rfl dX0_colourAt_1 ?_
  refine lv_iload_n hx hb dX0_colourAt_4 rfl (lv_at hl 1 rfl) ?_
  obtain ⟨v1, hv1, hf⟩ := bnd hf
  refine xa_iald hx hb hK hP hv1 1 0 rfl rfl dX0_colourAt_5 ?_
  refine lv_aload_n hx hb dX0_colourAt_6 rfl (lv_at hl 0 rfl) ?_
  refine va_get (v := .ref a.2.2.1) (C := RX0) (T := TX0) (N := 10) hx hb hts hiX0 hown hK hP 0 rfl rfl 1 (by decide) hk15 (fun _ h9 => h9) rfl dX0_colourAt_7 ?_
  refine lv_iconst (v := 3) hx hb dX0_colourAt_10 (by decide) ?_
  obtain ⟨v2, hv2, hf⟩ := bnd hf
  refine xa_iald hx hb hK hP hv2 2 0 rfl rfl dX0_colourAt_11 ?_
  obtain ⟨v3, hv3, hf⟩ := bnd hf
  refine xcallRS (As := [.int v1, .int v2]) (rest := []) (wc := []) ⟨hx, hb, hml, hown, hts⟩ (c_X3_colour k v1 v2 v3 hv3) (va_cwS 2 hts gX0_colourAt_X3_colour rfl rfl rfl (by decide +kernel) ⟨Nat.le_of_ble_eq_true rfl, Nat.le_of_ble_eq_true rfl⟩) hX (va_P0 _ _ _) rfl hl.1 rfl (Nat.le_of_ble_eq_true rfl) dX0_colourAt_12 ⟨Nat.zero_le _, Nat.zero_le _⟩ (fun zv3 => ?_)
  obtain rfl := Option.some.inj hf
  exact hret trivial _ _ dX0_colourAt_15 (fun ty h => by cases h; rfl)

/-! ===== X0_isBlack ===== -/
def p_X0_isBlack (k : Nat) (F : FD) (x1 : Int32) : Option (Int32) :=
  (ald (FD.th F) 24 x1).bind fun v1 => (ald (FD.st F) 7 3).bind fun v2 => if v2 ≤ v1 then (some 0) else (some 1)

set_option maxHeartbeats 4000000 in
set_option maxRecDepth 100000 in
theorem c_X0_isBlack {l : Launch} {D : va_G} {ks : K3} (k : Nat) (a : AF) (F : FD) (x1 : Int32) (r : Int32) (hf : p_X0_isBlack k F x1 = some r) : MetR l yX0_isBlack wsX0_isBlack { frames := 0, cells := 0, slots := 0, locals := 0 } D ks [.ref a.1, .int x1] (wF ks a F) r (narrow .boolean (.int r) = .int r) := by
  refine MetR.of (cc := cX0_isBlack) (maxL := 2) (ret := (some .boolean)) (by decide +kernel) rfl (Nat.le_of_ble_eq_true rfl) ?_ ⟨_, rfl⟩
  intro p e s m below meth c Q hx hb hml hts hown hP hX hret ls hl
  have hK := hX.1
  replace hl : lv_has ls 2 [(0, .ref a.1), (1, .int x1)] := hl
  have hiX0 : ∀ w ∈ wsX00, w ∈ wsX0_isBlack := by decide +kernel
  have hk9 := hts (.fieldLink RX0 9 "SoapFilm$Film" "thickness" "[I") (by decide +kernel)
  have hk15 := hts (.fieldLink RX0 15 "SoapFilm$Film" "settings" "[I") (by decide +kernel)
  unfold p_X0_isBlack at hf
  refine lv_aload_n hx hb dX0_isBlack_0 rfl (lv_at hl 0 rfl) ?_
  refine va_get (v := .ref a.2.1) (C := RX0) (T := TX0) (N := 10) hx hb hts hiX0 hown hK hP 0 rfl rfl 0 (by decide) hk9 (fun _ h9 => h9) rfl dX0_isBlack_1 ?_
  refine lv_iload_n hx hb dX0_isBlack_4 rfl (lv_at hl 1 rfl) ?_
  obtain ⟨v1, hv1, hf⟩ := bnd hf
  refine xa_iald hx hb hK hP hv1 1 0 rfl rfl dX0_isBlack_5 ?_
  refine lv_aload_n hx hb dX0_isBlack_6 rfl (lv_at hl 0 rfl) ?_
  refine va_get (v := .ref a.2.2.1) (C := RX0) (T := TX0) (N := 10) hx hb hts hiX0 hown hK hP 0 rfl rfl 1 (by decide) hk15 (fun _ h9 => h9) rfl dX0_isBlack_7 ?_
  refine lv_iconst (v := 3) hx hb dX0_isBlack_10 (by decide) ?_
  obtain ⟨v2, hv2, hf⟩ := bnd hf
  refine xa_iald hx hb hK hP hv2 2 0 rfl rfl dX0_isBlack_11 ?_
  refine lv_icmp_ge (tgt := 19) hx hb dX0_isBlack_12 (by decide) (fun c3 => ?_) (fun c3 => ?_)
  · replace hf := ifT hf c3
    refine lv_iconst (v := 0) hx hb dX0_isBlack_19 (by decide) ?_
    obtain rfl := Option.some.inj hf
    exact hret rfl _ _ dX0_isBlack_20 (fun ty h => by cases h; rfl)
  · replace hf := ifF hf c3
    refine lv_iconst (v := 1) hx hb dX0_isBlack_15 (by decide) ?_
    refine lv_goto (tgt := 20) hx hb dX0_isBlack_16 (by decide) ?_
    obtain rfl := Option.some.inj hf
    exact hret rfl _ _ dX0_isBlack_20 (fun ty h => by cases h; rfl)

/-! ===== X0_startsColour ===== -/
def p_X0_startsColour (k : Nat) (F : FD) (x1 : Int32) : Option (Int32) :=
  if x1 = 0 then (some 1) else ((p_X0_colourAt k F x1).bind fun v2 => (p_X0_colourAt k F (x1 - 1)).bind fun v3 => if v2 = v3 then (some 0) else (some 1))

set_option maxHeartbeats 4000000 in
set_option maxRecDepth 100000 in
theorem c_X0_startsColour {l : Launch} {D : va_G} {ks : K3} (k : Nat) (a : AF) (F : FD) (x1 : Int32) (r : Int32) (hf : p_X0_startsColour k F x1 = some r) : MetR l yX0_startsColour wsX0_startsColour { frames := 4, cells := 0, slots := 0, locals := 85 } D ks [.ref a.1, .int x1] (wF ks a F) r (narrow .boolean (.int r) = .int r) := by
  refine MetR.of (cc := cX0_startsColour) (maxL := 2) (ret := (some .boolean)) (by decide +kernel) rfl (Nat.le_of_ble_eq_true rfl) ?_ ⟨_, rfl⟩
  intro p e s m below meth c Q hx hb hml hts hown hP hX hret ls hl
  have hK := hX.1
  replace hl : lv_has ls 2 [(0, .ref a.1), (1, .int x1)] := hl
  unfold p_X0_startsColour at hf
  refine lv_iload_n hx hb dX0_startsColour_0 rfl (lv_at hl 1 rfl) ?_
  refine lv_if_eq (tgt := 19) hx hb dX0_startsColour_1 (by decide) (fun c1 => ?_) (fun c1 => ?_)
  · replace hf := ifT hf c1
    refine lv_iconst (v := 1) hx hb dX0_startsColour_19 (by decide) ?_
    refine lv_goto (tgt := 24) hx hb dX0_startsColour_20 (by decide) ?_
    obtain rfl := Option.some.inj hf
    exact hret rfl _ _ dX0_startsColour_24 (fun ty h => by cases h; rfl)
  · replace hf := ifF hf c1
    refine lv_aload_n hx hb dX0_startsColour_4 rfl (lv_at hl 0 rfl) ?_
    refine lv_iload_n hx hb dX0_startsColour_5 rfl (lv_at hl 1 rfl) ?_
    obtain ⟨v2, hv2, hf⟩ := bnd hf
    refine xcallRV (As := [.int x1]) (rest := []) (wc := (wF ks a F)) ⟨hx, hb, hml, hown, hts⟩ (c_X0_colourAt k a F x1 v2 hv2) (cwV 1 hts gX0_startsColour_X0_colourAt rfl rfl rfl (by decide +kernel) ⟨Nat.le_of_ble_eq_true rfl, Nat.le_of_ble_eq_true rfl⟩) hX hP (ci := 0) (q0 := 0) rfl rfl rfl hl.1 rfl (Nat.le_of_ble_eq_true rfl) dX0_startsColour_6 ⟨Nat.zero_le _, Nat.zero_le _⟩ (fun zv2 => ?_)
    refine lv_aload_n hx hb dX0_startsColour_9 rfl (lv_at hl 0 rfl) ?_
    refine lv_iload_n hx hb dX0_startsColour_10 rfl (lv_at hl 1 rfl) ?_
    refine lv_iconst (v := 1) hx hb dX0_startsColour_11 (by decide) ?_
    refine lv_isub hx hb dX0_startsColour_12 ?_
    obtain ⟨v3, hv3, hf⟩ := bnd hf
    refine xcallRV (As := [.int (x1 - 1)]) (rest := [.int v2]) (wc := (wF ks a F)) ⟨hx, hb, hml, hown, hts⟩ (c_X0_colourAt k a F (x1 - 1) v3 hv3) (cwV 1 hts gX0_startsColour_X0_colourAt rfl rfl rfl (by decide +kernel) ⟨Nat.le_of_ble_eq_true rfl, Nat.le_of_ble_eq_true rfl⟩) hX hP (ci := 0) (q0 := 0) rfl rfl rfl hl.1 rfl (Nat.le_of_ble_eq_true rfl) dX0_startsColour_13 ⟨Nat.zero_le _, Nat.zero_le _⟩ (fun zv3 => ?_)
    refine lv_icmp_eq (tgt := 23) hx hb dX0_startsColour_16 (by decide) (fun c4 => ?_) (fun c4 => ?_)
    · replace hf := ifT hf c4
      refine lv_iconst (v := 0) hx hb dX0_startsColour_23 (by decide) ?_
      obtain rfl := Option.some.inj hf
      exact hret rfl _ _ dX0_startsColour_24 (fun ty h => by cases h; rfl)
    · replace hf := ifF hf c4
      refine lv_iconst (v := 1) hx hb dX0_startsColour_19 (by decide) ?_
      refine lv_goto (tgt := 24) hx hb dX0_startsColour_20 (by decide) ?_
      obtain rfl := Option.some.inj hf
      exact hret rfl _ _ dX0_startsColour_24 (fun ty h => by cases h; rfl)

/-! ===== X0_blackRows ===== -/
def p_X0_blackRows_L4 (k : Nat) (F : FD) : Nat → (Int32) → (Int32) → Option (Int32)
  | 0, _, _ => none
  | n + 1, x1, x2 =>
    if (FD.rows F) ≤ x2 then (some x1) else ((p_X0_isBlack k F x2).bind fun v2 => if v2 = 0 then (p_X0_blackRows_L4 k F n x1 (x2 + 1)) else (p_X0_blackRows_L4 k F n (x1 + 1) (x2 + 1)))

def p_X0_blackRows (k : Nat) (F : FD) : Option (Int32) :=
  p_X0_blackRows_L4 k F k 0 0

set_option maxHeartbeats 4000000 in
set_option maxRecDepth 100000 in
theorem c_X0_blackRows {l : Launch} {D : va_G} {ks : K3} (k : Nat) (a : AF) (F : FD) (r : Int32) (hf : p_X0_blackRows k F = some r) : MetR l yX0_blackRows wsX0_blackRows { frames := 1, cells := 0, slots := 0, locals := 21 } D ks [.ref a.1] (wF ks a F) r True := by
  refine MetR.of (cc := cX0_blackRows) (maxL := 3) (ret := (some .int)) (by decide +kernel) rfl (Nat.le_of_ble_eq_true rfl) ?_ ⟨_, rfl⟩
  intro p e s m below meth c Q hx hb hml hts hown hP hX hret ls hl
  have hK := hX.1
  replace hl : lv_has ls 3 [(0, .ref a.1)] := hl
  have hiX0 : ∀ w ∈ wsX00, w ∈ wsX0_blackRows := by decide +kernel
  have hk30 := hts (.fieldLink RX0 30 "SoapFilm$Film" "rows" "I") (by decide +kernel)
  unfold p_X0_blackRows at hf
  refine lv_iconst (v := 0) hx hb dX0_blackRows_0 (by decide) ?_
  refine lv_istore_n (lv' := [(1, .int 0), (0, .ref a.1)]) hx hb dX0_blackRows_1 rfl hl (by decide) rfl (fun ls hl => ?_)
  refine lv_iconst (v := 0) hx hb dX0_blackRows_2 (by decide) ?_
  refine lv_istore_n (lv' := [(2, .int 0), (1, .int 0), (0, .ref a.1)]) hx hb dX0_blackRows_3 rfl hl (by decide) rfl (fun ls hl => ?_)
  have L4 : ∀ (n : Nat) (x1q4 : Int32) (x2q4 : Int32) (ls : Array Slot), p_X0_blackRows_L4 k F n x1q4 x2q4 = some r → lv_has ls 3 [(0, .ref a.1), (1, .int x1q4), (2, .int x2q4)] → W p l e { frames := 1, cells := 0, slots := 0, locals := 21 } s m ([.ref a.1] : List Value).toArray below meth c s.heap [] 0 0 Q (F0 m 4 ls []) := by
    intro n
    induction n with
    | zero => intro x1q4 x2q4 ls hf; cases hf
    | succ n ih4 =>
      intro x1q4 x2q4 ls hf hl
      rw [p_X0_blackRows_L4] at hf
      refine lv_iload_n hx hb dX0_blackRows_4 rfl (lv_at hl 2 rfl) ?_
      refine lv_aload_n hx hb dX0_blackRows_5 rfl (lv_at hl 0 rfl) ?_
      refine va_get (v := .int (FD.rows F)) (C := RX0) (T := TX0) (N := 10) hx hb hts hiX0 hown hK hP 0 rfl rfl 3 (by decide) hk30 (fun _ h9 => h9) rfl dX0_blackRows_6 ?_
      refine lv_icmp_ge (tgt := 29) hx hb dX0_blackRows_9 (by decide) (fun c1 => ?_) (fun c1 => ?_)
      · replace hf := ifT hf c1
        refine lv_iload_n hx hb dX0_blackRows_29 rfl (lv_at hl 1 rfl) ?_
        obtain rfl := Option.some.inj hf
        exact hret trivial _ _ dX0_blackRows_30 (fun ty h => by cases h; rfl)
      · replace hf := ifF hf c1
        refine lv_aload_n hx hb dX0_blackRows_12 rfl (lv_at hl 0 rfl) ?_
        refine lv_iload_n hx hb dX0_blackRows_13 rfl (lv_at hl 2 rfl) ?_
        obtain ⟨v2, hv2, hf⟩ := bnd hf
        refine xcallRV (As := [.int x2q4]) (rest := []) (wc := (wF ks a F)) ⟨hx, hb, hml, hown, hts⟩ (c_X0_isBlack k a F x2q4 v2 hv2) (cwV 1 hts gX0_blackRows_X0_isBlack rfl rfl rfl (by decide +kernel) ⟨Nat.le_of_ble_eq_true rfl, Nat.le_of_ble_eq_true rfl⟩) hX hP (ci := 0) (q0 := 0) rfl rfl rfl hl.1 rfl (Nat.le_of_ble_eq_true rfl) dX0_blackRows_14 ⟨Nat.zero_le _, Nat.zero_le _⟩ (fun zv2 => ?_)
        refine lv_if_eq (tgt := 23) hx hb dX0_blackRows_17 (by decide) (fun c3 => ?_) (fun c3 => ?_)
        · replace hf := ifT hf c3
          refine lv_iinc (v := (x2q4 + 1)) (lv' := [(2, .int (x2q4 + 1)), (0, .ref a.1), (1, .int x1q4)]) hx hb dX0_blackRows_23 hl (k := 2) rfl rfl (by decide) rfl (fun ls hl => ?_)
          refine lv_goto (tgt := 4) hx hb dX0_blackRows_26 (by decide) ?_
          exact ih4 _ _  _ hf (lv_sub hl [1, 2, 0] rfl)
        · replace hf := ifF hf c3
          refine lv_iinc (v := (x1q4 + 1)) (lv' := [(1, .int (x1q4 + 1)), (0, .ref a.1), (2, .int x2q4)]) hx hb dX0_blackRows_20 hl (k := 1) rfl rfl (by decide) rfl (fun ls hl => ?_)
          refine lv_iinc (v := (x2q4 + 1)) (lv' := [(2, .int (x2q4 + 1)), (1, .int (x1q4 + 1)), (0, .ref a.1)]) hx hb dX0_blackRows_23 hl (k := 2) rfl rfl (by decide) rfl (fun ls hl => ?_)
          refine lv_goto (tgt := 4) hx hb dX0_blackRows_26 (by decide) ?_
          exact ih4 _ _  _ hf (lv_sub hl [2, 1, 0] rfl)
  exact L4 k _ _ _ hf (lv_sub hl [2, 1, 0] rfl)

/-! ===== X0_giveDown ===== -/
def p_X0_giveDown (k : Nat) (F : FD) (x1 : Int32) (x2 : Int32) : Option (FD) :=
  if x1 = ((FD.rows F) - 1) then (bind2 (p_X0_loseFrom k F x1 x2 2) fun v8 F9 => some F9) else ((ald (FD.th F) 24 (x1 + 1)).bind fun v2 => (ald (FD.th F) 24 x1).bind fun v3 => (ald (FD.th F) 24 x1).bind fun v4 => (ast (FD.th F) 24 x1 (v4 - (imin (imin x2 v3) (5000 - v2)))).bind fun f5 => (ald f5 24 (x1 + 1)).bind fun v6 => (ast f5 24 (x1 + 1) (v6 + (imin (imin x2 v3) (5000 - v2)))).bind fun f7 => some (mkFD f7 (FD.st F) (FD.ac F) (FD.rows F) (FD.ticks F) (FD.drops F) (FD.bursts F) (FD.burstReason F) (FD.burstNumber F) (FD.ticksBeforeBurst F)))

set_option maxHeartbeats 4000000 in
set_option maxRecDepth 100000 in
theorem c_X0_giveDown {l : Launch} {D : va_G} {ks : K3} (k : Nat) (a : AF) (F : FD) (x1 : Int32) (x2 : Int32) (rF : FD) (hf : p_X0_giveDown k F x1 x2 = some rF) : MetV l yX0_giveDown wsX0_giveDown { frames := 2, cells := 0, slots := 0, locals := 47 } D ks [.ref a.1, .int x1, .int x2] (wF ks a F) (wF ks a rF) := by
  refine MetV.of (cc := cX0_giveDown) (maxL := 5) (by decide +kernel) rfl (Nat.le_of_ble_eq_true rfl) ?_
  intro p e s m below meth c Q A hx hb hml hts hown hP hX hD hA hret ls hl
  have hK := hX.1
  replace hl : lv_has ls 5 [(0, .ref a.1), (1, .int x1), (2, .int x2)] := hl
  have hS : va_S A s.heap s.heap [] := va_S.rf
  have hiX0 : ∀ w ∈ wsX00, w ∈ wsX0_giveDown := by decide +kernel
  have hk30 := hts (.fieldLink RX0 30 "SoapFilm$Film" "rows" "I") (by decide +kernel)
  have hk9 := hts (.fieldLink RX0 9 "SoapFilm$Film" "thickness" "[I") (by decide +kernel)
  have hm63 := hts (.methodLink RX0 63 Lib.Math.min.name) (by decide +kernel)
  have hs_min := hts (.static Lib.Math.min.name) (by decide +kernel)
  have hi_math := hts (.initialized "java/lang/Math") (by decide +kernel)
  have hcd_min := hts (.code Lib.Math.min.name Lib.Math.min.code 2 (some .int)) (by decide +kernel)
  unfold p_X0_giveDown at hf
  refine lv_iload_n hx hb dX0_giveDown_0 rfl (lv_at hl 1 rfl) ?_
  refine lv_aload_n hx hb dX0_giveDown_1 rfl (lv_at hl 0 rfl) ?_
  refine va_get (v := .int (FD.rows F)) (C := RX0) (T := TX0) (N := 10) hx hb hts hiX0 hown hK hP 0 rfl rfl 3 (by decide) hk30 (fun _ h9 => h9) rfl dX0_giveDown_2 ?_
  refine lv_iconst (v := 1) hx hb dX0_giveDown_5 (by decide) ?_
  refine lv_isub hx hb dX0_giveDown_6 ?_
  refine lv_icmp_ne (tgt := 19) hx hb dX0_giveDown_7 (by decide) (fun c1 => ?_) (fun c1 => ?_)
  · replace hf := ifF hf c1
    refine lv_sipush (v := 5000) hx hb dX0_giveDown_19 (by decide) ?_
    refine lv_aload_n hx hb dX0_giveDown_22 rfl (lv_at hl 0 rfl) ?_
    refine va_get (v := .ref a.2.1) (C := RX0) (T := TX0) (N := 10) hx hb hts hiX0 hown hK hP 0 rfl rfl 0 (by decide) hk9 (fun _ h9 => h9) rfl dX0_giveDown_23 ?_
    refine lv_iload_n hx hb dX0_giveDown_26 rfl (lv_at hl 1 rfl) ?_
    refine lv_iconst (v := 1) hx hb dX0_giveDown_27 (by decide) ?_
    refine lv_iadd hx hb dX0_giveDown_28 ?_
    obtain ⟨v2, hv2, hf⟩ := bnd hf
    refine xa_iald hx hb hK hP hv2 1 0 rfl rfl dX0_giveDown_29 ?_
    refine lv_isub hx hb dX0_giveDown_30 ?_
    refine lv_istore_n (lv' := [(3, .int (5000 - v2)), (0, .ref a.1), (1, .int x1), (2, .int x2)]) hx hb dX0_giveDown_31 rfl hl (by decide) rfl (fun ls hl => ?_)
    refine lv_iload_n hx hb dX0_giveDown_32 rfl (lv_at hl 3 rfl) ?_
    refine lv_aload_n hx hb dX0_giveDown_33 rfl (lv_at hl 1 rfl) ?_
    refine va_get (v := .ref a.2.1) (C := RX0) (T := TX0) (N := 10) hx hb hts hiX0 hown hK hP 0 rfl rfl 0 (by decide) hk9 (fun _ h9 => h9) rfl dX0_giveDown_34 ?_
    refine lv_iload_n hx hb dX0_giveDown_37 rfl (lv_at hl 2 rfl) ?_
    obtain ⟨v3, hv3, hf⟩ := bnd hf
    refine xa_iald hx hb hK hP hv3 1 0 rfl rfl dX0_giveDown_38 ?_
    refine xmmin hx hb hml hl.1 hown hm63 hs_min hi_math hcd_min (Nat.le_of_ble_eq_true rfl) (Nat.le_of_ble_eq_true rfl) (Nat.zero_le _) (Nat.zero_le _) dX0_giveDown_39 ?_
    refine lv_iload_n hx hb dX0_giveDown_42 rfl (lv_at hl 0 rfl) ?_
    refine xmmin hx hb hml hl.1 hown hm63 hs_min hi_math hcd_min (Nat.le_of_ble_eq_true rfl) (Nat.le_of_ble_eq_true rfl) (Nat.zero_le _) (Nat.zero_le _) dX0_giveDown_43 ?_
    refine lv_istore (lv' := [(4, .int (imin (imin x2 v3) (5000 - v2))), (3, .int (5000 - v2)), (0, .ref a.1), (1, .int x1), (2, .int x2)]) hx hb dX0_giveDown_46 hl (by decide) rfl (fun ls hl => ?_)
    refine lv_aload_n hx hb dX0_giveDown_48 rfl (lv_at hl 2 rfl) ?_
    refine va_get (v := .ref a.2.1) (C := RX0) (T := TX0) (N := 10) hx hb hts hiX0 hown hK hP 0 rfl rfl 0 (by decide) hk9 (fun _ h9 => h9) rfl dX0_giveDown_49 ?_
    refine lv_iload_n hx hb dX0_giveDown_52 rfl (lv_at hl 3 rfl) ?_
    refine lv_dup2_11 hx hb dX0_giveDown_53 rfl rfl ?_
    obtain ⟨v4, hv4, hf⟩ := bnd hf
    refine xa_iald hx hb hK hP hv4 1 0 rfl rfl dX0_giveDown_54 ?_
    refine lv_iload hx hb dX0_giveDown_55 (lv_at hl 0 rfl) ?_
    refine lv_isub hx hb dX0_giveDown_57 ?_
    obtain ⟨f5, hf5, hf⟩ := bnd hf
    refine xa_iast (wn := (wF ks a (mkFD f5 (FD.st F) (FD.ac F) (FD.rows F) (FD.ticks F) (FD.drops F) (FD.bursts F) (FD.burstReason F) (FD.burstNumber F) (FD.ticksBeforeBurst F)))) hx hb hK hP hD hS hf5 1 0 rfl rfl dX0_giveDown_58 rfl (fun H locs hP hD hS => ?_)
    refine lv_aload_n hx hb dX0_giveDown_59 rfl (lv_at hl 2 rfl) ?_
    refine va_get (v := .ref a.2.1) (C := RX0) (T := TX0) (N := 10) hx hb hts hiX0 hown hK hP 0 rfl rfl 0 (by decide) hk9 (fun _ h9 => h9) rfl dX0_giveDown_60 ?_
    refine lv_iload_n hx hb dX0_giveDown_63 rfl (lv_at hl 3 rfl) ?_
    refine lv_iconst (v := 1) hx hb dX0_giveDown_64 (by decide) ?_
    refine lv_iadd hx hb dX0_giveDown_65 ?_
    refine lv_dup2_11 hx hb dX0_giveDown_66 rfl rfl ?_
    obtain ⟨v6, hv6, hf⟩ := bnd hf
    refine xa_iald hx hb hK hP hv6 1 0 rfl rfl dX0_giveDown_67 ?_
    refine lv_iload hx hb dX0_giveDown_68 (lv_at hl 0 rfl) ?_
    refine lv_iadd hx hb dX0_giveDown_70 ?_
    obtain ⟨f7, hf7, hf⟩ := bnd hf
    refine xa_iast (wn := (wF ks a (mkFD f7 (FD.st F) (FD.ac F) (FD.rows F) (FD.ticks F) (FD.drops F) (FD.bursts F) (FD.burstReason F) (FD.burstNumber F) (FD.ticksBeforeBurst F)))) hx hb hK hP hD hS hf7 1 0 rfl rfl dX0_giveDown_71 rfl (fun H locs hP hD hS => ?_)
    obtain rfl := Option.some.inj hf
    exact hret _ _ _ _ dX0_giveDown_72 hP hD hS
  · replace hf := ifT hf c1
    refine lv_aload_n hx hb dX0_giveDown_10 rfl (lv_at hl 0 rfl) ?_
    refine lv_iload_n hx hb dX0_giveDown_11 rfl (lv_at hl 1 rfl) ?_
    refine lv_iload_n hx hb dX0_giveDown_12 rfl (lv_at hl 2 rfl) ?_
    refine lv_iconst (v := 2) hx hb dX0_giveDown_13 (by decide) ?_
    obtain ⟨v8, F9, hv8, hf⟩ := bnd2 hf
    refine xcallI (As := [.int x1, .int x2, .int 2]) (rest := []) (wc := (wF ks a F)) (w1 := (wF ks a F9)) (wr := ([] : va_W)) (wn := (wF ks a F9)) ⟨hx, hb, hml, hown, hts⟩ (c_X0_loseFrom k a F x1 x2 2 v8 F9 hv8) (cwV 3 hts gX0_giveDown_X0_loseFrom rfl rfl rfl (by decide +kernel) ⟨Nat.le_of_ble_eq_true rfl, Nat.le_of_ble_eq_true rfl⟩) hX hP hD hS hA [0, 1, 2, 3] [] [0, 1, 2, 3] rfl rfl rfl ⟨by decide, by decide, by decide⟩ (by decide) (ci := 0) (q0 := 0) rfl rfl rfl hl.1 rfl (Nat.le_of_ble_eq_true rfl) dX0_giveDown_14 ⟨Nat.zero_le _, Nat.zero_le _⟩ (fun zv8 H locs hP hD hS => ?_)
    refine lv_pop hx hb dX0_giveDown_17 rfl ?_
    obtain rfl := Option.some.inj hf
    exact hret _ _ _ _ dX0_giveDown_18 hP hD hS

/-! ===== X0_drain ===== -/
def p_X0_drain_L7 (k : Nat) : Nat → (FD) → (Int32) → Option (FD)
  | 0, _, _ => none
  | n + 1, F, x1 =>
    if x1 < 0 then (some F) else ((ald (FD.th F) 24 x1).bind fun v2 => (ald (FD.th F) 24 x1).bind fun v3 => (ald (FD.st F) 7 0).bind fun v4 => (p_X0_giveDown k F x1 (Int64.toInt32 ((((Int32.toInt64 v2) * (Int32.toInt64 v3)) * (Int32.toInt64 v4)) / 1000000))).bind fun F5 => p_X0_drain_L7 k n F5 (x1 + (-1)))

def p_X0_drain (k : Nat) (F : FD) : Option (FD) :=
  p_X0_drain_L7 k k F ((FD.rows F) - 1)

set_option maxHeartbeats 4000000 in
set_option maxRecDepth 100000 in
theorem c_X0_drain {l : Launch} {D : va_G} {ks : K3} (k : Nat) (a : AF) (F : FD) (rF : FD) (hf : p_X0_drain k F = some rF) : MetV l yX0_drain wsX0_drain { frames := 3, cells := 0, slots := 0, locals := 71 } D ks [.ref a.1] (wF ks a F) (wF ks a rF) := by
  refine MetV.of (cc := cX0_drain) (maxL := 4) (by decide +kernel) rfl (Nat.le_of_ble_eq_true rfl) ?_
  intro p e s m below meth c Q A hx hb hml hts hown hP hX hD hA hret ls hl
  have hK := hX.1
  replace hl : lv_has ls 4 [(0, .ref a.1)] := hl
  have hS : va_S A s.heap s.heap [] := va_S.rf
  have hiX0 : ∀ w ∈ wsX00, w ∈ wsX0_drain := by decide +kernel
  have hk30 := hts (.fieldLink RX0 30 "SoapFilm$Film" "rows" "I") (by decide +kernel)
  have hk9 := hts (.fieldLink RX0 9 "SoapFilm$Film" "thickness" "[I") (by decide +kernel)
  have hk15 := hts (.fieldLink RX0 15 "SoapFilm$Film" "settings" "[I") (by decide +kernel)
  have hc114 := hts (.constantLong RX0 114 (1000000)) (by decide +kernel)
  unfold p_X0_drain at hf
  refine lv_aload_n hx hb dX0_drain_0 rfl (lv_at hl 0 rfl) ?_
  refine va_get (v := .int (FD.rows F)) (C := RX0) (T := TX0) (N := 10) hx hb hts hiX0 hown hK hP 0 rfl rfl 3 (by decide) hk30 (fun _ h9 => h9) rfl dX0_drain_1 ?_
  refine lv_iconst (v := 1) hx hb dX0_drain_4 (by decide) ?_
  refine lv_isub hx hb dX0_drain_5 ?_
  refine lv_istore_n (lv' := [(1, .int ((FD.rows F) - 1)), (0, .ref a.1)]) hx hb dX0_drain_6 rfl hl (by decide) rfl (fun ls hl => ?_)
  have L7 : ∀ (n : Nat) (Fq7 : FD) (x1q7 : Int32) (H : Heap) (locs : List Loc) (ls : Array Slot), p_X0_drain_L7 k n Fq7 x1q7 = some rF → va_P D vwCl (wF ks a Fq7) H → va_D A (wF ks a Fq7) → va_S A s.heap H locs → lv_has ls 4 [(0, .ref a.1), (1, .int x1q7)] → W p l e { frames := 3, cells := 0, slots := 0, locals := 71 } s m ([.ref a.1] : List Value).toArray below meth c H locs 0 0 Q (F0 m 7 ls []) := by
    intro n
    induction n with
    | zero => intro Fq7 x1q7 H locs ls hf; cases hf
    | succ n ih7 =>
      intro Fq7 x1q7 H locs ls hf hP hD hS hl
      rw [p_X0_drain_L7] at hf
      refine lv_iload_n hx hb dX0_drain_7 rfl (lv_at hl 1 rfl) ?_
      refine lv_if_lt (tgt := 52) hx hb dX0_drain_8 (by decide) (fun c1 => ?_) (fun c1 => ?_)
      · replace hf := ifT hf c1
        obtain rfl := Option.some.inj hf
        exact hret _ _ _ _ dX0_drain_52 hP hD hS
      · replace hf := ifF hf c1
        refine lv_aload_n hx hb dX0_drain_11 rfl (lv_at hl 0 rfl) ?_
        refine va_get (v := .ref a.2.1) (C := RX0) (T := TX0) (N := 10) hx hb hts hiX0 hown hK hP 0 rfl rfl 0 (by decide) hk9 (fun _ h9 => h9) rfl dX0_drain_12 ?_
        refine lv_iload_n hx hb dX0_drain_15 rfl (lv_at hl 1 rfl) ?_
        obtain ⟨v2, hv2, hf⟩ := bnd hf
        refine xa_iald hx hb hK hP hv2 1 0 rfl rfl dX0_drain_16 ?_
        refine lv_i2l hx hb dX0_drain_17 rfl ?_
        refine lv_aload_n hx hb dX0_drain_18 rfl (lv_at hl 0 rfl) ?_
        refine va_get (v := .ref a.2.1) (C := RX0) (T := TX0) (N := 10) hx hb hts hiX0 hown hK hP 0 rfl rfl 0 (by decide) hk9 (fun _ h9 => h9) rfl dX0_drain_19 ?_
        refine lv_iload_n hx hb dX0_drain_22 rfl (lv_at hl 1 rfl) ?_
        obtain ⟨v3, hv3, hf⟩ := bnd hf
        refine xa_iald hx hb hK hP hv3 1 0 rfl rfl dX0_drain_23 ?_
        refine lv_i2l hx hb dX0_drain_24 rfl ?_
        refine lv_lmul hx hb dX0_drain_25 ?_
        refine lv_lstore_n (lv' := [(2, .long ((Int32.toInt64 v2) * (Int32.toInt64 v3))), (0, .ref a.1), (1, .int x1q7)]) hx hb dX0_drain_26 rfl hl (by decide) rfl (fun ls hl => ?_)
        refine lv_aload_n hx hb dX0_drain_27 rfl (lv_at hl 1 rfl) ?_
        refine lv_iload_n hx hb dX0_drain_28 rfl (lv_at hl 2 rfl) ?_
        refine lv_lload_n hx hb dX0_drain_29 rfl (lv_at hl 0 rfl) ?_
        refine lv_aload_n hx hb dX0_drain_30 rfl (lv_at hl 1 rfl) ?_
        refine va_get (v := .ref a.2.2.1) (C := RX0) (T := TX0) (N := 10) hx hb hts hiX0 hown hK hP 0 rfl rfl 1 (by decide) hk15 (fun _ h9 => h9) rfl dX0_drain_31 ?_
        refine lv_iconst (v := 0) hx hb dX0_drain_34 (by decide) ?_
        obtain ⟨v4, hv4, hf⟩ := bnd hf
        refine xa_iald hx hb hK hP hv4 2 0 rfl rfl dX0_drain_35 ?_
        refine lv_i2l hx hb dX0_drain_36 rfl ?_
        refine lv_lmul hx hb dX0_drain_37 ?_
        refine lv_ldc2 (v := 1000000) hx hb hown hc114 dX0_drain_38 ?_
        refine lv_ldiv hx hb dX0_drain_41 (by decide) ?_
        refine lv_l2i hx hb dX0_drain_42 rfl ?_
        obtain ⟨F5, hF5, hf⟩ := bnd hf
        refine xcallV (As := [.int x1q7, .int (Int64.toInt32 ((((Int32.toInt64 v2) * (Int32.toInt64 v3)) * (Int32.toInt64 v4)) / 1000000))]) (rest := []) (wc := (wF ks a Fq7)) (w1 := (wF ks a F5)) (wr := ([] : va_W)) (wn := (wF ks a F5)) ⟨hx, hb, hml, hown, hts⟩ (c_X0_giveDown k a Fq7 x1q7 (Int64.toInt32 ((((Int32.toInt64 v2) * (Int32.toInt64 v3)) * (Int32.toInt64 v4)) / 1000000)) F5 hF5) (cwV 2 hts gX0_drain_X0_giveDown rfl rfl rfl (by decide +kernel) ⟨Nat.le_of_ble_eq_true rfl, Nat.le_of_ble_eq_true rfl⟩) hX hP hD hS hA [0, 1, 2, 3] [] [0, 1, 2, 3] rfl rfl rfl ⟨by decide, by decide, by decide⟩ (by decide) (ci := 0) (q0 := 0) rfl rfl rfl hl.1 rfl (Nat.le_of_ble_eq_true rfl) dX0_drain_43 ⟨Nat.zero_le _, Nat.zero_le _⟩ (fun H locs hP hD hS => ?_)
        refine lv_iinc (v := (x1q7 + (-1))) (lv' := [(1, .int (x1q7 + (-1))), (2, .long ((Int32.toInt64 v2) * (Int32.toInt64 v3))), (0, .ref a.1)]) hx hb dX0_drain_46 hl (k := 2) rfl rfl (by decide) rfl (fun ls hl => ?_)
        refine lv_goto (tgt := 7) hx hb dX0_drain_49 (by decide) ?_
        exact ih7 _ _  _ _ _ hf hP hD hS (lv_sub hl [2, 0] rfl)
  exact L7 k _ _ _ _ _ hf hP hD hS (lv_sub hl [1, 0] rfl)
