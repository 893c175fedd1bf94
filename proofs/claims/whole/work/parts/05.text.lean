/-! ===== X4_isBetween ===== -/
def p_X4_isBetween (k : Nat) (x0 : Int32) (x1 : Int32) (x2 : Int32) : Option (Int32) :=
  if x0 < x1 then (some 0) else (if x2 < x0 then (some 0) else (some 1))

set_option maxHeartbeats 4000000 in
set_option maxRecDepth 100000 in
theorem c_X4_isBetween {l : Launch} {D : va_G} {ks : K3} (k : Nat) (x0 : Int32) (x1 : Int32) (x2 : Int32) (r : Int32) (hf : p_X4_isBetween k x0 x1 x2 = some r) : MetR l yX4_isBetween wsX4_isBetween { frames := 0, cells := 0, slots := 0, locals := 0 } D ks [.int x0, .int x1, .int x2] [] r (narrow .boolean (.int r) = .int r) := by
  refine MetR.of (cc := cX4_isBetween) (maxL := 3) (ret := (some .boolean)) (by decide +kernel) rfl (Nat.le_of_ble_eq_true rfl) ?_ ⟨_, rfl⟩
  intro p e s m below meth c Q hx hb hml hts hown hP hX hret ls hl
  have hK := hX.1
  replace hl : lv_has ls 3 [(0, .int x0), (1, .int x1), (2, .int x2)] := hl
  unfold p_X4_isBetween at hf
  refine lv_iload_n hx hb dX4_isBetween_0 rfl (lv_at hl 0 rfl) ?_
  refine lv_iload_n hx hb dX4_isBetween_1 rfl (lv_at hl 1 rfl) ?_
  refine lv_icmp_lt (tgt := 14) hx hb dX4_isBetween_2 (by decide) (fun c1 => ?_) (fun c1 => ?_)
  · replace hf := ifT hf c1
    refine lv_iconst (v := 0) hx hb dX4_isBetween_14 (by decide) ?_
    obtain rfl := Option.some.inj hf
    exact hret rfl _ _ dX4_isBetween_15 (fun ty h => by cases h; rfl)
  · replace hf := ifF hf c1
    refine lv_iload_n hx hb dX4_isBetween_5 rfl (lv_at hl 0 rfl) ?_
    refine lv_iload_n hx hb dX4_isBetween_6 rfl (lv_at hl 2 rfl) ?_
    refine lv_icmp_gt (tgt := 14) hx hb dX4_isBetween_7 (by decide) (fun c2 => ?_) (fun c2 => ?_)
    · replace hf := ifT hf c2
      refine lv_iconst (v := 0) hx hb dX4_isBetween_14 (by decide) ?_
      obtain rfl := Option.some.inj hf
      exact hret rfl _ _ dX4_isBetween_15 (fun ty h => by cases h; rfl)
    · replace hf := ifF hf c2
      refine lv_iconst (v := 1) hx hb dX4_isBetween_10 (by decide) ?_
      refine lv_goto (tgt := 15) hx hb dX4_isBetween_11 (by decide) ?_
      obtain rfl := Option.some.inj hf
      exact hret rfl _ _ dX4_isBetween_15 (fun ty h => by cases h; rfl)

/-! ===== X4_isThickness ===== -/
def p_X4_isThickness (k : Nat) (x0 : Int32) : Option (Int32) :=
  (p_X4_isBetween k x0 0 5000).bind fun v1 => some v1

set_option maxHeartbeats 4000000 in
set_option maxRecDepth 100000 in
theorem c_X4_isThickness {l : Launch} {D : va_G} {ks : K3} (k : Nat) (x0 : Int32) (r : Int32) (hf : p_X4_isThickness k x0 = some r) : MetR l yX4_isThickness wsX4_isThickness { frames := 1, cells := 0, slots := 0, locals := 22 } D ks [.int x0] [] r (narrow .boolean (.int r) = .int r) := by
  refine MetR.of (cc := cX4_isThickness) (maxL := 1) (ret := (some .boolean)) (by decide +kernel) rfl (Nat.le_of_ble_eq_true rfl) ?_ ⟨_, rfl⟩
  intro p e s m below meth c Q hx hb hml hts hown hP hX hret ls hl
  have hK := hX.1
  replace hl : lv_has ls 1 [(0, .int x0)] := hl
  unfold p_X4_isThickness at hf
  refine lv_iload_n hx hb dX4_isThickness_0 rfl (lv_at hl 0 rfl) ?_
  refine lv_iconst (v := 0) hx hb dX4_isThickness_1 (by decide) ?_
  refine lv_sipush (v := 5000) hx hb dX4_isThickness_2 (by decide) ?_
  obtain ⟨v1, hv1, hf⟩ := bnd hf
  refine xcallRS (As := [.int x0, .int 0, .int 5000]) (rest := []) (wc := []) ⟨hx, hb, hml, hown, hts⟩ (c_X4_isBetween k x0 0 5000 v1 hv1) (va_cwS 3 hts gX4_isThickness_X4_isBetween rfl rfl rfl (by decide +kernel) ⟨Nat.le_of_ble_eq_true rfl, Nat.le_of_ble_eq_true rfl⟩) hX (va_P0 _ _ _) rfl hl.1 rfl (Nat.le_of_ble_eq_true rfl) dX4_isThickness_5 ⟨Nat.zero_le _, Nat.zero_le _⟩ (fun zv1 => ?_)
  obtain rfl := Option.some.inj hf
  exact hret zv1 _ _ dX4_isThickness_8 (fun ty h => by cases h; exact zv1)

/-! ===== X4_isColour ===== -/
def p_X4_isColour (k : Nat) (x0 : Int32) : Option (Int32) :=
  (p_X4_isBetween k x0 0 7).bind fun v1 => some v1

set_option maxHeartbeats 4000000 in
set_option maxRecDepth 100000 in
theorem c_X4_isColour {l : Launch} {D : va_G} {ks : K3} (k : Nat) (x0 : Int32) (r : Int32) (hf : p_X4_isColour k x0 = some r) : MetR l yX4_isColour wsX4_isColour { frames := 1, cells := 0, slots := 0, locals := 22 } D ks [.int x0] [] r (narrow .boolean (.int r) = .int r) := by
  refine MetR.of (cc := cX4_isColour) (maxL := 1) (ret := (some .boolean)) (by decide +kernel) rfl (Nat.le_of_ble_eq_true rfl) ?_ ⟨_, rfl⟩
  intro p e s m below meth c Q hx hb hml hts hown hP hX hret ls hl
  have hK := hX.1
  replace hl : lv_has ls 1 [(0, .int x0)] := hl
  unfold p_X4_isColour at hf
  refine lv_iload_n hx hb dX4_isColour_0 rfl (lv_at hl 0 rfl) ?_
  refine lv_iconst (v := 0) hx hb dX4_isColour_1 (by decide) ?_
  refine lv_bipush (v := 7) hx hb dX4_isColour_2 (by decide) ?_
  obtain ⟨v1, hv1, hf⟩ := bnd hf
  refine xcallRS (As := [.int x0, .int 0, .int 7]) (rest := []) (wc := []) ⟨hx, hb, hml, hown, hts⟩ (c_X4_isBetween k x0 0 7 v1 hv1) (va_cwS 3 hts gX4_isColour_X4_isBetween rfl rfl rfl (by decide +kernel) ⟨Nat.le_of_ble_eq_true rfl, Nat.le_of_ble_eq_true rfl⟩) hX (va_P0 _ _ _) rfl hl.1 rfl (Nat.le_of_ble_eq_true rfl) dX4_isColour_4 ⟨Nat.zero_le _, Nat.zero_le _⟩ (fun zv1 => ?_)
  obtain rfl := Option.some.inj hf
  exact hret zv1 _ _ dX4_isColour_7 (fun ty h => by cases h; exact zv1)

/-! ===== X4_isQuestion ===== -/
def p_X4_isQuestion (k : Nat) (x0 : Int32) (x1 : Int32) : Option (Int32) :=
  if x0 = 0 then (if x1 = 0 then (some 1) else (some 0)) else (if x0 = 1 then ((p_X4_isBetween k x1 1 24).bind fun v4 => some v4) else (if x0 = 2 then ((p_X4_isColour k x1).bind fun v6 => some v6) else (if x0 = 3 then ((p_X4_isBetween k x1 1 100).bind fun v8 => some v8) else (some 0))))

set_option maxHeartbeats 4000000 in
set_option maxRecDepth 100000 in
theorem c_X4_isQuestion {l : Launch} {D : va_G} {ks : K3} (k : Nat) (x0 : Int32) (x1 : Int32) (r : Int32) (hf : p_X4_isQuestion k x0 x1 = some r) : MetR l yX4_isQuestion wsX4_isQuestion { frames := 2, cells := 0, slots := 0, locals := 42 } D ks [.int x0, .int x1] [] r (narrow .boolean (.int r) = .int r) := by
  refine MetR.of (cc := cX4_isQuestion) (maxL := 2) (ret := (some .boolean)) (by decide +kernel) rfl (Nat.le_of_ble_eq_true rfl) ?_ ⟨_, rfl⟩
  intro p e s m below meth c Q hx hb hml hts hown hP hX hret ls hl
  have hK := hX.1
  replace hl : lv_has ls 2 [(0, .int x0), (1, .int x1)] := hl
  unfold p_X4_isQuestion at hf
  refine lv_iload_n hx hb dX4_isQuestion_0 rfl (lv_at hl 0 rfl) ?_
  by_cases c1 : x0 = 0
  · replace hf := ifT hf c1
    refine lv_tableIn (tgt := 32) (off := 31) hx hb dX4_isQuestion_1 (by rw [c1]; decide) (by rw [c1]; decide) (by rw [c1]; rfl) (by decide) ?_
    refine lv_iload_n hx hb dX4_isQuestion_32 rfl (lv_at hl 1 rfl) ?_
    refine lv_if_ne (tgt := 40) hx hb dX4_isQuestion_33 (by decide) (fun c2 => ?_) (fun c2 => ?_)
    · replace hf := ifF hf c2
      refine lv_iconst (v := 0) hx hb dX4_isQuestion_40 (by decide) ?_
      obtain rfl := Option.some.inj hf
      exact hret rfl _ _ dX4_isQuestion_41 (fun ty h => by cases h; rfl)
    · replace hf := ifT hf c2
      refine lv_iconst (v := 1) hx hb dX4_isQuestion_36 (by decide) ?_
      refine lv_goto (tgt := 41) hx hb dX4_isQuestion_37 (by decide) ?_
      obtain rfl := Option.some.inj hf
      exact hret rfl _ _ dX4_isQuestion_41 (fun ty h => by cases h; rfl)
  replace hf := ifF hf c1
  by_cases c3 : x0 = 1
  · replace hf := ifT hf c3
    refine lv_tableIn (tgt := 42) (off := 41) hx hb dX4_isQuestion_1 (by rw [c3]; decide) (by rw [c3]; decide) (by rw [c3]; rfl) (by decide) ?_
    refine lv_iload_n hx hb dX4_isQuestion_42 rfl (lv_at hl 1 rfl) ?_
    refine lv_iconst (v := 1) hx hb dX4_isQuestion_43 (by decide) ?_
    refine lv_bipush (v := 24) hx hb dX4_isQuestion_44 (by decide) ?_
    obtain ⟨v4, hv4, hf⟩ := bnd hf
    refine xcallRS (As := [.int x1, .int 1, .int 24]) (rest := []) (wc := []) ⟨hx, hb, hml, hown, hts⟩ (c_X4_isBetween k x1 1 24 v4 hv4) (va_cwS 3 hts gX4_isQuestion_X4_isBetween rfl rfl rfl (by decide +kernel) ⟨Nat.le_of_ble_eq_true rfl, Nat.le_of_ble_eq_true rfl⟩) hX (va_P0 _ _ _) rfl hl.1 rfl (Nat.le_of_ble_eq_true rfl) dX4_isQuestion_46 ⟨Nat.zero_le _, Nat.zero_le _⟩ (fun zv4 => ?_)
    obtain rfl := Option.some.inj hf
    exact hret zv4 _ _ dX4_isQuestion_49 (fun ty h => by cases h; exact zv4)
  replace hf := ifF hf c3
  by_cases c5 : x0 = 2
  · replace hf := ifT hf c5
    refine lv_tableIn (tgt := 50) (off := 49) hx hb dX4_isQuestion_1 (by rw [c5]; decide) (by rw [c5]; decide) (by rw [c5]; rfl) (by decide) ?_
    refine lv_iload_n hx hb dX4_isQuestion_50 rfl (lv_at hl 1 rfl) ?_
    obtain ⟨v6, hv6, hf⟩ := bnd hf
    refine xcallRS (As := [.int x1]) (rest := []) (wc := []) ⟨hx, hb, hml, hown, hts⟩ (c_X4_isColour k x1 v6 hv6) (va_cwS 1 hts gX4_isQuestion_X4_isColour rfl rfl rfl (by decide +kernel) ⟨Nat.le_of_ble_eq_true rfl, Nat.le_of_ble_eq_true rfl⟩) hX (va_P0 _ _ _) rfl hl.1 rfl (Nat.le_of_ble_eq_true rfl) dX4_isQuestion_51 ⟨Nat.zero_le _, Nat.zero_le _⟩ (fun zv6 => ?_)
    obtain rfl := Option.some.inj hf
    exact hret zv6 _ _ dX4_isQuestion_54 (fun ty h => by cases h; exact zv6)
  replace hf := ifF hf c5
  by_cases c7 : x0 = 3
  · replace hf := ifT hf c7
    refine lv_tableIn (tgt := 55) (off := 54) hx hb dX4_isQuestion_1 (by rw [c7]; decide) (by rw [c7]; decide) (by rw [c7]; rfl) (by decide) ?_
    refine lv_iload_n hx hb dX4_isQuestion_55 rfl (lv_at hl 1 rfl) ?_
    refine lv_iconst (v := 1) hx hb dX4_isQuestion_56 (by decide) ?_
    refine lv_bipush (v := 100) hx hb dX4_isQuestion_57 (by decide) ?_
    obtain ⟨v8, hv8, hf⟩ := bnd hf
    refine xcallRS (As := [.int x1, .int 1, .int 100]) (rest := []) (wc := []) ⟨hx, hb, hml, hown, hts⟩ (c_X4_isBetween k x1 1 100 v8 hv8) (va_cwS 3 hts gX4_isQuestion_X4_isBetween rfl rfl rfl (by decide +kernel) ⟨Nat.le_of_ble_eq_true rfl, Nat.le_of_ble_eq_true rfl⟩) hX (va_P0 _ _ _) rfl hl.1 rfl (Nat.le_of_ble_eq_true rfl) dX4_isQuestion_59 ⟨Nat.zero_le _, Nat.zero_le _⟩ (fun zv8 => ?_)
    obtain rfl := Option.some.inj hf
    exact hret zv8 _ _ dX4_isQuestion_62 (fun ty h => by cases h; exact zv8)
  replace hf := ifF hf c7
  refine lv_tableOut (tgt := 63) hx hb dX4_isQuestion_1 (by have := lv_neT (a := 0) c1 (by decide); have := lv_neT (a := 1) c3 (by decide); have := lv_neT (a := 2) c5 (by decide); have := lv_neT (a := 3) c7 (by decide); omega) (by decide) ?_
  refine lv_iconst (v := 0) hx hb dX4_isQuestion_63 (by decide) ?_
  obtain rfl := Option.some.inj hf
  exact hret rfl _ _ dX4_isQuestion_64 (fun ty h => by cases h; rfl)

/-! ===== X1_append ===== -/
def p_X1_append (k : Nat) (T : TD) (x1 : Int32) : Option (TD) :=
  if 100 ≤ (TD.length T) then (some T) else ((cst (TD.sg T) 100 (TD.length T) x1).bind fun f2 => some (mkTD f2 (TD.th T) ((TD.length T) + 1) (TD.rows T) (TD.position T) (TD.reason T)))

set_option maxHeartbeats 4000000 in
set_option maxRecDepth 100000 in
theorem c_X1_append {l : Launch} {D : va_G} {ks : K3} (k : Nat) (t : AT) (T : TD) (x1 : Int32) (rT : TD) (hf : p_X1_append k T x1 = some rT) : MetV l yX1_append wsX1_append { frames := 0, cells := 0, slots := 0, locals := 0 } D ks [.ref t.1, .int x1] (wT ks t T) (wT ks t rT) := by
  refine MetV.of (cc := cX1_append) (maxL := 2) (by decide +kernel) rfl (Nat.le_of_ble_eq_true rfl) ?_
  intro p e s m below meth c Q A hx hb hml hts hown hP hX hD hA hret ls hl
  have hK := hX.1
  replace hl : lv_has ls 2 [(0, .ref t.1), (1, .int x1)] := hl
  have hS : va_S A s.heap s.heap [] := va_S.rf
  have hiX1 : ∀ w ∈ wsX10, w ∈ wsX1_append := by decide +kernel
  have hk19 := hts (.fieldLink RX1 19 "SoapFilm$FilmText" "length" "I") (by decide +kernel)
  have hk11 := hts (.fieldLink RX1 11 "SoapFilm$FilmText" "signs" "[C") (by decide +kernel)
  unfold p_X1_append at hf
  refine lv_aload_n hx hb dX1_append_0 rfl (lv_at hl 0 rfl) ?_
  refine va_get (v := .int (TD.length T)) (C := RX1) (T := TX1) (N := 6) hx hb hts hiX1 hown hK hP 0 rfl rfl 1 (by decide) hk19 (fun _ h9 => h9) rfl dX1_append_1 ?_
  refine lv_bipush (v := 100) hx hb dX1_append_4 (by decide) ?_
  refine lv_icmp_ge (tgt := 29) hx hb dX1_append_6 (by decide) (fun c1 => ?_) (fun c1 => ?_)
  · replace hf := ifT hf c1
    obtain rfl := Option.some.inj hf
    exact hret _ _ _ _ dX1_append_29 hP hD hS
  · replace hf := ifF hf c1
    refine lv_aload_n hx hb dX1_append_9 rfl (lv_at hl 0 rfl) ?_
    refine va_get (v := .ref t.2.1) (C := RX1) (T := TX1) (N := 6) hx hb hts hiX1 hown hK hP 0 rfl rfl 0 (by decide) hk11 (fun _ h9 => h9) rfl dX1_append_10 ?_
    refine lv_aload_n hx hb dX1_append_13 rfl (lv_at hl 0 rfl) ?_
    refine va_get (v := .int (TD.length T)) (C := RX1) (T := TX1) (N := 6) hx hb hts hiX1 hown hK hP 0 rfl rfl 1 (by decide) hk19 (fun _ h9 => h9) rfl dX1_append_14 ?_
    refine lv_iload_n hx hb dX1_append_17 rfl (lv_at hl 1 rfl) ?_
    obtain ⟨f2, hf2, hf⟩ := bnd hf
    refine xa_cast (wn := (wT ks t (mkTD f2 (TD.th T) (TD.length T) (TD.rows T) (TD.position T) (TD.reason T)))) hx hb hK hP hD hS hf2 1 1 rfl rfl dX1_append_18 rfl (fun H locs hP hD hS => ?_)
    refine lv_aload_n hx hb dX1_append_19 rfl (lv_at hl 0 rfl) ?_
    refine lv_dup hx hb dX1_append_20 rfl ?_
    refine va_get (v := .int (TD.length T)) (C := RX1) (T := TX1) (N := 6) hx hb hts hiX1 hown hK hP 0 rfl rfl 1 (by decide) hk19 (fun _ h9 => h9) rfl dX1_append_21 ?_
    refine lv_iconst (v := 1) hx hb dX1_append_24 (by decide) ?_
    refine lv_iadd hx hb dX1_append_25 ?_
    refine xputI (wn := (wT ks t (mkTD f2 (TD.th T) ((TD.length T) + 1) (TD.rows T) (TD.position T) (TD.reason T)))) (C := RX1) (T := TX1) (N := 6) hx hb hts hiX1 tyX1 tyX1_ok nmX1 hown hK hP hD hS 0 rfl rfl 1 (by decide) hk19 (fun _ h9 => h9) rfl (by decide +kernel) (Nat.le_of_ble_eq_true rfl) dX1_append_26 rfl (fun H locs hP hD hS => ?_)
    obtain rfl := Option.some.inj hf
    exact hret _ _ _ _ dX1_append_29 hP hD hS

/-! ===== X1_findSign ===== -/
def p_X1_findSign_L3 (k : Nat) (T : TD) (y1 : Int32) (y3 : Int32) : Nat → (Int32) → Option (Int32)
  | 0, _ => none
  | n + 1, x4 =>
    if y3 ≤ x4 then (some y3) else ((ald (TD.sg T) 100 x4).bind fun v2 => if v2 = y1 then (some x4) else (p_X1_findSign_L3 k T y1 y3 n (x4 + 1)))

def p_X1_findSign (k : Nat) (T : TD) (x1 : Int32) (x2 : Int32) (x3 : Int32) : Option (Int32) :=
  p_X1_findSign_L3 k T x1 x3 k x2

set_option maxHeartbeats 4000000 in
set_option maxRecDepth 100000 in
theorem c_X1_findSign {l : Launch} {D : va_G} {ks : K3} (k : Nat) (t : AT) (T : TD) (x1 : Int32) (x2 : Int32) (x3 : Int32) (r : Int32) (hf : p_X1_findSign k T x1 x2 x3 = some r) : MetR l yX1_findSign wsX1_findSign { frames := 0, cells := 0, slots := 0, locals := 0 } D ks [.ref t.1, .int x1, .int x2, .int x3] (wT ks t T) r True := by
  refine MetR.of (cc := cX1_findSign) (maxL := 5) (ret := (some .int)) (by decide +kernel) rfl (Nat.le_of_ble_eq_true rfl) ?_ ⟨_, rfl⟩
  intro p e s m below meth c Q hx hb hml hts hown hP hX hret ls hl
  have hK := hX.1
  replace hl : lv_has ls 5 [(0, .ref t.1), (1, .int x1), (2, .int x2), (3, .int x3)] := hl
  have hiX1 : ∀ w ∈ wsX10, w ∈ wsX1_findSign := by decide +kernel
  have hk11 := hts (.fieldLink RX1 11 "SoapFilm$FilmText" "signs" "[C") (by decide +kernel)
  unfold p_X1_findSign at hf
  refine lv_iload_n hx hb dX1_findSign_0 rfl (lv_at hl 2 rfl) ?_
  refine lv_istore (lv' := [(4, .int x2), (0, .ref t.1), (1, .int x1), (2, .int x2), (3, .int x3)]) hx hb dX1_findSign_1 hl (by decide) rfl (fun ls hl => ?_)
  have L3 : ∀ (n : Nat) (x4q3 : Int32) (ls : Array Slot), p_X1_findSign_L3 k T x1 x3 n x4q3 = some r → lv_has ls 5 [(0, .ref t.1), (1, .int x1), (3, .int x3), (4, .int x4q3)] → W p l e { frames := 0, cells := 0, slots := 0, locals := 0 } s m ([.ref t.1, .int x1, .int x2, .int x3] : List Value).toArray below meth c s.heap [] 0 0 Q (F0 m 3 ls []) := by
    intro n
    induction n with
    | zero => intro x4q3 ls hf; cases hf
    | succ n ih3 =>
      intro x4q3 ls hf hl
      rw [p_X1_findSign_L3] at hf
      refine lv_iload hx hb dX1_findSign_3 (lv_at hl 3 rfl) ?_
      refine lv_iload_n hx hb dX1_findSign_5 rfl (lv_at hl 2 rfl) ?_
      refine lv_icmp_ge (tgt := 29) hx hb dX1_findSign_6 (by decide) (fun c1 => ?_) (fun c1 => ?_)
      · replace hf := ifT hf c1
        refine lv_iload_n hx hb dX1_findSign_29 rfl (lv_at hl 2 rfl) ?_
        obtain rfl := Option.some.inj hf
        exact hret trivial _ _ dX1_findSign_30 (fun ty h => by cases h; rfl)
      · replace hf := ifF hf c1
        refine lv_aload_n hx hb dX1_findSign_9 rfl (lv_at hl 0 rfl) ?_
        refine va_get (v := .ref t.2.1) (C := RX1) (T := TX1) (N := 6) hx hb hts hiX1 hown hK hP 0 rfl rfl 0 (by decide) hk11 (fun _ h9 => h9) rfl dX1_findSign_10 ?_
        refine lv_iload hx hb dX1_findSign_13 (lv_at hl 3 rfl) ?_
        obtain ⟨v2, hv2, hf⟩ := bnd hf
        refine xa_cald hx hb hK hP hv2 1 1 rfl rfl dX1_findSign_15 ?_
        refine lv_iload_n hx hb dX1_findSign_16 rfl (lv_at hl 1 rfl) ?_
        refine lv_icmp_ne (tgt := 23) hx hb dX1_findSign_17 (by decide) (fun c3 => ?_) (fun c3 => ?_)
        · replace hf := ifF hf c3
          refine lv_iinc (v := (x4q3 + 1)) (lv' := [(4, .int (x4q3 + 1)), (0, .ref t.1), (1, .int x1), (3, .int x3)]) hx hb dX1_findSign_23 hl (k := 3) rfl rfl (by decide) rfl (fun ls hl => ?_)
          refine lv_goto (tgt := 3) hx hb dX1_findSign_26 (by decide) ?_
          exact ih3 _  _ hf (lv_sub hl [1, 2, 3, 0] rfl)
        · replace hf := ifT hf c3
          refine lv_iload hx hb dX1_findSign_20 (lv_at hl 3 rfl) ?_
          obtain rfl := Option.some.inj hf
          exact hret trivial _ _ dX1_findSign_22 (fun ty h => by cases h; rfl)
  exact L3 k _ _ hf (lv_sub hl [1, 2, 4, 0] rfl)

/-! ===== X1_number ===== -/
def p_X1_number_L22 (k : Nat) (T : TD) (y2 : Int32) : Nat → (Int32) → (Int32) → Option (Int32)
  | 0, _, _ => none
  | n + 1, x4, x5 =>
    if y2 ≤ x5 then (some x4) else ((ald (TD.sg T) 100 x5).bind fun v2 => if v2 < 48 then (some (-1)) else ((ald (TD.sg T) 100 x5).bind fun v4 => if v4 ≤ 57 then ((ald (TD.sg T) 100 x5).bind fun v6 => p_X1_number_L22 k T y2 n (((x4 * 10) + v6) - 48) (x5 + 1)) else (some (-1))))

def p_X1_number (k : Nat) (T : TD) (x1 : Int32) (x2 : Int32) (x3 : Int32) : Option (Int32) :=
  if (x2 - x1) < 1 then (some (-1)) else (if (x2 - x1) ≤ x3 then (p_X1_number_L22 k T x2 k 0 x1) else (some (-1)))

set_option maxHeartbeats 4000000 in
set_option maxRecDepth 100000 in
theorem c_X1_number {l : Launch} {D : va_G} {ks : K3} (k : Nat) (t : AT) (T : TD) (x1 : Int32) (x2 : Int32) (x3 : Int32) (r : Int32) (hf : p_X1_number k T x1 x2 x3 = some r) : MetR l yX1_number wsX1_number { frames := 0, cells := 0, slots := 0, locals := 0 } D ks [.ref t.1, .int x1, .int x2, .int x3] (wT ks t T) r True := by
  refine MetR.of (cc := cX1_number) (maxL := 6) (ret := (some .int)) (by decide +kernel) rfl (Nat.le_of_ble_eq_true rfl) ?_ ⟨_, rfl⟩
  intro p e s m below meth c Q hx hb hml hts hown hP hX hret ls hl
  have hK := hX.1
  replace hl : lv_has ls 6 [(0, .ref t.1), (1, .int x1), (2, .int x2), (3, .int x3)] := hl
  have hiX1 : ∀ w ∈ wsX10, w ∈ wsX1_number := by decide +kernel
  have hk11 := hts (.fieldLink RX1 11 "SoapFilm$FilmText" "signs" "[C") (by decide +kernel)
  unfold p_X1_number at hf
  refine lv_iload_n hx hb dX1_number_0 rfl (lv_at hl 2 rfl) ?_
  refine lv_iload_n hx hb dX1_number_1 rfl (lv_at hl 1 rfl) ?_
  refine lv_isub hx hb dX1_number_2 ?_
  refine lv_iconst (v := 1) hx hb dX1_number_3 (by decide) ?_
  refine lv_icmp_lt (tgt := 14) hx hb dX1_number_4 (by decide) (fun c1 => ?_) (fun c1 => ?_)
  · replace hf := ifT hf c1
    refine lv_iconst (v := (-1)) hx hb dX1_number_14 (by decide) ?_
    obtain rfl := Option.some.inj hf
    exact hret trivial _ _ dX1_number_15 (fun ty h => by cases h; rfl)
  · replace hf := ifF hf c1
    refine lv_iload_n hx hb dX1_number_7 rfl (lv_at hl 2 rfl) ?_
    refine lv_iload_n hx hb dX1_number_8 rfl (lv_at hl 1 rfl) ?_
    refine lv_isub hx hb dX1_number_9 ?_
    refine lv_iload_n hx hb dX1_number_10 rfl (lv_at hl 3 rfl) ?_
    refine lv_icmp_le (tgt := 16) hx hb dX1_number_11 (by decide) (fun c2 => ?_) (fun c2 => ?_)
    · replace hf := ifT hf c2
      refine lv_iconst (v := 0) hx hb dX1_number_16 (by decide) ?_
      refine lv_istore (lv' := [(4, .int 0), (0, .ref t.1), (1, .int x1), (2, .int x2), (3, .int x3)]) hx hb dX1_number_17 hl (by decide) rfl (fun ls hl => ?_)
      refine lv_iload_n hx hb dX1_number_19 rfl (lv_at hl 2 rfl) ?_
      refine lv_istore (lv' := [(5, .int x1), (4, .int 0), (0, .ref t.1), (1, .int x1), (2, .int x2), (3, .int x3)]) hx hb dX1_number_20 hl (by decide) rfl (fun ls hl => ?_)
      have L22 : ∀ (n : Nat) (x4q22 : Int32) (x5q22 : Int32) (ls : Array Slot), p_X1_number_L22 k T x2 n x4q22 x5q22 = some r → lv_has ls 6 [(0, .ref t.1), (2, .int x2), (4, .int x4q22), (5, .int x5q22)] → W p l e { frames := 0, cells := 0, slots := 0, locals := 0 } s m ([.ref t.1, .int x1, .int x2, .int x3] : List Value).toArray below meth c s.heap [] 0 0 Q (F0 m 22 ls []) := by
        intro n
        induction n with
        | zero => intro x4q22 x5q22 ls hf; cases hf
        | succ n ih22 =>
          intro x4q22 x5q22 ls hf hl
          rw [p_X1_number_L22] at hf
          refine lv_iload hx hb dX1_number_22 (lv_at hl 3 rfl) ?_
          refine lv_iload_n hx hb dX1_number_24 rfl (lv_at hl 1 rfl) ?_
          refine lv_icmp_ge (tgt := 78) hx hb dX1_number_25 (by decide) (fun c3 => ?_) (fun c3 => ?_)
          · replace hf := ifT hf c3
            refine lv_iload hx hb dX1_number_78 (lv_at hl 2 rfl) ?_
            obtain rfl := Option.some.inj hf
            exact hret trivial _ _ dX1_number_80 (fun ty h => by cases h; rfl)
          · replace hf := ifF hf c3
            refine lv_aload_n hx hb dX1_number_28 rfl (lv_at hl 0 rfl) ?_
            refine va_get (v := .ref t.2.1) (C := RX1) (T := TX1) (N := 6) hx hb hts hiX1 hown hK hP 0 rfl rfl 0 (by decide) hk11 (fun _ h9 => h9) rfl dX1_number_29 ?_
            refine lv_iload hx hb dX1_number_32 (lv_at hl 3 rfl) ?_
            obtain ⟨v4, hv4, hf⟩ := bnd hf
            refine xa_cald hx hb hK hP hv4 1 1 rfl rfl dX1_number_34 ?_
            refine lv_bipush (v := 48) hx hb dX1_number_35 (by decide) ?_
            refine lv_icmp_lt (tgt := 52) hx hb dX1_number_37 (by decide) (fun c5 => ?_) (fun c5 => ?_)
            · replace hf := ifT hf c5
              refine lv_iconst (v := (-1)) hx hb dX1_number_52 (by decide) ?_
              obtain rfl := Option.some.inj hf
              exact hret trivial _ _ dX1_number_53 (fun ty h => by cases h; rfl)
            · replace hf := ifF hf c5
              refine lv_aload_n hx hb dX1_number_40 rfl (lv_at hl 0 rfl) ?_
              refine va_get (v := .ref t.2.1) (C := RX1) (T := TX1) (N := 6) hx hb hts hiX1 hown hK hP 0 rfl rfl 0 (by decide) hk11 (fun _ h9 => h9) rfl dX1_number_41 ?_
              refine lv_iload hx hb dX1_number_44 (lv_at hl 3 rfl) ?_
              obtain ⟨v6, hv6, hf⟩ := bnd hf
              refine xa_cald hx hb hK hP hv6 1 1 rfl rfl dX1_number_46 ?_
              refine lv_bipush (v := 57) hx hb dX1_number_47 (by decide) ?_
              refine lv_icmp_le (tgt := 54) hx hb dX1_number_49 (by decide) (fun c7 => ?_) (fun c7 => ?_)
              · replace hf := ifT hf c7
                refine lv_iload hx hb dX1_number_54 (lv_at hl 2 rfl) ?_
                refine lv_bipush (v := 10) hx hb dX1_number_56 (by decide) ?_
                refine lv_imul hx hb dX1_number_58 ?_
                refine lv_aload_n hx hb dX1_number_59 rfl (lv_at hl 0 rfl) ?_
                refine va_get (v := .ref t.2.1) (C := RX1) (T := TX1) (N := 6) hx hb hts hiX1 hown hK hP 0 rfl rfl 0 (by decide) hk11 (fun _ h9 => h9) rfl dX1_number_60 ?_
                refine lv_iload hx hb dX1_number_63 (lv_at hl 3 rfl) ?_
                obtain ⟨v8, hv8, hf⟩ := bnd hf
                refine xa_cald hx hb hK hP hv8 1 1 rfl rfl dX1_number_65 ?_
                refine lv_iadd hx hb dX1_number_66 ?_
                refine lv_bipush (v := 48) hx hb dX1_number_67 (by decide) ?_
                refine lv_isub hx hb dX1_number_69 ?_
                refine lv_istore (lv' := [(4, .int (((x4q22 * 10) + v8) - 48)), (0, .ref t.1), (2, .int x2), (5, .int x5q22)]) hx hb dX1_number_70 hl (by decide) rfl (fun ls hl => ?_)
                refine lv_iinc (v := (x5q22 + 1)) (lv' := [(5, .int (x5q22 + 1)), (4, .int (((x4q22 * 10) + v8) - 48)), (0, .ref t.1), (2, .int x2)]) hx hb dX1_number_72 hl (k := 3) rfl rfl (by decide) rfl (fun ls hl => ?_)
                refine lv_goto (tgt := 22) hx hb dX1_number_75 (by decide) ?_
                exact ih22 _ _  _ hf (lv_sub hl [2, 3, 1, 0] rfl)
              · replace hf := ifF hf c7
                refine lv_iconst (v := (-1)) hx hb dX1_number_52 (by decide) ?_
                obtain rfl := Option.some.inj hf
                exact hret trivial _ _ dX1_number_53 (fun ty h => by cases h; rfl)
      exact L22 k _ _ _ hf (lv_sub hl [2, 4, 1, 0] rfl)
    · replace hf := ifF hf c2
      refine lv_iconst (v := (-1)) hx hb dX1_number_14 (by decide) ?_
      obtain rfl := Option.some.inj hf
      exact hret trivial _ _ dX1_number_15 (fun ty h => by cases h; rfl)

/-! ===== X1_takePart ===== -/
def p_X1_takePart_L90 (k : Nat) (y4 : Int32) (y5 : Int32) : Nat → (TD) → (Int32) → Option (Int32 × TD)
  | 0, _, _ => none
  | n + 1, T, x6 =>
    if y5 ≤ x6 then (some (0, T)) else ((ast (TD.th T) 24 (TD.rows T) y4).bind fun f2 => p_X1_takePart_L90 k y4 y5 n (mkTD (TD.sg T) f2 (TD.length T) ((TD.rows T) + 1) (TD.position T) (TD.reason T)) (x6 + 1))

def p_X1_takePart (k : Nat) (T : TD) (x1 : Int32) (x2 : Int32) : Option (Int32 × TD) :=
  (p_X1_findSign k T 120 x1 x2).bind fun v1 => (p_X1_number k T x1 v1 4).bind fun v2 => if x2 ≤ v1 then (if v2 = (-1) then (some (1, T)) else ((p_X4_isThickness k v2).bind fun v5 => if v5 = 0 then (some (2, T)) else ((p_X4_isBetween k 1 1 24).bind fun v7 => if v7 = 0 then (some (2, T)) else (if ((TD.rows T) + 1) ≤ 24 then (p_X1_takePart_L90 k v2 1 k T 0) else (some (3, T)))))) else ((p_X1_number k T (v1 + 1) x2 2).bind fun v12 => if v2 = (-1) then (some (1, T)) else (if v12 = (-1) then (some (1, T)) else ((p_X4_isThickness k v2).bind fun v15 => if v15 = 0 then (some (2, T)) else ((p_X4_isBetween k v12 1 24).bind fun v17 => if v17 = 0 then (some (2, T)) else (if ((TD.rows T) + v12) ≤ 24 then (p_X1_takePart_L90 k v2 v12 k T 0) else (some (3, T)))))))

set_option maxHeartbeats 4000000 in
set_option maxRecDepth 100000 in
theorem c_X1_takePart {l : Launch} {D : va_G} {ks : K3} (k : Nat) (t : AT) (T : TD) (x1 : Int32) (x2 : Int32) (r : Int32) (rT : TD) (hf : p_X1_takePart k T x1 x2 = some (r, rT)) : MetI l yX1_takePart wsX1_takePart { frames := 2, cells := 0, slots := 0, locals := 42 } D ks [.ref t.1, .int x1, .int x2] (wT ks t T) (wT ks t rT) r True := by
  refine MetI.of (cc := cX1_takePart) (maxL := 7) (ret := (some .int)) (by decide +kernel) rfl (Nat.le_of_ble_eq_true rfl) ?_ ⟨_, rfl⟩
  intro p e s m below meth c Q A hx hb hml hts hown hP hX hD hA hret ls hl
  have hK := hX.1
  replace hl : lv_has ls 7 [(0, .ref t.1), (1, .int x1), (2, .int x2)] := hl
  have hS : va_S A s.heap s.heap [] := va_S.rf
  have hiX1 : ∀ w ∈ wsX10, w ∈ wsX1_takePart := by decide +kernel
  have hiniRX4 := hts (.initialized RX4) (by decide +kernel)
  have hst_X4_isThickness := hts (.static yX4_isThickness) (by decide +kernel)
  have hst_X4_isBetween := hts (.static yX4_isBetween) (by decide +kernel)
  have hk23 := hts (.fieldLink RX1 23 "SoapFilm$FilmText" "rows" "I") (by decide +kernel)
  have hk15 := hts (.fieldLink RX1 15 "SoapFilm$FilmText" "thickness" "[I") (by decide +kernel)
  unfold p_X1_takePart at hf
  refine lv_aload_n hx hb dX1_takePart_0 rfl (lv_at hl 0 rfl) ?_
  refine lv_bipush (v := 120) hx hb dX1_takePart_1 (by decide) ?_
  refine lv_iload_n hx hb dX1_takePart_3 rfl (lv_at hl 1 rfl) ?_
  refine lv_iload_n hx hb dX1_takePart_4 rfl (lv_at hl 2 rfl) ?_
  obtain ⟨v1, hv1, hf⟩ := bnd hf
  refine xcallRV (As := [.int 120, .int x1, .int x2]) (rest := []) (wc := (wT ks t T)) ⟨hx, hb, hml, hown, hts⟩ (c_X1_findSign k t T 120 x1 x2 v1 hv1) (cwV 3 hts gX1_takePart_X1_findSign rfl rfl rfl (by decide +kernel) ⟨Nat.le_of_ble_eq_true rfl, Nat.le_of_ble_eq_true rfl⟩) hX hP (ci := 1) (q0 := 0) rfl rfl rfl hl.1 rfl (Nat.le_of_ble_eq_true rfl) dX1_takePart_5 ⟨Nat.zero_le _, Nat.zero_le _⟩ (fun zv1 => ?_)
  refine lv_istore_n (lv' := [(3, .int v1), (0, .ref t.1), (1, .int x1), (2, .int x2)]) hx hb dX1_takePart_8 rfl hl (by decide) rfl (fun ls hl => ?_)
  refine lv_aload_n hx hb dX1_takePart_9 rfl (lv_at hl 1 rfl) ?_
  refine lv_iload_n hx hb dX1_takePart_10 rfl (lv_at hl 2 rfl) ?_
  refine lv_iload_n hx hb dX1_takePart_11 rfl (lv_at hl 0 rfl) ?_
  refine lv_iconst (v := 4) hx hb dX1_takePart_12 (by decide) ?_
  obtain ⟨v2, hv2, hf⟩ := bnd hf
  refine xcallRV (As := [.int x1, .int v1, .int 4]) (rest := []) (wc := (wT ks t T)) ⟨hx, hb, hml, hown, hts⟩ (c_X1_number k t T x1 v1 4 v2 hv2) (cwV 3 hts gX1_takePart_X1_number rfl rfl rfl (by decide +kernel) ⟨Nat.le_of_ble_eq_true rfl, Nat.le_of_ble_eq_true rfl⟩) hX hP (ci := 1) (q0 := 0) rfl rfl rfl hl.1 rfl (Nat.le_of_ble_eq_true rfl) dX1_takePart_13 ⟨Nat.zero_le _, Nat.zero_le _⟩ (fun zv2 => ?_)
  refine lv_istore (lv' := [(4, .int v2), (3, .int v1), (0, .ref t.1), (1, .int x1), (2, .int x2)]) hx hb dX1_takePart_16 hl (by decide) rfl (fun ls hl => ?_)
  refine lv_iload_n hx hb dX1_takePart_18 rfl (lv_at hl 1 rfl) ?_
  refine lv_iload_n hx hb dX1_takePart_19 rfl (lv_at hl 4 rfl) ?_
  refine lv_icmp_ge (tgt := 35) hx hb dX1_takePart_20 (by decide) (fun c3 => ?_) (fun c3 => ?_)
  · replace hf := ifT hf c3
    refine lv_iconst (v := 1) hx hb dX1_takePart_35 (by decide) ?_
    refine lv_istore (lv' := [(5, .int 1), (4, .int v2), (3, .int v1), (0, .ref t.1), (1, .int x1), (2, .int x2)]) hx hb dX1_takePart_36 hl (by decide) rfl (fun ls hl => ?_)
    refine lv_iload hx hb dX1_takePart_38 (lv_at hl 1 rfl) ?_
    refine lv_iconst (v := (-1)) hx hb dX1_takePart_40 (by decide) ?_
    refine lv_icmp_eq (tgt := 50) hx hb dX1_takePart_41 (by decide) (fun c4 => ?_) (fun c4 => ?_)
    · replace hf := ifT hf c4
      refine lv_iconst (v := 1) hx hb dX1_takePart_50 (by decide) ?_
      obtain ⟨rfl, rfl⟩ := inj2 hf
      exact hret trivial _ _ _ _ dX1_takePart_51 (fun ty h => by cases h; rfl) hP hD hS
    · replace hf := ifF hf c4
      refine lv_iload hx hb dX1_takePart_44 (lv_at hl 0 rfl) ?_
      refine lv_iconst (v := (-1)) hx hb dX1_takePart_46 (by decide) ?_
      refine lv_icmp_ne (tgt := 52) hx hb dX1_takePart_47 (by decide) (fun _ => ?_) (fun c => absurd c (by decide))
      refine lv_iload hx hb dX1_takePart_52 (lv_at hl 1 rfl) ?_
      obtain ⟨v5, hv5, hf⟩ := bnd hf
      refine xcallRSN (As := [.int v2]) (rest := []) (wc := []) ⟨hx, hb, hml, hown, hts⟩ (c_X4_isThickness k v2 v5 hv5) ⟨va_cnB 1 hts gX1_takePart_X4_isThickness_n44 rfl rfl rfl hX.2.1 (hiniRX4) (by decide +kernel) ⟨Nat.le_of_ble_eq_true rfl, Nat.le_of_ble_eq_true rfl⟩, hst_X4_isThickness, trivial⟩ hX (va_P0 _ _ _) rfl hl.1 rfl (Nat.le_of_ble_eq_true rfl) dX1_takePart_54 ⟨Nat.zero_le _, Nat.zero_le _⟩ (fun zv5 => ?_)
      refine lv_if_eq (tgt := 71) hx hb dX1_takePart_57 (by decide) (fun c6 => ?_) (fun c6 => ?_)
      · replace hf := ifT hf c6
        refine lv_iconst (v := 2) hx hb dX1_takePart_71 (by decide) ?_
        obtain ⟨rfl, rfl⟩ := inj2 hf
        exact hret trivial _ _ _ _ dX1_takePart_72 (fun ty h => by cases h; rfl) hP hD hS
      · replace hf := ifF hf c6
        refine lv_iload hx hb dX1_takePart_60 (lv_at hl 0 rfl) ?_
        refine lv_iconst (v := 1) hx hb dX1_takePart_62 (by decide) ?_
        refine lv_bipush (v := 24) hx hb dX1_takePart_63 (by decide) ?_
        obtain ⟨v7, hv7, hf⟩ := bnd hf
        refine xcallRSN (As := [.int 1, .int 1, .int 24]) (rest := []) (wc := []) ⟨hx, hb, hml, hown, hts⟩ (c_X4_isBetween k 1 1 24 v7 hv7) ⟨va_cnB 3 hts gX1_takePart_X4_isBetween_n48 rfl rfl rfl hX.2.2.1 (hiniRX4) (by decide +kernel) ⟨Nat.le_of_ble_eq_true rfl, Nat.le_of_ble_eq_true rfl⟩, hst_X4_isBetween, trivial⟩ hX (va_P0 _ _ _) rfl hl.1 rfl (Nat.le_of_ble_eq_true rfl) dX1_takePart_65 ⟨Nat.zero_le _, Nat.zero_le _⟩ (fun zv7 => ?_)
        refine lv_if_ne (tgt := 73) hx hb dX1_takePart_68 (by decide) (fun c8 => ?_) (fun c8 => ?_)
        · replace hf := ifF hf c8
          refine lv_aload_n hx hb dX1_takePart_73 rfl (lv_at hl 3 rfl) ?_
          refine va_get (v := .int (TD.rows T)) (C := RX1) (T := TX1) (N := 6) hx hb hts hiX1 hown hK hP 0 rfl rfl 3 (by decide) hk23 (fun _ h9 => h9) rfl dX1_takePart_74 ?_
          refine lv_iload hx hb dX1_takePart_77 (lv_at hl 0 rfl) ?_
          refine lv_iadd hx hb dX1_takePart_79 ?_
          refine lv_bipush (v := 24) hx hb dX1_takePart_80 (by decide) ?_
          refine lv_icmp_le (tgt := 87) hx hb dX1_takePart_82 (by decide) (fun c9 => ?_) (fun c9 => ?_)
          · replace hf := ifT hf c9
            refine lv_iconst (v := 0) hx hb dX1_takePart_87 (by decide) ?_
            refine lv_istore (lv' := [(6, .int 0), (5, .int 1), (4, .int v2), (3, .int v1), (0, .ref t.1), (1, .int x1), (2, .int x2)]) hx hb dX1_takePart_88 hl (by decide) rfl (fun ls hl => ?_)
            have L90 : ∀ (n : Nat) (Tq90 : TD) (x6q90 : Int32) (H : Heap) (locs : List Loc) (ls : Array Slot), p_X1_takePart_L90 k v2 1 n Tq90 x6q90 = some (r, rT) → va_P D vwCl (wT ks t Tq90) H → va_D A (wT ks t Tq90) → va_S A s.heap H locs → lv_has ls 7 [(0, .ref t.1), (4, .int v2), (5, .int 1), (6, .int x6q90)] → W p l e { frames := 2, cells := 0, slots := 0, locals := 42 } s m ([.ref t.1, .int x1, .int x2] : List Value).toArray below meth c H locs 0 0 Q (F0 m 90 ls []) := by
              intro n
              induction n with
              | zero => intro Tq90 x6q90 H locs ls hf; cases hf
              | succ n ih90 =>
                intro Tq90 x6q90 H locs ls hf hP hD hS hl
                rw [p_X1_takePart_L90] at hf
                refine lv_iload hx hb dX1_takePart_90 (lv_at hl 3 rfl) ?_
                refine lv_iload hx hb dX1_takePart_92 (lv_at hl 2 rfl) ?_
                refine lv_icmp_ge (tgt := 124) hx hb dX1_takePart_94 (by decide) (fun c10 => ?_) (fun c10 => ?_)
                · replace hf := ifT hf c10
                  refine lv_iconst (v := 0) hx hb dX1_takePart_124 (by decide) ?_
                  obtain ⟨rfl, rfl⟩ := inj2 hf
                  exact hret trivial _ _ _ _ dX1_takePart_125 (fun ty h => by cases h; rfl) hP hD hS
                · replace hf := ifF hf c10
                  refine lv_aload_n hx hb dX1_takePart_97 rfl (lv_at hl 0 rfl) ?_
                  refine va_get (v := .ref t.2.2) (C := RX1) (T := TX1) (N := 6) hx hb hts hiX1 hown hK hP 0 rfl rfl 2 (by decide) hk15 (fun _ h9 => h9) rfl dX1_takePart_98 ?_
                  refine lv_aload_n hx hb dX1_takePart_101 rfl (lv_at hl 0 rfl) ?_
                  refine va_get (v := .int (TD.rows Tq90)) (C := RX1) (T := TX1) (N := 6) hx hb hts hiX1 hown hK hP 0 rfl rfl 3 (by decide) hk23 (fun _ h9 => h9) rfl dX1_takePart_102 ?_
                  refine lv_iload hx hb dX1_takePart_105 (lv_at hl 1 rfl) ?_
                  obtain ⟨f11, hf11, hf⟩ := bnd hf
                  refine xa_iast (wn := (wT ks t (mkTD (TD.sg Tq90) f11 (TD.length Tq90) (TD.rows Tq90) (TD.position Tq90) (TD.reason Tq90)))) hx hb hK hP hD hS hf11 2 0 rfl rfl dX1_takePart_107 rfl (fun H locs hP hD hS => ?_)
                  refine lv_aload_n hx hb dX1_takePart_108 rfl (lv_at hl 0 rfl) ?_
                  refine lv_dup hx hb dX1_takePart_109 rfl ?_
                  refine va_get (v := .int (TD.rows Tq90)) (C := RX1) (T := TX1) (N := 6) hx hb hts hiX1 hown hK hP 0 rfl rfl 3 (by decide) hk23 (fun _ h9 => h9) rfl dX1_takePart_110 ?_
                  refine lv_iconst (v := 1) hx hb dX1_takePart_113 (by decide) ?_
                  refine lv_iadd hx hb dX1_takePart_114 ?_
                  refine xputI (wn := (wT ks t (mkTD (TD.sg Tq90) f11 (TD.length Tq90) ((TD.rows Tq90) + 1) (TD.position Tq90) (TD.reason Tq90)))) (C := RX1) (T := TX1) (N := 6) hx hb hts hiX1 tyX1 tyX1_ok nmX1 hown hK hP hD hS 0 rfl rfl 3 (by decide) hk23 (fun _ h9 => h9) rfl (by decide +kernel) (Nat.le_of_ble_eq_true rfl) dX1_takePart_115 rfl (fun H locs hP hD hS => ?_)
                  refine lv_iinc (v := (x6q90 + 1)) (lv' := [(6, .int (x6q90 + 1)), (0, .ref t.1), (4, .int v2), (5, .int 1)]) hx hb dX1_takePart_118 hl (k := 3) rfl rfl (by decide) rfl (fun ls hl => ?_)
                  refine lv_goto (tgt := 90) hx hb dX1_takePart_121 (by decide) ?_
                  exact ih90 _ _  _ _ _ hf hP hD hS (lv_sub hl [1, 2, 3, 0] rfl)
            exact L90 k _ _ _ _ _ hf hP hD hS (lv_sub hl [4, 2, 1, 0] rfl)
          · replace hf := ifF hf c9
            refine lv_iconst (v := 3) hx hb dX1_takePart_85 (by decide) ?_
            obtain ⟨rfl, rfl⟩ := inj2 hf
            exact hret trivial _ _ _ _ dX1_takePart_86 (fun ty h => by cases h; rfl) hP hD hS
        · replace hf := ifT hf c8
          refine lv_iconst (v := 2) hx hb dX1_takePart_71 (by decide) ?_
          obtain ⟨rfl, rfl⟩ := inj2 hf
          exact hret trivial _ _ _ _ dX1_takePart_72 (fun ty h => by cases h; rfl) hP hD hS
  · replace hf := ifF hf c3
    refine lv_aload_n hx hb dX1_takePart_23 rfl (lv_at hl 2 rfl) ?_
    refine lv_iload_n hx hb dX1_takePart_24 rfl (lv_at hl 1 rfl) ?_
    refine lv_iconst (v := 1) hx hb dX1_takePart_25 (by decide) ?_
    refine lv_iadd hx hb dX1_takePart_26 ?_
    refine lv_iload_n hx hb dX1_takePart_27 rfl (lv_at hl 4 rfl) ?_
    refine lv_iconst (v := 2) hx hb dX1_takePart_28 (by decide) ?_
    obtain ⟨v12, hv12, hf⟩ := bnd hf
    refine xcallRV (As := [.int (v1 + 1), .int x2, .int 2]) (rest := []) (wc := (wT ks t T)) ⟨hx, hb, hml, hown, hts⟩ (c_X1_number k t T (v1 + 1) x2 2 v12 hv12) (cwV 3 hts gX1_takePart_X1_number rfl rfl rfl (by decide +kernel) ⟨Nat.le_of_ble_eq_true rfl, Nat.le_of_ble_eq_true rfl⟩) hX hP (ci := 1) (q0 := 0) rfl rfl rfl hl.1 rfl (Nat.le_of_ble_eq_true rfl) dX1_takePart_29 ⟨Nat.zero_le _, Nat.zero_le _⟩ (fun zv12 => ?_)
    refine lv_goto (tgt := 36) hx hb dX1_takePart_32 (by decide) ?_
    refine lv_istore (lv' := [(5, .int v12), (4, .int v2), (3, .int v1), (0, .ref t.1), (1, .int x1), (2, .int x2)]) hx hb dX1_takePart_36 hl (by decide) rfl (fun ls hl => ?_)
    refine lv_iload hx hb dX1_takePart_38 (lv_at hl 1 rfl) ?_
    refine lv_iconst (v := (-1)) hx hb dX1_takePart_40 (by decide) ?_
    refine lv_icmp_eq (tgt := 50) hx hb dX1_takePart_41 (by decide) (fun c13 => ?_) (fun c13 => ?_)
    · replace hf := ifT hf c13
      refine lv_iconst (v := 1) hx hb dX1_takePart_50 (by decide) ?_
      obtain ⟨rfl, rfl⟩ := inj2 hf
      exact hret trivial _ _ _ _ dX1_takePart_51 (fun ty h => by cases h; rfl) hP hD hS
    · replace hf := ifF hf c13
      refine lv_iload hx hb dX1_takePart_44 (lv_at hl 0 rfl) ?_
      refine lv_iconst (v := (-1)) hx hb dX1_takePart_46 (by decide) ?_
      refine lv_icmp_ne (tgt := 52) hx hb dX1_takePart_47 (by decide) (fun c14 => ?_) (fun c14 => ?_)
      · replace hf := ifF hf c14
        refine lv_iload hx hb dX1_takePart_52 (lv_at hl 1 rfl) ?_
        obtain ⟨v15, hv15, hf⟩ := bnd hf
        refine xcallRSN (As := [.int v2]) (rest := []) (wc := []) ⟨hx, hb, hml, hown, hts⟩ (c_X4_isThickness k v2 v15 hv15) ⟨va_cnB 1 hts gX1_takePart_X4_isThickness_n44 rfl rfl rfl hX.2.1 (hiniRX4) (by decide +kernel) ⟨Nat.le_of_ble_eq_true rfl, Nat.le_of_ble_eq_true rfl⟩, hst_X4_isThickness, trivial⟩ hX (va_P0 _ _ _) rfl hl.1 rfl (Nat.le_of_ble_eq_true rfl) dX1_takePart_54 ⟨Nat.zero_le _, Nat.zero_le _⟩ (fun zv15 => ?_)
        refine lv_if_eq (tgt := 71) hx hb dX1_takePart_57 (by decide) (fun c16 => ?_) (fun c16 => ?_)
        · replace hf := ifT hf c16
          refine lv_iconst (v := 2) hx hb dX1_takePart_71 (by decide) ?_
          obtain ⟨rfl, rfl⟩ := inj2 hf
          exact hret trivial _ _ _ _ dX1_takePart_72 (fun ty h => by cases h; rfl) hP hD hS
        · replace hf := ifF hf c16
          refine lv_iload hx hb dX1_takePart_60 (lv_at hl 0 rfl) ?_
          refine lv_iconst (v := 1) hx hb dX1_takePart_62 (by decide) ?_
          refine lv_bipush (v := 24) hx hb dX1_takePart_63 (by decide) ?_
          obtain ⟨v17, hv17, hf⟩ := bnd hf
          refine xcallRSN (As := [.int v12, .int 1, .int 24]) (rest := []) (wc := []) ⟨hx, hb, hml, hown, hts⟩ (c_X4_isBetween k v12 1 24 v17 hv17) ⟨va_cnB 3 hts gX1_takePart_X4_isBetween_n48 rfl rfl rfl hX.2.2.1 (hiniRX4) (by decide +kernel) ⟨Nat.le_of_ble_eq_true rfl, Nat.le_of_ble_eq_true rfl⟩, hst_X4_isBetween, trivial⟩ hX (va_P0 _ _ _) rfl hl.1 rfl (Nat.le_of_ble_eq_true rfl) dX1_takePart_65 ⟨Nat.zero_le _, Nat.zero_le _⟩ (fun zv17 => ?_)
          refine lv_if_ne (tgt := 73) hx hb dX1_takePart_68 (by decide) (fun c18 => ?_) (fun c18 => ?_)
          · replace hf := ifF hf c18
            refine lv_aload_n hx hb dX1_takePart_73 rfl (lv_at hl 3 rfl) ?_
            refine va_get (v := .int (TD.rows T)) (C := RX1) (T := TX1) (N := 6) hx hb hts hiX1 hown hK hP 0 rfl rfl 3 (by decide) hk23 (fun _ h9 => h9) rfl dX1_takePart_74 ?_
            refine lv_iload hx hb dX1_takePart_77 (lv_at hl 0 rfl) ?_
            refine lv_iadd hx hb dX1_takePart_79 ?_
            refine lv_bipush (v := 24) hx hb dX1_takePart_80 (by decide) ?_
            refine lv_icmp_le (tgt := 87) hx hb dX1_takePart_82 (by decide) (fun c19 => ?_) (fun c19 => ?_)
            · replace hf := ifT hf c19
              refine lv_iconst (v := 0) hx hb dX1_takePart_87 (by decide) ?_
              refine lv_istore (lv' := [(6, .int 0), (5, .int v12), (4, .int v2), (3, .int v1), (0, .ref t.1), (1, .int x1), (2, .int x2)]) hx hb dX1_takePart_88 hl (by decide) rfl (fun ls hl => ?_)
              have L90 : ∀ (n : Nat) (Tq90 : TD) (x6q90 : Int32) (H : Heap) (locs : List Loc) (ls : Array Slot), p_X1_takePart_L90 k v2 v12 n Tq90 x6q90 = some (r, rT) → va_P D vwCl (wT ks t Tq90) H → va_D A (wT ks t Tq90) → va_S A s.heap H locs → lv_has ls 7 [(0, .ref t.1), (4, .int v2), (5, .int v12), (6, .int x6q90)] → W p l e { frames := 2, cells := 0, slots := 0, locals := 42 } s m ([.ref t.1, .int x1, .int x2] : List Value).toArray below meth c H locs 0 0 Q (F0 m 90 ls []) := by
                intro n
                induction n with
                | zero => intro Tq90 x6q90 H locs ls hf; cases hf
                | succ n ih90 =>
                  intro Tq90 x6q90 H locs ls hf hP hD hS hl
                  rw [p_X1_takePart_L90] at hf
                  refine lv_iload hx hb dX1_takePart_90 (lv_at hl 3 rfl) ?_
                  refine lv_iload hx hb dX1_takePart_92 (lv_at hl 2 rfl) ?_
                  refine lv_icmp_ge (tgt := 124) hx hb dX1_takePart_94 (by decide) (fun c20 => ?_) (fun c20 => ?_)
                  · replace hf := ifT hf c20
                    refine lv_iconst (v := 0) hx hb dX1_takePart_124 (by decide) ?_
                    obtain ⟨rfl, rfl⟩ := inj2 hf
                    exact hret trivial _ _ _ _ dX1_takePart_125 (fun ty h => by cases h; rfl) hP hD hS
                  · replace hf := ifF hf c20
                    refine lv_aload_n hx hb dX1_takePart_97 rfl (lv_at hl 0 rfl) ?_
                    refine va_get (v := .ref t.2.2) (C := RX1) (T := TX1) (N := 6) hx hb hts hiX1 hown hK hP 0 rfl rfl 2 (by decide) hk15 (fun _ h9 => h9) rfl dX1_takePart_98 ?_
                    refine lv_aload_n hx hb dX1_takePart_101 rfl (lv_at hl 0 rfl) ?_
                    refine va_get (v := .int (TD.rows Tq90)) (C := RX1) (T := TX1) (N := 6) hx hb hts hiX1 hown hK hP 0 rfl rfl 3 (by decide) hk23 (fun _ h9 => h9) rfl dX1_takePart_102 ?_
                    refine lv_iload hx hb dX1_takePart_105 (lv_at hl 1 rfl) ?_
                    obtain ⟨f21, hf21, hf⟩ := bnd hf
                    refine xa_iast (wn := (wT ks t (mkTD (TD.sg Tq90) f21 (TD.length Tq90) (TD.rows Tq90) (TD.position Tq90) (TD.reason Tq90)))) hx hb hK hP hD hS hf21 2 0 rfl rfl dX1_takePart_107 rfl (fun H locs hP hD hS => ?_)
                    refine lv_aload_n hx hb dX1_takePart_108 rfl (lv_at hl 0 rfl) ?_
                    refine lv_dup hx hb dX1_takePart_109 rfl ?_
                    refine va_get (v := .int (TD.rows Tq90)) (C := RX1) (T := TX1) (N := 6) hx hb hts hiX1 hown hK hP 0 rfl rfl 3 (by decide) hk23 (fun _ h9 => h9) rfl dX1_takePart_110 ?_
                    refine lv_iconst (v := 1) hx hb dX1_takePart_113 (by decide) ?_
                    refine lv_iadd hx hb dX1_takePart_114 ?_
                    refine xputI (wn := (wT ks t (mkTD (TD.sg Tq90) f21 (TD.length Tq90) ((TD.rows Tq90) + 1) (TD.position Tq90) (TD.reason Tq90)))) (C := RX1) (T := TX1) (N := 6) hx hb hts hiX1 tyX1 tyX1_ok nmX1 hown hK hP hD hS 0 rfl rfl 3 (by decide) hk23 (fun _ h9 => h9) rfl (by decide +kernel) (Nat.le_of_ble_eq_true rfl) dX1_takePart_115 rfl (fun H locs hP hD hS => ?_)
                    refine lv_iinc (v := (x6q90 + 1)) (lv' := [(6, .int (x6q90 + 1)), (0, .ref t.1), (4, .int v2), (5, .int v12)]) hx hb dX1_takePart_118 hl (k := 3) rfl rfl (by decide) rfl (fun ls hl => ?_)
                    refine lv_goto (tgt := 90) hx hb dX1_takePart_121 (by decide) ?_
                    exact ih90 _ _  _ _ _ hf hP hD hS (lv_sub hl [1, 2, 3, 0] rfl)
              exact L90 k _ _ _ _ _ hf hP hD hS (lv_sub hl [4, 2, 1, 0] rfl)
            · replace hf := ifF hf c19
              refine lv_iconst (v := 3) hx hb dX1_takePart_85 (by decide) ?_
              obtain ⟨rfl, rfl⟩ := inj2 hf
              exact hret trivial _ _ _ _ dX1_takePart_86 (fun ty h => by cases h; rfl) hP hD hS
          · replace hf := ifT hf c18
            refine lv_iconst (v := 2) hx hb dX1_takePart_71 (by decide) ?_
            obtain ⟨rfl, rfl⟩ := inj2 hf
            exact hret trivial _ _ _ _ dX1_takePart_72 (fun ty h => by cases h; rfl) hP hD hS
      · replace hf := ifT hf c14
        refine lv_iconst (v := 1) hx hb dX1_takePart_50 (by decide) ?_
        obtain ⟨rfl, rfl⟩ := inj2 hf
        exact hret trivial _ _ _ _ dX1_takePart_51 (fun ty h => by cases h; rfl) hP hD hS

/-! ===== X1_parse ===== -/
def p_X1_parse_L12 (k : Nat) : Nat → (TD) → (Int32) → Option (TD)
  | 0, _, _ => none
  | n + 1, T, x1 =>
    if (TD.length T) < x1 then (some T) else (if (TD.reason T) = 0 then ((p_X1_findSign k T 44 x1 (TD.length T)).bind fun v3 => bind2 (p_X1_takePart k (mkTD (TD.sg T) (TD.th T) (TD.length T) (TD.rows T) x1 (TD.reason T)) x1 v3) fun v4 T5 => p_X1_parse_L12 k n (mkTD (TD.sg T5) (TD.th T5) (TD.length T5) (TD.rows T5) (TD.position T5) v4) (v3 + 1)) else (some T))

def p_X1_parse (k : Nat) (T : TD) : Option (TD) :=
  p_X1_parse_L12 k k (mkTD (TD.sg T) (TD.th T) (TD.length T) 0 (TD.position T) 0) 0

set_option maxHeartbeats 4000000 in
set_option maxRecDepth 100000 in
theorem c_X1_parse {l : Launch} {D : va_G} {ks : K3} (k : Nat) (t : AT) (T : TD) (rT : TD) (hf : p_X1_parse k T = some rT) : MetV l yX1_parse wsX1_parse { frames := 3, cells := 0, slots := 0, locals := 68 } D ks [.ref t.1] (wT ks t T) (wT ks t rT) := by
  refine MetV.of (cc := cX1_parse) (maxL := 3) (by decide +kernel) rfl (Nat.le_of_ble_eq_true rfl) ?_
  intro p e s m below meth c Q A hx hb hml hts hown hP hX hD hA hret ls hl
  have hK := hX.1
  replace hl : lv_has ls 3 [(0, .ref t.1)] := hl
  have hS : va_S A s.heap s.heap [] := va_S.rf
  have hiX1 : ∀ w ∈ wsX10, w ∈ wsX1_parse := by decide +kernel
  have hk23 := hts (.fieldLink RX1 23 "SoapFilm$FilmText" "rows" "I") (by decide +kernel)
  have hk26 := hts (.fieldLink RX1 26 "SoapFilm$FilmText" "reason" "I") (by decide +kernel)
  have hk19 := hts (.fieldLink RX1 19 "SoapFilm$FilmText" "length" "I") (by decide +kernel)
  have hk33 := hts (.fieldLink RX1 33 "SoapFilm$FilmText" "position" "I") (by decide +kernel)
  unfold p_X1_parse at hf
  refine lv_aload_n hx hb dX1_parse_0 rfl (lv_at hl 0 rfl) ?_
  refine lv_iconst (v := 0) hx hb dX1_parse_1 (by decide) ?_
  refine xputI (wn := (wT ks t (mkTD (TD.sg T) (TD.th T) (TD.length T) 0 (TD.position T) (TD.reason T)))) (C := RX1) (T := TX1) (N := 6) hx hb hts hiX1 tyX1 tyX1_ok nmX1 hown hK hP hD hS 0 rfl rfl 3 (by decide) hk23 (fun _ h9 => h9) rfl (by decide +kernel) (Nat.le_of_ble_eq_true rfl) dX1_parse_2 rfl (fun H locs hP hD hS => ?_)
  refine lv_aload_n hx hb dX1_parse_5 rfl (lv_at hl 0 rfl) ?_
  refine lv_iconst (v := 0) hx hb dX1_parse_6 (by decide) ?_
  refine xputI (wn := (wT ks t (mkTD (TD.sg T) (TD.th T) (TD.length T) 0 (TD.position T) 0))) (C := RX1) (T := TX1) (N := 6) hx hb hts hiX1 tyX1 tyX1_ok nmX1 hown hK hP hD hS 0 rfl rfl 5 (by decide) hk26 (fun _ h9 => h9) rfl (by decide +kernel) (Nat.le_of_ble_eq_true rfl) dX1_parse_7 rfl (fun H locs hP hD hS => ?_)
  refine lv_iconst (v := 0) hx hb dX1_parse_10 (by decide) ?_
  refine lv_istore_n (lv' := [(1, .int 0), (0, .ref t.1)]) hx hb dX1_parse_11 rfl hl (by decide) rfl (fun ls hl => ?_)
  have L12 : ∀ (n : Nat) (Tq12 : TD) (x1q12 : Int32) (H : Heap) (locs : List Loc) (ls : Array Slot), p_X1_parse_L12 k n Tq12 x1q12 = some rT → va_P D vwCl (wT ks t Tq12) H → va_D A (wT ks t Tq12) → va_S A s.heap H locs → lv_has ls 3 [(0, .ref t.1), (1, .int x1q12)] → W p l e { frames := 3, cells := 0, slots := 0, locals := 68 } s m ([.ref t.1] : List Value).toArray below meth c H locs 0 0 Q (F0 m 12 ls []) := by
    intro n
    induction n with
    | zero => intro Tq12 x1q12 H locs ls hf; cases hf
    | succ n ih12 =>
      intro Tq12 x1q12 H locs ls hf hP hD hS hl
      rw [p_X1_parse_L12] at hf
      refine lv_iload_n hx hb dX1_parse_12 rfl (lv_at hl 1 rfl) ?_
      refine lv_aload_n hx hb dX1_parse_13 rfl (lv_at hl 0 rfl) ?_
      refine va_get (v := .int (TD.length Tq12)) (C := RX1) (T := TX1) (N := 6) hx hb hts hiX1 hown hK hP 0 rfl rfl 1 (by decide) hk19 (fun _ h9 => h9) rfl dX1_parse_14 ?_
      refine lv_icmp_gt (tgt := 61) hx hb dX1_parse_17 (by decide) (fun c1 => ?_) (fun c1 => ?_)
      · replace hf := ifT hf c1
        obtain rfl := Option.some.inj hf
        exact hret _ _ _ _ dX1_parse_61 hP hD hS
      · replace hf := ifF hf c1
        refine lv_aload_n hx hb dX1_parse_20 rfl (lv_at hl 0 rfl) ?_
        refine va_get (v := .int (TD.reason Tq12)) (C := RX1) (T := TX1) (N := 6) hx hb hts hiX1 hown hK hP 0 rfl rfl 5 (by decide) hk26 (fun _ h9 => h9) rfl dX1_parse_21 ?_
        refine lv_if_ne (tgt := 61) hx hb dX1_parse_24 (by decide) (fun c2 => ?_) (fun c2 => ?_)
        · replace hf := ifF hf c2
          obtain rfl := Option.some.inj hf
          exact hret _ _ _ _ dX1_parse_61 hP hD hS
        · replace hf := ifT hf c2
          refine lv_aload_n hx hb dX1_parse_27 rfl (lv_at hl 0 rfl) ?_
          refine lv_bipush (v := 44) hx hb dX1_parse_28 (by decide) ?_
          refine lv_iload_n hx hb dX1_parse_30 rfl (lv_at hl 1 rfl) ?_
          refine lv_aload_n hx hb dX1_parse_31 rfl (lv_at hl 0 rfl) ?_
          refine va_get (v := .int (TD.length Tq12)) (C := RX1) (T := TX1) (N := 6) hx hb hts hiX1 hown hK hP 0 rfl rfl 1 (by decide) hk19 (fun _ h9 => h9) rfl dX1_parse_32 ?_
          obtain ⟨v3, hv3, hf⟩ := bnd hf
          refine xcallRV (As := [.int 44, .int x1q12, .int (TD.length Tq12)]) (rest := []) (wc := (wT ks t Tq12)) ⟨hx, hb, hml, hown, hts⟩ (c_X1_findSign k t Tq12 44 x1q12 (TD.length Tq12) v3 hv3) (cwV 3 hts gX1_parse_X1_findSign rfl rfl rfl (by decide +kernel) ⟨Nat.le_of_ble_eq_true rfl, Nat.le_of_ble_eq_true rfl⟩) hX hP (ci := 1) (q0 := 0) rfl rfl rfl hl.1 rfl (Nat.le_of_ble_eq_true rfl) dX1_parse_35 ⟨Nat.zero_le _, Nat.zero_le _⟩ (fun zv3 => ?_)
          refine lv_istore_n (lv' := [(2, .int v3), (0, .ref t.1), (1, .int x1q12)]) hx hb dX1_parse_38 rfl hl (by decide) rfl (fun ls hl => ?_)
          refine lv_aload_n hx hb dX1_parse_39 rfl (lv_at hl 1 rfl) ?_
          refine lv_iload_n hx hb dX1_parse_40 rfl (lv_at hl 2 rfl) ?_
          refine xputI (wn := (wT ks t (mkTD (TD.sg Tq12) (TD.th Tq12) (TD.length Tq12) (TD.rows Tq12) x1q12 (TD.reason Tq12)))) (C := RX1) (T := TX1) (N := 6) hx hb hts hiX1 tyX1 tyX1_ok nmX1 hown hK hP hD hS 0 rfl rfl 4 (by decide) hk33 (fun _ h9 => h9) rfl (by decide +kernel) (Nat.le_of_ble_eq_true rfl) dX1_parse_41 rfl (fun H locs hP hD hS => ?_)
          refine lv_aload_n hx hb dX1_parse_44 rfl (lv_at hl 1 rfl) ?_
          refine lv_aload_n hx hb dX1_parse_45 rfl (lv_at hl 1 rfl) ?_
          refine lv_iload_n hx hb dX1_parse_46 rfl (lv_at hl 2 rfl) ?_
          refine lv_iload_n hx hb dX1_parse_47 rfl (lv_at hl 0 rfl) ?_
          obtain ⟨v4, T5, hv4, hf⟩ := bnd2 hf
          refine xcallI (As := [.int x1q12, .int v3]) (rest := [.ref t.1]) (wc := (wT ks t (mkTD (TD.sg Tq12) (TD.th Tq12) (TD.length Tq12) (TD.rows Tq12) x1q12 (TD.reason Tq12)))) (w1 := (wT ks t T5)) (wr := ([] : va_W)) (wn := (wT ks t T5)) ⟨hx, hb, hml, hown, hts⟩ (c_X1_takePart k t (mkTD (TD.sg Tq12) (TD.th Tq12) (TD.length Tq12) (TD.rows Tq12) x1q12 (TD.reason Tq12)) x1q12 v3 v4 T5 hv4) (cwV 2 hts gX1_parse_X1_takePart rfl rfl rfl (by decide +kernel) ⟨Nat.le_of_ble_eq_true rfl, Nat.le_of_ble_eq_true rfl⟩) hX hP hD hS hA [0, 1, 2] [] [0, 1, 2] rfl rfl rfl ⟨by decide, by decide, by decide⟩ (by decide) (ci := 1) (q0 := 0) rfl rfl rfl hl.1 rfl (Nat.le_of_ble_eq_true rfl) dX1_parse_48 ⟨Nat.zero_le _, Nat.zero_le _⟩ (fun zv4 H locs hP hD hS => ?_)
          refine xputI (wn := (wT ks t (mkTD (TD.sg T5) (TD.th T5) (TD.length T5) (TD.rows T5) (TD.position T5) v4))) (C := RX1) (T := TX1) (N := 6) hx hb hts hiX1 tyX1 tyX1_ok nmX1 hown hK hP hD hS 0 rfl rfl 5 (by decide) hk26 (fun _ h9 => h9) rfl (by decide +kernel) (Nat.le_of_ble_eq_true rfl) dX1_parse_51 rfl (fun H locs hP hD hS => ?_)
          refine lv_iload_n hx hb dX1_parse_54 rfl (lv_at hl 0 rfl) ?_
          refine lv_iconst (v := 1) hx hb dX1_parse_55 (by decide) ?_
          refine lv_iadd hx hb dX1_parse_56 ?_
          refine lv_istore_n (lv' := [(1, .int (v3 + 1)), (2, .int v3), (0, .ref t.1)]) hx hb dX1_parse_57 rfl hl (by decide) rfl (fun ls hl => ?_)
          refine lv_goto (tgt := 12) hx hb dX1_parse_58 (by decide) ?_
          exact ih12 _ _  _ _ _ hf hP hD hS (lv_sub hl [2, 0] rfl)
  exact L12 k _ _ _ _ _ hf hP hD hS (lv_sub hl [1, 0] rfl)
