/-! ===== X4_isBetween ===== -/
def p_X4_isBetween (k : Nat) (x0 : Int32) (x1 : Int32) (x2 : Int32) : Option (Int32) :=
  if x0 < x1 then (some 0) else (if x2 < x0 then (some 0) else (some 1))

set_option maxHeartbeats 4000000 in
set_option maxRecDepth 100000 in
theorem c_X4_isBetween {l : Launch} {D : va_G} {ks : K3} (k : Nat) (x0 : Int32) (x1 : Int32) (x2 : Int32) (r : Int32) (hf : p_X4_isBetween k x0 x1 x2 = some r) : MetR l yX4_isBetween wsX4_isBetween { frames := 0, cells := 0, slots := 0, locals := 0 } D ks [.int x0, .int x1, .int x2] [] r (narrow .boolean (.int r) = .int r) := by
  refine MetR.of (cc := cX4_isBetween) (maxL := 3) (ret := (some .boolean)) (by decide +kernel) rfl (Nat.le_of_ble_eq_true rfl) ?_ ⟨_, rfl⟩
  intro p e s m below meth c Q hx hb hml hts hown hP hX hret ls hl
  have hK := hX.1
  replace hl : lv_has ls 3 [(0, .int x0), (1, .int x1), (2, .int x2)] := hl
  unfold p_X4_isBetween at hf
  refine lv_iload_n hx hb dX4_isBetween_0 rfl (lv_at hl 0 rfl) ?_
  refine lv_iload_n hx hb dX4_isBetween_1 rfl (lv_at hl 1 rfl) ?_
  refine lv_icmp_lt (tgt := 14) hx hb dX4_isBetween_2 (by decide) (fun c1 => ?_) (fun c1 => ?_)
  · replace hf := ifT hf c1
    refine lv_iconst (v := 0) hx hb dX4_isBetween_14 (by decide) ?_
    obtain rfl := Option.some.inj hf
    exact hret rfl _ _ dX4_isBetween_15 (fun ty h => by cases h; rfl)
  · replace hf := ifF hf c1
    refine lv_iload_n hx hb dX4_isBetween_5 rfl (lv_at hl 0 rfl) ?_
    refine lv_iload_n hx hb dX4_isBetween_6 rfl (lv_at hl 2 rfl) ?_
    refine lv_icmp_gt (tgt := 14) hx hb dX4_isBetween_7 (by decide) (fun c2 => ?_) (fun c2 => ?_)
    · replace hf := ifT hf c2
      refine lv_iconst (v := 0) hx hb dX4_isBetween_14 (by decide) ?_
      obtain rfl := Option.some.inj hf
      exact hret rfl _ _ dX4_isBetween_15 (fun ty h => by cases h; rfl)
    · replace hf := ifF hf c2
      refine lv_iconst (v := 1) hx hb dX4_isBetween_10 (by decide) ?_
      refine lv_goto (tgt := 15) hx hb dX4_isBetween_11 (by decide) ?_
      obtain rfl := Option.some.inj hf
      exact hret rfl _ _ dX4_isBetween_15 (fun ty h => by cases h; rfl)

/-! ===== X4_isThickness ===== -/
def p_X4_isThickness (k : Nat) (x0 : Int32) : Option (Int32) :=
  (p_X4_isBetween k x0 0 5000).bind fun v1 => some v1

set_option maxHeartbeats 4000000 in
set_option maxRecDepth 100000 in
theorem c_X4_isThickness {l : Launch} {D : va_G} {ks : K3} (k : Nat) (x0 : Int32) (r : Int32) (hf : p_X4_isThickness k x0 = some r) : MetR l yX4_isThickness wsX4_isThickness { frames := 1, cells := 0, slots := 0, locals := 22 } D ks [.int x0] [] r (narrow .boolean (.int r) = .int r) := by
  refine MetR.of (cc := cX4_isThickness) (maxL := 1) (ret := (some .boolean)) (by decide +kernel) rfl (Nat.le_of_ble_eq_true rfl) ?_ ⟨_, rfl⟩
  intro p e s m below meth c Q hx hb hml hts hown hP hX hret ls hl
  have hK := hX.1
  replace hl : lv_has ls 1 [(0, .int x0)] := hl
  unfold p_X4_isThickness at hf
  refine lv_iload_n hx hb dX4_isThickness_0 rfl (lv_at hl 0 rfl) ?_
  refine lv_iconst (v := 0) hx hb dX4_isThickness_1 (by decide) ?_
  refine lv_sipush (v := 5000) hx hb dX4_isThickness_2 (by decide) ?_
  obtain ⟨v1, hv1, hf⟩ := bnd hf
  refine xcallRS (As := [.int x0, .int 0, .int 5000]) (rest := []) (wc := []) ⟨hx, hb, hml, hown, hts⟩ (c_X4_isBetween k x0 0 5000 v1 hv1) (va_cwS 3 hts gX4_isThickness_X4_isBetween rfl rfl rfl (by decide +kernel) ⟨Nat.le_of_ble_eq_true rfl, Nat.le_of_ble_eq_true rfl⟩) hX (va_P0 _ _ _) rfl hl.1 rfl (Nat.le_of_ble_eq_true rfl) dX4_isThickness_5 ⟨Nat.zero_le _, Nat.zero_le _⟩ (fun zv1 => ?_)
  obtain rfl := Option.some.inj hf
  exact hret zv1 _ _ dX4_isThickness_8 (fun ty h => by cases h; exact zv1)

/-! ===== X4_isColour ===== -/
def p_X4_isColour (k : Nat) (x0 : Int32) : Option (Int32) :=
  (p_X4_isBetween k x0 0 7).bind fun v1 => some v1

set_option maxHeartbeats 4000000 in
set_option maxRecDepth 100000 in
theorem c_X4_isColour {l : Launch} {D : va_G} {ks : K3} (k : Nat) (x0 : Int32) (r : Int32) (hf : p_X4_isColour k x0 = some r) : MetR l yX4_isColour wsX4_isColour { frames := 1, cells := 0, slots := 0, locals := 22 } D ks [.int x0] [] r (narrow .boolean (.int r) = .int r) := by
  refine MetR.of (cc := cX4_isColour) (maxL := 1) (ret := (some .boolean)) (by decide +kernel) rfl (Nat.le_of_ble_eq_true rfl) ?_ ⟨_, rfl⟩
  intro p e s m below meth c Q hx hb hml hts hown hP hX hret ls hl
  have hK := hX.1
  replace hl : lv_has ls 1 [(0, .int x0)] := hl
  unfold p_X4_isColour at hf
  refine lv_iload_n hx hb dX4_isColour_0 rfl (lv_at hl 0 rfl) ?_
  refine lv_iconst (v := 0) hx hb dX4_isColour_1 (by decide) ?_
  refine lv_bipush (v := 7) hx hb dX4_isColour_2 (by decide) ?_
  obtain ⟨v1, hv1, hf⟩ := bnd hf
  refine xcallRS (As := [.int x0, .int 0, .int 7]) (rest := []) (wc := []) ⟨hx, hb, hml, hown, hts⟩ (c_X4_isBetween k x0 0 7 v1 hv1) (va_cwS 3 hts gX4_isColour_X4_isBetween rfl rfl rfl (by decide +kernel) ⟨Nat.le_of_ble_eq_true rfl, Nat.le_of_ble_eq_true rfl⟩) hX (va_P0 _ _ _) rfl hl.1 rfl (Nat.le_of_ble_eq_true rfl) dX4_isColour_4 ⟨Nat.zero_le _, Nat.zero_le _⟩ (fun zv1 => ?_)
  obtain rfl := Option.some.inj hf
  exact hret zv1 _ _ dX4_isColour_7 (fun ty h => by cases h; exact zv1)

/-! ===== X4_isQuestion ===== -/
def p_X4_isQuestion (k : Nat) (x0 : Int32) (x1 : Int32) : Option (Int32) :=
  if x0 = 0 then (if x1 = 0 then (some 1) else (some 0)) else (if x0 = 1 then ((p_X4_isBetween k x1 1 24).bind fun v4 => some v4) else (if x0 = 2 then ((p_X4_isColour k x1).bind fun v6 => some v6) else (if x0 = 3 then ((p_X4_isBetween k x1 1 100).bind fun v8 => some v8) else (some 0))))

set_option maxHeartbeats 4000000 in
set_option maxRecDepth 100000 in
theorem c_X4_isQuestion {l : Launch} {D : va_G} {ks : K3} (k : Nat) (x0 : Int32) (x1 : Int32) (r : Int32) (hf : p_X4_isQuestion k x0 x1 = some r) : MetR l yX4_isQuestion wsX4_isQuestion { frames := 2, cells := 0, slots := 0, locals := 42 } D ks [.int x0, .int x1] [] r (narrow .boolean (.int r) = .int r) := by
  refine MetR.of (cc := cX4_isQuestion) (maxL := 2) (ret := (some .boolean)) (by decide +kernel) rfl (Nat.le_of_ble_eq_true rfl) ?_ ⟨_, rfl⟩
  intro p e s m below meth c Q hx hb hml hts hown hP hX hret ls hl
  have hK := hX.1
  replace hl : lv_has ls 2 [(0, .int x0), (1, .int x1)] := hl
  unfold p_X4_isQuestion at hf
  refine lv_iload_n hx hb dX4_isQuestion_0 rfl (lv_at hl 0 rfl) ?_
  by_cases c1 : x0 = 0
  · replace hf := ifT hf c1
    refine lv_tableIn (tgt := 32) (off := 31) hx hb dX4_isQuestion_1 (by rw [c1]; decide) (by rw [c1]; decide) (by rw [c1]; rfl) (by decide) ?_
    refine lv_iload_n hx hb dX4_isQuestion_32 rfl (lv_at hl 1 rfl) ?_
    refine lv_if_ne (tgt := 40) hx hb dX4_isQuestion_33 (by decide) (fun c2 => ?_) (fun c2 => ?_)
    · replace hf := ifF hf c2
      refine lv_iconst (v := 0) hx hb dX4_isQuestion_40 (by decide) ?_
      obtain rfl := Option.some.inj hf
      exact hret rfl _ _ dX4_isQuestion_41 (fun ty h => by cases h; rfl)
    · replace hf := ifT hf c2
      refine lv_iconst (v := 1) hx hb dX4_isQuestion_36 (by decide) ?_
      refine lv_goto (tgt := 41) hx hb dX4_isQuestion_37 (by decide) ?_
      obtain rfl := Option.some.inj hf
      exact hret rfl _ _ dX4_isQuestion_41 (fun ty h => by cases h; rfl)
  replace hf := ifF hf c1
  by_cases c3 : x0 = 1
  · replace hf := ifT hf c3
    refine lv_tableIn (tgt := 42) (off := 41) hx hb dX4_isQuestion_1 (by rw [c3]; decide) (by rw [c3]; decide) (by rw [c3]; rfl) (by decide) ?_
    refine lv_iload_n hx hb dX4_isQuestion_42 rfl (lv_at hl 1 rfl) ?_
    refine lv_iconst (v := 1) hx hb dX4_isQuestion_43 (by decide) ?_
    refine lv_bipush (v := 24) hx hb dX4_isQuestion_44 (by decide) ?_
    obtain ⟨v4, hv4, hf⟩ := bnd hf
    refine xcallRS (As := [.int x1, .int 1, .int 24]) (rest := []) (wc := []) ⟨hx, hb, hml, hown, hts⟩ (c_X4_isBetween k x1 1 24 v4 hv4) (va_cwS 3 hts gX4_isQuestion_X4_isBetween rfl rfl rfl (by decide +kernel) ⟨Nat.le_of_ble_eq_true rfl, Nat.le_of_ble_eq_true rfl⟩) hX (va_P0 _ _ _) rfl hl.1 rfl (Nat.le_of_ble_eq_true rfl) dX4_isQuestion_46 ⟨Nat.zero_le _, Nat.zero_le _⟩ (fun zv4 => ?_)
    obtain rfl := Option.some.inj hf
    exact hret zv4 _ _ dX4_isQuestion_49 (fun ty h => by cases h; exact zv4)
  replace hf := ifF hf c3
  by_cases c5 : x0 = 2
  · replace hf := ifT hf c5
    refine lv_tableIn (tgt := 50) (off := 49) hx hb dX4_isQuestion_1 (by rw [c5]; decide) (by rw [c5]; decide) (by rw [c5]; rfl) (by decide) ?_
    refine lv_iload_n hx hb dX4_isQuestion_50 rfl (lv_at hl 1 rfl) ?_
    obtain ⟨v6, hv6, hf⟩ := bnd hf
    refine xcallRS (As := [.int x1]) (rest := []) (wc := []) ⟨hx, hb, hml, hown, hts⟩ (c_X4_isColour k x1 v6 hv6) (va_cwS 1 hts gX4_isQuestion_X4_isColour rfl rfl rfl (by decide +kernel) ⟨Nat.le_of_ble_eq_true rfl, Nat.le_of_ble_eq_true rfl⟩) hX (va_P0 _ _ _) rfl hl.1 rfl (Nat.le_of_ble_eq_true rfl) dX4_isQuestion_51 ⟨Nat.zero_le _, Nat.zero_le _⟩ (fun zv6 => ?_)
    obtain rfl := Option.some.inj hf
    exact hret zv6 _ _ dX4_isQuestion_54 (fun ty h => by cases h; exact zv6)
  replace hf := ifF hf c5
  by_cases c7 : x0 = 3
  · replace hf := ifT hf c7
    refine lv_tableIn (tgt := 55) (off := 54) hx hb dX4_isQuestion_1 (by rw [c7]; decide) (by rw [c7]; decide) (by rw [c7]; rfl) (by decide) ?_
    refine lv_iload_n hx hb dX4_isQuestion_55 rfl (lv_at hl 1 rfl) ?_
    refine lv_iconst (v := 1) hx hb dX4_isQuestion_56 (by decide) ?_
    refine lv_bipush (v := 100) hx hb dX4_isQuestion_57 (by decide) ?_
    obtain ⟨v8, hv8, hf⟩ := bnd hf
    refine xcallRS (As := [.int x1, .int 1, .int 100]) (rest := []) (wc := []) ⟨hx, hb, hml, hown, hts⟩ (c_X4_isBetween k x1 1 100 v8 hv8) (va_cwS 3 hts gX4_isQuestion_X4_isBetween rfl rfl rfl (by decide +kernel) ⟨Nat.le_of_ble_eq_true rfl, Nat.le_of_ble_eq_true rfl⟩) hX (va_P0 _ _ _) rfl hl.1 rfl (Nat.le_of_ble_eq_true rfl) dX4_isQuestion_59 ⟨Nat.zero_le _, Nat.zero_le _⟩ (fun zv8 => ?_)
    obtain rfl := Option.some.inj hf
    exact hret zv8 _ _ dX4_isQuestion_62 (fun ty h => by cases h; exact zv8)
  replace hf := ifF hf c7
  refine lv_tableOut (tgt := 63) hx hb dX4_isQuestion_1 (by have := lv_neT (a := 0) c1 (by decide); have := lv_neT (a := 1) c3 (by decide); have := lv_neT (a := 2) c5 (by decide); have := lv_neT (a := 3) c7 (by decide); omega) (by decide) ?_
  refine lv_iconst (v := 0) hx hb dX4_isQuestion_63 (by decide) ?_
  obtain rfl := Option.some.inj hf
  exact hret rfl _ _ dX4_isQuestion_64 (fun ty h => by cases h; rfl)

/-! ===== X1_append ===== -/
def p_X1_append (k : Nat) (T : TD) (x1 : Int32) : Option (TD) :=
  if 100 ≤ (TD.length T) then (some T) else ((cst (TD.sg T) 100 (TD.length T) x1).bind fun f2 => some (mkTD f2 (TD.th T) ((TD.length T) + 1) (TD.rows T) (TD.position T) (TD.reason T)))

set_option maxHeartbeats 4000000 in
set_option maxRecDepth 100000 in
theorem c_X1_append {l : Launch} {D : va_G} {ks : K3} (k : Nat) (t : AT) (T : TD) (x1 : Int32) (rT : TD) (hf : p_X1_append k T x1 = some rT) : MetV l yX1_append wsX1_append { frames := 0, cells := 0, slots := 0, locals := 0 } D ks [.ref t.1, .int x1] (wT ks t T) (wT ks t rT) := by
  refine MetV.of (cc := cX1_append) (maxL := 2) (by decide +kernel) rfl (Nat.le_of_ble_eq_true rfl) ?_
  intro p e s m below meth c Q A hx hb hml hts hown hP hX hD hA hret ls hl
  have hK := hX.1
  replace hl : lv_has ls 2 [(0, .ref t.1), (1, .int x1)] := hl
  have hS : va_S A s.heap s.heap [] := va_S.rf
  have hiX1 : ∀ w ∈ wsX10, w ∈ wsX1_append := by decide +kernel
  have hk19 := hts (.fieldLink RX1 19 "SoapFilm$FilmText" "length" "I") (by decide +kernel)
  have hk11 := hts (.fieldLink RX1 11 "SoapFilm$FilmText" "signs" "[C") (by decide +kernel)
  unfold p_X1_append at hf
  refine lv_aload_n hx hb dX1_append_0 rfl (lv_at hl 0 rfl) ?_
  refine va_get (v := .int (TD.length T)) (C := RX1) (T := TX1) (N := 6) hx hb hts hiX1 hown hK hP 0 rfl rfl 1 (by decide) hk19 (fun _ h9 => h9) rfl dX1_append_1 ?_
  refine lv_bipush (v := 100) hx hb dX1_append_4 (by decide) ?_
  refine lv_icmp_ge (tgt := 29) hx hb dX1_append_6 (by decide) (fun c1 => ?_) (fun c1 => ?_)
  · replace hf := ifT hf c1
    obtain rfl := Option.some.inj hf
    exact hret _ _ _ _ dX1_append_29 hP hD hS
  · replace hf := ifF hf c1
    refine lv_aload_n hx hb dX1_append_9 rfl (lv_at hl 0 rfl) ?_
    refine va_get (v := .ref t.2.1) (C := RX1) (T := TX1) (N := 6) hx hb hts hiX1 hown hK hP 0 rfl rfl 0 (by decide) hk11 (fun _ h9 => h9) rfl dX1_append_10 ?_
    refine lv_aload_n hx hb dX1_append_13 rfl (lv_at hl 0 rfl) ?_
    refine va_get (v := .int (TD.length T)) (C := RX1) (T := TX1) (N := 6) hx hb hts hiX1 hown hK hP 0 rfl rfl 1 (by decide) hk19 (fun _ h9 => h9) rfl dX1_append_14 ?_
    refine lv_iload_n hx hb dX1_append_17 rfl (lv_at hl 1 rfl) ?_
    obtain ⟨f2, hf2, hf⟩ := bnd hf
    refine xa_cast (wn := (wT ks t (mkTD f2 (TD.th T) (TD.length T) (TD.rows T) (TD.position T) (TD.reason T)))) hx hb hK hP hD hS hf2 1 1 rfl rfl dX1_append_18 rfl (fun H locs hP hD hS => ?_)
    refine lv_aload_n hx hb dX1_append_19 rfl (lv_at hl 0 rfl) ?_
    refine lv_dup hx hb dX1_append_20 rfl ?_
    refine va_get (v := .int (TD.length T)) (C := RX1) (T := TX1) (N := 6) hx hb hts hiX1 hown hK hP 0 rfl rfl 1 (by decide) hk19 (fun _ h9 => h9) rfl dX1_append_21 ?_
    refine lv_iconst (v := 1) hx hb dX1_append_24 (by decide) ?_
    refine lv_iadd hx hb dX1_append_25 ?_
    refine xputI (wn := (wT ks t (mkTD f2 (TD.th T) ((TD.length T) + 1) (TD.rows T) (TD.position T) (TD.reason T)))) (C := RX1) (T := TX1) (N := 6) hx hb hts hiX1 tyX1 tyX1_ok nmX1 hown hK hP hD hS 0 rfl rfl 1 (by decide) hk19 (fun _ h9 => h9) rfl (by decide +kernel) (Nat.le_of_ble_eq_true rfl) dX1_append_26 rfl (fun H locs hP hD hS => ?_)
    obtain rfl := Option.some.inj hf
    exact hret _ _ _ _ dX1_append_29 hP hD hS

/-! ===== X1_findCross ===== -/
def p_X1_findCross_L2 (k : Nat) (T : TD) (y2 : Int32) : Nat → (Int32) → Option (Int32)
  | 0, _ => none
  | n + 1, x3 =>
    if y2 ≤ x3 then (some y2) else ((ald (TD.sg T) 100 x3).bind fun v2 => if v2 = 120 then (some x3) else (p_X1_findCross_L2 k T y2 n (x3 + 1)))

def p_X1_findCross (k : Nat) (T : TD) (x1 : Int32) (x2 : Int32) : Option (Int32) :=
  p_X1_findCross_L2 k T x2 k x1

set_option maxHeartbeats 4000000 in
set_option maxRecDepth 100000 in
theorem c_X1_findCross {l : Launch} {D : va_G} {ks : K3} (k : Nat) (t : AT) (T : TD) (x1 : Int32) (x2 : Int32) (r : Int32) (hf : p_X1_findCross k T x1 x2 = some r) : MetR l yX1_findCross wsX1_findCross { frames := 0, cells := 0, slots := 0, locals := 0 } D ks [.ref t.1, .int x1, .int x2] (wT ks t T) r True := by
  refine MetR.of (cc := cX1_findCross) (maxL := 4) (ret := (some .int)) (by decide +kernel) rfl (Nat.le_of_ble_eq_true rfl) ?_ ⟨_, rfl⟩
  intro p e s m below meth c Q hx hb hml hts hown hP hX hret ls hl
  have hK := hX.1
  replace hl : lv_has ls 4 [(0, .ref t.1), (1, .int x1), (2, .int x2)] := hl
  have hiX1 : ∀ w ∈ wsX10, w ∈ wsX1_findCross := by decide +kernel
  have hk11 := hts (.fieldLink RX1 11 "SoapFilm$FilmText" "signs" "[C") (by decide +kernel)
  unfold p_X1_findCross at hf
  refine lv_iload_n hx hb dX1_findCross_0 rfl (lv_at hl 1 rfl) ?_
  refine lv_istore_n (lv' := [(3, .int x1), (0, .ref t.1), (1, .int x1), (2, .int x2)]) hx hb dX1_findCross_1 rfl hl (by decide) rfl (fun ls hl => ?_)
  have L2 : ∀ (n : Nat) (x3q2 : Int32) (ls : Array Slot), p_X1_findCross_L2 k T x2 n x3q2 = some r → lv_has ls 4 [(0, .ref t.1), (2, .int x2), (3, .int x3q2)] → W p l e { frames := 0, cells := 0, slots := 0, locals := 0 } s m ([.ref t.1, .int x1, .int x2] : List Value).toArray below meth c s.heap [] 0 0 Q (F0 m 2 ls []) := by
    intro n
    induction n with
    | zero => intro x3q2 ls hf; cases hf
    | succ n ih2 =>
      intro x3q2 ls hf hl
      rw [p_X1_findCross_L2] at hf
      refine lv_iload_n hx hb dX1_findCross_2 rfl (lv_at hl 2 rfl) ?_
      refine lv_iload_n hx hb dX1_findCross_3 rfl (lv_at hl 1 rfl) ?_
      refine lv_icmp_ge (tgt := 26) hx hb dX1_findCross_4 (by decide) (fun c1 => ?_) (fun c1 => ?_)
      · replace hf := ifT hf c1
        refine lv_iload_n hx hb dX1_findCross_26 rfl (lv_at hl 1 rfl) ?_
        obtain rfl := Option.some.inj hf
        exact hret trivial _ _ dX1_findCross_27 (fun ty h => by cases h; rfl)
      · replace hf := ifF hf c1
        refine lv_aload_n hx hb dX1_findCross_7 rfl (lv_at hl 0 rfl) ?_
        refine va_get (v := .ref t.2.1) (C := RX1) (T := TX1) (N := 6) hx hb hts hiX1 hown hK hP 0 rfl rfl 0 (by decide) hk11 (fun _ h9 => h9) rfl dX1_findCross_8 ?_
        refine lv_iload_n hx hb dX1_findCross_11 rfl (lv_at hl 2 rfl) ?_
        obtain ⟨v2, hv2, hf⟩ := bnd hf
        refine xa_cald hx hb hK hP hv2 1 1 rfl rfl dX1_findCross_12 ?_
        refine lv_bipush (v := 120) hx hb dX1_findCross_13 (by decide) ?_
        refine lv_icmp_ne (tgt := 20) hx hb dX1_findCross_15 (by decide) (fun c3 => ?_) (fun c3 => ?_)
        · replace hf := ifF hf c3
          refine lv_iinc (v := (x3q2 + 1)) (lv' := [(3, .int (x3q2 + 1)), (0, .ref t.1), (2, .int x2)]) hx hb dX1_findCross_20 hl (k := 2) rfl rfl (by decide) rfl (fun ls hl => ?_)
          refine lv_goto (tgt := 2) hx hb dX1_findCross_23 (by decide) ?_
          exact ih2 _  _ hf (lv_sub hl [1, 2, 0] rfl)
        · replace hf := ifT hf c3
          refine lv_iload_n hx hb dX1_findCross_18 rfl (lv_at hl 2 rfl) ?_
          obtain rfl := Option.some.inj hf
          exact hret trivial _ _ dX1_findCross_19 (fun ty h => by cases h; rfl)
  exact L2 k _ _ hf (lv_sub hl [1, 3, 0] rfl)

/-! ===== X1_number ===== -/
def p_X1_number_L22 (k : Nat) (T : TD) (y2 : Int32) : Nat → (Int32) → (Int32) → Option (Int32)
  | 0, _, _ => none
  | n + 1, x4, x5 =>
    if y2 ≤ x5 then (some x4) else ((ald (TD.sg T) 100 x5).bind fun v2 => if v2 < 48 then (some (-1)) else ((ald (TD.sg T) 100 x5).bind fun v4 => if v4 ≤ 57 then ((ald (TD.sg T) 100 x5).bind fun v6 => p_X1_number_L22 k T y2 n (((x4 * 10) + v6) - 48) (x5 + 1)) else (some (-1))))

def p_X1_number (k : Nat) (T : TD) (x1 : Int32) (x2 : Int32) (x3 : Int32) : Option (Int32) :=
  if (x2 - x1) < 1 then (some (-1)) else (if (x2 - x1) ≤ x3 then (p_X1_number_L22 k T x2 k 0 x1) else (some (-1)))

set_option maxHeartbeats 4000000 in
set_option maxRecDepth 100000 in
theorem c_X1_number {l : Launch} {D : va_G} {ks : K3} (k : Nat) (t : AT) (T : TD) (x1 : Int32) (x2 : Int32) (x3 : Int32) (r : Int32) (hf : p_X1_number k T x1 x2 x3 = some r) : MetR l yX1_number wsX1_number { frames := 0, cells := 0, slots := 0, locals := 0 } D ks [.ref t.1, .int x1, .int x2, .int x3] (wT ks t T) r True := by
  refine MetR.of (cc := cX1_number) (maxL := 6) (ret := (some .int)) (by decide +kernel) rfl (Nat.le_of_ble_eq_true rfl) ?_ ⟨_, rfl⟩
  intro p e s m below meth c Q hx hb hml hts hown hP hX hret ls hl
  have hK := hX.1
  replace hl : lv_has ls 6 [(0, .ref t.1), (1, .int x1), (2, .int x2), (3, .int x3)] := hl
  have hiX1 : ∀ w ∈ wsX10, w ∈ wsX1_number := by decide +kernel
  have hk11 := hts (.fieldLink RX1 11 "SoapFilm$FilmText" "signs" "[C") (by decide +kernel)
  unfold p_X1_number at hf
  refine lv_iload_n hx hb dX1_number_0 rfl (lv_at hl 2 rfl) ?_
  refine lv_iload_n hx hb dX1_number_1 rfl (lv_at hl 1 rfl) ?_
  refine lv_isub hx hb dX1_number_2 ?_
  refine lv_iconst (v := 1) hx hb dX1_number_3 (by decide) ?_
  refine lv_icmp_lt (tgt := 14) hx hb dX1_number_4 (by decide) (fun c1 => ?_) (fun c1 => ?_)
  · replace hf := ifT hf c1
    refine lv_iconst (v := (-1)) hx hb dX1_number_14 (by decide) ?_
    obtain rfl := Option.some.inj hf
    exact hret trivial _ _ dX1_number_15 (fun ty h => by cases h; rfl)
  · replace hf := ifF hf c1
    refine lv_iload_n hx hb dX1_number_7 rfl (lv_at hl 2 rfl) ?_
    refine lv_iload_n hx hb dX1_number_8 rfl (lv_at hl 1 rfl) ?_
    refine lv_isub hx hb dX1_number_9 ?_
    refine lv_iload_n hx hb dX1_number_10 rfl (lv_at hl 3 rfl) ?_
    refine lv_icmp_le (tgt := 16) hx hb dX1_number_11 (by decide) (fun c2 => ?_) (fun c2 => ?_)
    · replace hf := ifT hf c2
      refine lv_iconst (v := 0) hx hb dX1_number_16 (by decide) ?_
      refine lv_istore (lv' := [(4, .int 0), (0, .ref t.1), (1, .int x1), (2, .int x2), (3, .int x3)]) hx hb dX1_number_17 hl (by decide) rfl (fun ls hl => ?_)
      refine lv_iload_n hx hb dX1_number_19 rfl (lv_at hl 2 rfl) ?_
      refine lv_istore (lv' := [(5, .int x1), (4, .int 0), (0, .ref t.1), (1, .int x1), (2, .int x2), (3, .int x3)]) hx hb dX1_number_20 hl (by decide) rfl (fun ls hl => ?_)
      have L22 : ∀ (n : Nat) (x4q22 : Int32) (x5q22 : Int32) (ls : Array Slot), p_X1_number_L22 k T x2 n x4q22 x5q22 = some r → lv_has ls 6 [(0, .ref t.1), (2, .int x2), (4, .int x4q22), (5, .int x5q22)] → W p l e { frames := 0, cells := 0, slots := 0, locals := 0 } s m ([.ref t.1, .int x1, .int x2, .int x3] : List Value).toArray below meth c s.heap [] 0 0 Q (F0 m 22 ls []) := by
        intro n
        induction n with
        | zero => intro x4q22 x5q22 ls hf; cases hf
        | succ n ih22 =>
          intro x4q22 x5q22 ls hf hl
          rw [p_X1_number_L22] at hf
          refine lv_iload hx hb dX1_number_22 (lv_at hl 3 rfl) ?_
          refine lv_iload_n hx hb dX1_number_24 rfl (lv_at hl 1 rfl) ?_
          refine lv_icmp_ge (tgt := 78) hx hb dX1_number_25 (by decide) (fun c3 => ?_) (fun c3 => ?_)
          · replace hf := ifT hf c3
            refine lv_iload hx hb dX1_number_78 (lv_at hl 2 rfl) ?_
            obtain rfl := Option.some.inj hf
            exact hret trivial _ _ dX1_number_80 (fun ty h => by cases h; rfl)
          · replace hf := ifF hf c3
            refine lv_aload_n hx hb dX1_number_28 rfl (lv_at hl 0 rfl) ?_
            refine va_get (v := .ref t.2.1) (C := RX1) (T := TX1) (N := 6) hx hb hts hiX1 hown hK hP 0 rfl rfl 0 (by decide) hk11 (fun _ h9 => h9) rfl dX1_number_29 ?_
            refine lv_iload hx hb dX1_number_32 (lv_at hl 3 rfl) ?_
            obtain ⟨v4, hv4, hf⟩ := bnd hf
            refine xa_cald hx hb hK hP hv4 1 1 rfl rfl dX1_number_34 ?_
            refine lv_bipush (v := 48) hx hb dX1_number_35 (by decide) ?_
            refine lv_icmp_lt (tgt := 52) hx hb dX1_number_37 (by decide) (fun c5 => ?_) (fun c5 => ?_)
            · replace hf := ifT hf c5
              refine lv_iconst (v := (-1)) hx hb dX1_number_52 (by decide) ?_
              obtain rfl := Option.some.inj hf
              exact hret trivial _ _ dX1_number_53 (fun ty h => by cases h; rfl)
            · replace hf := ifF hf c5
              refine lv_aload_n hx hb dX1_number_40 rfl (lv_at hl 0 rfl) ?_
              refine va_get (v := .ref t.2.1) (C := RX1) (T := TX1) (N := 6) hx hb hts hiX1 hown hK hP 0 rfl rfl 0 (by decide) hk11 (fun _ h9 => h9) rfl dX1_number_41 ?_
              refine lv_iload hx hb dX1_number_44 (lv_at hl 3 rfl) ?_
              obtain ⟨v6, hv6, hf⟩ := bnd hf
              refine xa_cald hx hb hK hP hv6 1 1 rfl rfl dX1_number_46 ?_
              refine lv_bipush (v := 57) hx hb dX1_number_47 (by decide) ?_
              refine lv_icmp_le (tgt := 54) hx hb dX1_number_49 (by decide) (fun c7 => ?_) (fun c7 => ?_)
              · replace hf := ifT hf c7
                refine lv_iload hx hb dX1_number_54 (lv_at hl 2 rfl) ?_
                refine lv_bipush (v := 10) hx hb dX1_number_56 (by decide) ?_
                refine lv_imul hx hb dX1_number_58 ?_
                refine lv_aload_n hx hb dX1_number_59 rfl (lv_at hl 0 rfl) ?_
                refine va_get (v := .ref t.2.1) (C := RX1) (T := TX1) (N := 6) hx hb hts hiX1 hown hK hP 0 rfl rfl 0 (by decide) hk11 (fun _ h9 => h9) rfl dX1_number_60 ?_
                refine lv_iload hx hb dX1_number_63 (lv_at hl 3 rfl) ?_
                obtain ⟨v8, hv8, hf⟩ := bnd hf
                refine xa_cald hx hb hK hP hv8 1 1 rfl rfl dX1_number_65 ?_
                refine lv_iadd hx hb dX1_number_66 ?_
                refine lv_bipush (v := 48) hx hb dX1_number_67 (by decide) ?_
                refine lv_isub hx hb dX1_number_69 ?_
                refine lv_istore (lv' := [(4, .int (((x4q22 * 10) + v8) - 48)), (0, .ref t.1), (2, .int x2), (5, .int x5q22)]) hx hb dX1_number_70 hl (by decide) rfl (fun ls hl => ?_)
                refine lv_iinc (v := (x5q22 + 1)) (lv' := [(5, .int (x5q22 + 1)), (4, .int (((x4q22 * 10) + v8) - 48)), (0, .ref t.1), (2, .int x2)]) hx hb dX1_number_72 hl (k := 3) rfl rfl (by decide) rfl (fun ls hl => ?_)
                refine lv_goto (tgt := 22) hx hb dX1_number_75 (by decide) ?_
                exact ih22 _ _  _ hf (lv_sub hl [2, 3, 1, 0] rfl)
              · replace hf := ifF hf c7
                refine lv_iconst (v := (-1)) hx hb dX1_number_52 (by decide) ?_
                obtain rfl := Option.some.inj hf
                exact hret trivial _ _ dX1_number_53 (fun ty h => by cases h; rfl)
      exact L22 k _ _ _ hf (lv_sub hl [2, 4, 1, 0] rfl)
    · replace hf := ifF hf c2
      refine lv_iconst (v := (-1)) hx hb dX1_number_14 (by decide) ?_
      obtain rfl := Option.some.inj hf
      exact hret trivial _ _ dX1_number_15 (fun ty h => by cases h; rfl)

/-! ===== X1_takePart ===== -/
def p_X1_takePart_L88 (k : Nat) (y4 : Int32) (y5 : Int32) : Nat → (TD) → (Int32) → Option (Int32 × TD)
  | 0, _, _ => none
  | n + 1, T, x6 =>
    if y5 ≤ x6 then (some (0, T)) else ((ast (TD.th T) 24 (TD.rows T) y4).bind fun f2 => p_X1_takePart_L88 k y4 y5 n (mkTD (TD.sg T) f2 (TD.length T) ((TD.rows T) + 1) (TD.position T) (TD.reason T)) (x6 + 1))

def p_X1_takePart (k : Nat) (T : TD) (x1 : Int32) (x2 : Int32) : Option (Int32 × TD) :=
  (p_X1_findCross k T x1 x2).bind fun v1 => (p_X1_number k T x1 v1 4).bind fun v2 => if x2 ≤ v1 then (if v2 = (-1) then (some (1, T)) else ((p_X4_isThickness k v2).bind fun v5 => if v5 = 0 then (some (2, T)) else ((p_X4_isBetween k 1 1 24).bind fun v7 => if v7 = 0 then (some (2, T)) else (if ((TD.rows T) + 1) ≤ 24 then (p_X1_takePart_L88 k v2 1 k T 0) else (some (3, T)))))) else ((p_X1_number k T (v1 + 1) x2 2).bind fun v12 => if v2 = (-1) then (some (1, T)) else (if v12 = (-1) then (some (1, T)) else ((p_X4_isThickness k v2).bind fun v15 => if v15 = 0 then (some (2, T)) else ((p_X4_isBetween k v12 1 24).bind fun v17 => if v17 = 0 then (some (2, T)) else (if ((TD.rows T) + v12) ≤ 24 then (p_X1_takePart_L88 k v2 v12 k T 0) else (some (3, T)))))))

set_option maxHeartbeats 4000000 in
set_option maxRecDepth 100000 in
theorem c_X1_takePart {l : Launch} {D : va_G} {ks : K3} (k : Nat) (t : AT) (T : TD) (x1 : Int32) (x2 : Int32) (r : Int32) (rT : TD) (hf : p_X1_takePart k T x1 x2 = some (r, rT)) : MetI l yX1_takePart wsX1_takePart { frames := 2, cells := 0, slots := 0, locals := 42 } D ks [.ref t.1, .int x1, .int x2] (wT ks t T) (wT ks t rT) r True := by
  refine MetI.of (cc := cX1_takePart) (maxL := 7) (ret := (some .int)) (by decide +kernel) rfl (Nat.le_of_ble_eq_true rfl) ?_ ⟨_, rfl⟩
  intro p e s m below meth c Q A hx hb hml hts hown hP hX hD hA hret ls hl
  have hK := hX.1
  replace hl : lv_has ls 7 [(0, .ref t.1), (1, .int x1), (2, .int x2)] := hl
  have hS : va_S A s.heap s.heap [] := va_S.rf
  have hiX1 : ∀ w ∈ wsX10, w ∈ wsX1_takePart := by decide +kernel
  have hiniRX4 := hts (.initialized RX4) (by decide +kernel)
  have hst_X4_isThickness := hts (.static yX4_isThickness) (by decide +kernel)
  have hst_X4_isBetween := hts (.static yX4_isBetween) (by decide +kernel)
  have hk23 := hts (.fieldLink RX1 23 "SoapFilm$FilmText" "rows" "I") (by decide +kernel)
  have hk15 := hts (.fieldLink RX1 15 "SoapFilm$FilmText" "thickness" "[I") (by decide +kernel)
  unfold p_X1_takePart at hf
  refine lv_aload_n hx hb dX1_takePart_0 rfl (lv_at hl 0 rfl) ?_
  refine lv_iload_n hx hb dX1_takePart_1 rfl (lv_at hl 1 rfl) ?_
  refine lv_iload_n hx hb dX1_takePart_2 rfl (lv_at hl 2 rfl) ?_
  obtain ⟨v1, hv1, hf⟩ := bnd hf
  refine xcallRV (As := [.int x1, .int x2]) (rest := []) (wc := (wT ks t T)) ⟨hx, hb, hml, hown, hts⟩ (c_X1_findCross k t T x1 x2 v1 hv1) (cwV 2 hts gX1_takePart_X1_findCross rfl rfl rfl (by decide +kernel) ⟨Nat.le_of_ble_eq_true rfl, Nat.le_of_ble_eq_true rfl⟩) hX hP (ci := 1) (q0 := 0) rfl rfl rfl hl.1 rfl (Nat.le_of_ble_eq_true rfl) dX1_takePart_3 ⟨Nat.zero_le _, Nat.zero_le _⟩ (fun zv1 => ?_)
  refine lv_istore_n (lv' := [(3, .int v1), (0, .ref t.1), (1, .int x1), (2, .int x2)]) hx hb dX1_takePart_6 rfl hl (by decide) rfl (fun ls hl => ?_)
  refine lv_aload_n hx hb dX1_takePart_7 rfl (lv_at hl 1 rfl) ?_
  refine lv_iload_n hx hb dX1_takePart_8 rfl (lv_at hl 2 rfl) ?_
  refine lv_iload_n hx hb dX1_takePart_9 rfl (lv_at hl 0 rfl) ?_
  refine lv_iconst (v := 4) hx hb dX1_takePart_10 (by decide) ?_
  obtain ⟨v2, hv2, hf⟩ := bnd hf
  refine xcallRV (As := [.int x1, .int v1, .int 4]) (rest := []) (wc := (wT ks t T)) ⟨hx, hb, hml, hown, hts⟩ (c_X1_number k t T x1 v1 4 v2 hv2) (cwV 3 hts gX1_takePart_X1_number rfl rfl rfl (by decide +kernel) ⟨Nat.le_of_ble_eq_true rfl, Nat.le_of_ble_eq_true rfl⟩) hX hP (ci := 1) (q0 := 0) rfl rfl rfl hl.1 rfl (Nat.le_of_ble_eq_true rfl) dX1_takePart_11 ⟨Nat.zero_le _, Nat.zero_le _⟩ (fun zv2 => ?_)
  refine lv_istore (lv' := [(4, .int v2), (3, .int v1), (0, .ref t.1), (1, .int x1), (2, .int x2)]) hx hb dX1_takePart_14 hl (by decide) rfl (fun ls hl => ?_)
  refine lv_iload_n hx hb dX1_takePart_16 rfl (lv_at hl 1 rfl) ?_
  refine lv_iload_n hx hb dX1_takePart_17 rfl (lv_at hl 4 rfl) ?_
  refine lv_icmp_ge (tgt := 33) hx hb dX1_takePart_18 (by decide) (fun c3 => ?_) (fun c3 => ?_)
  · replace hf := ifT hf c3
    refine lv_iconst (v := 1) hx hb dX1_takePart_33 (by decide) ?_
    refine lv_istore (lv' := [(5, .int 1), (4, .int v2), (3, .int v1), (0, .ref t.1), (1, .int x1), (2, .int x2)]) hx hb dX1_takePart_34 hl (by decide) rfl (fun ls hl => ?_)
    refine lv_iload hx hb dX1_takePart_36 (lv_at hl 1 rfl) ?_
    refine lv_iconst (v := (-1)) hx hb dX1_takePart_38 (by decide) ?_
    refine lv_icmp_eq (tgt := 48) hx hb dX1_takePart_39 (by decide) (fun c4 => ?_) (fun c4 => ?_)
    · replace hf := ifT hf c4
      refine lv_iconst (v := 1) hx hb dX1_takePart_48 (by decide) ?_
      obtain ⟨rfl, rfl⟩ := inj2 hf
      exact hret trivial _ _ _ _ dX1_takePart_49 (fun ty h => by cases h; rfl) hP hD hS
    · replace hf := ifF hf c4
      refine lv_iload hx hb dX1_takePart_42 (lv_at hl 0 rfl) ?_
      refine lv_iconst (v := (-1)) hx hb dX1_takePart_44 (by decide) ?_
      refine lv_icmp_ne (tgt := 50) hx hb dX1_takePart_45 (by decide) (fun _ => ?_) (fun c => absurd c (by decide))
      refine lv_iload hx hb dX1_takePart_50 (lv_at hl 1 rfl) ?_
      obtain ⟨v5, hv5, hf⟩ := bnd hf
      refine xcallRSN (As := [.int v2]) (rest := []) (wc := []) ⟨hx, hb, hml, hown, hts⟩ (c_X4_isThickness k v2 v5 hv5) ⟨va_cnB 1 hts gX1_takePart_X4_isThickness_n43 rfl rfl rfl hX.2.1 (hiniRX4) (by decide +kernel) ⟨Nat.le_of_ble_eq_true rfl, Nat.le_of_ble_eq_true rfl⟩, hst_X4_isThickness, trivial⟩ hX (va_P0 _ _ _) rfl hl.1 rfl (Nat.le_of_ble_eq_true rfl) dX1_takePart_52 ⟨Nat.zero_le _, Nat.zero_le _⟩ (fun zv5 => ?_)
      refine lv_if_eq (tgt := 69) hx hb dX1_takePart_55 (by decide) (fun c6 => ?_) (fun c6 => ?_)
      · replace hf := ifT hf c6
        refine lv_iconst (v := 2) hx hb dX1_takePart_69 (by decide) ?_
        obtain ⟨rfl, rfl⟩ := inj2 hf
        exact hret trivial _ _ _ _ dX1_takePart_70 (fun ty h => by cases h; rfl) hP hD hS
      · replace hf := ifF hf c6
        refine lv_iload hx hb dX1_takePart_58 (lv_at hl 0 rfl) ?_
        refine lv_iconst (v := 1) hx hb dX1_takePart_60 (by decide) ?_
        refine lv_bipush (v := 24) hx hb dX1_takePart_61 (by decide) ?_
        obtain ⟨v7, hv7, hf⟩ := bnd hf
        refine xcallRSN (As := [.int 1, .int 1, .int 24]) (rest := []) (wc := []) ⟨hx, hb, hml, hown, hts⟩ (c_X4_isBetween k 1 1 24 v7 hv7) ⟨va_cnB 3 hts gX1_takePart_X4_isBetween_n47 rfl rfl rfl hX.2.2.1 (hiniRX4) (by decide +kernel) ⟨Nat.le_of_ble_eq_true rfl, Nat.le_of_ble_eq_true rfl⟩, hst_X4_isBetween, trivial⟩ hX (va_P0 _ _ _) rfl hl.1 rfl (Nat.le_of_ble_eq_true rfl) dX1_takePart_63 ⟨Nat.zero_le _, Nat.zero_le _⟩ (fun zv7 => ?_)
        refine lv_if_ne (tgt := 71) hx hb dX1_takePart_66 (by decide) (fun c8 => ?_) (fun c8 => ?_)
        · replace hf := ifF hf c8
          refine lv_aload_n hx hb dX1_takePart_71 rfl (lv_at hl 3 rfl) ?_
          refine va_get (v := .int (TD.rows T)) (C := RX1) (T := TX1) (N := 6) hx hb hts hiX1 hown hK hP 0 rfl rfl 3 (by decide) hk23 (fun _ h9 => h9) rfl dX1_takePart_72 ?_
          refine lv_iload hx hb dX1_takePart_75 (lv_at hl 0 rfl) ?_
          refine lv_iadd hx hb dX1_takePart_77 ?_
          refine lv_bipush (v := 24) hx hb dX1_takePart_78 (by decide) ?_
          refine lv_icmp_le (tgt := 85) hx hb dX1_takePart_80 (by decide) (fun c9 => ?_) (fun c9 => ?_)
          · replace hf := ifT hf c9
            refine lv_iconst (v := 0) hx hb dX1_takePart_85 (by decide) ?_
            refine lv_istore (lv' := [(6, .int 0), (5, .int 1), (4, .int v2), (3, .int v1), (0, .ref t.1), (1, .int x1), (2, .int x2)]) hx hb dX1_takePart_86 hl (by decide) rfl (fun ls hl => ?_)
            have L88 : ∀ (n : Nat) (Tq88 : TD) (x6q88 : Int32) (H : Heap) (locs : List Loc) (ls : Array Slot), p_X1_takePart_L88 k v2 1 n Tq88 x6q88 = some (r, rT) → va_P D vwCl (wT ks t Tq88) H → va_D A (wT ks t Tq88) → va_S A s.heap H locs → lv_has ls 7 [(0, .ref t.1), (4, .int v2), (5, .int 1), (6, .int x6q88)] → W p l e { frames := 2, cells := 0, slots := 0, locals := 42 } s m ([.ref t.1, .int x1, .int x2] : List Value).toArray below meth c H locs 0 0 Q (F0 m 88 ls []) := by
              intro n
              induction n with
              | zero => intro Tq88 x6q88 H locs ls hf; cases hf
              | succ n ih88 =>
                intro Tq88 x6q88 H locs ls hf hP hD hS hl
                rw [p_X1_takePart_L88] at hf
                refine lv_iload hx hb dX1_takePart_88 (lv_at hl 3 rfl) ?_
                refine lv_iload hx hb dX1_takePart_90 (lv_at hl 2 rfl) ?_
                refine lv_icmp_ge (tgt := 122) hx hb dX1_takePart_92 (by decide) (fun c10 => ?_) (fun c10 => ?_)
                · replace hf := ifT hf c10
                  refine lv_iconst (v := 0) hx hb dX1_takePart_122 (by decide) ?_
                  obtain ⟨rfl, rfl⟩ := inj2 hf
                  exact hret trivial _ _ _ _ dX1_takePart_123 (fun ty h => by cases h; rfl) hP hD hS
                · replace hf := ifF hf c10
                  refine lv_aload_n hx hb dX1_takePart_95 rfl (lv_at hl 0 rfl) ?_
                  refine va_get (v := .ref t.2.2) (C := RX1) (T := TX1) (N := 6) hx hb hts hiX1 hown hK hP 0 rfl rfl 2 (by decide) hk15 (fun _ h9 => h9) rfl dX1_takePart_96 ?_
                  refine lv_aload_n hx hb dX1_takePart_99 rfl (lv_at hl 0 rfl) ?_
                  refine va_get (v := .int (TD.rows Tq88)) (C := RX1) (T := TX1) (N := 6) hx hb hts hiX1 hown hK hP 0 rfl rfl 3 (by decide) hk23 (fun _ h9 => h9) rfl dX1_takePart_100 ?_
                  refine lv_iload hx hb dX1_takePart_103 (lv_at hl 1 rfl) ?_
                  obtain ⟨f11, hf11, hf⟩ := bnd hf
                  refine xa_iast (wn := (wT ks t (mkTD (TD.sg Tq88) f11 (TD.length Tq88) (TD.rows Tq88) (TD.position Tq88) (TD.reason Tq88)))) hx hb hK hP hD hS hf11 2 0 rfl rfl dX1_takePart_105 rfl (fun H locs hP hD hS => ?_)
                  refine lv_aload_n hx hb dX1_takePart_106 rfl (lv_at hl 0 rfl) ?_
                  refine lv_dup hx hb dX1_takePart_107 rfl ?_
                  refine va_get (v := .int (TD.rows Tq88)) (C := RX1) (T := TX1) (N := 6) hx hb hts hiX1 hown hK hP 0 rfl rfl 3 (by decide) hk23 (fun _ h9 => h9) rfl dX1_takePart_108 ?_
                  refine lv_iconst (v := 1) hx hb dX1_takePart_111 (by decide) ?_
                  refine lv_iadd hx hb dX1_takePart_112 ?_
                  refine xputI (wn := (wT ks t (mkTD (TD.sg Tq88) f11 (TD.length Tq88) ((TD.rows Tq88) + 1) (TD.position Tq88) (TD.reason Tq88)))) (C := RX1) (T := TX1) (N := 6) hx hb hts hiX1 tyX1 tyX1_ok nmX1 hown hK hP hD hS 0 rfl rfl 3 (by decide) hk23 (fun _ h9 => h9) rfl (by decide +kernel) (Nat.le_of_ble_eq_true rfl) dX1_takePart_113 rfl (fun H locs hP hD hS => ?_)
                  refine lv_iinc (v := (x6q88 + 1)) (lv' := [(6, .int (x6q88 + 1)), (0, .ref t.1), (4, .int v2), (5, .int 1)]) hx hb dX1_takePart_116 hl (k := 3) rfl rfl (by decide) rfl (fun ls hl => ?_)
                  refine lv_goto (tgt := 88) hx hb dX1_takePart_119 (by decide) ?_
                  exact ih88 _ _  _ _ _ hf hP hD hS (lv_sub hl [1, 2, 3, 0] rfl)
            exact L88 k _ _ _ _ _ hf hP hD hS (lv_sub hl [4, 2, 1, 0] rfl)
          · replace hf := ifF hf c9
            refine lv_iconst (v := 3) hx hb dX1_takePart_83 (by decide) ?_
            obtain ⟨rfl, rfl⟩ := inj2 hf
            exact hret trivial _ _ _ _ dX1_takePart_84 (fun ty h => by cases h; rfl) hP hD hS
        · replace hf := ifT hf c8
          refine lv_iconst (v := 2) hx hb dX1_takePart_69 (by decide) ?_
          obtain ⟨rfl, rfl⟩ := inj2 hf
          exact hret trivial _ _ _ _ dX1_takePart_70 (fun ty h => by cases h; rfl) hP hD hS
  · replace hf := ifF hf c3
    refine lv_aload_n hx hb dX1_takePart_21 rfl (lv_at hl 2 rfl) ?_
    refine lv_iload_n hx hb dX1_takePart_22 rfl (lv_at hl 1 rfl) ?_
    refine lv_iconst (v := 1) hx hb dX1_takePart_23 (by decide) ?_
    refine lv_iadd hx hb dX1_takePart_24 ?_
    refine lv_iload_n hx hb dX1_takePart_25 rfl (lv_at hl 4 rfl) ?_
    refine lv_iconst (v := 2) hx hb dX1_takePart_26 (by decide) ?_
    obtain ⟨v12, hv12, hf⟩ := bnd hf
    refine xcallRV (As := [.int (v1 + 1), .int x2, .int 2]) (rest := []) (wc := (wT ks t T)) ⟨hx, hb, hml, hown, hts⟩ (c_X1_number k t T (v1 + 1) x2 2 v12 hv12) (cwV 3 hts gX1_takePart_X1_number rfl rfl rfl (by decide +kernel) ⟨Nat.le_of_ble_eq_true rfl, Nat.le_of_ble_eq_true rfl⟩) hX hP (ci := 1) (q0 := 0) rfl rfl rfl hl.1 rfl (Nat.le_of_ble_eq_true rfl) dX1_takePart_27 ⟨Nat.zero_le _, Nat.zero_le _⟩ (fun zv12 => ?_)
    refine lv_goto (tgt := 34) hx hb dX1_takePart_30 (by decide) ?_
    refine lv_istore (lv' := [(5, .int v12), (4, .int v2), (3, .int v1), (0, .ref t.1), (1, .int x1), (2, .int x2)]) hx hb dX1_takePart_34 hl (by decide) rfl (fun ls hl => ?_)
    refine lv_iload hx hb dX1_takePart_36 (lv_at hl 1 rfl) ?_
    refine lv_iconst (v := (-1)) hx hb dX1_takePart_38 (by decide) ?_
    refine lv_icmp_eq (tgt := 48) hx hb dX1_takePart_39 (by decide) (fun c13 => ?_) (fun c13 => ?_)
    · replace hf := ifT hf c13
      refine lv_iconst (v := 1) hx hb dX1_takePart_48 (by decide) ?_
      obtain ⟨rfl, rfl⟩ := inj2 hf
      exact hret trivial _ _ _ _ dX1_takePart_49 (fun ty h => by cases h; rfl) hP hD hS
    · replace hf := ifF hf c13
      refine lv_iload hx hb dX1_takePart_42 (lv_at hl 0 rfl) ?_
      refine lv_iconst (v := (-1)) hx hb dX1_takePart_44 (by decide) ?_
      refine lv_icmp_ne (tgt := 50) hx hb dX1_takePart_45 (by decide) (fun c14 => ?_) (fun c14 => ?_)
      · replace hf := ifF hf c14
        refine lv_iload hx hb dX1_takePart_50 (lv_at hl 1 rfl) ?_
        obtain ⟨v15, hv15, hf⟩ := bnd hf
        refine xcallRSN (As := [.int v2]) (rest := []) (wc := []) ⟨hx, hb, hml, hown, hts⟩ (c_X4_isThickness k v2 v15 hv15) ⟨va_cnB 1 hts gX1_takePart_X4_isThickness_n43 rfl rfl rfl hX.2.1 (hiniRX4) (by decide +kernel) ⟨Nat.le_of_ble_eq_true rfl, Nat.le_of_ble_eq_true rfl⟩, hst_X4_isThickness, trivial⟩ hX (va_P0 _ _ _) rfl hl.1 rfl (Nat.le_of_ble_eq_true rfl) dX1_takePart_52 ⟨Nat.zero_le _, Nat.zero_le _⟩ (fun zv15 => ?_)
        refine lv_if_eq (tgt := 69) hx hb dX1_takePart_55 (by decide) (fun c16 => ?_) (fun c16 => ?_)
        · replace hf := ifT hf c16
          refine lv_iconst (v := 2) hx hb dX1_takePart_69 (by decide) ?_
          obtain ⟨rfl, rfl⟩ := inj2 hf
          exact hret trivial _ _ _ _ dX1_takePart_70 (fun ty h => by cases h; rfl) hP hD hS
        · replace hf := ifF hf c16
          refine lv_iload hx hb dX1_takePart_58 (lv_at hl 0 rfl) ?_
          refine lv_iconst (v := 1) hx hb dX1_takePart_60 (by decide) ?_
          refine lv_bipush (v := 24) hx hb dX1_takePart_61 (by decide) ?_
          obtain ⟨v17, hv17, hf⟩ := bnd hf
          refine xcallRSN (As := [.int v12, .int 1, .int 24]) (rest := []) (wc := []) ⟨hx, hb, hml, hown, hts⟩ (c_X4_isBetween k v12 1 24 v17 hv17) ⟨va_cnB 3 hts gX1_takePart_X4_isBetween_n47 rfl rfl rfl hX.2.2.1 (hiniRX4) (by decide +kernel) ⟨Nat.le_of_ble_eq_true rfl, Nat.le_of_ble_eq_true rfl⟩, hst_X4_isBetween, trivial⟩ hX (va_P0 _ _ _) rfl hl.1 rfl (Nat.le_of_ble_eq_true rfl) dX1_takePart_63 ⟨Nat.zero_le _, Nat.zero_le _⟩ (fun zv17 => ?_)
          refine lv_if_ne (tgt := 71) hx hb dX1_takePart_66 (by decide) (fun c18 => ?_) (fun c18 => ?_)
          · replace hf := ifF hf c18
            refine lv_aload_n hx hb dX1_takePart_71 rfl (lv_at hl 3 rfl) ?_
            refine va_get (v := .int (TD.rows T)) (C := RX1) (T := TX1) (N := 6) hx hb hts hiX1 hown hK hP 0 rfl rfl 3 (by decide) hk23 (fun _ h9 => h9) rfl dX1_takePart_72 ?_
            refine lv_iload hx hb dX1_takePart_75 (lv_at hl 0 rfl) ?_
            refine lv_iadd hx hb dX1_takePart_77 ?_
            refine lv_bipush (v := 24) hx hb dX1_takePart_78 (by decide) ?_
            refine lv_icmp_le (tgt := 85) hx hb dX1_takePart_80 (by decide) (fun c19 => ?_) (fun c19 => ?_)
            · replace hf := ifT hf c19
              refine lv_iconst (v := 0) hx hb dX1_takePart_85 (by decide) ?_
              refine lv_istore (lv' := [(6, .int 0), (5, .int v12), (4, .int v2), (3, .int v1), (0, .ref t.1), (1, .int x1), (2, .int x2)]) hx hb dX1_takePart_86 hl (by decide) rfl (fun ls hl => ?_)
              have L88 : ∀ (n : Nat) (Tq88 : TD) (x6q88 : Int32) (H : Heap) (locs : List Loc) (ls : Array Slot), p_X1_takePart_L88 k v2 v12 n Tq88 x6q88 = some (r, rT) → va_P D vwCl (wT ks t Tq88) H → va_D A (wT ks t Tq88) → va_S A s.heap H locs → lv_has ls 7 [(0, .ref t.1), (4, .int v2), (5, .int v12), (6, .int x6q88)] → W p l e { frames := 2, cells := 0, slots := 0, locals := 42 } s m ([.ref t.1, .int x1, .int x2] : List Value).toArray below meth c H locs 0 0 Q (F0 m 88 ls []) := by
                intro n
                induction n with
                | zero => intro Tq88 x6q88 H locs ls hf; cases hf
                | succ n ih88 =>
                  intro Tq88 x6q88 H locs ls hf hP hD hS hl
                  rw [p_X1_takePart_L88] at hf
                  refine lv_iload hx hb dX1_takePart_88 (lv_at hl 3 rfl) ?_
                  refine lv_iload hx hb dX1_takePart_90 (lv_at hl 2 rfl) ?_
                  refine lv_icmp_ge (tgt := 122) hx hb dX1_takePart_92 (by decide) (fun c20 => ?_) (fun c20 => ?_)
                  · replace hf := ifT hf c20
                    refine lv_iconst (v := 0) hx hb dX1_takePart_122 (by decide) ?_
                    obtain ⟨rfl, rfl⟩ := inj2 hf
                    exact hret trivial _ _ _ _ dX1_takePart_123 (fun ty h => by cases h; rfl) hP hD hS
                  · replace hf := ifF hf c20
                    refine lv_aload_n hx hb dX1_takePart_95 rfl (lv_at hl 0 rfl) ?_
                    refine va_get (v := .ref t.2.2) (C := RX1) (T := TX1) (N := 6) hx hb hts hiX1 hown hK hP 0 rfl rfl 2 (by decide) hk15 (fun _ h9 => h9) rfl dX1_takePart_96 ?_
                    refine lv_aload_n hx hb dX1_takePart_99 rfl (lv_at hl 0 rfl) ?_
                    refine va_get (v := .int (TD.rows Tq88)) (C := RX1) (T := TX1) (N := 6) hx hb hts hiX1 hown hK hP 0 rfl rfl 3 (by decide) hk23 (fun _ h9 => h9) rfl dX1_takePart_100 ?_
                    refine lv_iload hx hb dX1_takePart_103 (lv_at hl 1 rfl) ?_
                    obtain ⟨f21, hf21, hf⟩ := bnd hf
                    refine xa_iast (wn := (wT ks t (mkTD (TD.sg Tq88) f21 (TD.length Tq88) (TD.rows Tq88) (TD.position Tq88) (TD.reason Tq88)))) hx hb hK hP hD hS hf21 2 0 rfl rfl dX1_takePart_105 rfl (fun H locs hP hD hS => ?_)
                    refine lv_aload_n hx hb dX1_takePart_106 rfl (lv_at hl 0 rfl) ?_
                    refine lv_dup hx hb dX1_takePart_107 rfl ?_
                    refine va_get (v := .int (TD.rows Tq88)) (C := RX1) (T := TX1) (N := 6) hx hb hts hiX1 hown hK hP 0 rfl rfl 3 (by decide) hk23 (fun _ h9 => h9) rfl dX1_takePart_108 ?_
                    refine lv_iconst (v := 1) hx hb dX1_takePart_111 (by decide) ?_
                    refine lv_iadd hx hb dX1_takePart_112 ?_
                    refine xputI (wn := (wT ks t (mkTD (TD.sg Tq88) f21 (TD.length Tq88) ((TD.rows Tq88) + 1) (TD.position Tq88) (TD.reason Tq88)))) (C := RX1) (T := TX1) (N := 6) hx hb hts hiX1 tyX1 tyX1_ok nmX1 hown hK hP hD hS 0 rfl rfl 3 (by decide) hk23 (fun _ h9 => h9) rfl (by decide +kernel) (Nat.le_of_ble_eq_true rfl) dX1_takePart_113 rfl (fun H locs hP hD hS => ?_)
                    refine lv_iinc (v := (x6q88 + 1)) (lv' := [(6, .int (x6q88 + 1)), (0, .ref t.1), (4, .int v2), (5, .int v12)]) hx hb dX1_takePart_116 hl (k := 3) rfl rfl (by decide) rfl (fun ls hl => ?_)
                    refine lv_goto (tgt := 88) hx hb dX1_takePart_119 (by decide) ?_
                    exact ih88 _ _  _ _ _ hf hP hD hS (lv_sub hl [1, 2, 3, 0] rfl)
              exact L88 k _ _ _ _ _ hf hP hD hS (lv_sub hl [4, 2, 1, 0] rfl)
            · replace hf := ifF hf c19
              refine lv_iconst (v := 3) hx hb dX1_takePart_83 (by decide) ?_
              obtain ⟨rfl, rfl⟩ := inj2 hf
              exact hret trivial _ _ _ _ dX1_takePart_84 (fun ty h => by cases h; rfl) hP hD hS
          · replace hf := ifT hf c18
            refine lv_iconst (v := 2) hx hb dX1_takePart_69 (by decide) ?_
            obtain ⟨rfl, rfl⟩ := inj2 hf
            exact hret trivial _ _ _ _ dX1_takePart_70 (fun ty h => by cases h; rfl) hP hD hS
      · replace hf := ifT hf c14
        refine lv_iconst (v := 1) hx hb dX1_takePart_48 (by decide) ?_
        obtain ⟨rfl, rfl⟩ := inj2 hf
        exact hret trivial _ _ _ _ dX1_takePart_49 (fun ty h => by cases h; rfl) hP hD hS

/-! ===== X1_parse ===== -/
def p_X1_parse_L14 (k : Nat) : Nat → (TD) → (Int32) → (Int32) → Option (TD)
  | 0, _, _, _ => none
  | n + 1, T, x1, x2 =>
    if (TD.length T) < x2 then (some T) else (if (TD.reason T) = 0 then (if x2 = (TD.length T) then (bind2 (p_X1_takePart k (mkTD (TD.sg T) (TD.th T) (TD.length T) (TD.rows T) x1 (TD.reason T)) x1 x2) fun v4 T5 => p_X1_parse_L14 k n (mkTD (TD.sg T5) (TD.th T5) (TD.length T5) (TD.rows T5) (TD.position T5) v4) (x2 + 1) (x2 + 1)) else ((ald (TD.sg T) 100 x2).bind fun v6 => if v6 = 44 then (bind2 (p_X1_takePart k (mkTD (TD.sg T) (TD.th T) (TD.length T) (TD.rows T) x1 (TD.reason T)) x1 x2) fun v8 T9 => p_X1_parse_L14 k n (mkTD (TD.sg T9) (TD.th T9) (TD.length T9) (TD.rows T9) (TD.position T9) v8) (x2 + 1) (x2 + 1)) else (p_X1_parse_L14 k n T x1 (x2 + 1)))) else (some T))

def p_X1_parse (k : Nat) (T : TD) : Option (TD) :=
  p_X1_parse_L14 k k (mkTD (TD.sg T) (TD.th T) (TD.length T) 0 (TD.position T) 0) 0 0

set_option maxHeartbeats 4000000 in
set_option maxRecDepth 100000 in
theorem c_X1_parse {l : Launch} {D : va_G} {ks : K3} (k : Nat) (t : AT) (T : TD) (rT : TD) (hf : p_X1_parse k T = some rT) : MetV l yX1_parse wsX1_parse { frames := 3, cells := 0, slots := 0, locals := 68 } D ks [.ref t.1] (wT ks t T) (wT ks t rT) := by
  refine MetV.of (cc := cX1_parse) (maxL := 3) (by decide +kernel) rfl (Nat.le_of_ble_eq_true rfl) ?_
  intro p e s m below meth c Q A hx hb hml hts hown hP hX hD hA hret ls hl
  have hK := hX.1
  replace hl : lv_has ls 3 [(0, .ref t.1)] := hl
  have hS : va_S A s.heap s.heap [] := va_S.rf
  have hiX1 : ∀ w ∈ wsX10, w ∈ wsX1_parse := by decide +kernel
  have hk23 := hts (.fieldLink RX1 23 "SoapFilm$FilmText" "rows" "I") (by decide +kernel)
  have hk26 := hts (.fieldLink RX1 26 "SoapFilm$FilmText" "reason" "I") (by decide +kernel)
  have hk19 := hts (.fieldLink RX1 19 "SoapFilm$FilmText" "length" "I") (by decide +kernel)
  have hk29 := hts (.fieldLink RX1 29 "SoapFilm$FilmText" "position" "I") (by decide +kernel)
  have hk11 := hts (.fieldLink RX1 11 "SoapFilm$FilmText" "signs" "[C") (by decide +kernel)
  unfold p_X1_parse at hf
  refine lv_aload_n hx hb dX1_parse_0 rfl (lv_at hl 0 rfl) ?_
  refine lv_iconst (v := 0) hx hb dX1_parse_1 (by decide) ?_
  refine xputI (wn := (wT ks t (mkTD (TD.sg T) (TD.th T) (TD.length T) 0 (TD.position T) (TD.reason T)))) (C := RX1) (T := TX1) (N := 6) hx hb hts hiX1 tyX1 tyX1_ok nmX1 hown hK hP hD hS 0 rfl rfl 3 (by decide) hk23 (fun _ h9 => h9) rfl (by decide +kernel) (Nat.le_of_ble_eq_true rfl) dX1_parse_2 rfl (fun H locs hP hD hS => ?_)
  refine lv_aload_n hx hb dX1_parse_5 rfl (lv_at hl 0 rfl) ?_
  refine lv_iconst (v := 0) hx hb dX1_parse_6 (by decide) ?_
  refine xputI (wn := (wT ks t (mkTD (TD.sg T) (TD.th T) (TD.length T) 0 (TD.position T) 0))) (C := RX1) (T := TX1) (N := 6) hx hb hts hiX1 tyX1 tyX1_ok nmX1 hown hK hP hD hS 0 rfl rfl 5 (by decide) hk26 (fun _ h9 => h9) rfl (by decide +kernel) (Nat.le_of_ble_eq_true rfl) dX1_parse_7 rfl (fun H locs hP hD hS => ?_)
  refine lv_iconst (v := 0) hx hb dX1_parse_10 (by decide) ?_
  refine lv_istore_n (lv' := [(1, .int 0), (0, .ref t.1)]) hx hb dX1_parse_11 rfl hl (by decide) rfl (fun ls hl => ?_)
  refine lv_iconst (v := 0) hx hb dX1_parse_12 (by decide) ?_
  refine lv_istore_n (lv' := [(2, .int 0), (1, .int 0), (0, .ref t.1)]) hx hb dX1_parse_13 rfl hl (by decide) rfl (fun ls hl => ?_)
  have L14 : ∀ (n : Nat) (Tq14 : TD) (x1q14 : Int32) (x2q14 : Int32) (H : Heap) (locs : List Loc) (ls : Array Slot), p_X1_parse_L14 k n Tq14 x1q14 x2q14 = some rT → va_P D vwCl (wT ks t Tq14) H → va_D A (wT ks t Tq14) → va_S A s.heap H locs → lv_has ls 3 [(0, .ref t.1), (1, .int x1q14), (2, .int x2q14)] → W p l e { frames := 3, cells := 0, slots := 0, locals := 68 } s m ([.ref t.1] : List Value).toArray below meth c H locs 0 0 Q (F0 m 14 ls []) := by
    intro n
    induction n with
    | zero => intro Tq14 x1q14 x2q14 H locs ls hf; cases hf
    | succ n ih14 =>
      intro Tq14 x1q14 x2q14 H locs ls hf hP hD hS hl
      rw [p_X1_parse_L14] at hf
      refine lv_iload_n hx hb dX1_parse_14 rfl (lv_at hl 2 rfl) ?_
      refine lv_aload_n hx hb dX1_parse_15 rfl (lv_at hl 0 rfl) ?_
      refine va_get (v := .int (TD.length Tq14)) (C := RX1) (T := TX1) (N := 6) hx hb hts hiX1 hown hK hP 0 rfl rfl 1 (by decide) hk19 (fun _ h9 => h9) rfl dX1_parse_16 ?_
      refine lv_icmp_gt (tgt := 73) hx hb dX1_parse_19 (by decide) (fun c1 => ?_) (fun c1 => ?_)
      · replace hf := ifT hf c1
        obtain rfl := Option.some.inj hf
        exact hret _ _ _ _ dX1_parse_73 hP hD hS
      · replace hf := ifF hf c1
        refine lv_aload_n hx hb dX1_parse_22 rfl (lv_at hl 0 rfl) ?_
        refine va_get (v := .int (TD.reason Tq14)) (C := RX1) (T := TX1) (N := 6) hx hb hts hiX1 hown hK hP 0 rfl rfl 5 (by decide) hk26 (fun _ h9 => h9) rfl dX1_parse_23 ?_
        refine lv_if_ne (tgt := 73) hx hb dX1_parse_26 (by decide) (fun c2 => ?_) (fun c2 => ?_)
        · replace hf := ifF hf c2
          obtain rfl := Option.some.inj hf
          exact hret _ _ _ _ dX1_parse_73 hP hD hS
        · replace hf := ifT hf c2
          refine lv_iload_n hx hb dX1_parse_29 rfl (lv_at hl 2 rfl) ?_
          refine lv_aload_n hx hb dX1_parse_30 rfl (lv_at hl 0 rfl) ?_
          refine va_get (v := .int (TD.length Tq14)) (C := RX1) (T := TX1) (N := 6) hx hb hts hiX1 hown hK hP 0 rfl rfl 1 (by decide) hk19 (fun _ h9 => h9) rfl dX1_parse_31 ?_
          refine lv_icmp_eq (tgt := 48) hx hb dX1_parse_34 (by decide) (fun c3 => ?_) (fun c3 => ?_)
          · replace hf := ifT hf c3
            refine lv_aload_n hx hb dX1_parse_48 rfl (lv_at hl 0 rfl) ?_
            refine lv_iload_n hx hb dX1_parse_49 rfl (lv_at hl 1 rfl) ?_
            refine xputI (wn := (wT ks t (mkTD (TD.sg Tq14) (TD.th Tq14) (TD.length Tq14) (TD.rows Tq14) x1q14 (TD.reason Tq14)))) (C := RX1) (T := TX1) (N := 6) hx hb hts hiX1 tyX1 tyX1_ok nmX1 hown hK hP hD hS 0 rfl rfl 4 (by decide) hk29 (fun _ h9 => h9) rfl (by decide +kernel) (Nat.le_of_ble_eq_true rfl) dX1_parse_50 rfl (fun H locs hP hD hS => ?_)
            refine lv_aload_n hx hb dX1_parse_53 rfl (lv_at hl 0 rfl) ?_
            refine lv_aload_n hx hb dX1_parse_54 rfl (lv_at hl 0 rfl) ?_
            refine lv_iload_n hx hb dX1_parse_55 rfl (lv_at hl 1 rfl) ?_
            refine lv_iload_n hx hb dX1_parse_56 rfl (lv_at hl 2 rfl) ?_
            obtain ⟨v4, T5, hv4, hf⟩ := bnd2 hf
            refine xcallI (As := [.int x1q14, .int x2q14]) (rest := [.ref t.1]) (wc := (wT ks t (mkTD (TD.sg Tq14) (TD.th Tq14) (TD.length Tq14) (TD.rows Tq14) x1q14 (TD.reason Tq14)))) (w1 := (wT ks t T5)) (wr := ([] : va_W)) (wn := (wT ks t T5)) ⟨hx, hb, hml, hown, hts⟩ (c_X1_takePart k t (mkTD (TD.sg Tq14) (TD.th Tq14) (TD.length Tq14) (TD.rows Tq14) x1q14 (TD.reason Tq14)) x1q14 x2q14 v4 T5 hv4) (cwV 2 hts gX1_parse_X1_takePart rfl rfl rfl (by decide +kernel) ⟨Nat.le_of_ble_eq_true rfl, Nat.le_of_ble_eq_true rfl⟩) hX hP hD hS hA [0, 1, 2] [] [0, 1, 2] rfl rfl rfl ⟨by decide, by decide, by decide⟩ (by decide) (ci := 1) (q0 := 0) rfl rfl rfl hl.1 rfl (Nat.le_of_ble_eq_true rfl) dX1_parse_57 ⟨Nat.zero_le _, Nat.zero_le _⟩ (fun zv4 H locs hP hD hS => ?_)
            refine xputI (wn := (wT ks t (mkTD (TD.sg T5) (TD.th T5) (TD.length T5) (TD.rows T5) (TD.position T5) v4))) (C := RX1) (T := TX1) (N := 6) hx hb hts hiX1 tyX1 tyX1_ok nmX1 hown hK hP hD hS 0 rfl rfl 5 (by decide) hk26 (fun _ h9 => h9) rfl (by decide +kernel) (Nat.le_of_ble_eq_true rfl) dX1_parse_60 rfl (fun H locs hP hD hS => ?_)
            refine lv_iload_n hx hb dX1_parse_63 rfl (lv_at hl 2 rfl) ?_
            refine lv_iconst (v := 1) hx hb dX1_parse_64 (by decide) ?_
            refine lv_iadd hx hb dX1_parse_65 ?_
            refine lv_istore_n (lv' := [(1, .int (x2q14 + 1)), (0, .ref t.1), (2, .int x2q14)]) hx hb dX1_parse_66 rfl hl (by decide) rfl (fun ls hl => ?_)
            refine lv_iinc (v := (x2q14 + 1)) (lv' := [(2, .int (x2q14 + 1)), (1, .int (x2q14 + 1)), (0, .ref t.1)]) hx hb dX1_parse_67 hl (k := 2) rfl rfl (by decide) rfl (fun ls hl => ?_)
            refine lv_goto (tgt := 14) hx hb dX1_parse_70 (by decide) ?_
            exact ih14 _ _ _  _ _ _ hf hP hD hS (lv_sub hl [2, 1, 0] rfl)
          · replace hf := ifF hf c3
            refine lv_aload_n hx hb dX1_parse_37 rfl (lv_at hl 0 rfl) ?_
            refine va_get (v := .ref t.2.1) (C := RX1) (T := TX1) (N := 6) hx hb hts hiX1 hown hK hP 0 rfl rfl 0 (by decide) hk11 (fun _ h9 => h9) rfl dX1_parse_38 ?_
            refine lv_iload_n hx hb dX1_parse_41 rfl (lv_at hl 2 rfl) ?_
            obtain ⟨v6, hv6, hf⟩ := bnd hf
            refine xa_cald hx hb hK hP hv6 1 1 rfl rfl dX1_parse_42 ?_
            refine lv_bipush (v := 44) hx hb dX1_parse_43 (by decide) ?_
            refine lv_icmp_ne (tgt := 67) hx hb dX1_parse_45 (by decide) (fun c7 => ?_) (fun c7 => ?_)
            · replace hf := ifF hf c7
              refine lv_iinc (v := (x2q14 + 1)) (lv' := [(2, .int (x2q14 + 1)), (0, .ref t.1), (1, .int x1q14)]) hx hb dX1_parse_67 hl (k := 2) rfl rfl (by decide) rfl (fun ls hl => ?_)
              refine lv_goto (tgt := 14) hx hb dX1_parse_70 (by decide) ?_
              exact ih14 _ _ _  _ _ _ hf hP hD hS (lv_sub hl [1, 2, 0] rfl)
            · replace hf := ifT hf c7
              refine lv_aload_n hx hb dX1_parse_48 rfl (lv_at hl 0 rfl) ?_
              refine lv_iload_n hx hb dX1_parse_49 rfl (lv_at hl 1 rfl) ?_
              refine xputI (wn := (wT ks t (mkTD (TD.sg Tq14) (TD.th Tq14) (TD.length Tq14) (TD.rows Tq14) x1q14 (TD.reason Tq14)))) (C := RX1) (T := TX1) (N := 6) hx hb hts hiX1 tyX1 tyX1_ok nmX1 hown hK hP hD hS 0 rfl rfl 4 (by decide) hk29 (fun _ h9 => h9) rfl (by decide +kernel) (Nat.le_of_ble_eq_true rfl) dX1_parse_50 rfl (fun H locs hP hD hS => ?_)
              refine lv_aload_n hx hb dX1_parse_53 rfl (lv_at hl 0 rfl) ?_
              refine lv_aload_n hx hb dX1_parse_54 rfl (lv_at hl 0 rfl) ?_
              refine lv_iload_n hx hb dX1_parse_55 rfl (lv_at hl 1 rfl) ?_
              refine lv_iload_n hx hb dX1_parse_56 rfl (lv_at hl 2 rfl) ?_
              obtain ⟨v8, T9, hv8, hf⟩ := bnd2 hf
              refine xcallI (As := [.int x1q14, .int x2q14]) (rest := [.ref t.1]) (wc := (wT ks t (mkTD (TD.sg Tq14) (TD.th Tq14) (TD.length Tq14) (TD.rows Tq14) x1q14 (TD.reason Tq14)))) (w1 := (wT ks t T9)) (wr := ([] : va_W)) (wn := (wT ks t T9)) ⟨hx, hb, hml, hown, hts⟩ (c_X1_takePart k t (mkTD (TD.sg Tq14) (TD.th Tq14) (TD.length Tq14) (TD.rows Tq14) x1q14 (TD.reason Tq14)) x1q14 x2q14 v8 T9 hv8) (cwV 2 hts gX1_parse_X1_takePart rfl rfl rfl (by decide +kernel) ⟨Nat.le_of_ble_eq_true rfl, Nat.le_of_ble_eq_true rfl⟩) hX hP hD hS hA [0, 1, 2] [] [0, 1, 2] rfl rfl rfl ⟨by decide, by decide, by decide⟩ (by decide) (ci := 1) (q0 := 0) rfl rfl rfl hl.1 rfl (Nat.le_of_ble_eq_true rfl) dX1_parse_57 ⟨Nat.zero_le _, Nat.zero_le _⟩ (fun zv8 H locs hP hD hS => ?_)
              refine xputI (wn := (wT ks t (mkTD (TD.sg T9) (TD.th T9) (TD.length T9) (TD.rows T9) (TD.position T9) v8))) (C := RX1) (T := TX1) (N := 6) hx hb hts hiX1 tyX1 tyX1_ok nmX1 hown hK hP hD hS 0 rfl rfl 5 (by decide) hk26 (fun _ h9 => h9) rfl (by decide +kernel) (Nat.le_of_ble_eq_true rfl) dX1_parse_60 rfl (fun H locs hP hD hS => ?_)
              refine lv_iload_n hx hb dX1_parse_63 rfl (lv_at hl 2 rfl) ?_
              refine lv_iconst (v := 1) hx hb dX1_parse_64 (by decide) ?_
              refine lv_iadd hx hb dX1_parse_65 ?_
              refine lv_istore_n (lv' := [(1, .int (x2q14 + 1)), (0, .ref t.1), (2, .int x2q14)]) hx hb dX1_parse_66 rfl hl (by decide) rfl (fun ls hl => ?_)
              refine lv_iinc (v := (x2q14 + 1)) (lv' := [(2, .int (x2q14 + 1)), (1, .int (x2q14 + 1)), (0, .ref t.1)]) hx hb dX1_parse_67 hl (k := 2) rfl rfl (by decide) rfl (fun ls hl => ?_)
              refine lv_goto (tgt := 14) hx hb dX1_parse_70 (by decide) ?_
              exact ih14 _ _ _  _ _ _ hf hP hD hS (lv_sub hl [2, 1, 0] rfl)
  exact L14 k _ _ _ _ _ _ hf hP hD hS (lv_sub hl [2, 1, 0] rfl)
