/-! ===== X5_type ===== -/
def p_X5_type (k : Nat) (M : MD) (x1 : Int32) : Option (Int32 × MD) :=
  (p_X5_in k x1 32 126).bind fun v1 => if v1 = 0 then (some ((-1), M)) else (if (MD.length M) = 100 then (some ((-3), M)) else ((ast (MD.text M) 100 (MD.length M) x1).bind fun f4 => some (((MD.length M) + 1), (mkMD (MD.st M) (MD.past M) (MD.aside M) f4 (MD.pasts M) ((MD.length M) + 1) (MD.spot M) (MD.itsThickness M) (MD.itsRows M) (MD.from_ M)))))

set_option maxHeartbeats 4000000 in
set_option maxRecDepth 100000 in
theorem c_X5_type {l : Launch} {D : va_G} {ks : K3} (k : Nat) (g : AM) (M : MD) (x1 : Int32) (r : Int32) (rM : MD) (hf : p_X5_type k M x1 = some (r, rM)) : MetI l yX5_type wsX5_type { frames := 1, cells := 0, slots := 0, locals := 22 } D ks [.ref g.1, .int x1] (wM ks g M) (wM ks g rM) r True := by
  refine MetI.of (cc := cX5_type) (maxL := 2) (ret := (some .int)) (by decide +kernel) rfl (Nat.le_of_ble_eq_true rfl) ?_ ⟨_, rfl⟩
  intro p e s m below meth c Q A hx hb hml hts hown hP hX hD hA hret ls hl
  have hK := hX.1
  replace hl : lv_has ls 2 [(0, .ref g.1), (1, .int x1)] := hl
  have hS : va_S A s.heap s.heap [] := va_S.rf
  have hiX5 : ∀ w ∈ wsX50, w ∈ wsX5_type := by decide +kernel
  have hk117 := hts (.fieldLink RX5 117 "SoapFilmModel" "length" "I") (by decide +kernel)
  have hk19 := hts (.fieldLink RX5 19 "SoapFilmModel" "text" "[I") (by decide +kernel)
  unfold p_X5_type at hf
  refine lv_iload_n hx hb dX5_type_0 rfl (lv_at hl 1 rfl) ?_
  refine lv_bipush (v := 32) hx hb dX5_type_1 (by decide) ?_
  refine lv_bipush (v := 126) hx hb dX5_type_3 (by decide) ?_
  obtain ⟨v1, hv1, hf⟩ := bnd hf
  refine xcallRS (As := [.int x1, .int 32, .int 126]) (rest := []) (wc := []) ⟨hx, hb, hml, hown, hts⟩ (c_X5_in k x1 32 126 v1 hv1) (va_cwS 3 hts gX5_type_X5_in rfl rfl rfl (by decide +kernel) ⟨Nat.le_of_ble_eq_true rfl, Nat.le_of_ble_eq_true rfl⟩) hX (va_P0 _ _ _) rfl hl.1 rfl (Nat.le_of_ble_eq_true rfl) dX5_type_5 ⟨Nat.zero_le _, Nat.zero_le _⟩ (fun zv1 => ?_)
  refine lv_if_ne (tgt := 13) hx hb dX5_type_8 (by decide) (fun c2 => ?_) (fun c2 => ?_)
  · replace hf := ifF hf c2
    refine lv_aload_n hx hb dX5_type_13 rfl (lv_at hl 0 rfl) ?_
    refine va_get (v := .int (MD.length M)) (C := RX5) (T := TX5) (N := 10) hx hb hts hiX5 hown hK hP 0 rfl rfl 5 (by decide) hk117 (fun _ h9 => h9) rfl dX5_type_14 ?_
    refine lv_bipush (v := 100) hx hb dX5_type_17 (by decide) ?_
    refine lv_icmp_ne (tgt := 25) hx hb dX5_type_19 (by decide) (fun c3 => ?_) (fun c3 => ?_)
    · replace hf := ifF hf c3
      refine lv_aload_n hx hb dX5_type_25 rfl (lv_at hl 0 rfl) ?_
      refine va_get (v := .ref g.2.2.2.2) (C := RX5) (T := TX5) (N := 10) hx hb hts hiX5 hown hK hP 0 rfl rfl 4 (by decide) hk19 (fun _ h9 => h9) rfl dX5_type_26 ?_
      refine lv_aload_n hx hb dX5_type_29 rfl (lv_at hl 0 rfl) ?_
      refine va_get (v := .int (MD.length M)) (C := RX5) (T := TX5) (N := 10) hx hb hts hiX5 hown hK hP 0 rfl rfl 5 (by decide) hk117 (fun _ h9 => h9) rfl dX5_type_30 ?_
      refine lv_iload_n hx hb dX5_type_33 rfl (lv_at hl 1 rfl) ?_
      obtain ⟨f4, hf4, hf⟩ := bnd hf
      refine xa_iast (wn := (wM ks g (mkMD (MD.st M) (MD.past M) (MD.aside M) f4 (MD.pasts M) (MD.length M) (MD.spot M) (MD.itsThickness M) (MD.itsRows M) (MD.from_ M)))) hx hb hK hP hD hS hf4 4 0 rfl rfl dX5_type_34 rfl (fun H locs hP hD hS => ?_)
      refine lv_aload_n hx hb dX5_type_35 rfl (lv_at hl 0 rfl) ?_
      refine lv_dup hx hb dX5_type_36 rfl ?_
      refine va_get (v := .int (MD.length M)) (C := RX5) (T := TX5) (N := 10) hx hb hts hiX5 hown hK hP 0 rfl rfl 5 (by decide) hk117 (fun _ h9 => h9) rfl dX5_type_37 ?_
      refine lv_iconst (v := 1) hx hb dX5_type_40 (by decide) ?_
      refine lv_iadd hx hb dX5_type_41 ?_
      refine xputI (wn := (wM ks g (mkMD (MD.st M) (MD.past M) (MD.aside M) f4 (MD.pasts M) ((MD.length M) + 1) (MD.spot M) (MD.itsThickness M) (MD.itsRows M) (MD.from_ M)))) (C := RX5) (T := TX5) (N := 10) hx hb hts hiX5 tyX5 tyX5_ok nmX5 hown hK hP hD hS 0 rfl rfl 5 (by decide) hk117 (fun _ h9 => h9) rfl (by decide +kernel) (Nat.le_of_ble_eq_true rfl) dX5_type_42 rfl (fun H locs hP hD hS => ?_)
      refine lv_aload_n hx hb dX5_type_45 rfl (lv_at hl 0 rfl) ?_
      refine va_get (v := .int ((MD.length M) + 1)) (C := RX5) (T := TX5) (N := 10) hx hb hts hiX5 hown hK hP 0 rfl rfl 5 (by decide) hk117 (fun _ h9 => h9) rfl dX5_type_46 ?_
      obtain ⟨rfl, rfl⟩ := inj2 hf
      exact hret trivial _ _ _ _ dX5_type_49 (fun ty h => by cases h; rfl) hP hD hS
    · replace hf := ifT hf c3
      refine lv_bipush (v := (-3)) hx hb dX5_type_22 (by decide) ?_
      obtain ⟨rfl, rfl⟩ := inj2 hf
      exact hret trivial _ _ _ _ dX5_type_24 (fun ty h => by cases h; rfl) hP hD hS
  · replace hf := ifT hf c2
    refine lv_iconst (v := (-1)) hx hb dX5_type_11 (by decide) ?_
    obtain ⟨rfl, rfl⟩ := inj2 hf
    exact hret trivial _ _ _ _ dX5_type_12 (fun ty h => by cases h; rfl) hP hD hS

/-! ===== X5_clearText ===== -/
def p_X5_clearText (k : Nat) (M : MD) : Option (Int32 × MD) :=
  some ((MD.length M), (mkMD (MD.st M) (MD.past M) (MD.aside M) (MD.text M) (MD.pasts M) 0 (MD.spot M) (MD.itsThickness M) (MD.itsRows M) (MD.from_ M)))

set_option maxHeartbeats 4000000 in
set_option maxRecDepth 100000 in
theorem c_X5_clearText {l : Launch} {D : va_G} {ks : K3} (k : Nat) (g : AM) (M : MD) (r : Int32) (rM : MD) (hf : p_X5_clearText k M = some (r, rM)) : MetI l yX5_clearText wsX5_clearText { frames := 0, cells := 0, slots := 0, locals := 0 } D ks [.ref g.1] (wM ks g M) (wM ks g rM) r True := by
  refine MetI.of (cc := cX5_clearText) (maxL := 2) (ret := (some .int)) (by decide +kernel) rfl (Nat.le_of_ble_eq_true rfl) ?_ ⟨_, rfl⟩
  intro p e s m below meth c Q A hx hb hml hts hown hP hX hD hA hret ls hl
  have hK := hX.1
  replace hl : lv_has ls 2 [(0, .ref g.1)] := hl
  have hS : va_S A s.heap s.heap [] := va_S.rf
  have hiX5 : ∀ w ∈ wsX50, w ∈ wsX5_clearText := by decide +kernel
  have hk117 := hts (.fieldLink RX5 117 "SoapFilmModel" "length" "I") (by decide +kernel)
  unfold p_X5_clearText at hf
  refine lv_aload_n hx hb dX5_clearText_0 rfl (lv_at hl 0 rfl) ?_
  refine va_get (v := .int (MD.length M)) (C := RX5) (T := TX5) (N := 10) hx hb hts hiX5 hown hK hP 0 rfl rfl 5 (by decide) hk117 (fun _ h9 => h9) rfl dX5_clearText_1 ?_
  refine lv_istore_n (lv' := [(1, .int (MD.length M)), (0, .ref g.1)]) hx hb dX5_clearText_4 rfl hl (by decide) rfl (fun ls hl => ?_)
  refine lv_aload_n hx hb dX5_clearText_5 rfl (lv_at hl 1 rfl) ?_
  refine lv_iconst (v := 0) hx hb dX5_clearText_6 (by decide) ?_
  refine xputI (wn := (wM ks g (mkMD (MD.st M) (MD.past M) (MD.aside M) (MD.text M) (MD.pasts M) 0 (MD.spot M) (MD.itsThickness M) (MD.itsRows M) (MD.from_ M)))) (C := RX5) (T := TX5) (N := 10) hx hb hts hiX5 tyX5 tyX5_ok nmX5 hown hK hP hD hS 0 rfl rfl 5 (by decide) hk117 (fun _ h9 => h9) rfl (by decide +kernel) (Nat.le_of_ble_eq_true rfl) dX5_clearText_7 rfl (fun H locs hP hD hS => ?_)
  refine lv_iload_n hx hb dX5_clearText_10 rfl (lv_at hl 0 rfl) ?_
  obtain ⟨rfl, rfl⟩ := inj2 hf
  exact hret trivial _ _ _ _ dX5_clearText_11 (fun ty h => by cases h; rfl) hP hD hS

/-! ===== X5_isAt ===== -/
def p_X5_isAt (k : Nat) (M : MD) (x1 : Int32) (x2 : Int32) : Option (Int32) :=
  if (MD.length M) ≤ (MD.spot M) then (some 0) else ((ald (MD.text M) 100 (MD.spot M)).bind fun v2 => (p_X5_in k v2 x1 x2).bind fun v3 => if v3 = 0 then (some 0) else (some 1))

set_option maxHeartbeats 4000000 in
set_option maxRecDepth 100000 in
theorem c_X5_isAt {l : Launch} {D : va_G} {ks : K3} (k : Nat) (g : AM) (M : MD) (x1 : Int32) (x2 : Int32) (r : Int32) (hf : p_X5_isAt k M x1 x2 = some r) : MetR l yX5_isAt wsX5_isAt { frames := 1, cells := 0, slots := 0, locals := 22 } D ks [.ref g.1, .int x1, .int x2] (wM ks g M) r (narrow .boolean (.int r) = .int r) := by
  refine MetR.of (cc := cX5_isAt) (maxL := 3) (ret := (some .boolean)) (by decide +kernel) rfl (Nat.le_of_ble_eq_true rfl) ?_ ⟨_, rfl⟩
  intro p e s m below meth c Q hx hb hml hts hown hP hX hret ls hl
  have hK := hX.1
  replace hl : lv_has ls 3 [(0, .ref g.1), (1, .int x1), (2, .int x2)] := hl
  have hiX5 : ∀ w ∈ wsX50, w ∈ wsX5_isAt := by decide +kernel
  have hk138 := hts (.fieldLink RX5 138 "SoapFilmModel" "spot" "I") (by decide +kernel)
  have hk117 := hts (.fieldLink RX5 117 "SoapFilmModel" "length" "I") (by decide +kernel)
  have hk19 := hts (.fieldLink RX5 19 "SoapFilmModel" "text" "[I") (by decide +kernel)
  unfold p_X5_isAt at hf
  refine lv_aload_n hx hb dX5_isAt_0 rfl (lv_at hl 0 rfl) ?_
  refine va_get (v := .int (MD.spot M)) (C := RX5) (T := TX5) (N := 10) hx hb hts hiX5 hown hK hP 0 rfl rfl 6 (by decide) hk138 (fun _ h9 => h9) rfl dX5_isAt_1 ?_
  refine lv_aload_n hx hb dX5_isAt_4 rfl (lv_at hl 0 rfl) ?_
  refine va_get (v := .int (MD.length M)) (C := RX5) (T := TX5) (N := 10) hx hb hts hiX5 hown hK hP 0 rfl rfl 5 (by decide) hk117 (fun _ h9 => h9) rfl dX5_isAt_5 ?_
  refine lv_icmp_ge (tgt := 32) hx hb dX5_isAt_8 (by decide) (fun c1 => ?_) (fun c1 => ?_)
  · replace hf := ifT hf c1
    refine lv_iconst (v := 0) hx hb dX5_isAt_32 (by decide) ?_
    obtain rfl := Option.some.inj hf
    exact hret rfl _ _ dX5_isAt_33 (fun ty h => by cases h; rfl)
  · replace hf := ifF hf c1
    refine lv_aload_n hx hb dX5_isAt_11 rfl (lv_at hl 0 rfl) ?_
    refine va_get (v := .ref g.2.2.2.2) (C := RX5) (T := TX5) (N := 10) hx hb hts hiX5 hown hK hP 0 rfl rfl 4 (by decide) hk19 (fun _ h9 => h9) rfl dX5_isAt_12 ?_
    refine lv_aload_n hx hb dX5_isAt_15 rfl (lv_at hl 0 rfl) ?_
    refine va_get (v := .int (MD.spot M)) (C := RX5) (T := TX5) (N := 10) hx hb hts hiX5 hown hK hP 0 rfl rfl 6 (by decide) hk138 (fun _ h9 => h9) rfl dX5_isAt_16 ?_
    obtain ⟨v2, hv2, hf⟩ := bnd hf
    refine xa_iald hx hb hK hP hv2 4 0 rfl rfl dX5_isAt_19 ?_
    refine lv_iload_n hx hb dX5_isAt_20 rfl (lv_at hl 1 rfl) ?_
    refine lv_iload_n hx hb dX5_isAt_21 rfl (lv_at hl 2 rfl) ?_
    obtain ⟨v3, hv3, hf⟩ := bnd hf
    refine xcallRS (As := [.int v2, .int x1, .int x2]) (rest := []) (wc := []) ⟨hx, hb, hml, hown, hts⟩ (c_X5_in k v2 x1 x2 v3 hv3) (va_cwS 3 hts gX5_isAt_X5_in rfl rfl rfl (by decide +kernel) ⟨Nat.le_of_ble_eq_true rfl, Nat.le_of_ble_eq_true rfl⟩) hX (va_P0 _ _ _) rfl hl.1 rfl (Nat.le_of_ble_eq_true rfl) dX5_isAt_22 ⟨Nat.zero_le _, Nat.zero_le _⟩ (fun zv3 => ?_)
    refine lv_if_eq (tgt := 32) hx hb dX5_isAt_25 (by decide) (fun c4 => ?_) (fun c4 => ?_)
    · replace hf := ifT hf c4
      refine lv_iconst (v := 0) hx hb dX5_isAt_32 (by decide) ?_
      obtain rfl := Option.some.inj hf
      exact hret rfl _ _ dX5_isAt_33 (fun ty h => by cases h; rfl)
    · replace hf := ifF hf c4
      refine lv_iconst (v := 1) hx hb dX5_isAt_28 (by decide) ?_
      refine lv_goto (tgt := 33) hx hb dX5_isAt_29 (by decide) ?_
      obtain rfl := Option.some.inj hf
      exact hret rfl _ _ dX5_isAt_33 (fun ty h => by cases h; rfl)

/-! ===== X5_digits ===== -/
def p_X5_digits_L7 (k : Nat) (y1 : Int32) (y3 : Int32) : Nat → (MD) → (Int32) → Option (Int32 × MD)
  | 0, _, _ => none
  | n + 1, M, x2 =>
    if (y3 + y1) ≤ (MD.spot M) then (if (MD.spot M) = y3 then (some ((-1), M)) else (some (x2, M))) else ((p_X5_isAt k M 48 57).bind fun v3 => if v3 = 0 then (if (MD.spot M) = y3 then (some ((-1), M)) else (some (x2, M))) else ((ald (MD.text M) 100 (MD.spot M)).bind fun v6 => p_X5_digits_L7 k y1 y3 n (mkMD (MD.st M) (MD.past M) (MD.aside M) (MD.text M) (MD.pasts M) (MD.length M) ((MD.spot M) + 1) (MD.itsThickness M) (MD.itsRows M) (MD.from_ M)) (((10 * x2) + v6) - 48)))

def p_X5_digits (k : Nat) (M : MD) (x1 : Int32) : Option (Int32 × MD) :=
  p_X5_digits_L7 k x1 (MD.spot M) k M 0

set_option maxHeartbeats 4000000 in
set_option maxRecDepth 100000 in
theorem c_X5_digits {l : Launch} {D : va_G} {ks : K3} (k : Nat) (g : AM) (M : MD) (x1 : Int32) (r : Int32) (rM : MD) (hf : p_X5_digits k M x1 = some (r, rM)) : MetI l yX5_digits wsX5_digits { frames := 2, cells := 0, slots := 0, locals := 44 } D ks [.ref g.1, .int x1] (wM ks g M) (wM ks g rM) r True := by
  refine MetI.of (cc := cX5_digits) (maxL := 4) (ret := (some .int)) (by decide +kernel) rfl (Nat.le_of_ble_eq_true rfl) ?_ ⟨_, rfl⟩
  intro p e s m below meth c Q A hx hb hml hts hown hP hX hD hA hret ls hl
  have hK := hX.1
  replace hl : lv_has ls 4 [(0, .ref g.1), (1, .int x1)] := hl
  have hS : va_S A s.heap s.heap [] := va_S.rf
  have hiX5 : ∀ w ∈ wsX50, w ∈ wsX5_digits := by decide +kernel
  have hk138 := hts (.fieldLink RX5 138 "SoapFilmModel" "spot" "I") (by decide +kernel)
  have hk19 := hts (.fieldLink RX5 19 "SoapFilmModel" "text" "[I") (by decide +kernel)
  unfold p_X5_digits at hf
  refine lv_iconst (v := 0) hx hb dX5_digits_0 (by decide) ?_
  refine lv_istore_n (lv' := [(2, .int 0), (0, .ref g.1), (1, .int x1)]) hx hb dX5_digits_1 rfl hl (by decide) rfl (fun ls hl => ?_)
  refine lv_aload_n hx hb dX5_digits_2 rfl (lv_at hl 1 rfl) ?_
  refine va_get (v := .int (MD.spot M)) (C := RX5) (T := TX5) (N := 10) hx hb hts hiX5 hown hK hP 0 rfl rfl 6 (by decide) hk138 (fun _ h9 => h9) rfl dX5_digits_3 ?_
  refine lv_istore_n (lv' := [(3, .int (MD.spot M)), (2, .int 0), (0, .ref g.1), (1, .int x1)]) hx hb dX5_digits_6 rfl hl (by decide) rfl (fun ls hl => ?_)
  have L7 : ∀ (n : Nat) (Mq7 : MD) (x2q7 : Int32) (H : Heap) (locs : List Loc) (ls : Array Slot), p_X5_digits_L7 k x1 (MD.spot M) n Mq7 x2q7 = some (r, rM) → va_P D vwCl (wM ks g Mq7) H → va_D A (wM ks g Mq7) → va_S A s.heap H locs → lv_has ls 4 [(0, .ref g.1), (1, .int x1), (2, .int x2q7), (3, .int (MD.spot M))] → W p l e { frames := 2, cells := 0, slots := 0, locals := 44 } s m ([.ref g.1, .int x1] : List Value).toArray below meth c H locs 0 0 Q (F0 m 7 ls []) := by
    intro n
    induction n with
    | zero => intro Mq7 x2q7 H locs ls hf; cases hf
    | succ n ih7 =>
      intro Mq7 x2q7 H locs ls hf hP hD hS hl
      rw [p_X5_digits_L7] at hf
      refine lv_aload_n hx hb dX5_digits_7 rfl (lv_at hl 0 rfl) ?_
      refine va_get (v := .int (MD.spot Mq7)) (C := RX5) (T := TX5) (N := 10) hx hb hts hiX5 hown hK hP 0 rfl rfl 6 (by decide) hk138 (fun _ h9 => h9) rfl dX5_digits_8 ?_
      refine lv_iload_n hx hb dX5_digits_11 rfl (lv_at hl 3 rfl) ?_
      refine lv_iload_n hx hb dX5_digits_12 rfl (lv_at hl 1 rfl) ?_
      refine lv_iadd hx hb dX5_digits_13 ?_
      refine lv_icmp_ge (tgt := 59) hx hb dX5_digits_14 (by decide) (fun c1 => ?_) (fun c1 => ?_)
      · replace hf := ifT hf c1
        refine lv_aload_n hx hb dX5_digits_59 rfl (lv_at hl 0 rfl) ?_
        refine va_get (v := .int (MD.spot Mq7)) (C := RX5) (T := TX5) (N := 10) hx hb hts hiX5 hown hK hP 0 rfl rfl 6 (by decide) hk138 (fun _ h9 => h9) rfl dX5_digits_60 ?_
        refine lv_iload_n hx hb dX5_digits_63 rfl (lv_at hl 3 rfl) ?_
        refine lv_icmp_ne (tgt := 71) hx hb dX5_digits_64 (by decide) (fun c2 => ?_) (fun c2 => ?_)
        · replace hf := ifF hf c2
          refine lv_iload_n hx hb dX5_digits_71 rfl (lv_at hl 2 rfl) ?_
          obtain ⟨rfl, rfl⟩ := inj2 hf
          exact hret trivial _ _ _ _ dX5_digits_72 (fun ty h => by cases h; rfl) hP hD hS
        · replace hf := ifT hf c2
          refine lv_iconst (v := (-1)) hx hb dX5_digits_67 (by decide) ?_
          refine lv_goto (tgt := 72) hx hb dX5_digits_68 (by decide) ?_
          obtain ⟨rfl, rfl⟩ := inj2 hf
          exact hret trivial _ _ _ _ dX5_digits_72 (fun ty h => by cases h; rfl) hP hD hS
      · replace hf := ifF hf c1
        refine lv_aload_n hx hb dX5_digits_17 rfl (lv_at hl 0 rfl) ?_
        refine lv_bipush (v := 48) hx hb dX5_digits_18 (by decide) ?_
        refine lv_bipush (v := 57) hx hb dX5_digits_20 (by decide) ?_
        obtain ⟨v3, hv3, hf⟩ := bnd hf
        refine xcallRV (As := [.int 48, .int 57]) (rest := []) (wc := (wM ks g Mq7)) ⟨hx, hb, hml, hown, hts⟩ (c_X5_isAt k g Mq7 48 57 v3 hv3) (cwV 2 hts gX5_digits_X5_isAt rfl rfl rfl (by decide +kernel) ⟨Nat.le_of_ble_eq_true rfl, Nat.le_of_ble_eq_true rfl⟩) hX hP (ci := 4) (q0 := 0) rfl rfl rfl hl.1 rfl (Nat.le_of_ble_eq_true rfl) dX5_digits_22 ⟨Nat.zero_le _, Nat.zero_le _⟩ (fun zv3 => ?_)
        refine lv_if_eq (tgt := 59) hx hb dX5_digits_25 (by decide) (fun c4 => ?_) (fun c4 => ?_)
        · replace hf := ifT hf c4
          refine lv_aload_n hx hb dX5_digits_59 rfl (lv_at hl 0 rfl) ?_
          refine va_get (v := .int (MD.spot Mq7)) (C := RX5) (T := TX5) (N := 10) hx hb hts hiX5 hown hK hP 0 rfl rfl 6 (by decide) hk138 (fun _ h9 => h9) rfl dX5_digits_60 ?_
          refine lv_iload_n hx hb dX5_digits_63 rfl (lv_at hl 3 rfl) ?_
          refine lv_icmp_ne (tgt := 71) hx hb dX5_digits_64 (by decide) (fun c5 => ?_) (fun c5 => ?_)
          · replace hf := ifF hf c5
            refine lv_iload_n hx hb dX5_digits_71 rfl (lv_at hl 2 rfl) ?_
            obtain ⟨rfl, rfl⟩ := inj2 hf
            exact hret trivial _ _ _ _ dX5_digits_72 (fun ty h => by cases h; rfl) hP hD hS
          · replace hf := ifT hf c5
            refine lv_iconst (v := (-1)) hx hb dX5_digits_67 (by decide) ?_
            refine lv_goto (tgt := 72) hx hb dX5_digits_68 (by decide) ?_
            obtain ⟨rfl, rfl⟩ := inj2 hf
            exact hret trivial _ _ _ _ dX5_digits_72 (fun ty h => by cases h; rfl) hP hD hS
        · replace hf := ifF hf c4
          refine lv_bipush (v := 10) hx hb dX5_digits_28 (by decide) ?_
          refine lv_iload_n hx hb dX5_digits_30 rfl (lv_at hl 2 rfl) ?_
          refine lv_imul hx hb dX5_digits_31 ?_
          refine lv_aload_n hx hb dX5_digits_32 rfl (lv_at hl 0 rfl) ?_
          refine va_get (v := .ref g.2.2.2.2) (C := RX5) (T := TX5) (N := 10) hx hb hts hiX5 hown hK hP 0 rfl rfl 4 (by decide) hk19 (fun _ h9 => h9) rfl dX5_digits_33 ?_
          refine lv_aload_n hx hb dX5_digits_36 rfl (lv_at hl 0 rfl) ?_
          refine va_get (v := .int (MD.spot Mq7)) (C := RX5) (T := TX5) (N := 10) hx hb hts hiX5 hown hK hP 0 rfl rfl 6 (by decide) hk138 (fun _ h9 => h9) rfl dX5_digits_37 ?_
          obtain ⟨v6, hv6, hf⟩ := bnd hf
          refine xa_iald hx hb hK hP hv6 4 0 rfl rfl dX5_digits_40 ?_
          refine lv_iadd hx hb dX5_digits_41 ?_
          refine lv_bipush (v := 48) hx hb dX5_digits_42 (by decide) ?_
          refine lv_isub hx hb dX5_digits_44 ?_
          refine lv_istore_n (lv' := [(2, .int (((10 * x2q7) + v6) - 48)), (0, .ref g.1), (1, .int x1), (3, .int (MD.spot M))]) hx hb dX5_digits_45 rfl hl (by decide) rfl (fun ls hl => ?_)
          refine lv_aload_n hx hb dX5_digits_46 rfl (lv_at hl 1 rfl) ?_
          refine lv_dup hx hb dX5_digits_47 rfl ?_
          refine va_get (v := .int (MD.spot Mq7)) (C := RX5) (T := TX5) (N := 10) hx hb hts hiX5 hown hK hP 0 rfl rfl 6 (by decide) hk138 (fun _ h9 => h9) rfl dX5_digits_48 ?_
          refine lv_iconst (v := 1) hx hb dX5_digits_51 (by decide) ?_
          refine lv_iadd hx hb dX5_digits_52 ?_
          refine xputI (wn := (wM ks g (mkMD (MD.st Mq7) (MD.past Mq7) (MD.aside Mq7) (MD.text Mq7) (MD.pasts Mq7) (MD.length Mq7) ((MD.spot Mq7) + 1) (MD.itsThickness Mq7) (MD.itsRows Mq7) (MD.from_ Mq7)))) (C := RX5) (T := TX5) (N := 10) hx hb hts hiX5 tyX5 tyX5_ok nmX5 hown hK hP hD hS 0 rfl rfl 6 (by decide) hk138 (fun _ h9 => h9) rfl (by decide +kernel) (Nat.le_of_ble_eq_true rfl) dX5_digits_53 rfl (fun H locs hP hD hS => ?_)
          refine lv_goto (tgt := 7) hx hb dX5_digits_56 (by decide) ?_
          exact ih7 _ _  _ _ _ hf hP hD hS (lv_sub hl [1, 2, 0, 3] rfl)
  exact L7 k _ _ _ _ _ hf hP hD hS (lv_sub hl [2, 3, 1, 0] rfl)

/-! ===== X5_isFormed ===== -/
def p_X5_isFormed (k : Nat) (M : MD) : Option (Int32 × MD) :=
  bind2 (p_X5_digits k M 4) fun v1 M2 => if v1 < 0 then (if v1 < 0 then (some (0, (mkMD (MD.st M2) (MD.past M2) (MD.aside M2) (MD.text M2) (MD.pasts M2) (MD.length M2) (MD.spot M2) v1 1 (MD.from_ M2)))) else (if (MD.spot M2) = (MD.length M2) then (some (1, (mkMD (MD.st M2) (MD.past M2) (MD.aside M2) (MD.text M2) (MD.pasts M2) (MD.length M2) (MD.spot M2) v1 1 (MD.from_ M2)))) else ((p_X5_isAt k (mkMD (MD.st M2) (MD.past M2) (MD.aside M2) (MD.text M2) (MD.pasts M2) (MD.length M2) (MD.spot M2) v1 1 (MD.from_ M2)) 44 44).bind fun v6 => if v6 = 0 then (some (0, (mkMD (MD.st M2) (MD.past M2) (MD.aside M2) (MD.text M2) (MD.pasts M2) (MD.length M2) (MD.spot M2) v1 1 (MD.from_ M2)))) else (some (1, (mkMD (MD.st M2) (MD.past M2) (MD.aside M2) (MD.text M2) (MD.pasts M2) (MD.length M2) (MD.spot M2) v1 1 (MD.from_ M2))))))) else ((p_X5_isAt k (mkMD (MD.st M2) (MD.past M2) (MD.aside M2) (MD.text M2) (MD.pasts M2) (MD.length M2) (MD.spot M2) v1 1 (MD.from_ M2)) 120 120).bind fun v8 => if v8 = 0 then (if v1 < 0 then (some (0, (mkMD (MD.st M2) (MD.past M2) (MD.aside M2) (MD.text M2) (MD.pasts M2) (MD.length M2) (MD.spot M2) v1 1 (MD.from_ M2)))) else (if (MD.spot M2) = (MD.length M2) then (some (1, (mkMD (MD.st M2) (MD.past M2) (MD.aside M2) (MD.text M2) (MD.pasts M2) (MD.length M2) (MD.spot M2) v1 1 (MD.from_ M2)))) else ((p_X5_isAt k (mkMD (MD.st M2) (MD.past M2) (MD.aside M2) (MD.text M2) (MD.pasts M2) (MD.length M2) (MD.spot M2) v1 1 (MD.from_ M2)) 44 44).bind fun v12 => if v12 = 0 then (some (0, (mkMD (MD.st M2) (MD.past M2) (MD.aside M2) (MD.text M2) (MD.pasts M2) (MD.length M2) (MD.spot M2) v1 1 (MD.from_ M2)))) else (some (1, (mkMD (MD.st M2) (MD.past M2) (MD.aside M2) (MD.text M2) (MD.pasts M2) (MD.length M2) (MD.spot M2) v1 1 (MD.from_ M2))))))) else (bind2 (p_X5_digits k (mkMD (MD.st M2) (MD.past M2) (MD.aside M2) (MD.text M2) (MD.pasts M2) (MD.length M2) ((MD.spot M2) + 1) v1 1 (MD.from_ M2)) 2) fun v14 M15 => if (MD.itsThickness M15) < 0 then (some (0, (mkMD (MD.st M15) (MD.past M15) (MD.aside M15) (MD.text M15) (MD.pasts M15) (MD.length M15) (MD.spot M15) (MD.itsThickness M15) v14 (MD.from_ M15)))) else (if v14 < 0 then (some (0, (mkMD (MD.st M15) (MD.past M15) (MD.aside M15) (MD.text M15) (MD.pasts M15) (MD.length M15) (MD.spot M15) (MD.itsThickness M15) v14 (MD.from_ M15)))) else (if (MD.spot M15) = (MD.length M15) then (some (1, (mkMD (MD.st M15) (MD.past M15) (MD.aside M15) (MD.text M15) (MD.pasts M15) (MD.length M15) (MD.spot M15) (MD.itsThickness M15) v14 (MD.from_ M15)))) else ((p_X5_isAt k (mkMD (MD.st M15) (MD.past M15) (MD.aside M15) (MD.text M15) (MD.pasts M15) (MD.length M15) (MD.spot M15) (MD.itsThickness M15) v14 (MD.from_ M15)) 44 44).bind fun v19 => if v19 = 0 then (some (0, (mkMD (MD.st M15) (MD.past M15) (MD.aside M15) (MD.text M15) (MD.pasts M15) (MD.length M15) (MD.spot M15) (MD.itsThickness M15) v14 (MD.from_ M15)))) else (some (1, (mkMD (MD.st M15) (MD.past M15) (MD.aside M15) (MD.text M15) (MD.pasts M15) (MD.length M15) (MD.spot M15) (MD.itsThickness M15) v14 (MD.from_ M15)))))))))

set_option maxHeartbeats 4000000 in
set_option maxRecDepth 100000 in
theorem c_X5_isFormed {l : Launch} {D : va_G} {ks : K3} (k : Nat) (g : AM) (M : MD) (r : Int32) (rM : MD) (hf : p_X5_isFormed k M = some (r, rM)) : MetI l yX5_isFormed wsX5_isFormed { frames := 3, cells := 0, slots := 0, locals := 67 } D ks [.ref g.1] (wM ks g M) (wM ks g rM) r (narrow .boolean (.int r) = .int r) := by
  refine MetI.of (cc := cX5_isFormed) (maxL := 1) (ret := (some .boolean)) (by decide +kernel) rfl (Nat.le_of_ble_eq_true rfl) ?_ ⟨_, rfl⟩
  intro p e s m below meth c Q A hx hb hml hts hown hP hX hD hA hret ls hl
  have hK := hX.1
  replace hl : lv_has ls 1 [(0, .ref g.1)] := hl
  have hS : va_S A s.heap s.heap [] := va_S.rf
  have hiX5 : ∀ w ∈ wsX50, w ∈ wsX5_isFormed := by decide +kernel
  have hk147 := hts (.fieldLink RX5 147 "SoapFilmModel" "itsThickness" "I") (by decide +kernel)
  have hk150 := hts (.fieldLink RX5 150 "SoapFilmModel" "itsRows" "I") (by decide +kernel)
  have hk138 := hts (.fieldLink RX5 138 "SoapFilmModel" "spot" "I") (by decide +kernel)
  have hk117 := hts (.fieldLink RX5 117 "SoapFilmModel" "length" "I") (by decide +kernel)
  unfold p_X5_isFormed at hf
  refine lv_aload_n hx hb dX5_isFormed_0 rfl (lv_at hl 0 rfl) ?_
  refine lv_aload_n hx hb dX5_isFormed_1 rfl (lv_at hl 0 rfl) ?_
  refine lv_iconst (v := 4) hx hb dX5_isFormed_2 (by decide) ?_
  obtain ⟨v1, M2, hv1, hf⟩ := bnd2 hf
  refine xcallI (As := [.int 4]) (rest := [.ref g.1]) (wc := (wM ks g M)) (w1 := (wM ks g M2)) (wr := ([] : va_W)) (wn := (wM ks g M2)) ⟨hx, hb, hml, hown, hts⟩ (c_X5_digits k g M 4 v1 M2 hv1) (cwV 1 hts gX5_isFormed_X5_digits rfl rfl rfl (by decide +kernel) ⟨Nat.le_of_ble_eq_true rfl, Nat.le_of_ble_eq_true rfl⟩) hX hP hD hS hA [0, 1, 2, 3, 4] [] [0, 1, 2, 3, 4] rfl rfl rfl ⟨by decide, by decide, by decide⟩ (by decide) (ci := 4) (q0 := 0) rfl rfl rfl hl.1 rfl (Nat.le_of_ble_eq_true rfl) dX5_isFormed_3 ⟨Nat.zero_le _, Nat.zero_le _⟩ (fun zv1 H locs hP hD hS => ?_)
  refine xputI (wn := (wM ks g (mkMD (MD.st M2) (MD.past M2) (MD.aside M2) (MD.text M2) (MD.pasts M2) (MD.length M2) (MD.spot M2) v1 (MD.itsRows M2) (MD.from_ M2)))) (C := RX5) (T := TX5) (N := 10) hx hb hts hiX5 tyX5 tyX5_ok nmX5 hown hK hP hD hS 0 rfl rfl 7 (by decide) hk147 (fun _ h9 => h9) rfl (by decide +kernel) (Nat.le_of_ble_eq_true rfl) dX5_isFormed_6 rfl (fun H locs hP hD hS => ?_)
  refine lv_aload_n hx hb dX5_isFormed_9 rfl (lv_at hl 0 rfl) ?_
  refine lv_iconst (v := 1) hx hb dX5_isFormed_10 (by decide) ?_
  refine xputI (wn := (wM ks g (mkMD (MD.st M2) (MD.past M2) (MD.aside M2) (MD.text M2) (MD.pasts M2) (MD.length M2) (MD.spot M2) v1 1 (MD.from_ M2)))) (C := RX5) (T := TX5) (N := 10) hx hb hts hiX5 tyX5 tyX5_ok nmX5 hown hK hP hD hS 0 rfl rfl 8 (by decide) hk150 (fun _ h9 => h9) rfl (by decide +kernel) (Nat.le_of_ble_eq_true rfl) dX5_isFormed_11 rfl (fun H locs hP hD hS => ?_)
  refine lv_aload_n hx hb dX5_isFormed_14 rfl (lv_at hl 0 rfl) ?_
  refine va_get (v := .int v1) (C := RX5) (T := TX5) (N := 10) hx hb hts hiX5 hown hK hP 0 rfl rfl 7 (by decide) hk147 (fun _ h9 => h9) rfl dX5_isFormed_15 ?_
  refine lv_if_lt (tgt := 51) hx hb dX5_isFormed_18 (by decide) (fun c3 => ?_) (fun c3 => ?_)
  · replace hf := ifT hf c3
    refine lv_aload_n hx hb dX5_isFormed_51 rfl (lv_at hl 0 rfl) ?_
    refine va_get (v := .int v1) (C := RX5) (T := TX5) (N := 10) hx hb hts hiX5 hown hK hP 0 rfl rfl 7 (by decide) hk147 (fun _ h9 => h9) rfl dX5_isFormed_52 ?_
    refine lv_if_lt (tgt := 91) hx hb dX5_isFormed_55 (by decide) (fun c4 => ?_) (fun c4 => ?_)
    · replace hf := ifT hf c4
      refine lv_iconst (v := 0) hx hb dX5_isFormed_91 (by decide) ?_
      obtain ⟨rfl, rfl⟩ := inj2 hf
      exact hret rfl _ _ _ _ dX5_isFormed_92 (fun ty h => by cases h; rfl) hP hD hS
    · replace hf := ifF hf c4
      refine lv_aload_n hx hb dX5_isFormed_58 rfl (lv_at hl 0 rfl) ?_
      refine va_get (v := .int 1) (C := RX5) (T := TX5) (N := 10) hx hb hts hiX5 hown hK hP 0 rfl rfl 8 (by decide) hk150 (fun _ h9 => h9) rfl dX5_isFormed_59 ?_
      refine lv_if_lt (tgt := 91) hx hb dX5_isFormed_62 (by decide) (fun c => absurd c (by decide)) (fun _ => ?_)
      refine lv_aload_n hx hb dX5_isFormed_65 rfl (lv_at hl 0 rfl) ?_
      refine va_get (v := .int (MD.spot M2)) (C := RX5) (T := TX5) (N := 10) hx hb hts hiX5 hown hK hP 0 rfl rfl 6 (by decide) hk138 (fun _ h9 => h9) rfl dX5_isFormed_66 ?_
      refine lv_aload_n hx hb dX5_isFormed_69 rfl (lv_at hl 0 rfl) ?_
      refine va_get (v := .int (MD.length M2)) (C := RX5) (T := TX5) (N := 10) hx hb hts hiX5 hown hK hP 0 rfl rfl 5 (by decide) hk117 (fun _ h9 => h9) rfl dX5_isFormed_70 ?_
      refine lv_icmp_eq (tgt := 87) hx hb dX5_isFormed_73 (by decide) (fun c5 => ?_) (fun c5 => ?_)
      · replace hf := ifT hf c5
        refine lv_iconst (v := 1) hx hb dX5_isFormed_87 (by decide) ?_
        refine lv_goto (tgt := 92) hx hb dX5_isFormed_88 (by decide) ?_
        obtain ⟨rfl, rfl⟩ := inj2 hf
        exact hret rfl _ _ _ _ dX5_isFormed_92 (fun ty h => by cases h; rfl) hP hD hS
      · replace hf := ifF hf c5
        refine lv_aload_n hx hb dX5_isFormed_76 rfl (lv_at hl 0 rfl) ?_
        refine lv_bipush (v := 44) hx hb dX5_isFormed_77 (by decide) ?_
        refine lv_bipush (v := 44) hx hb dX5_isFormed_79 (by decide) ?_
        obtain ⟨v6, hv6, hf⟩ := bnd hf
        refine xcallRV (As := [.int 44, .int 44]) (rest := []) (wc := (wM ks g (mkMD (MD.st M2) (MD.past M2) (MD.aside M2) (MD.text M2) (MD.pasts M2) (MD.length M2) (MD.spot M2) v1 1 (MD.from_ M2)))) ⟨hx, hb, hml, hown, hts⟩ (c_X5_isAt k g (mkMD (MD.st M2) (MD.past M2) (MD.aside M2) (MD.text M2) (MD.pasts M2) (MD.length M2) (MD.spot M2) v1 1 (MD.from_ M2)) 44 44 v6 hv6) (cwV 2 hts gX5_isFormed_X5_isAt rfl rfl rfl (by decide +kernel) ⟨Nat.le_of_ble_eq_true rfl, Nat.le_of_ble_eq_true rfl⟩) hX hP (ci := 4) (q0 := 0) rfl rfl rfl hl.1 rfl (Nat.le_of_ble_eq_true rfl) dX5_isFormed_81 ⟨Nat.zero_le _, Nat.zero_le _⟩ (fun zv6 => ?_)
        refine lv_if_eq (tgt := 91) hx hb dX5_isFormed_84 (by decide) (fun c7 => ?_) (fun c7 => ?_)
        · replace hf := ifT hf c7
          refine lv_iconst (v := 0) hx hb dX5_isFormed_91 (by decide) ?_
          obtain ⟨rfl, rfl⟩ := inj2 hf
          exact hret rfl _ _ _ _ dX5_isFormed_92 (fun ty h => by cases h; rfl) hP hD hS
        · replace hf := ifF hf c7
          refine lv_iconst (v := 1) hx hb dX5_isFormed_87 (by decide) ?_
          refine lv_goto (tgt := 92) hx hb dX5_isFormed_88 (by decide) ?_
          obtain ⟨rfl, rfl⟩ := inj2 hf
          exact hret rfl _ _ _ _ dX5_isFormed_92 (fun ty h => by cases h; rfl) hP hD hS
  · replace hf := ifF hf c3
    refine lv_aload_n hx hb dX5_isFormed_21 rfl (lv_at hl 0 rfl) ?_
    refine lv_bipush (v := 120) hx hb dX5_isFormed_22 (by decide) ?_
    refine lv_bipush (v := 120) hx hb dX5_isFormed_24 (by decide) ?_
    obtain ⟨v8, hv8, hf⟩ := bnd hf
    refine xcallRV (As := [.int 120, .int 120]) (rest := []) (wc := (wM ks g (mkMD (MD.st M2) (MD.past M2) (MD.aside M2) (MD.text M2) (MD.pasts M2) (MD.length M2) (MD.spot M2) v1 1 (MD.from_ M2)))) ⟨hx, hb, hml, hown, hts⟩ (c_X5_isAt k g (mkMD (MD.st M2) (MD.past M2) (MD.aside M2) (MD.text M2) (MD.pasts M2) (MD.length M2) (MD.spot M2) v1 1 (MD.from_ M2)) 120 120 v8 hv8) (cwV 2 hts gX5_isFormed_X5_isAt rfl rfl rfl (by decide +kernel) ⟨Nat.le_of_ble_eq_true rfl, Nat.le_of_ble_eq_true rfl⟩) hX hP (ci := 4) (q0 := 0) rfl rfl rfl hl.1 rfl (Nat.le_of_ble_eq_true rfl) dX5_isFormed_26 ⟨Nat.zero_le _, Nat.zero_le _⟩ (fun zv8 => ?_)
    refine lv_if_eq (tgt := 51) hx hb dX5_isFormed_29 (by decide) (fun c9 => ?_) (fun c9 => ?_)
    · replace hf := ifT hf c9
      refine lv_aload_n hx hb dX5_isFormed_51 rfl (lv_at hl 0 rfl) ?_
      refine va_get (v := .int v1) (C := RX5) (T := TX5) (N := 10) hx hb hts hiX5 hown hK hP 0 rfl rfl 7 (by decide) hk147 (fun _ h9 => h9) rfl dX5_isFormed_52 ?_
      refine lv_if_lt (tgt := 91) hx hb dX5_isFormed_55 (by decide) (fun c10 => ?_) (fun c10 => ?_)
      · replace hf := ifT hf c10
        refine lv_iconst (v := 0) hx hb dX5_isFormed_91 (by decide) ?_
        obtain ⟨rfl, rfl⟩ := inj2 hf
        exact hret rfl _ _ _ _ dX5_isFormed_92 (fun ty h => by cases h; rfl) hP hD hS
      · replace hf := ifF hf c10
        refine lv_aload_n hx hb dX5_isFormed_58 rfl (lv_at hl 0 rfl) ?_
        refine va_get (v := .int 1) (C := RX5) (T := TX5) (N := 10) hx hb hts hiX5 hown hK hP 0 rfl rfl 8 (by decide) hk150 (fun _ h9 => h9) rfl dX5_isFormed_59 ?_
        refine lv_if_lt (tgt := 91) hx hb dX5_isFormed_62 (by decide) (fun c => absurd c (by decide)) (fun _ => ?_)
        refine lv_aload_n hx hb dX5_isFormed_65 rfl (lv_at hl 0 rfl) ?_
        refine va_get (v := .int (MD.spot M2)) (C := RX5) (T := TX5) (N := 10) hx hb hts hiX5 hown hK hP 0 rfl rfl 6 (by decide) hk138 (fun _ h9 => h9) rfl dX5_isFormed_66 ?_
        refine lv_aload_n hx hb dX5_isFormed_69 rfl (lv_at hl 0 rfl) ?_
        refine va_get (v := .int (MD.length M2)) (C := RX5) (T := TX5) (N := 10) hx hb hts hiX5 hown hK hP 0 rfl rfl 5 (by decide) hk117 (fun _ h9 => h9) rfl dX5_isFormed_70 ?_
        refine lv_icmp_eq (tgt := 87) hx hb dX5_isFormed_73 (by decide) (fun c11 => ?_) (fun c11 => ?_)
        · replace hf := ifT hf c11
          refine lv_iconst (v := 1) hx hb dX5_isFormed_87 (by decide) ?_
          refine lv_goto (tgt := 92) hx hb dX5_isFormed_88 (by decide) ?_
          obtain ⟨rfl, rfl⟩ := inj2 hf
          exact hret rfl _ _ _ _ dX5_isFormed_92 (fun ty h => by cases h; rfl) hP hD hS
        · replace hf := ifF hf c11
          refine lv_aload_n hx hb dX5_isFormed_76 rfl (lv_at hl 0 rfl) ?_
          refine lv_bipush (v := 44) hx hb dX5_isFormed_77 (by decide) ?_
          refine lv_bipush (v := 44) hx hb dX5_isFormed_79 (by decide) ?_
          obtain ⟨v12, hv12, hf⟩ := bnd hf
          refine xcallRV (As := [.int 44, .int 44]) (rest := []) (wc := (wM ks g (mkMD (MD.st M2) (MD.past M2) (MD.aside M2) (MD.text M2) (MD.pasts M2) (MD.length M2) (MD.spot M2) v1 1 (MD.from_ M2)))) ⟨hx, hb, hml, hown, hts⟩ (c_X5_isAt k g (mkMD (MD.st M2) (MD.past M2) (MD.aside M2) (MD.text M2) (MD.pasts M2) (MD.length M2) (MD.spot M2) v1 1 (MD.from_ M2)) 44 44 v12 hv12) (cwV 2 hts gX5_isFormed_X5_isAt rfl rfl rfl (by decide +kernel) ⟨Nat.le_of_ble_eq_true rfl, Nat.le_of_ble_eq_true rfl⟩) hX hP (ci := 4) (q0 := 0) rfl rfl rfl hl.1 rfl (Nat.le_of_ble_eq_true rfl) dX5_isFormed_81 ⟨Nat.zero_le _, Nat.zero_le _⟩ (fun zv12 => ?_)
          refine lv_if_eq (tgt := 91) hx hb dX5_isFormed_84 (by decide) (fun c13 => ?_) (fun c13 => ?_)
          · replace hf := ifT hf c13
            refine lv_iconst (v := 0) hx hb dX5_isFormed_91 (by decide) ?_
            obtain ⟨rfl, rfl⟩ := inj2 hf
            exact hret rfl _ _ _ _ dX5_isFormed_92 (fun ty h => by cases h; rfl) hP hD hS
          · replace hf := ifF hf c13
            refine lv_iconst (v := 1) hx hb dX5_isFormed_87 (by decide) ?_
            refine lv_goto (tgt := 92) hx hb dX5_isFormed_88 (by decide) ?_
            obtain ⟨rfl, rfl⟩ := inj2 hf
            exact hret rfl _ _ _ _ dX5_isFormed_92 (fun ty h => by cases h; rfl) hP hD hS
    · replace hf := ifF hf c9
      refine lv_aload_n hx hb dX5_isFormed_32 rfl (lv_at hl 0 rfl) ?_
      refine lv_dup hx hb dX5_isFormed_33 rfl ?_
      refine va_get (v := .int (MD.spot M2)) (C := RX5) (T := TX5) (N := 10) hx hb hts hiX5 hown hK hP 0 rfl rfl 6 (by decide) hk138 (fun _ h9 => h9) rfl dX5_isFormed_34 ?_
      refine lv_iconst (v := 1) hx hb dX5_isFormed_37 (by decide) ?_
      refine lv_iadd hx hb dX5_isFormed_38 ?_
      refine xputI (wn := (wM ks g (mkMD (MD.st M2) (MD.past M2) (MD.aside M2) (MD.text M2) (MD.pasts M2) (MD.length M2) ((MD.spot M2) + 1) v1 1 (MD.from_ M2)))) (C := RX5) (T := TX5) (N := 10) hx hb hts hiX5 tyX5 tyX5_ok nmX5 hown hK hP hD hS 0 rfl rfl 6 (by decide) hk138 (fun _ h9 => h9) rfl (by decide +kernel) (Nat.le_of_ble_eq_true rfl) dX5_isFormed_39 rfl (fun H locs hP hD hS => ?_)
      refine lv_aload_n hx hb dX5_isFormed_42 rfl (lv_at hl 0 rfl) ?_
      refine lv_aload_n hx hb dX5_isFormed_43 rfl (lv_at hl 0 rfl) ?_
      refine lv_iconst (v := 2) hx hb dX5_isFormed_44 (by decide) ?_
      obtain ⟨v14, M15, hv14, hf⟩ := bnd2 hf
      refine xcallI (As := [.int 2]) (rest := [.ref g.1]) (wc := (wM ks g (mkMD (MD.st M2) (MD.past M2) (MD.aside M2) (MD.text M2) (MD.pasts M2) (MD.length M2) ((MD.spot M2) + 1) v1 1 (MD.from_ M2)))) (w1 := (wM ks g M15)) (wr := ([] : va_W)) (wn := (wM ks g M15)) ⟨hx, hb, hml, hown, hts⟩ (c_X5_digits k g (mkMD (MD.st M2) (MD.past M2) (MD.aside M2) (MD.text M2) (MD.pasts M2) (MD.length M2) ((MD.spot M2) + 1) v1 1 (MD.from_ M2)) 2 v14 M15 hv14) (cwV 1 hts gX5_isFormed_X5_digits rfl rfl rfl (by decide +kernel) ⟨Nat.le_of_ble_eq_true rfl, Nat.le_of_ble_eq_true rfl⟩) hX hP hD hS hA [0, 1, 2, 3, 4] [] [0, 1, 2, 3, 4] rfl rfl rfl ⟨by decide, by decide, by decide⟩ (by decide) (ci := 4) (q0 := 0) rfl rfl rfl hl.1 rfl (Nat.le_of_ble_eq_true rfl) dX5_isFormed_45 ⟨Nat.zero_le _, Nat.zero_le _⟩ (fun zv14 H locs hP hD hS => ?_)
      refine xputI (wn := (wM ks g (mkMD (MD.st M15) (MD.past M15) (MD.aside M15) (MD.text M15) (MD.pasts M15) (MD.length M15) (MD.spot M15) (MD.itsThickness M15) v14 (MD.from_ M15)))) (C := RX5) (T := TX5) (N := 10) hx hb hts hiX5 tyX5 tyX5_ok nmX5 hown hK hP hD hS 0 rfl rfl 8 (by decide) hk150 (fun _ h9 => h9) rfl (by decide +kernel) (Nat.le_of_ble_eq_true rfl) dX5_isFormed_48 rfl (fun H locs hP hD hS => ?_)
      refine lv_aload_n hx hb dX5_isFormed_51 rfl (lv_at hl 0 rfl) ?_
      refine va_get (v := .int (MD.itsThickness M15)) (C := RX5) (T := TX5) (N := 10) hx hb hts hiX5 hown hK hP 0 rfl rfl 7 (by decide) hk147 (fun _ h9 => h9) rfl dX5_isFormed_52 ?_
      refine lv_if_lt (tgt := 91) hx hb dX5_isFormed_55 (by decide) (fun c16 => ?_) (fun c16 => ?_)
      · replace hf := ifT hf c16
        refine lv_iconst (v := 0) hx hb dX5_isFormed_91 (by decide) ?_
        obtain ⟨rfl, rfl⟩ := inj2 hf
        exact hret rfl _ _ _ _ dX5_isFormed_92 (fun ty h => by cases h; rfl) hP hD hS
      · replace hf := ifF hf c16
        refine lv_aload_n hx hb dX5_isFormed_58 rfl (lv_at hl 0 rfl) ?_
        refine va_get (v := .int v14) (C := RX5) (T := TX5) (N := 10) hx hb hts hiX5 hown hK hP 0 rfl rfl 8 (by decide) hk150 (fun _ h9 => h9) rfl dX5_isFormed_59 ?_
        refine lv_if_lt (tgt := 91) hx hb dX5_isFormed_62 (by decide) (fun c17 => ?_) (fun c17 => ?_)
        · replace hf := ifT hf c17
          refine lv_iconst (v := 0) hx hb dX5_isFormed_91 (by decide) ?_
          obtain ⟨rfl, rfl⟩ := inj2 hf
          exact hret rfl _ _ _ _ dX5_isFormed_92 (fun ty h => by cases h; rfl) hP hD hS
        · replace hf := ifF hf c17
          refine lv_aload_n hx hb dX5_isFormed_65 rfl (lv_at hl 0 rfl) ?_
          refine va_get (v := .int (MD.spot M15)) (C := RX5) (T := TX5) (N := 10) hx hb hts hiX5 hown hK hP 0 rfl rfl 6 (by decide) hk138 (fun _ h9 => h9) rfl dX5_isFormed_66 ?_
          refine lv_aload_n hx hb dX5_isFormed_69 rfl (lv_at hl 0 rfl) ?_
          refine va_get (v := .int (MD.length M15)) (C := RX5) (T := TX5) (N := 10) hx hb hts hiX5 hown hK hP 0 rfl rfl 5 (by decide) hk117 (fun _ h9 => h9) rfl dX5_isFormed_70 ?_
          refine lv_icmp_eq (tgt := 87) hx hb dX5_isFormed_73 (by decide) (fun c18 => ?_) (fun c18 => ?_)
          · replace hf := ifT hf c18
            refine lv_iconst (v := 1) hx hb dX5_isFormed_87 (by decide) ?_
            refine lv_goto (tgt := 92) hx hb dX5_isFormed_88 (by decide) ?_
            obtain ⟨rfl, rfl⟩ := inj2 hf
            exact hret rfl _ _ _ _ dX5_isFormed_92 (fun ty h => by cases h; rfl) hP hD hS
          · replace hf := ifF hf c18
            refine lv_aload_n hx hb dX5_isFormed_76 rfl (lv_at hl 0 rfl) ?_
            refine lv_bipush (v := 44) hx hb dX5_isFormed_77 (by decide) ?_
            refine lv_bipush (v := 44) hx hb dX5_isFormed_79 (by decide) ?_
            obtain ⟨v19, hv19, hf⟩ := bnd hf
            refine xcallRV (As := [.int 44, .int 44]) (rest := []) (wc := (wM ks g (mkMD (MD.st M15) (MD.past M15) (MD.aside M15) (MD.text M15) (MD.pasts M15) (MD.length M15) (MD.spot M15) (MD.itsThickness M15) v14 (MD.from_ M15)))) ⟨hx, hb, hml, hown, hts⟩ (c_X5_isAt k g (mkMD (MD.st M15) (MD.past M15) (MD.aside M15) (MD.text M15) (MD.pasts M15) (MD.length M15) (MD.spot M15) (MD.itsThickness M15) v14 (MD.from_ M15)) 44 44 v19 hv19) (cwV 2 hts gX5_isFormed_X5_isAt rfl rfl rfl (by decide +kernel) ⟨Nat.le_of_ble_eq_true rfl, Nat.le_of_ble_eq_true rfl⟩) hX hP (ci := 4) (q0 := 0) rfl rfl rfl hl.1 rfl (Nat.le_of_ble_eq_true rfl) dX5_isFormed_81 ⟨Nat.zero_le _, Nat.zero_le _⟩ (fun zv19 => ?_)
            refine lv_if_eq (tgt := 91) hx hb dX5_isFormed_84 (by decide) (fun c20 => ?_) (fun c20 => ?_)
            · replace hf := ifT hf c20
              refine lv_iconst (v := 0) hx hb dX5_isFormed_91 (by decide) ?_
              obtain ⟨rfl, rfl⟩ := inj2 hf
              exact hret rfl _ _ _ _ dX5_isFormed_92 (fun ty h => by cases h; rfl) hP hD hS
            · replace hf := ifF hf c20
              refine lv_iconst (v := 1) hx hb dX5_isFormed_87 (by decide) ?_
              refine lv_goto (tgt := 92) hx hb dX5_isFormed_88 (by decide) ?_
              obtain ⟨rfl, rfl⟩ := inj2 hf
              exact hret rfl _ _ _ _ dX5_isFormed_92 (fun ty h => by cases h; rfl) hP hD hS

/-! ===== X5_reasonOfText ===== -/
def p_X5_reasonOfText_L14 (k : Nat) : Nat → (MD) → (Int32) → (Int32) → Option (Int32 × MD)
  | 0, _, _, _ => none
  | n + 1, M, x1, x2 =>
    if x2 = 0 then (some (0, M)) else (bind2 (p_X5_isFormed k (mkMD (MD.st M) (MD.past M) (MD.aside M) (MD.text M) (MD.pasts M) (MD.length M) (MD.spot M) (MD.itsThickness M) (MD.itsRows M) (MD.spot M))) fun v2 M3 => if v2 = 0 then (some (1, M3)) else ((p_X5_in k (MD.itsThickness M3) 0 5000).bind fun v5 => if v5 = 0 then (some (2, M3)) else ((p_X5_in k (MD.itsRows M3) 1 24).bind fun v7 => if v7 = 0 then (some (2, M3)) else (if (x1 + (MD.itsRows M3)) ≤ 24 then (if (MD.length M3) ≤ (MD.spot M3) then (p_X5_reasonOfText_L14 k n (mkMD (MD.st M3) (MD.past M3) (MD.aside M3) (MD.text M3) (MD.pasts M3) (MD.length M3) ((MD.spot M3) + 1) (MD.itsThickness M3) (MD.itsRows M3) (MD.from_ M3)) (x1 + (MD.itsRows M3)) 0) else (p_X5_reasonOfText_L14 k n (mkMD (MD.st M3) (MD.past M3) (MD.aside M3) (MD.text M3) (MD.pasts M3) (MD.length M3) ((MD.spot M3) + 1) (MD.itsThickness M3) (MD.itsRows M3) (MD.from_ M3)) (x1 + (MD.itsRows M3)) 1)) else (some (3, M3))))))

def p_X5_reasonOfText (k : Nat) (M : MD) : Option (Int32 × MD) :=
  p_X5_reasonOfText_L14 k k (mkMD (MD.st M) (MD.past M) (MD.aside M) (MD.text M) (MD.pasts M) (MD.length M) 0 (MD.itsThickness M) (MD.itsRows M) 0) 0 1

set_option maxHeartbeats 4000000 in
set_option maxRecDepth 100000 in
theorem c_X5_reasonOfText {l : Launch} {D : va_G} {ks : K3} (k : Nat) (g : AM) (M : MD) (r : Int32) (rM : MD) (hf : p_X5_reasonOfText k M = some (r, rM)) : MetI l yX5_reasonOfText wsX5_reasonOfText { frames := 4, cells := 0, slots := 0, locals := 87 } D ks [.ref g.1] (wM ks g M) (wM ks g rM) r True := by
  refine MetI.of (cc := cX5_reasonOfText) (maxL := 3) (ret := (some .int)) (by decide +kernel) rfl (Nat.le_of_ble_eq_true rfl) ?_ ⟨_, rfl⟩
  intro p e s m below meth c Q A hx hb hml hts hown hP hX hD hA hret ls hl
  have hK := hX.1
  replace hl : lv_has ls 3 [(0, .ref g.1)] := hl
  have hS : va_S A s.heap s.heap [] := va_S.rf
  have hiX5 : ∀ w ∈ wsX50, w ∈ wsX5_reasonOfText := by decide +kernel
  have hk138 := hts (.fieldLink RX5 138 "SoapFilmModel" "spot" "I") (by decide +kernel)
  have hk153 := hts (.fieldLink RX5 153 "SoapFilmModel" "from" "I") (by decide +kernel)
  have hk147 := hts (.fieldLink RX5 147 "SoapFilmModel" "itsThickness" "I") (by decide +kernel)
  have hk150 := hts (.fieldLink RX5 150 "SoapFilmModel" "itsRows" "I") (by decide +kernel)
  have hk117 := hts (.fieldLink RX5 117 "SoapFilmModel" "length" "I") (by decide +kernel)
  unfold p_X5_reasonOfText at hf
  refine lv_aload_n hx hb dX5_reasonOfText_0 rfl (lv_at hl 0 rfl) ?_
  refine lv_iconst (v := 0) hx hb dX5_reasonOfText_1 (by decide) ?_
  refine xputI (wn := (wM ks g (mkMD (MD.st M) (MD.past M) (MD.aside M) (MD.text M) (MD.pasts M) (MD.length M) 0 (MD.itsThickness M) (MD.itsRows M) (MD.from_ M)))) (C := RX5) (T := TX5) (N := 10) hx hb hts hiX5 tyX5 tyX5_ok nmX5 hown hK hP hD hS 0 rfl rfl 6 (by decide) hk138 (fun _ h9 => h9) rfl (by decide +kernel) (Nat.le_of_ble_eq_true rfl) dX5_reasonOfText_2 rfl (fun H locs hP hD hS => ?_)
  refine lv_aload_n hx hb dX5_reasonOfText_5 rfl (lv_at hl 0 rfl) ?_
  refine lv_iconst (v := 0) hx hb dX5_reasonOfText_6 (by decide) ?_
  refine xputI (wn := (wM ks g (mkMD (MD.st M) (MD.past M) (MD.aside M) (MD.text M) (MD.pasts M) (MD.length M) 0 (MD.itsThickness M) (MD.itsRows M) 0))) (C := RX5) (T := TX5) (N := 10) hx hb hts hiX5 tyX5 tyX5_ok nmX5 hown hK hP hD hS 0 rfl rfl 9 (by decide) hk153 (fun _ h9 => h9) rfl (by decide +kernel) (Nat.le_of_ble_eq_true rfl) dX5_reasonOfText_7 rfl (fun H locs hP hD hS => ?_)
  refine lv_iconst (v := 0) hx hb dX5_reasonOfText_10 (by decide) ?_
  refine lv_istore_n (lv' := [(1, .int 0), (0, .ref g.1)]) hx hb dX5_reasonOfText_11 rfl hl (by decide) rfl (fun ls hl => ?_)
  refine lv_iconst (v := 1) hx hb dX5_reasonOfText_12 (by decide) ?_
  refine lv_istore_n (lv' := [(2, .int 1), (1, .int 0), (0, .ref g.1)]) hx hb dX5_reasonOfText_13 rfl hl (by decide) rfl (fun ls hl => ?_)
  have L14 : ∀ (n : Nat) (Mq14 : MD) (x1q14 : Int32) (x2q14 : Int32) (H : Heap) (locs : List Loc) (ls : Array Slot), p_X5_reasonOfText_L14 k n Mq14 x1q14 x2q14 = some (r, rM) → va_P D vwCl (wM ks g Mq14) H → va_D A (wM ks g Mq14) → va_S A s.heap H locs → lv_has ls 3 [(0, .ref g.1), (1, .int x1q14), (2, .int x2q14)] → W p l e { frames := 4, cells := 0, slots := 0, locals := 87 } s m ([.ref g.1] : List Value).toArray below meth c H locs 0 0 Q (F0 m 14 ls []) := by
    intro n
    induction n with
    | zero => intro Mq14 x1q14 x2q14 H locs ls hf; cases hf
    | succ n ih14 =>
      intro Mq14 x1q14 x2q14 H locs ls hf hP hD hS hl
      rw [p_X5_reasonOfText_L14] at hf
      refine lv_iload_n hx hb dX5_reasonOfText_14 rfl (lv_at hl 2 rfl) ?_
      refine lv_if_eq (tgt := 109) hx hb dX5_reasonOfText_15 (by decide) (fun c1 => ?_) (fun c1 => ?_)
      · replace hf := ifT hf c1
        refine lv_iconst (v := 0) hx hb dX5_reasonOfText_109 (by decide) ?_
        obtain ⟨rfl, rfl⟩ := inj2 hf
        exact hret trivial _ _ _ _ dX5_reasonOfText_110 (fun ty h => by cases h; rfl) hP hD hS
      · replace hf := ifF hf c1
        refine lv_aload_n hx hb dX5_reasonOfText_18 rfl (lv_at hl 0 rfl) ?_
        refine lv_aload_n hx hb dX5_reasonOfText_19 rfl (lv_at hl 0 rfl) ?_
        refine va_get (v := .int (MD.spot Mq14)) (C := RX5) (T := TX5) (N := 10) hx hb hts hiX5 hown hK hP 0 rfl rfl 6 (by decide) hk138 (fun _ h9 => h9) rfl dX5_reasonOfText_20 ?_
        refine xputI (wn := (wM ks g (mkMD (MD.st Mq14) (MD.past Mq14) (MD.aside Mq14) (MD.text Mq14) (MD.pasts Mq14) (MD.length Mq14) (MD.spot Mq14) (MD.itsThickness Mq14) (MD.itsRows Mq14) (MD.spot Mq14)))) (C := RX5) (T := TX5) (N := 10) hx hb hts hiX5 tyX5 tyX5_ok nmX5 hown hK hP hD hS 0 rfl rfl 9 (by decide) hk153 (fun _ h9 => h9) rfl (by decide +kernel) (Nat.le_of_ble_eq_true rfl) dX5_reasonOfText_23 rfl (fun H locs hP hD hS => ?_)
        refine lv_aload_n hx hb dX5_reasonOfText_26 rfl (lv_at hl 0 rfl) ?_
        obtain ⟨v2, M3, hv2, hf⟩ := bnd2 hf
        refine xcallI (As := []) (rest := []) (wc := (wM ks g (mkMD (MD.st Mq14) (MD.past Mq14) (MD.aside Mq14) (MD.text Mq14) (MD.pasts Mq14) (MD.length Mq14) (MD.spot Mq14) (MD.itsThickness Mq14) (MD.itsRows Mq14) (MD.spot Mq14)))) (w1 := (wM ks g M3)) (wr := ([] : va_W)) (wn := (wM ks g M3)) ⟨hx, hb, hml, hown, hts⟩ (c_X5_isFormed k g (mkMD (MD.st Mq14) (MD.past Mq14) (MD.aside Mq14) (MD.text Mq14) (MD.pasts Mq14) (MD.length Mq14) (MD.spot Mq14) (MD.itsThickness Mq14) (MD.itsRows Mq14) (MD.spot Mq14)) v2 M3 hv2) (cwV 0 hts gX5_reasonOfText_X5_isFormed rfl rfl rfl (by decide +kernel) ⟨Nat.le_of_ble_eq_true rfl, Nat.le_of_ble_eq_true rfl⟩) hX hP hD hS hA [0, 1, 2, 3, 4] [] [0, 1, 2, 3, 4] rfl rfl rfl ⟨by decide, by decide, by decide⟩ (by decide) (ci := 4) (q0 := 0) rfl rfl rfl hl.1 rfl (Nat.le_of_ble_eq_true rfl) dX5_reasonOfText_27 ⟨Nat.zero_le _, Nat.zero_le _⟩ (fun zv2 H locs hP hD hS => ?_)
        refine lv_if_ne (tgt := 35) hx hb dX5_reasonOfText_30 (by decide) (fun c4 => ?_) (fun c4 => ?_)
        · replace hf := ifF hf c4
          refine lv_aload_n hx hb dX5_reasonOfText_35 rfl (lv_at hl 0 rfl) ?_
          refine va_get (v := .int (MD.itsThickness M3)) (C := RX5) (T := TX5) (N := 10) hx hb hts hiX5 hown hK hP 0 rfl rfl 7 (by decide) hk147 (fun _ h9 => h9) rfl dX5_reasonOfText_36 ?_
          refine lv_iconst (v := 0) hx hb dX5_reasonOfText_39 (by decide) ?_
          refine lv_sipush (v := 5000) hx hb dX5_reasonOfText_40 (by decide) ?_
          obtain ⟨v5, hv5, hf⟩ := bnd hf
          refine xcallRS (As := [.int (MD.itsThickness M3), .int 0, .int 5000]) (rest := []) (wc := []) ⟨hx, hb, hml, hown, hts⟩ (c_X5_in k (MD.itsThickness M3) 0 5000 v5 hv5) (va_cwS 3 hts gX5_reasonOfText_X5_in rfl rfl rfl (by decide +kernel) ⟨Nat.le_of_ble_eq_true rfl, Nat.le_of_ble_eq_true rfl⟩) hX (va_P0 _ _ _) rfl hl.1 rfl (Nat.le_of_ble_eq_true rfl) dX5_reasonOfText_43 ⟨Nat.zero_le _, Nat.zero_le _⟩ (fun zv5 => ?_)
          refine lv_if_eq (tgt := 62) hx hb dX5_reasonOfText_46 (by decide) (fun c6 => ?_) (fun c6 => ?_)
          · replace hf := ifT hf c6
            refine lv_iconst (v := 2) hx hb dX5_reasonOfText_62 (by decide) ?_
            obtain ⟨rfl, rfl⟩ := inj2 hf
            exact hret trivial _ _ _ _ dX5_reasonOfText_63 (fun ty h => by cases h; rfl) hP hD hS
          · replace hf := ifF hf c6
            refine lv_aload_n hx hb dX5_reasonOfText_49 rfl (lv_at hl 0 rfl) ?_
            refine va_get (v := .int (MD.itsRows M3)) (C := RX5) (T := TX5) (N := 10) hx hb hts hiX5 hown hK hP 0 rfl rfl 8 (by decide) hk150 (fun _ h9 => h9) rfl dX5_reasonOfText_50 ?_
            refine lv_iconst (v := 1) hx hb dX5_reasonOfText_53 (by decide) ?_
            refine lv_bipush (v := 24) hx hb dX5_reasonOfText_54 (by decide) ?_
            obtain ⟨v7, hv7, hf⟩ := bnd hf
            refine xcallRS (As := [.int (MD.itsRows M3), .int 1, .int 24]) (rest := []) (wc := []) ⟨hx, hb, hml, hown, hts⟩ (c_X5_in k (MD.itsRows M3) 1 24 v7 hv7) (va_cwS 3 hts gX5_reasonOfText_X5_in rfl rfl rfl (by decide +kernel) ⟨Nat.le_of_ble_eq_true rfl, Nat.le_of_ble_eq_true rfl⟩) hX (va_P0 _ _ _) rfl hl.1 rfl (Nat.le_of_ble_eq_true rfl) dX5_reasonOfText_56 ⟨Nat.zero_le _, Nat.zero_le _⟩ (fun zv7 => ?_)
            refine lv_if_ne (tgt := 64) hx hb dX5_reasonOfText_59 (by decide) (fun c8 => ?_) (fun c8 => ?_)
            · replace hf := ifF hf c8
              refine lv_iload_n hx hb dX5_reasonOfText_64 rfl (lv_at hl 1 rfl) ?_
              refine lv_aload_n hx hb dX5_reasonOfText_65 rfl (lv_at hl 0 rfl) ?_
              refine va_get (v := .int (MD.itsRows M3)) (C := RX5) (T := TX5) (N := 10) hx hb hts hiX5 hown hK hP 0 rfl rfl 8 (by decide) hk150 (fun _ h9 => h9) rfl dX5_reasonOfText_66 ?_
              refine lv_iadd hx hb dX5_reasonOfText_69 ?_
              refine lv_istore_n (lv' := [(1, .int (x1q14 + (MD.itsRows M3))), (0, .ref g.1), (2, .int x2q14)]) hx hb dX5_reasonOfText_70 rfl hl (by decide) rfl (fun ls hl => ?_)
              refine lv_iload_n hx hb dX5_reasonOfText_71 rfl (lv_at hl 0 rfl) ?_
              refine lv_bipush (v := 24) hx hb dX5_reasonOfText_72 (by decide) ?_
              refine lv_icmp_le (tgt := 79) hx hb dX5_reasonOfText_74 (by decide) (fun c9 => ?_) (fun c9 => ?_)
              · replace hf := ifT hf c9
                refine lv_aload_n hx hb dX5_reasonOfText_79 rfl (lv_at hl 1 rfl) ?_
                refine va_get (v := .int (MD.spot M3)) (C := RX5) (T := TX5) (N := 10) hx hb hts hiX5 hown hK hP 0 rfl rfl 6 (by decide) hk138 (fun _ h9 => h9) rfl dX5_reasonOfText_80 ?_
                refine lv_aload_n hx hb dX5_reasonOfText_83 rfl (lv_at hl 1 rfl) ?_
                refine va_get (v := .int (MD.length M3)) (C := RX5) (T := TX5) (N := 10) hx hb hts hiX5 hown hK hP 0 rfl rfl 5 (by decide) hk117 (fun _ h9 => h9) rfl dX5_reasonOfText_84 ?_
                refine lv_icmp_ge (tgt := 94) hx hb dX5_reasonOfText_87 (by decide) (fun c10 => ?_) (fun c10 => ?_)
                · replace hf := ifT hf c10
                  refine lv_iconst (v := 0) hx hb dX5_reasonOfText_94 (by decide) ?_
                  refine lv_istore_n (lv' := [(2, .int 0), (1, .int (x1q14 + (MD.itsRows M3))), (0, .ref g.1)]) hx hb dX5_reasonOfText_95 rfl hl (by decide) rfl (fun ls hl => ?_)
                  refine lv_aload_n hx hb dX5_reasonOfText_96 rfl (lv_at hl 2 rfl) ?_
                  refine lv_dup hx hb dX5_reasonOfText_97 rfl ?_
                  refine va_get (v := .int (MD.spot M3)) (C := RX5) (T := TX5) (N := 10) hx hb hts hiX5 hown hK hP 0 rfl rfl 6 (by decide) hk138 (fun _ h9 => h9) rfl dX5_reasonOfText_98 ?_
                  refine lv_iconst (v := 1) hx hb dX5_reasonOfText_101 (by decide) ?_
                  refine lv_iadd hx hb dX5_reasonOfText_102 ?_
                  refine xputI (wn := (wM ks g (mkMD (MD.st M3) (MD.past M3) (MD.aside M3) (MD.text M3) (MD.pasts M3) (MD.length M3) ((MD.spot M3) + 1) (MD.itsThickness M3) (MD.itsRows M3) (MD.from_ M3)))) (C := RX5) (T := TX5) (N := 10) hx hb hts hiX5 tyX5 tyX5_ok nmX5 hown hK hP hD hS 0 rfl rfl 6 (by decide) hk138 (fun _ h9 => h9) rfl (by decide +kernel) (Nat.le_of_ble_eq_true rfl) dX5_reasonOfText_103 rfl (fun H locs hP hD hS => ?_)
                  refine lv_goto (tgt := 14) hx hb dX5_reasonOfText_106 (by decide) ?_
                  exact ih14 _ _ _  _ _ _ hf hP hD hS (lv_sub hl [2, 1, 0] rfl)
                · replace hf := ifF hf c10
                  refine lv_iconst (v := 1) hx hb dX5_reasonOfText_90 (by decide) ?_
                  refine lv_goto (tgt := 95) hx hb dX5_reasonOfText_91 (by decide) ?_
                  refine lv_istore_n (lv' := [(2, .int 1), (1, .int (x1q14 + (MD.itsRows M3))), (0, .ref g.1)]) hx hb dX5_reasonOfText_95 rfl hl (by decide) rfl (fun ls hl => ?_)
                  refine lv_aload_n hx hb dX5_reasonOfText_96 rfl (lv_at hl 2 rfl) ?_
                  refine lv_dup hx hb dX5_reasonOfText_97 rfl ?_
                  refine va_get (v := .int (MD.spot M3)) (C := RX5) (T := TX5) (N := 10) hx hb hts hiX5 hown hK hP 0 rfl rfl 6 (by decide) hk138 (fun _ h9 => h9) rfl dX5_reasonOfText_98 ?_
                  refine lv_iconst (v := 1) hx hb dX5_reasonOfText_101 (by decide) ?_
                  refine lv_iadd hx hb dX5_reasonOfText_102 ?_
                  refine xputI (wn := (wM ks g (mkMD (MD.st M3) (MD.past M3) (MD.aside M3) (MD.text M3) (MD.pasts M3) (MD.length M3) ((MD.spot M3) + 1) (MD.itsThickness M3) (MD.itsRows M3) (MD.from_ M3)))) (C := RX5) (T := TX5) (N := 10) hx hb hts hiX5 tyX5 tyX5_ok nmX5 hown hK hP hD hS 0 rfl rfl 6 (by decide) hk138 (fun _ h9 => h9) rfl (by decide +kernel) (Nat.le_of_ble_eq_true rfl) dX5_reasonOfText_103 rfl (fun H locs hP hD hS => ?_)
                  refine lv_goto (tgt := 14) hx hb dX5_reasonOfText_106 (by decide) ?_
                  exact ih14 _ _ _  _ _ _ hf hP hD hS (lv_sub hl [2, 1, 0] rfl)
              · replace hf := ifF hf c9
                refine lv_iconst (v := 3) hx hb dX5_reasonOfText_77 (by decide) ?_
                obtain ⟨rfl, rfl⟩ := inj2 hf
                exact hret trivial _ _ _ _ dX5_reasonOfText_78 (fun ty h => by cases h; rfl) hP hD hS
            · replace hf := ifT hf c8
              refine lv_iconst (v := 2) hx hb dX5_reasonOfText_62 (by decide) ?_
              obtain ⟨rfl, rfl⟩ := inj2 hf
              exact hret trivial _ _ _ _ dX5_reasonOfText_63 (fun ty h => by cases h; rfl) hP hD hS
        · replace hf := ifT hf c4
          refine lv_iconst (v := 1) hx hb dX5_reasonOfText_33 (by decide) ?_
          obtain ⟨rfl, rfl⟩ := inj2 hf
          exact hret trivial _ _ _ _ dX5_reasonOfText_34 (fun ty h => by cases h; rfl) hP hD hS
  exact L14 k _ _ _ _ _ _ hf hP hD hS (lv_sub hl [2, 1, 0] rfl)

/-! ===== X5_fault ===== -/
def p_X5_fault (k : Nat) (M : MD) (x1 : Int32) : Option (Int32 × MD) :=
  (p_X5_in k x1 0 1).bind fun v1 => if v1 = 0 then (some ((-1), M)) else (bind2 (p_X5_reasonOfText k M) fun v3 M4 => if v3 = 0 then (some ((-4), M4)) else (if x1 = 0 then (some ((MD.from_ M4), M4)) else (some (v3, M4))))

set_option maxHeartbeats 4000000 in
set_option maxRecDepth 100000 in
theorem c_X5_fault {l : Launch} {D : va_G} {ks : K3} (k : Nat) (g : AM) (M : MD) (x1 : Int32) (r : Int32) (rM : MD) (hf : p_X5_fault k M x1 = some (r, rM)) : MetI l yX5_fault wsX5_fault { frames := 5, cells := 0, slots := 0, locals := 109 } D ks [.ref g.1, .int x1] (wM ks g M) (wM ks g rM) r True := by
  refine MetI.of (cc := cX5_fault) (maxL := 3) (ret := (some .int)) (by decide +kernel) rfl (Nat.le_of_ble_eq_true rfl) ?_ ⟨_, rfl⟩
  intro p e s m below meth c Q A hx hb hml hts hown hP hX hD hA hret ls hl
  have hK := hX.1
  replace hl : lv_has ls 3 [(0, .ref g.1), (1, .int x1)] := hl
  have hS : va_S A s.heap s.heap [] := va_S.rf
  have hiX5 : ∀ w ∈ wsX50, w ∈ wsX5_fault := by decide +kernel
  have hk153 := hts (.fieldLink RX5 153 "SoapFilmModel" "from" "I") (by decide +kernel)
  unfold p_X5_fault at hf
  refine lv_iload_n hx hb dX5_fault_0 rfl (lv_at hl 1 rfl) ?_
  refine lv_iconst (v := 0) hx hb dX5_fault_1 (by decide) ?_
  refine lv_iconst (v := 1) hx hb dX5_fault_2 (by decide) ?_
  obtain ⟨v1, hv1, hf⟩ := bnd hf
  refine xcallRS (As := [.int x1, .int 0, .int 1]) (rest := []) (wc := []) ⟨hx, hb, hml, hown, hts⟩ (c_X5_in k x1 0 1 v1 hv1) (va_cwS 3 hts gX5_fault_X5_in rfl rfl rfl (by decide +kernel) ⟨Nat.le_of_ble_eq_true rfl, Nat.le_of_ble_eq_true rfl⟩) hX (va_P0 _ _ _) rfl hl.1 rfl (Nat.le_of_ble_eq_true rfl) dX5_fault_3 ⟨Nat.zero_le _, Nat.zero_le _⟩ (fun zv1 => ?_)
  refine lv_if_ne (tgt := 11) hx hb dX5_fault_6 (by decide) (fun c2 => ?_) (fun c2 => ?_)
  · replace hf := ifF hf c2
    refine lv_aload_n hx hb dX5_fault_11 rfl (lv_at hl 0 rfl) ?_
    obtain ⟨v3, M4, hv3, hf⟩ := bnd2 hf
    refine xcallI (As := []) (rest := []) (wc := (wM ks g M)) (w1 := (wM ks g M4)) (wr := ([] : va_W)) (wn := (wM ks g M4)) ⟨hx, hb, hml, hown, hts⟩ (c_X5_reasonOfText k g M v3 M4 hv3) (cwV 0 hts gX5_fault_X5_reasonOfText rfl rfl rfl (by decide +kernel) ⟨Nat.le_of_ble_eq_true rfl, Nat.le_of_ble_eq_true rfl⟩) hX hP hD hS hA [0, 1, 2, 3, 4] [] [0, 1, 2, 3, 4] rfl rfl rfl ⟨by decide, by decide, by decide⟩ (by decide) (ci := 4) (q0 := 0) rfl rfl rfl hl.1 rfl (Nat.le_of_ble_eq_true rfl) dX5_fault_12 ⟨Nat.zero_le _, Nat.zero_le _⟩ (fun zv3 H locs hP hD hS => ?_)
    refine lv_istore_n (lv' := [(2, .int v3), (0, .ref g.1), (1, .int x1)]) hx hb dX5_fault_15 rfl hl (by decide) rfl (fun ls hl => ?_)
    refine lv_iload_n hx hb dX5_fault_16 rfl (lv_at hl 0 rfl) ?_
    refine lv_if_ne (tgt := 25) hx hb dX5_fault_17 (by decide) (fun c5 => ?_) (fun c5 => ?_)
    · replace hf := ifF hf c5
      refine lv_iload_n hx hb dX5_fault_25 rfl (lv_at hl 2 rfl) ?_
      refine lv_if_ne (tgt := 36) hx hb dX5_fault_26 (by decide) (fun c6 => ?_) (fun c6 => ?_)
      · replace hf := ifF hf c6
        refine lv_iload_n hx hb dX5_fault_36 rfl (lv_at hl 0 rfl) ?_
        obtain ⟨rfl, rfl⟩ := inj2 hf
        exact hret trivial _ _ _ _ dX5_fault_37 (fun ty h => by cases h; rfl) hP hD hS
      · replace hf := ifT hf c6
        refine lv_aload_n hx hb dX5_fault_29 rfl (lv_at hl 1 rfl) ?_
        refine va_get (v := .int (MD.from_ M4)) (C := RX5) (T := TX5) (N := 10) hx hb hts hiX5 hown hK hP 0 rfl rfl 9 (by decide) hk153 (fun _ h9 => h9) rfl dX5_fault_30 ?_
        refine lv_goto (tgt := 37) hx hb dX5_fault_33 (by decide) ?_
        obtain ⟨rfl, rfl⟩ := inj2 hf
        exact hret trivial _ _ _ _ dX5_fault_37 (fun ty h => by cases h; rfl) hP hD hS
    · replace hf := ifT hf c5
      refine lv_bipush (v := (-4)) hx hb dX5_fault_20 (by decide) ?_
      refine lv_goto (tgt := 37) hx hb dX5_fault_22 (by decide) ?_
      obtain ⟨rfl, rfl⟩ := inj2 hf
      exact hret trivial _ _ _ _ dX5_fault_37 (fun ty h => by cases h; rfl) hP hD hS
  · replace hf := ifT hf c2
    refine lv_iconst (v := (-1)) hx hb dX5_fault_9 (by decide) ?_
    obtain ⟨rfl, rfl⟩ := inj2 hf
    exact hret trivial _ _ _ _ dX5_fault_10 (fun ty h => by cases h; rfl) hP hD hS

/-! ===== X5_read ===== -/
def p_X5_read_L43 (k : Nat) : Nat → (MD) → (Int32) → Option (MD)
  | 0, _, _ => none
  | n + 1, M, x1 =>
    if (MD.itsRows M) ≤ x1 then (some M) else ((p_X5_newRow k M (MD.itsThickness M)).bind fun M2 => p_X5_read_L43 k n M2 (x1 + 1))

def p_X5_read_L23 (k : Nat) : Nat → (MD) → Option (Int32 × MD)
  | 0, _ => none
  | n + 1, M =>
    if (MD.length M) ≤ (MD.spot M) then ((ald (MD.st M) 44 0).bind fun v2 => some (v2, M)) else (bind2 (p_X5_isFormed k M) fun v3 M4 => if v3 = 0 then ((ald (MD.st M4) 44 0).bind fun v6 => some (v6, M4)) else ((p_X5_read_L43 k k M4 0).bind fun oM9 => p_X5_read_L23 k n (mkMD (MD.st oM9) (MD.past oM9) (MD.aside oM9) (MD.text oM9) (MD.pasts oM9) (MD.length oM9) ((MD.spot oM9) + 1) (MD.itsThickness oM9) (MD.itsRows oM9) (MD.from_ oM9))))

def p_X5_read (k : Nat) (M : MD) : Option (Int32 × MD) :=
  bind2 (p_X5_reasonOfText k M) fun v1 M2 => if v1 = 0 then ((p_X5_records k M2).bind fun M4 => (p_X5_takesAway k M4).bind fun M5 => p_X5_read_L23 k k (mkMD (MD.st M5) (MD.past M5) (MD.aside M5) (MD.text M5) (MD.pasts M5) (MD.length M5) 0 (MD.itsThickness M5) (MD.itsRows M5) (MD.from_ M5))) else (some ((-2), M2))

set_option maxHeartbeats 4000000 in
set_option maxRecDepth 100000 in
theorem c_X5_read {l : Launch} {D : va_G} {ks : K3} (k : Nat) (g : AM) (M : MD) (r : Int32) (rM : MD) (hf : p_X5_read k M = some (r, rM)) : MetI l yX5_read wsX5_read { frames := 5, cells := 0, slots := 0, locals := 109 } D ks [.ref g.1] (wM ks g M) (wM ks g rM) r True := by
  refine MetI.of (cc := cX5_read) (maxL := 2) (ret := (some .int)) (by decide +kernel) rfl (Nat.le_of_ble_eq_true rfl) ?_ ⟨_, rfl⟩
  intro p e s m below meth c Q A hx hb hml hts hown hP hX hD hA hret ls hl
  have hK := hX.1
  replace hl : lv_has ls 2 [(0, .ref g.1)] := hl
  have hS : va_S A s.heap s.heap [] := va_S.rf
  have hiX5 : ∀ w ∈ wsX50, w ∈ wsX5_read := by decide +kernel
  have hk138 := hts (.fieldLink RX5 138 "SoapFilmModel" "spot" "I") (by decide +kernel)
  have hk117 := hts (.fieldLink RX5 117 "SoapFilmModel" "length" "I") (by decide +kernel)
  have hk7 := hts (.fieldLink RX5 7 "SoapFilmModel" "st" "[I") (by decide +kernel)
  have hk150 := hts (.fieldLink RX5 150 "SoapFilmModel" "itsRows" "I") (by decide +kernel)
  have hk147 := hts (.fieldLink RX5 147 "SoapFilmModel" "itsThickness" "I") (by decide +kernel)
  unfold p_X5_read at hf
  refine lv_aload_n hx hb dX5_read_0 rfl (lv_at hl 0 rfl) ?_
  obtain ⟨v1, M2, hv1, hf⟩ := bnd2 hf
  refine xcallI (As := []) (rest := []) (wc := (wM ks g M)) (w1 := (wM ks g M2)) (wr := ([] : va_W)) (wn := (wM ks g M2)) ⟨hx, hb, hml, hown, hts⟩ (c_X5_reasonOfText k g M v1 M2 hv1) (cwV 0 hts gX5_read_X5_reasonOfText rfl rfl rfl (by decide +kernel) ⟨Nat.le_of_ble_eq_true rfl, Nat.le_of_ble_eq_true rfl⟩) hX hP hD hS hA [0, 1, 2, 3, 4] [] [0, 1, 2, 3, 4] rfl rfl rfl ⟨by decide, by decide, by decide⟩ (by decide) (ci := 4) (q0 := 0) rfl rfl rfl hl.1 rfl (Nat.le_of_ble_eq_true rfl) dX5_read_1 ⟨Nat.zero_le _, Nat.zero_le _⟩ (fun zv1 H locs hP hD hS => ?_)
  refine lv_if_eq (tgt := 10) hx hb dX5_read_4 (by decide) (fun c3 => ?_) (fun c3 => ?_)
  · replace hf := ifT hf c3
    refine lv_aload_n hx hb dX5_read_10 rfl (lv_at hl 0 rfl) ?_
    obtain ⟨M4, hM4, hf⟩ := bnd hf
    refine xcallV (As := []) (rest := []) (wc := (wM ks g M2)) (w1 := (wM ks g M4)) (wr := ([] : va_W)) (wn := (wM ks g M4)) ⟨hx, hb, hml, hown, hts⟩ (c_X5_records k g M2 M4 hM4) (cwV 0 hts gX5_read_X5_records rfl rfl rfl (by decide +kernel) ⟨Nat.le_of_ble_eq_true rfl, Nat.le_of_ble_eq_true rfl⟩) hX hP hD hS hA [0, 1, 2, 3, 4] [] [0, 1, 2, 3, 4] rfl rfl rfl ⟨by decide, by decide, by decide⟩ (by decide) (ci := 4) (q0 := 0) rfl rfl rfl hl.1 rfl (Nat.le_of_ble_eq_true rfl) dX5_read_11 ⟨Nat.zero_le _, Nat.zero_le _⟩ (fun H locs hP hD hS => ?_)
    refine lv_aload_n hx hb dX5_read_14 rfl (lv_at hl 0 rfl) ?_
    obtain ⟨M5, hM5, hf⟩ := bnd hf
    refine xcallV (As := []) (rest := []) (wc := (wM ks g M4)) (w1 := (wM ks g M5)) (wr := ([] : va_W)) (wn := (wM ks g M5)) ⟨hx, hb, hml, hown, hts⟩ (c_X5_takesAway k g M4 M5 hM5) (cwV 0 hts gX5_read_X5_takesAway rfl rfl rfl (by decide +kernel) ⟨Nat.le_of_ble_eq_true rfl, Nat.le_of_ble_eq_true rfl⟩) hX hP hD hS hA [0, 1, 2, 3, 4] [] [0, 1, 2, 3, 4] rfl rfl rfl ⟨by decide, by decide, by decide⟩ (by decide) (ci := 4) (q0 := 0) rfl rfl rfl hl.1 rfl (Nat.le_of_ble_eq_true rfl) dX5_read_15 ⟨Nat.zero_le _, Nat.zero_le _⟩ (fun H locs hP hD hS => ?_)
    refine lv_aload_n hx hb dX5_read_18 rfl (lv_at hl 0 rfl) ?_
    refine lv_iconst (v := 0) hx hb dX5_read_19 (by decide) ?_
    refine xputI (wn := (wM ks g (mkMD (MD.st M5) (MD.past M5) (MD.aside M5) (MD.text M5) (MD.pasts M5) (MD.length M5) 0 (MD.itsThickness M5) (MD.itsRows M5) (MD.from_ M5)))) (C := RX5) (T := TX5) (N := 10) hx hb hts hiX5 tyX5 tyX5_ok nmX5 hown hK hP hD hS 0 rfl rfl 6 (by decide) hk138 (fun _ h9 => h9) rfl (by decide +kernel) (Nat.le_of_ble_eq_true rfl) dX5_read_20 rfl (fun H locs hP hD hS => ?_)
    have L23 : ∀ (n : Nat) (Mq23 : MD) (H : Heap) (locs : List Loc) (ls : Array Slot), p_X5_read_L23 k n Mq23 = some (r, rM) → va_P D vwCl (wM ks g Mq23) H → va_D A (wM ks g Mq23) → va_S A s.heap H locs → lv_has ls 2 [(0, .ref g.1)] → W p l e { frames := 5, cells := 0, slots := 0, locals := 109 } s m ([.ref g.1] : List Value).toArray below meth c H locs 0 0 Q (F0 m 23 ls []) := by
      intro n
      induction n with
      | zero => intro Mq23 H locs ls hf; cases hf
      | succ n ih23 =>
        intro Mq23 H locs ls hf hP hD hS hl
        rw [p_X5_read_L23] at hf
        refine lv_aload_n hx hb dX5_read_23 rfl (lv_at hl 0 rfl) ?_
        refine va_get (v := .int (MD.spot Mq23)) (C := RX5) (T := TX5) (N := 10) hx hb hts hiX5 hown hK hP 0 rfl rfl 6 (by decide) hk138 (fun _ h9 => h9) rfl dX5_read_24 ?_
        refine lv_aload_n hx hb dX5_read_27 rfl (lv_at hl 0 rfl) ?_
        refine va_get (v := .int (MD.length Mq23)) (C := RX5) (T := TX5) (N := 10) hx hb hts hiX5 hown hK hP 0 rfl rfl 5 (by decide) hk117 (fun _ h9 => h9) rfl dX5_read_28 ?_
        refine lv_icmp_ge (tgt := 78) hx hb dX5_read_31 (by decide) (fun c6 => ?_) (fun c6 => ?_)
        · replace hf := ifT hf c6
          refine lv_aload_n hx hb dX5_read_78 rfl (lv_at hl 0 rfl) ?_
          refine va_get (v := .ref g.2.1) (C := RX5) (T := TX5) (N := 10) hx hb hts hiX5 hown hK hP 0 rfl rfl 0 (by decide) hk7 (fun _ h9 => h9) rfl dX5_read_79 ?_
          refine lv_iconst (v := 0) hx hb dX5_read_82 (by decide) ?_
          obtain ⟨v7, hv7, hf⟩ := bnd hf
          refine xa_iald hx hb hK hP hv7 1 0 rfl rfl dX5_read_83 ?_
          obtain ⟨rfl, rfl⟩ := inj2 hf
          exact hret trivial _ _ _ _ dX5_read_84 (fun ty h => by cases h; rfl) hP hD hS
        · replace hf := ifF hf c6
          refine lv_aload_n hx hb dX5_read_34 rfl (lv_at hl 0 rfl) ?_
          obtain ⟨v8, M9, hv8, hf⟩ := bnd2 hf
          refine xcallI (As := []) (rest := []) (wc := (wM ks g Mq23)) (w1 := (wM ks g M9)) (wr := ([] : va_W)) (wn := (wM ks g M9)) ⟨hx, hb, hml, hown, hts⟩ (c_X5_isFormed k g Mq23 v8 M9 hv8) (cwV 0 hts gX5_read_X5_isFormed rfl rfl rfl (by decide +kernel) ⟨Nat.le_of_ble_eq_true rfl, Nat.le_of_ble_eq_true rfl⟩) hX hP hD hS hA [0, 1, 2, 3, 4] [] [0, 1, 2, 3, 4] rfl rfl rfl ⟨by decide, by decide, by decide⟩ (by decide) (ci := 4) (q0 := 0) rfl rfl rfl hl.1 rfl (Nat.le_of_ble_eq_true rfl) dX5_read_35 ⟨Nat.zero_le _, Nat.zero_le _⟩ (fun zv8 H locs hP hD hS => ?_)
          refine lv_if_eq (tgt := 78) hx hb dX5_read_38 (by decide) (fun c10 => ?_) (fun c10 => ?_)
          · replace hf := ifT hf c10
            refine lv_aload_n hx hb dX5_read_78 rfl (lv_at hl 0 rfl) ?_
            refine va_get (v := .ref g.2.1) (C := RX5) (T := TX5) (N := 10) hx hb hts hiX5 hown hK hP 0 rfl rfl 0 (by decide) hk7 (fun _ h9 => h9) rfl dX5_read_79 ?_
            refine lv_iconst (v := 0) hx hb dX5_read_82 (by decide) ?_
            obtain ⟨v11, hv11, hf⟩ := bnd hf
            refine xa_iald hx hb hK hP hv11 1 0 rfl rfl dX5_read_83 ?_
            obtain ⟨rfl, rfl⟩ := inj2 hf
            exact hret trivial _ _ _ _ dX5_read_84 (fun ty h => by cases h; rfl) hP hD hS
          · replace hf := ifF hf c10
            refine lv_iconst (v := 0) hx hb dX5_read_41 (by decide) ?_
            refine lv_istore_n (lv' := [(1, .int 0), (0, .ref g.1)]) hx hb dX5_read_42 rfl hl (by decide) rfl (fun ls hl => ?_)
            have L43 : ∀ (n : Nat) (Mq43 : MD) (x1q43 : Int32) (oM : MD) (H : Heap) (locs : List Loc) (ls : Array Slot), p_X5_read_L43 k n Mq43 x1q43 = some oM → (∀ (H : Heap) (locs : List Loc) (ls : Array Slot), va_P D vwCl (wM ks g oM) H → va_D A (wM ks g oM) → va_S A s.heap H locs → lv_has ls 2 [(0, .ref g.1)] → W p l e { frames := 5, cells := 0, slots := 0, locals := 109 } s m ([.ref g.1] : List Value).toArray below meth c H locs 0 0 Q (F0 m 65 ls [])) → va_P D vwCl (wM ks g Mq43) H → va_D A (wM ks g Mq43) → va_S A s.heap H locs → lv_has ls 2 [(0, .ref g.1), (1, .int x1q43)] → W p l e { frames := 5, cells := 0, slots := 0, locals := 109 } s m ([.ref g.1] : List Value).toArray below meth c H locs 0 0 Q (F0 m 43 ls []) := by
              intro n
              induction n with
              | zero => intro Mq43 x1q43 oM H locs ls hf; cases hf
              | succ n ih43 =>
                intro Mq43 x1q43 oM H locs ls hf hcont hP hD hS hl
                rw [p_X5_read_L43] at hf
                refine lv_iload_n hx hb dX5_read_43 rfl (lv_at hl 1 rfl) ?_
                refine lv_aload_n hx hb dX5_read_44 rfl (lv_at hl 0 rfl) ?_
                refine va_get (v := .int (MD.itsRows Mq43)) (C := RX5) (T := TX5) (N := 10) hx hb hts hiX5 hown hK hP 0 rfl rfl 8 (by decide) hk150 (fun _ h9 => h9) rfl dX5_read_45 ?_
                refine lv_icmp_ge (tgt := 65) hx hb dX5_read_48 (by decide) (fun c12 => ?_) (fun c12 => ?_)
                · replace hf := ifT hf c12
                  obtain rfl := Option.some.inj hf
                  exact hcont _ _ _ hP hD hS (lv_sub hl [0] rfl)
                · replace hf := ifF hf c12
                  refine lv_aload_n hx hb dX5_read_51 rfl (lv_at hl 0 rfl) ?_
                  refine lv_aload_n hx hb dX5_read_52 rfl (lv_at hl 0 rfl) ?_
                  refine va_get (v := .int (MD.itsThickness Mq43)) (C := RX5) (T := TX5) (N := 10) hx hb hts hiX5 hown hK hP 0 rfl rfl 7 (by decide) hk147 (fun _ h9 => h9) rfl dX5_read_53 ?_
                  obtain ⟨M13, hM13, hf⟩ := bnd hf
                  refine xcallV (As := [.int (MD.itsThickness Mq43)]) (rest := []) (wc := (wM ks g Mq43)) (w1 := (wM ks g M13)) (wr := ([] : va_W)) (wn := (wM ks g M13)) ⟨hx, hb, hml, hown, hts⟩ (c_X5_newRow k g Mq43 (MD.itsThickness Mq43) M13 hM13) (cwV 1 hts gX5_read_X5_newRow rfl rfl rfl (by decide +kernel) ⟨Nat.le_of_ble_eq_true rfl, Nat.le_of_ble_eq_true rfl⟩) hX hP hD hS hA [0, 1, 2, 3, 4] [] [0, 1, 2, 3, 4] rfl rfl rfl ⟨by decide, by decide, by decide⟩ (by decide) (ci := 4) (q0 := 0) rfl rfl rfl hl.1 rfl (Nat.le_of_ble_eq_true rfl) dX5_read_56 ⟨Nat.zero_le _, Nat.zero_le _⟩ (fun H locs hP hD hS => ?_)
                  refine lv_iinc (v := (x1q43 + 1)) (lv' := [(1, .int (x1q43 + 1)), (0, .ref g.1)]) hx hb dX5_read_59 hl (k := 1) rfl rfl (by decide) rfl (fun ls hl => ?_)
                  refine lv_goto (tgt := 43) hx hb dX5_read_62 (by decide) ?_
                  exact ih43 _ _ _ _ _ _ hf hcont hP hD hS (lv_sub hl [1, 0] rfl)
            obtain ⟨oM14, hwoM14, hf⟩ := bnd hf
            refine L43 k _ _ _ _ _ _ hwoM14 (fun H locs ls hP hD hS hl => ?_) hP hD hS (lv_sub hl [1, 0] rfl)
            refine lv_aload_n hx hb dX5_read_65 rfl (lv_at hl 0 rfl) ?_
            refine lv_dup hx hb dX5_read_66 rfl ?_
            refine va_get (v := .int (MD.spot oM14)) (C := RX5) (T := TX5) (N := 10) hx hb hts hiX5 hown hK hP 0 rfl rfl 6 (by decide) hk138 (fun _ h9 => h9) rfl dX5_read_67 ?_
            refine lv_iconst (v := 1) hx hb dX5_read_70 (by decide) ?_
            refine lv_iadd hx hb dX5_read_71 ?_
            refine xputI (wn := (wM ks g (mkMD (MD.st oM14) (MD.past oM14) (MD.aside oM14) (MD.text oM14) (MD.pasts oM14) (MD.length oM14) ((MD.spot oM14) + 1) (MD.itsThickness oM14) (MD.itsRows oM14) (MD.from_ oM14)))) (C := RX5) (T := TX5) (N := 10) hx hb hts hiX5 tyX5 tyX5_ok nmX5 hown hK hP hD hS 0 rfl rfl 6 (by decide) hk138 (fun _ h9 => h9) rfl (by decide +kernel) (Nat.le_of_ble_eq_true rfl) dX5_read_72 rfl (fun H locs hP hD hS => ?_)
            refine lv_goto (tgt := 23) hx hb dX5_read_75 (by decide) ?_
            exact ih23 _  _ _ _ hf hP hD hS (lv_sub hl [0] rfl)
    exact L23 k _ _ _ _ hf hP hD hS (lv_sub hl [0] rfl)
  · replace hf := ifF hf c3
    refine lv_bipush (v := (-2)) hx hb dX5_read_7 (by decide) ?_
    obtain ⟨rfl, rfl⟩ := inj2 hf
    exact hret trivial _ _ _ _ dX5_read_9 (fun ty h => by cases h; rfl) hP hD hS
