/-! ===== X5_undo ===== -/
def p_X5_undo_L22 (k : Nat) : Nat → (MD) → (Int32) → Option (Int32 × MD)
  | 0, _, _ => none
  | n + 1, M, x1 =>
    if 44 ≤ x1 then (some ((MD.pasts M), M)) else ((ald (MD.past M) 220 ((44 * (MD.pasts M)) + x1)).bind fun v2 => (ast (MD.st M) 44 x1 v2).bind fun f3 => p_X5_undo_L22 k n (mkMD f3 (MD.past M) (MD.aside M) (MD.text M) (MD.pasts M) (MD.length M) (MD.spot M) (MD.itsThickness M) (MD.itsRows M) (MD.from_ M)) (x1 + 1))

def p_X5_undo (k : Nat) (M : MD) : Option (Int32 × MD) :=
  if (MD.pasts M) = 0 then (some ((-2), M)) else (p_X5_undo_L22 k k (mkMD (MD.st M) (MD.past M) (MD.aside M) (MD.text M) ((MD.pasts M) - 1) (MD.length M) (MD.spot M) (MD.itsThickness M) (MD.itsRows M) (MD.from_ M)) 0)

set_option maxHeartbeats 4000000 in
set_option maxRecDepth 100000 in
theorem c_X5_undo {l : Launch} {D : va_G} {ks : K3} (k : Nat) (g : AM) (M : MD) (r : Int32) (rM : MD) (hf : p_X5_undo k M = some (r, rM)) : MetI l yX5_undo wsX5_undo { frames := 0, cells := 0, slots := 0, locals := 0 } D ks [.ref g.1] (wM ks g M) (wM ks g rM) r True := by
  refine MetI.of (cc := cX5_undo) (maxL := 2) (ret := (some .int)) (by decide +kernel) rfl (Nat.le_of_ble_eq_true rfl) ?_ ⟨_, rfl⟩
  intro p e s m below meth c Q A hx hb hml hts hown hP hX hD hA hret ls hl
  have hK := hX.1
  replace hl : lv_has ls 2 [(0, .ref g.1)] := hl
  have hS : va_S A s.heap s.heap [] := va_S.rf
  have hiX5 : ∀ w ∈ wsX50, w ∈ wsX5_undo := by decide +kernel
  have hk22 := hts (.fieldLink RX5 22 "SoapFilmModel" "pasts" "I") (by decide +kernel)
  have hk7 := hts (.fieldLink RX5 7 "SoapFilmModel" "st" "[I") (by decide +kernel)
  have hk13 := hts (.fieldLink RX5 13 "SoapFilmModel" "past" "[I") (by decide +kernel)
  unfold p_X5_undo at hf
  refine lv_aload_n hx hb dX5_undo_0 rfl (lv_at hl 0 rfl) ?_
  refine va_get (v := .int (MD.pasts M)) (C := RX5) (T := TX5) (N := 10) hx hb hts hiX5 hown hK hP 0 rfl rfl 3 (by decide) hk22 (fun _ h9 => h9) rfl dX5_undo_1 ?_
  refine lv_if_ne (tgt := 10) hx hb dX5_undo_4 (by decide) (fun c1 => ?_) (fun c1 => ?_)
  · replace hf := ifF hf c1
    refine lv_aload_n hx hb dX5_undo_10 rfl (lv_at hl 0 rfl) ?_
    refine lv_dup hx hb dX5_undo_11 rfl ?_
    refine va_get (v := .int (MD.pasts M)) (C := RX5) (T := TX5) (N := 10) hx hb hts hiX5 hown hK hP 0 rfl rfl 3 (by decide) hk22 (fun _ h9 => h9) rfl dX5_undo_12 ?_
    refine lv_iconst (v := 1) hx hb dX5_undo_15 (by decide) ?_
    refine lv_isub hx hb dX5_undo_16 ?_
    refine xputI (wn := (wM ks g (mkMD (MD.st M) (MD.past M) (MD.aside M) (MD.text M) ((MD.pasts M) - 1) (MD.length M) (MD.spot M) (MD.itsThickness M) (MD.itsRows M) (MD.from_ M)))) (C := RX5) (T := TX5) (N := 10) hx hb hts hiX5 tyX5 tyX5_ok nmX5 hown hK hP hD hS 0 rfl rfl 3 (by decide) hk22 (fun _ h9 => h9) rfl (by decide +kernel) (Nat.le_of_ble_eq_true rfl) dX5_undo_17 rfl (fun H locs hP hD hS => ?_)
    refine lv_iconst (v := 0) hx hb dX5_undo_20 (by decide) ?_
    refine lv_istore_n (lv' := [(1, .int 0), (0, .ref g.1)]) hx hb dX5_undo_21 rfl hl (by decide) rfl (fun ls hl => ?_)
    have L22 : ∀ (n : Nat) (Mq22 : MD) (x1q22 : Int32) (H : Heap) (locs : List Loc) (ls : Array Slot), p_X5_undo_L22 k n Mq22 x1q22 = some (r, rM) → va_P D vwCl (wM ks g Mq22) H → va_D A (wM ks g Mq22) → va_S A s.heap H locs → lv_has ls 2 [(0, .ref g.1), (1, .int x1q22)] → W p l e { frames := 0, cells := 0, slots := 0, locals := 0 } s m ([.ref g.1] : List Value).toArray below meth c H locs 0 0 Q (F0 m 22 ls []) := by
      intro n
      induction n with
      | zero => intro Mq22 x1q22 H locs ls hf; cases hf
      | succ n ih22 =>
        intro Mq22 x1q22 H locs ls hf hP hD hS hl
        rw [p_X5_undo_L22] at hf
        refine lv_iload_n hx hb dX5_undo_22 rfl (lv_at hl 1 rfl) ?_
        refine lv_bipush (v := 44) hx hb dX5_undo_23 (by decide) ?_
        refine lv_icmp_ge (tgt := 54) hx hb dX5_undo_25 (by decide) (fun c2 => ?_) (fun c2 => ?_)
        · replace hf := ifT hf c2
          refine lv_aload_n hx hb dX5_undo_54 rfl (lv_at hl 0 rfl) ?_
          refine va_get (v := .int (MD.pasts Mq22)) (C := RX5) (T := TX5) (N := 10) hx hb hts hiX5 hown hK hP 0 rfl rfl 3 (by decide) hk22 (fun _ h9 => h9) rfl dX5_undo_55 ?_
          obtain ⟨rfl, rfl⟩ := inj2 hf
          exact hret trivial _ _ _ _ dX5_undo_58 (fun ty h => by cases h; rfl) hP hD hS
        · replace hf := ifF hf c2
          refine lv_aload_n hx hb dX5_undo_28 rfl (lv_at hl 0 rfl) ?_
          refine va_get (v := .ref g.2.1) (C := RX5) (T := TX5) (N := 10) hx hb hts hiX5 hown hK hP 0 rfl rfl 0 (by decide) hk7 (fun _ h9 => h9) rfl dX5_undo_29 ?_
          refine lv_iload_n hx hb dX5_undo_32 rfl (lv_at hl 1 rfl) ?_
          refine lv_aload_n hx hb dX5_undo_33 rfl (lv_at hl 0 rfl) ?_
          refine va_get (v := .ref g.2.2.1) (C := RX5) (T := TX5) (N := 10) hx hb hts hiX5 hown hK hP 0 rfl rfl 1 (by decide) hk13 (fun _ h9 => h9) rfl dX5_undo_34 ?_
          refine lv_bipush (v := 44) hx hb dX5_undo_37 (by decide) ?_
          refine lv_aload_n hx hb dX5_undo_39 rfl (lv_at hl 0 rfl) ?_
          refine va_get (v := .int (MD.pasts Mq22)) (C := RX5) (T := TX5) (N := 10) hx hb hts hiX5 hown hK hP 0 rfl rfl 3 (by decide) hk22 (fun _ h9 => h9) rfl dX5_undo_40 ?_
          refine lv_imul hx hb dX5_undo_43 ?_
          refine lv_iload_n hx hb dX5_undo_44 rfl (lv_at hl 1 rfl) ?_
          refine lv_iadd hx hb dX5_undo_45 ?_
          obtain ⟨v3, hv3, hf⟩ := bnd hf
          refine xa_iald hx hb hK hP hv3 2 0 rfl rfl dX5_undo_46 ?_
          obtain ⟨f4, hf4, hf⟩ := bnd hf
          refine xa_iast (wn := (wM ks g (mkMD f4 (MD.past Mq22) (MD.aside Mq22) (MD.text Mq22) (MD.pasts Mq22) (MD.length Mq22) (MD.spot Mq22) (MD.itsThickness Mq22) (MD.itsRows Mq22) (MD.from_ Mq22)))) hx hb hK hP hD hS hf4 1 0 rfl rfl dX5_undo_47 rfl (fun H locs hP hD hS => ?_)
          refine lv_iinc (v := (x1q22 + 1)) (lv' := [(1, .int (x1q22 + 1)), (0, .ref g.1)]) hx hb dX5_undo_48 hl (k := 1) rfl rfl (by decide) rfl (fun ls hl => ?_)
          refine lv_goto (tgt := 22) hx hb dX5_undo_51 (by decide) ?_
          exact ih22 _ _  _ _ _ hf hP hD hS (lv_sub hl [1, 0] rfl)
    exact L22 k _ _ _ _ _ hf hP hD hS (lv_sub hl [1, 0] rfl)
  · replace hf := ifT hf c1
    refine lv_bipush (v := (-2)) hx hb dX5_undo_7 (by decide) ?_
    obtain ⟨rfl, rfl⟩ := inj2 hf
    exact hret trivial _ _ _ _ dX5_undo_9 (fun ty h => by cases h; rfl) hP hD hS

/-! ===== X5_set ===== -/
def p_X5_set (k : Nat) (M : MD) (x1 : Int32) (x2 : Int32) : Option (Int32 × MD) :=
  (p_X5_canBe k x1 x2).bind fun v1 => if v1 = 0 then (some ((-1), M)) else ((p_X5_records k M).bind fun M3 => (p_X5_of k M3 x1).bind fun v4 => (ast (MD.st M3) 44 (13 + x1) x2).bind fun f5 => some (v4, (mkMD f5 (MD.past M3) (MD.aside M3) (MD.text M3) (MD.pasts M3) (MD.length M3) (MD.spot M3) (MD.itsThickness M3) (MD.itsRows M3) (MD.from_ M3))))

set_option maxHeartbeats 4000000 in
set_option maxRecDepth 100000 in
theorem c_X5_set {l : Launch} {D : va_G} {ks : K3} (k : Nat) (g : AM) (M : MD) (x1 : Int32) (x2 : Int32) (r : Int32) (rM : MD) (hf : p_X5_set k M x1 x2 = some (r, rM)) : MetI l yX5_set wsX5_set { frames := 2, cells := 0, slots := 0, locals := 43 } D ks [.ref g.1, .int x1, .int x2] (wM ks g M) (wM ks g rM) r True := by
  refine MetI.of (cc := cX5_set) (maxL := 4) (ret := (some .int)) (by decide +kernel) rfl (Nat.le_of_ble_eq_true rfl) ?_ ⟨_, rfl⟩
  intro p e s m below meth c Q A hx hb hml hts hown hP hX hD hA hret ls hl
  have hK := hX.1
  replace hl : lv_has ls 4 [(0, .ref g.1), (1, .int x1), (2, .int x2)] := hl
  have hS : va_S A s.heap s.heap [] := va_S.rf
  have hiX5 : ∀ w ∈ wsX50, w ∈ wsX5_set := by decide +kernel
  have hk7 := hts (.fieldLink RX5 7 "SoapFilmModel" "st" "[I") (by decide +kernel)
  unfold p_X5_set at hf
  refine lv_iload_n hx hb dX5_set_0 rfl (lv_at hl 1 rfl) ?_
  refine lv_iload_n hx hb dX5_set_1 rfl (lv_at hl 2 rfl) ?_
  obtain ⟨v1, hv1, hf⟩ := bnd hf
  refine xcallRS (As := [.int x1, .int x2]) (rest := []) (wc := []) ⟨hx, hb, hml, hown, hts⟩ (c_X5_canBe k x1 x2 v1 hv1) (va_cwS 2 hts gX5_set_X5_canBe rfl rfl rfl (by decide +kernel) ⟨Nat.le_of_ble_eq_true rfl, Nat.le_of_ble_eq_true rfl⟩) hX (va_P0 _ _ _) rfl hl.1 rfl (Nat.le_of_ble_eq_true rfl) dX5_set_2 ⟨Nat.zero_le _, Nat.zero_le _⟩ (fun zv1 => ?_)
  refine lv_if_ne (tgt := 10) hx hb dX5_set_5 (by decide) (fun c2 => ?_) (fun c2 => ?_)
  · replace hf := ifF hf c2
    refine lv_aload_n hx hb dX5_set_10 rfl (lv_at hl 0 rfl) ?_
    obtain ⟨M3, hM3, hf⟩ := bnd hf
    refine xcallV (As := []) (rest := []) (wc := (wM ks g M)) (w1 := (wM ks g M3)) (wr := ([] : va_W)) (wn := (wM ks g M3)) ⟨hx, hb, hml, hown, hts⟩ (c_X5_records k g M M3 hM3) (cwV 0 hts gX5_set_X5_records rfl rfl rfl (by decide +kernel) ⟨Nat.le_of_ble_eq_true rfl, Nat.le_of_ble_eq_true rfl⟩) hX hP hD hS hA [0, 1, 2, 3, 4] [] [0, 1, 2, 3, 4] rfl rfl rfl ⟨by decide, by decide, by decide⟩ (by decide) (ci := 4) (q0 := 0) rfl rfl rfl hl.1 rfl (Nat.le_of_ble_eq_true rfl) dX5_set_11 ⟨Nat.zero_le _, Nat.zero_le _⟩ (fun H locs hP hD hS => ?_)
    refine lv_aload_n hx hb dX5_set_14 rfl (lv_at hl 0 rfl) ?_
    refine lv_iload_n hx hb dX5_set_15 rfl (lv_at hl 1 rfl) ?_
    obtain ⟨v4, hv4, hf⟩ := bnd hf
    refine xcallRV (As := [.int x1]) (rest := []) (wc := (wM ks g M3)) ⟨hx, hb, hml, hown, hts⟩ (c_X5_of k g M3 x1 v4 hv4) (cwV 1 hts gX5_set_X5_of rfl rfl rfl (by decide +kernel) ⟨Nat.le_of_ble_eq_true rfl, Nat.le_of_ble_eq_true rfl⟩) hX hP (ci := 4) (q0 := 0) rfl rfl rfl hl.1 rfl (Nat.le_of_ble_eq_true rfl) dX5_set_16 ⟨Nat.zero_le _, Nat.zero_le _⟩ (fun zv4 => ?_)
    refine lv_istore_n (lv' := [(3, .int v4), (0, .ref g.1), (1, .int x1), (2, .int x2)]) hx hb dX5_set_19 rfl hl (by decide) rfl (fun ls hl => ?_)
    refine lv_aload_n hx hb dX5_set_20 rfl (lv_at hl 1 rfl) ?_
    refine va_get (v := .ref g.2.1) (C := RX5) (T := TX5) (N := 10) hx hb hts hiX5 hown hK hP 0 rfl rfl 0 (by decide) hk7 (fun _ h9 => h9) rfl dX5_set_21 ?_
    refine lv_bipush (v := 13) hx hb dX5_set_24 (by decide) ?_
    refine lv_iload_n hx hb dX5_set_26 rfl (lv_at hl 2 rfl) ?_
    refine lv_iadd hx hb dX5_set_27 ?_
    refine lv_iload_n hx hb dX5_set_28 rfl (lv_at hl 3 rfl) ?_
    obtain ⟨f5, hf5, hf⟩ := bnd hf
    refine xa_iast (wn := (wM ks g (mkMD f5 (MD.past M3) (MD.aside M3) (MD.text M3) (MD.pasts M3) (MD.length M3) (MD.spot M3) (MD.itsThickness M3) (MD.itsRows M3) (MD.from_ M3)))) hx hb hK hP hD hS hf5 1 0 rfl rfl dX5_set_29 rfl (fun H locs hP hD hS => ?_)
    refine lv_iload_n hx hb dX5_set_30 rfl (lv_at hl 0 rfl) ?_
    obtain ⟨rfl, rfl⟩ := inj2 hf
    exact hret trivial _ _ _ _ dX5_set_31 (fun ty h => by cases h; rfl) hP hD hS
  · replace hf := ifT hf c2
    refine lv_iconst (v := (-1)) hx hb dX5_set_8 (by decide) ?_
    obtain ⟨rfl, rfl⟩ := inj2 hf
    exact hret trivial _ _ _ _ dX5_set_9 (fun ty h => by cases h; rfl) hP hD hS

/-! ===== X5_dip ===== -/
def p_X5_dip_L58 (k : Nat) (y1 : Int32) (y2 : Int32) (y3 : Int32) : Nat → (MD) → (Int32) → Option (Int32 × MD)
  | 0, _, _ => none
  | n + 1, M, x4 =>
    if y1 ≤ x4 then ((p_X5_liquid k M).bind fun v2 => some (v2, M)) else ((p_X5_newRow k M (y2 + (x4 * y3))).bind fun M3 => p_X5_dip_L58 k y1 y2 y3 n M3 (x4 + 1))

def p_X5_dip (k : Nat) (M : MD) (x1 : Int32) (x2 : Int32) (x3 : Int32) : Option (Int32 × MD) :=
  (p_X5_in k x1 1 24).bind fun v1 => if v1 = 0 then (some ((-1), M)) else ((p_X5_in k x2 0 5000).bind fun v3 => if v3 = 0 then (some ((-1), M)) else ((p_X5_in k x3 0 500).bind fun v5 => if v5 = 0 then (some ((-1), M)) else (if (x2 + ((x1 - 1) * x3)) ≤ 5000 then ((p_X5_records k M).bind fun M8 => (p_X5_takesAway k M8).bind fun M9 => p_X5_dip_L58 k x1 x2 x3 k M9 0) else (some ((-1), M)))))

set_option maxHeartbeats 4000000 in
set_option maxRecDepth 100000 in
theorem c_X5_dip {l : Launch} {D : va_G} {ks : K3} (k : Nat) (g : AM) (M : MD) (x1 : Int32) (x2 : Int32) (x3 : Int32) (r : Int32) (rM : MD) (hf : p_X5_dip k M x1 x2 x3 = some (r, rM)) : MetI l yX5_dip wsX5_dip { frames := 2, cells := 0, slots := 0, locals := 42 } D ks [.ref g.1, .int x1, .int x2, .int x3] (wM ks g M) (wM ks g rM) r True := by
  refine MetI.of (cc := cX5_dip) (maxL := 5) (ret := (some .int)) (by decide +kernel) rfl (Nat.le_of_ble_eq_true rfl) ?_ ⟨_, rfl⟩
  intro p e s m below meth c Q A hx hb hml hts hown hP hX hD hA hret ls hl
  have hK := hX.1
  replace hl : lv_has ls 5 [(0, .ref g.1), (1, .int x1), (2, .int x2), (3, .int x3)] := hl
  have hS : va_S A s.heap s.heap [] := va_S.rf
  unfold p_X5_dip at hf
  refine lv_iload_n hx hb dX5_dip_0 rfl (lv_at hl 1 rfl) ?_
  refine lv_iconst (v := 1) hx hb dX5_dip_1 (by decide) ?_
  refine lv_bipush (v := 24) hx hb dX5_dip_2 (by decide) ?_
  obtain ⟨v1, hv1, hf⟩ := bnd hf
  refine xcallRS (As := [.int x1, .int 1, .int 24]) (rest := []) (wc := []) ⟨hx, hb, hml, hown, hts⟩ (c_X5_in k x1 1 24 v1 hv1) (va_cwS 3 hts gX5_dip_X5_in rfl rfl rfl (by decide +kernel) ⟨Nat.le_of_ble_eq_true rfl, Nat.le_of_ble_eq_true rfl⟩) hX (va_P0 _ _ _) rfl hl.1 rfl (Nat.le_of_ble_eq_true rfl) dX5_dip_4 ⟨Nat.zero_le _, Nat.zero_le _⟩ (fun zv1 => ?_)
  refine lv_if_eq (tgt := 45) hx hb dX5_dip_7 (by decide) (fun c2 => ?_) (fun c2 => ?_)
  · replace hf := ifT hf c2
    refine lv_iconst (v := (-1)) hx hb dX5_dip_45 (by decide) ?_
    obtain ⟨rfl, rfl⟩ := inj2 hf
    exact hret trivial _ _ _ _ dX5_dip_46 (fun ty h => by cases h; rfl) hP hD hS
  · replace hf := ifF hf c2
    refine lv_iload_n hx hb dX5_dip_10 rfl (lv_at hl 2 rfl) ?_
    refine lv_iconst (v := 0) hx hb dX5_dip_11 (by decide) ?_
    refine lv_sipush (v := 5000) hx hb dX5_dip_12 (by decide) ?_
    obtain ⟨v3, hv3, hf⟩ := bnd hf
    refine xcallRS (As := [.int x2, .int 0, .int 5000]) (rest := []) (wc := []) ⟨hx, hb, hml, hown, hts⟩ (c_X5_in k x2 0 5000 v3 hv3) (va_cwS 3 hts gX5_dip_X5_in rfl rfl rfl (by decide +kernel) ⟨Nat.le_of_ble_eq_true rfl, Nat.le_of_ble_eq_true rfl⟩) hX (va_P0 _ _ _) rfl hl.1 rfl (Nat.le_of_ble_eq_true rfl) dX5_dip_15 ⟨Nat.zero_le _, Nat.zero_le _⟩ (fun zv3 => ?_)
    refine lv_if_eq (tgt := 45) hx hb dX5_dip_18 (by decide) (fun c4 => ?_) (fun c4 => ?_)
    · replace hf := ifT hf c4
      refine lv_iconst (v := (-1)) hx hb dX5_dip_45 (by decide) ?_
      obtain ⟨rfl, rfl⟩ := inj2 hf
      exact hret trivial _ _ _ _ dX5_dip_46 (fun ty h => by cases h; rfl) hP hD hS
    · replace hf := ifF hf c4
      refine lv_iload_n hx hb dX5_dip_21 rfl (lv_at hl 3 rfl) ?_
      refine lv_iconst (v := 0) hx hb dX5_dip_22 (by decide) ?_
      refine lv_sipush (v := 500) hx hb dX5_dip_23 (by decide) ?_
      obtain ⟨v5, hv5, hf⟩ := bnd hf
      refine xcallRS (As := [.int x3, .int 0, .int 500]) (rest := []) (wc := []) ⟨hx, hb, hml, hown, hts⟩ (c_X5_in k x3 0 500 v5 hv5) (va_cwS 3 hts gX5_dip_X5_in rfl rfl rfl (by decide +kernel) ⟨Nat.le_of_ble_eq_true rfl, Nat.le_of_ble_eq_true rfl⟩) hX (va_P0 _ _ _) rfl hl.1 rfl (Nat.le_of_ble_eq_true rfl) dX5_dip_26 ⟨Nat.zero_le _, Nat.zero_le _⟩ (fun zv5 => ?_)
      refine lv_if_eq (tgt := 45) hx hb dX5_dip_29 (by decide) (fun c6 => ?_) (fun c6 => ?_)
      · replace hf := ifT hf c6
        refine lv_iconst (v := (-1)) hx hb dX5_dip_45 (by decide) ?_
        obtain ⟨rfl, rfl⟩ := inj2 hf
        exact hret trivial _ _ _ _ dX5_dip_46 (fun ty h => by cases h; rfl) hP hD hS
      · replace hf := ifF hf c6
        refine lv_iload_n hx hb dX5_dip_32 rfl (lv_at hl 2 rfl) ?_
        refine lv_iload_n hx hb dX5_dip_33 rfl (lv_at hl 1 rfl) ?_
        refine lv_iconst (v := 1) hx hb dX5_dip_34 (by decide) ?_
        refine lv_isub hx hb dX5_dip_35 ?_
        refine lv_iload_n hx hb dX5_dip_36 rfl (lv_at hl 3 rfl) ?_
        refine lv_imul hx hb dX5_dip_37 ?_
        refine lv_iadd hx hb dX5_dip_38 ?_
        refine lv_sipush (v := 5000) hx hb dX5_dip_39 (by decide) ?_
        refine lv_icmp_le (tgt := 47) hx hb dX5_dip_42 (by decide) (fun c7 => ?_) (fun c7 => ?_)
        · replace hf := ifT hf c7
          refine lv_aload_n hx hb dX5_dip_47 rfl (lv_at hl 0 rfl) ?_
          obtain ⟨M8, hM8, hf⟩ := bnd hf
          refine xcallV (As := []) (rest := []) (wc := (wM ks g M)) (w1 := (wM ks g M8)) (wr := ([] : va_W)) (wn := (wM ks g M8)) ⟨hx, hb, hml, hown, hts⟩ (c_X5_records k g M M8 hM8) (cwV 0 hts gX5_dip_X5_records rfl rfl rfl (by decide +kernel) ⟨Nat.le_of_ble_eq_true rfl, Nat.le_of_ble_eq_true rfl⟩) hX hP hD hS hA [0, 1, 2, 3, 4] [] [0, 1, 2, 3, 4] rfl rfl rfl ⟨by decide, by decide, by decide⟩ (by decide) (ci := 4) (q0 := 0) rfl rfl rfl hl.1 rfl (Nat.le_of_ble_eq_true rfl) dX5_dip_48 ⟨Nat.zero_le _, Nat.zero_le _⟩ (fun H locs hP hD hS => ?_)
          refine lv_aload_n hx hb dX5_dip_51 rfl (lv_at hl 0 rfl) ?_
          obtain ⟨M9, hM9, hf⟩ := bnd hf
          refine xcallV (As := []) (rest := []) (wc := (wM ks g M8)) (w1 := (wM ks g M9)) (wr := ([] : va_W)) (wn := (wM ks g M9)) ⟨hx, hb, hml, hown, hts⟩ (c_X5_takesAway k g M8 M9 hM9) (cwV 0 hts gX5_dip_X5_takesAway rfl rfl rfl (by decide +kernel) ⟨Nat.le_of_ble_eq_true rfl, Nat.le_of_ble_eq_true rfl⟩) hX hP hD hS hA [0, 1, 2, 3, 4] [] [0, 1, 2, 3, 4] rfl rfl rfl ⟨by decide, by decide, by decide⟩ (by decide) (ci := 4) (q0 := 0) rfl rfl rfl hl.1 rfl (Nat.le_of_ble_eq_true rfl) dX5_dip_52 ⟨Nat.zero_le _, Nat.zero_le _⟩ (fun H locs hP hD hS => ?_)
          refine lv_iconst (v := 0) hx hb dX5_dip_55 (by decide) ?_
          refine lv_istore (lv' := [(4, .int 0), (0, .ref g.1), (1, .int x1), (2, .int x2), (3, .int x3)]) hx hb dX5_dip_56 hl (by decide) rfl (fun ls hl => ?_)
          have L58 : ∀ (n : Nat) (Mq58 : MD) (x4q58 : Int32) (H : Heap) (locs : List Loc) (ls : Array Slot), p_X5_dip_L58 k x1 x2 x3 n Mq58 x4q58 = some (r, rM) → va_P D vwCl (wM ks g Mq58) H → va_D A (wM ks g Mq58) → va_S A s.heap H locs → lv_has ls 5 [(0, .ref g.1), (1, .int x1), (2, .int x2), (3, .int x3), (4, .int x4q58)] → W p l e { frames := 2, cells := 0, slots := 0, locals := 42 } s m ([.ref g.1, .int x1, .int x2, .int x3] : List Value).toArray below meth c H locs 0 0 Q (F0 m 58 ls []) := by
            intro n
            induction n with
            | zero => intro Mq58 x4q58 H locs ls hf; cases hf
            | succ n ih58 =>
              intro Mq58 x4q58 H locs ls hf hP hD hS hl
              rw [p_X5_dip_L58] at hf
              refine lv_iload hx hb dX5_dip_58 (lv_at hl 4 rfl) ?_
              refine lv_iload_n hx hb dX5_dip_60 rfl (lv_at hl 1 rfl) ?_
              refine lv_icmp_ge (tgt := 80) hx hb dX5_dip_61 (by decide) (fun c10 => ?_) (fun c10 => ?_)
              · replace hf := ifT hf c10
                refine lv_aload_n hx hb dX5_dip_80 rfl (lv_at hl 0 rfl) ?_
                obtain ⟨v11, hv11, hf⟩ := bnd hf
                refine xcallRV (As := []) (rest := []) (wc := (wM ks g Mq58)) ⟨hx, hb, hml, hown, hts⟩ (c_X5_liquid k g Mq58 v11 hv11) (cwV 0 hts gX5_dip_X5_liquid rfl rfl rfl (by decide +kernel) ⟨Nat.le_of_ble_eq_true rfl, Nat.le_of_ble_eq_true rfl⟩) hX hP (ci := 4) (q0 := 0) rfl rfl rfl hl.1 rfl (Nat.le_of_ble_eq_true rfl) dX5_dip_81 ⟨Nat.zero_le _, Nat.zero_le _⟩ (fun zv11 => ?_)
                obtain ⟨rfl, rfl⟩ := inj2 hf
                exact hret trivial _ _ _ _ dX5_dip_84 (fun ty h => by cases h; rfl) hP hD hS
              · replace hf := ifF hf c10
                refine lv_aload_n hx hb dX5_dip_64 rfl (lv_at hl 0 rfl) ?_
                refine lv_iload_n hx hb dX5_dip_65 rfl (lv_at hl 2 rfl) ?_
                refine lv_iload hx hb dX5_dip_66 (lv_at hl 4 rfl) ?_
                refine lv_iload_n hx hb dX5_dip_68 rfl (lv_at hl 3 rfl) ?_
                refine lv_imul hx hb dX5_dip_69 ?_
                refine lv_iadd hx hb dX5_dip_70 ?_
                obtain ⟨M12, hM12, hf⟩ := bnd hf
                refine xcallV (As := [.int (x2 + (x4q58 * x3))]) (rest := []) (wc := (wM ks g Mq58)) (w1 := (wM ks g M12)) (wr := ([] : va_W)) (wn := (wM ks g M12)) ⟨hx, hb, hml, hown, hts⟩ (c_X5_newRow k g Mq58 (x2 + (x4q58 * x3)) M12 hM12) (cwV 1 hts gX5_dip_X5_newRow rfl rfl rfl (by decide +kernel) ⟨Nat.le_of_ble_eq_true rfl, Nat.le_of_ble_eq_true rfl⟩) hX hP hD hS hA [0, 1, 2, 3, 4] [] [0, 1, 2, 3, 4] rfl rfl rfl ⟨by decide, by decide, by decide⟩ (by decide) (ci := 4) (q0 := 0) rfl rfl rfl hl.1 rfl (Nat.le_of_ble_eq_true rfl) dX5_dip_71 ⟨Nat.zero_le _, Nat.zero_le _⟩ (fun H locs hP hD hS => ?_)
                refine lv_iinc (v := (x4q58 + 1)) (lv' := [(4, .int (x4q58 + 1)), (0, .ref g.1), (1, .int x1), (2, .int x2), (3, .int x3)]) hx hb dX5_dip_74 hl (k := 4) rfl rfl (by decide) rfl (fun ls hl => ?_)
                refine lv_goto (tgt := 58) hx hb dX5_dip_77 (by decide) ?_
                exact ih58 _ _  _ _ _ hf hP hD hS (lv_sub hl [1, 2, 3, 4, 0] rfl)
          exact L58 k _ _ _ _ _ hf hP hD hS (lv_sub hl [1, 2, 3, 4, 0] rfl)
        · replace hf := ifF hf c7
          refine lv_iconst (v := (-1)) hx hb dX5_dip_45 (by decide) ?_
          obtain ⟨rfl, rfl⟩ := inj2 hf
          exact hret trivial _ _ _ _ dX5_dip_46 (fun ty h => by cases h; rfl) hP hD hS

/-! ===== X5_pour ===== -/
def p_X5_pour (k : Nat) (M : MD) (x1 : Int32) (x2 : Int32) : Option (Int32 × MD) :=
  (p_X5_isRow k M x1).bind fun v1 => if v1 = 0 then (some ((-1), M)) else ((p_X5_in k x2 1 5000).bind fun v3 => if v3 = 0 then (some ((-1), M)) else ((ald (MD.st M) 44 (20 + x1)).bind fun v5 => if (v5 + x2) ≤ 5000 then ((p_X5_records k M).bind fun M7 => (ald (MD.st M7) 44 (20 + x1)).bind fun v8 => (ast (MD.st M7) 44 (20 + x1) (v8 + x2)).bind fun f9 => (ald f9 44 3).bind fun v10 => (ast f9 44 3 (v10 + x2)).bind fun f11 => (ald f11 44 (20 + x1)).bind fun v12 => some (v12, (mkMD f11 (MD.past M7) (MD.aside M7) (MD.text M7) (MD.pasts M7) (MD.length M7) (MD.spot M7) (MD.itsThickness M7) (MD.itsRows M7) (MD.from_ M7)))) else (some ((-3), M))))

set_option maxHeartbeats 4000000 in
set_option maxRecDepth 100000 in
theorem c_X5_pour {l : Launch} {D : va_G} {ks : K3} (k : Nat) (g : AM) (M : MD) (x1 : Int32) (x2 : Int32) (r : Int32) (rM : MD) (hf : p_X5_pour k M x1 x2 = some (r, rM)) : MetI l yX5_pour wsX5_pour { frames := 2, cells := 0, slots := 0, locals := 43 } D ks [.ref g.1, .int x1, .int x2] (wM ks g M) (wM ks g rM) r True := by
  refine MetI.of (cc := cX5_pour) (maxL := 3) (ret := (some .int)) (by decide +kernel) rfl (Nat.le_of_ble_eq_true rfl) ?_ ⟨_, rfl⟩
  intro p e s m below meth c Q A hx hb hml hts hown hP hX hD hA hret ls hl
  have hK := hX.1
  replace hl : lv_has ls 3 [(0, .ref g.1), (1, .int x1), (2, .int x2)] := hl
  have hS : va_S A s.heap s.heap [] := va_S.rf
  have hiX5 : ∀ w ∈ wsX50, w ∈ wsX5_pour := by decide +kernel
  have hk7 := hts (.fieldLink RX5 7 "SoapFilmModel" "st" "[I") (by decide +kernel)
  unfold p_X5_pour at hf
  refine lv_aload_n hx hb dX5_pour_0 rfl (lv_at hl 0 rfl) ?_
  refine lv_iload_n hx hb dX5_pour_1 rfl (lv_at hl 1 rfl) ?_
  obtain ⟨v1, hv1, hf⟩ := bnd hf
  refine xcallRV (As := [.int x1]) (rest := []) (wc := (wM ks g M)) ⟨hx, hb, hml, hown, hts⟩ (c_X5_isRow k g M x1 v1 hv1) (cwV 1 hts gX5_pour_X5_isRow rfl rfl rfl (by decide +kernel) ⟨Nat.le_of_ble_eq_true rfl, Nat.le_of_ble_eq_true rfl⟩) hX hP (ci := 4) (q0 := 0) rfl rfl rfl hl.1 rfl (Nat.le_of_ble_eq_true rfl) dX5_pour_2 ⟨Nat.zero_le _, Nat.zero_le _⟩ (fun zv1 => ?_)
  refine lv_if_eq (tgt := 19) hx hb dX5_pour_5 (by decide) (fun c2 => ?_) (fun c2 => ?_)
  · replace hf := ifT hf c2
    refine lv_iconst (v := (-1)) hx hb dX5_pour_19 (by decide) ?_
    obtain ⟨rfl, rfl⟩ := inj2 hf
    exact hret trivial _ _ _ _ dX5_pour_20 (fun ty h => by cases h; rfl) hP hD hS
  · replace hf := ifF hf c2
    refine lv_iload_n hx hb dX5_pour_8 rfl (lv_at hl 2 rfl) ?_
    refine lv_iconst (v := 1) hx hb dX5_pour_9 (by decide) ?_
    refine lv_sipush (v := 5000) hx hb dX5_pour_10 (by decide) ?_
    obtain ⟨v3, hv3, hf⟩ := bnd hf
    refine xcallRS (As := [.int x2, .int 1, .int 5000]) (rest := []) (wc := []) ⟨hx, hb, hml, hown, hts⟩ (c_X5_in k x2 1 5000 v3 hv3) (va_cwS 3 hts gX5_pour_X5_in rfl rfl rfl (by decide +kernel) ⟨Nat.le_of_ble_eq_true rfl, Nat.le_of_ble_eq_true rfl⟩) hX (va_P0 _ _ _) rfl hl.1 rfl (Nat.le_of_ble_eq_true rfl) dX5_pour_13 ⟨Nat.zero_le _, Nat.zero_le _⟩ (fun zv3 => ?_)
    refine lv_if_ne (tgt := 21) hx hb dX5_pour_16 (by decide) (fun c4 => ?_) (fun c4 => ?_)
    · replace hf := ifF hf c4
      refine lv_aload_n hx hb dX5_pour_21 rfl (lv_at hl 0 rfl) ?_
      refine va_get (v := .ref g.2.1) (C := RX5) (T := TX5) (N := 10) hx hb hts hiX5 hown hK hP 0 rfl rfl 0 (by decide) hk7 (fun _ h9 => h9) rfl dX5_pour_22 ?_
      refine lv_bipush (v := 20) hx hb dX5_pour_25 (by decide) ?_
      refine lv_iload_n hx hb dX5_pour_27 rfl (lv_at hl 1 rfl) ?_
      refine lv_iadd hx hb dX5_pour_28 ?_
      obtain ⟨v5, hv5, hf⟩ := bnd hf
      refine xa_iald hx hb hK hP hv5 1 0 rfl rfl dX5_pour_29 ?_
      refine lv_iload_n hx hb dX5_pour_30 rfl (lv_at hl 2 rfl) ?_
      refine lv_iadd hx hb dX5_pour_31 ?_
      refine lv_sipush (v := 5000) hx hb dX5_pour_32 (by decide) ?_
      refine lv_icmp_le (tgt := 41) hx hb dX5_pour_35 (by decide) (fun c6 => ?_) (fun c6 => ?_)
      · replace hf := ifT hf c6
        refine lv_aload_n hx hb dX5_pour_41 rfl (lv_at hl 0 rfl) ?_
        obtain ⟨M7, hM7, hf⟩ := bnd hf
        refine xcallV (As := []) (rest := []) (wc := (wM ks g M)) (w1 := (wM ks g M7)) (wr := ([] : va_W)) (wn := (wM ks g M7)) ⟨hx, hb, hml, hown, hts⟩ (c_X5_records k g M M7 hM7) (cwV 0 hts gX5_pour_X5_records rfl rfl rfl (by decide +kernel) ⟨Nat.le_of_ble_eq_true rfl, Nat.le_of_ble_eq_true rfl⟩) hX hP hD hS hA [0, 1, 2, 3, 4] [] [0, 1, 2, 3, 4] rfl rfl rfl ⟨by decide, by decide, by decide⟩ (by decide) (ci := 4) (q0 := 0) rfl rfl rfl hl.1 rfl (Nat.le_of_ble_eq_true rfl) dX5_pour_42 ⟨Nat.zero_le _, Nat.zero_le _⟩ (fun H locs hP hD hS => ?_)
        refine lv_aload_n hx hb dX5_pour_45 rfl (lv_at hl 0 rfl) ?_
        refine va_get (v := .ref g.2.1) (C := RX5) (T := TX5) (N := 10) hx hb hts hiX5 hown hK hP 0 rfl rfl 0 (by decide) hk7 (fun _ h9 => h9) rfl dX5_pour_46 ?_
        refine lv_bipush (v := 20) hx hb dX5_pour_49 (by decide) ?_
        refine lv_iload_n hx hb dX5_pour_51 rfl (lv_at hl 1 rfl) ?_
        refine lv_iadd hx hb dX5_pour_52 ?_
        refine lv_dup2_11 hx hb dX5_pour_53 rfl rfl ?_
        obtain ⟨v8, hv8, hf⟩ := bnd hf
        refine xa_iald hx hb hK hP hv8 1 0 rfl rfl dX5_pour_54 ?_
        refine lv_iload_n hx hb dX5_pour_55 rfl (lv_at hl 2 rfl) ?_
        refine lv_iadd hx hb dX5_pour_56 ?_
        obtain ⟨f9, hf9, hf⟩ := bnd hf
        refine xa_iast (wn := (wM ks g (mkMD f9 (MD.past M7) (MD.aside M7) (MD.text M7) (MD.pasts M7) (MD.length M7) (MD.spot M7) (MD.itsThickness M7) (MD.itsRows M7) (MD.from_ M7)))) hx hb hK hP hD hS hf9 1 0 rfl rfl dX5_pour_57 rfl (fun H locs hP hD hS => ?_)
        refine lv_aload_n hx hb dX5_pour_58 rfl (lv_at hl 0 rfl) ?_
        refine va_get (v := .ref g.2.1) (C := RX5) (T := TX5) (N := 10) hx hb hts hiX5 hown hK hP 0 rfl rfl 0 (by decide) hk7 (fun _ h9 => h9) rfl dX5_pour_59 ?_
        refine lv_iconst (v := 3) hx hb dX5_pour_62 (by decide) ?_
        refine lv_dup2_11 hx hb dX5_pour_63 rfl rfl ?_
        obtain ⟨v10, hv10, hf⟩ := bnd hf
        refine xa_iald hx hb hK hP hv10 1 0 rfl rfl dX5_pour_64 ?_
        refine lv_iload_n hx hb dX5_pour_65 rfl (lv_at hl 2 rfl) ?_
        refine lv_iadd hx hb dX5_pour_66 ?_
        obtain ⟨f11, hf11, hf⟩ := bnd hf
        refine xa_iast (wn := (wM ks g (mkMD f11 (MD.past M7) (MD.aside M7) (MD.text M7) (MD.pasts M7) (MD.length M7) (MD.spot M7) (MD.itsThickness M7) (MD.itsRows M7) (MD.from_ M7)))) hx hb hK hP hD hS hf11 1 0 rfl rfl dX5_pour_67 rfl (fun H locs hP hD hS => ?_)
        refine lv_aload_n hx hb dX5_pour_68 rfl (lv_at hl 0 rfl) ?_
        refine va_get (v := .ref g.2.1) (C := RX5) (T := TX5) (N := 10) hx hb hts hiX5 hown hK hP 0 rfl rfl 0 (by decide) hk7 (fun _ h9 => h9) rfl dX5_pour_69 ?_
        refine lv_bipush (v := 20) hx hb dX5_pour_72 (by decide) ?_
        refine lv_iload_n hx hb dX5_pour_74 rfl (lv_at hl 1 rfl) ?_
        refine lv_iadd hx hb dX5_pour_75 ?_
        obtain ⟨v12, hv12, hf⟩ := bnd hf
        refine xa_iald hx hb hK hP hv12 1 0 rfl rfl dX5_pour_76 ?_
        obtain ⟨rfl, rfl⟩ := inj2 hf
        exact hret trivial _ _ _ _ dX5_pour_77 (fun ty h => by cases h; rfl) hP hD hS
      · replace hf := ifF hf c6
        refine lv_bipush (v := (-3)) hx hb dX5_pour_38 (by decide) ?_
        obtain ⟨rfl, rfl⟩ := inj2 hf
        exact hret trivial _ _ _ _ dX5_pour_40 (fun ty h => by cases h; rfl) hP hD hS
    · replace hf := ifT hf c4
      refine lv_iconst (v := (-1)) hx hb dX5_pour_19 (by decide) ?_
      obtain ⟨rfl, rfl⟩ := inj2 hf
      exact hret trivial _ _ _ _ dX5_pour_20 (fun ty h => by cases h; rfl) hP hD hS

/-! ===== X5_add ===== -/
def p_X5_add (k : Nat) (M : MD) (x1 : Int32) : Option (Int32 × MD) :=
  (p_X5_in k x1 0 5000).bind fun v1 => if v1 = 0 then (some ((-1), M)) else ((ald (MD.st M) 44 0).bind fun v3 => if v3 = 0 then (some ((-2), M)) else ((ald (MD.st M) 44 0).bind fun v5 => if v5 = 24 then (some ((-3), M)) else ((p_X5_records k M).bind fun M7 => (p_X5_newRow k M7 x1).bind fun M8 => (ald (MD.st M8) 44 0).bind fun v9 => some (v9, M8))))

set_option maxHeartbeats 4000000 in
set_option maxRecDepth 100000 in
theorem c_X5_add {l : Launch} {D : va_G} {ks : K3} (k : Nat) (g : AM) (M : MD) (x1 : Int32) (r : Int32) (rM : MD) (hf : p_X5_add k M x1 = some (r, rM)) : MetI l yX5_add wsX5_add { frames := 1, cells := 0, slots := 0, locals := 22 } D ks [.ref g.1, .int x1] (wM ks g M) (wM ks g rM) r True := by
  refine MetI.of (cc := cX5_add) (maxL := 2) (ret := (some .int)) (by decide +kernel) rfl (Nat.le_of_ble_eq_true rfl) ?_ ⟨_, rfl⟩
  intro p e s m below meth c Q A hx hb hml hts hown hP hX hD hA hret ls hl
  have hK := hX.1
  replace hl : lv_has ls 2 [(0, .ref g.1), (1, .int x1)] := hl
  have hS : va_S A s.heap s.heap [] := va_S.rf
  have hiX5 : ∀ w ∈ wsX50, w ∈ wsX5_add := by decide +kernel
  have hk7 := hts (.fieldLink RX5 7 "SoapFilmModel" "st" "[I") (by decide +kernel)
  unfold p_X5_add at hf
  refine lv_iload_n hx hb dX5_add_0 rfl (lv_at hl 1 rfl) ?_
  refine lv_iconst (v := 0) hx hb dX5_add_1 (by decide) ?_
  refine lv_sipush (v := 5000) hx hb dX5_add_2 (by decide) ?_
  obtain ⟨v1, hv1, hf⟩ := bnd hf
  refine xcallRS (As := [.int x1, .int 0, .int 5000]) (rest := []) (wc := []) ⟨hx, hb, hml, hown, hts⟩ (c_X5_in k x1 0 5000 v1 hv1) (va_cwS 3 hts gX5_add_X5_in rfl rfl rfl (by decide +kernel) ⟨Nat.le_of_ble_eq_true rfl, Nat.le_of_ble_eq_true rfl⟩) hX (va_P0 _ _ _) rfl hl.1 rfl (Nat.le_of_ble_eq_true rfl) dX5_add_5 ⟨Nat.zero_le _, Nat.zero_le _⟩ (fun zv1 => ?_)
  refine lv_if_ne (tgt := 13) hx hb dX5_add_8 (by decide) (fun c2 => ?_) (fun c2 => ?_)
  · replace hf := ifF hf c2
    refine lv_aload_n hx hb dX5_add_13 rfl (lv_at hl 0 rfl) ?_
    refine va_get (v := .ref g.2.1) (C := RX5) (T := TX5) (N := 10) hx hb hts hiX5 hown hK hP 0 rfl rfl 0 (by decide) hk7 (fun _ h9 => h9) rfl dX5_add_14 ?_
    refine lv_iconst (v := 0) hx hb dX5_add_17 (by decide) ?_
    obtain ⟨v3, hv3, hf⟩ := bnd hf
    refine xa_iald hx hb hK hP hv3 1 0 rfl rfl dX5_add_18 ?_
    refine lv_if_ne (tgt := 25) hx hb dX5_add_19 (by decide) (fun c4 => ?_) (fun c4 => ?_)
    · replace hf := ifF hf c4
      refine lv_aload_n hx hb dX5_add_25 rfl (lv_at hl 0 rfl) ?_
      refine va_get (v := .ref g.2.1) (C := RX5) (T := TX5) (N := 10) hx hb hts hiX5 hown hK hP 0 rfl rfl 0 (by decide) hk7 (fun _ h9 => h9) rfl dX5_add_26 ?_
      refine lv_iconst (v := 0) hx hb dX5_add_29 (by decide) ?_
      obtain ⟨v5, hv5, hf⟩ := bnd hf
      refine xa_iald hx hb hK hP hv5 1 0 rfl rfl dX5_add_30 ?_
      refine lv_bipush (v := 24) hx hb dX5_add_31 (by decide) ?_
      refine lv_icmp_ne (tgt := 39) hx hb dX5_add_33 (by decide) (fun c6 => ?_) (fun c6 => ?_)
      · replace hf := ifF hf c6
        refine lv_aload_n hx hb dX5_add_39 rfl (lv_at hl 0 rfl) ?_
        obtain ⟨M7, hM7, hf⟩ := bnd hf
        refine xcallV (As := []) (rest := []) (wc := (wM ks g M)) (w1 := (wM ks g M7)) (wr := ([] : va_W)) (wn := (wM ks g M7)) ⟨hx, hb, hml, hown, hts⟩ (c_X5_records k g M M7 hM7) (cwV 0 hts gX5_add_X5_records rfl rfl rfl (by decide +kernel) ⟨Nat.le_of_ble_eq_true rfl, Nat.le_of_ble_eq_true rfl⟩) hX hP hD hS hA [0, 1, 2, 3, 4] [] [0, 1, 2, 3, 4] rfl rfl rfl ⟨by decide, by decide, by decide⟩ (by decide) (ci := 4) (q0 := 0) rfl rfl rfl hl.1 rfl (Nat.le_of_ble_eq_true rfl) dX5_add_40 ⟨Nat.zero_le _, Nat.zero_le _⟩ (fun H locs hP hD hS => ?_)
        refine lv_aload_n hx hb dX5_add_43 rfl (lv_at hl 0 rfl) ?_
        refine lv_iload_n hx hb dX5_add_44 rfl (lv_at hl 1 rfl) ?_
        obtain ⟨M8, hM8, hf⟩ := bnd hf
        refine xcallV (As := [.int x1]) (rest := []) (wc := (wM ks g M7)) (w1 := (wM ks g M8)) (wr := ([] : va_W)) (wn := (wM ks g M8)) ⟨hx, hb, hml, hown, hts⟩ (c_X5_newRow k g M7 x1 M8 hM8) (cwV 1 hts gX5_add_X5_newRow rfl rfl rfl (by decide +kernel) ⟨Nat.le_of_ble_eq_true rfl, Nat.le_of_ble_eq_true rfl⟩) hX hP hD hS hA [0, 1, 2, 3, 4] [] [0, 1, 2, 3, 4] rfl rfl rfl ⟨by decide, by decide, by decide⟩ (by decide) (ci := 4) (q0 := 0) rfl rfl rfl hl.1 rfl (Nat.le_of_ble_eq_true rfl) dX5_add_45 ⟨Nat.zero_le _, Nat.zero_le _⟩ (fun H locs hP hD hS => ?_)
        refine lv_aload_n hx hb dX5_add_48 rfl (lv_at hl 0 rfl) ?_
        refine va_get (v := .ref g.2.1) (C := RX5) (T := TX5) (N := 10) hx hb hts hiX5 hown hK hP 0 rfl rfl 0 (by decide) hk7 (fun _ h9 => h9) rfl dX5_add_49 ?_
        refine lv_iconst (v := 0) hx hb dX5_add_52 (by decide) ?_
        obtain ⟨v9, hv9, hf⟩ := bnd hf
        refine xa_iald hx hb hK hP hv9 1 0 rfl rfl dX5_add_53 ?_
        obtain ⟨rfl, rfl⟩ := inj2 hf
        exact hret trivial _ _ _ _ dX5_add_54 (fun ty h => by cases h; rfl) hP hD hS
      · replace hf := ifT hf c6
        refine lv_bipush (v := (-3)) hx hb dX5_add_36 (by decide) ?_
        obtain ⟨rfl, rfl⟩ := inj2 hf
        exact hret trivial _ _ _ _ dX5_add_38 (fun ty h => by cases h; rfl) hP hD hS
    · replace hf := ifT hf c4
      refine lv_bipush (v := (-2)) hx hb dX5_add_22 (by decide) ?_
      obtain ⟨rfl, rfl⟩ := inj2 hf
      exact hret trivial _ _ _ _ dX5_add_24 (fun ty h => by cases h; rfl) hP hD hS
  · replace hf := ifT hf c2
    refine lv_iconst (v := (-1)) hx hb dX5_add_11 (by decide) ?_
    obtain ⟨rfl, rfl⟩ := inj2 hf
    exact hret trivial _ _ _ _ dX5_add_12 (fun ty h => by cases h; rfl) hP hD hS

/-! ===== X5_thin ===== -/
def p_X5_thin (k : Nat) (M : MD) (x1 : Int32) (x2 : Int32) : Option (Int32 × MD) :=
  (p_X5_isRow k M x1).bind fun v1 => if v1 = 0 then (some ((-1), M)) else ((p_X5_in k x2 1 5000).bind fun v3 => if v3 = 0 then (some ((-1), M)) else ((p_X5_records k M).bind fun M5 => (ald (MD.st M5) 44 (20 + x1)).bind fun v6 => (p_X5_lesser k x2 v6).bind fun v7 => (ald (MD.st M5) 44 (20 + x1)).bind fun v8 => (ast (MD.st M5) 44 (20 + x1) (v8 - v7)).bind fun f9 => (ald f9 44 7).bind fun v10 => (ast f9 44 7 (v10 + v7)).bind fun f11 => some (v7, (mkMD f11 (MD.past M5) (MD.aside M5) (MD.text M5) (MD.pasts M5) (MD.length M5) (MD.spot M5) (MD.itsThickness M5) (MD.itsRows M5) (MD.from_ M5)))))

set_option maxHeartbeats 4000000 in
set_option maxRecDepth 100000 in
theorem c_X5_thin {l : Launch} {D : va_G} {ks : K3} (k : Nat) (g : AM) (M : MD) (x1 : Int32) (x2 : Int32) (r : Int32) (rM : MD) (hf : p_X5_thin k M x1 x2 = some (r, rM)) : MetI l yX5_thin wsX5_thin { frames := 2, cells := 0, slots := 0, locals := 43 } D ks [.ref g.1, .int x1, .int x2] (wM ks g M) (wM ks g rM) r True := by
  refine MetI.of (cc := cX5_thin) (maxL := 4) (ret := (some .int)) (by decide +kernel) rfl (Nat.le_of_ble_eq_true rfl) ?_ ⟨_, rfl⟩
  intro p e s m below meth c Q A hx hb hml hts hown hP hX hD hA hret ls hl
  have hK := hX.1
  replace hl : lv_has ls 4 [(0, .ref g.1), (1, .int x1), (2, .int x2)] := hl
  have hS : va_S A s.heap s.heap [] := va_S.rf
  have hiX5 : ∀ w ∈ wsX50, w ∈ wsX5_thin := by decide +kernel
  have hk7 := hts (.fieldLink RX5 7 "SoapFilmModel" "st" "[I") (by decide +kernel)
  unfold p_X5_thin at hf
  refine lv_aload_n hx hb dX5_thin_0 rfl (lv_at hl 0 rfl) ?_
  refine lv_iload_n hx hb dX5_thin_1 rfl (lv_at hl 1 rfl) ?_
  obtain ⟨v1, hv1, hf⟩ := bnd hf
  refine xcallRV (As := [.int x1]) (rest := []) (wc := (wM ks g M)) ⟨hx, hb, hml, hown, hts⟩ (c_X5_isRow k g M x1 v1 hv1) (cwV 1 hts gX5_thin_X5_isRow rfl rfl rfl (by decide +kernel) ⟨Nat.le_of_ble_eq_true rfl, Nat.le_of_ble_eq_true rfl⟩) hX hP (ci := 4) (q0 := 0) rfl rfl rfl hl.1 rfl (Nat.le_of_ble_eq_true rfl) dX5_thin_2 ⟨Nat.zero_le _, Nat.zero_le _⟩ (fun zv1 => ?_)
  refine lv_if_eq (tgt := 19) hx hb dX5_thin_5 (by decide) (fun c2 => ?_) (fun c2 => ?_)
  · replace hf := ifT hf c2
    refine lv_iconst (v := (-1)) hx hb dX5_thin_19 (by decide) ?_
    obtain ⟨rfl, rfl⟩ := inj2 hf
    exact hret trivial _ _ _ _ dX5_thin_20 (fun ty h => by cases h; rfl) hP hD hS
  · replace hf := ifF hf c2
    refine lv_iload_n hx hb dX5_thin_8 rfl (lv_at hl 2 rfl) ?_
    refine lv_iconst (v := 1) hx hb dX5_thin_9 (by decide) ?_
    refine lv_sipush (v := 5000) hx hb dX5_thin_10 (by decide) ?_
    obtain ⟨v3, hv3, hf⟩ := bnd hf
    refine xcallRS (As := [.int x2, .int 1, .int 5000]) (rest := []) (wc := []) ⟨hx, hb, hml, hown, hts⟩ (c_X5_in k x2 1 5000 v3 hv3) (va_cwS 3 hts gX5_thin_X5_in rfl rfl rfl (by decide +kernel) ⟨Nat.le_of_ble_eq_true rfl, Nat.le_of_ble_eq_true rfl⟩) hX (va_P0 _ _ _) rfl hl.1 rfl (Nat.le_of_ble_eq_true rfl) dX5_thin_13 ⟨Nat.zero_le _, Nat.zero_le _⟩ (fun zv3 => ?_)
    refine lv_if_ne (tgt := 21) hx hb dX5_thin_16 (by decide) (fun c4 => ?_) (fun c4 => ?_)
    · replace hf := ifF hf c4
      refine lv_aload_n hx hb dX5_thin_21 rfl (lv_at hl 0 rfl) ?_
      obtain ⟨M5, hM5, hf⟩ := bnd hf
      refine xcallV (As := []) (rest := []) (wc := (wM ks g M)) (w1 := (wM ks g M5)) (wr := ([] : va_W)) (wn := (wM ks g M5)) ⟨hx, hb, hml, hown, hts⟩ (c_X5_records k g M M5 hM5) (cwV 0 hts gX5_thin_X5_records rfl rfl rfl (by decide +kernel) ⟨Nat.le_of_ble_eq_true rfl, Nat.le_of_ble_eq_true rfl⟩) hX hP hD hS hA [0, 1, 2, 3, 4] [] [0, 1, 2, 3, 4] rfl rfl rfl ⟨by decide, by decide, by decide⟩ (by decide) (ci := 4) (q0 := 0) rfl rfl rfl hl.1 rfl (Nat.le_of_ble_eq_true rfl) dX5_thin_22 ⟨Nat.zero_le _, Nat.zero_le _⟩ (fun H locs hP hD hS => ?_)
      refine lv_iload_n hx hb dX5_thin_25 rfl (lv_at hl 2 rfl) ?_
      refine lv_aload_n hx hb dX5_thin_26 rfl (lv_at hl 0 rfl) ?_
      refine va_get (v := .ref g.2.1) (C := RX5) (T := TX5) (N := 10) hx hb hts hiX5 hown hK hP 0 rfl rfl 0 (by decide) hk7 (fun _ h9 => h9) rfl dX5_thin_27 ?_
      refine lv_bipush (v := 20) hx hb dX5_thin_30 (by decide) ?_
      refine lv_iload_n hx hb dX5_thin_32 rfl (lv_at hl 1 rfl) ?_
      refine lv_iadd hx hb dX5_thin_33 ?_
      obtain ⟨v6, hv6, hf⟩ := bnd hf
      refine xa_iald hx hb hK hP hv6 1 0 rfl rfl dX5_thin_34 ?_
      obtain ⟨v7, hv7, hf⟩ := bnd hf
      refine xcallRS (As := [.int x2, .int v6]) (rest := []) (wc := []) ⟨hx, hb, hml, hown, hts⟩ (c_X5_lesser k x2 v6 v7 hv7) (va_cwS 2 hts gX5_thin_X5_lesser rfl rfl rfl (by decide +kernel) ⟨Nat.le_of_ble_eq_true rfl, Nat.le_of_ble_eq_true rfl⟩) hX (va_P0 _ _ _) rfl hl.1 rfl (Nat.le_of_ble_eq_true rfl) dX5_thin_35 ⟨Nat.zero_le _, Nat.zero_le _⟩ (fun zv7 => ?_)
      refine lv_istore_n (lv' := [(3, .int v7), (0, .ref g.1), (1, .int x1), (2, .int x2)]) hx hb dX5_thin_38 rfl hl (by decide) rfl (fun ls hl => ?_)
      refine lv_aload_n hx hb dX5_thin_39 rfl (lv_at hl 1 rfl) ?_
      refine va_get (v := .ref g.2.1) (C := RX5) (T := TX5) (N := 10) hx hb hts hiX5 hown hK hP 0 rfl rfl 0 (by decide) hk7 (fun _ h9 => h9) rfl dX5_thin_40 ?_
      refine lv_bipush (v := 20) hx hb dX5_thin_43 (by decide) ?_
      refine lv_iload_n hx hb dX5_thin_45 rfl (lv_at hl 2 rfl) ?_
      refine lv_iadd hx hb dX5_thin_46 ?_
      refine lv_dup2_11 hx hb dX5_thin_47 rfl rfl ?_
      obtain ⟨v8, hv8, hf⟩ := bnd hf
      refine xa_iald hx hb hK hP hv8 1 0 rfl rfl dX5_thin_48 ?_
      refine lv_iload_n hx hb dX5_thin_49 rfl (lv_at hl 0 rfl) ?_
      refine lv_isub hx hb dX5_thin_50 ?_
      obtain ⟨f9, hf9, hf⟩ := bnd hf
      refine xa_iast (wn := (wM ks g (mkMD f9 (MD.past M5) (MD.aside M5) (MD.text M5) (MD.pasts M5) (MD.length M5) (MD.spot M5) (MD.itsThickness M5) (MD.itsRows M5) (MD.from_ M5)))) hx hb hK hP hD hS hf9 1 0 rfl rfl dX5_thin_51 rfl (fun H locs hP hD hS => ?_)
      refine lv_aload_n hx hb dX5_thin_52 rfl (lv_at hl 1 rfl) ?_
      refine va_get (v := .ref g.2.1) (C := RX5) (T := TX5) (N := 10) hx hb hts hiX5 hown hK hP 0 rfl rfl 0 (by decide) hk7 (fun _ h9 => h9) rfl dX5_thin_53 ?_
      refine lv_bipush (v := 7) hx hb dX5_thin_56 (by decide) ?_
      refine lv_dup2_11 hx hb dX5_thin_58 rfl rfl ?_
      obtain ⟨v10, hv10, hf⟩ := bnd hf
      refine xa_iald hx hb hK hP hv10 1 0 rfl rfl dX5_thin_59 ?_
      refine lv_iload_n hx hb dX5_thin_60 rfl (lv_at hl 0 rfl) ?_
      refine lv_iadd hx hb dX5_thin_61 ?_
      obtain ⟨f11, hf11, hf⟩ := bnd hf
      refine xa_iast (wn := (wM ks g (mkMD f11 (MD.past M5) (MD.aside M5) (MD.text M5) (MD.pasts M5) (MD.length M5) (MD.spot M5) (MD.itsThickness M5) (MD.itsRows M5) (MD.from_ M5)))) hx hb hK hP hD hS hf11 1 0 rfl rfl dX5_thin_62 rfl (fun H locs hP hD hS => ?_)
      refine lv_iload_n hx hb dX5_thin_63 rfl (lv_at hl 0 rfl) ?_
      obtain ⟨rfl, rfl⟩ := inj2 hf
      exact hret trivial _ _ _ _ dX5_thin_64 (fun ty h => by cases h; rfl) hP hD hS
    · replace hf := ifT hf c4
      refine lv_iconst (v := (-1)) hx hb dX5_thin_19 (by decide) ?_
      obtain ⟨rfl, rfl⟩ := inj2 hf
      exact hret trivial _ _ _ _ dX5_thin_20 (fun ty h => by cases h; rfl) hP hD hS

/-! ===== X5_cut ===== -/
def p_X5_cut (k : Nat) (M : MD) : Option (Int32 × MD) :=
  (ald (MD.st M) 44 0).bind fun v1 => if 2 ≤ v1 then ((p_X5_records k M).bind fun M3 => (ald (MD.st M3) 44 0).bind fun v4 => (ast (MD.st M3) 44 0 (v4 - 1)).bind fun f5 => (ald f5 44 7).bind fun v6 => (ald f5 44 0).bind fun v7 => (ald f5 44 (20 + v7)).bind fun v8 => (ast f5 44 7 (v6 + v8)).bind fun f9 => (ald f9 44 0).bind fun v10 => (ald f9 44 (20 + v10)).bind fun v11 => some (v11, (mkMD f9 (MD.past M3) (MD.aside M3) (MD.text M3) (MD.pasts M3) (MD.length M3) (MD.spot M3) (MD.itsThickness M3) (MD.itsRows M3) (MD.from_ M3)))) else (some ((-2), M))

set_option maxHeartbeats 4000000 in
set_option maxRecDepth 100000 in
theorem c_X5_cut {l : Launch} {D : va_G} {ks : K3} (k : Nat) (g : AM) (M : MD) (r : Int32) (rM : MD) (hf : p_X5_cut k M = some (r, rM)) : MetI l yX5_cut wsX5_cut { frames := 1, cells := 0, slots := 0, locals := 21 } D ks [.ref g.1] (wM ks g M) (wM ks g rM) r True := by
  refine MetI.of (cc := cX5_cut) (maxL := 1) (ret := (some .int)) (by decide +kernel) rfl (Nat.le_of_ble_eq_true rfl) ?_ ⟨_, rfl⟩
  intro p e s m below meth c Q A hx hb hml hts hown hP hX hD hA hret ls hl
  have hK := hX.1
  replace hl : lv_has ls 1 [(0, .ref g.1)] := hl
  have hS : va_S A s.heap s.heap [] := va_S.rf
  have hiX5 : ∀ w ∈ wsX50, w ∈ wsX5_cut := by decide +kernel
  have hk7 := hts (.fieldLink RX5 7 "SoapFilmModel" "st" "[I") (by decide +kernel)
  unfold p_X5_cut at hf
  refine lv_aload_n hx hb dX5_cut_0 rfl (lv_at hl 0 rfl) ?_
  refine va_get (v := .ref g.2.1) (C := RX5) (T := TX5) (N := 10) hx hb hts hiX5 hown hK hP 0 rfl rfl 0 (by decide) hk7 (fun _ h9 => h9) rfl dX5_cut_1 ?_
  refine lv_iconst (v := 0) hx hb dX5_cut_4 (by decide) ?_
  obtain ⟨v1, hv1, hf⟩ := bnd hf
  refine xa_iald hx hb hK hP hv1 1 0 rfl rfl dX5_cut_5 ?_
  refine lv_iconst (v := 2) hx hb dX5_cut_6 (by decide) ?_
  refine lv_icmp_ge (tgt := 13) hx hb dX5_cut_7 (by decide) (fun c2 => ?_) (fun c2 => ?_)
  · replace hf := ifT hf c2
    refine lv_aload_n hx hb dX5_cut_13 rfl (lv_at hl 0 rfl) ?_
    obtain ⟨M3, hM3, hf⟩ := bnd hf
    refine xcallV (As := []) (rest := []) (wc := (wM ks g M)) (w1 := (wM ks g M3)) (wr := ([] : va_W)) (wn := (wM ks g M3)) ⟨hx, hb, hml, hown, hts⟩ (c_X5_records k g M M3 hM3) (cwV 0 hts gX5_cut_X5_records rfl rfl rfl (by decide +kernel) ⟨Nat.le_of_ble_eq_true rfl, Nat.le_of_ble_eq_true rfl⟩) hX hP hD hS hA [0, 1, 2, 3, 4] [] [0, 1, 2, 3, 4] rfl rfl rfl ⟨by decide, by decide, by decide⟩ (by decide) (ci := 4) (q0 := 0) rfl rfl rfl hl.1 rfl (Nat.le_of_ble_eq_true rfl) dX5_cut_14 ⟨Nat.zero_le _, Nat.zero_le _⟩ (fun H locs hP hD hS => ?_)
    refine lv_aload_n hx hb dX5_cut_17 rfl (lv_at hl 0 rfl) ?_
    refine va_get (v := .ref g.2.1) (C := RX5) (T := TX5) (N := 10) hx hb hts hiX5 hown hK hP 0 rfl rfl 0 (by decide) hk7 (fun _ h9 => h9) rfl dX5_cut_18 ?_
    refine lv_iconst (v := 0) hx hb dX5_cut_21 (by decide) ?_
    refine lv_dup2_11 hx hb dX5_cut_22 rfl rfl ?_
    obtain ⟨v4, hv4, hf⟩ := bnd hf
    refine xa_iald hx hb hK hP hv4 1 0 rfl rfl dX5_cut_23 ?_
    refine lv_iconst (v := 1) hx hb dX5_cut_24 (by decide) ?_
    refine lv_isub hx hb dX5_cut_25 ?_
    obtain ⟨f5, hf5, hf⟩ := bnd hf
    refine xa_iast (wn := (wM ks g (mkMD f5 (MD.past M3) (MD.aside M3) (MD.text M3) (MD.pasts M3) (MD.length M3) (MD.spot M3) (MD.itsThickness M3) (MD.itsRows M3) (MD.from_ M3)))) hx hb hK hP hD hS hf5 1 0 rfl rfl dX5_cut_26 rfl (fun H locs hP hD hS => ?_)
    refine lv_aload_n hx hb dX5_cut_27 rfl (lv_at hl 0 rfl) ?_
    refine va_get (v := .ref g.2.1) (C := RX5) (T := TX5) (N := 10) hx hb hts hiX5 hown hK hP 0 rfl rfl 0 (by decide) hk7 (fun _ h9 => h9) rfl dX5_cut_28 ?_
    refine lv_bipush (v := 7) hx hb dX5_cut_31 (by decide) ?_
    refine lv_dup2_11 hx hb dX5_cut_33 rfl rfl ?_
    obtain ⟨v6, hv6, hf⟩ := bnd hf
    refine xa_iald hx hb hK hP hv6 1 0 rfl rfl dX5_cut_34 ?_
    refine lv_aload_n hx hb dX5_cut_35 rfl (lv_at hl 0 rfl) ?_
    refine va_get (v := .ref g.2.1) (C := RX5) (T := TX5) (N := 10) hx hb hts hiX5 hown hK hP 0 rfl rfl 0 (by decide) hk7 (fun _ h9 => h9) rfl dX5_cut_36 ?_
    refine lv_bipush (v := 20) hx hb dX5_cut_39 (by decide) ?_
    refine lv_aload_n hx hb dX5_cut_41 rfl (lv_at hl 0 rfl) ?_
    refine va_get (v := .ref g.2.1) (C := RX5) (T := TX5) (N := 10) hx hb hts hiX5 hown hK hP 0 rfl rfl 0 (by decide) hk7 (fun _ h9 => h9) rfl dX5_cut_42 ?_
    refine lv_iconst (v := 0) hx hb dX5_cut_45 (by decide) ?_
    obtain ⟨v7, hv7, hf⟩ := bnd hf
    refine xa_iald hx hb hK hP hv7 1 0 rfl rfl dX5_cut_46 ?_
    refine lv_iadd hx hb dX5_cut_47 ?_
    obtain ⟨v8, hv8, hf⟩ := bnd hf
    refine xa_iald hx hb hK hP hv8 1 0 rfl rfl dX5_cut_48 ?_
    refine lv_iadd hx hb dX5_cut_49 ?_
    obtain ⟨f9, hf9, hf⟩ := bnd hf
    refine xa_iast (wn := (wM ks g (mkMD f9 (MD.past M3) (MD.aside M3) (MD.text M3) (MD.pasts M3) (MD.length M3) (MD.spot M3) (MD.itsThickness M3) (MD.itsRows M3) (MD.from_ M3)))) hx hb hK hP hD hS hf9 1 0 rfl rfl dX5_cut_50 rfl (fun H locs hP hD hS => ?_)
    refine lv_aload_n hx hb dX5_cut_51 rfl (lv_at hl 0 rfl) ?_
    refine va_get (v := .ref g.2.1) (C := RX5) (T := TX5) (N := 10) hx hb hts hiX5 hown hK hP 0 rfl rfl 0 (by decide) hk7 (fun _ h9 => h9) rfl dX5_cut_52 ?_
    refine lv_bipush (v := 20) hx hb dX5_cut_55 (by decide) ?_
    refine lv_aload_n hx hb dX5_cut_57 rfl (lv_at hl 0 rfl) ?_
    refine va_get (v := .ref g.2.1) (C := RX5) (T := TX5) (N := 10) hx hb hts hiX5 hown hK hP 0 rfl rfl 0 (by decide) hk7 (fun _ h9 => h9) rfl dX5_cut_58 ?_
    refine lv_iconst (v := 0) hx hb dX5_cut_61 (by decide) ?_
    obtain ⟨v10, hv10, hf⟩ := bnd hf
    refine xa_iald hx hb hK hP hv10 1 0 rfl rfl dX5_cut_62 ?_
    refine lv_iadd hx hb dX5_cut_63 ?_
    obtain ⟨v11, hv11, hf⟩ := bnd hf
    refine xa_iald hx hb hK hP hv11 1 0 rfl rfl dX5_cut_64 ?_
    obtain ⟨rfl, rfl⟩ := inj2 hf
    exact hret trivial _ _ _ _ dX5_cut_65 (fun ty h => by cases h; rfl) hP hD hS
  · replace hf := ifF hf c2
    refine lv_bipush (v := (-2)) hx hb dX5_cut_10 (by decide) ?_
    obtain ⟨rfl, rfl⟩ := inj2 hf
    exact hret trivial _ _ _ _ dX5_cut_12 (fun ty h => by cases h; rfl) hP hD hS

/-! ===== X5_go ===== -/
def p_X5_go_L37 (k : Nat) (y1 : Int32) : Nat → (MD) → (Int32) → (Int32) → Option (Int32 × MD)
  | 0, _, _, _ => none
  | n + 1, M, x2, x3 =>
    if y1 ≤ x3 then (some (x2, M)) else (bind2 (p_X5_tick k M) fun v2 M3 => if v2 = 0 then (p_X5_go_L37 k y1 n M3 (x2 + 0) (x3 + 1)) else (p_X5_go_L37 k y1 n M3 (x2 + 1) (x3 + 1)))

def p_X5_go (k : Nat) (M : MD) (x1 : Int32) : Option (Int32 × MD) :=
  (p_X5_in k x1 1 1000).bind fun v1 => if v1 = 0 then (some ((-1), M)) else ((ald (MD.st M) 44 1).bind fun v3 => if (v3 + x1) ≤ 100000 then ((p_X5_records k M).bind fun M5 => p_X5_go_L37 k x1 k M5 0 0) else (some ((-3), M)))

set_option maxHeartbeats 4000000 in
set_option maxRecDepth 100000 in
theorem c_X5_go {l : Launch} {D : va_G} {ks : K3} (k : Nat) (g : AM) (M : MD) (x1 : Int32) (r : Int32) (rM : MD) (hf : p_X5_go k M x1 = some (r, rM)) : MetI l yX5_go wsX5_go { frames := 6, cells := 0, slots := 0, locals := 129 } D ks [.ref g.1, .int x1] (wM ks g M) (wM ks g rM) r True := by
  refine MetI.of (cc := cX5_go) (maxL := 4) (ret := (some .int)) (by decide +kernel) rfl (Nat.le_of_ble_eq_true rfl) ?_ ⟨_, rfl⟩
  intro p e s m below meth c Q A hx hb hml hts hown hP hX hD hA hret ls hl
  have hK := hX.1
  replace hl : lv_has ls 4 [(0, .ref g.1), (1, .int x1)] := hl
  have hS : va_S A s.heap s.heap [] := va_S.rf
  have hiX5 : ∀ w ∈ wsX50, w ∈ wsX5_go := by decide +kernel
  have hk7 := hts (.fieldLink RX5 7 "SoapFilmModel" "st" "[I") (by decide +kernel)
  have hc48 := hts (.constant RX5 48 (100000)) (by decide +kernel)
  unfold p_X5_go at hf
  refine lv_iload_n hx hb dX5_go_0 rfl (lv_at hl 1 rfl) ?_
  refine lv_iconst (v := 1) hx hb dX5_go_1 (by decide) ?_
  refine lv_sipush (v := 1000) hx hb dX5_go_2 (by decide) ?_
  obtain ⟨v1, hv1, hf⟩ := bnd hf
  refine xcallRS (As := [.int x1, .int 1, .int 1000]) (rest := []) (wc := []) ⟨hx, hb, hml, hown, hts⟩ (c_X5_in k x1 1 1000 v1 hv1) (va_cwS 3 hts gX5_go_X5_in rfl rfl rfl (by decide +kernel) ⟨Nat.le_of_ble_eq_true rfl, Nat.le_of_ble_eq_true rfl⟩) hX (va_P0 _ _ _) rfl hl.1 rfl (Nat.le_of_ble_eq_true rfl) dX5_go_5 ⟨Nat.zero_le _, Nat.zero_le _⟩ (fun zv1 => ?_)
  refine lv_if_ne (tgt := 13) hx hb dX5_go_8 (by decide) (fun c2 => ?_) (fun c2 => ?_)
  · replace hf := ifF hf c2
    refine lv_aload_n hx hb dX5_go_13 rfl (lv_at hl 0 rfl) ?_
    refine va_get (v := .ref g.2.1) (C := RX5) (T := TX5) (N := 10) hx hb hts hiX5 hown hK hP 0 rfl rfl 0 (by decide) hk7 (fun _ h9 => h9) rfl dX5_go_14 ?_
    refine lv_iconst (v := 1) hx hb dX5_go_17 (by decide) ?_
    obtain ⟨v3, hv3, hf⟩ := bnd hf
    refine xa_iald hx hb hK hP hv3 1 0 rfl rfl dX5_go_18 ?_
    refine lv_iload_n hx hb dX5_go_19 rfl (lv_at hl 1 rfl) ?_
    refine lv_iadd hx hb dX5_go_20 ?_
    refine lv_ldc (v := 100000) hx hb hown hc48 dX5_go_21 ?_
    refine lv_icmp_le (tgt := 29) hx hb dX5_go_23 (by decide) (fun c4 => ?_) (fun c4 => ?_)
    · replace hf := ifT hf c4
      refine lv_aload_n hx hb dX5_go_29 rfl (lv_at hl 0 rfl) ?_
      obtain ⟨M5, hM5, hf⟩ := bnd hf
      refine xcallV (As := []) (rest := []) (wc := (wM ks g M)) (w1 := (wM ks g M5)) (wr := ([] : va_W)) (wn := (wM ks g M5)) ⟨hx, hb, hml, hown, hts⟩ (c_X5_records k g M M5 hM5) (cwV 0 hts gX5_go_X5_records rfl rfl rfl (by decide +kernel) ⟨Nat.le_of_ble_eq_true rfl, Nat.le_of_ble_eq_true rfl⟩) hX hP hD hS hA [0, 1, 2, 3, 4] [] [0, 1, 2, 3, 4] rfl rfl rfl ⟨by decide, by decide, by decide⟩ (by decide) (ci := 4) (q0 := 0) rfl rfl rfl hl.1 rfl (Nat.le_of_ble_eq_true rfl) dX5_go_30 ⟨Nat.zero_le _, Nat.zero_le _⟩ (fun H locs hP hD hS => ?_)
      refine lv_iconst (v := 0) hx hb dX5_go_33 (by decide) ?_
      refine lv_istore_n (lv' := [(2, .int 0), (0, .ref g.1), (1, .int x1)]) hx hb dX5_go_34 rfl hl (by decide) rfl (fun ls hl => ?_)
      refine lv_iconst (v := 0) hx hb dX5_go_35 (by decide) ?_
      refine lv_istore_n (lv' := [(3, .int 0), (2, .int 0), (0, .ref g.1), (1, .int x1)]) hx hb dX5_go_36 rfl hl (by decide) rfl (fun ls hl => ?_)
      have L37 : ∀ (n : Nat) (Mq37 : MD) (x2q37 : Int32) (x3q37 : Int32) (H : Heap) (locs : List Loc) (ls : Array Slot), p_X5_go_L37 k x1 n Mq37 x2q37 x3q37 = some (r, rM) → va_P D vwCl (wM ks g Mq37) H → va_D A (wM ks g Mq37) → va_S A s.heap H locs → lv_has ls 4 [(0, .ref g.1), (1, .int x1), (2, .int x2q37), (3, .int x3q37)] → W p l e { frames := 6, cells := 0, slots := 0, locals := 129 } s m ([.ref g.1, .int x1] : List Value).toArray below meth c H locs 0 0 Q (F0 m 37 ls []) := by
        intro n
        induction n with
        | zero => intro Mq37 x2q37 x3q37 H locs ls hf; cases hf
        | succ n ih37 =>
          intro Mq37 x2q37 x3q37 H locs ls hf hP hD hS hl
          rw [p_X5_go_L37] at hf
          refine lv_iload_n hx hb dX5_go_37 rfl (lv_at hl 3 rfl) ?_
          refine lv_iload_n hx hb dX5_go_38 rfl (lv_at hl 1 rfl) ?_
          refine lv_icmp_ge (tgt := 63) hx hb dX5_go_39 (by decide) (fun c6 => ?_) (fun c6 => ?_)
          · replace hf := ifT hf c6
            refine lv_iload_n hx hb dX5_go_63 rfl (lv_at hl 2 rfl) ?_
            obtain ⟨rfl, rfl⟩ := inj2 hf
            exact hret trivial _ _ _ _ dX5_go_64 (fun ty h => by cases h; rfl) hP hD hS
          · replace hf := ifF hf c6
            refine lv_iload_n hx hb dX5_go_42 rfl (lv_at hl 2 rfl) ?_
            refine lv_aload_n hx hb dX5_go_43 rfl (lv_at hl 0 rfl) ?_
            obtain ⟨v7, M8, hv7, hf⟩ := bnd2 hf
            refine xcallI (As := []) (rest := [.int x2q37]) (wc := (wM ks g Mq37)) (w1 := (wM ks g M8)) (wr := ([] : va_W)) (wn := (wM ks g M8)) ⟨hx, hb, hml, hown, hts⟩ (c_X5_tick k g Mq37 v7 M8 hv7) (cwV 0 hts gX5_go_X5_tick rfl rfl rfl (by decide +kernel) ⟨Nat.le_of_ble_eq_true rfl, Nat.le_of_ble_eq_true rfl⟩) hX hP hD hS hA [0, 1, 2, 3, 4] [] [0, 1, 2, 3, 4] rfl rfl rfl ⟨by decide, by decide, by decide⟩ (by decide) (ci := 4) (q0 := 0) rfl rfl rfl hl.1 rfl (Nat.le_of_ble_eq_true rfl) dX5_go_44 ⟨Nat.zero_le _, Nat.zero_le _⟩ (fun zv7 H locs hP hD hS => ?_)
            refine lv_if_eq (tgt := 54) hx hb dX5_go_47 (by decide) (fun c9 => ?_) (fun c9 => ?_)
            · replace hf := ifT hf c9
              refine lv_iconst (v := 0) hx hb dX5_go_54 (by decide) ?_
              refine lv_iadd hx hb dX5_go_55 ?_
              refine lv_istore_n (lv' := [(2, .int (x2q37 + 0)), (0, .ref g.1), (1, .int x1), (3, .int x3q37)]) hx hb dX5_go_56 rfl hl (by decide) rfl (fun ls hl => ?_)
              refine lv_iinc (v := (x3q37 + 1)) (lv' := [(3, .int (x3q37 + 1)), (2, .int (x2q37 + 0)), (0, .ref g.1), (1, .int x1)]) hx hb dX5_go_57 hl (k := 3) rfl rfl (by decide) rfl (fun ls hl => ?_)
              refine lv_goto (tgt := 37) hx hb dX5_go_60 (by decide) ?_
              exact ih37 _ _ _  _ _ _ hf hP hD hS (lv_sub hl [2, 3, 1, 0] rfl)
            · replace hf := ifF hf c9
              refine lv_iconst (v := 1) hx hb dX5_go_50 (by decide) ?_
              refine lv_goto (tgt := 55) hx hb dX5_go_51 (by decide) ?_
              refine lv_iadd hx hb dX5_go_55 ?_
              refine lv_istore_n (lv' := [(2, .int (x2q37 + 1)), (0, .ref g.1), (1, .int x1), (3, .int x3q37)]) hx hb dX5_go_56 rfl hl (by decide) rfl (fun ls hl => ?_)
              refine lv_iinc (v := (x3q37 + 1)) (lv' := [(3, .int (x3q37 + 1)), (2, .int (x2q37 + 1)), (0, .ref g.1), (1, .int x1)]) hx hb dX5_go_57 hl (k := 3) rfl rfl (by decide) rfl (fun ls hl => ?_)
              refine lv_goto (tgt := 37) hx hb dX5_go_60 (by decide) ?_
              exact ih37 _ _ _  _ _ _ hf hP hD hS (lv_sub hl [2, 3, 1, 0] rfl)
      exact L37 k _ _ _ _ _ _ hf hP hD hS (lv_sub hl [2, 3, 1, 0] rfl)
    · replace hf := ifF hf c4
      refine lv_bipush (v := (-3)) hx hb dX5_go_26 (by decide) ?_
      obtain ⟨rfl, rfl⟩ := inj2 hf
      exact hret trivial _ _ _ _ dX5_go_28 (fun ty h => by cases h; rfl) hP hD hS
  · replace hf := ifT hf c2
    refine lv_iconst (v := (-1)) hx hb dX5_go_11 (by decide) ?_
    obtain ⟨rfl, rfl⟩ := inj2 hf
    exact hret trivial _ _ _ _ dX5_go_12 (fun ty h => by cases h; rfl) hP hD hS

/-! ===== X5_valueOf ===== -/
def p_X5_valueOf (k : Nat) (M : MD) (x1 : Int32) (x2 : Int32) : Option (Int32) :=
  if x2 = 0 then (some x1) else (if x2 = 1 then ((p_X5_path k x1).bind fun v3 => some v3) else (if x2 = 2 then ((p_X5_brightness k x1 (x2 - 2)).bind fun v5 => some v5) else (if x2 = 3 then ((p_X5_brightness k x1 (x2 - 2)).bind fun v7 => some v7) else (if x2 = 4 then ((p_X5_brightness k x1 (x2 - 2)).bind fun v9 => some v9) else (if x2 = 5 then ((p_X5_colour k M x1).bind fun v11 => some v11) else (if x2 = 6 then ((p_X5_path k x1).bind fun v13 => some (v13 / 530)) else ((p_X5_isBlack k M x1).bind fun v14 => if v14 = 0 then (some 0) else (some 1))))))))

set_option maxHeartbeats 4000000 in
set_option maxRecDepth 100000 in
theorem c_X5_valueOf {l : Launch} {D : va_G} {ks : K3} (k : Nat) (g : AM) (M : MD) (x1 : Int32) (x2 : Int32) (r : Int32) (hf : p_X5_valueOf k M x1 x2 = some r) : MetR l yX5_valueOf wsX5_valueOf { frames := 3, cells := 0, slots := 0, locals := 66 } D ks [.ref g.1, .int x1, .int x2] (wM ks g M) r True := by
  refine MetR.of (cc := cX5_valueOf) (maxL := 3) (ret := (some .int)) (by decide +kernel) rfl (Nat.le_of_ble_eq_true rfl) ?_ ⟨_, rfl⟩
  intro p e s m below meth c Q hx hb hml hts hown hP hX hret ls hl
  have hK := hX.1
  replace hl : lv_has ls 3 [(0, .ref g.1), (1, .int x1), (2, .int x2)] := hl
  unfold p_X5_valueOf at hf
  refine lv_iload_n hx hb dX5_valueOf_0 rfl (lv_at hl 2 rfl) ?_
  by_cases c1 : x2 = 0
  · replace hf := ifT hf c1
    refine lv_tableIn (tgt := 44) (off := 43) hx hb dX5_valueOf_1 (by rw [c1]; decide) (by rw [c1]; decide) (by rw [c1]; rfl) (by decide) ?_
    refine lv_iload_n hx hb dX5_valueOf_44 rfl (lv_at hl 1 rfl) ?_
    obtain rfl := Option.some.inj hf
    exact hret trivial _ _ dX5_valueOf_45 (fun ty h => by cases h; rfl)
  replace hf := ifF hf c1
  by_cases c2 : x2 = 1
  · replace hf := ifT hf c2
    refine lv_tableIn (tgt := 46) (off := 45) hx hb dX5_valueOf_1 (by rw [c2]; decide) (by rw [c2]; decide) (by rw [c2]; rfl) (by decide) ?_
    refine lv_iload_n hx hb dX5_valueOf_46 rfl (lv_at hl 1 rfl) ?_
    obtain ⟨v3, hv3, hf⟩ := bnd hf
    refine xcallRS (As := [.int x1]) (rest := []) (wc := []) ⟨hx, hb, hml, hown, hts⟩ (c_X5_path k x1 v3 hv3) (va_cwS 1 hts gX5_valueOf_X5_path rfl rfl rfl (by decide +kernel) ⟨Nat.le_of_ble_eq_true rfl, Nat.le_of_ble_eq_true rfl⟩) hX (va_P0 _ _ _) rfl hl.1 rfl (Nat.le_of_ble_eq_true rfl) dX5_valueOf_47 ⟨Nat.zero_le _, Nat.zero_le _⟩ (fun zv3 => ?_)
    obtain rfl := Option.some.inj hf
    exact hret trivial _ _ dX5_valueOf_50 (fun ty h => by cases h; rfl)
  replace hf := ifF hf c2
  by_cases c4 : x2 = 2
  · replace hf := ifT hf c4
    refine lv_tableIn (tgt := 51) (off := 50) hx hb dX5_valueOf_1 (by rw [c4]; decide) (by rw [c4]; decide) (by rw [c4]; rfl) (by decide) ?_
    refine lv_iload_n hx hb dX5_valueOf_51 rfl (lv_at hl 1 rfl) ?_
    refine lv_iload_n hx hb dX5_valueOf_52 rfl (lv_at hl 2 rfl) ?_
    refine lv_iconst (v := 2) hx hb dX5_valueOf_53 (by decide) ?_
    refine lv_isub hx hb dX5_valueOf_54 ?_
    obtain ⟨v5, hv5, hf⟩ := bnd hf
    refine xcallRS (As := [.int x1, .int (x2 - 2)]) (rest := []) (wc := []) ⟨hx, hb, hml, hown, hts⟩ (c_X5_brightness k x1 (x2 - 2) v5 hv5) (va_cwS 2 hts gX5_valueOf_X5_brightness rfl rfl rfl (by decide +kernel) ⟨Nat.le_of_ble_eq_true rfl, Nat.le_of_ble_eq_true rfl⟩) hX (va_P0 _ _ _) rfl hl.1 rfl (Nat.le_of_ble_eq_true rfl) dX5_valueOf_55 ⟨Nat.zero_le _, Nat.zero_le _⟩ (fun zv5 => ?_)
    obtain rfl := Option.some.inj hf
    exact hret trivial _ _ dX5_valueOf_58 (fun ty h => by cases h; rfl)
  replace hf := ifF hf c4
  by_cases c6 : x2 = 3
  · replace hf := ifT hf c6
    refine lv_tableIn (tgt := 51) (off := 50) hx hb dX5_valueOf_1 (by rw [c6]; decide) (by rw [c6]; decide) (by rw [c6]; rfl) (by decide) ?_
    refine lv_iload_n hx hb dX5_valueOf_51 rfl (lv_at hl 1 rfl) ?_
    refine lv_iload_n hx hb dX5_valueOf_52 rfl (lv_at hl 2 rfl) ?_
    refine lv_iconst (v := 2) hx hb dX5_valueOf_53 (by decide) ?_
    refine lv_isub hx hb dX5_valueOf_54 ?_
    obtain ⟨v7, hv7, hf⟩ := bnd hf
    refine xcallRS (As := [.int x1, .int (x2 - 2)]) (rest := []) (wc := []) ⟨hx, hb, hml, hown, hts⟩ (c_X5_brightness k x1 (x2 - 2) v7 hv7) (va_cwS 2 hts gX5_valueOf_X5_brightness rfl rfl rfl (by decide +kernel) ⟨Nat.le_of_ble_eq_true rfl, Nat.le_of_ble_eq_true rfl⟩) hX (va_P0 _ _ _) rfl hl.1 rfl (Nat.le_of_ble_eq_true rfl) dX5_valueOf_55 ⟨Nat.zero_le _, Nat.zero_le _⟩ (fun zv7 => ?_)
    obtain rfl := Option.some.inj hf
    exact hret trivial _ _ dX5_valueOf_58 (fun ty h => by cases h; rfl)
  replace hf := ifF hf c6
  by_cases c8 : x2 = 4
  · replace hf := ifT hf c8
    refine lv_tableIn (tgt := 51) (off := 50) hx hb dX5_valueOf_1 (by rw [c8]; decide) (by rw [c8]; decide) (by rw [c8]; rfl) (by decide) ?_
    refine lv_iload_n hx hb dX5_valueOf_51 rfl (lv_at hl 1 rfl) ?_
    refine lv_iload_n hx hb dX5_valueOf_52 rfl (lv_at hl 2 rfl) ?_
    refine lv_iconst (v := 2) hx hb dX5_valueOf_53 (by decide) ?_
    refine lv_isub hx hb dX5_valueOf_54 ?_
    obtain ⟨v9, hv9, hf⟩ := bnd hf
    refine xcallRS (As := [.int x1, .int (x2 - 2)]) (rest := []) (wc := []) ⟨hx, hb, hml, hown, hts⟩ (c_X5_brightness k x1 (x2 - 2) v9 hv9) (va_cwS 2 hts gX5_valueOf_X5_brightness rfl rfl rfl (by decide +kernel) ⟨Nat.le_of_ble_eq_true rfl, Nat.le_of_ble_eq_true rfl⟩) hX (va_P0 _ _ _) rfl hl.1 rfl (Nat.le_of_ble_eq_true rfl) dX5_valueOf_55 ⟨Nat.zero_le _, Nat.zero_le _⟩ (fun zv9 => ?_)
    obtain rfl := Option.some.inj hf
    exact hret trivial _ _ dX5_valueOf_58 (fun ty h => by cases h; rfl)
  replace hf := ifF hf c8
  by_cases c10 : x2 = 5
  · replace hf := ifT hf c10
    refine lv_tableIn (tgt := 59) (off := 58) hx hb dX5_valueOf_1 (by rw [c10]; decide) (by rw [c10]; decide) (by rw [c10]; rfl) (by decide) ?_
    refine lv_aload_n hx hb dX5_valueOf_59 rfl (lv_at hl 0 rfl) ?_
    refine lv_iload_n hx hb dX5_valueOf_60 rfl (lv_at hl 1 rfl) ?_
    obtain ⟨v11, hv11, hf⟩ := bnd hf
    refine xcallRV (As := [.int x1]) (rest := []) (wc := (wM ks g M)) ⟨hx, hb, hml, hown, hts⟩ (c_X5_colour k g M x1 v11 hv11) (cwV 1 hts gX5_valueOf_X5_colour rfl rfl rfl (by decide +kernel) ⟨Nat.le_of_ble_eq_true rfl, Nat.le_of_ble_eq_true rfl⟩) hX hP (ci := 4) (q0 := 0) rfl rfl rfl hl.1 rfl (Nat.le_of_ble_eq_true rfl) dX5_valueOf_61 ⟨Nat.zero_le _, Nat.zero_le _⟩ (fun zv11 => ?_)
    obtain rfl := Option.some.inj hf
    exact hret trivial _ _ dX5_valueOf_64 (fun ty h => by cases h; rfl)
  replace hf := ifF hf c10
  by_cases c12 : x2 = 6
  · replace hf := ifT hf c12
    refine lv_tableIn (tgt := 65) (off := 64) hx hb dX5_valueOf_1 (by rw [c12]; decide) (by rw [c12]; decide) (by rw [c12]; rfl) (by decide) ?_
    refine lv_iload_n hx hb dX5_valueOf_65 rfl (lv_at hl 1 rfl) ?_
    obtain ⟨v13, hv13, hf⟩ := bnd hf
    refine xcallRS (As := [.int x1]) (rest := []) (wc := []) ⟨hx, hb, hml, hown, hts⟩ (c_X5_path k x1 v13 hv13) (va_cwS 1 hts gX5_valueOf_X5_path rfl rfl rfl (by decide +kernel) ⟨Nat.le_of_ble_eq_true rfl, Nat.le_of_ble_eq_true rfl⟩) hX (va_P0 _ _ _) rfl hl.1 rfl (Nat.le_of_ble_eq_true rfl) dX5_valueOf_66 ⟨Nat.zero_le _, Nat.zero_le _⟩ (fun zv13 => ?_)
    refine lv_sipush (v := 530) hx hb dX5_valueOf_69 (by decide) ?_
    refine lv_idiv hx hb dX5_valueOf_72 (by decide) ?_
    obtain rfl := Option.some.inj hf
    exact hret trivial _ _ dX5_valueOf_73 (fun ty h => by cases h; rfl)
  replace hf := ifF hf c12
  refine lv_tableOut (tgt := 74) hx hb dX5_valueOf_1 (by have := lv_neT (a := 0) c1 (by decide); have := lv_neT (a := 1) c2 (by decide); have := lv_neT (a := 2) c4 (by decide); have := lv_neT (a := 3) c6 (by decide); have := lv_neT (a := 4) c8 (by decide); have := lv_neT (a := 5) c10 (by decide); have := lv_neT (a := 6) c12 (by decide); omega) (by decide) ?_
  refine lv_aload_n hx hb dX5_valueOf_74 rfl (lv_at hl 0 rfl) ?_
  refine lv_iload_n hx hb dX5_valueOf_75 rfl (lv_at hl 1 rfl) ?_
  obtain ⟨v14, hv14, hf⟩ := bnd hf
  refine xcallRV (As := [.int x1]) (rest := []) (wc := (wM ks g M)) ⟨hx, hb, hml, hown, hts⟩ (c_X5_isBlack k g M x1 v14 hv14) (cwV 1 hts gX5_valueOf_X5_isBlack rfl rfl rfl (by decide +kernel) ⟨Nat.le_of_ble_eq_true rfl, Nat.le_of_ble_eq_true rfl⟩) hX hP (ci := 4) (q0 := 0) rfl rfl rfl hl.1 rfl (Nat.le_of_ble_eq_true rfl) dX5_valueOf_76 ⟨Nat.zero_le _, Nat.zero_le _⟩ (fun zv14 => ?_)
  refine lv_if_eq (tgt := 86) hx hb dX5_valueOf_79 (by decide) (fun c15 => ?_) (fun c15 => ?_)
  · replace hf := ifT hf c15
    refine lv_iconst (v := 0) hx hb dX5_valueOf_86 (by decide) ?_
    obtain rfl := Option.some.inj hf
    exact hret trivial _ _ dX5_valueOf_87 (fun ty h => by cases h; rfl)
  · replace hf := ifF hf c15
    refine lv_iconst (v := 1) hx hb dX5_valueOf_82 (by decide) ?_
    refine lv_goto (tgt := 87) hx hb dX5_valueOf_83 (by decide) ?_
    obtain rfl := Option.some.inj hf
    exact hret trivial _ _ dX5_valueOf_87 (fun ty h => by cases h; rfl)

/-! ===== X5_row ===== -/
def p_X5_row (k : Nat) (M : MD) (x1 : Int32) (x2 : Int32) : Option (Int32) :=
  (p_X5_isRow k M x1).bind fun v1 => if v1 = 0 then (some (-1)) else ((p_X5_in k x2 0 7).bind fun v3 => if v3 = 0 then (some (-1)) else ((ald (MD.st M) 44 (20 + x1)).bind fun v5 => (p_X5_valueOf k M v5 x2).bind fun v6 => some v6))

set_option maxHeartbeats 4000000 in
set_option maxRecDepth 100000 in
theorem c_X5_row {l : Launch} {D : va_G} {ks : K3} (k : Nat) (g : AM) (M : MD) (x1 : Int32) (x2 : Int32) (r : Int32) (hf : p_X5_row k M x1 x2 = some r) : MetR l yX5_row wsX5_row { frames := 4, cells := 0, slots := 0, locals := 88 } D ks [.ref g.1, .int x1, .int x2] (wM ks g M) r True := by
  refine MetR.of (cc := cX5_row) (maxL := 3) (ret := (some .int)) (by decide +kernel) rfl (Nat.le_of_ble_eq_true rfl) ?_ ⟨_, rfl⟩
  intro p e s m below meth c Q hx hb hml hts hown hP hX hret ls hl
  have hK := hX.1
  replace hl : lv_has ls 3 [(0, .ref g.1), (1, .int x1), (2, .int x2)] := hl
  have hiX5 : ∀ w ∈ wsX50, w ∈ wsX5_row := by decide +kernel
  have hk7 := hts (.fieldLink RX5 7 "SoapFilmModel" "st" "[I") (by decide +kernel)
  unfold p_X5_row at hf
  refine lv_aload_n hx hb dX5_row_0 rfl (lv_at hl 0 rfl) ?_
  refine lv_iload_n hx hb dX5_row_1 rfl (lv_at hl 1 rfl) ?_
  obtain ⟨v1, hv1, hf⟩ := bnd hf
  refine xcallRV (As := [.int x1]) (rest := []) (wc := (wM ks g M)) ⟨hx, hb, hml, hown, hts⟩ (c_X5_isRow k g M x1 v1 hv1) (cwV 1 hts gX5_row_X5_isRow rfl rfl rfl (by decide +kernel) ⟨Nat.le_of_ble_eq_true rfl, Nat.le_of_ble_eq_true rfl⟩) hX hP (ci := 4) (q0 := 0) rfl rfl rfl hl.1 rfl (Nat.le_of_ble_eq_true rfl) dX5_row_2 ⟨Nat.zero_le _, Nat.zero_le _⟩ (fun zv1 => ?_)
  refine lv_if_eq (tgt := 35) hx hb dX5_row_5 (by decide) (fun c2 => ?_) (fun c2 => ?_)
  · replace hf := ifT hf c2
    refine lv_iconst (v := (-1)) hx hb dX5_row_35 (by decide) ?_
    obtain rfl := Option.some.inj hf
    exact hret trivial _ _ dX5_row_36 (fun ty h => by cases h; rfl)
  · replace hf := ifF hf c2
    refine lv_iload_n hx hb dX5_row_8 rfl (lv_at hl 2 rfl) ?_
    refine lv_iconst (v := 0) hx hb dX5_row_9 (by decide) ?_
    refine lv_bipush (v := 7) hx hb dX5_row_10 (by decide) ?_
    obtain ⟨v3, hv3, hf⟩ := bnd hf
    refine xcallRS (As := [.int x2, .int 0, .int 7]) (rest := []) (wc := []) ⟨hx, hb, hml, hown, hts⟩ (c_X5_in k x2 0 7 v3 hv3) (va_cwS 3 hts gX5_row_X5_in rfl rfl rfl (by decide +kernel) ⟨Nat.le_of_ble_eq_true rfl, Nat.le_of_ble_eq_true rfl⟩) hX (va_P0 _ _ _) rfl hl.1 rfl (Nat.le_of_ble_eq_true rfl) dX5_row_12 ⟨Nat.zero_le _, Nat.zero_le _⟩ (fun zv3 => ?_)
    refine lv_if_eq (tgt := 35) hx hb dX5_row_15 (by decide) (fun c4 => ?_) (fun c4 => ?_)
    · replace hf := ifT hf c4
      refine lv_iconst (v := (-1)) hx hb dX5_row_35 (by decide) ?_
      obtain rfl := Option.some.inj hf
      exact hret trivial _ _ dX5_row_36 (fun ty h => by cases h; rfl)
    · replace hf := ifF hf c4
      refine lv_aload_n hx hb dX5_row_18 rfl (lv_at hl 0 rfl) ?_
      refine lv_aload_n hx hb dX5_row_19 rfl (lv_at hl 0 rfl) ?_
      refine va_get (v := .ref g.2.1) (C := RX5) (T := TX5) (N := 10) hx hb hts hiX5 hown hK hP 0 rfl rfl 0 (by decide) hk7 (fun _ h9 => h9) rfl dX5_row_20 ?_
      refine lv_bipush (v := 20) hx hb dX5_row_23 (by decide) ?_
      refine lv_iload_n hx hb dX5_row_25 rfl (lv_at hl 1 rfl) ?_
      refine lv_iadd hx hb dX5_row_26 ?_
      obtain ⟨v5, hv5, hf⟩ := bnd hf
      refine xa_iald hx hb hK hP hv5 1 0 rfl rfl dX5_row_27 ?_
      refine lv_iload_n hx hb dX5_row_28 rfl (lv_at hl 2 rfl) ?_
      obtain ⟨v6, hv6, hf⟩ := bnd hf
      refine xcallRV (As := [.int v5, .int x2]) (rest := []) (wc := (wM ks g M)) ⟨hx, hb, hml, hown, hts⟩ (c_X5_valueOf k g M v5 x2 v6 hv6) (cwV 2 hts gX5_row_X5_valueOf rfl rfl rfl (by decide +kernel) ⟨Nat.le_of_ble_eq_true rfl, Nat.le_of_ble_eq_true rfl⟩) hX hP (ci := 4) (q0 := 0) rfl rfl rfl hl.1 rfl (Nat.le_of_ble_eq_true rfl) dX5_row_29 ⟨Nat.zero_le _, Nat.zero_le _⟩ (fun zv6 => ?_)
      refine lv_goto (tgt := 36) hx hb dX5_row_32 (by decide) ?_
      obtain rfl := Option.some.inj hf
      exact hret trivial _ _ dX5_row_36 (fun ty h => by cases h; rfl)

/-! ===== X5_runsTo ===== -/
def p_X5_runsTo_L4 (k : Nat) (M : MD) (y1 : Int32) : Nat → (Int32) → (Int32) → Option (Int32)
  | 0, _, _ => none
  | n + 1, x2, x3 =>
    if y1 < x3 then (some x2) else (if x3 = 0 then (p_X5_runsTo_L4 k M y1 n (x2 + 1) (x3 + 1)) else ((p_X5_colourAt k M x3).bind fun v3 => (p_X5_colourAt k M (x3 - 1)).bind fun v4 => if v3 = v4 then (p_X5_runsTo_L4 k M y1 n (x2 + 0) (x3 + 1)) else (p_X5_runsTo_L4 k M y1 n (x2 + 1) (x3 + 1))))

def p_X5_runsTo (k : Nat) (M : MD) (x1 : Int32) : Option (Int32) :=
  p_X5_runsTo_L4 k M x1 k 0 0

set_option maxHeartbeats 4000000 in
set_option maxRecDepth 100000 in
theorem c_X5_runsTo {l : Launch} {D : va_G} {ks : K3} (k : Nat) (g : AM) (M : MD) (x1 : Int32) (r : Int32) (hf : p_X5_runsTo k M x1 = some r) : MetR l yX5_runsTo wsX5_runsTo { frames := 4, cells := 0, slots := 0, locals := 87 } D ks [.ref g.1, .int x1] (wM ks g M) r True := by
  refine MetR.of (cc := cX5_runsTo) (maxL := 4) (ret := (some .int)) (by decide +kernel) rfl (Nat.le_of_ble_eq_true rfl) ?_ ⟨_, rfl⟩
  intro p e s m below meth c Q hx hb hml hts hown hP hX hret ls hl
  have hK := hX.1
  replace hl : lv_has ls 4 [(0, .ref g.1), (1, .int x1)] := hl
  unfold p_X5_runsTo at hf
  refine lv_iconst (v := 0) hx hb dX5_runsTo_0 (by decide) ?_
  refine lv_istore_n (lv' := [(2, .int 0), (0, .ref g.1), (1, .int x1)]) hx hb dX5_runsTo_1 rfl hl (by decide) rfl (fun ls hl => ?_)
  refine lv_iconst (v := 0) hx hb dX5_runsTo_2 (by decide) ?_
  refine lv_istore_n (lv' := [(3, .int 0), (2, .int 0), (0, .ref g.1), (1, .int x1)]) hx hb dX5_runsTo_3 rfl hl (by decide) rfl (fun ls hl => ?_)
  have L4 : ∀ (n : Nat) (x2q4 : Int32) (x3q4 : Int32) (ls : Array Slot), p_X5_runsTo_L4 k M x1 n x2q4 x3q4 = some r → lv_has ls 4 [(0, .ref g.1), (1, .int x1), (2, .int x2q4), (3, .int x3q4)] → W p l e { frames := 4, cells := 0, slots := 0, locals := 87 } s m ([.ref g.1, .int x1] : List Value).toArray below meth c s.heap [] 0 0 Q (F0 m 4 ls []) := by
    intro n
    induction n with
    | zero => intro x2q4 x3q4 ls hf; cases hf
    | succ n ih4 =>
      intro x2q4 x3q4 ls hf hl
      rw [p_X5_runsTo_L4] at hf
      refine lv_iload_n hx hb dX5_runsTo_4 rfl (lv_at hl 3 rfl) ?_
      refine lv_iload_n hx hb dX5_runsTo_5 rfl (lv_at hl 1 rfl) ?_
      refine lv_icmp_gt (tgt := 42) hx hb dX5_runsTo_6 (by decide) (fun c1 => ?_) (fun c1 => ?_)
      · replace hf := ifT hf c1
        refine lv_iload_n hx hb dX5_runsTo_42 rfl (lv_at hl 2 rfl) ?_
        obtain rfl := Option.some.inj hf
        exact hret trivial _ _ dX5_runsTo_43 (fun ty h => by cases h; rfl)
      · replace hf := ifF hf c1
        refine lv_iload_n hx hb dX5_runsTo_9 rfl (lv_at hl 2 rfl) ?_
        refine lv_iload_n hx hb dX5_runsTo_10 rfl (lv_at hl 3 rfl) ?_
        refine lv_if_eq (tgt := 29) hx hb dX5_runsTo_11 (by decide) (fun c2 => ?_) (fun c2 => ?_)
        · replace hf := ifT hf c2
          refine lv_iconst (v := 1) hx hb dX5_runsTo_29 (by decide) ?_
          refine lv_goto (tgt := 34) hx hb dX5_runsTo_30 (by decide) ?_
          refine lv_iadd hx hb dX5_runsTo_34 ?_
          refine lv_istore_n (lv' := [(2, .int (x2q4 + 1)), (0, .ref g.1), (1, .int x1), (3, .int x3q4)]) hx hb dX5_runsTo_35 rfl hl (by decide) rfl (fun ls hl => ?_)
          refine lv_iinc (v := (x3q4 + 1)) (lv' := [(3, .int (x3q4 + 1)), (2, .int (x2q4 + 1)), (0, .ref g.1), (1, .int x1)]) hx hb dX5_runsTo_36 hl (k := 3) rfl rfl (by decide) rfl (fun ls hl => ?_)
          refine lv_goto (tgt := 4) hx hb dX5_runsTo_39 (by decide) ?_
          exact ih4 _ _  _ hf (lv_sub hl [2, 3, 1, 0] rfl)
        · replace hf := ifF hf c2
          refine lv_aload_n hx hb dX5_runsTo_14 rfl (lv_at hl 0 rfl) ?_
          refine lv_iload_n hx hb dX5_runsTo_15 rfl (lv_at hl 3 rfl) ?_
          obtain ⟨v3, hv3, hf⟩ := bnd hf
          refine xcallRV (As := [.int x3q4]) (rest := [.int x2q4]) (wc := (wM ks g M)) ⟨hx, hb, hml, hown, hts⟩ (c_X5_colourAt k g M x3q4 v3 hv3) (cwV 1 hts gX5_runsTo_X5_colourAt rfl rfl rfl (by decide +kernel) ⟨Nat.le_of_ble_eq_true rfl, Nat.le_of_ble_eq_true rfl⟩) hX hP (ci := 4) (q0 := 0) rfl rfl rfl hl.1 rfl (Nat.le_of_ble_eq_true rfl) dX5_runsTo_16 ⟨Nat.zero_le _, Nat.zero_le _⟩ (fun zv3 => ?_)
          refine lv_aload_n hx hb dX5_runsTo_19 rfl (lv_at hl 0 rfl) ?_
          refine lv_iload_n hx hb dX5_runsTo_20 rfl (lv_at hl 3 rfl) ?_
          refine lv_iconst (v := 1) hx hb dX5_runsTo_21 (by decide) ?_
          refine lv_isub hx hb dX5_runsTo_22 ?_
          obtain ⟨v4, hv4, hf⟩ := bnd hf
          refine xcallRV (As := [.int (x3q4 - 1)]) (rest := [.int v3, .int x2q4]) (wc := (wM ks g M)) ⟨hx, hb, hml, hown, hts⟩ (c_X5_colourAt k g M (x3q4 - 1) v4 hv4) (cwV 1 hts gX5_runsTo_X5_colourAt rfl rfl rfl (by decide +kernel) ⟨Nat.le_of_ble_eq_true rfl, Nat.le_of_ble_eq_true rfl⟩) hX hP (ci := 4) (q0 := 0) rfl rfl rfl hl.1 rfl (Nat.le_of_ble_eq_true rfl) dX5_runsTo_23 ⟨Nat.zero_le _, Nat.zero_le _⟩ (fun zv4 => ?_)
          refine lv_icmp_eq (tgt := 33) hx hb dX5_runsTo_26 (by decide) (fun c5 => ?_) (fun c5 => ?_)
          · replace hf := ifT hf c5
            refine lv_iconst (v := 0) hx hb dX5_runsTo_33 (by decide) ?_
            refine lv_iadd hx hb dX5_runsTo_34 ?_
            refine lv_istore_n (lv' := [(2, .int (x2q4 + 0)), (0, .ref g.1), (1, .int x1), (3, .int x3q4)]) hx hb dX5_runsTo_35 rfl hl (by decide) rfl (fun ls hl => ?_)
            refine lv_iinc (v := (x3q4 + 1)) (lv' := [(3, .int (x3q4 + 1)), (2, .int (x2q4 + 0)), (0, .ref g.1), (1, .int x1)]) hx hb dX5_runsTo_36 hl (k := 3) rfl rfl (by decide) rfl (fun ls hl => ?_)
            refine lv_goto (tgt := 4) hx hb dX5_runsTo_39 (by decide) ?_
            exact ih4 _ _  _ hf (lv_sub hl [2, 3, 1, 0] rfl)
          · replace hf := ifF hf c5
            refine lv_iconst (v := 1) hx hb dX5_runsTo_29 (by decide) ?_
            refine lv_goto (tgt := 34) hx hb dX5_runsTo_30 (by decide) ?_
            refine lv_iadd hx hb dX5_runsTo_34 ?_
            refine lv_istore_n (lv' := [(2, .int (x2q4 + 1)), (0, .ref g.1), (1, .int x1), (3, .int x3q4)]) hx hb dX5_runsTo_35 rfl hl (by decide) rfl (fun ls hl => ?_)
            refine lv_iinc (v := (x3q4 + 1)) (lv' := [(3, .int (x3q4 + 1)), (2, .int (x2q4 + 1)), (0, .ref g.1), (1, .int x1)]) hx hb dX5_runsTo_36 hl (k := 3) rfl rfl (by decide) rfl (fun ls hl => ?_)
            refine lv_goto (tgt := 4) hx hb dX5_runsTo_39 (by decide) ?_
            exact ih4 _ _  _ hf (lv_sub hl [2, 3, 1, 0] rfl)
  exact L4 k _ _ _ hf (lv_sub hl [2, 3, 1, 0] rfl)

/-! ===== X5_colours ===== -/
def p_X5_colours_L4 (k : Nat) (M : MD) : Nat → (Int32) → (Int32) → Option (Int32)
  | 0, _, _ => none
  | n + 1, x1, x2 =>
    (ald (MD.st M) 44 0).bind fun v1 => if v1 ≤ x2 then ((p_X5_bits k x1).bind fun v3 => some v3) else ((p_X5_colourAt k M x2).bind fun v4 => p_X5_colours_L4 k M n (x1 ||| (jshl 1 v4)) (x2 + 1))

def p_X5_colours (k : Nat) (M : MD) : Option (Int32) :=
  p_X5_colours_L4 k M k 0 0

set_option maxHeartbeats 4000000 in
set_option maxRecDepth 100000 in
theorem c_X5_colours {l : Launch} {D : va_G} {ks : K3} (k : Nat) (g : AM) (M : MD) (r : Int32) (hf : p_X5_colours k M = some r) : MetR l yX5_colours wsX5_colours { frames := 4, cells := 0, slots := 0, locals := 87 } D ks [.ref g.1] (wM ks g M) r True := by
  refine MetR.of (cc := cX5_colours) (maxL := 3) (ret := (some .int)) (by decide +kernel) rfl (Nat.le_of_ble_eq_true rfl) ?_ ⟨_, rfl⟩
  intro p e s m below meth c Q hx hb hml hts hown hP hX hret ls hl
  have hK := hX.1
  replace hl : lv_has ls 3 [(0, .ref g.1)] := hl
  have hiX5 : ∀ w ∈ wsX50, w ∈ wsX5_colours := by decide +kernel
  have hk7 := hts (.fieldLink RX5 7 "SoapFilmModel" "st" "[I") (by decide +kernel)
  unfold p_X5_colours at hf
  refine lv_iconst (v := 0) hx hb dX5_colours_0 (by decide) ?_
  refine lv_istore_n (lv' := [(1, .int 0), (0, .ref g.1)]) hx hb dX5_colours_1 rfl hl (by decide) rfl (fun ls hl => ?_)
  refine lv_iconst (v := 0) hx hb dX5_colours_2 (by decide) ?_
  refine lv_istore_n (lv' := [(2, .int 0), (1, .int 0), (0, .ref g.1)]) hx hb dX5_colours_3 rfl hl (by decide) rfl (fun ls hl => ?_)
  have L4 : ∀ (n : Nat) (x1q4 : Int32) (x2q4 : Int32) (ls : Array Slot), p_X5_colours_L4 k M n x1q4 x2q4 = some r → lv_has ls 3 [(0, .ref g.1), (1, .int x1q4), (2, .int x2q4)] → W p l e { frames := 4, cells := 0, slots := 0, locals := 87 } s m ([.ref g.1] : List Value).toArray below meth c s.heap [] 0 0 Q (F0 m 4 ls []) := by
    intro n
    induction n with
    | zero => intro x1q4 x2q4 ls hf; cases hf
    | succ n ih4 =>
      intro x1q4 x2q4 ls hf hl
      rw [p_X5_colours_L4] at hf
      refine lv_iload_n hx hb dX5_colours_4 rfl (lv_at hl 2 rfl) ?_
      refine lv_aload_n hx hb dX5_colours_5 rfl (lv_at hl 0 rfl) ?_
      refine va_get (v := .ref g.2.1) (C := RX5) (T := TX5) (N := 10) hx hb hts hiX5 hown hK hP 0 rfl rfl 0 (by decide) hk7 (fun _ h9 => h9) rfl dX5_colours_6 ?_
      refine lv_iconst (v := 0) hx hb dX5_colours_9 (by decide) ?_
      obtain ⟨v1, hv1, hf⟩ := bnd hf
      refine xa_iald hx hb hK hP hv1 1 0 rfl rfl dX5_colours_10 ?_
      refine lv_icmp_ge (tgt := 30) hx hb dX5_colours_11 (by decide) (fun c2 => ?_) (fun c2 => ?_)
      · replace hf := ifT hf c2
        refine lv_iload_n hx hb dX5_colours_30 rfl (lv_at hl 1 rfl) ?_
        obtain ⟨v3, hv3, hf⟩ := bnd hf
        refine xcallRS (As := [.int x1q4]) (rest := []) (wc := []) ⟨hx, hb, hml, hown, hts⟩ (c_X5_bits k x1q4 v3 hv3) (va_cwS 1 hts gX5_colours_X5_bits rfl rfl rfl (by decide +kernel) ⟨Nat.le_of_ble_eq_true rfl, Nat.le_of_ble_eq_true rfl⟩) hX (va_P0 _ _ _) rfl hl.1 rfl (Nat.le_of_ble_eq_true rfl) dX5_colours_31 ⟨Nat.zero_le _, Nat.zero_le _⟩ (fun zv3 => ?_)
        obtain rfl := Option.some.inj hf
        exact hret trivial _ _ dX5_colours_34 (fun ty h => by cases h; rfl)
      · replace hf := ifF hf c2
        refine lv_iload_n hx hb dX5_colours_14 rfl (lv_at hl 1 rfl) ?_
        refine lv_iconst (v := 1) hx hb dX5_colours_15 (by decide) ?_
        refine lv_aload_n hx hb dX5_colours_16 rfl (lv_at hl 0 rfl) ?_
        refine lv_iload_n hx hb dX5_colours_17 rfl (lv_at hl 2 rfl) ?_
        obtain ⟨v4, hv4, hf⟩ := bnd hf
        refine xcallRV (As := [.int x2q4]) (rest := [.int 1, .int x1q4]) (wc := (wM ks g M)) ⟨hx, hb, hml, hown, hts⟩ (c_X5_colourAt k g M x2q4 v4 hv4) (cwV 1 hts gX5_colours_X5_colourAt rfl rfl rfl (by decide +kernel) ⟨Nat.le_of_ble_eq_true rfl, Nat.le_of_ble_eq_true rfl⟩) hX hP (ci := 4) (q0 := 0) rfl rfl rfl hl.1 rfl (Nat.le_of_ble_eq_true rfl) dX5_colours_18 ⟨Nat.zero_le _, Nat.zero_le _⟩ (fun zv4 => ?_)
        refine xx_ishl hx hb dX5_colours_21 ?_
        refine lv_ior hx hb dX5_colours_22 ?_
        refine lv_istore_n (lv' := [(1, .int (x1q4 ||| (jshl 1 v4))), (0, .ref g.1), (2, .int x2q4)]) hx hb dX5_colours_23 rfl hl (by decide) rfl (fun ls hl => ?_)
        refine lv_iinc (v := (x2q4 + 1)) (lv' := [(2, .int (x2q4 + 1)), (1, .int (x1q4 ||| (jshl 1 v4))), (0, .ref g.1)]) hx hb dX5_colours_24 hl (k := 2) rfl rfl (by decide) rfl (fun ls hl => ?_)
        refine lv_goto (tgt := 4) hx hb dX5_colours_27 (by decide) ?_
        exact ih4 _ _  _ hf (lv_sub hl [2, 1, 0] rfl)
  exact L4 k _ _ _ hf (lv_sub hl [2, 1, 0] rfl)

/-! ===== X5_greatestOrder ===== -/
def p_X5_greatestOrder_L5 (k : Nat) (M : MD) : Nat → (Int32) → (Int32) → Option (Int32)
  | 0, _, _ => none
  | n + 1, x1, x2 =>
    (ald (MD.st M) 44 0).bind fun v1 => if v1 ≤ x2 then (some x1) else ((ald (MD.st M) 44 (20 + x2)).bind fun v3 => (p_X5_path k v3).bind fun v4 => if (v4 / 530) ≤ x1 then (p_X5_greatestOrder_L5 k M n x1 (x2 + 1)) else (p_X5_greatestOrder_L5 k M n (v4 / 530) (x2 + 1)))

def p_X5_greatestOrder (k : Nat) (M : MD) : Option (Int32) :=
  p_X5_greatestOrder_L5 k M k (-4) 0

set_option maxHeartbeats 4000000 in
set_option maxRecDepth 100000 in
theorem c_X5_greatestOrder {l : Launch} {D : va_G} {ks : K3} (k : Nat) (g : AM) (M : MD) (r : Int32) (hf : p_X5_greatestOrder k M = some r) : MetR l yX5_greatestOrder wsX5_greatestOrder { frames := 1, cells := 0, slots := 0, locals := 20 } D ks [.ref g.1] (wM ks g M) r True := by
  refine MetR.of (cc := cX5_greatestOrder) (maxL := 4) (ret := (some .int)) (by decide +kernel) rfl (Nat.le_of_ble_eq_true rfl) ?_ ⟨_, rfl⟩
  intro p e s m below meth c Q hx hb hml hts hown hP hX hret ls hl
  have hK := hX.1
  replace hl : lv_has ls 4 [(0, .ref g.1)] := hl
  have hiX5 : ∀ w ∈ wsX50, w ∈ wsX5_greatestOrder := by decide +kernel
  have hk7 := hts (.fieldLink RX5 7 "SoapFilmModel" "st" "[I") (by decide +kernel)
  unfold p_X5_greatestOrder at hf
  refine lv_bipush (v := (-4)) hx hb dX5_greatestOrder_0 (by decide) ?_
  refine lv_istore_n (lv' := [(1, .int (-4)), (0, .ref g.1)]) hx hb dX5_greatestOrder_2 rfl hl (by decide) rfl (fun ls hl => ?_)
  refine lv_iconst (v := 0) hx hb dX5_greatestOrder_3 (by decide) ?_
  refine lv_istore_n (lv' := [(2, .int 0), (1, .int (-4)), (0, .ref g.1)]) hx hb dX5_greatestOrder_4 rfl hl (by decide) rfl (fun ls hl => ?_)
  have L5 : ∀ (n : Nat) (x1q5 : Int32) (x2q5 : Int32) (ls : Array Slot), p_X5_greatestOrder_L5 k M n x1q5 x2q5 = some r → lv_has ls 4 [(0, .ref g.1), (1, .int x1q5), (2, .int x2q5)] → W p l e { frames := 1, cells := 0, slots := 0, locals := 20 } s m ([.ref g.1] : List Value).toArray below meth c s.heap [] 0 0 Q (F0 m 5 ls []) := by
    intro n
    induction n with
    | zero => intro x1q5 x2q5 ls hf; cases hf
    | succ n ih5 =>
      intro x1q5 x2q5 ls hf hl
      rw [p_X5_greatestOrder_L5] at hf
      refine lv_iload_n hx hb dX5_greatestOrder_5 rfl (lv_at hl 2 rfl) ?_
      refine lv_aload_n hx hb dX5_greatestOrder_6 rfl (lv_at hl 0 rfl) ?_
      refine va_get (v := .ref g.2.1) (C := RX5) (T := TX5) (N := 10) hx hb hts hiX5 hown hK hP 0 rfl rfl 0 (by decide) hk7 (fun _ h9 => h9) rfl dX5_greatestOrder_7 ?_
      refine lv_iconst (v := 0) hx hb dX5_greatestOrder_10 (by decide) ?_
      obtain ⟨v1, hv1, hf⟩ := bnd hf
      refine xa_iald hx hb hK hP hv1 1 0 rfl rfl dX5_greatestOrder_11 ?_
      refine lv_icmp_ge (tgt := 49) hx hb dX5_greatestOrder_12 (by decide) (fun c2 => ?_) (fun c2 => ?_)
      · replace hf := ifT hf c2
        refine lv_iload_n hx hb dX5_greatestOrder_49 rfl (lv_at hl 1 rfl) ?_
        obtain rfl := Option.some.inj hf
        exact hret trivial _ _ dX5_greatestOrder_50 (fun ty h => by cases h; rfl)
      · replace hf := ifF hf c2
        refine lv_aload_n hx hb dX5_greatestOrder_15 rfl (lv_at hl 0 rfl) ?_
        refine va_get (v := .ref g.2.1) (C := RX5) (T := TX5) (N := 10) hx hb hts hiX5 hown hK hP 0 rfl rfl 0 (by decide) hk7 (fun _ h9 => h9) rfl dX5_greatestOrder_16 ?_
        refine lv_bipush (v := 20) hx hb dX5_greatestOrder_19 (by decide) ?_
        refine lv_iload_n hx hb dX5_greatestOrder_21 rfl (lv_at hl 2 rfl) ?_
        refine lv_iadd hx hb dX5_greatestOrder_22 ?_
        obtain ⟨v3, hv3, hf⟩ := bnd hf
        refine xa_iald hx hb hK hP hv3 1 0 rfl rfl dX5_greatestOrder_23 ?_
        obtain ⟨v4, hv4, hf⟩ := bnd hf
        refine xcallRS (As := [.int v3]) (rest := []) (wc := []) ⟨hx, hb, hml, hown, hts⟩ (c_X5_path k v3 v4 hv4) (va_cwS 1 hts gX5_greatestOrder_X5_path rfl rfl rfl (by decide +kernel) ⟨Nat.le_of_ble_eq_true rfl, Nat.le_of_ble_eq_true rfl⟩) hX (va_P0 _ _ _) rfl hl.1 rfl (Nat.le_of_ble_eq_true rfl) dX5_greatestOrder_24 ⟨Nat.zero_le _, Nat.zero_le _⟩ (fun zv4 => ?_)
        refine lv_sipush (v := 530) hx hb dX5_greatestOrder_27 (by decide) ?_
        refine lv_idiv hx hb dX5_greatestOrder_30 (by decide) ?_
        refine lv_istore_n (lv' := [(3, .int (v4 / 530)), (0, .ref g.1), (1, .int x1q5), (2, .int x2q5)]) hx hb dX5_greatestOrder_31 rfl hl (by decide) rfl (fun ls hl => ?_)
        refine lv_iload_n hx hb dX5_greatestOrder_32 rfl (lv_at hl 0 rfl) ?_
        refine lv_iload_n hx hb dX5_greatestOrder_33 rfl (lv_at hl 2 rfl) ?_
        refine lv_icmp_le (tgt := 41) hx hb dX5_greatestOrder_34 (by decide) (fun c5 => ?_) (fun c5 => ?_)
        · replace hf := ifT hf c5
          refine lv_iload_n hx hb dX5_greatestOrder_41 rfl (lv_at hl 2 rfl) ?_
          refine lv_istore_n (lv' := [(1, .int x1q5), (3, .int (v4 / 530)), (0, .ref g.1), (2, .int x2q5)]) hx hb dX5_greatestOrder_42 rfl hl (by decide) rfl (fun ls hl => ?_)
          refine lv_iinc (v := (x2q5 + 1)) (lv' := [(2, .int (x2q5 + 1)), (1, .int x1q5), (3, .int (v4 / 530)), (0, .ref g.1)]) hx hb dX5_greatestOrder_43 hl (k := 3) rfl rfl (by decide) rfl (fun ls hl => ?_)
          refine lv_goto (tgt := 5) hx hb dX5_greatestOrder_46 (by decide) ?_
          exact ih5 _ _  _ hf (lv_sub hl [3, 1, 0] rfl)
        · replace hf := ifF hf c5
          refine lv_iload_n hx hb dX5_greatestOrder_37 rfl (lv_at hl 0 rfl) ?_
          refine lv_goto (tgt := 42) hx hb dX5_greatestOrder_38 (by decide) ?_
          refine lv_istore_n (lv' := [(1, .int (v4 / 530)), (3, .int (v4 / 530)), (0, .ref g.1), (2, .int x2q5)]) hx hb dX5_greatestOrder_42 rfl hl (by decide) rfl (fun ls hl => ?_)
          refine lv_iinc (v := (x2q5 + 1)) (lv' := [(2, .int (x2q5 + 1)), (1, .int (v4 / 530)), (3, .int (v4 / 530)), (0, .ref g.1)]) hx hb dX5_greatestOrder_43 hl (k := 3) rfl rfl (by decide) rfl (fun ls hl => ?_)
          refine lv_goto (tgt := 5) hx hb dX5_greatestOrder_46 (by decide) ?_
          exact ih5 _ _  _ hf (lv_sub hl [3, 1, 0] rfl)
  exact L5 k _ _ _ hf (lv_sub hl [2, 1, 0] rfl)

/-! ===== X5_account ===== -/
def p_X5_account (k : Nat) (M : MD) (x1 : Int32) : Option (Int32) :=
  if x1 = 0 then ((ald (MD.st M) 44 3).bind fun v7 => some v7) else (if x1 = 1 then ((p_X5_liquid k M).bind fun v6 => some v6) else (if x1 = 2 then ((ald (MD.st M) 44 2).bind fun v5 => some v5) else ((ald (MD.st M) 44 ((4 + x1) - 3)).bind fun v4 => some v4)))

set_option maxHeartbeats 4000000 in
set_option maxRecDepth 100000 in
theorem c_X5_account {l : Launch} {D : va_G} {ks : K3} (k : Nat) (g : AM) (M : MD) (x1 : Int32) (r : Int32) (hf : p_X5_account k M x1 = some r) : MetR l yX5_account wsX5_account { frames := 1, cells := 0, slots := 0, locals := 22 } D ks [.ref g.1, .int x1] (wM ks g M) r True := by
  refine MetR.of (cc := cX5_account) (maxL := 2) (ret := (some .int)) (by decide +kernel) rfl (Nat.le_of_ble_eq_true rfl) ?_ ⟨_, rfl⟩
  intro p e s m below meth c Q hx hb hml hts hown hP hX hret ls hl
  have hK := hX.1
  replace hl : lv_has ls 2 [(0, .ref g.1), (1, .int x1)] := hl
  have hiX5 : ∀ w ∈ wsX50, w ∈ wsX5_account := by decide +kernel
  have hk7 := hts (.fieldLink RX5 7 "SoapFilmModel" "st" "[I") (by decide +kernel)
  unfold p_X5_account at hf
  refine lv_iload_n hx hb dX5_account_0 rfl (lv_at hl 1 rfl) ?_
  refine lv_if_ne (tgt := 13) hx hb dX5_account_1 (by decide) (fun c1 => ?_) (fun c1 => ?_)
  · replace hf := ifF hf c1
    refine lv_iload_n hx hb dX5_account_13 rfl (lv_at hl 1 rfl) ?_
    refine lv_iconst (v := 1) hx hb dX5_account_14 (by decide) ?_
    refine lv_icmp_ne (tgt := 25) hx hb dX5_account_15 (by decide) (fun c2 => ?_) (fun c2 => ?_)
    · replace hf := ifF hf c2
      refine lv_iload_n hx hb dX5_account_25 rfl (lv_at hl 1 rfl) ?_
      refine lv_iconst (v := 2) hx hb dX5_account_26 (by decide) ?_
      refine lv_icmp_ne (tgt := 39) hx hb dX5_account_27 (by decide) (fun c3 => ?_) (fun c3 => ?_)
      · replace hf := ifF hf c3
        refine lv_aload_n hx hb dX5_account_39 rfl (lv_at hl 0 rfl) ?_
        refine va_get (v := .ref g.2.1) (C := RX5) (T := TX5) (N := 10) hx hb hts hiX5 hown hK hP 0 rfl rfl 0 (by decide) hk7 (fun _ h9 => h9) rfl dX5_account_40 ?_
        refine lv_iconst (v := 4) hx hb dX5_account_43 (by decide) ?_
        refine lv_iload_n hx hb dX5_account_44 rfl (lv_at hl 1 rfl) ?_
        refine lv_iadd hx hb dX5_account_45 ?_
        refine lv_iconst (v := 3) hx hb dX5_account_46 (by decide) ?_
        refine lv_isub hx hb dX5_account_47 ?_
        obtain ⟨v4, hv4, hf⟩ := bnd hf
        refine xa_iald hx hb hK hP hv4 1 0 rfl rfl dX5_account_48 ?_
        obtain rfl := Option.some.inj hf
        exact hret trivial _ _ dX5_account_49 (fun ty h => by cases h; rfl)
      · replace hf := ifT hf c3
        refine lv_aload_n hx hb dX5_account_30 rfl (lv_at hl 0 rfl) ?_
        refine va_get (v := .ref g.2.1) (C := RX5) (T := TX5) (N := 10) hx hb hts hiX5 hown hK hP 0 rfl rfl 0 (by decide) hk7 (fun _ h9 => h9) rfl dX5_account_31 ?_
        refine lv_iconst (v := 2) hx hb dX5_account_34 (by decide) ?_
        obtain ⟨v5, hv5, hf⟩ := bnd hf
        refine xa_iald hx hb hK hP hv5 1 0 rfl rfl dX5_account_35 ?_
        refine lv_goto (tgt := 49) hx hb dX5_account_36 (by decide) ?_
        obtain rfl := Option.some.inj hf
        exact hret trivial _ _ dX5_account_49 (fun ty h => by cases h; rfl)
    · replace hf := ifT hf c2
      refine lv_aload_n hx hb dX5_account_18 rfl (lv_at hl 0 rfl) ?_
      obtain ⟨v6, hv6, hf⟩ := bnd hf
      refine xcallRV (As := []) (rest := []) (wc := (wM ks g M)) ⟨hx, hb, hml, hown, hts⟩ (c_X5_liquid k g M v6 hv6) (cwV 0 hts gX5_account_X5_liquid rfl rfl rfl (by decide +kernel) ⟨Nat.le_of_ble_eq_true rfl, Nat.le_of_ble_eq_true rfl⟩) hX hP (ci := 4) (q0 := 0) rfl rfl rfl hl.1 rfl (Nat.le_of_ble_eq_true rfl) dX5_account_19 ⟨Nat.zero_le _, Nat.zero_le _⟩ (fun zv6 => ?_)
      refine lv_goto (tgt := 49) hx hb dX5_account_22 (by decide) ?_
      obtain rfl := Option.some.inj hf
      exact hret trivial _ _ dX5_account_49 (fun ty h => by cases h; rfl)
  · replace hf := ifT hf c1
    refine lv_aload_n hx hb dX5_account_4 rfl (lv_at hl 0 rfl) ?_
    refine va_get (v := .ref g.2.1) (C := RX5) (T := TX5) (N := 10) hx hb hts hiX5 hown hK hP 0 rfl rfl 0 (by decide) hk7 (fun _ h9 => h9) rfl dX5_account_5 ?_
    refine lv_iconst (v := 3) hx hb dX5_account_8 (by decide) ?_
    obtain ⟨v7, hv7, hf⟩ := bnd hf
    refine xa_iald hx hb hK hP hv7 1 0 rfl rfl dX5_account_9 ?_
    refine lv_goto (tgt := 49) hx hb dX5_account_10 (by decide) ?_
    obtain rfl := Option.some.inj hf
    exact hret trivial _ _ dX5_account_49 (fun ty h => by cases h; rfl)

/-! ===== X5_ofBurst ===== -/
def p_X5_ofBurst (k : Nat) (M : MD) (x1 : Int32) : Option (Int32) :=
  (ald (MD.st M) 44 8).bind fun v1 => if v1 = 0 then (some (-4)) else ((ald (MD.st M) 44 x1).bind fun v3 => some v3)

set_option maxHeartbeats 4000000 in
set_option maxRecDepth 100000 in
theorem c_X5_ofBurst {l : Launch} {D : va_G} {ks : K3} (k : Nat) (g : AM) (M : MD) (x1 : Int32) (r : Int32) (hf : p_X5_ofBurst k M x1 = some r) : MetR l yX5_ofBurst wsX5_ofBurst { frames := 0, cells := 0, slots := 0, locals := 0 } D ks [.ref g.1, .int x1] (wM ks g M) r True := by
  refine MetR.of (cc := cX5_ofBurst) (maxL := 2) (ret := (some .int)) (by decide +kernel) rfl (Nat.le_of_ble_eq_true rfl) ?_ ⟨_, rfl⟩
  intro p e s m below meth c Q hx hb hml hts hown hP hX hret ls hl
  have hK := hX.1
  replace hl : lv_has ls 2 [(0, .ref g.1), (1, .int x1)] := hl
  have hiX5 : ∀ w ∈ wsX50, w ∈ wsX5_ofBurst := by decide +kernel
  have hk7 := hts (.fieldLink RX5 7 "SoapFilmModel" "st" "[I") (by decide +kernel)
  unfold p_X5_ofBurst at hf
  refine lv_aload_n hx hb dX5_ofBurst_0 rfl (lv_at hl 0 rfl) ?_
  refine va_get (v := .ref g.2.1) (C := RX5) (T := TX5) (N := 10) hx hb hts hiX5 hown hK hP 0 rfl rfl 0 (by decide) hk7 (fun _ h9 => h9) rfl dX5_ofBurst_1 ?_
  refine lv_bipush (v := 8) hx hb dX5_ofBurst_4 (by decide) ?_
  obtain ⟨v1, hv1, hf⟩ := bnd hf
  refine xa_iald hx hb hK hP hv1 1 0 rfl rfl dX5_ofBurst_6 ?_
  refine lv_if_ne (tgt := 15) hx hb dX5_ofBurst_7 (by decide) (fun c2 => ?_) (fun c2 => ?_)
  · replace hf := ifF hf c2
    refine lv_aload_n hx hb dX5_ofBurst_15 rfl (lv_at hl 0 rfl) ?_
    refine va_get (v := .ref g.2.1) (C := RX5) (T := TX5) (N := 10) hx hb hts hiX5 hown hK hP 0 rfl rfl 0 (by decide) hk7 (fun _ h9 => h9) rfl dX5_ofBurst_16 ?_
    refine lv_iload_n hx hb dX5_ofBurst_19 rfl (lv_at hl 1 rfl) ?_
    obtain ⟨v3, hv3, hf⟩ := bnd hf
    refine xa_iald hx hb hK hP hv3 1 0 rfl rfl dX5_ofBurst_20 ?_
    obtain rfl := Option.some.inj hf
    exact hret trivial _ _ dX5_ofBurst_21 (fun ty h => by cases h; rfl)
  · replace hf := ifT hf c2
    refine lv_bipush (v := (-4)) hx hb dX5_ofBurst_10 (by decide) ?_
    refine lv_goto (tgt := 21) hx hb dX5_ofBurst_12 (by decide) ?_
    obtain rfl := Option.some.inj hf
    exact hret trivial _ _ dX5_ofBurst_21 (fun ty h => by cases h; rfl)

/-! ===== X5_count ===== -/
def p_X5_count (k : Nat) (M : MD) (x1 : Int32) : Option (Int32) :=
  if x1 = 0 then ((ald (MD.st M) 44 0).bind fun v2 => some v2) else (if x1 = 1 then ((ald (MD.st M) 44 1).bind fun v4 => some v4) else (if x1 = 2 then ((p_X5_blackOnes k M).bind fun v6 => (p_X5_bits k v6).bind fun v7 => some v7) else (if x1 = 3 then ((ald (MD.st M) 44 0).bind fun v9 => if v9 = 0 then (some 0) else ((ald (MD.st M) 44 0).bind fun v11 => (p_X5_runsTo k M (v11 - 1)).bind fun v12 => some (v12 - 1))) else (if x1 = 4 then ((p_X5_colours k M).bind fun v14 => some v14) else (if x1 = 5 then ((p_X5_greatestOrder k M).bind fun v16 => some v16) else (if x1 = 6 then ((ald (MD.st M) 44 10).bind fun v18 => some v18) else (if x1 = 7 then ((p_X5_ofBurst k M 11).bind fun v20 => some v20) else (if x1 = 8 then ((p_X5_ofBurst k M 12).bind fun v22 => some v22) else (if x1 = 9 then ((ald (MD.st M) 44 8).bind fun v24 => some v24) else (if x1 = 10 then ((ald (MD.st M) 44 9).bind fun v26 => some v26) else (if x1 = 11 then (some (MD.pasts M)) else (if x1 = 12 then (some (MD.length M)) else ((p_X5_in k x1 20 26).bind fun v29 => if v29 = 0 then ((p_X5_in k x1 30 36).bind fun v31 => if v31 = 0 then (some (-1)) else ((p_X5_of k M (x1 - 30)).bind fun v33 => some v33)) else ((p_X5_account k M (x1 - 20)).bind fun v34 => some v34))))))))))))))

set_option maxHeartbeats 4000000 in
set_option maxRecDepth 100000 in
theorem c_X5_count {l : Launch} {D : va_G} {ks : K3} (k : Nat) (g : AM) (M : MD) (x1 : Int32) (r : Int32) (hf : p_X5_count k M x1 = some r) : MetR l yX5_count wsX5_count { frames := 5, cells := 0, slots := 0, locals := 110 } D ks [.ref g.1, .int x1] (wM ks g M) r True := by
  refine MetR.of (cc := cX5_count) (maxL := 2) (ret := (some .int)) (by decide +kernel) rfl (Nat.le_of_ble_eq_true rfl) ?_ ⟨_, rfl⟩
  intro p e s m below meth c Q hx hb hml hts hown hP hX hret ls hl
  have hK := hX.1
  replace hl : lv_has ls 2 [(0, .ref g.1), (1, .int x1)] := hl
  have hiX5 : ∀ w ∈ wsX50, w ∈ wsX5_count := by decide +kernel
  have hk7 := hts (.fieldLink RX5 7 "SoapFilmModel" "st" "[I") (by decide +kernel)
  have hk22 := hts (.fieldLink RX5 22 "SoapFilmModel" "pasts" "I") (by decide +kernel)
  have hk117 := hts (.fieldLink RX5 117 "SoapFilmModel" "length" "I") (by decide +kernel)
  unfold p_X5_count at hf
  refine lv_iload_n hx hb dX5_count_0 rfl (lv_at hl 1 rfl) ?_
  by_cases c1 : x1 = 0
  · replace hf := ifT hf c1
    refine lv_tableIn (tgt := 68) (off := 67) hx hb dX5_count_1 (by rw [c1]; decide) (by rw [c1]; decide) (by rw [c1]; rfl) (by decide) ?_
    refine lv_aload_n hx hb dX5_count_68 rfl (lv_at hl 0 rfl) ?_
    refine va_get (v := .ref g.2.1) (C := RX5) (T := TX5) (N := 10) hx hb hts hiX5 hown hK hP 0 rfl rfl 0 (by decide) hk7 (fun _ h9 => h9) rfl dX5_count_69 ?_
    refine lv_iconst (v := 0) hx hb dX5_count_72 (by decide) ?_
    obtain ⟨v2, hv2, hf⟩ := bnd hf
    refine xa_iald hx hb hK hP hv2 1 0 rfl rfl dX5_count_73 ?_
    obtain rfl := Option.some.inj hf
    exact hret trivial _ _ dX5_count_74 (fun ty h => by cases h; rfl)
  replace hf := ifF hf c1
  by_cases c3 : x1 = 1
  · replace hf := ifT hf c3
    refine lv_tableIn (tgt := 75) (off := 74) hx hb dX5_count_1 (by rw [c3]; decide) (by rw [c3]; decide) (by rw [c3]; rfl) (by decide) ?_
    refine lv_aload_n hx hb dX5_count_75 rfl (lv_at hl 0 rfl) ?_
    refine va_get (v := .ref g.2.1) (C := RX5) (T := TX5) (N := 10) hx hb hts hiX5 hown hK hP 0 rfl rfl 0 (by decide) hk7 (fun _ h9 => h9) rfl dX5_count_76 ?_
    refine lv_iconst (v := 1) hx hb dX5_count_79 (by decide) ?_
    obtain ⟨v4, hv4, hf⟩ := bnd hf
    refine xa_iald hx hb hK hP hv4 1 0 rfl rfl dX5_count_80 ?_
    obtain rfl := Option.some.inj hf
    exact hret trivial _ _ dX5_count_81 (fun ty h => by cases h; rfl)
  replace hf := ifF hf c3
  by_cases c5 : x1 = 2
  · replace hf := ifT hf c5
    refine lv_tableIn (tgt := 82) (off := 81) hx hb dX5_count_1 (by rw [c5]; decide) (by rw [c5]; decide) (by rw [c5]; rfl) (by decide) ?_
    refine lv_aload_n hx hb dX5_count_82 rfl (lv_at hl 0 rfl) ?_
    obtain ⟨v6, hv6, hf⟩ := bnd hf
    refine xcallRV (As := []) (rest := []) (wc := (wM ks g M)) ⟨hx, hb, hml, hown, hts⟩ (c_X5_blackOnes k g M v6 hv6) (cwV 0 hts gX5_count_X5_blackOnes rfl rfl rfl (by decide +kernel) ⟨Nat.le_of_ble_eq_true rfl, Nat.le_of_ble_eq_true rfl⟩) hX hP (ci := 4) (q0 := 0) rfl rfl rfl hl.1 rfl (Nat.le_of_ble_eq_true rfl) dX5_count_83 ⟨Nat.zero_le _, Nat.zero_le _⟩ (fun zv6 => ?_)
    obtain ⟨v7, hv7, hf⟩ := bnd hf
    refine xcallRS (As := [.int v6]) (rest := []) (wc := []) ⟨hx, hb, hml, hown, hts⟩ (c_X5_bits k v6 v7 hv7) (va_cwS 1 hts gX5_count_X5_bits rfl rfl rfl (by decide +kernel) ⟨Nat.le_of_ble_eq_true rfl, Nat.le_of_ble_eq_true rfl⟩) hX (va_P0 _ _ _) rfl hl.1 rfl (Nat.le_of_ble_eq_true rfl) dX5_count_86 ⟨Nat.zero_le _, Nat.zero_le _⟩ (fun zv7 => ?_)
    obtain rfl := Option.some.inj hf
    exact hret trivial _ _ dX5_count_89 (fun ty h => by cases h; rfl)
  replace hf := ifF hf c5
  by_cases c8 : x1 = 3
  · replace hf := ifT hf c8
    refine lv_tableIn (tgt := 90) (off := 89) hx hb dX5_count_1 (by rw [c8]; decide) (by rw [c8]; decide) (by rw [c8]; rfl) (by decide) ?_
    refine lv_aload_n hx hb dX5_count_90 rfl (lv_at hl 0 rfl) ?_
    refine va_get (v := .ref g.2.1) (C := RX5) (T := TX5) (N := 10) hx hb hts hiX5 hown hK hP 0 rfl rfl 0 (by decide) hk7 (fun _ h9 => h9) rfl dX5_count_91 ?_
    refine lv_iconst (v := 0) hx hb dX5_count_94 (by decide) ?_
    obtain ⟨v9, hv9, hf⟩ := bnd hf
    refine xa_iald hx hb hK hP hv9 1 0 rfl rfl dX5_count_95 ?_
    refine lv_if_ne (tgt := 103) hx hb dX5_count_96 (by decide) (fun c10 => ?_) (fun c10 => ?_)
    · replace hf := ifF hf c10
      refine lv_aload_n hx hb dX5_count_103 rfl (lv_at hl 0 rfl) ?_
      refine lv_aload_n hx hb dX5_count_104 rfl (lv_at hl 0 rfl) ?_
      refine va_get (v := .ref g.2.1) (C := RX5) (T := TX5) (N := 10) hx hb hts hiX5 hown hK hP 0 rfl rfl 0 (by decide) hk7 (fun _ h9 => h9) rfl dX5_count_105 ?_
      refine lv_iconst (v := 0) hx hb dX5_count_108 (by decide) ?_
      obtain ⟨v11, hv11, hf⟩ := bnd hf
      refine xa_iald hx hb hK hP hv11 1 0 rfl rfl dX5_count_109 ?_
      refine lv_iconst (v := 1) hx hb dX5_count_110 (by decide) ?_
      refine lv_isub hx hb dX5_count_111 ?_
      obtain ⟨v12, hv12, hf⟩ := bnd hf
      refine xcallRV (As := [.int (v11 - 1)]) (rest := []) (wc := (wM ks g M)) ⟨hx, hb, hml, hown, hts⟩ (c_X5_runsTo k g M (v11 - 1) v12 hv12) (cwV 1 hts gX5_count_X5_runsTo rfl rfl rfl (by decide +kernel) ⟨Nat.le_of_ble_eq_true rfl, Nat.le_of_ble_eq_true rfl⟩) hX hP (ci := 4) (q0 := 0) rfl rfl rfl hl.1 rfl (Nat.le_of_ble_eq_true rfl) dX5_count_112 ⟨Nat.zero_le _, Nat.zero_le _⟩ (fun zv12 => ?_)
      refine lv_iconst (v := 1) hx hb dX5_count_115 (by decide) ?_
      refine lv_isub hx hb dX5_count_116 ?_
      obtain rfl := Option.some.inj hf
      exact hret trivial _ _ dX5_count_117 (fun ty h => by cases h; rfl)
    · replace hf := ifT hf c10
      refine lv_iconst (v := 0) hx hb dX5_count_99 (by decide) ?_
      refine lv_goto (tgt := 117) hx hb dX5_count_100 (by decide) ?_
      obtain rfl := Option.some.inj hf
      exact hret trivial _ _ dX5_count_117 (fun ty h => by cases h; rfl)
  replace hf := ifF hf c8
  by_cases c13 : x1 = 4
  · replace hf := ifT hf c13
    refine lv_tableIn (tgt := 118) (off := 117) hx hb dX5_count_1 (by rw [c13]; decide) (by rw [c13]; decide) (by rw [c13]; rfl) (by decide) ?_
    refine lv_aload_n hx hb dX5_count_118 rfl (lv_at hl 0 rfl) ?_
    obtain ⟨v14, hv14, hf⟩ := bnd hf
    refine xcallRV (As := []) (rest := []) (wc := (wM ks g M)) ⟨hx, hb, hml, hown, hts⟩ (c_X5_colours k g M v14 hv14) (cwV 0 hts gX5_count_X5_colours rfl rfl rfl (by decide +kernel) ⟨Nat.le_of_ble_eq_true rfl, Nat.le_of_ble_eq_true rfl⟩) hX hP (ci := 4) (q0 := 0) rfl rfl rfl hl.1 rfl (Nat.le_of_ble_eq_true rfl) dX5_count_119 ⟨Nat.zero_le _, Nat.zero_le _⟩ (fun zv14 => ?_)
    obtain rfl := Option.some.inj hf
    exact hret trivial _ _ dX5_count_122 (fun ty h => by cases h; rfl)
  replace hf := ifF hf c13
  by_cases c15 : x1 = 5
  · replace hf := ifT hf c15
    refine lv_tableIn (tgt := 123) (off := 122) hx hb dX5_count_1 (by rw [c15]; decide) (by rw [c15]; decide) (by rw [c15]; rfl) (by decide) ?_
    refine lv_aload_n hx hb dX5_count_123 rfl (lv_at hl 0 rfl) ?_
    obtain ⟨v16, hv16, hf⟩ := bnd hf
    refine xcallRV (As := []) (rest := []) (wc := (wM ks g M)) ⟨hx, hb, hml, hown, hts⟩ (c_X5_greatestOrder k g M v16 hv16) (cwV 0 hts gX5_count_X5_greatestOrder rfl rfl rfl (by decide +kernel) ⟨Nat.le_of_ble_eq_true rfl, Nat.le_of_ble_eq_true rfl⟩) hX hP (ci := 4) (q0 := 0) rfl rfl rfl hl.1 rfl (Nat.le_of_ble_eq_true rfl) dX5_count_124 ⟨Nat.zero_le _, Nat.zero_le _⟩ (fun zv16 => ?_)
    obtain rfl := Option.some.inj hf
    exact hret trivial _ _ dX5_count_127 (fun ty h => by cases h; rfl)
  replace hf := ifF hf c15
  by_cases c17 : x1 = 6
  · replace hf := ifT hf c17
    refine lv_tableIn (tgt := 128) (off := 127) hx hb dX5_count_1 (by rw [c17]; decide) (by rw [c17]; decide) (by rw [c17]; rfl) (by decide) ?_
    refine lv_aload_n hx hb dX5_count_128 rfl (lv_at hl 0 rfl) ?_
    refine va_get (v := .ref g.2.1) (C := RX5) (T := TX5) (N := 10) hx hb hts hiX5 hown hK hP 0 rfl rfl 0 (by decide) hk7 (fun _ h9 => h9) rfl dX5_count_129 ?_
    refine lv_bipush (v := 10) hx hb dX5_count_132 (by decide) ?_
    obtain ⟨v18, hv18, hf⟩ := bnd hf
    refine xa_iald hx hb hK hP hv18 1 0 rfl rfl dX5_count_134 ?_
    obtain rfl := Option.some.inj hf
    exact hret trivial _ _ dX5_count_135 (fun ty h => by cases h; rfl)
  replace hf := ifF hf c17
  by_cases c19 : x1 = 7
  · replace hf := ifT hf c19
    refine lv_tableIn (tgt := 136) (off := 135) hx hb dX5_count_1 (by rw [c19]; decide) (by rw [c19]; decide) (by rw [c19]; rfl) (by decide) ?_
    refine lv_aload_n hx hb dX5_count_136 rfl (lv_at hl 0 rfl) ?_
    refine lv_bipush (v := 11) hx hb dX5_count_137 (by decide) ?_
    obtain ⟨v20, hv20, hf⟩ := bnd hf
    refine xcallRV (As := [.int 11]) (rest := []) (wc := (wM ks g M)) ⟨hx, hb, hml, hown, hts⟩ (c_X5_ofBurst k g M 11 v20 hv20) (cwV 1 hts gX5_count_X5_ofBurst rfl rfl rfl (by decide +kernel) ⟨Nat.le_of_ble_eq_true rfl, Nat.le_of_ble_eq_true rfl⟩) hX hP (ci := 4) (q0 := 0) rfl rfl rfl hl.1 rfl (Nat.le_of_ble_eq_true rfl) dX5_count_139 ⟨Nat.zero_le _, Nat.zero_le _⟩ (fun zv20 => ?_)
    obtain rfl := Option.some.inj hf
    exact hret trivial _ _ dX5_count_142 (fun ty h => by cases h; rfl)
  replace hf := ifF hf c19
  by_cases c21 : x1 = 8
  · replace hf := ifT hf c21
    refine lv_tableIn (tgt := 143) (off := 142) hx hb dX5_count_1 (by rw [c21]; decide) (by rw [c21]; decide) (by rw [c21]; rfl) (by decide) ?_
    refine lv_aload_n hx hb dX5_count_143 rfl (lv_at hl 0 rfl) ?_
    refine lv_bipush (v := 12) hx hb dX5_count_144 (by decide) ?_
    obtain ⟨v22, hv22, hf⟩ := bnd hf
    refine xcallRV (As := [.int 12]) (rest := []) (wc := (wM ks g M)) ⟨hx, hb, hml, hown, hts⟩ (c_X5_ofBurst k g M 12 v22 hv22) (cwV 1 hts gX5_count_X5_ofBurst rfl rfl rfl (by decide +kernel) ⟨Nat.le_of_ble_eq_true rfl, Nat.le_of_ble_eq_true rfl⟩) hX hP (ci := 4) (q0 := 0) rfl rfl rfl hl.1 rfl (Nat.le_of_ble_eq_true rfl) dX5_count_146 ⟨Nat.zero_le _, Nat.zero_le _⟩ (fun zv22 => ?_)
    obtain rfl := Option.some.inj hf
    exact hret trivial _ _ dX5_count_149 (fun ty h => by cases h; rfl)
  replace hf := ifF hf c21
  by_cases c23 : x1 = 9
  · replace hf := ifT hf c23
    refine lv_tableIn (tgt := 150) (off := 149) hx hb dX5_count_1 (by rw [c23]; decide) (by rw [c23]; decide) (by rw [c23]; rfl) (by decide) ?_
    refine lv_aload_n hx hb dX5_count_150 rfl (lv_at hl 0 rfl) ?_
    refine va_get (v := .ref g.2.1) (C := RX5) (T := TX5) (N := 10) hx hb hts hiX5 hown hK hP 0 rfl rfl 0 (by decide) hk7 (fun _ h9 => h9) rfl dX5_count_151 ?_
    refine lv_bipush (v := 8) hx hb dX5_count_154 (by decide) ?_
    obtain ⟨v24, hv24, hf⟩ := bnd hf
    refine xa_iald hx hb hK hP hv24 1 0 rfl rfl dX5_count_156 ?_
    obtain rfl := Option.some.inj hf
    exact hret trivial _ _ dX5_count_157 (fun ty h => by cases h; rfl)
  replace hf := ifF hf c23
  by_cases c25 : x1 = 10
  · replace hf := ifT hf c25
    refine lv_tableIn (tgt := 158) (off := 157) hx hb dX5_count_1 (by rw [c25]; decide) (by rw [c25]; decide) (by rw [c25]; rfl) (by decide) ?_
    refine lv_aload_n hx hb dX5_count_158 rfl (lv_at hl 0 rfl) ?_
    refine va_get (v := .ref g.2.1) (C := RX5) (T := TX5) (N := 10) hx hb hts hiX5 hown hK hP 0 rfl rfl 0 (by decide) hk7 (fun _ h9 => h9) rfl dX5_count_159 ?_
    refine lv_bipush (v := 9) hx hb dX5_count_162 (by decide) ?_
    obtain ⟨v26, hv26, hf⟩ := bnd hf
    refine xa_iald hx hb hK hP hv26 1 0 rfl rfl dX5_count_164 ?_
    obtain rfl := Option.some.inj hf
    exact hret trivial _ _ dX5_count_165 (fun ty h => by cases h; rfl)
  replace hf := ifF hf c25
  by_cases c27 : x1 = 11
  · replace hf := ifT hf c27
    refine lv_tableIn (tgt := 166) (off := 165) hx hb dX5_count_1 (by rw [c27]; decide) (by rw [c27]; decide) (by rw [c27]; rfl) (by decide) ?_
    refine lv_aload_n hx hb dX5_count_166 rfl (lv_at hl 0 rfl) ?_
    refine va_get (v := .int (MD.pasts M)) (C := RX5) (T := TX5) (N := 10) hx hb hts hiX5 hown hK hP 0 rfl rfl 3 (by decide) hk22 (fun _ h9 => h9) rfl dX5_count_167 ?_
    obtain rfl := Option.some.inj hf
    exact hret trivial _ _ dX5_count_170 (fun ty h => by cases h; rfl)
  replace hf := ifF hf c27
  by_cases c28 : x1 = 12
  · replace hf := ifT hf c28
    refine lv_tableIn (tgt := 171) (off := 170) hx hb dX5_count_1 (by rw [c28]; decide) (by rw [c28]; decide) (by rw [c28]; rfl) (by decide) ?_
    refine lv_aload_n hx hb dX5_count_171 rfl (lv_at hl 0 rfl) ?_
    refine va_get (v := .int (MD.length M)) (C := RX5) (T := TX5) (N := 10) hx hb hts hiX5 hown hK hP 0 rfl rfl 5 (by decide) hk117 (fun _ h9 => h9) rfl dX5_count_172 ?_
    obtain rfl := Option.some.inj hf
    exact hret trivial _ _ dX5_count_175 (fun ty h => by cases h; rfl)
  replace hf := ifF hf c28
  refine lv_tableOut (tgt := 176) hx hb dX5_count_1 (by have := lv_neT (a := 0) c1 (by decide); have := lv_neT (a := 1) c3 (by decide); have := lv_neT (a := 2) c5 (by decide); have := lv_neT (a := 3) c8 (by decide); have := lv_neT (a := 4) c13 (by decide); have := lv_neT (a := 5) c15 (by decide); have := lv_neT (a := 6) c17 (by decide); have := lv_neT (a := 7) c19 (by decide); have := lv_neT (a := 8) c21 (by decide); have := lv_neT (a := 9) c23 (by decide); have := lv_neT (a := 10) c25 (by decide); have := lv_neT (a := 11) c27 (by decide); have := lv_neT (a := 12) c28 (by decide); omega) (by decide) ?_
  refine lv_iload_n hx hb dX5_count_176 rfl (lv_at hl 1 rfl) ?_
  refine lv_bipush (v := 20) hx hb dX5_count_177 (by decide) ?_
  refine lv_bipush (v := 26) hx hb dX5_count_179 (by decide) ?_
  obtain ⟨v29, hv29, hf⟩ := bnd hf
  refine xcallRS (As := [.int x1, .int 20, .int 26]) (rest := []) (wc := []) ⟨hx, hb, hml, hown, hts⟩ (c_X5_in k x1 20 26 v29 hv29) (va_cwS 3 hts gX5_count_X5_in rfl rfl rfl (by decide +kernel) ⟨Nat.le_of_ble_eq_true rfl, Nat.le_of_ble_eq_true rfl⟩) hX (va_P0 _ _ _) rfl hl.1 rfl (Nat.le_of_ble_eq_true rfl) dX5_count_181 ⟨Nat.zero_le _, Nat.zero_le _⟩ (fun zv29 => ?_)
  refine lv_if_eq (tgt := 198) hx hb dX5_count_184 (by decide) (fun c30 => ?_) (fun c30 => ?_)
  · replace hf := ifT hf c30
    refine lv_iload_n hx hb dX5_count_198 rfl (lv_at hl 1 rfl) ?_
    refine lv_bipush (v := 30) hx hb dX5_count_199 (by decide) ?_
    refine lv_bipush (v := 36) hx hb dX5_count_201 (by decide) ?_
    obtain ⟨v31, hv31, hf⟩ := bnd hf
    refine xcallRS (As := [.int x1, .int 30, .int 36]) (rest := []) (wc := []) ⟨hx, hb, hml, hown, hts⟩ (c_X5_in k x1 30 36 v31 hv31) (va_cwS 3 hts gX5_count_X5_in rfl rfl rfl (by decide +kernel) ⟨Nat.le_of_ble_eq_true rfl, Nat.le_of_ble_eq_true rfl⟩) hX (va_P0 _ _ _) rfl hl.1 rfl (Nat.le_of_ble_eq_true rfl) dX5_count_203 ⟨Nat.zero_le _, Nat.zero_le _⟩ (fun zv31 => ?_)
    refine lv_if_eq (tgt := 220) hx hb dX5_count_206 (by decide) (fun c32 => ?_) (fun c32 => ?_)
    · replace hf := ifT hf c32
      refine lv_iconst (v := (-1)) hx hb dX5_count_220 (by decide) ?_
      obtain rfl := Option.some.inj hf
      exact hret trivial _ _ dX5_count_221 (fun ty h => by cases h; rfl)
    · replace hf := ifF hf c32
      refine lv_aload_n hx hb dX5_count_209 rfl (lv_at hl 0 rfl) ?_
      refine lv_iload_n hx hb dX5_count_210 rfl (lv_at hl 1 rfl) ?_
      refine lv_bipush (v := 30) hx hb dX5_count_211 (by decide) ?_
      refine lv_isub hx hb dX5_count_213 ?_
      obtain ⟨v33, hv33, hf⟩ := bnd hf
      refine xcallRV (As := [.int (x1 - 30)]) (rest := []) (wc := (wM ks g M)) ⟨hx, hb, hml, hown, hts⟩ (c_X5_of k g M (x1 - 30) v33 hv33) (cwV 1 hts gX5_count_X5_of rfl rfl rfl (by decide +kernel) ⟨Nat.le_of_ble_eq_true rfl, Nat.le_of_ble_eq_true rfl⟩) hX hP (ci := 4) (q0 := 0) rfl rfl rfl hl.1 rfl (Nat.le_of_ble_eq_true rfl) dX5_count_214 ⟨Nat.zero_le _, Nat.zero_le _⟩ (fun zv33 => ?_)
      refine lv_goto (tgt := 221) hx hb dX5_count_217 (by decide) ?_
      obtain rfl := Option.some.inj hf
      exact hret trivial _ _ dX5_count_221 (fun ty h => by cases h; rfl)
  · replace hf := ifF hf c30
    refine lv_aload_n hx hb dX5_count_187 rfl (lv_at hl 0 rfl) ?_
    refine lv_iload_n hx hb dX5_count_188 rfl (lv_at hl 1 rfl) ?_
    refine lv_bipush (v := 20) hx hb dX5_count_189 (by decide) ?_
    refine lv_isub hx hb dX5_count_191 ?_
    obtain ⟨v34, hv34, hf⟩ := bnd hf
    refine xcallRV (As := [.int (x1 - 20)]) (rest := []) (wc := (wM ks g M)) ⟨hx, hb, hml, hown, hts⟩ (c_X5_account k g M (x1 - 20) v34 hv34) (cwV 1 hts gX5_count_X5_account rfl rfl rfl (by decide +kernel) ⟨Nat.le_of_ble_eq_true rfl, Nat.le_of_ble_eq_true rfl⟩) hX hP (ci := 4) (q0 := 0) rfl rfl rfl hl.1 rfl (Nat.le_of_ble_eq_true rfl) dX5_count_192 ⟨Nat.zero_le _, Nat.zero_le _⟩ (fun zv34 => ?_)
    refine lv_goto (tgt := 221) hx hb dX5_count_195 (by decide) ?_
    obtain rfl := Option.some.inj hf
    exact hret trivial _ _ dX5_count_221 (fun ty h => by cases h; rfl)

/-! ===== X5_ladder ===== -/
def p_X5_ladder_L8 (k : Nat) (M : MD) (y1 : Int32) : Nat → (Int32) → Option (Int32)
  | 0, _ => none
  | n + 1, x2 =>
    (ald (MD.st M) 44 0).bind fun v1 => if v1 ≤ x2 then (some (-4)) else ((p_X5_runsTo k M x2).bind fun v3 => if (v3 - 1) = y1 then ((p_X5_colourAt k M x2).bind fun v5 => some v5) else (p_X5_ladder_L8 k M y1 n (x2 + 1)))

def p_X5_ladder (k : Nat) (M : MD) (x1 : Int32) : Option (Int32) :=
  if 0 ≤ x1 then (p_X5_ladder_L8 k M x1 k 0) else (some (-1))

set_option maxHeartbeats 4000000 in
set_option maxRecDepth 100000 in
theorem c_X5_ladder {l : Launch} {D : va_G} {ks : K3} (k : Nat) (g : AM) (M : MD) (x1 : Int32) (r : Int32) (hf : p_X5_ladder k M x1 = some r) : MetR l yX5_ladder wsX5_ladder { frames := 5, cells := 0, slots := 0, locals := 110 } D ks [.ref g.1, .int x1] (wM ks g M) r True := by
  refine MetR.of (cc := cX5_ladder) (maxL := 3) (ret := (some .int)) (by decide +kernel) rfl (Nat.le_of_ble_eq_true rfl) ?_ ⟨_, rfl⟩
  intro p e s m below meth c Q hx hb hml hts hown hP hX hret ls hl
  have hK := hX.1
  replace hl : lv_has ls 3 [(0, .ref g.1), (1, .int x1)] := hl
  have hiX5 : ∀ w ∈ wsX50, w ∈ wsX5_ladder := by decide +kernel
  have hk7 := hts (.fieldLink RX5 7 "SoapFilmModel" "st" "[I") (by decide +kernel)
  unfold p_X5_ladder at hf
  refine lv_iload_n hx hb dX5_ladder_0 rfl (lv_at hl 1 rfl) ?_
  refine lv_if_ge (tgt := 6) hx hb dX5_ladder_1 (by decide) (fun c1 => ?_) (fun c1 => ?_)
  · replace hf := ifT hf c1
    refine lv_iconst (v := 0) hx hb dX5_ladder_6 (by decide) ?_
    refine lv_istore_n (lv' := [(2, .int 0), (0, .ref g.1), (1, .int x1)]) hx hb dX5_ladder_7 rfl hl (by decide) rfl (fun ls hl => ?_)
    have L8 : ∀ (n : Nat) (x2q8 : Int32) (ls : Array Slot), p_X5_ladder_L8 k M x1 n x2q8 = some r → lv_has ls 3 [(0, .ref g.1), (1, .int x1), (2, .int x2q8)] → W p l e { frames := 5, cells := 0, slots := 0, locals := 110 } s m ([.ref g.1, .int x1] : List Value).toArray below meth c s.heap [] 0 0 Q (F0 m 8 ls []) := by
      intro n
      induction n with
      | zero => intro x2q8 ls hf; cases hf
      | succ n ih8 =>
        intro x2q8 ls hf hl
        rw [p_X5_ladder_L8] at hf
        refine lv_iload_n hx hb dX5_ladder_8 rfl (lv_at hl 2 rfl) ?_
        refine lv_aload_n hx hb dX5_ladder_9 rfl (lv_at hl 0 rfl) ?_
        refine va_get (v := .ref g.2.1) (C := RX5) (T := TX5) (N := 10) hx hb hts hiX5 hown hK hP 0 rfl rfl 0 (by decide) hk7 (fun _ h9 => h9) rfl dX5_ladder_10 ?_
        refine lv_iconst (v := 0) hx hb dX5_ladder_13 (by decide) ?_
        obtain ⟨v2, hv2, hf⟩ := bnd hf
        refine xa_iald hx hb hK hP hv2 1 0 rfl rfl dX5_ladder_14 ?_
        refine lv_icmp_ge (tgt := 41) hx hb dX5_ladder_15 (by decide) (fun c3 => ?_) (fun c3 => ?_)
        · replace hf := ifT hf c3
          refine lv_bipush (v := (-4)) hx hb dX5_ladder_41 (by decide) ?_
          obtain rfl := Option.some.inj hf
          exact hret trivial _ _ dX5_ladder_43 (fun ty h => by cases h; rfl)
        · replace hf := ifF hf c3
          refine lv_aload_n hx hb dX5_ladder_18 rfl (lv_at hl 0 rfl) ?_
          refine lv_iload_n hx hb dX5_ladder_19 rfl (lv_at hl 2 rfl) ?_
          obtain ⟨v4, hv4, hf⟩ := bnd hf
          refine xcallRV (As := [.int x2q8]) (rest := []) (wc := (wM ks g M)) ⟨hx, hb, hml, hown, hts⟩ (c_X5_runsTo k g M x2q8 v4 hv4) (cwV 1 hts gX5_ladder_X5_runsTo rfl rfl rfl (by decide +kernel) ⟨Nat.le_of_ble_eq_true rfl, Nat.le_of_ble_eq_true rfl⟩) hX hP (ci := 4) (q0 := 0) rfl rfl rfl hl.1 rfl (Nat.le_of_ble_eq_true rfl) dX5_ladder_20 ⟨Nat.zero_le _, Nat.zero_le _⟩ (fun zv4 => ?_)
          refine lv_iconst (v := 1) hx hb dX5_ladder_23 (by decide) ?_
          refine lv_isub hx hb dX5_ladder_24 ?_
          refine lv_iload_n hx hb dX5_ladder_25 rfl (lv_at hl 1 rfl) ?_
          refine lv_icmp_ne (tgt := 35) hx hb dX5_ladder_26 (by decide) (fun c5 => ?_) (fun c5 => ?_)
          · replace hf := ifF hf c5
            refine lv_iinc (v := (x2q8 + 1)) (lv' := [(2, .int (x2q8 + 1)), (0, .ref g.1), (1, .int x1)]) hx hb dX5_ladder_35 hl (k := 2) rfl rfl (by decide) rfl (fun ls hl => ?_)
            refine lv_goto (tgt := 8) hx hb dX5_ladder_38 (by decide) ?_
            exact ih8 _  _ hf (lv_sub hl [1, 2, 0] rfl)
          · replace hf := ifT hf c5
            refine lv_aload_n hx hb dX5_ladder_29 rfl (lv_at hl 0 rfl) ?_
            refine lv_iload_n hx hb dX5_ladder_30 rfl (lv_at hl 2 rfl) ?_
            obtain ⟨v6, hv6, hf⟩ := bnd hf
            refine xcallRV (As := [.int x2q8]) (rest := []) (wc := (wM ks g M)) ⟨hx, hb, hml, hown, hts⟩ (c_X5_colourAt k g M x2q8 v6 hv6) (cwV 1 hts gX5_ladder_X5_colourAt rfl rfl rfl (by decide +kernel) ⟨Nat.le_of_ble_eq_true rfl, Nat.le_of_ble_eq_true rfl⟩) hX hP (ci := 4) (q0 := 0) rfl rfl rfl hl.1 rfl (Nat.le_of_ble_eq_true rfl) dX5_ladder_31 ⟨Nat.zero_le _, Nat.zero_le _⟩ (fun zv6 => ?_)
            obtain rfl := Option.some.inj hf
            exact hret trivial _ _ dX5_ladder_34 (fun ty h => by cases h; rfl)
    exact L8 k _ _ hf (lv_sub hl [1, 2, 0] rfl)
  · replace hf := ifF hf c1
    refine lv_iconst (v := (-1)) hx hb dX5_ladder_4 (by decide) ?_
    obtain rfl := Option.some.inj hf
    exact hret trivial _ _ dX5_ladder_5 (fun ty h => by cases h; rfl)

/-! ===== X5_isColour ===== -/
def p_X5_isColour (k : Nat) (x0 : Int32) : Option (Int32) :=
  (p_X5_in k x0 0 7).bind fun v1 => some v1

set_option maxHeartbeats 4000000 in
set_option maxRecDepth 100000 in
theorem c_X5_isColour {l : Launch} {D : va_G} {ks : K3} (k : Nat) (x0 : Int32) (r : Int32) (hf : p_X5_isColour k x0 = some r) : MetR l yX5_isColour wsX5_isColour { frames := 1, cells := 0, slots := 0, locals := 22 } D ks [.int x0] [] r (narrow .boolean (.int r) = .int r) := by
  refine MetR.of (cc := cX5_isColour) (maxL := 1) (ret := (some .boolean)) (by decide +kernel) rfl (Nat.le_of_ble_eq_true rfl) ?_ ⟨_, rfl⟩
  intro p e s m below meth c Q hx hb hml hts hown hP hX hret ls hl
  have hK := hX.1
  replace hl : lv_has ls 1 [(0, .int x0)] := hl
  unfold p_X5_isColour at hf
  refine lv_iload_n hx hb dX5_isColour_0 rfl (lv_at hl 0 rfl) ?_
  refine lv_iconst (v := 0) hx hb dX5_isColour_1 (by decide) ?_
  refine lv_bipush (v := 7) hx hb dX5_isColour_2 (by decide) ?_
  obtain ⟨v1, hv1, hf⟩ := bnd hf
  refine xcallRS (As := [.int x0, .int 0, .int 7]) (rest := []) (wc := []) ⟨hx, hb, hml, hown, hts⟩ (c_X5_in k x0 0 7 v1 hv1) (va_cwS 3 hts gX5_isColour_X5_in rfl rfl rfl (by decide +kernel) ⟨Nat.le_of_ble_eq_true rfl, Nat.le_of_ble_eq_true rfl⟩) hX (va_P0 _ _ _) rfl hl.1 rfl (Nat.le_of_ble_eq_true rfl) dX5_isColour_4 ⟨Nat.zero_le _, Nat.zero_le _⟩ (fun zv1 => ?_)
  obtain rfl := Option.some.inj hf
  exact hret zv1 _ _ dX5_isColour_7 (fun ty h => by cases h; exact zv1)

/-! ===== X5_find ===== -/
def p_X5_find_L15 (k : Nat) (M : MD) (y1 : Int32) : Nat → (Int32) → Option (Int32)
  | 0, _ => none
  | n + 1, x3 =>
    (ald (MD.st M) 44 0).bind fun v1 => if v1 ≤ x3 then (some (-4)) else ((p_X5_colourAt k M x3).bind fun v3 => if v3 = y1 then (some x3) else (p_X5_find_L15 k M y1 n (x3 + 1)))

def p_X5_find (k : Nat) (M : MD) (x1 : Int32) (x2 : Int32) : Option (Int32) :=
  (p_X5_isColour k x1).bind fun v1 => if v1 = 0 then (some (-1)) else (if 0 ≤ x2 then (p_X5_find_L15 k M x1 k x2) else (some (-1)))

set_option maxHeartbeats 4000000 in
set_option maxRecDepth 100000 in
theorem c_X5_find {l : Launch} {D : va_G} {ks : K3} (k : Nat) (g : AM) (M : MD) (x1 : Int32) (x2 : Int32) (r : Int32) (hf : p_X5_find k M x1 x2 = some r) : MetR l yX5_find wsX5_find { frames := 4, cells := 0, slots := 0, locals := 87 } D ks [.ref g.1, .int x1, .int x2] (wM ks g M) r True := by
  refine MetR.of (cc := cX5_find) (maxL := 4) (ret := (some .int)) (by decide +kernel) rfl (Nat.le_of_ble_eq_true rfl) ?_ ⟨_, rfl⟩
  intro p e s m below meth c Q hx hb hml hts hown hP hX hret ls hl
  have hK := hX.1
  replace hl : lv_has ls 4 [(0, .ref g.1), (1, .int x1), (2, .int x2)] := hl
  have hiX5 : ∀ w ∈ wsX50, w ∈ wsX5_find := by decide +kernel
  have hk7 := hts (.fieldLink RX5 7 "SoapFilmModel" "st" "[I") (by decide +kernel)
  unfold p_X5_find at hf
  refine lv_iload_n hx hb dX5_find_0 rfl (lv_at hl 1 rfl) ?_
  obtain ⟨v1, hv1, hf⟩ := bnd hf
  refine xcallRS (As := [.int x1]) (rest := []) (wc := []) ⟨hx, hb, hml, hown, hts⟩ (c_X5_isColour k x1 v1 hv1) (va_cwS 1 hts gX5_find_X5_isColour rfl rfl rfl (by decide +kernel) ⟨Nat.le_of_ble_eq_true rfl, Nat.le_of_ble_eq_true rfl⟩) hX (va_P0 _ _ _) rfl hl.1 rfl (Nat.le_of_ble_eq_true rfl) dX5_find_1 ⟨Nat.zero_le _, Nat.zero_le _⟩ (fun zv1 => ?_)
  refine lv_if_eq (tgt := 11) hx hb dX5_find_4 (by decide) (fun c2 => ?_) (fun c2 => ?_)
  · replace hf := ifT hf c2
    refine lv_iconst (v := (-1)) hx hb dX5_find_11 (by decide) ?_
    obtain rfl := Option.some.inj hf
    exact hret trivial _ _ dX5_find_12 (fun ty h => by cases h; rfl)
  · replace hf := ifF hf c2
    refine lv_iload_n hx hb dX5_find_7 rfl (lv_at hl 2 rfl) ?_
    refine lv_if_ge (tgt := 13) hx hb dX5_find_8 (by decide) (fun c3 => ?_) (fun c3 => ?_)
    · replace hf := ifT hf c3
      refine lv_iload_n hx hb dX5_find_13 rfl (lv_at hl 2 rfl) ?_
      refine lv_istore_n (lv' := [(3, .int x2), (0, .ref g.1), (1, .int x1), (2, .int x2)]) hx hb dX5_find_14 rfl hl (by decide) rfl (fun ls hl => ?_)
      have L15 : ∀ (n : Nat) (x3q15 : Int32) (ls : Array Slot), p_X5_find_L15 k M x1 n x3q15 = some r → lv_has ls 4 [(0, .ref g.1), (1, .int x1), (3, .int x3q15)] → W p l e { frames := 4, cells := 0, slots := 0, locals := 87 } s m ([.ref g.1, .int x1, .int x2] : List Value).toArray below meth c s.heap [] 0 0 Q (F0 m 15 ls []) := by
        intro n
        induction n with
        | zero => intro x3q15 ls hf; cases hf
        | succ n ih15 =>
          intro x3q15 ls hf hl
          rw [p_X5_find_L15] at hf
          refine lv_iload_n hx hb dX5_find_15 rfl (lv_at hl 2 rfl) ?_
          refine lv_aload_n hx hb dX5_find_16 rfl (lv_at hl 0 rfl) ?_
          refine va_get (v := .ref g.2.1) (C := RX5) (T := TX5) (N := 10) hx hb hts hiX5 hown hK hP 0 rfl rfl 0 (by decide) hk7 (fun _ h9 => h9) rfl dX5_find_17 ?_
          refine lv_iconst (v := 0) hx hb dX5_find_20 (by decide) ?_
          obtain ⟨v4, hv4, hf⟩ := bnd hf
          refine xa_iald hx hb hK hP hv4 1 0 rfl rfl dX5_find_21 ?_
          refine lv_icmp_ge (tgt := 42) hx hb dX5_find_22 (by decide) (fun c5 => ?_) (fun c5 => ?_)
          · replace hf := ifT hf c5
            refine lv_bipush (v := (-4)) hx hb dX5_find_42 (by decide) ?_
            obtain rfl := Option.some.inj hf
            exact hret trivial _ _ dX5_find_44 (fun ty h => by cases h; rfl)
          · replace hf := ifF hf c5
            refine lv_aload_n hx hb dX5_find_25 rfl (lv_at hl 0 rfl) ?_
            refine lv_iload_n hx hb dX5_find_26 rfl (lv_at hl 2 rfl) ?_
            obtain ⟨v6, hv6, hf⟩ := bnd hf
            refine xcallRV (As := [.int x3q15]) (rest := []) (wc := (wM ks g M)) ⟨hx, hb, hml, hown, hts⟩ (c_X5_colourAt k g M x3q15 v6 hv6) (cwV 1 hts gX5_find_X5_colourAt rfl rfl rfl (by decide +kernel) ⟨Nat.le_of_ble_eq_true rfl, Nat.le_of_ble_eq_true rfl⟩) hX hP (ci := 4) (q0 := 0) rfl rfl rfl hl.1 rfl (Nat.le_of_ble_eq_true rfl) dX5_find_27 ⟨Nat.zero_le _, Nat.zero_le _⟩ (fun zv6 => ?_)
            refine lv_iload_n hx hb dX5_find_30 rfl (lv_at hl 1 rfl) ?_
            refine lv_icmp_ne (tgt := 36) hx hb dX5_find_31 (by decide) (fun c7 => ?_) (fun c7 => ?_)
            · replace hf := ifF hf c7
              refine lv_iinc (v := (x3q15 + 1)) (lv' := [(3, .int (x3q15 + 1)), (0, .ref g.1), (1, .int x1)]) hx hb dX5_find_36 hl (k := 2) rfl rfl (by decide) rfl (fun ls hl => ?_)
              refine lv_goto (tgt := 15) hx hb dX5_find_39 (by decide) ?_
              exact ih15 _  _ hf (lv_sub hl [1, 2, 0] rfl)
            · replace hf := ifT hf c7
              refine lv_iload_n hx hb dX5_find_34 rfl (lv_at hl 2 rfl) ?_
              obtain rfl := Option.some.inj hf
              exact hret trivial _ _ dX5_find_35 (fun ty h => by cases h; rfl)
      exact L15 k _ _ hf (lv_sub hl [1, 2, 0] rfl)
    · replace hf := ifF hf c3
      refine lv_iconst (v := (-1)) hx hb dX5_find_11 (by decide) ?_
      obtain rfl := Option.some.inj hf
      exact hret trivial _ _ dX5_find_12 (fun ty h => by cases h; rfl)

/-! ===== X5_colourOf ===== -/
def p_X5_colourOf (k : Nat) (M : MD) (x1 : Int32) : Option (Int32) :=
  (p_X5_in k x1 0 5000).bind fun v1 => if v1 = 0 then (some (-1)) else ((p_X5_colour k M x1).bind fun v3 => some v3)

set_option maxHeartbeats 4000000 in
set_option maxRecDepth 100000 in
theorem c_X5_colourOf {l : Launch} {D : va_G} {ks : K3} (k : Nat) (g : AM) (M : MD) (x1 : Int32) (r : Int32) (hf : p_X5_colourOf k M x1 = some r) : MetR l yX5_colourOf wsX5_colourOf { frames := 3, cells := 0, slots := 0, locals := 66 } D ks [.ref g.1, .int x1] (wM ks g M) r True := by
  refine MetR.of (cc := cX5_colourOf) (maxL := 2) (ret := (some .int)) (by decide +kernel) rfl (Nat.le_of_ble_eq_true rfl) ?_ ⟨_, rfl⟩
  intro p e s m below meth c Q hx hb hml hts hown hP hX hret ls hl
  have hK := hX.1
  replace hl : lv_has ls 2 [(0, .ref g.1), (1, .int x1)] := hl
  unfold p_X5_colourOf at hf
  refine lv_iload_n hx hb dX5_colourOf_0 rfl (lv_at hl 1 rfl) ?_
  refine lv_iconst (v := 0) hx hb dX5_colourOf_1 (by decide) ?_
  refine lv_sipush (v := 5000) hx hb dX5_colourOf_2 (by decide) ?_
  obtain ⟨v1, hv1, hf⟩ := bnd hf
  refine xcallRS (As := [.int x1, .int 0, .int 5000]) (rest := []) (wc := []) ⟨hx, hb, hml, hown, hts⟩ (c_X5_in k x1 0 5000 v1 hv1) (va_cwS 3 hts gX5_colourOf_X5_in rfl rfl rfl (by decide +kernel) ⟨Nat.le_of_ble_eq_true rfl, Nat.le_of_ble_eq_true rfl⟩) hX (va_P0 _ _ _) rfl hl.1 rfl (Nat.le_of_ble_eq_true rfl) dX5_colourOf_5 ⟨Nat.zero_le _, Nat.zero_le _⟩ (fun zv1 => ?_)
  refine lv_if_eq (tgt := 19) hx hb dX5_colourOf_8 (by decide) (fun c2 => ?_) (fun c2 => ?_)
  · replace hf := ifT hf c2
    refine lv_iconst (v := (-1)) hx hb dX5_colourOf_19 (by decide) ?_
    obtain rfl := Option.some.inj hf
    exact hret trivial _ _ dX5_colourOf_20 (fun ty h => by cases h; rfl)
  · replace hf := ifF hf c2
    refine lv_aload_n hx hb dX5_colourOf_11 rfl (lv_at hl 0 rfl) ?_
    refine lv_iload_n hx hb dX5_colourOf_12 rfl (lv_at hl 1 rfl) ?_
    obtain ⟨v3, hv3, hf⟩ := bnd hf
    refine xcallRV (As := [.int x1]) (rest := []) (wc := (wM ks g M)) ⟨hx, hb, hml, hown, hts⟩ (c_X5_colour k g M x1 v3 hv3) (cwV 1 hts gX5_colourOf_X5_colour rfl rfl rfl (by decide +kernel) ⟨Nat.le_of_ble_eq_true rfl, Nat.le_of_ble_eq_true rfl⟩) hX hP (ci := 4) (q0 := 0) rfl rfl rfl hl.1 rfl (Nat.le_of_ble_eq_true rfl) dX5_colourOf_13 ⟨Nat.zero_le _, Nat.zero_le _⟩ (fun zv3 => ?_)
    refine lv_goto (tgt := 20) hx hb dX5_colourOf_16 (by decide) ?_
    obtain rfl := Option.some.inj hf
    exact hret trivial _ _ dX5_colourOf_20 (fun ty h => by cases h; rfl)

/-! ===== X5_thicknessFor ===== -/
def p_X5_thicknessFor_L22 (k : Nat) (M : MD) (y1 : Int32) : Nat → (Int32) → Option (Int32)
  | 0, _ => none
  | n + 1, x3 =>
    if 5000 < x3 then (some (-4)) else ((p_X5_colour k M x3).bind fun v2 => if v2 = y1 then (some x3) else (p_X5_thicknessFor_L22 k M y1 n (x3 + 1)))

def p_X5_thicknessFor (k : Nat) (M : MD) (x1 : Int32) (x2 : Int32) : Option (Int32) :=
  (p_X5_isColour k x1).bind fun v1 => if v1 = 0 then (some (-1)) else ((p_X5_in k x2 0 5000).bind fun v3 => if v3 = 0 then (some (-1)) else (p_X5_thicknessFor_L22 k M x1 k x2))

set_option maxHeartbeats 4000000 in
set_option maxRecDepth 100000 in
theorem c_X5_thicknessFor {l : Launch} {D : va_G} {ks : K3} (k : Nat) (g : AM) (M : MD) (x1 : Int32) (x2 : Int32) (r : Int32) (hf : p_X5_thicknessFor k M x1 x2 = some r) : MetR l yX5_thicknessFor wsX5_thicknessFor { frames := 3, cells := 0, slots := 0, locals := 66 } D ks [.ref g.1, .int x1, .int x2] (wM ks g M) r True := by
  refine MetR.of (cc := cX5_thicknessFor) (maxL := 4) (ret := (some .int)) (by decide +kernel) rfl (Nat.le_of_ble_eq_true rfl) ?_ ⟨_, rfl⟩
  intro p e s m below meth c Q hx hb hml hts hown hP hX hret ls hl
  have hK := hX.1
  replace hl : lv_has ls 4 [(0, .ref g.1), (1, .int x1), (2, .int x2)] := hl
  unfold p_X5_thicknessFor at hf
  refine lv_iload_n hx hb dX5_thicknessFor_0 rfl (lv_at hl 1 rfl) ?_
  obtain ⟨v1, hv1, hf⟩ := bnd hf
  refine xcallRS (As := [.int x1]) (rest := []) (wc := []) ⟨hx, hb, hml, hown, hts⟩ (c_X5_isColour k x1 v1 hv1) (va_cwS 1 hts gX5_thicknessFor_X5_isColour rfl rfl rfl (by decide +kernel) ⟨Nat.le_of_ble_eq_true rfl, Nat.le_of_ble_eq_true rfl⟩) hX (va_P0 _ _ _) rfl hl.1 rfl (Nat.le_of_ble_eq_true rfl) dX5_thicknessFor_1 ⟨Nat.zero_le _, Nat.zero_le _⟩ (fun zv1 => ?_)
  refine lv_if_eq (tgt := 18) hx hb dX5_thicknessFor_4 (by decide) (fun c2 => ?_) (fun c2 => ?_)
  · replace hf := ifT hf c2
    refine lv_iconst (v := (-1)) hx hb dX5_thicknessFor_18 (by decide) ?_
    obtain rfl := Option.some.inj hf
    exact hret trivial _ _ dX5_thicknessFor_19 (fun ty h => by cases h; rfl)
  · replace hf := ifF hf c2
    refine lv_iload_n hx hb dX5_thicknessFor_7 rfl (lv_at hl 2 rfl) ?_
    refine lv_iconst (v := 0) hx hb dX5_thicknessFor_8 (by decide) ?_
    refine lv_sipush (v := 5000) hx hb dX5_thicknessFor_9 (by decide) ?_
    obtain ⟨v3, hv3, hf⟩ := bnd hf
    refine xcallRS (As := [.int x2, .int 0, .int 5000]) (rest := []) (wc := []) ⟨hx, hb, hml, hown, hts⟩ (c_X5_in k x2 0 5000 v3 hv3) (va_cwS 3 hts gX5_thicknessFor_X5_in rfl rfl rfl (by decide +kernel) ⟨Nat.le_of_ble_eq_true rfl, Nat.le_of_ble_eq_true rfl⟩) hX (va_P0 _ _ _) rfl hl.1 rfl (Nat.le_of_ble_eq_true rfl) dX5_thicknessFor_12 ⟨Nat.zero_le _, Nat.zero_le _⟩ (fun zv3 => ?_)
    refine lv_if_ne (tgt := 20) hx hb dX5_thicknessFor_15 (by decide) (fun c4 => ?_) (fun c4 => ?_)
    · replace hf := ifF hf c4
      refine lv_iload_n hx hb dX5_thicknessFor_20 rfl (lv_at hl 2 rfl) ?_
      refine lv_istore_n (lv' := [(3, .int x2), (0, .ref g.1), (1, .int x1), (2, .int x2)]) hx hb dX5_thicknessFor_21 rfl hl (by decide) rfl (fun ls hl => ?_)
      have L22 : ∀ (n : Nat) (x3q22 : Int32) (ls : Array Slot), p_X5_thicknessFor_L22 k M x1 n x3q22 = some r → lv_has ls 4 [(0, .ref g.1), (1, .int x1), (3, .int x3q22)] → W p l e { frames := 3, cells := 0, slots := 0, locals := 66 } s m ([.ref g.1, .int x1, .int x2] : List Value).toArray below meth c s.heap [] 0 0 Q (F0 m 22 ls []) := by
        intro n
        induction n with
        | zero => intro x3q22 ls hf; cases hf
        | succ n ih22 =>
          intro x3q22 ls hf hl
          rw [p_X5_thicknessFor_L22] at hf
          refine lv_iload_n hx hb dX5_thicknessFor_22 rfl (lv_at hl 2 rfl) ?_
          refine lv_sipush (v := 5000) hx hb dX5_thicknessFor_23 (by decide) ?_
          refine lv_icmp_gt (tgt := 46) hx hb dX5_thicknessFor_26 (by decide) (fun c5 => ?_) (fun c5 => ?_)
          · replace hf := ifT hf c5
            refine lv_bipush (v := (-4)) hx hb dX5_thicknessFor_46 (by decide) ?_
            obtain rfl := Option.some.inj hf
            exact hret trivial _ _ dX5_thicknessFor_48 (fun ty h => by cases h; rfl)
          · replace hf := ifF hf c5
            refine lv_aload_n hx hb dX5_thicknessFor_29 rfl (lv_at hl 0 rfl) ?_
            refine lv_iload_n hx hb dX5_thicknessFor_30 rfl (lv_at hl 2 rfl) ?_
            obtain ⟨v6, hv6, hf⟩ := bnd hf
            refine xcallRV (As := [.int x3q22]) (rest := []) (wc := (wM ks g M)) ⟨hx, hb, hml, hown, hts⟩ (c_X5_colour k g M x3q22 v6 hv6) (cwV 1 hts gX5_thicknessFor_X5_colour rfl rfl rfl (by decide +kernel) ⟨Nat.le_of_ble_eq_true rfl, Nat.le_of_ble_eq_true rfl⟩) hX hP (ci := 4) (q0 := 0) rfl rfl rfl hl.1 rfl (Nat.le_of_ble_eq_true rfl) dX5_thicknessFor_31 ⟨Nat.zero_le _, Nat.zero_le _⟩ (fun zv6 => ?_)
            refine lv_iload_n hx hb dX5_thicknessFor_34 rfl (lv_at hl 1 rfl) ?_
            refine lv_icmp_ne (tgt := 40) hx hb dX5_thicknessFor_35 (by decide) (fun c7 => ?_) (fun c7 => ?_)
            · replace hf := ifF hf c7
              refine lv_iinc (v := (x3q22 + 1)) (lv' := [(3, .int (x3q22 + 1)), (0, .ref g.1), (1, .int x1)]) hx hb dX5_thicknessFor_40 hl (k := 2) rfl rfl (by decide) rfl (fun ls hl => ?_)
              refine lv_goto (tgt := 22) hx hb dX5_thicknessFor_43 (by decide) ?_
              exact ih22 _  _ hf (lv_sub hl [1, 2, 0] rfl)
            · replace hf := ifT hf c7
              refine lv_iload_n hx hb dX5_thicknessFor_38 rfl (lv_at hl 2 rfl) ?_
              obtain rfl := Option.some.inj hf
              exact hret trivial _ _ dX5_thicknessFor_39 (fun ty h => by cases h; rfl)
      exact L22 k _ _ hf (lv_sub hl [1, 2, 0] rfl)
    · replace hf := ifT hf c4
      refine lv_iconst (v := (-1)) hx hb dX5_thicknessFor_18 (by decide) ?_
      obtain rfl := Option.some.inj hf
      exact hret trivial _ _ dX5_thicknessFor_19 (fun ty h => by cases h; rfl)

/-! ===== X5_isQuestion ===== -/
def p_X5_isQuestion (k : Nat) (x0 : Int32) (x1 : Int32) : Option (Int32) :=
  if x0 = 0 then (if x1 = 0 then (some 1) else (some 0)) else (if x0 = 1 then ((p_X5_in k x1 1 24).bind fun v4 => some v4) else (if x0 = 2 then ((p_X5_isColour k x1).bind fun v6 => some v6) else (if x0 = 3 then ((p_X5_in k x1 1 100).bind fun v8 => if v8 = 0 then (some 0) else (some 1)) else (some 0))))

set_option maxHeartbeats 4000000 in
set_option maxRecDepth 100000 in
theorem c_X5_isQuestion {l : Launch} {D : va_G} {ks : K3} (k : Nat) (x0 : Int32) (x1 : Int32) (r : Int32) (hf : p_X5_isQuestion k x0 x1 = some r) : MetR l yX5_isQuestion wsX5_isQuestion { frames := 2, cells := 0, slots := 0, locals := 42 } D ks [.int x0, .int x1] [] r (narrow .boolean (.int r) = .int r) := by
  refine MetR.of (cc := cX5_isQuestion) (maxL := 2) (ret := (some .boolean)) (by decide +kernel) rfl (Nat.le_of_ble_eq_true rfl) ?_ ⟨_, rfl⟩
  intro p e s m below meth c Q hx hb hml hts hown hP hX hret ls hl
  have hK := hX.1
  replace hl : lv_has ls 2 [(0, .int x0), (1, .int x1)] := hl
  unfold p_X5_isQuestion at hf
  refine lv_iload_n hx hb dX5_isQuestion_0 rfl (lv_at hl 0 rfl) ?_
  by_cases c1 : x0 = 0
  · replace hf := ifT hf c1
    refine lv_tableIn (tgt := 28) (off := 27) hx hb dX5_isQuestion_1 (by rw [c1]; decide) (by rw [c1]; decide) (by rw [c1]; rfl) (by decide) ?_
    refine lv_iload_n hx hb dX5_isQuestion_28 rfl (lv_at hl 1 rfl) ?_
    refine lv_if_ne (tgt := 36) hx hb dX5_isQuestion_29 (by decide) (fun c2 => ?_) (fun c2 => ?_)
    · replace hf := ifF hf c2
      refine lv_iconst (v := 0) hx hb dX5_isQuestion_36 (by decide) ?_
      obtain rfl := Option.some.inj hf
      exact hret rfl _ _ dX5_isQuestion_37 (fun ty h => by cases h; rfl)
    · replace hf := ifT hf c2
      refine lv_iconst (v := 1) hx hb dX5_isQuestion_32 (by decide) ?_
      refine lv_goto (tgt := 37) hx hb dX5_isQuestion_33 (by decide) ?_
      obtain rfl := Option.some.inj hf
      exact hret rfl _ _ dX5_isQuestion_37 (fun ty h => by cases h; rfl)
  replace hf := ifF hf c1
  by_cases c3 : x0 = 1
  · replace hf := ifT hf c3
    refine lv_tableIn (tgt := 38) (off := 37) hx hb dX5_isQuestion_1 (by rw [c3]; decide) (by rw [c3]; decide) (by rw [c3]; rfl) (by decide) ?_
    refine lv_iload_n hx hb dX5_isQuestion_38 rfl (lv_at hl 1 rfl) ?_
    refine lv_iconst (v := 1) hx hb dX5_isQuestion_39 (by decide) ?_
    refine lv_bipush (v := 24) hx hb dX5_isQuestion_40 (by decide) ?_
    obtain ⟨v4, hv4, hf⟩ := bnd hf
    refine xcallRS (As := [.int x1, .int 1, .int 24]) (rest := []) (wc := []) ⟨hx, hb, hml, hown, hts⟩ (c_X5_in k x1 1 24 v4 hv4) (va_cwS 3 hts gX5_isQuestion_X5_in rfl rfl rfl (by decide +kernel) ⟨Nat.le_of_ble_eq_true rfl, Nat.le_of_ble_eq_true rfl⟩) hX (va_P0 _ _ _) rfl hl.1 rfl (Nat.le_of_ble_eq_true rfl) dX5_isQuestion_42 ⟨Nat.zero_le _, Nat.zero_le _⟩ (fun zv4 => ?_)
    obtain rfl := Option.some.inj hf
    exact hret zv4 _ _ dX5_isQuestion_45 (fun ty h => by cases h; exact zv4)
  replace hf := ifF hf c3
  by_cases c5 : x0 = 2
  · replace hf := ifT hf c5
    refine lv_tableIn (tgt := 46) (off := 45) hx hb dX5_isQuestion_1 (by rw [c5]; decide) (by rw [c5]; decide) (by rw [c5]; rfl) (by decide) ?_
    refine lv_iload_n hx hb dX5_isQuestion_46 rfl (lv_at hl 1 rfl) ?_
    obtain ⟨v6, hv6, hf⟩ := bnd hf
    refine xcallRS (As := [.int x1]) (rest := []) (wc := []) ⟨hx, hb, hml, hown, hts⟩ (c_X5_isColour k x1 v6 hv6) (va_cwS 1 hts gX5_isQuestion_X5_isColour rfl rfl rfl (by decide +kernel) ⟨Nat.le_of_ble_eq_true rfl, Nat.le_of_ble_eq_true rfl⟩) hX (va_P0 _ _ _) rfl hl.1 rfl (Nat.le_of_ble_eq_true rfl) dX5_isQuestion_47 ⟨Nat.zero_le _, Nat.zero_le _⟩ (fun zv6 => ?_)
    obtain rfl := Option.some.inj hf
    exact hret zv6 _ _ dX5_isQuestion_50 (fun ty h => by cases h; exact zv6)
  replace hf := ifF hf c5
  refine lv_tableOut (tgt := 51) hx hb dX5_isQuestion_1 (by have := lv_neT (a := 0) c1 (by decide); have := lv_neT (a := 1) c3 (by decide); have := lv_neT (a := 2) c5 (by decide); omega) (by decide) ?_
  refine lv_iload_n hx hb dX5_isQuestion_51 rfl (lv_at hl 0 rfl) ?_
  refine lv_iconst (v := 3) hx hb dX5_isQuestion_52 (by decide) ?_
  refine lv_icmp_ne (tgt := 70) hx hb dX5_isQuestion_53 (by decide) (fun c7 => ?_) (fun c7 => ?_)
  · replace hf := ifF hf c7
    refine lv_iconst (v := 0) hx hb dX5_isQuestion_70 (by decide) ?_
    obtain rfl := Option.some.inj hf
    exact hret rfl _ _ dX5_isQuestion_71 (fun ty h => by cases h; rfl)
  · replace hf := ifT hf c7
    refine lv_iload_n hx hb dX5_isQuestion_56 rfl (lv_at hl 1 rfl) ?_
    refine lv_iconst (v := 1) hx hb dX5_isQuestion_57 (by decide) ?_
    refine lv_bipush (v := 100) hx hb dX5_isQuestion_58 (by decide) ?_
    obtain ⟨v8, hv8, hf⟩ := bnd hf
    refine xcallRS (As := [.int x1, .int 1, .int 100]) (rest := []) (wc := []) ⟨hx, hb, hml, hown, hts⟩ (c_X5_in k x1 1 100 v8 hv8) (va_cwS 3 hts gX5_isQuestion_X5_in rfl rfl rfl (by decide +kernel) ⟨Nat.le_of_ble_eq_true rfl, Nat.le_of_ble_eq_true rfl⟩) hX (va_P0 _ _ _) rfl hl.1 rfl (Nat.le_of_ble_eq_true rfl) dX5_isQuestion_60 ⟨Nat.zero_le _, Nat.zero_le _⟩ (fun zv8 => ?_)
    refine lv_if_eq (tgt := 70) hx hb dX5_isQuestion_63 (by decide) (fun c9 => ?_) (fun c9 => ?_)
    · replace hf := ifT hf c9
      refine lv_iconst (v := 0) hx hb dX5_isQuestion_70 (by decide) ?_
      obtain rfl := Option.some.inj hf
      exact hret rfl _ _ dX5_isQuestion_71 (fun ty h => by cases h; rfl)
    · replace hf := ifF hf c9
      refine lv_iconst (v := 1) hx hb dX5_isQuestion_66 (by decide) ?_
      refine lv_goto (tgt := 71) hx hb dX5_isQuestion_67 (by decide) ?_
      obtain rfl := Option.some.inj hf
      exact hret rfl _ _ dX5_isQuestion_71 (fun ty h => by cases h; rfl)

/-! ===== X5_isSo ===== -/
def p_X5_isSo (k : Nat) (M : MD) (x1 : Int32) (x2 : Int32) : Option (Int32) :=
  if x1 = 0 then ((ald (MD.st M) 44 0).bind fun v2 => if v2 = 0 then (some 1) else (some 0)) else (if x1 = 1 then ((p_X5_blackOnes k M).bind fun v5 => (p_X5_bits k v5).bind fun v6 => if v6 < x2 then (some 0) else (some 1)) else (if x1 = 2 then ((ald (MD.st M) 44 0).bind fun v9 => if v9 ≤ 0 then (some 0) else ((p_X5_colourAt k M 0).bind fun v11 => if v11 = x2 then (some 1) else (some 0))) else ((ald (MD.st M) 44 9).bind fun v13 => (ald (MD.aside M) 44 9).bind fun v14 => if (v13 - v14) < x2 then (some 0) else (some 1))))

set_option maxHeartbeats 4000000 in
set_option maxRecDepth 100000 in
theorem c_X5_isSo {l : Launch} {D : va_G} {ks : K3} (k : Nat) (g : AM) (M : MD) (x1 : Int32) (x2 : Int32) (r : Int32) (hf : p_X5_isSo k M x1 x2 = some r) : MetR l yX5_isSo wsX5_isSo { frames := 4, cells := 0, slots := 0, locals := 87 } D ks [.ref g.1, .int x1, .int x2] (wM ks g M) r (narrow .boolean (.int r) = .int r) := by
  refine MetR.of (cc := cX5_isSo) (maxL := 3) (ret := (some .boolean)) (by decide +kernel) rfl (Nat.le_of_ble_eq_true rfl) ?_ ⟨_, rfl⟩
  intro p e s m below meth c Q hx hb hml hts hown hP hX hret ls hl
  have hK := hX.1
  replace hl : lv_has ls 3 [(0, .ref g.1), (1, .int x1), (2, .int x2)] := hl
  have hiX5 : ∀ w ∈ wsX50, w ∈ wsX5_isSo := by decide +kernel
  have hk7 := hts (.fieldLink RX5 7 "SoapFilmModel" "st" "[I") (by decide +kernel)
  have hk16 := hts (.fieldLink RX5 16 "SoapFilmModel" "aside" "[I") (by decide +kernel)
  unfold p_X5_isSo at hf
  refine lv_iload_n hx hb dX5_isSo_0 rfl (lv_at hl 1 rfl) ?_
  by_cases c1 : x1 = 0
  · replace hf := ifT hf c1
    refine lv_tableIn (tgt := 28) (off := 27) hx hb dX5_isSo_1 (by rw [c1]; decide) (by rw [c1]; decide) (by rw [c1]; rfl) (by decide) ?_
    refine lv_aload_n hx hb dX5_isSo_28 rfl (lv_at hl 0 rfl) ?_
    refine va_get (v := .ref g.2.1) (C := RX5) (T := TX5) (N := 10) hx hb hts hiX5 hown hK hP 0 rfl rfl 0 (by decide) hk7 (fun _ h9 => h9) rfl dX5_isSo_29 ?_
    refine lv_iconst (v := 0) hx hb dX5_isSo_32 (by decide) ?_
    obtain ⟨v2, hv2, hf⟩ := bnd hf
    refine xa_iald hx hb hK hP hv2 1 0 rfl rfl dX5_isSo_33 ?_
    refine lv_if_ne (tgt := 41) hx hb dX5_isSo_34 (by decide) (fun c3 => ?_) (fun c3 => ?_)
    · replace hf := ifF hf c3
      refine lv_iconst (v := 0) hx hb dX5_isSo_41 (by decide) ?_
      obtain rfl := Option.some.inj hf
      exact hret rfl _ _ dX5_isSo_42 (fun ty h => by cases h; rfl)
    · replace hf := ifT hf c3
      refine lv_iconst (v := 1) hx hb dX5_isSo_37 (by decide) ?_
      refine lv_goto (tgt := 42) hx hb dX5_isSo_38 (by decide) ?_
      obtain rfl := Option.some.inj hf
      exact hret rfl _ _ dX5_isSo_42 (fun ty h => by cases h; rfl)
  replace hf := ifF hf c1
  by_cases c4 : x1 = 1
  · replace hf := ifT hf c4
    refine lv_tableIn (tgt := 43) (off := 42) hx hb dX5_isSo_1 (by rw [c4]; decide) (by rw [c4]; decide) (by rw [c4]; rfl) (by decide) ?_
    refine lv_aload_n hx hb dX5_isSo_43 rfl (lv_at hl 0 rfl) ?_
    obtain ⟨v5, hv5, hf⟩ := bnd hf
    refine xcallRV (As := []) (rest := []) (wc := (wM ks g M)) ⟨hx, hb, hml, hown, hts⟩ (c_X5_blackOnes k g M v5 hv5) (cwV 0 hts gX5_isSo_X5_blackOnes rfl rfl rfl (by decide +kernel) ⟨Nat.le_of_ble_eq_true rfl, Nat.le_of_ble_eq_true rfl⟩) hX hP (ci := 4) (q0 := 0) rfl rfl rfl hl.1 rfl (Nat.le_of_ble_eq_true rfl) dX5_isSo_44 ⟨Nat.zero_le _, Nat.zero_le _⟩ (fun zv5 => ?_)
    obtain ⟨v6, hv6, hf⟩ := bnd hf
    refine xcallRS (As := [.int v5]) (rest := []) (wc := []) ⟨hx, hb, hml, hown, hts⟩ (c_X5_bits k v5 v6 hv6) (va_cwS 1 hts gX5_isSo_X5_bits rfl rfl rfl (by decide +kernel) ⟨Nat.le_of_ble_eq_true rfl, Nat.le_of_ble_eq_true rfl⟩) hX (va_P0 _ _ _) rfl hl.1 rfl (Nat.le_of_ble_eq_true rfl) dX5_isSo_47 ⟨Nat.zero_le _, Nat.zero_le _⟩ (fun zv6 => ?_)
    refine lv_iload_n hx hb dX5_isSo_50 rfl (lv_at hl 2 rfl) ?_
    refine lv_icmp_lt (tgt := 58) hx hb dX5_isSo_51 (by decide) (fun c7 => ?_) (fun c7 => ?_)
    · replace hf := ifT hf c7
      refine lv_iconst (v := 0) hx hb dX5_isSo_58 (by decide) ?_
      obtain rfl := Option.some.inj hf
      exact hret rfl _ _ dX5_isSo_59 (fun ty h => by cases h; rfl)
    · replace hf := ifF hf c7
      refine lv_iconst (v := 1) hx hb dX5_isSo_54 (by decide) ?_
      refine lv_goto (tgt := 59) hx hb dX5_isSo_55 (by decide) ?_
      obtain rfl := Option.some.inj hf
      exact hret rfl _ _ dX5_isSo_59 (fun ty h => by cases h; rfl)
  replace hf := ifF hf c4
  by_cases c8 : x1 = 2
  · replace hf := ifT hf c8
    refine lv_tableIn (tgt := 60) (off := 59) hx hb dX5_isSo_1 (by rw [c8]; decide) (by rw [c8]; decide) (by rw [c8]; rfl) (by decide) ?_
    refine lv_aload_n hx hb dX5_isSo_60 rfl (lv_at hl 0 rfl) ?_
    refine va_get (v := .ref g.2.1) (C := RX5) (T := TX5) (N := 10) hx hb hts hiX5 hown hK hP 0 rfl rfl 0 (by decide) hk7 (fun _ h9 => h9) rfl dX5_isSo_61 ?_
    refine lv_iconst (v := 0) hx hb dX5_isSo_64 (by decide) ?_
    obtain ⟨v9, hv9, hf⟩ := bnd hf
    refine xa_iald hx hb hK hP hv9 1 0 rfl rfl dX5_isSo_65 ?_
    refine lv_if_le (tgt := 82) hx hb dX5_isSo_66 (by decide) (fun c10 => ?_) (fun c10 => ?_)
    · replace hf := ifT hf c10
      refine lv_iconst (v := 0) hx hb dX5_isSo_82 (by decide) ?_
      obtain rfl := Option.some.inj hf
      exact hret rfl _ _ dX5_isSo_83 (fun ty h => by cases h; rfl)
    · replace hf := ifF hf c10
      refine lv_aload_n hx hb dX5_isSo_69 rfl (lv_at hl 0 rfl) ?_
      refine lv_iconst (v := 0) hx hb dX5_isSo_70 (by decide) ?_
      obtain ⟨v11, hv11, hf⟩ := bnd hf
      refine xcallRV (As := [.int 0]) (rest := []) (wc := (wM ks g M)) ⟨hx, hb, hml, hown, hts⟩ (c_X5_colourAt k g M 0 v11 hv11) (cwV 1 hts gX5_isSo_X5_colourAt rfl rfl rfl (by decide +kernel) ⟨Nat.le_of_ble_eq_true rfl, Nat.le_of_ble_eq_true rfl⟩) hX hP (ci := 4) (q0 := 0) rfl rfl rfl hl.1 rfl (Nat.le_of_ble_eq_true rfl) dX5_isSo_71 ⟨Nat.zero_le _, Nat.zero_le _⟩ (fun zv11 => ?_)
      refine lv_iload_n hx hb dX5_isSo_74 rfl (lv_at hl 2 rfl) ?_
      refine lv_icmp_ne (tgt := 82) hx hb dX5_isSo_75 (by decide) (fun c12 => ?_) (fun c12 => ?_)
      · replace hf := ifF hf c12
        refine lv_iconst (v := 0) hx hb dX5_isSo_82 (by decide) ?_
        obtain rfl := Option.some.inj hf
        exact hret rfl _ _ dX5_isSo_83 (fun ty h => by cases h; rfl)
      · replace hf := ifT hf c12
        refine lv_iconst (v := 1) hx hb dX5_isSo_78 (by decide) ?_
        refine lv_goto (tgt := 83) hx hb dX5_isSo_79 (by decide) ?_
        obtain rfl := Option.some.inj hf
        exact hret rfl _ _ dX5_isSo_83 (fun ty h => by cases h; rfl)
  replace hf := ifF hf c8
  refine lv_tableOut (tgt := 84) hx hb dX5_isSo_1 (by have := lv_neT (a := 0) c1 (by decide); have := lv_neT (a := 1) c4 (by decide); have := lv_neT (a := 2) c8 (by decide); omega) (by decide) ?_
  refine lv_aload_n hx hb dX5_isSo_84 rfl (lv_at hl 0 rfl) ?_
  refine va_get (v := .ref g.2.1) (C := RX5) (T := TX5) (N := 10) hx hb hts hiX5 hown hK hP 0 rfl rfl 0 (by decide) hk7 (fun _ h9 => h9) rfl dX5_isSo_85 ?_
  refine lv_bipush (v := 9) hx hb dX5_isSo_88 (by decide) ?_
  obtain ⟨v13, hv13, hf⟩ := bnd hf
  refine xa_iald hx hb hK hP hv13 1 0 rfl rfl dX5_isSo_90 ?_
  refine lv_aload_n hx hb dX5_isSo_91 rfl (lv_at hl 0 rfl) ?_
  refine va_get (v := .ref g.2.2.2.1) (C := RX5) (T := TX5) (N := 10) hx hb hts hiX5 hown hK hP 0 rfl rfl 2 (by decide) hk16 (fun _ h9 => h9) rfl dX5_isSo_92 ?_
  refine lv_bipush (v := 9) hx hb dX5_isSo_95 (by decide) ?_
  obtain ⟨v14, hv14, hf⟩ := bnd hf
  refine xa_iald hx hb hK hP hv14 3 0 rfl rfl dX5_isSo_97 ?_
  refine lv_isub hx hb dX5_isSo_98 ?_
  refine lv_iload_n hx hb dX5_isSo_99 rfl (lv_at hl 2 rfl) ?_
  refine lv_icmp_lt (tgt := 107) hx hb dX5_isSo_100 (by decide) (fun c15 => ?_) (fun c15 => ?_)
  · replace hf := ifT hf c15
    refine lv_iconst (v := 0) hx hb dX5_isSo_107 (by decide) ?_
    obtain rfl := Option.some.inj hf
    exact hret rfl _ _ dX5_isSo_108 (fun ty h => by cases h; rfl)
  · replace hf := ifF hf c15
    refine lv_iconst (v := 1) hx hb dX5_isSo_103 (by decide) ?_
    refine lv_goto (tgt := 108) hx hb dX5_isSo_104 (by decide) ?_
    obtain rfl := Option.some.inj hf
    exact hret rfl _ _ dX5_isSo_108 (fun ty h => by cases h; rfl)

/-! ===== X5_until ===== -/
def p_X5_until_L20 (k : Nat) (y1 : Int32) (y2 : Int32) : Nat → (MD) → (Int32) → (Int32) → Option (Int32 × MD)
  | 0, _, _, _ => none
  | n + 1, M, x3, x4 =>
    if 1000 < x4 then ((p_X5_bringsBack k M).bind fun M2 => some (x3, M2)) else (if 0 ≤ x3 then ((p_X5_bringsBack k M).bind fun M4 => some (x3, M4)) else ((p_X5_isSo k M y1 y2).bind fun v5 => if v5 = 0 then (bind2 (p_X5_tick k M) fun v7 M8 => p_X5_until_L20 k y1 y2 n M8 (-4) (x4 + 1)) else (bind2 (p_X5_tick k M) fun v9 M10 => p_X5_until_L20 k y1 y2 n M10 x4 (x4 + 1))))

def p_X5_until (k : Nat) (M : MD) (x1 : Int32) (x2 : Int32) : Option (Int32 × MD) :=
  (p_X5_isQuestion k x1 x2).bind fun v1 => if v1 = 0 then (some ((-1), M)) else ((p_X5_laysAside k M).bind fun M3 => p_X5_until_L20 k x1 x2 k M3 (-4) 0)

set_option maxHeartbeats 4000000 in
set_option maxRecDepth 100000 in
theorem c_X5_until {l : Launch} {D : va_G} {ks : K3} (k : Nat) (g : AM) (M : MD) (x1 : Int32) (x2 : Int32) (r : Int32) (rM : MD) (hf : p_X5_until k M x1 x2 = some (r, rM)) : MetI l yX5_until wsX5_until { frames := 6, cells := 0, slots := 0, locals := 129 } D ks [.ref g.1, .int x1, .int x2] (wM ks g M) (wM ks g rM) r True := by
  refine MetI.of (cc := cX5_until) (maxL := 6) (ret := (some .int)) (by decide +kernel) rfl (Nat.le_of_ble_eq_true rfl) ?_ ⟨_, rfl⟩
  intro p e s m below meth c Q A hx hb hml hts hown hP hX hD hA hret ls hl
  have hK := hX.1
  replace hl : lv_has ls 6 [(0, .ref g.1), (1, .int x1), (2, .int x2)] := hl
  have hS : va_S A s.heap s.heap [] := va_S.rf
  unfold p_X5_until at hf
  refine lv_iload_n hx hb dX5_until_0 rfl (lv_at hl 1 rfl) ?_
  refine lv_iload_n hx hb dX5_until_1 rfl (lv_at hl 2 rfl) ?_
  obtain ⟨v1, hv1, hf⟩ := bnd hf
  refine xcallRS (As := [.int x1, .int x2]) (rest := []) (wc := []) ⟨hx, hb, hml, hown, hts⟩ (c_X5_isQuestion k x1 x2 v1 hv1) (va_cwS 2 hts gX5_until_X5_isQuestion rfl rfl rfl (by decide +kernel) ⟨Nat.le_of_ble_eq_true rfl, Nat.le_of_ble_eq_true rfl⟩) hX (va_P0 _ _ _) rfl hl.1 rfl (Nat.le_of_ble_eq_true rfl) dX5_until_2 ⟨Nat.zero_le _, Nat.zero_le _⟩ (fun zv1 => ?_)
  refine lv_if_ne (tgt := 10) hx hb dX5_until_5 (by decide) (fun c2 => ?_) (fun c2 => ?_)
  · replace hf := ifF hf c2
    refine lv_aload_n hx hb dX5_until_10 rfl (lv_at hl 0 rfl) ?_
    obtain ⟨M3, hM3, hf⟩ := bnd hf
    refine xcallV (As := []) (rest := []) (wc := (wM ks g M)) (w1 := (wM ks g M3)) (wr := ([] : va_W)) (wn := (wM ks g M3)) ⟨hx, hb, hml, hown, hts⟩ (c_X5_laysAside k g M M3 hM3) (cwV 0 hts gX5_until_X5_laysAside rfl rfl rfl (by decide +kernel) ⟨Nat.le_of_ble_eq_true rfl, Nat.le_of_ble_eq_true rfl⟩) hX hP hD hS hA [0, 1, 2, 3, 4] [] [0, 1, 2, 3, 4] rfl rfl rfl ⟨by decide, by decide, by decide⟩ (by decide) (ci := 4) (q0 := 0) rfl rfl rfl hl.1 rfl (Nat.le_of_ble_eq_true rfl) dX5_until_11 ⟨Nat.zero_le _, Nat.zero_le _⟩ (fun H locs hP hD hS => ?_)
    refine lv_bipush (v := (-4)) hx hb dX5_until_14 (by decide) ?_
    refine lv_istore_n (lv' := [(3, .int (-4)), (0, .ref g.1), (1, .int x1), (2, .int x2)]) hx hb dX5_until_16 rfl hl (by decide) rfl (fun ls hl => ?_)
    refine lv_iconst (v := 0) hx hb dX5_until_17 (by decide) ?_
    refine lv_istore (lv' := [(4, .int 0), (3, .int (-4)), (0, .ref g.1), (1, .int x1), (2, .int x2)]) hx hb dX5_until_18 hl (by decide) rfl (fun ls hl => ?_)
    have L20 : ∀ (n : Nat) (Mq20 : MD) (x3q20 : Int32) (x4q20 : Int32) (H : Heap) (locs : List Loc) (ls : Array Slot), p_X5_until_L20 k x1 x2 n Mq20 x3q20 x4q20 = some (r, rM) → va_P D vwCl (wM ks g Mq20) H → va_D A (wM ks g Mq20) → va_S A s.heap H locs → lv_has ls 6 [(0, .ref g.1), (1, .int x1), (2, .int x2), (3, .int x3q20), (4, .int x4q20)] → W p l e { frames := 6, cells := 0, slots := 0, locals := 129 } s m ([.ref g.1, .int x1, .int x2] : List Value).toArray below meth c H locs 0 0 Q (F0 m 20 ls []) := by
      intro n
      induction n with
      | zero => intro Mq20 x3q20 x4q20 H locs ls hf; cases hf
      | succ n ih20 =>
        intro Mq20 x3q20 x4q20 H locs ls hf hP hD hS hl
        rw [p_X5_until_L20] at hf
        refine lv_iload hx hb dX5_until_20 (lv_at hl 4 rfl) ?_
        refine lv_sipush (v := 1000) hx hb dX5_until_22 (by decide) ?_
        refine lv_icmp_gt (tgt := 61) hx hb dX5_until_25 (by decide) (fun c4 => ?_) (fun c4 => ?_)
        · replace hf := ifT hf c4
          refine lv_aload_n hx hb dX5_until_61 rfl (lv_at hl 0 rfl) ?_
          obtain ⟨M5, hM5, hf⟩ := bnd hf
          refine xcallV (As := []) (rest := []) (wc := (wM ks g Mq20)) (w1 := (wM ks g M5)) (wr := ([] : va_W)) (wn := (wM ks g M5)) ⟨hx, hb, hml, hown, hts⟩ (c_X5_bringsBack k g Mq20 M5 hM5) (cwV 0 hts gX5_until_X5_bringsBack rfl rfl rfl (by decide +kernel) ⟨Nat.le_of_ble_eq_true rfl, Nat.le_of_ble_eq_true rfl⟩) hX hP hD hS hA [0, 1, 2, 3, 4] [] [0, 1, 2, 3, 4] rfl rfl rfl ⟨by decide, by decide, by decide⟩ (by decide) (ci := 4) (q0 := 0) rfl rfl rfl hl.1 rfl (Nat.le_of_ble_eq_true rfl) dX5_until_62 ⟨Nat.zero_le _, Nat.zero_le _⟩ (fun H locs hP hD hS => ?_)
          refine lv_iload_n hx hb dX5_until_65 rfl (lv_at hl 3 rfl) ?_
          obtain ⟨rfl, rfl⟩ := inj2 hf
          exact hret trivial _ _ _ _ dX5_until_66 (fun ty h => by cases h; rfl) hP hD hS
        · replace hf := ifF hf c4
          refine lv_iload_n hx hb dX5_until_28 rfl (lv_at hl 3 rfl) ?_
          refine lv_if_ge (tgt := 61) hx hb dX5_until_29 (by decide) (fun c6 => ?_) (fun c6 => ?_)
          · replace hf := ifT hf c6
            refine lv_aload_n hx hb dX5_until_61 rfl (lv_at hl 0 rfl) ?_
            obtain ⟨M7, hM7, hf⟩ := bnd hf
            refine xcallV (As := []) (rest := []) (wc := (wM ks g Mq20)) (w1 := (wM ks g M7)) (wr := ([] : va_W)) (wn := (wM ks g M7)) ⟨hx, hb, hml, hown, hts⟩ (c_X5_bringsBack k g Mq20 M7 hM7) (cwV 0 hts gX5_until_X5_bringsBack rfl rfl rfl (by decide +kernel) ⟨Nat.le_of_ble_eq_true rfl, Nat.le_of_ble_eq_true rfl⟩) hX hP hD hS hA [0, 1, 2, 3, 4] [] [0, 1, 2, 3, 4] rfl rfl rfl ⟨by decide, by decide, by decide⟩ (by decide) (ci := 4) (q0 := 0) rfl rfl rfl hl.1 rfl (Nat.le_of_ble_eq_true rfl) dX5_until_62 ⟨Nat.zero_le _, Nat.zero_le _⟩ (fun H locs hP hD hS => ?_)
            refine lv_iload_n hx hb dX5_until_65 rfl (lv_at hl 3 rfl) ?_
            obtain ⟨rfl, rfl⟩ := inj2 hf
            exact hret trivial _ _ _ _ dX5_until_66 (fun ty h => by cases h; rfl) hP hD hS
          · replace hf := ifF hf c6
            refine lv_aload_n hx hb dX5_until_32 rfl (lv_at hl 0 rfl) ?_
            refine lv_iload_n hx hb dX5_until_33 rfl (lv_at hl 1 rfl) ?_
            refine lv_iload_n hx hb dX5_until_34 rfl (lv_at hl 2 rfl) ?_
            obtain ⟨v8, hv8, hf⟩ := bnd hf
            refine xcallRV (As := [.int x1, .int x2]) (rest := []) (wc := (wM ks g Mq20)) ⟨hx, hb, hml, hown, hts⟩ (c_X5_isSo k g Mq20 x1 x2 v8 hv8) (cwV 2 hts gX5_until_X5_isSo rfl rfl rfl (by decide +kernel) ⟨Nat.le_of_ble_eq_true rfl, Nat.le_of_ble_eq_true rfl⟩) hX hP (ci := 4) (q0 := 0) rfl rfl rfl hl.1 rfl (Nat.le_of_ble_eq_true rfl) dX5_until_35 ⟨Nat.zero_le _, Nat.zero_le _⟩ (fun zv8 => ?_)
            refine lv_if_eq (tgt := 46) hx hb dX5_until_38 (by decide) (fun c9 => ?_) (fun c9 => ?_)
            · replace hf := ifT hf c9
              refine lv_bipush (v := (-4)) hx hb dX5_until_46 (by decide) ?_
              refine lv_istore_n (lv' := [(3, .int (-4)), (0, .ref g.1), (1, .int x1), (2, .int x2), (4, .int x4q20)]) hx hb dX5_until_48 rfl hl (by decide) rfl (fun ls hl => ?_)
              refine lv_aload_n hx hb dX5_until_49 rfl (lv_at hl 1 rfl) ?_
              obtain ⟨v10, M11, hv10, hf⟩ := bnd2 hf
              refine xcallI (As := []) (rest := []) (wc := (wM ks g Mq20)) (w1 := (wM ks g M11)) (wr := ([] : va_W)) (wn := (wM ks g M11)) ⟨hx, hb, hml, hown, hts⟩ (c_X5_tick k g Mq20 v10 M11 hv10) (cwV 0 hts gX5_until_X5_tick rfl rfl rfl (by decide +kernel) ⟨Nat.le_of_ble_eq_true rfl, Nat.le_of_ble_eq_true rfl⟩) hX hP hD hS hA [0, 1, 2, 3, 4] [] [0, 1, 2, 3, 4] rfl rfl rfl ⟨by decide, by decide, by decide⟩ (by decide) (ci := 4) (q0 := 0) rfl rfl rfl hl.1 rfl (Nat.le_of_ble_eq_true rfl) dX5_until_50 ⟨Nat.zero_le _, Nat.zero_le _⟩ (fun zv10 H locs hP hD hS => ?_)
              refine lv_istore (lv' := [(5, .int v10), (3, .int (-4)), (0, .ref g.1), (1, .int x1), (2, .int x2), (4, .int x4q20)]) hx hb dX5_until_53 hl (by decide) rfl (fun ls hl => ?_)
              refine lv_iinc (v := (x4q20 + 1)) (lv' := [(4, .int (x4q20 + 1)), (5, .int v10), (3, .int (-4)), (0, .ref g.1), (1, .int x1), (2, .int x2)]) hx hb dX5_until_55 hl (k := 5) rfl rfl (by decide) rfl (fun ls hl => ?_)
              refine lv_goto (tgt := 20) hx hb dX5_until_58 (by decide) ?_
              exact ih20 _ _ _  _ _ _ hf hP hD hS (lv_sub hl [3, 4, 5, 2, 0] rfl)
            · replace hf := ifF hf c9
              refine lv_iload hx hb dX5_until_41 (lv_at hl 4 rfl) ?_
              refine lv_goto (tgt := 48) hx hb dX5_until_43 (by decide) ?_
              refine lv_istore_n (lv' := [(3, .int x4q20), (0, .ref g.1), (1, .int x1), (2, .int x2), (4, .int x4q20)]) hx hb dX5_until_48 rfl hl (by decide) rfl (fun ls hl => ?_)
              refine lv_aload_n hx hb dX5_until_49 rfl (lv_at hl 1 rfl) ?_
              obtain ⟨v12, M13, hv12, hf⟩ := bnd2 hf
              refine xcallI (As := []) (rest := []) (wc := (wM ks g Mq20)) (w1 := (wM ks g M13)) (wr := ([] : va_W)) (wn := (wM ks g M13)) ⟨hx, hb, hml, hown, hts⟩ (c_X5_tick k g Mq20 v12 M13 hv12) (cwV 0 hts gX5_until_X5_tick rfl rfl rfl (by decide +kernel) ⟨Nat.le_of_ble_eq_true rfl, Nat.le_of_ble_eq_true rfl⟩) hX hP hD hS hA [0, 1, 2, 3, 4] [] [0, 1, 2, 3, 4] rfl rfl rfl ⟨by decide, by decide, by decide⟩ (by decide) (ci := 4) (q0 := 0) rfl rfl rfl hl.1 rfl (Nat.le_of_ble_eq_true rfl) dX5_until_50 ⟨Nat.zero_le _, Nat.zero_le _⟩ (fun zv12 H locs hP hD hS => ?_)
              refine lv_istore (lv' := [(5, .int v12), (3, .int x4q20), (0, .ref g.1), (1, .int x1), (2, .int x2), (4, .int x4q20)]) hx hb dX5_until_53 hl (by decide) rfl (fun ls hl => ?_)
              refine lv_iinc (v := (x4q20 + 1)) (lv' := [(4, .int (x4q20 + 1)), (5, .int v12), (3, .int x4q20), (0, .ref g.1), (1, .int x1), (2, .int x2)]) hx hb dX5_until_55 hl (k := 5) rfl rfl (by decide) rfl (fun ls hl => ?_)
              refine lv_goto (tgt := 20) hx hb dX5_until_58 (by decide) ?_
              exact ih20 _ _ _  _ _ _ hf hP hD hS (lv_sub hl [3, 4, 5, 2, 0] rfl)
    exact L20 k _ _ _ _ _ _ hf hP hD hS (lv_sub hl [2, 3, 4, 1, 0] rfl)
  · replace hf := ifT hf c2
    refine lv_iconst (v := (-1)) hx hb dX5_until_8 (by decide) ?_
    obtain ⟨rfl, rfl⟩ := inj2 hf
    exact hret trivial _ _ _ _ dX5_until_9 (fun ty h => by cases h; rfl) hP hD hS

/-! ===== X5_ifGo ===== -/
def p_X5_ifGo_L27 (k : Nat) (y1 : Int32) (y2 : Int32) : Nat → (MD) → (Int32) → Option (Int32 × MD)
  | 0, _, _ => none
  | n + 1, M, x3 =>
    if y2 ≤ x3 then ((ald (MD.st M) 44 0).bind fun v2 => if v2 = 0 then ((p_X5_bringsBack k M).bind fun M6 => some ((-4), M6)) else ((ald (MD.st M) 44 (20 + y1)).bind fun v4 => (p_X5_bringsBack k M).bind fun M5 => some (v4, M5))) else (bind2 (p_X5_tick k M) fun v7 M8 => p_X5_ifGo_L27 k y1 y2 n M8 (x3 + 1))

def p_X5_ifGo (k : Nat) (M : MD) (x1 : Int32) (x2 : Int32) : Option (Int32 × MD) :=
  (p_X5_isRow k M x1).bind fun v1 => if v1 = 0 then (some ((-1), M)) else ((p_X5_in k x2 1 1000).bind fun v3 => if v3 = 0 then (some ((-1), M)) else ((p_X5_laysAside k M).bind fun M5 => p_X5_ifGo_L27 k x1 x2 k M5 0))

set_option maxHeartbeats 4000000 in
set_option maxRecDepth 100000 in
theorem c_X5_ifGo {l : Launch} {D : va_G} {ks : K3} (k : Nat) (g : AM) (M : MD) (x1 : Int32) (x2 : Int32) (r : Int32) (rM : MD) (hf : p_X5_ifGo k M x1 x2 = some (r, rM)) : MetI l yX5_ifGo wsX5_ifGo { frames := 6, cells := 0, slots := 0, locals := 129 } D ks [.ref g.1, .int x1, .int x2] (wM ks g M) (wM ks g rM) r True := by
  refine MetI.of (cc := cX5_ifGo) (maxL := 5) (ret := (some .int)) (by decide +kernel) rfl (Nat.le_of_ble_eq_true rfl) ?_ ⟨_, rfl⟩
  intro p e s m below meth c Q A hx hb hml hts hown hP hX hD hA hret ls hl
  have hK := hX.1
  replace hl : lv_has ls 5 [(0, .ref g.1), (1, .int x1), (2, .int x2)] := hl
  have hS : va_S A s.heap s.heap [] := va_S.rf
  have hiX5 : ∀ w ∈ wsX50, w ∈ wsX5_ifGo := by decide +kernel
  have hk7 := hts (.fieldLink RX5 7 "SoapFilmModel" "st" "[I") (by decide +kernel)
  unfold p_X5_ifGo at hf
  refine lv_aload_n hx hb dX5_ifGo_0 rfl (lv_at hl 0 rfl) ?_
  refine lv_iload_n hx hb dX5_ifGo_1 rfl (lv_at hl 1 rfl) ?_
  obtain ⟨v1, hv1, hf⟩ := bnd hf
  refine xcallRV (As := [.int x1]) (rest := []) (wc := (wM ks g M)) ⟨hx, hb, hml, hown, hts⟩ (c_X5_isRow k g M x1 v1 hv1) (cwV 1 hts gX5_ifGo_X5_isRow rfl rfl rfl (by decide +kernel) ⟨Nat.le_of_ble_eq_true rfl, Nat.le_of_ble_eq_true rfl⟩) hX hP (ci := 4) (q0 := 0) rfl rfl rfl hl.1 rfl (Nat.le_of_ble_eq_true rfl) dX5_ifGo_2 ⟨Nat.zero_le _, Nat.zero_le _⟩ (fun zv1 => ?_)
  refine lv_if_eq (tgt := 19) hx hb dX5_ifGo_5 (by decide) (fun c2 => ?_) (fun c2 => ?_)
  · replace hf := ifT hf c2
    refine lv_iconst (v := (-1)) hx hb dX5_ifGo_19 (by decide) ?_
    obtain ⟨rfl, rfl⟩ := inj2 hf
    exact hret trivial _ _ _ _ dX5_ifGo_20 (fun ty h => by cases h; rfl) hP hD hS
  · replace hf := ifF hf c2
    refine lv_iload_n hx hb dX5_ifGo_8 rfl (lv_at hl 2 rfl) ?_
    refine lv_iconst (v := 1) hx hb dX5_ifGo_9 (by decide) ?_
    refine lv_sipush (v := 1000) hx hb dX5_ifGo_10 (by decide) ?_
    obtain ⟨v3, hv3, hf⟩ := bnd hf
    refine xcallRS (As := [.int x2, .int 1, .int 1000]) (rest := []) (wc := []) ⟨hx, hb, hml, hown, hts⟩ (c_X5_in k x2 1 1000 v3 hv3) (va_cwS 3 hts gX5_ifGo_X5_in rfl rfl rfl (by decide +kernel) ⟨Nat.le_of_ble_eq_true rfl, Nat.le_of_ble_eq_true rfl⟩) hX (va_P0 _ _ _) rfl hl.1 rfl (Nat.le_of_ble_eq_true rfl) dX5_ifGo_13 ⟨Nat.zero_le _, Nat.zero_le _⟩ (fun zv3 => ?_)
    refine lv_if_ne (tgt := 21) hx hb dX5_ifGo_16 (by decide) (fun c4 => ?_) (fun c4 => ?_)
    · replace hf := ifF hf c4
      refine lv_aload_n hx hb dX5_ifGo_21 rfl (lv_at hl 0 rfl) ?_
      obtain ⟨M5, hM5, hf⟩ := bnd hf
      refine xcallV (As := []) (rest := []) (wc := (wM ks g M)) (w1 := (wM ks g M5)) (wr := ([] : va_W)) (wn := (wM ks g M5)) ⟨hx, hb, hml, hown, hts⟩ (c_X5_laysAside k g M M5 hM5) (cwV 0 hts gX5_ifGo_X5_laysAside rfl rfl rfl (by decide +kernel) ⟨Nat.le_of_ble_eq_true rfl, Nat.le_of_ble_eq_true rfl⟩) hX hP hD hS hA [0, 1, 2, 3, 4] [] [0, 1, 2, 3, 4] rfl rfl rfl ⟨by decide, by decide, by decide⟩ (by decide) (ci := 4) (q0 := 0) rfl rfl rfl hl.1 rfl (Nat.le_of_ble_eq_true rfl) dX5_ifGo_22 ⟨Nat.zero_le _, Nat.zero_le _⟩ (fun H locs hP hD hS => ?_)
      refine lv_iconst (v := 0) hx hb dX5_ifGo_25 (by decide) ?_
      refine lv_istore_n (lv' := [(3, .int 0), (0, .ref g.1), (1, .int x1), (2, .int x2)]) hx hb dX5_ifGo_26 rfl hl (by decide) rfl (fun ls hl => ?_)
      have L27 : ∀ (n : Nat) (Mq27 : MD) (x3q27 : Int32) (H : Heap) (locs : List Loc) (ls : Array Slot), p_X5_ifGo_L27 k x1 x2 n Mq27 x3q27 = some (r, rM) → va_P D vwCl (wM ks g Mq27) H → va_D A (wM ks g Mq27) → va_S A s.heap H locs → lv_has ls 5 [(0, .ref g.1), (1, .int x1), (2, .int x2), (3, .int x3q27)] → W p l e { frames := 6, cells := 0, slots := 0, locals := 129 } s m ([.ref g.1, .int x1, .int x2] : List Value).toArray below meth c H locs 0 0 Q (F0 m 27 ls []) := by
        intro n
        induction n with
        | zero => intro Mq27 x3q27 H locs ls hf; cases hf
        | succ n ih27 =>
          intro Mq27 x3q27 H locs ls hf hP hD hS hl
          rw [p_X5_ifGo_L27] at hf
          refine lv_iload_n hx hb dX5_ifGo_27 rfl (lv_at hl 3 rfl) ?_
          refine lv_iload_n hx hb dX5_ifGo_28 rfl (lv_at hl 2 rfl) ?_
          refine lv_icmp_ge (tgt := 44) hx hb dX5_ifGo_29 (by decide) (fun c6 => ?_) (fun c6 => ?_)
          · replace hf := ifT hf c6
            refine lv_aload_n hx hb dX5_ifGo_44 rfl (lv_at hl 0 rfl) ?_
            refine va_get (v := .ref g.2.1) (C := RX5) (T := TX5) (N := 10) hx hb hts hiX5 hown hK hP 0 rfl rfl 0 (by decide) hk7 (fun _ h9 => h9) rfl dX5_ifGo_45 ?_
            refine lv_iconst (v := 0) hx hb dX5_ifGo_48 (by decide) ?_
            obtain ⟨v7, hv7, hf⟩ := bnd hf
            refine xa_iald hx hb hK hP hv7 1 0 rfl rfl dX5_ifGo_49 ?_
            refine lv_if_ne (tgt := 58) hx hb dX5_ifGo_50 (by decide) (fun c8 => ?_) (fun c8 => ?_)
            · replace hf := ifF hf c8
              refine lv_aload_n hx hb dX5_ifGo_58 rfl (lv_at hl 0 rfl) ?_
              refine va_get (v := .ref g.2.1) (C := RX5) (T := TX5) (N := 10) hx hb hts hiX5 hown hK hP 0 rfl rfl 0 (by decide) hk7 (fun _ h9 => h9) rfl dX5_ifGo_59 ?_
              refine lv_bipush (v := 20) hx hb dX5_ifGo_62 (by decide) ?_
              refine lv_iload_n hx hb dX5_ifGo_64 rfl (lv_at hl 1 rfl) ?_
              refine lv_iadd hx hb dX5_ifGo_65 ?_
              obtain ⟨v9, hv9, hf⟩ := bnd hf
              refine xa_iald hx hb hK hP hv9 1 0 rfl rfl dX5_ifGo_66 ?_
              refine lv_istore_n (lv' := [(3, .int v9), (0, .ref g.1), (1, .int x1), (2, .int x2)]) hx hb dX5_ifGo_67 rfl hl (by decide) rfl (fun ls hl => ?_)
              refine lv_aload_n hx hb dX5_ifGo_68 rfl (lv_at hl 1 rfl) ?_
              obtain ⟨M10, hM10, hf⟩ := bnd hf
              refine xcallV (As := []) (rest := []) (wc := (wM ks g Mq27)) (w1 := (wM ks g M10)) (wr := ([] : va_W)) (wn := (wM ks g M10)) ⟨hx, hb, hml, hown, hts⟩ (c_X5_bringsBack k g Mq27 M10 hM10) (cwV 0 hts gX5_ifGo_X5_bringsBack rfl rfl rfl (by decide +kernel) ⟨Nat.le_of_ble_eq_true rfl, Nat.le_of_ble_eq_true rfl⟩) hX hP hD hS hA [0, 1, 2, 3, 4] [] [0, 1, 2, 3, 4] rfl rfl rfl ⟨by decide, by decide, by decide⟩ (by decide) (ci := 4) (q0 := 0) rfl rfl rfl hl.1 rfl (Nat.le_of_ble_eq_true rfl) dX5_ifGo_69 ⟨Nat.zero_le _, Nat.zero_le _⟩ (fun H locs hP hD hS => ?_)
              refine lv_iload_n hx hb dX5_ifGo_72 rfl (lv_at hl 0 rfl) ?_
              obtain ⟨rfl, rfl⟩ := inj2 hf
              exact hret trivial _ _ _ _ dX5_ifGo_73 (fun ty h => by cases h; rfl) hP hD hS
            · replace hf := ifT hf c8
              refine lv_bipush (v := (-4)) hx hb dX5_ifGo_53 (by decide) ?_
              refine lv_goto (tgt := 67) hx hb dX5_ifGo_55 (by decide) ?_
              refine lv_istore_n (lv' := [(3, .int (-4)), (0, .ref g.1), (1, .int x1), (2, .int x2)]) hx hb dX5_ifGo_67 rfl hl (by decide) rfl (fun ls hl => ?_)
              refine lv_aload_n hx hb dX5_ifGo_68 rfl (lv_at hl 1 rfl) ?_
              obtain ⟨M11, hM11, hf⟩ := bnd hf
              refine xcallV (As := []) (rest := []) (wc := (wM ks g Mq27)) (w1 := (wM ks g M11)) (wr := ([] : va_W)) (wn := (wM ks g M11)) ⟨hx, hb, hml, hown, hts⟩ (c_X5_bringsBack k g Mq27 M11 hM11) (cwV 0 hts gX5_ifGo_X5_bringsBack rfl rfl rfl (by decide +kernel) ⟨Nat.le_of_ble_eq_true rfl, Nat.le_of_ble_eq_true rfl⟩) hX hP hD hS hA [0, 1, 2, 3, 4] [] [0, 1, 2, 3, 4] rfl rfl rfl ⟨by decide, by decide, by decide⟩ (by decide) (ci := 4) (q0 := 0) rfl rfl rfl hl.1 rfl (Nat.le_of_ble_eq_true rfl) dX5_ifGo_69 ⟨Nat.zero_le _, Nat.zero_le _⟩ (fun H locs hP hD hS => ?_)
              refine lv_iload_n hx hb dX5_ifGo_72 rfl (lv_at hl 0 rfl) ?_
              obtain ⟨rfl, rfl⟩ := inj2 hf
              exact hret trivial _ _ _ _ dX5_ifGo_73 (fun ty h => by cases h; rfl) hP hD hS
          · replace hf := ifF hf c6
            refine lv_aload_n hx hb dX5_ifGo_32 rfl (lv_at hl 0 rfl) ?_
            obtain ⟨v12, M13, hv12, hf⟩ := bnd2 hf
            refine xcallI (As := []) (rest := []) (wc := (wM ks g Mq27)) (w1 := (wM ks g M13)) (wr := ([] : va_W)) (wn := (wM ks g M13)) ⟨hx, hb, hml, hown, hts⟩ (c_X5_tick k g Mq27 v12 M13 hv12) (cwV 0 hts gX5_ifGo_X5_tick rfl rfl rfl (by decide +kernel) ⟨Nat.le_of_ble_eq_true rfl, Nat.le_of_ble_eq_true rfl⟩) hX hP hD hS hA [0, 1, 2, 3, 4] [] [0, 1, 2, 3, 4] rfl rfl rfl ⟨by decide, by decide, by decide⟩ (by decide) (ci := 4) (q0 := 0) rfl rfl rfl hl.1 rfl (Nat.le_of_ble_eq_true rfl) dX5_ifGo_33 ⟨Nat.zero_le _, Nat.zero_le _⟩ (fun zv12 H locs hP hD hS => ?_)
            refine lv_istore (lv' := [(4, .int v12), (0, .ref g.1), (1, .int x1), (2, .int x2), (3, .int x3q27)]) hx hb dX5_ifGo_36 hl (by decide) rfl (fun ls hl => ?_)
            refine lv_iinc (v := (x3q27 + 1)) (lv' := [(3, .int (x3q27 + 1)), (4, .int v12), (0, .ref g.1), (1, .int x1), (2, .int x2)]) hx hb dX5_ifGo_38 hl (k := 4) rfl rfl (by decide) rfl (fun ls hl => ?_)
            refine lv_goto (tgt := 27) hx hb dX5_ifGo_41 (by decide) ?_
            exact ih27 _ _  _ _ _ hf hP hD hS (lv_sub hl [2, 3, 4, 0] rfl)
      exact L27 k _ _ _ _ _ hf hP hD hS (lv_sub hl [1, 2, 3, 0] rfl)
    · replace hf := ifT hf c4
      refine lv_iconst (v := (-1)) hx hb dX5_ifGo_19 (by decide) ?_
      obtain ⟨rfl, rfl⟩ := inj2 hf
      exact hret trivial _ _ _ _ dX5_ifGo_20 (fun ty h => by cases h; rfl) hP hD hS
