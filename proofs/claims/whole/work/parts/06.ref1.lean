/-! ===== X5_in ===== -/
def p_X5_in (k : Nat) (x0 : Int32) (x1 : Int32) (x2 : Int32) : Option (Int32) :=
  if x0 < x1 then (some 0) else (if x2 < x0 then (some 0) else (some 1))

set_option maxHeartbeats 4000000 in
set_option maxRecDepth 100000 in
theorem c_X5_in {l : Launch} {D : va_G} {ks : K3} (k : Nat) (x0 : Int32) (x1 : Int32) (x2 : Int32) (r : Int32) (hf : p_X5_in k x0 x1 x2 = some r) : MetR l yX5_in wsX5_in { frames := 0, cells := 0, slots := 0, locals := 0 } D ks [.int x0, .int x1, .int x2] [] r (narrow .boolean (.int r) = .int r) := by
  refine MetR.of (cc := cX5_in) (maxL := 3) (ret := (some .boolean)) (by decide +kernel) rfl (Nat.le_of_ble_eq_true rfl) ?_ ⟨_, rfl⟩
  intro p e s m below meth c Q hx hb hml hts hown hP hX hret ls hl
  have hK := hX.1
  replace hl : lv_has ls 3 [(0, .int x0), (1, .int x1), (2, .int x2)] := hl
  unfold p_X5_in at hf
  refine lv_iload_n hx hb dX5_in_0 rfl (lv_at hl 0 rfl) ?_
  refine lv_iload_n hx hb dX5_in_1 rfl (lv_at hl 1 rfl) ?_
  refine lv_icmp_lt (tgt := 14) hx hb dX5_in_2 (by decide) (fun c1 => ?_) (fun c1 => ?_)
  · replace hf := ifT hf c1
    refine lv_iconst (v := 0) hx hb dX5_in_14 (by decide) ?_
    obtain rfl := Option.some.inj hf
    exact hret rfl _ _ dX5_in_15 (fun ty h => by cases h; rfl)
  · replace hf := ifF hf c1
    refine lv_iload_n hx hb dX5_in_5 rfl (lv_at hl 0 rfl) ?_
    refine lv_iload_n hx hb dX5_in_6 rfl (lv_at hl 2 rfl) ?_
    refine lv_icmp_gt (tgt := 14) hx hb dX5_in_7 (by decide) (fun c2 => ?_) (fun c2 => ?_)
    · replace hf := ifT hf c2
      refine lv_iconst (v := 0) hx hb dX5_in_14 (by decide) ?_
      obtain rfl := Option.some.inj hf
      exact hret rfl _ _ dX5_in_15 (fun ty h => by cases h; rfl)
    · replace hf := ifF hf c2
      refine lv_iconst (v := 1) hx hb dX5_in_10 (by decide) ?_
      refine lv_goto (tgt := 15) hx hb dX5_in_11 (by decide) ?_
      obtain rfl := Option.some.inj hf
      exact hret rfl _ _ dX5_in_15 (fun ty h => by cases h; rfl)

/-! ===== X5_lesser ===== -/
def p_X5_lesser (k : Nat) (x0 : Int32) (x1 : Int32) : Option (Int32) :=
  if x1 ≤ x0 then (some x1) else (some x0)

set_option maxHeartbeats 4000000 in
set_option maxRecDepth 100000 in
theorem c_X5_lesser {l : Launch} {D : va_G} {ks : K3} (k : Nat) (x0 : Int32) (x1 : Int32) (r : Int32) (hf : p_X5_lesser k x0 x1 = some r) : MetR l yX5_lesser wsX5_lesser { frames := 0, cells := 0, slots := 0, locals := 0 } D ks [.int x0, .int x1] [] r True := by
  refine MetR.of (cc := cX5_lesser) (maxL := 2) (ret := (some .int)) (by decide +kernel) rfl (Nat.le_of_ble_eq_true rfl) ?_ ⟨_, rfl⟩
  intro p e s m below meth c Q hx hb hml hts hown hP hX hret ls hl
  have hK := hX.1
  replace hl : lv_has ls 2 [(0, .int x0), (1, .int x1)] := hl
  unfold p_X5_lesser at hf
  refine lv_iload_n hx hb dX5_lesser_0 rfl (lv_at hl 0 rfl) ?_
  refine lv_iload_n hx hb dX5_lesser_1 rfl (lv_at hl 1 rfl) ?_
  refine lv_icmp_ge (tgt := 9) hx hb dX5_lesser_2 (by decide) (fun c1 => ?_) (fun c1 => ?_)
  · replace hf := ifT hf c1
    refine lv_iload_n hx hb dX5_lesser_9 rfl (lv_at hl 1 rfl) ?_
    obtain rfl := Option.some.inj hf
    exact hret trivial _ _ dX5_lesser_10 (fun ty h => by cases h; rfl)
  · replace hf := ifF hf c1
    refine lv_iload_n hx hb dX5_lesser_5 rfl (lv_at hl 0 rfl) ?_
    refine lv_goto (tgt := 10) hx hb dX5_lesser_6 (by decide) ?_
    obtain rfl := Option.some.inj hf
    exact hret trivial _ _ dX5_lesser_10 (fun ty h => by cases h; rfl)

/-! ===== X5_of ===== -/
def p_X5_of (k : Nat) (M : MD) (x1 : Int32) : Option (Int32) :=
  (ald (MD.st M) 44 (13 + x1)).bind fun v1 => some v1

set_option maxHeartbeats 4000000 in
set_option maxRecDepth 100000 in
theorem c_X5_of {l : Launch} {D : va_G} {ks : K3} (k : Nat) (g : AM) (M : MD) (x1 : Int32) (r : Int32) (hf : p_X5_of k M x1 = some r) : MetR l yX5_of wsX5_of { frames := 0, cells := 0, slots := 0, locals := 0 } D ks [.ref g.1, .int x1] (wM ks g M) r True := by
  refine MetR.of (cc := cX5_of) (maxL := 2) (ret := (some .int)) (by decide +kernel) rfl (Nat.le_of_ble_eq_true rfl) ?_ ⟨_, rfl⟩
  intro p e s m below meth c Q hx hb hml hts hown hP hX hret ls hl
  have hK := hX.1
  replace hl : lv_has ls 2 [(0, .ref g.1), (1, .int x1)] := hl
  have hiX5 : ∀ w ∈ wsX50, w ∈ wsX5_of := by decide +kernel
  have hk7 := hts (.fieldLink RX5 7 "SoapFilmModel" "st" "[I") (by decide +kernel)
  unfold p_X5_of at hf
  refine lv_aload_n hx hb dX5_of_0 rfl (lv_at hl 0 rfl) ?_
  refine va_get (v := .ref g.2.1) (C := RX5) (T := TX5) (N := 10) hx hb hts hiX5 hown hK hP 0 rfl rfl 0 (by decide) hk7 (fun _ h9 => h9) rfl dX5_of_1 ?_
  refine lv_bipush (v := 13) hx hb dX5_of_4 (by decide) ?_
  refine lv_iload_n hx hb dX5_of_6 rfl (lv_at hl 1 rfl) ?_
  refine lv_iadd hx hb dX5_of_7 ?_
  obtain ⟨v1, hv1, hf⟩ := bnd hf
  refine xa_iald hx hb hK hP hv1 1 0 rfl rfl dX5_of_8 ?_
  obtain rfl := Option.some.inj hf
  exact hret trivial _ _ dX5_of_9 (fun ty h => by cases h; rfl)

/-! ===== X5_isRow ===== -/
def p_X5_isRow (k : Nat) (M : MD) (x1 : Int32) : Option (Int32) :=
  (ald (MD.st M) 44 0).bind fun v1 => (p_X5_in k x1 0 (v1 - 1)).bind fun v2 => some v2

set_option maxHeartbeats 4000000 in
set_option maxRecDepth 100000 in
theorem c_X5_isRow {l : Launch} {D : va_G} {ks : K3} (k : Nat) (g : AM) (M : MD) (x1 : Int32) (r : Int32) (hf : p_X5_isRow k M x1 = some r) : MetR l yX5_isRow wsX5_isRow { frames := 1, cells := 0, slots := 0, locals := 22 } D ks [.ref g.1, .int x1] (wM ks g M) r (narrow .boolean (.int r) = .int r) := by
  refine MetR.of (cc := cX5_isRow) (maxL := 2) (ret := (some .boolean)) (by decide +kernel) rfl (Nat.le_of_ble_eq_true rfl) ?_ ⟨_, rfl⟩
  intro p e s m below meth c Q hx hb hml hts hown hP hX hret ls hl
  have hK := hX.1
  replace hl : lv_has ls 2 [(0, .ref g.1), (1, .int x1)] := hl
  have hiX5 : ∀ w ∈ wsX50, w ∈ wsX5_isRow := by decide +kernel
  have hk7 := hts (.fieldLink RX5 7 "SoapFilmModel" "st" "[I") (by decide +kernel)
  unfold p_X5_isRow at hf
  refine lv_iload_n hx hb dX5_isRow_0 rfl (lv_at hl 1 rfl) ?_
  refine lv_iconst (v := 0) hx hb dX5_isRow_1 (by decide) ?_
  refine lv_aload_n hx hb dX5_isRow_2 rfl (lv_at hl 0 rfl) ?_
  refine va_get (v := .ref g.2.1) (C := RX5) (T := TX5) (N := 10) hx hb hts hiX5 hown hK hP 0 rfl rfl 0 (by decide) hk7 (fun _ h9 => h9) rfl dX5_isRow_3 ?_
  refine lv_iconst (v := 0) hx hb dX5_isRow_6 (by decide) ?_
  obtain ⟨v1, hv1, hf⟩ := bnd hf
  refine xa_iald hx hb hK hP hv1 1 0 rfl rfl dX5_isRow_7 ?_
  refine lv_iconst (v := 1) hx hb dX5_isRow_8 (by decide) ?_
  refine lv_isub hx hb dX5_isRow_9 ?_
  obtain ⟨v2, hv2, hf⟩ := bnd hf
  refine xcallRS (As := [.int x1, .int 0, .int (v1 - 1)]) (rest := []) (wc := []) ⟨hx, hb, hml, hown, hts⟩ (c_X5_in k x1 0 (v1 - 1) v2 hv2) (va_cwS 3 hts gX5_isRow_X5_in rfl rfl rfl (by decide +kernel) ⟨Nat.le_of_ble_eq_true rfl, Nat.le_of_ble_eq_true rfl⟩) hX (va_P0 _ _ _) rfl hl.1 rfl (Nat.le_of_ble_eq_true rfl) dX5_isRow_10 ⟨Nat.zero_le _, Nat.zero_le _⟩ (fun zv2 => ?_)
  obtain rfl := Option.some.inj hf
  exact hret zv2 _ _ dX5_isRow_13 (fun ty h => by cases h; exact zv2)

/-! ===== X5_path ===== -/
def p_X5_path (k : Nat) (x0 : Int32) : Option (Int32) :=
  some ((x0 * 266) / 100)

set_option maxHeartbeats 4000000 in
set_option maxRecDepth 100000 in
theorem c_X5_path {l : Launch} {D : va_G} {ks : K3} (k : Nat) (x0 : Int32) (r : Int32) (hf : p_X5_path k x0 = some r) : MetR l yX5_path wsX5_path { frames := 0, cells := 0, slots := 0, locals := 0 } D ks [.int x0] [] r True := by
  refine MetR.of (cc := cX5_path) (maxL := 1) (ret := (some .int)) (by decide +kernel) rfl (Nat.le_of_ble_eq_true rfl) ?_ ⟨_, rfl⟩
  intro p e s m below meth c Q hx hb hml hts hown hP hX hret ls hl
  have hK := hX.1
  replace hl : lv_has ls 1 [(0, .int x0)] := hl
  unfold p_X5_path at hf
  refine lv_iload_n hx hb dX5_path_0 rfl (lv_at hl 0 rfl) ?_
  refine lv_sipush (v := 266) hx hb dX5_path_1 (by decide) ?_
  refine lv_imul hx hb dX5_path_4 ?_
  refine lv_bipush (v := 100) hx hb dX5_path_5 (by decide) ?_
  refine lv_idiv hx hb dX5_path_7 (by decide) ?_
  obtain rfl := Option.some.inj hf
  exact hret trivial _ _ dX5_path_8 (fun ty h => by cases h; rfl)

/-! ===== X5_brightness ===== -/
def p_X5_brightness (k : Nat) (x0 : Int32) (x1 : Int32) : Option (Int32) :=
  if x1 = 0 then ((p_X5_path k x0).bind fun v7 => if 500 < (((v7 * 1000) / 650) - ((v7 * 1000) / 650) / 1000 * 1000) then (some (2 * (1000 - (((v7 * 1000) / 650) - ((v7 * 1000) / 650) / 1000 * 1000)))) else (some (2 * (((v7 * 1000) / 650) - ((v7 * 1000) / 650) / 1000 * 1000)))) else (if x1 = 1 then ((p_X5_path k x0).bind fun v5 => if 500 < (((v5 * 1000) / 530) - ((v5 * 1000) / 530) / 1000 * 1000) then (some (2 * (1000 - (((v5 * 1000) / 530) - ((v5 * 1000) / 530) / 1000 * 1000)))) else (some (2 * (((v5 * 1000) / 530) - ((v5 * 1000) / 530) / 1000 * 1000)))) else ((p_X5_path k x0).bind fun v3 => if 500 < (((v3 * 1000) / 460) - ((v3 * 1000) / 460) / 1000 * 1000) then (some (2 * (1000 - (((v3 * 1000) / 460) - ((v3 * 1000) / 460) / 1000 * 1000)))) else (some (2 * (((v3 * 1000) / 460) - ((v3 * 1000) / 460) / 1000 * 1000)))))

set_option maxHeartbeats 4000000 in
set_option maxRecDepth 100000 in
theorem c_X5_brightness {l : Launch} {D : va_G} {ks : K3} (k : Nat) (x0 : Int32) (x1 : Int32) (r : Int32) (hf : p_X5_brightness k x0 x1 = some r) : MetR l yX5_brightness wsX5_brightness { frames := 1, cells := 0, slots := 0, locals := 20 } D ks [.int x0, .int x1] [] r True := by
  refine MetR.of (cc := cX5_brightness) (maxL := 4) (ret := (some .int)) (by decide +kernel) rfl (Nat.le_of_ble_eq_true rfl) ?_ ⟨_, rfl⟩
  intro p e s m below meth c Q hx hb hml hts hown hP hX hret ls hl
  have hK := hX.1
  replace hl : lv_has ls 4 [(0, .int x0), (1, .int x1)] := hl
  unfold p_X5_brightness at hf
  refine lv_iload_n hx hb dX5_brightness_0 rfl (lv_at hl 1 rfl) ?_
  refine lv_if_ne (tgt := 10) hx hb dX5_brightness_1 (by decide) (fun c1 => ?_) (fun c1 => ?_)
  · replace hf := ifF hf c1
    refine lv_iload_n hx hb dX5_brightness_10 rfl (lv_at hl 1 rfl) ?_
    refine lv_iconst (v := 1) hx hb dX5_brightness_11 (by decide) ?_
    refine lv_icmp_ne (tgt := 21) hx hb dX5_brightness_12 (by decide) (fun c2 => ?_) (fun c2 => ?_)
    · replace hf := ifF hf c2
      refine lv_sipush (v := 460) hx hb dX5_brightness_21 (by decide) ?_
      refine lv_istore_n (lv' := [(2, .int 460), (0, .int x0), (1, .int x1)]) hx hb dX5_brightness_24 rfl hl (by decide) rfl (fun ls hl => ?_)
      refine lv_iload_n hx hb dX5_brightness_25 rfl (lv_at hl 1 rfl) ?_
      obtain ⟨v3, hv3, hf⟩ := bnd hf
      refine xcallRS (As := [.int x0]) (rest := []) (wc := []) ⟨hx, hb, hml, hown, hts⟩ (c_X5_path k x0 v3 hv3) (va_cwS 1 hts gX5_brightness_X5_path rfl rfl rfl (by decide +kernel) ⟨Nat.le_of_ble_eq_true rfl, Nat.le_of_ble_eq_true rfl⟩) hX (va_P0 _ _ _) rfl hl.1 rfl (Nat.le_of_ble_eq_true rfl) dX5_brightness_26 ⟨Nat.zero_le _, Nat.zero_le _⟩ (fun zv3 => ?_)
      refine lv_sipush (v := 1000) hx hb dX5_brightness_29 (by decide) ?_
      refine lv_imul hx hb dX5_brightness_32 ?_
      refine lv_iload_n hx hb dX5_brightness_33 rfl (lv_at hl 0 rfl) ?_
      refine lv_idiv hx hb dX5_brightness_34 (by decide) ?_
      refine lv_sipush (v := 1000) hx hb dX5_brightness_35 (by decide) ?_
      refine lv_irem hx hb dX5_brightness_38 (by decide) ?_
      refine lv_istore_n (lv' := [(3, .int (((v3 * 1000) / 460) - ((v3 * 1000) / 460) / 1000 * 1000)), (2, .int 460), (0, .int x0), (1, .int x1)]) hx hb dX5_brightness_39 rfl hl (by decide) rfl (fun ls hl => ?_)
      refine lv_iload_n hx hb dX5_brightness_40 rfl (lv_at hl 0 rfl) ?_
      refine lv_sipush (v := 500) hx hb dX5_brightness_41 (by decide) ?_
      refine lv_icmp_gt (tgt := 53) hx hb dX5_brightness_44 (by decide) (fun c4 => ?_) (fun c4 => ?_)
      · replace hf := ifT hf c4
        refine lv_iconst (v := 2) hx hb dX5_brightness_53 (by decide) ?_
        refine lv_sipush (v := 1000) hx hb dX5_brightness_54 (by decide) ?_
        refine lv_iload_n hx hb dX5_brightness_57 rfl (lv_at hl 0 rfl) ?_
        refine lv_isub hx hb dX5_brightness_58 ?_
        refine lv_imul hx hb dX5_brightness_59 ?_
        obtain rfl := Option.some.inj hf
        exact hret trivial _ _ dX5_brightness_60 (fun ty h => by cases h; rfl)
      · replace hf := ifF hf c4
        refine lv_iconst (v := 2) hx hb dX5_brightness_47 (by decide) ?_
        refine lv_iload_n hx hb dX5_brightness_48 rfl (lv_at hl 0 rfl) ?_
        refine lv_imul hx hb dX5_brightness_49 ?_
        refine lv_goto (tgt := 60) hx hb dX5_brightness_50 (by decide) ?_
        obtain rfl := Option.some.inj hf
        exact hret trivial _ _ dX5_brightness_60 (fun ty h => by cases h; rfl)
    · replace hf := ifT hf c2
      refine lv_sipush (v := 530) hx hb dX5_brightness_15 (by decide) ?_
      refine lv_goto (tgt := 24) hx hb dX5_brightness_18 (by decide) ?_
      refine lv_istore_n (lv' := [(2, .int 530), (0, .int x0), (1, .int x1)]) hx hb dX5_brightness_24 rfl hl (by decide) rfl (fun ls hl => ?_)
      refine lv_iload_n hx hb dX5_brightness_25 rfl (lv_at hl 1 rfl) ?_
      obtain ⟨v5, hv5, hf⟩ := bnd hf
      refine xcallRS (As := [.int x0]) (rest := []) (wc := []) ⟨hx, hb, hml, hown, hts⟩ (c_X5_path k x0 v5 hv5) (va_cwS 1 hts gX5_brightness_X5_path rfl rfl rfl (by decide +kernel) ⟨Nat.le_of_ble_eq_true rfl, Nat.le_of_ble_eq_true rfl⟩) hX (va_P0 _ _ _) rfl hl.1 rfl (Nat.le_of_ble_eq_true rfl) dX5_brightness_26 ⟨Nat.zero_le _, Nat.zero_le _⟩ (fun zv5 => ?_)
      refine lv_sipush (v := 1000) hx hb dX5_brightness_29 (by decide) ?_
      refine lv_imul hx hb dX5_brightness_32 ?_
      refine lv_iload_n hx hb dX5_brightness_33 rfl (lv_at hl 0 rfl) ?_
      refine lv_idiv hx hb dX5_brightness_34 (by decide) ?_
      refine lv_sipush (v := 1000) hx hb dX5_brightness_35 (by decide) ?_
      refine lv_irem hx hb dX5_brightness_38 (by decide) ?_
      refine lv_istore_n (lv' := [(3, .int (((v5 * 1000) / 530) - ((v5 * 1000) / 530) / 1000 * 1000)), (2, .int 530), (0, .int x0), (1, .int x1)]) hx hb dX5_brightness_39 rfl hl (by decide) rfl (fun ls hl => ?_)
      refine lv_iload_n hx hb dX5_brightness_40 rfl (lv_at hl 0 rfl) ?_
      refine lv_sipush (v := 500) hx hb dX5_brightness_41 (by decide) ?_
      refine lv_icmp_gt (tgt := 53) hx hb dX5_brightness_44 (by decide) (fun c6 => ?_) (fun c6 => ?_)
      · replace hf := ifT hf c6
        refine lv_iconst (v := 2) hx hb dX5_brightness_53 (by decide) ?_
        refine lv_sipush (v := 1000) hx hb dX5_brightness_54 (by decide) ?_
        refine lv_iload_n hx hb dX5_brightness_57 rfl (lv_at hl 0 rfl) ?_
        refine lv_isub hx hb dX5_brightness_58 ?_
        refine lv_imul hx hb dX5_brightness_59 ?_
        obtain rfl := Option.some.inj hf
        exact hret trivial _ _ dX5_brightness_60 (fun ty h => by cases h; rfl)
      · replace hf := ifF hf c6
        refine lv_iconst (v := 2) hx hb dX5_brightness_47 (by decide) ?_
        refine lv_iload_n hx hb dX5_brightness_48 rfl (lv_at hl 0 rfl) ?_
        refine lv_imul hx hb dX5_brightness_49 ?_
        refine lv_goto (tgt := 60) hx hb dX5_brightness_50 (by decide) ?_
        obtain rfl := Option.some.inj hf
        exact hret trivial _ _ dX5_brightness_60 (fun ty h => by cases h; rfl)
  · replace hf := ifT hf c1
    refine lv_sipush (v := 650) hx hb dX5_brightness_4 (by decide) ?_
    refine lv_goto (tgt := 24) hx hb dX5_brightness_7 (by decide) ?_
    refine lv_istore_n (lv' := [(2, .int 650), (0, .int x0), (1, .int x1)]) hx hb dX5_brightness_24 rfl hl (by decide) rfl (fun ls hl => ?_)
    refine lv_iload_n hx hb dX5_brightness_25 rfl (lv_at hl 1 rfl) ?_
    obtain ⟨v7, hv7, hf⟩ := bnd hf
    refine xcallRS (As := [.int x0]) (rest := []) (wc := []) ⟨hx, hb, hml, hown, hts⟩ (c_X5_path k x0 v7 hv7) (va_cwS 1 hts gX5_brightness_X5_path rfl rfl rfl (by decide +kernel) ⟨Nat.le_of_ble_eq_true rfl, Nat.le_of_ble_eq_true rfl⟩) hX (va_P0 _ _ _) rfl hl.1 rfl (Nat.le_of_ble_eq_true rfl) dX5_brightness_26 ⟨Nat.zero_le _, Nat.zero_le _⟩ (fun zv7 => ?_)
    refine lv_sipush (v := 1000) hx hb dX5_brightness_29 (by decide) ?_
    refine lv_imul hx hb dX5_brightness_32 ?_
    refine lv_iload_n hx hb dX5_brightness_33 rfl (lv_at hl 0 rfl) ?_
    refine lv_idiv hx hb dX5_brightness_34 (by decide) ?_
    refine lv_sipush (v := 1000) hx hb dX5_brightness_35 (by decide) ?_
    refine lv_irem hx hb dX5_brightness_38 (by decide) ?_
    refine lv_istore_n (lv' := [(3, .int (((v7 * 1000) / 650) - ((v7 * 1000) / 650) / 1000 * 1000)), (2, .int 650), (0, .int x0), (1, .int x1)]) hx hb dX5_brightness_39 rfl hl (by decide) rfl (fun ls hl => ?_)
    refine lv_iload_n hx hb dX5_brightness_40 rfl (lv_at hl 0 rfl) ?_
    refine lv_sipush (v := 500) hx hb dX5_brightness_41 (by decide) ?_
    refine lv_icmp_gt (tgt := 53) hx hb dX5_brightness_44 (by decide) (fun c8 => ?_) (fun c8 => ?_)
    · replace hf := ifT hf c8
      refine lv_iconst (v := 2) hx hb dX5_brightness_53 (by decide) ?_
      refine lv_sipush (v := 1000) hx hb dX5_brightness_54 (by decide) ?_
      refine lv_iload_n hx hb dX5_brightness_57 rfl (lv_at hl 0 rfl) ?_
      refine lv_isub hx hb dX5_brightness_58 ?_
      refine lv_imul hx hb dX5_brightness_59 ?_
      obtain rfl := Option.some.inj hf
      exact hret trivial _ _ dX5_brightness_60 (fun ty h => by cases h; rfl)
    · replace hf := ifF hf c8
      refine lv_iconst (v := 2) hx hb dX5_brightness_47 (by decide) ?_
      refine lv_iload_n hx hb dX5_brightness_48 rfl (lv_at hl 0 rfl) ?_
      refine lv_imul hx hb dX5_brightness_49 ?_
      refine lv_goto (tgt := 60) hx hb dX5_brightness_50 (by decide) ?_
      obtain rfl := Option.some.inj hf
      exact hret trivial _ _ dX5_brightness_60 (fun ty h => by cases h; rfl)

/-! ===== X5_isBlack ===== -/
def p_X5_isBlack (k : Nat) (M : MD) (x1 : Int32) : Option (Int32) :=
  (p_X5_of k M 3).bind fun v1 => if v1 ≤ x1 then (some 0) else (some 1)

set_option maxHeartbeats 4000000 in
set_option maxRecDepth 100000 in
theorem c_X5_isBlack {l : Launch} {D : va_G} {ks : K3} (k : Nat) (g : AM) (M : MD) (x1 : Int32) (r : Int32) (hf : p_X5_isBlack k M x1 = some r) : MetR l yX5_isBlack wsX5_isBlack { frames := 1, cells := 0, slots := 0, locals := 21 } D ks [.ref g.1, .int x1] (wM ks g M) r (narrow .boolean (.int r) = .int r) := by
  refine MetR.of (cc := cX5_isBlack) (maxL := 2) (ret := (some .boolean)) (by decide +kernel) rfl (Nat.le_of_ble_eq_true rfl) ?_ ⟨_, rfl⟩
  intro p e s m below meth c Q hx hb hml hts hown hP hX hret ls hl
  have hK := hX.1
  replace hl : lv_has ls 2 [(0, .ref g.1), (1, .int x1)] := hl
  unfold p_X5_isBlack at hf
  refine lv_iload_n hx hb dX5_isBlack_0 rfl (lv_at hl 1 rfl) ?_
  refine lv_aload_n hx hb dX5_isBlack_1 rfl (lv_at hl 0 rfl) ?_
  refine lv_iconst (v := 3) hx hb dX5_isBlack_2 (by decide) ?_
  obtain ⟨v1, hv1, hf⟩ := bnd hf
  refine xcallRV (As := [.int 3]) (rest := [.int x1]) (wc := (wM ks g M)) ⟨hx, hb, hml, hown, hts⟩ (c_X5_of k g M 3 v1 hv1) (cwV 1 hts gX5_isBlack_X5_of rfl rfl rfl (by decide +kernel) ⟨Nat.le_of_ble_eq_true rfl, Nat.le_of_ble_eq_true rfl⟩) hX hP (ci := 4) (q0 := 0) rfl rfl rfl hl.1 rfl (Nat.le_of_ble_eq_true rfl) dX5_isBlack_3 ⟨Nat.zero_le _, Nat.zero_le _⟩ (fun zv1 => ?_)
  refine lv_icmp_ge (tgt := 13) hx hb dX5_isBlack_6 (by decide) (fun c2 => ?_) (fun c2 => ?_)
  · replace hf := ifT hf c2
    refine lv_iconst (v := 0) hx hb dX5_isBlack_13 (by decide) ?_
    obtain rfl := Option.some.inj hf
    exact hret rfl _ _ dX5_isBlack_14 (fun ty h => by cases h; rfl)
  · replace hf := ifF hf c2
    refine lv_iconst (v := 1) hx hb dX5_isBlack_9 (by decide) ?_
    refine lv_goto (tgt := 14) hx hb dX5_isBlack_10 (by decide) ?_
    obtain rfl := Option.some.inj hf
    exact hret rfl _ _ dX5_isBlack_14 (fun ty h => by cases h; rfl)

/-! ===== X5_colour ===== -/
def p_X5_colour (k : Nat) (M : MD) (x1 : Int32) : Option (Int32) :=
  (p_X5_isBlack k M x1).bind fun v1 => if v1 = 0 then ((p_X5_brightness k x1 0).bind fun v3 => if v3 < 500 then ((p_X5_brightness k x1 1).bind fun v5 => if v5 < 500 then ((p_X5_brightness k x1 2).bind fun v7 => if v7 < 500 then (some 0) else (some (0 + (jshr 4 2)))) else ((p_X5_brightness k x1 2).bind fun v9 => if v9 < 500 then (some ((0 + (jshr 4 1)) + 0)) else (some ((0 + (jshr 4 1)) + (jshr 4 2))))) else ((p_X5_brightness k x1 1).bind fun v11 => if v11 < 500 then ((p_X5_brightness k x1 2).bind fun v13 => if v13 < 500 then (some (((0 + (jshr 4 0)) + 0) + 0)) else (some (((0 + (jshr 4 0)) + 0) + (jshr 4 2)))) else ((p_X5_brightness k x1 2).bind fun v15 => if v15 < 500 then (some (((0 + (jshr 4 0)) + (jshr 4 1)) + 0)) else (some (((0 + (jshr 4 0)) + (jshr 4 1)) + (jshr 4 2)))))) else (some 0)

set_option maxHeartbeats 4000000 in
set_option maxRecDepth 100000 in
theorem c_X5_colour {l : Launch} {D : va_G} {ks : K3} (k : Nat) (g : AM) (M : MD) (x1 : Int32) (r : Int32) (hf : p_X5_colour k M x1 = some r) : MetR l yX5_colour wsX5_colour { frames := 2, cells := 0, slots := 0, locals := 43 } D ks [.ref g.1, .int x1] (wM ks g M) r True := by
  refine MetR.of (cc := cX5_colour) (maxL := 4) (ret := (some .int)) (by decide +kernel) rfl (Nat.le_of_ble_eq_true rfl) ?_ ⟨_, rfl⟩
  intro p e s m below meth c Q hx hb hml hts hown hP hX hret ls hl
  have hK := hX.1
  replace hl : lv_has ls 4 [(0, .ref g.1), (1, .int x1)] := hl
  unfold p_X5_colour at hf
  refine lv_aload_n hx hb dX5_colour_0 rfl (lv_at hl 0 rfl) ?_
  refine lv_iload_n hx hb dX5_colour_1 rfl (lv_at hl 1 rfl) ?_
  obtain ⟨v1, hv1, hf⟩ := bnd hf
  refine xcallRV (As := [.int x1]) (rest := []) (wc := (wM ks g M)) ⟨hx, hb, hml, hown, hts⟩ (c_X5_isBlack k g M x1 v1 hv1) (cwV 1 hts gX5_colour_X5_isBlack rfl rfl rfl (by decide +kernel) ⟨Nat.le_of_ble_eq_true rfl, Nat.le_of_ble_eq_true rfl⟩) hX hP (ci := 4) (q0 := 0) rfl rfl rfl hl.1 rfl (Nat.le_of_ble_eq_true rfl) dX5_colour_2 ⟨Nat.zero_le _, Nat.zero_le _⟩ (fun zv1 => ?_)
  refine lv_if_eq (tgt := 10) hx hb dX5_colour_5 (by decide) (fun c2 => ?_) (fun c2 => ?_)
  · replace hf := ifT hf c2
    refine lv_iconst (v := 0) hx hb dX5_colour_10 (by decide) ?_
    refine lv_istore_n (lv' := [(2, .int 0), (0, .ref g.1), (1, .int x1)]) hx hb dX5_colour_11 rfl hl (by decide) rfl (fun ls hl => ?_)
    refine lv_iconst (v := 0) hx hb dX5_colour_12 (by decide) ?_
    refine lv_istore_n (lv' := [(3, .int 0), (2, .int 0), (0, .ref g.1), (1, .int x1)]) hx hb dX5_colour_13 rfl hl (by decide) rfl (fun ls hl => ?_)
    refine lv_iload_n hx hb dX5_colour_14 rfl (lv_at hl 0 rfl) ?_
    refine lv_iconst (v := 3) hx hb dX5_colour_15 (by decide) ?_
    refine lv_icmp_ge (tgt := 46) hx hb dX5_colour_16 (by decide) (fun c => absurd c (by decide)) (fun _ => ?_)
    refine lv_iload_n hx hb dX5_colour_19 rfl (lv_at hl 1 rfl) ?_
    refine lv_iload_n hx hb dX5_colour_20 rfl (lv_at hl 3 rfl) ?_
    refine lv_iload_n hx hb dX5_colour_21 rfl (lv_at hl 0 rfl) ?_
    obtain ⟨v3, hv3, hf⟩ := bnd hf
    refine xcallRS (As := [.int x1, .int 0]) (rest := [.int 0]) (wc := []) ⟨hx, hb, hml, hown, hts⟩ (c_X5_brightness k x1 0 v3 hv3) (va_cwS 2 hts gX5_colour_X5_brightness rfl rfl rfl (by decide +kernel) ⟨Nat.le_of_ble_eq_true rfl, Nat.le_of_ble_eq_true rfl⟩) hX (va_P0 _ _ _) rfl hl.1 rfl (Nat.le_of_ble_eq_true rfl) dX5_colour_22 ⟨Nat.zero_le _, Nat.zero_le _⟩ (fun zv3 => ?_)
    refine lv_sipush (v := 500) hx hb dX5_colour_25 (by decide) ?_
    refine lv_icmp_lt (tgt := 37) hx hb dX5_colour_28 (by decide) (fun c4 => ?_) (fun c4 => ?_)
    · replace hf := ifT hf c4
      refine lv_iconst (v := 0) hx hb dX5_colour_37 (by decide) ?_
      refine lv_iadd hx hb dX5_colour_38 ?_
      rw [show ((0 + 0) : Int32) = 0 from by decide]
      refine lv_istore_n (lv' := [(2, .int 0), (3, .int 0), (0, .ref g.1), (1, .int x1)]) hx hb dX5_colour_39 rfl hl (by decide) rfl (fun ls hl => ?_)
      refine lv_iinc (v := 1) (lv' := [(3, .int 1), (2, .int 0), (0, .ref g.1), (1, .int x1)]) hx hb dX5_colour_40 hl (k := 1) rfl (by decide) (by decide) rfl (fun ls hl => ?_)
      refine lv_goto (tgt := 14) hx hb dX5_colour_43 (by decide) ?_
      refine lv_iload_n hx hb dX5_colour_14 rfl (lv_at hl 0 rfl) ?_
      refine lv_iconst (v := 3) hx hb dX5_colour_15 (by decide) ?_
      refine lv_icmp_ge (tgt := 46) hx hb dX5_colour_16 (by decide) (fun c => absurd c (by decide)) (fun _ => ?_)
      refine lv_iload_n hx hb dX5_colour_19 rfl (lv_at hl 1 rfl) ?_
      refine lv_iload_n hx hb dX5_colour_20 rfl (lv_at hl 3 rfl) ?_
      refine lv_iload_n hx hb dX5_colour_21 rfl (lv_at hl 0 rfl) ?_
      obtain ⟨v5, hv5, hf⟩ := bnd hf
      refine xcallRS (As := [.int x1, .int 1]) (rest := [.int 0]) (wc := []) ⟨hx, hb, hml, hown, hts⟩ (c_X5_brightness k x1 1 v5 hv5) (va_cwS 2 hts gX5_colour_X5_brightness rfl rfl rfl (by decide +kernel) ⟨Nat.le_of_ble_eq_true rfl, Nat.le_of_ble_eq_true rfl⟩) hX (va_P0 _ _ _) rfl hl.1 rfl (Nat.le_of_ble_eq_true rfl) dX5_colour_22 ⟨Nat.zero_le _, Nat.zero_le _⟩ (fun zv5 => ?_)
      refine lv_sipush (v := 500) hx hb dX5_colour_25 (by decide) ?_
      refine lv_icmp_lt (tgt := 37) hx hb dX5_colour_28 (by decide) (fun c6 => ?_) (fun c6 => ?_)
      · replace hf := ifT hf c6
        refine lv_iconst (v := 0) hx hb dX5_colour_37 (by decide) ?_
        refine lv_iadd hx hb dX5_colour_38 ?_
        rw [show ((0 + 0) : Int32) = 0 from by decide]
        refine lv_istore_n (lv' := [(2, .int 0), (3, .int 1), (0, .ref g.1), (1, .int x1)]) hx hb dX5_colour_39 rfl hl (by decide) rfl (fun ls hl => ?_)
        refine lv_iinc (v := 2) (lv' := [(3, .int 2), (2, .int 0), (0, .ref g.1), (1, .int x1)]) hx hb dX5_colour_40 hl (k := 1) rfl (by decide) (by decide) rfl (fun ls hl => ?_)
        refine lv_goto (tgt := 14) hx hb dX5_colour_43 (by decide) ?_
        refine lv_iload_n hx hb dX5_colour_14 rfl (lv_at hl 0 rfl) ?_
        refine lv_iconst (v := 3) hx hb dX5_colour_15 (by decide) ?_
        refine lv_icmp_ge (tgt := 46) hx hb dX5_colour_16 (by decide) (fun c => absurd c (by decide)) (fun _ => ?_)
        refine lv_iload_n hx hb dX5_colour_19 rfl (lv_at hl 1 rfl) ?_
        refine lv_iload_n hx hb dX5_colour_20 rfl (lv_at hl 3 rfl) ?_
        refine lv_iload_n hx hb dX5_colour_21 rfl (lv_at hl 0 rfl) ?_
        obtain ⟨v7, hv7, hf⟩ := bnd hf
        refine xcallRS (As := [.int x1, .int 2]) (rest := [.int 0]) (wc := []) ⟨hx, hb, hml, hown, hts⟩ (c_X5_brightness k x1 2 v7 hv7) (va_cwS 2 hts gX5_colour_X5_brightness rfl rfl rfl (by decide +kernel) ⟨Nat.le_of_ble_eq_true rfl, Nat.le_of_ble_eq_true rfl⟩) hX (va_P0 _ _ _) rfl hl.1 rfl (Nat.le_of_ble_eq_true rfl) dX5_colour_22 ⟨Nat.zero_le _, Nat.zero_le _⟩ (fun zv7 => ?_)
        refine lv_sipush (v := 500) hx hb dX5_colour_25 (by decide) ?_
        refine lv_icmp_lt (tgt := 37) hx hb dX5_colour_28 (by decide) (fun c8 => ?_) (fun c8 => ?_)
        · replace hf := ifT hf c8
          refine lv_iconst (v := 0) hx hb dX5_colour_37 (by decide) ?_
          refine lv_iadd hx hb dX5_colour_38 ?_
          rw [show ((0 + 0) : Int32) = 0 from by decide]
          refine lv_istore_n (lv' := [(2, .int 0), (3, .int 2), (0, .ref g.1), (1, .int x1)]) hx hb dX5_colour_39 rfl hl (by decide) rfl (fun ls hl => ?_)
          refine lv_iinc (v := 3) (lv' := [(3, .int 3), (2, .int 0), (0, .ref g.1), (1, .int x1)]) hx hb dX5_colour_40 hl (k := 1) rfl (by decide) (by decide) rfl (fun ls hl => ?_)
          refine lv_goto (tgt := 14) hx hb dX5_colour_43 (by decide) ?_
          refine lv_iload_n hx hb dX5_colour_14 rfl (lv_at hl 0 rfl) ?_
          refine lv_iconst (v := 3) hx hb dX5_colour_15 (by decide) ?_
          refine lv_icmp_ge (tgt := 46) hx hb dX5_colour_16 (by decide) (fun _ => ?_) (fun c => absurd c (by decide))
          refine lv_iload_n hx hb dX5_colour_46 rfl (lv_at hl 1 rfl) ?_
          obtain rfl := Option.some.inj hf
          exact hret trivial _ _ dX5_colour_47 (fun ty h => by cases h; rfl)
        · replace hf := ifF hf c8
          refine lv_iconst (v := 4) hx hb dX5_colour_31 (by decide) ?_
          refine lv_iload_n hx hb dX5_colour_32 rfl (lv_at hl 0 rfl) ?_
          refine xx_ishr hx hb dX5_colour_33 ?_
          refine lv_goto (tgt := 38) hx hb dX5_colour_34 (by decide) ?_
          refine lv_iadd hx hb dX5_colour_38 ?_
          refine lv_istore_n (lv' := [(2, .int (0 + (jshr 4 2))), (3, .int 2), (0, .ref g.1), (1, .int x1)]) hx hb dX5_colour_39 rfl hl (by decide) rfl (fun ls hl => ?_)
          refine lv_iinc (v := 3) (lv' := [(3, .int 3), (2, .int (0 + (jshr 4 2))), (0, .ref g.1), (1, .int x1)]) hx hb dX5_colour_40 hl (k := 1) rfl (by decide) (by decide) rfl (fun ls hl => ?_)
          refine lv_goto (tgt := 14) hx hb dX5_colour_43 (by decide) ?_
          refine lv_iload_n hx hb dX5_colour_14 rfl (lv_at hl 0 rfl) ?_
          refine lv_iconst (v := 3) hx hb dX5_colour_15 (by decide) ?_
          refine lv_icmp_ge (tgt := 46) hx hb dX5_colour_16 (by decide) (fun _ => ?_) (fun c => absurd c (by decide))
          refine lv_iload_n hx hb dX5_colour_46 rfl (lv_at hl 1 rfl) ?_
          obtain rfl := Option.some.inj hf
          exact hret trivial _ _ dX5_colour_47 (fun ty h => by cases h; rfl)
      · replace hf := ifF hf c6
        refine lv_iconst (v := 4) hx hb dX5_colour_31 (by decide) ?_
        refine lv_iload_n hx hb dX5_colour_32 rfl (lv_at hl 0 rfl) ?_
        refine xx_ishr hx hb dX5_colour_33 ?_
        refine lv_goto (tgt := 38) hx hb dX5_colour_34 (by decide) ?_
        refine lv_iadd hx hb dX5_colour_38 ?_
        refine lv_istore_n (lv' := [(2, .int (0 + (jshr 4 1))), (3, .int 1), (0, .ref g.1), (1, .int x1)]) hx hb dX5_colour_39 rfl hl (by decide) rfl (fun ls hl => ?_)
        refine lv_iinc (v := 2) (lv' := [(3, .int 2), (2, .int (0 + (jshr 4 1))), (0, .ref g.1), (1, .int x1)]) hx hb dX5_colour_40 hl (k := 1) rfl (by decide) (by decide) rfl (fun ls hl => ?_)
        refine lv_goto (tgt := 14) hx hb dX5_colour_43 (by decide) ?_
        refine lv_iload_n hx hb dX5_colour_14 rfl (lv_at hl 0 rfl) ?_
        refine lv_iconst (v := 3) hx hb dX5_colour_15 (by decide) ?_
        refine lv_icmp_ge (tgt := 46) hx hb dX5_colour_16 (by decide) (fun c => absurd c (by decide)) (fun _ => ?_)
        refine lv_iload_n hx hb dX5_colour_19 rfl (lv_at hl 1 rfl) ?_
        refine lv_iload_n hx hb dX5_colour_20 rfl (lv_at hl 3 rfl) ?_
        refine lv_iload_n hx hb dX5_colour_21 rfl (lv_at hl 0 rfl) ?_
        obtain ⟨v9, hv9, hf⟩ := bnd hf
        refine xcallRS (As := [.int x1, .int 2]) (rest := [.int (0 + (jshr 4 1))]) (wc := []) ⟨hx, hb, hml, hown, hts⟩ (c_X5_brightness k x1 2 v9 hv9) (va_cwS 2 hts gX5_colour_X5_brightness rfl rfl rfl (by decide +kernel) ⟨Nat.le_of_ble_eq_true rfl, Nat.le_of_ble_eq_true rfl⟩) hX (va_P0 _ _ _) rfl hl.1 rfl (Nat.le_of_ble_eq_true rfl) dX5_colour_22 ⟨Nat.zero_le _, Nat.zero_le _⟩ (fun zv9 => ?_)
        refine lv_sipush (v := 500) hx hb dX5_colour_25 (by decide) ?_
        refine lv_icmp_lt (tgt := 37) hx hb dX5_colour_28 (by decide) (fun c10 => ?_) (fun c10 => ?_)
        · replace hf := ifT hf c10
          refine lv_iconst (v := 0) hx hb dX5_colour_37 (by decide) ?_
          refine lv_iadd hx hb dX5_colour_38 ?_
          refine lv_istore_n (lv' := [(2, .int ((0 + (jshr 4 1)) + 0)), (3, .int 2), (0, .ref g.1), (1, .int x1)]) hx hb dX5_colour_39 rfl hl (by decide) rfl (fun ls hl => ?_)
          refine lv_iinc (v := 3) (lv' := [(3, .int 3), (2, .int ((0 + (jshr 4 1)) + 0)), (0, .ref g.1), (1, .int x1)]) hx hb dX5_colour_40 hl (k := 1) rfl (by decide) (by decide) rfl (fun ls hl => ?_)
          refine lv_goto (tgt := 14) hx hb dX5_colour_43 (by decide) ?_
          refine lv_iload_n hx hb dX5_colour_14 rfl (lv_at hl 0 rfl) ?_
          refine lv_iconst (v := 3) hx hb dX5_colour_15 (by decide) ?_
          refine lv_icmp_ge (tgt := 46) hx hb dX5_colour_16 (by decide) (fun _ => ?_) (fun c => absurd c (by decide))
          refine lv_iload_n hx hb dX5_colour_46 rfl (lv_at hl 1 rfl) ?_
          obtain rfl := Option.some.inj hf
          exact hret trivial _ _ dX5_colour_47 (fun ty h => by cases h; rfl)
        · replace hf := ifF hf c10
          refine lv_iconst (v := 4) hx hb dX5_colour_31 (by decide) ?_
          refine lv_iload_n hx hb dX5_colour_32 rfl (lv_at hl 0 rfl) ?_
          refine xx_ishr hx hb dX5_colour_33 ?_
          refine lv_goto (tgt := 38) hx hb dX5_colour_34 (by decide) ?_
          refine lv_iadd hx hb dX5_colour_38 ?_
          refine lv_istore_n (lv' := [(2, .int ((0 + (jshr 4 1)) + (jshr 4 2))), (3, .int 2), (0, .ref g.1), (1, .int x1)]) hx hb dX5_colour_39 rfl hl (by decide) rfl (fun ls hl => ?_)
          refine lv_iinc (v := 3) (lv' := [(3, .int 3), (2, .int ((0 + (jshr 4 1)) + (jshr 4 2))), (0, .ref g.1), (1, .int x1)]) hx hb dX5_colour_40 hl (k := 1) rfl (by decide) (by decide) rfl (fun ls hl => ?_)
          refine lv_goto (tgt := 14) hx hb dX5_colour_43 (by decide) ?_
          refine lv_iload_n hx hb dX5_colour_14 rfl (lv_at hl 0 rfl) ?_
          refine lv_iconst (v := 3) hx hb dX5_colour_15 (by decide) ?_
          refine lv_icmp_ge (tgt := 46) hx hb dX5_colour_16 (by decide) (fun _ => ?_) (fun c => absurd c (by decide))
          refine lv_iload_n hx hb dX5_colour_46 rfl (lv_at hl 1 rfl) ?_
          obtain rfl := Option.some.inj hf
          exact hret trivial _ _ dX5_colour_47 (fun ty h => by cases h; rfl)
    · replace hf := ifF hf c4
      refine lv_iconst (v := 4) hx hb dX5_colour_31 (by decide) ?_
      refine lv_iload_n hx hb dX5_colour_32 rfl (lv_at hl 0 rfl) ?_
      refine xx_ishr hx hb dX5_colour_33 ?_
      refine lv_goto (tgt := 38) hx hb dX5_colour_34 (by decide) ?_
      refine lv_iadd hx hb dX5_colour_38 ?_
      refine lv_istore_n (lv' := [(2, .int (0 + (jshr 4 0))), (3, .int 0), (0, .ref g.1), (1, .int x1)]) hx hb dX5_colour_39 rfl hl (by decide) rfl (fun ls hl => ?_)
      refine lv_iinc (v := 1) (lv' := [(3, .int 1), (2, .int (0 + (jshr 4 0))), (0, .ref g.1), (1, .int x1)]) hx hb dX5_colour_40 hl (k := 1) rfl (by decide) (by decide) rfl (fun ls hl => ?_)
      refine lv_goto (tgt := 14) hx hb dX5_colour_43 (by decide) ?_
      refine lv_iload_n hx hb dX5_colour_14 rfl (lv_at hl 0 rfl) ?_
      refine lv_iconst (v := 3) hx hb dX5_colour_15 (by decide) ?_
      refine lv_icmp_ge (tgt := 46) hx hb dX5_colour_16 (by decide) (fun c => absurd c (by decide)) (fun _ => ?_)
      refine lv_iload_n hx hb dX5_colour_19 rfl (lv_at hl 1 rfl) ?_
      refine lv_iload_n hx hb dX5_colour_20 rfl (lv_at hl 3 rfl) ?_
      refine lv_iload_n hx hb dX5_colour_21 rfl (lv_at hl 0 rfl) ?_
      obtain ⟨v11, hv11, hf⟩ := bnd hf
      refine xcallRS (As := [.int x1, .int 1]) (rest := [.int (0 + (jshr 4 0))]) (wc := []) ⟨hx, hb, hml, hown, hts⟩ (c_X5_brightness k x1 1 v11 hv11) (va_cwS 2 hts gX5_colour_X5_brightness rfl rfl rfl (by decide +kernel) ⟨Nat.le_of_ble_eq_true rfl, Nat.le_of_ble_eq_true rfl⟩) hX (va_P0 _ _ _) rfl hl.1 rfl (Nat.le_of_ble_eq_true rfl) dX5_colour_22 ⟨Nat.zero_le _, Nat.zero_le _⟩ (fun zv11 => ?_)
      refine lv_sipush (v := 500) hx hb dX5_colour_25 (by decide) ?_
      refine lv_icmp_lt (tgt := 37) hx hb dX5_colour_28 (by decide) (fun c12 => ?_) (fun c12 => ?_)
      · replace hf := ifT hf c12
        refine lv_iconst (v := 0) hx hb dX5_colour_37 (by decide) ?_
        refine lv_iadd hx hb dX5_colour_38 ?_
        refine lv_istore_n (lv' := [(2, .int ((0 + (jshr 4 0)) + 0)), (3, .int 1), (0, .ref g.1), (1, .int x1)]) hx hb dX5_colour_39 rfl hl (by decide) rfl (fun ls hl => ?_)
        refine lv_iinc (v := 2) (lv' := [(3, .int 2), (2, .int ((0 + (jshr 4 0)) + 0)), (0, .ref g.1), (1, .int x1)]) hx hb dX5_colour_40 hl (k := 1) rfl (by decide) (by decide) rfl (fun ls hl => ?_)
        refine lv_goto (tgt := 14) hx hb dX5_colour_43 (by decide) ?_
        refine lv_iload_n hx hb dX5_colour_14 rfl (lv_at hl 0 rfl) ?_
        refine lv_iconst (v := 3) hx hb dX5_colour_15 (by decide) ?_
        refine lv_icmp_ge (tgt := 46) hx hb dX5_colour_16 (by decide) (fun c => absurd c (by decide)) (fun _ => ?_)
        refine lv_iload_n hx hb dX5_colour_19 rfl (lv_at hl 1 rfl) ?_
        refine lv_iload_n hx hb dX5_colour_20 rfl (lv_at hl 3 rfl) ?_
        refine lv_iload_n hx hb dX5_colour_21 rfl (lv_at hl 0 rfl) ?_
        obtain ⟨v13, hv13, hf⟩ := bnd hf
        refine xcallRS (As := [.int x1, .int 2]) (rest := [.int ((0 + (jshr 4 0)) + 0)]) (wc := []) ⟨hx, hb, hml, hown, hts⟩ (c_X5_brightness k x1 2 v13 hv13) (va_cwS 2 hts gX5_colour_X5_brightness rfl rfl rfl (by decide +kernel) ⟨Nat.le_of_ble_eq_true rfl, Nat.le_of_ble_eq_true rfl⟩) hX (va_P0 _ _ _) rfl hl.1 rfl (Nat.le_of_ble_eq_true rfl) dX5_colour_22 ⟨Nat.zero_le _, Nat.zero_le _⟩ (fun zv13 => ?_)
        refine lv_sipush (v := 500) hx hb dX5_colour_25 (by decide) ?_
        refine lv_icmp_lt (tgt := 37) hx hb dX5_colour_28 (by decide) (fun c14 => ?_) (fun c14 => ?_)
        · replace hf := ifT hf c14
          refine lv_iconst (v := 0) hx hb dX5_colour_37 (by decide) ?_
          refine lv_iadd hx hb dX5_colour_38 ?_
          refine lv_istore_n (lv' := [(2, .int (((0 + (jshr 4 0)) + 0) + 0)), (3, .int 2), (0, .ref g.1), (1, .int x1)]) hx hb dX5_colour_39 rfl hl (by decide) rfl (fun ls hl => ?_)
          refine lv_iinc (v := 3) (lv' := [(3, .int 3), (2, .int (((0 + (jshr 4 0)) + 0) + 0)), (0, .ref g.1), (1, .int x1)]) hx hb dX5_colour_40 hl (k := 1) rfl (by decide) (by decide) rfl (fun ls hl => ?_)
          refine lv_goto (tgt := 14) hx hb dX5_colour_43 (by decide) ?_
          refine lv_iload_n hx hb dX5_colour_14 rfl (lv_at hl 0 rfl) ?_
          refine lv_iconst (v := 3) hx hb dX5_colour_15 (by decide) ?_
          refine lv_icmp_ge (tgt := 46) hx hb dX5_colour_16 (by decide) (fun _ => ?_) (fun c => absurd c (by decide))
          refine lv_iload_n hx hb dX5_colour_46 rfl (lv_at hl 1 rfl) ?_
          obtain rfl := Option.some.inj hf
          exact hret trivial _ _ dX5_colour_47 (fun ty h => by cases h; rfl)
        · replace hf := ifF hf c14
          refine lv_iconst (v := 4) hx hb dX5_colour_31 (by decide) ?_
          refine lv_iload_n hx hb dX5_colour_32 rfl (lv_at hl 0 rfl) ?_
          refine xx_ishr hx hb dX5_colour_33 ?_
          refine lv_goto (tgt := 38) hx hb dX5_colour_34 (by decide) ?_
          refine lv_iadd hx hb dX5_colour_38 ?_
          refine lv_istore_n (lv' := [(2, .int (((0 + (jshr 4 0)) + 0) + (jshr 4 2))), (3, .int 2), (0, .ref g.1), (1, .int x1)]) hx hb dX5_colour_39 rfl hl (by decide) rfl (fun ls hl => ?_)
          refine lv_iinc (v := 3) (lv' := [(3, .int 3), (2, .int (((0 + (jshr 4 0)) + 0) + (jshr 4 2))), (0, .ref g.1), (1, .int x1)]) hx hb dX5_colour_40 hl (k := 1) rfl (by decide) (by decide) rfl (fun ls hl => ?_)
          refine lv_goto (tgt := 14) hx hb dX5_colour_43 (by decide) ?_
          refine lv_iload_n hx hb dX5_colour_14 rfl (lv_at hl 0 rfl) ?_
          refine lv_iconst (v := 3) hx hb dX5_colour_15 (by decide) ?_
          refine lv_icmp_ge (tgt := 46) hx hb dX5_colour_16 (by decide) (fun _ => ?_) (fun c => absurd c (by decide))
          refine lv_iload_n hx hb dX5_colour_46 rfl (lv_at hl 1 rfl) ?_
          obtain rfl := Option.some.inj hf
          exact hret trivial _ _ dX5_colour_47 (fun ty h => by cases h; rfl)
      · replace hf := ifF hf c12
        refine lv_iconst (v := 4) hx hb dX5_colour_31 (by decide) ?_
        refine lv_iload_n hx hb dX5_colour_32 rfl (lv_at hl 0 rfl) ?_
        refine xx_ishr hx hb dX5_colour_33 ?_
        refine lv_goto (tgt := 38) hx hb dX5_colour_34 (by decide) ?_
        refine lv_iadd hx hb dX5_colour_38 ?_
        refine lv_istore_n (lv' := [(2, .int ((0 + (jshr 4 0)) + (jshr 4 1))), (3, .int 1), (0, .ref g.1), (1, .int x1)]) hx hb dX5_colour_39 rfl hl (by decide) rfl (fun ls hl => ?_)
        refine lv_iinc (v := 2) (lv' := [(3, .int 2), (2, .int ((0 + (jshr 4 0)) + (jshr 4 1))), (0, .ref g.1), (1, .int x1)]) hx hb dX5_colour_40 hl (k := 1) rfl (by decide) (by decide) rfl (fun ls hl => ?_)
        refine lv_goto (tgt := 14) hx hb dX5_colour_43 (by decide) ?_
        refine lv_iload_n hx hb dX5_colour_14 rfl (lv_at hl 0 rfl) ?_
        refine lv_iconst (v := 3) hx hb dX5_colour_15 (by decide) ?_
        refine lv_icmp_ge (tgt := 46) hx hb dX5_colour_16 (by decide) (fun c => absurd c (by decide)) (fun _ => ?_)
        refine lv_iload_n hx hb dX5_colour_19 rfl (lv_at hl 1 rfl) ?_
        refine lv_iload_n hx hb dX5_colour_20 rfl (lv_at hl 3 rfl) ?_
        refine lv_iload_n hx hb dX5_colour_21 rfl (lv_at hl 0 rfl) ?_
        obtain ⟨v15, hv15, hf⟩ := bnd hf
        refine xcallRS (As := [.int x1, .int 2]) (rest := [.int ((0 + (jshr 4 0)) + (jshr 4 1))]) (wc := []) ⟨hx, hb, hml, hown, hts⟩ (c_X5_brightness k x1 2 v15 hv15) (va_cwS 2 hts gX5_colour_X5_brightness rfl rfl rfl (by decide +kernel) ⟨Nat.le_of_ble_eq_true rfl, Nat.le_of_ble_eq_true rfl⟩) hX (va_P0 _ _ _) rfl hl.1 rfl (Nat.le_of_ble_eq_true rfl) dX5_colour_22 ⟨Nat.zero_le _, Nat.zero_le _⟩ (fun zv15 => ?_)
        refine lv_sipush (v := 500) hx hb dX5_colour_25 (by decide) ?_
        refine lv_icmp_lt (tgt := 37) hx hb dX5_colour_28 (by decide) (fun c16 => ?_) (fun c16 => ?_)
        · replace hf := ifT hf c16
          refine lv_iconst (v := 0) hx hb dX5_colour_37 (by decide) ?_
          refine lv_iadd hx hb dX5_colour_38 ?_
          refine lv_istore_n (lv' := [(2, .int (((0 + (jshr 4 0)) + (jshr 4 1)) + 0)), (3, .int 2), (0, .ref g.1), (1, .int x1)]) hx hb dX5_colour_39 rfl hl (by decide) rfl (fun ls hl => ?_)
          refine lv_iinc (v := 3) (lv' := [(3, .int 3), (2, .int (((0 + (jshr 4 0)) + (jshr 4 1)) + 0)), (0, .ref g.1), (1, .int x1)]) hx hb dX5_colour_40 hl (k := 1) rfl (by decide) (by decide) rfl (fun ls hl => ?_)
          refine lv_goto (tgt := 14) hx hb dX5_colour_43 (by decide) ?_
          refine lv_iload_n hx hb dX5_colour_14 rfl (lv_at hl 0 rfl) ?_
          refine lv_iconst (v := 3) hx hb dX5_colour_15 (by decide) ?_
          refine lv_icmp_ge (tgt := 46) hx hb dX5_colour_16 (by decide) (fun _ => ?_) (fun c => absurd c (by decide))
          refine lv_iload_n hx hb dX5_colour_46 rfl (lv_at hl 1 rfl) ?_
          obtain rfl := Option.some.inj hf
          exact hret trivial _ _ dX5_colour_47 (fun ty h => by cases h; rfl)
        · replace hf := ifF hf c16
          refine lv_iconst (v := 4) hx hb dX5_colour_31 (by decide) ?_
          refine lv_iload_n hx hb dX5_colour_32 rfl (lv_at hl 0 rfl) ?_
          refine xx_ishr hx hb dX5_colour_33 ?_
          refine lv_goto (tgt := 38) hx hb dX5_colour_34 (by decide) ?_
          refine lv_iadd hx hb dX5_colour_38 ?_
          refine lv_istore_n (lv' := [(2, .int (((0 + (jshr 4 0)) + (jshr 4 1)) + (jshr 4 2))), (3, .int 2), (0, .ref g.1), (1, .int x1)]) hx hb dX5_colour_39 rfl hl (by decide) rfl (fun ls hl => ?_)
          refine lv_iinc (v := 3) (lv' := [(3, .int 3), (2, .int (((0 + (jshr 4 0)) + (jshr 4 1)) + (jshr 4 2))), (0, .ref g.1), (1, .int x1)]) hx hb dX5_colour_40 hl (k := 1) rfl (by decide) (by decide) rfl (fun ls hl => ?_)
          refine lv_goto (tgt := 14) hx hb dX5_colour_43 (by decide) ?_
          refine lv_iload_n hx hb dX5_colour_14 rfl (lv_at hl 0 rfl) ?_
          refine lv_iconst (v := 3) hx hb dX5_colour_15 (by decide) ?_
          refine lv_icmp_ge (tgt := 46) hx hb dX5_colour_16 (by decide) (fun _ => ?_) (fun c => absurd c (by decide))
          refine lv_iload_n hx hb dX5_colour_46 rfl (lv_at hl 1 rfl) ?_
          obtain rfl := Option.some.inj hf
          exact hret trivial _ _ dX5_colour_47 (fun ty h => by cases h; rfl)
  · replace hf := ifF hf c2
    refine lv_iconst (v := 0) hx hb dX5_colour_8 (by decide) ?_
    obtain rfl := Option.some.inj hf
    exact hret trivial _ _ dX5_colour_9 (fun ty h => by cases h; rfl)

/-! ===== X5_colourAt ===== -/
def p_X5_colourAt (k : Nat) (M : MD) (x1 : Int32) : Option (Int32) :=
  (ald (MD.st M) 44 (20 + x1)).bind fun v1 => (p_X5_colour k M v1).bind fun v2 => some v2

set_option maxHeartbeats 4000000 in
set_option maxRecDepth 100000 in
theorem c_X5_colourAt {l : Launch} {D : va_G} {ks : K3} (k : Nat) (g : AM) (M : MD) (x1 : Int32) (r : Int32) (hf : p_X5_colourAt k M x1 = some r) : MetR l yX5_colourAt wsX5_colourAt { frames := 3, cells := 0, slots := 0, locals := 66 } D ks [.ref g.1, .int x1] (wM ks g M) r True := by
  refine MetR.of (cc := cX5_colourAt) (maxL := 2) (ret := (some .int)) (by decide +kernel) rfl (Nat.le_of_ble_eq_true rfl) ?_ ⟨_, rfl⟩
  intro p e s m below meth c Q hx hb hml hts hown hP hX hret ls hl
  have hK := hX.1
  replace hl : lv_has ls 2 [(0, .ref g.1), (1, .int x1)] := hl
  have hiX5 : ∀ w ∈ wsX50, w ∈ wsX5_colourAt := by decide +kernel
  have hk7 := hts (.fieldLink RX5 7 "SoapFilmModel" "st" "[I") (by decide +kernel)
  unfold p_X5_colourAt at hf
  refine lv_aload_n hx hb dX5_colourAt_0 rfl (lv_at hl 0 rfl) ?_
  refine lv_aload_n hx hb dX5_colourAt_1 rfl (lv_at hl 0 rfl) ?_
  refine va_get (v := .ref g.2.1) (C := RX5) (T := TX5) (N := 10) hx hb hts hiX5 hown hK hP 0 rfl rfl 0 (by decide) hk7 (fun _ h9 => h9) rfl dX5_colourAt_2 ?_
  refine lv_bipush (v := 20) hx hb dX5_colourAt_5 (by decide) ?_
  refine lv_iload_n hx hb dX5_colourAt_7 rfl (lv_at hl 1 rfl) ?_
  refine lv_iadd hx hb dX5_colourAt_8 ?_
  obtain ⟨v1, hv1, hf⟩ := bnd hf
  refine xa_iald hx hb hK hP hv1 1 0 rfl rfl dX5_colourAt_9 ?_
  obtain ⟨v2, hv2, hf⟩ := bnd hf
  refine xcallRV (As := [.int v1]) (rest := []) (wc := (wM ks g M)) ⟨hx, hb, hml, hown, hts⟩ (c_X5_colour k g M v1 v2 hv2) (cwV 1 hts gX5_colourAt_X5_colour rfl rfl rfl (by decide +kernel) ⟨Nat.le_of_ble_eq_true rfl, Nat.le_of_ble_eq_true rfl⟩) hX hP (ci := 4) (q0 := 0) rfl rfl rfl hl.1 rfl (Nat.le_of_ble_eq_true rfl) dX5_colourAt_10 ⟨Nat.zero_le _, Nat.zero_le _⟩ (fun zv2 => ?_)
  obtain rfl := Option.some.inj hf
  exact hret trivial _ _ dX5_colourAt_13 (fun ty h => by cases h; rfl)

/-! ===== X5_canBe ===== -/
def p_X5_canBe (k : Nat) (x0 : Int32) (x1 : Int32) : Option (Int32) :=
  if x0 = 0 then ((p_X5_in k x1 0 100).bind fun v2 => some v2) else (if x0 = 1 then ((p_X5_in k x1 0 50).bind fun v4 => some v4) else (if x0 = 2 then ((p_X5_in k x1 0 500).bind fun v6 => some v6) else (if x0 = 3 then ((p_X5_in k x1 1 200).bind fun v8 => some v8) else (if x0 = 4 then ((p_X5_in k x1 0 100).bind fun v10 => some v10) else (if x0 = 5 then ((p_X5_in k x1 1 24).bind fun v12 => some v12) else (if x0 = 6 then ((p_X5_in k x1 1 100000).bind fun v14 => if v14 = 0 then (some 0) else (some 1)) else (some 0)))))))

set_option maxHeartbeats 4000000 in
set_option maxRecDepth 100000 in
theorem c_X5_canBe {l : Launch} {D : va_G} {ks : K3} (k : Nat) (x0 : Int32) (x1 : Int32) (r : Int32) (hf : p_X5_canBe k x0 x1 = some r) : MetR l yX5_canBe wsX5_canBe { frames := 1, cells := 0, slots := 0, locals := 22 } D ks [.int x0, .int x1] [] r (narrow .boolean (.int r) = .int r) := by
  refine MetR.of (cc := cX5_canBe) (maxL := 2) (ret := (some .boolean)) (by decide +kernel) rfl (Nat.le_of_ble_eq_true rfl) ?_ ⟨_, rfl⟩
  intro p e s m below meth c Q hx hb hml hts hown hP hX hret ls hl
  have hK := hX.1
  replace hl : lv_has ls 2 [(0, .int x0), (1, .int x1)] := hl
  have hc48 := hts (.constant RX5 48 (100000)) (by decide +kernel)
  unfold p_X5_canBe at hf
  refine lv_iload_n hx hb dX5_canBe_0 rfl (lv_at hl 0 rfl) ?_
  by_cases c1 : x0 = 0
  · replace hf := ifT hf c1
    refine lv_tableIn (tgt := 40) (off := 39) hx hb dX5_canBe_1 (by rw [c1]; decide) (by rw [c1]; decide) (by rw [c1]; rfl) (by decide) ?_
    refine lv_iload_n hx hb dX5_canBe_40 rfl (lv_at hl 1 rfl) ?_
    refine lv_iconst (v := 0) hx hb dX5_canBe_41 (by decide) ?_
    refine lv_bipush (v := 100) hx hb dX5_canBe_42 (by decide) ?_
    obtain ⟨v2, hv2, hf⟩ := bnd hf
    refine xcallRS (As := [.int x1, .int 0, .int 100]) (rest := []) (wc := []) ⟨hx, hb, hml, hown, hts⟩ (c_X5_in k x1 0 100 v2 hv2) (va_cwS 3 hts gX5_canBe_X5_in rfl rfl rfl (by decide +kernel) ⟨Nat.le_of_ble_eq_true rfl, Nat.le_of_ble_eq_true rfl⟩) hX (va_P0 _ _ _) rfl hl.1 rfl (Nat.le_of_ble_eq_true rfl) dX5_canBe_44 ⟨Nat.zero_le _, Nat.zero_le _⟩ (fun zv2 => ?_)
    obtain rfl := Option.some.inj hf
    exact hret zv2 _ _ dX5_canBe_47 (fun ty h => by cases h; exact zv2)
  replace hf := ifF hf c1
  by_cases c3 : x0 = 1
  · replace hf := ifT hf c3
    refine lv_tableIn (tgt := 48) (off := 47) hx hb dX5_canBe_1 (by rw [c3]; decide) (by rw [c3]; decide) (by rw [c3]; rfl) (by decide) ?_
    refine lv_iload_n hx hb dX5_canBe_48 rfl (lv_at hl 1 rfl) ?_
    refine lv_iconst (v := 0) hx hb dX5_canBe_49 (by decide) ?_
    refine lv_bipush (v := 50) hx hb dX5_canBe_50 (by decide) ?_
    obtain ⟨v4, hv4, hf⟩ := bnd hf
    refine xcallRS (As := [.int x1, .int 0, .int 50]) (rest := []) (wc := []) ⟨hx, hb, hml, hown, hts⟩ (c_X5_in k x1 0 50 v4 hv4) (va_cwS 3 hts gX5_canBe_X5_in rfl rfl rfl (by decide +kernel) ⟨Nat.le_of_ble_eq_true rfl, Nat.le_of_ble_eq_true rfl⟩) hX (va_P0 _ _ _) rfl hl.1 rfl (Nat.le_of_ble_eq_true rfl) dX5_canBe_52 ⟨Nat.zero_le _, Nat.zero_le _⟩ (fun zv4 => ?_)
    obtain rfl := Option.some.inj hf
    exact hret zv4 _ _ dX5_canBe_55 (fun ty h => by cases h; exact zv4)
  replace hf := ifF hf c3
  by_cases c5 : x0 = 2
  · replace hf := ifT hf c5
    refine lv_tableIn (tgt := 56) (off := 55) hx hb dX5_canBe_1 (by rw [c5]; decide) (by rw [c5]; decide) (by rw [c5]; rfl) (by decide) ?_
    refine lv_iload_n hx hb dX5_canBe_56 rfl (lv_at hl 1 rfl) ?_
    refine lv_iconst (v := 0) hx hb dX5_canBe_57 (by decide) ?_
    refine lv_sipush (v := 500) hx hb dX5_canBe_58 (by decide) ?_
    obtain ⟨v6, hv6, hf⟩ := bnd hf
    refine xcallRS (As := [.int x1, .int 0, .int 500]) (rest := []) (wc := []) ⟨hx, hb, hml, hown, hts⟩ (c_X5_in k x1 0 500 v6 hv6) (va_cwS 3 hts gX5_canBe_X5_in rfl rfl rfl (by decide +kernel) ⟨Nat.le_of_ble_eq_true rfl, Nat.le_of_ble_eq_true rfl⟩) hX (va_P0 _ _ _) rfl hl.1 rfl (Nat.le_of_ble_eq_true rfl) dX5_canBe_61 ⟨Nat.zero_le _, Nat.zero_le _⟩ (fun zv6 => ?_)
    obtain rfl := Option.some.inj hf
    exact hret zv6 _ _ dX5_canBe_64 (fun ty h => by cases h; exact zv6)
  replace hf := ifF hf c5
  by_cases c7 : x0 = 3
  · replace hf := ifT hf c7
    refine lv_tableIn (tgt := 65) (off := 64) hx hb dX5_canBe_1 (by rw [c7]; decide) (by rw [c7]; decide) (by rw [c7]; rfl) (by decide) ?_
    refine lv_iload_n hx hb dX5_canBe_65 rfl (lv_at hl 1 rfl) ?_
    refine lv_iconst (v := 1) hx hb dX5_canBe_66 (by decide) ?_
    refine lv_sipush (v := 200) hx hb dX5_canBe_67 (by decide) ?_
    obtain ⟨v8, hv8, hf⟩ := bnd hf
    refine xcallRS (As := [.int x1, .int 1, .int 200]) (rest := []) (wc := []) ⟨hx, hb, hml, hown, hts⟩ (c_X5_in k x1 1 200 v8 hv8) (va_cwS 3 hts gX5_canBe_X5_in rfl rfl rfl (by decide +kernel) ⟨Nat.le_of_ble_eq_true rfl, Nat.le_of_ble_eq_true rfl⟩) hX (va_P0 _ _ _) rfl hl.1 rfl (Nat.le_of_ble_eq_true rfl) dX5_canBe_70 ⟨Nat.zero_le _, Nat.zero_le _⟩ (fun zv8 => ?_)
    obtain rfl := Option.some.inj hf
    exact hret zv8 _ _ dX5_canBe_73 (fun ty h => by cases h; exact zv8)
  replace hf := ifF hf c7
  by_cases c9 : x0 = 4
  · replace hf := ifT hf c9
    refine lv_tableIn (tgt := 40) (off := 39) hx hb dX5_canBe_1 (by rw [c9]; decide) (by rw [c9]; decide) (by rw [c9]; rfl) (by decide) ?_
    refine lv_iload_n hx hb dX5_canBe_40 rfl (lv_at hl 1 rfl) ?_
    refine lv_iconst (v := 0) hx hb dX5_canBe_41 (by decide) ?_
    refine lv_bipush (v := 100) hx hb dX5_canBe_42 (by decide) ?_
    obtain ⟨v10, hv10, hf⟩ := bnd hf
    refine xcallRS (As := [.int x1, .int 0, .int 100]) (rest := []) (wc := []) ⟨hx, hb, hml, hown, hts⟩ (c_X5_in k x1 0 100 v10 hv10) (va_cwS 3 hts gX5_canBe_X5_in rfl rfl rfl (by decide +kernel) ⟨Nat.le_of_ble_eq_true rfl, Nat.le_of_ble_eq_true rfl⟩) hX (va_P0 _ _ _) rfl hl.1 rfl (Nat.le_of_ble_eq_true rfl) dX5_canBe_44 ⟨Nat.zero_le _, Nat.zero_le _⟩ (fun zv10 => ?_)
    obtain rfl := Option.some.inj hf
    exact hret zv10 _ _ dX5_canBe_47 (fun ty h => by cases h; exact zv10)
  replace hf := ifF hf c9
  by_cases c11 : x0 = 5
  · replace hf := ifT hf c11
    refine lv_tableIn (tgt := 74) (off := 73) hx hb dX5_canBe_1 (by rw [c11]; decide) (by rw [c11]; decide) (by rw [c11]; rfl) (by decide) ?_
    refine lv_iload_n hx hb dX5_canBe_74 rfl (lv_at hl 1 rfl) ?_
    refine lv_iconst (v := 1) hx hb dX5_canBe_75 (by decide) ?_
    refine lv_bipush (v := 24) hx hb dX5_canBe_76 (by decide) ?_
    obtain ⟨v12, hv12, hf⟩ := bnd hf
    refine xcallRS (As := [.int x1, .int 1, .int 24]) (rest := []) (wc := []) ⟨hx, hb, hml, hown, hts⟩ (c_X5_in k x1 1 24 v12 hv12) (va_cwS 3 hts gX5_canBe_X5_in rfl rfl rfl (by decide +kernel) ⟨Nat.le_of_ble_eq_true rfl, Nat.le_of_ble_eq_true rfl⟩) hX (va_P0 _ _ _) rfl hl.1 rfl (Nat.le_of_ble_eq_true rfl) dX5_canBe_78 ⟨Nat.zero_le _, Nat.zero_le _⟩ (fun zv12 => ?_)
    obtain rfl := Option.some.inj hf
    exact hret zv12 _ _ dX5_canBe_81 (fun ty h => by cases h; exact zv12)
  replace hf := ifF hf c11
  refine lv_tableOut (tgt := 82) hx hb dX5_canBe_1 (by have := lv_neT (a := 0) c1 (by decide); have := lv_neT (a := 1) c3 (by decide); have := lv_neT (a := 2) c5 (by decide); have := lv_neT (a := 3) c7 (by decide); have := lv_neT (a := 4) c9 (by decide); have := lv_neT (a := 5) c11 (by decide); omega) (by decide) ?_
  refine lv_iload_n hx hb dX5_canBe_82 rfl (lv_at hl 0 rfl) ?_
  refine lv_bipush (v := 6) hx hb dX5_canBe_83 (by decide) ?_
  refine lv_icmp_ne (tgt := 102) hx hb dX5_canBe_85 (by decide) (fun c13 => ?_) (fun c13 => ?_)
  · replace hf := ifF hf c13
    refine lv_iconst (v := 0) hx hb dX5_canBe_102 (by decide) ?_
    obtain rfl := Option.some.inj hf
    exact hret rfl _ _ dX5_canBe_103 (fun ty h => by cases h; rfl)
  · replace hf := ifT hf c13
    refine lv_iload_n hx hb dX5_canBe_88 rfl (lv_at hl 1 rfl) ?_
    refine lv_iconst (v := 1) hx hb dX5_canBe_89 (by decide) ?_
    refine lv_ldc (v := 100000) hx hb hown hc48 dX5_canBe_90 ?_
    obtain ⟨v14, hv14, hf⟩ := bnd hf
    refine xcallRS (As := [.int x1, .int 1, .int 100000]) (rest := []) (wc := []) ⟨hx, hb, hml, hown, hts⟩ (c_X5_in k x1 1 100000 v14 hv14) (va_cwS 3 hts gX5_canBe_X5_in rfl rfl rfl (by decide +kernel) ⟨Nat.le_of_ble_eq_true rfl, Nat.le_of_ble_eq_true rfl⟩) hX (va_P0 _ _ _) rfl hl.1 rfl (Nat.le_of_ble_eq_true rfl) dX5_canBe_92 ⟨Nat.zero_le _, Nat.zero_le _⟩ (fun zv14 => ?_)
    refine lv_if_eq (tgt := 102) hx hb dX5_canBe_95 (by decide) (fun c15 => ?_) (fun c15 => ?_)
    · replace hf := ifT hf c15
      refine lv_iconst (v := 0) hx hb dX5_canBe_102 (by decide) ?_
      obtain rfl := Option.some.inj hf
      exact hret rfl _ _ dX5_canBe_103 (fun ty h => by cases h; rfl)
    · replace hf := ifF hf c15
      refine lv_iconst (v := 1) hx hb dX5_canBe_98 (by decide) ?_
      refine lv_goto (tgt := 103) hx hb dX5_canBe_99 (by decide) ?_
      obtain rfl := Option.some.inj hf
      exact hret rfl _ _ dX5_canBe_103 (fun ty h => by cases h; rfl)

/-! ===== X5_records ===== -/
def p_X5_records_L50 (k : Nat) : Nat → (MD) → (Int32) → Option (MD)
  | 0, _, _ => none
  | n + 1, M, x1 =>
    if 44 ≤ x1 then (some (mkMD (MD.st M) (MD.past M) (MD.aside M) (MD.text M) ((MD.pasts M) + 1) (MD.length M) (MD.spot M) (MD.itsThickness M) (MD.itsRows M) (MD.from_ M))) else ((ald (MD.st M) 44 x1).bind fun v2 => (ast (MD.past M) 220 ((44 * (MD.pasts M)) + x1) v2).bind fun f3 => p_X5_records_L50 k n (mkMD (MD.st M) f3 (MD.aside M) (MD.text M) (MD.pasts M) (MD.length M) (MD.spot M) (MD.itsThickness M) (MD.itsRows M) (MD.from_ M)) (x1 + 1))

def p_X5_records_L10 (k : Nat) : Nat → (MD) → (Int32) → Option (MD)
  | 0, _, _ => none
  | n + 1, M, x1 =>
    if 176 ≤ x1 then (p_X5_records_L50 k k (mkMD (MD.st M) (MD.past M) (MD.aside M) (MD.text M) ((MD.pasts M) - 1) (MD.length M) (MD.spot M) (MD.itsThickness M) (MD.itsRows M) (MD.from_ M)) 0) else ((ald (MD.past M) 220 (x1 + 44)).bind fun v5 => (ast (MD.past M) 220 x1 v5).bind fun f6 => p_X5_records_L10 k n (mkMD (MD.st M) f6 (MD.aside M) (MD.text M) (MD.pasts M) (MD.length M) (MD.spot M) (MD.itsThickness M) (MD.itsRows M) (MD.from_ M)) (x1 + 1))

def p_X5_records (k : Nat) (M : MD) : Option (MD) :=
  if (MD.pasts M) = 5 then (p_X5_records_L10 k k M 0) else (p_X5_records_L50 k k M 0)

set_option maxHeartbeats 4000000 in
set_option maxRecDepth 100000 in
theorem c_X5_records {l : Launch} {D : va_G} {ks : K3} (k : Nat) (g : AM) (M : MD) (rM : MD) (hf : p_X5_records k M = some rM) : MetV l yX5_records wsX5_records { frames := 0, cells := 0, slots := 0, locals := 0 } D ks [.ref g.1] (wM ks g M) (wM ks g rM) := by
  refine MetV.of (cc := cX5_records) (maxL := 2) (by decide +kernel) rfl (Nat.le_of_ble_eq_true rfl) ?_
  intro p e s m below meth c Q A hx hb hml hts hown hP hX hD hA hret ls hl
  have hK := hX.1
  replace hl : lv_has ls 2 [(0, .ref g.1)] := hl
  have hS : va_S A s.heap s.heap [] := va_S.rf
  have hiX5 : ∀ w ∈ wsX50, w ∈ wsX5_records := by decide +kernel
  have hk22 := hts (.fieldLink RX5 22 "SoapFilmModel" "pasts" "I") (by decide +kernel)
  have hk13 := hts (.fieldLink RX5 13 "SoapFilmModel" "past" "[I") (by decide +kernel)
  have hk7 := hts (.fieldLink RX5 7 "SoapFilmModel" "st" "[I") (by decide +kernel)
  unfold p_X5_records at hf
  refine lv_aload_n hx hb dX5_records_0 rfl (lv_at hl 0 rfl) ?_
  refine va_get (v := .int (MD.pasts M)) (C := RX5) (T := TX5) (N := 10) hx hb hts hiX5 hown hK hP 0 rfl rfl 3 (by decide) hk22 (fun _ h9 => h9) rfl dX5_records_1 ?_
  refine lv_iconst (v := 5) hx hb dX5_records_4 (by decide) ?_
  refine lv_icmp_ne (tgt := 48) hx hb dX5_records_5 (by decide) (fun c1 => ?_) (fun c1 => ?_)
  · replace hf := ifF hf c1
    refine lv_iconst (v := 0) hx hb dX5_records_48 (by decide) ?_
    refine lv_istore_n (lv' := [(1, .int 0), (0, .ref g.1)]) hx hb dX5_records_49 rfl hl (by decide) rfl (fun ls hl => ?_)
    have L50 : ∀ (n : Nat) (Mq50 : MD) (x1q50 : Int32) (H : Heap) (locs : List Loc) (ls : Array Slot), p_X5_records_L50 k n Mq50 x1q50 = some rM → va_P D vwCl (wM ks g Mq50) H → va_D A (wM ks g Mq50) → va_S A s.heap H locs → lv_has ls 2 [(0, .ref g.1), (1, .int x1q50)] → W p l e { frames := 0, cells := 0, slots := 0, locals := 0 } s m ([.ref g.1] : List Value).toArray below meth c H locs 0 0 Q (F0 m 50 ls []) := by
      intro n
      induction n with
      | zero => intro Mq50 x1q50 H locs ls hf; cases hf
      | succ n ih50 =>
        intro Mq50 x1q50 H locs ls hf hP hD hS hl
        rw [p_X5_records_L50] at hf
        refine lv_iload_n hx hb dX5_records_50 rfl (lv_at hl 1 rfl) ?_
        refine lv_bipush (v := 44) hx hb dX5_records_51 (by decide) ?_
        refine lv_icmp_ge (tgt := 82) hx hb dX5_records_53 (by decide) (fun c2 => ?_) (fun c2 => ?_)
        · replace hf := ifT hf c2
          refine lv_aload_n hx hb dX5_records_82 rfl (lv_at hl 0 rfl) ?_
          refine lv_dup hx hb dX5_records_83 rfl ?_
          refine va_get (v := .int (MD.pasts Mq50)) (C := RX5) (T := TX5) (N := 10) hx hb hts hiX5 hown hK hP 0 rfl rfl 3 (by decide) hk22 (fun _ h9 => h9) rfl dX5_records_84 ?_
          refine lv_iconst (v := 1) hx hb dX5_records_87 (by decide) ?_
          refine lv_iadd hx hb dX5_records_88 ?_
          refine xputI (wn := (wM ks g (mkMD (MD.st Mq50) (MD.past Mq50) (MD.aside Mq50) (MD.text Mq50) ((MD.pasts Mq50) + 1) (MD.length Mq50) (MD.spot Mq50) (MD.itsThickness Mq50) (MD.itsRows Mq50) (MD.from_ Mq50)))) (C := RX5) (T := TX5) (N := 10) hx hb hts hiX5 tyX5 tyX5_ok nmX5 hown hK hP hD hS 0 rfl rfl 3 (by decide) hk22 (fun _ h9 => h9) rfl (by decide +kernel) (Nat.le_of_ble_eq_true rfl) dX5_records_89 rfl (fun H locs hP hD hS => ?_)
          obtain rfl := Option.some.inj hf
          exact hret _ _ _ _ dX5_records_92 hP hD hS
        · replace hf := ifF hf c2
          refine lv_aload_n hx hb dX5_records_56 rfl (lv_at hl 0 rfl) ?_
          refine va_get (v := .ref g.2.2.1) (C := RX5) (T := TX5) (N := 10) hx hb hts hiX5 hown hK hP 0 rfl rfl 1 (by decide) hk13 (fun _ h9 => h9) rfl dX5_records_57 ?_
          refine lv_bipush (v := 44) hx hb dX5_records_60 (by decide) ?_
          refine lv_aload_n hx hb dX5_records_62 rfl (lv_at hl 0 rfl) ?_
          refine va_get (v := .int (MD.pasts Mq50)) (C := RX5) (T := TX5) (N := 10) hx hb hts hiX5 hown hK hP 0 rfl rfl 3 (by decide) hk22 (fun _ h9 => h9) rfl dX5_records_63 ?_
          refine lv_imul hx hb dX5_records_66 ?_
          refine lv_iload_n hx hb dX5_records_67 rfl (lv_at hl 1 rfl) ?_
          refine lv_iadd hx hb dX5_records_68 ?_
          refine lv_aload_n hx hb dX5_records_69 rfl (lv_at hl 0 rfl) ?_
          refine va_get (v := .ref g.2.1) (C := RX5) (T := TX5) (N := 10) hx hb hts hiX5 hown hK hP 0 rfl rfl 0 (by decide) hk7 (fun _ h9 => h9) rfl dX5_records_70 ?_
          refine lv_iload_n hx hb dX5_records_73 rfl (lv_at hl 1 rfl) ?_
          obtain ⟨v3, hv3, hf⟩ := bnd hf
          refine xa_iald hx hb hK hP hv3 1 0 rfl rfl dX5_records_74 ?_
          obtain ⟨f4, hf4, hf⟩ := bnd hf
          refine xa_iast (wn := (wM ks g (mkMD (MD.st Mq50) f4 (MD.aside Mq50) (MD.text Mq50) (MD.pasts Mq50) (MD.length Mq50) (MD.spot Mq50) (MD.itsThickness Mq50) (MD.itsRows Mq50) (MD.from_ Mq50)))) hx hb hK hP hD hS hf4 2 0 rfl rfl dX5_records_75 rfl (fun H locs hP hD hS => ?_)
          refine lv_iinc (v := (x1q50 + 1)) (lv' := [(1, .int (x1q50 + 1)), (0, .ref g.1)]) hx hb dX5_records_76 hl (k := 1) rfl rfl (by decide) rfl (fun ls hl => ?_)
          refine lv_goto (tgt := 50) hx hb dX5_records_79 (by decide) ?_
          exact ih50 _ _  _ _ _ hf hP hD hS (lv_sub hl [1, 0] rfl)
    exact L50 k _ _ _ _ _ hf hP hD hS (lv_sub hl [1, 0] rfl)
  · replace hf := ifT hf c1
    refine lv_iconst (v := 0) hx hb dX5_records_8 (by decide) ?_
    refine lv_istore_n (lv' := [(1, .int 0), (0, .ref g.1)]) hx hb dX5_records_9 rfl hl (by decide) rfl (fun ls hl => ?_)
    have L10 : ∀ (n : Nat) (Mq10 : MD) (x1q10 : Int32) (H : Heap) (locs : List Loc) (ls : Array Slot), p_X5_records_L10 k n Mq10 x1q10 = some rM → va_P D vwCl (wM ks g Mq10) H → va_D A (wM ks g Mq10) → va_S A s.heap H locs → lv_has ls 2 [(0, .ref g.1), (1, .int x1q10)] → W p l e { frames := 0, cells := 0, slots := 0, locals := 0 } s m ([.ref g.1] : List Value).toArray below meth c H locs 0 0 Q (F0 m 10 ls []) := by
      intro n
      induction n with
      | zero => intro Mq10 x1q10 H locs ls hf; cases hf
      | succ n ih10 =>
        intro Mq10 x1q10 H locs ls hf hP hD hS hl
        rw [p_X5_records_L10] at hf
        refine lv_iload_n hx hb dX5_records_10 rfl (lv_at hl 1 rfl) ?_
        refine lv_sipush (v := 176) hx hb dX5_records_11 (by decide) ?_
        refine lv_icmp_ge (tgt := 38) hx hb dX5_records_14 (by decide) (fun c5 => ?_) (fun c5 => ?_)
        · replace hf := ifT hf c5
          refine lv_aload_n hx hb dX5_records_38 rfl (lv_at hl 0 rfl) ?_
          refine lv_dup hx hb dX5_records_39 rfl ?_
          refine va_get (v := .int (MD.pasts Mq10)) (C := RX5) (T := TX5) (N := 10) hx hb hts hiX5 hown hK hP 0 rfl rfl 3 (by decide) hk22 (fun _ h9 => h9) rfl dX5_records_40 ?_
          refine lv_iconst (v := 1) hx hb dX5_records_43 (by decide) ?_
          refine lv_isub hx hb dX5_records_44 ?_
          refine xputI (wn := (wM ks g (mkMD (MD.st Mq10) (MD.past Mq10) (MD.aside Mq10) (MD.text Mq10) ((MD.pasts Mq10) - 1) (MD.length Mq10) (MD.spot Mq10) (MD.itsThickness Mq10) (MD.itsRows Mq10) (MD.from_ Mq10)))) (C := RX5) (T := TX5) (N := 10) hx hb hts hiX5 tyX5 tyX5_ok nmX5 hown hK hP hD hS 0 rfl rfl 3 (by decide) hk22 (fun _ h9 => h9) rfl (by decide +kernel) (Nat.le_of_ble_eq_true rfl) dX5_records_45 rfl (fun H locs hP hD hS => ?_)
          refine lv_iconst (v := 0) hx hb dX5_records_48 (by decide) ?_
          refine lv_istore_n (lv' := [(1, .int 0), (0, .ref g.1)]) hx hb dX5_records_49 rfl hl (by decide) rfl (fun ls hl => ?_)
          have L50 : ∀ (n : Nat) (Mq50 : MD) (x1q50 : Int32) (H : Heap) (locs : List Loc) (ls : Array Slot), p_X5_records_L50 k n Mq50 x1q50 = some rM → va_P D vwCl (wM ks g Mq50) H → va_D A (wM ks g Mq50) → va_S A s.heap H locs → lv_has ls 2 [(0, .ref g.1), (1, .int x1q50)] → W p l e { frames := 0, cells := 0, slots := 0, locals := 0 } s m ([.ref g.1] : List Value).toArray below meth c H locs 0 0 Q (F0 m 50 ls []) := by
            intro n
            induction n with
            | zero => intro Mq50 x1q50 H locs ls hf; cases hf
            | succ n ih50 =>
              intro Mq50 x1q50 H locs ls hf hP hD hS hl
              rw [p_X5_records_L50] at hf
              refine lv_iload_n hx hb dX5_records_50 rfl (lv_at hl 1 rfl) ?_
              refine lv_bipush (v := 44) hx hb dX5_records_51 (by decide) ?_
              refine lv_icmp_ge (tgt := 82) hx hb dX5_records_53 (by decide) (fun c6 => ?_) (fun c6 => ?_)
              · replace hf := ifT hf c6
                refine lv_aload_n hx hb dX5_records_82 rfl (lv_at hl 0 rfl) ?_
                refine lv_dup hx hb dX5_records_83 rfl ?_
                refine va_get (v := .int (MD.pasts Mq50)) (C := RX5) (T := TX5) (N := 10) hx hb hts hiX5 hown hK hP 0 rfl rfl 3 (by decide) hk22 (fun _ h9 => h9) rfl dX5_records_84 ?_
                refine lv_iconst (v := 1) hx hb dX5_records_87 (by decide) ?_
                refine lv_iadd hx hb dX5_records_88 ?_
                refine xputI (wn := (wM ks g (mkMD (MD.st Mq50) (MD.past Mq50) (MD.aside Mq50) (MD.text Mq50) ((MD.pasts Mq50) + 1) (MD.length Mq50) (MD.spot Mq50) (MD.itsThickness Mq50) (MD.itsRows Mq50) (MD.from_ Mq50)))) (C := RX5) (T := TX5) (N := 10) hx hb hts hiX5 tyX5 tyX5_ok nmX5 hown hK hP hD hS 0 rfl rfl 3 (by decide) hk22 (fun _ h9 => h9) rfl (by decide +kernel) (Nat.le_of_ble_eq_true rfl) dX5_records_89 rfl (fun H locs hP hD hS => ?_)
                obtain rfl := Option.some.inj hf
                exact hret _ _ _ _ dX5_records_92 hP hD hS
              · replace hf := ifF hf c6
                refine lv_aload_n hx hb dX5_records_56 rfl (lv_at hl 0 rfl) ?_
                refine va_get (v := .ref g.2.2.1) (C := RX5) (T := TX5) (N := 10) hx hb hts hiX5 hown hK hP 0 rfl rfl 1 (by decide) hk13 (fun _ h9 => h9) rfl dX5_records_57 ?_
                refine lv_bipush (v := 44) hx hb dX5_records_60 (by decide) ?_
                refine lv_aload_n hx hb dX5_records_62 rfl (lv_at hl 0 rfl) ?_
                refine va_get (v := .int (MD.pasts Mq50)) (C := RX5) (T := TX5) (N := 10) hx hb hts hiX5 hown hK hP 0 rfl rfl 3 (by decide) hk22 (fun _ h9 => h9) rfl dX5_records_63 ?_
                refine lv_imul hx hb dX5_records_66 ?_
                refine lv_iload_n hx hb dX5_records_67 rfl (lv_at hl 1 rfl) ?_
                refine lv_iadd hx hb dX5_records_68 ?_
                refine lv_aload_n hx hb dX5_records_69 rfl (lv_at hl 0 rfl) ?_
                refine va_get (v := .ref g.2.1) (C := RX5) (T := TX5) (N := 10) hx hb hts hiX5 hown hK hP 0 rfl rfl 0 (by decide) hk7 (fun _ h9 => h9) rfl dX5_records_70 ?_
                refine lv_iload_n hx hb dX5_records_73 rfl (lv_at hl 1 rfl) ?_
                obtain ⟨v7, hv7, hf⟩ := bnd hf
                refine xa_iald hx hb hK hP hv7 1 0 rfl rfl dX5_records_74 ?_
                obtain ⟨f8, hf8, hf⟩ := bnd hf
                refine xa_iast (wn := (wM ks g (mkMD (MD.st Mq50) f8 (MD.aside Mq50) (MD.text Mq50) (MD.pasts Mq50) (MD.length Mq50) (MD.spot Mq50) (MD.itsThickness Mq50) (MD.itsRows Mq50) (MD.from_ Mq50)))) hx hb hK hP hD hS hf8 2 0 rfl rfl dX5_records_75 rfl (fun H locs hP hD hS => ?_)
                refine lv_iinc (v := (x1q50 + 1)) (lv' := [(1, .int (x1q50 + 1)), (0, .ref g.1)]) hx hb dX5_records_76 hl (k := 1) rfl rfl (by decide) rfl (fun ls hl => ?_)
                refine lv_goto (tgt := 50) hx hb dX5_records_79 (by decide) ?_
                exact ih50 _ _  _ _ _ hf hP hD hS (lv_sub hl [1, 0] rfl)
          exact L50 k _ _ _ _ _ hf hP hD hS (lv_sub hl [1, 0] rfl)
        · replace hf := ifF hf c5
          refine lv_aload_n hx hb dX5_records_17 rfl (lv_at hl 0 rfl) ?_
          refine va_get (v := .ref g.2.2.1) (C := RX5) (T := TX5) (N := 10) hx hb hts hiX5 hown hK hP 0 rfl rfl 1 (by decide) hk13 (fun _ h9 => h9) rfl dX5_records_18 ?_
          refine lv_iload_n hx hb dX5_records_21 rfl (lv_at hl 1 rfl) ?_
          refine lv_aload_n hx hb dX5_records_22 rfl (lv_at hl 0 rfl) ?_
          refine va_get (v := .ref g.2.2.1) (C := RX5) (T := TX5) (N := 10) hx hb hts hiX5 hown hK hP 0 rfl rfl 1 (by decide) hk13 (fun _ h9 => h9) rfl dX5_records_23 ?_
          refine lv_iload_n hx hb dX5_records_26 rfl (lv_at hl 1 rfl) ?_
          refine lv_bipush (v := 44) hx hb dX5_records_27 (by decide) ?_
          refine lv_iadd hx hb dX5_records_29 ?_
          obtain ⟨v9, hv9, hf⟩ := bnd hf
          refine xa_iald hx hb hK hP hv9 2 0 rfl rfl dX5_records_30 ?_
          obtain ⟨f10, hf10, hf⟩ := bnd hf
          refine xa_iast (wn := (wM ks g (mkMD (MD.st Mq10) f10 (MD.aside Mq10) (MD.text Mq10) (MD.pasts Mq10) (MD.length Mq10) (MD.spot Mq10) (MD.itsThickness Mq10) (MD.itsRows Mq10) (MD.from_ Mq10)))) hx hb hK hP hD hS hf10 2 0 rfl rfl dX5_records_31 rfl (fun H locs hP hD hS => ?_)
          refine lv_iinc (v := (x1q10 + 1)) (lv' := [(1, .int (x1q10 + 1)), (0, .ref g.1)]) hx hb dX5_records_32 hl (k := 1) rfl rfl (by decide) rfl (fun ls hl => ?_)
          refine lv_goto (tgt := 10) hx hb dX5_records_35 (by decide) ?_
          exact ih10 _ _  _ _ _ hf hP hD hS (lv_sub hl [1, 0] rfl)
    exact L10 k _ _ _ _ _ hf hP hD hS (lv_sub hl [1, 0] rfl)

/-! ===== X5_laysAside ===== -/
def p_X5_laysAside_L2 (k : Nat) : Nat → (MD) → (Int32) → Option (MD)
  | 0, _, _ => none
  | n + 1, M, x1 =>
    if 44 ≤ x1 then (some M) else ((ald (MD.st M) 44 x1).bind fun v2 => (ast (MD.aside M) 44 x1 v2).bind fun f3 => p_X5_laysAside_L2 k n (mkMD (MD.st M) (MD.past M) f3 (MD.text M) (MD.pasts M) (MD.length M) (MD.spot M) (MD.itsThickness M) (MD.itsRows M) (MD.from_ M)) (x1 + 1))

def p_X5_laysAside (k : Nat) (M : MD) : Option (MD) :=
  p_X5_laysAside_L2 k k M 0

set_option maxHeartbeats 4000000 in
set_option maxRecDepth 100000 in
theorem c_X5_laysAside {l : Launch} {D : va_G} {ks : K3} (k : Nat) (g : AM) (M : MD) (rM : MD) (hf : p_X5_laysAside k M = some rM) : MetV l yX5_laysAside wsX5_laysAside { frames := 0, cells := 0, slots := 0, locals := 0 } D ks [.ref g.1] (wM ks g M) (wM ks g rM) := by
  refine MetV.of (cc := cX5_laysAside) (maxL := 2) (by decide +kernel) rfl (Nat.le_of_ble_eq_true rfl) ?_
  intro p e s m below meth c Q A hx hb hml hts hown hP hX hD hA hret ls hl
  have hK := hX.1
  replace hl : lv_has ls 2 [(0, .ref g.1)] := hl
  have hS : va_S A s.heap s.heap [] := va_S.rf
  have hiX5 : ∀ w ∈ wsX50, w ∈ wsX5_laysAside := by decide +kernel
  have hk16 := hts (.fieldLink RX5 16 "SoapFilmModel" "aside" "[I") (by decide +kernel)
  have hk7 := hts (.fieldLink RX5 7 "SoapFilmModel" "st" "[I") (by decide +kernel)
  unfold p_X5_laysAside at hf
  refine lv_iconst (v := 0) hx hb dX5_laysAside_0 (by decide) ?_
  refine lv_istore_n (lv' := [(1, .int 0), (0, .ref g.1)]) hx hb dX5_laysAside_1 rfl hl (by decide) rfl (fun ls hl => ?_)
  have L2 : ∀ (n : Nat) (Mq2 : MD) (x1q2 : Int32) (H : Heap) (locs : List Loc) (ls : Array Slot), p_X5_laysAside_L2 k n Mq2 x1q2 = some rM → va_P D vwCl (wM ks g Mq2) H → va_D A (wM ks g Mq2) → va_S A s.heap H locs → lv_has ls 2 [(0, .ref g.1), (1, .int x1q2)] → W p l e { frames := 0, cells := 0, slots := 0, locals := 0 } s m ([.ref g.1] : List Value).toArray below meth c H locs 0 0 Q (F0 m 2 ls []) := by
    intro n
    induction n with
    | zero => intro Mq2 x1q2 H locs ls hf; cases hf
    | succ n ih2 =>
      intro Mq2 x1q2 H locs ls hf hP hD hS hl
      rw [p_X5_laysAside_L2] at hf
      refine lv_iload_n hx hb dX5_laysAside_2 rfl (lv_at hl 1 rfl) ?_
      refine lv_bipush (v := 44) hx hb dX5_laysAside_3 (by decide) ?_
      refine lv_icmp_ge (tgt := 26) hx hb dX5_laysAside_5 (by decide) (fun c1 => ?_) (fun c1 => ?_)
      · replace hf := ifT hf c1
        obtain rfl := Option.some.inj hf
        exact hret _ _ _ _ dX5_laysAside_26 hP hD hS
      · replace hf := ifF hf c1
        refine lv_aload_n hx hb dX5_laysAside_8 rfl (lv_at hl 0 rfl) ?_
        refine va_get (v := .ref g.2.2.2.1) (C := RX5) (T := TX5) (N := 10) hx hb hts hiX5 hown hK hP 0 rfl rfl 2 (by decide) hk16 (fun _ h9 => h9) rfl dX5_laysAside_9 ?_
        refine lv_iload_n hx hb dX5_laysAside_12 rfl (lv_at hl 1 rfl) ?_
        refine lv_aload_n hx hb dX5_laysAside_13 rfl (lv_at hl 0 rfl) ?_
        refine va_get (v := .ref g.2.1) (C := RX5) (T := TX5) (N := 10) hx hb hts hiX5 hown hK hP 0 rfl rfl 0 (by decide) hk7 (fun _ h9 => h9) rfl dX5_laysAside_14 ?_
        refine lv_iload_n hx hb dX5_laysAside_17 rfl (lv_at hl 1 rfl) ?_
        obtain ⟨v2, hv2, hf⟩ := bnd hf
        refine xa_iald hx hb hK hP hv2 1 0 rfl rfl dX5_laysAside_18 ?_
        obtain ⟨f3, hf3, hf⟩ := bnd hf
        refine xa_iast (wn := (wM ks g (mkMD (MD.st Mq2) (MD.past Mq2) f3 (MD.text Mq2) (MD.pasts Mq2) (MD.length Mq2) (MD.spot Mq2) (MD.itsThickness Mq2) (MD.itsRows Mq2) (MD.from_ Mq2)))) hx hb hK hP hD hS hf3 3 0 rfl rfl dX5_laysAside_19 rfl (fun H locs hP hD hS => ?_)
        refine lv_iinc (v := (x1q2 + 1)) (lv' := [(1, .int (x1q2 + 1)), (0, .ref g.1)]) hx hb dX5_laysAside_20 hl (k := 1) rfl rfl (by decide) rfl (fun ls hl => ?_)
        refine lv_goto (tgt := 2) hx hb dX5_laysAside_23 (by decide) ?_
        exact ih2 _ _  _ _ _ hf hP hD hS (lv_sub hl [1, 0] rfl)
  exact L2 k _ _ _ _ _ hf hP hD hS (lv_sub hl [1, 0] rfl)

/-! ===== X5_bringsBack ===== -/
def p_X5_bringsBack_L2 (k : Nat) : Nat → (MD) → (Int32) → Option (MD)
  | 0, _, _ => none
  | n + 1, M, x1 =>
    if 44 ≤ x1 then (some M) else ((ald (MD.aside M) 44 x1).bind fun v2 => (ast (MD.st M) 44 x1 v2).bind fun f3 => p_X5_bringsBack_L2 k n (mkMD f3 (MD.past M) (MD.aside M) (MD.text M) (MD.pasts M) (MD.length M) (MD.spot M) (MD.itsThickness M) (MD.itsRows M) (MD.from_ M)) (x1 + 1))

def p_X5_bringsBack (k : Nat) (M : MD) : Option (MD) :=
  p_X5_bringsBack_L2 k k M 0

set_option maxHeartbeats 4000000 in
set_option maxRecDepth 100000 in
theorem c_X5_bringsBack {l : Launch} {D : va_G} {ks : K3} (k : Nat) (g : AM) (M : MD) (rM : MD) (hf : p_X5_bringsBack k M = some rM) : MetV l yX5_bringsBack wsX5_bringsBack { frames := 0, cells := 0, slots := 0, locals := 0 } D ks [.ref g.1] (wM ks g M) (wM ks g rM) := by
  refine MetV.of (cc := cX5_bringsBack) (maxL := 2) (by decide +kernel) rfl (Nat.le_of_ble_eq_true rfl) ?_
  intro p e s m below meth c Q A hx hb hml hts hown hP hX hD hA hret ls hl
  have hK := hX.1
  replace hl : lv_has ls 2 [(0, .ref g.1)] := hl
  have hS : va_S A s.heap s.heap [] := va_S.rf
  have hiX5 : ∀ w ∈ wsX50, w ∈ wsX5_bringsBack := by decide +kernel
  have hk7 := hts (.fieldLink RX5 7 "SoapFilmModel" "st" "[I") (by decide +kernel)
  have hk16 := hts (.fieldLink RX5 16 "SoapFilmModel" "aside" "[I") (by decide +kernel)
  unfold p_X5_bringsBack at hf
  refine lv_iconst (v := 0) hx hb dX5_bringsBack_0 (by decide) ?_
  refine lv_istore_n (lv' := [(1, .int 0), (0, .ref g.1)]) hx hb dX5_bringsBack_1 rfl hl (by decide) rfl (fun ls hl => ?_)
  have L2 : ∀ (n : Nat) (Mq2 : MD) (x1q2 : Int32) (H : Heap) (locs : List Loc) (ls : Array Slot), p_X5_bringsBack_L2 k n Mq2 x1q2 = some rM → va_P D vwCl (wM ks g Mq2) H → va_D A (wM ks g Mq2) → va_S A s.heap H locs → lv_has ls 2 [(0, .ref g.1), (1, .int x1q2)] → W p l e { frames := 0, cells := 0, slots := 0, locals := 0 } s m ([.ref g.1] : List Value).toArray below meth c H locs 0 0 Q (F0 m 2 ls []) := by
    intro n
    induction n with
    | zero => intro Mq2 x1q2 H locs ls hf; cases hf
    | succ n ih2 =>
      intro Mq2 x1q2 H locs ls hf hP hD hS hl
      rw [p_X5_bringsBack_L2] at hf
      refine lv_iload_n hx hb dX5_bringsBack_2 rfl (lv_at hl 1 rfl) ?_
      refine lv_bipush (v := 44) hx hb dX5_bringsBack_3 (by decide) ?_
      refine lv_icmp_ge (tgt := 26) hx hb dX5_bringsBack_5 (by decide) (fun c1 => ?_) (fun c1 => ?_)
      · replace hf := ifT hf c1
        obtain rfl := Option.some.inj hf
        exact hret _ _ _ _ dX5_bringsBack_26 hP hD hS
      · replace hf := ifF hf c1
        refine lv_aload_n hx hb dX5_bringsBack_8 rfl (lv_at hl 0 rfl) ?_
        refine va_get (v := .ref g.2.1) (C := RX5) (T := TX5) (N := 10) hx hb hts hiX5 hown hK hP 0 rfl rfl 0 (by decide) hk7 (fun _ h9 => h9) rfl dX5_bringsBack_9 ?_
        refine lv_iload_n hx hb dX5_bringsBack_12 rfl (lv_at hl 1 rfl) ?_
        refine lv_aload_n hx hb dX5_bringsBack_13 rfl (lv_at hl 0 rfl) ?_
        refine va_get (v := .ref g.2.2.2.1) (C := RX5) (T := TX5) (N := 10) hx hb hts hiX5 hown hK hP 0 rfl rfl 2 (by decide) hk16 (fun _ h9 => h9) rfl dX5_bringsBack_14 ?_
        refine lv_iload_n hx hb dX5_bringsBack_17 rfl (lv_at hl 1 rfl) ?_
        obtain ⟨v2, hv2, hf⟩ := bnd hf
        refine xa_iald hx hb hK hP hv2 3 0 rfl rfl dX5_bringsBack_18 ?_
        obtain ⟨f3, hf3, hf⟩ := bnd hf
        refine xa_iast (wn := (wM ks g (mkMD f3 (MD.past Mq2) (MD.aside Mq2) (MD.text Mq2) (MD.pasts Mq2) (MD.length Mq2) (MD.spot Mq2) (MD.itsThickness Mq2) (MD.itsRows Mq2) (MD.from_ Mq2)))) hx hb hK hP hD hS hf3 1 0 rfl rfl dX5_bringsBack_19 rfl (fun H locs hP hD hS => ?_)
        refine lv_iinc (v := (x1q2 + 1)) (lv' := [(1, .int (x1q2 + 1)), (0, .ref g.1)]) hx hb dX5_bringsBack_20 hl (k := 1) rfl rfl (by decide) rfl (fun ls hl => ?_)
        refine lv_goto (tgt := 2) hx hb dX5_bringsBack_23 (by decide) ?_
        exact ih2 _ _  _ _ _ hf hP hD hS (lv_sub hl [1, 0] rfl)
  exact L2 k _ _ _ _ _ hf hP hD hS (lv_sub hl [1, 0] rfl)

/-! ===== X5_liquid ===== -/
def p_X5_liquid_L4 (k : Nat) (M : MD) : Nat → (Int32) → (Int32) → Option (Int32)
  | 0, _, _ => none
  | n + 1, x1, x2 =>
    (ald (MD.st M) 44 0).bind fun v1 => if v1 ≤ x2 then (some x1) else ((ald (MD.st M) 44 (20 + x2)).bind fun v3 => p_X5_liquid_L4 k M n (x1 + v3) (x2 + 1))

def p_X5_liquid (k : Nat) (M : MD) : Option (Int32) :=
  p_X5_liquid_L4 k M k 0 0

set_option maxHeartbeats 4000000 in
set_option maxRecDepth 100000 in
theorem c_X5_liquid {l : Launch} {D : va_G} {ks : K3} (k : Nat) (g : AM) (M : MD) (r : Int32) (hf : p_X5_liquid k M = some r) : MetR l yX5_liquid wsX5_liquid { frames := 0, cells := 0, slots := 0, locals := 0 } D ks [.ref g.1] (wM ks g M) r True := by
  refine MetR.of (cc := cX5_liquid) (maxL := 3) (ret := (some .int)) (by decide +kernel) rfl (Nat.le_of_ble_eq_true rfl) ?_ ⟨_, rfl⟩
  intro p e s m below meth c Q hx hb hml hts hown hP hX hret ls hl
  have hK := hX.1
  replace hl : lv_has ls 3 [(0, .ref g.1)] := hl
  have hiX5 : ∀ w ∈ wsX50, w ∈ wsX5_liquid := by decide +kernel
  have hk7 := hts (.fieldLink RX5 7 "SoapFilmModel" "st" "[I") (by decide +kernel)
  unfold p_X5_liquid at hf
  refine lv_iconst (v := 0) hx hb dX5_liquid_0 (by decide) ?_
  refine lv_istore_n (lv' := [(1, .int 0), (0, .ref g.1)]) hx hb dX5_liquid_1 rfl hl (by decide) rfl (fun ls hl => ?_)
  refine lv_iconst (v := 0) hx hb dX5_liquid_2 (by decide) ?_
  refine lv_istore_n (lv' := [(2, .int 0), (1, .int 0), (0, .ref g.1)]) hx hb dX5_liquid_3 rfl hl (by decide) rfl (fun ls hl => ?_)
  have L4 : ∀ (n : Nat) (x1q4 : Int32) (x2q4 : Int32) (ls : Array Slot), p_X5_liquid_L4 k M n x1q4 x2q4 = some r → lv_has ls 3 [(0, .ref g.1), (1, .int x1q4), (2, .int x2q4)] → W p l e { frames := 0, cells := 0, slots := 0, locals := 0 } s m ([.ref g.1] : List Value).toArray below meth c s.heap [] 0 0 Q (F0 m 4 ls []) := by
    intro n
    induction n with
    | zero => intro x1q4 x2q4 ls hf; cases hf
    | succ n ih4 =>
      intro x1q4 x2q4 ls hf hl
      rw [p_X5_liquid_L4] at hf
      refine lv_iload_n hx hb dX5_liquid_4 rfl (lv_at hl 2 rfl) ?_
      refine lv_aload_n hx hb dX5_liquid_5 rfl (lv_at hl 0 rfl) ?_
      refine va_get (v := .ref g.2.1) (C := RX5) (T := TX5) (N := 10) hx hb hts hiX5 hown hK hP 0 rfl rfl 0 (by decide) hk7 (fun _ h9 => h9) rfl dX5_liquid_6 ?_
      refine lv_iconst (v := 0) hx hb dX5_liquid_9 (by decide) ?_
      obtain ⟨v1, hv1, hf⟩ := bnd hf
      refine xa_iald hx hb hK hP hv1 1 0 rfl rfl dX5_liquid_10 ?_
      refine lv_icmp_ge (tgt := 32) hx hb dX5_liquid_11 (by decide) (fun c2 => ?_) (fun c2 => ?_)
      · replace hf := ifT hf c2
        refine lv_iload_n hx hb dX5_liquid_32 rfl (lv_at hl 1 rfl) ?_
        obtain rfl := Option.some.inj hf
        exact hret trivial _ _ dX5_liquid_33 (fun ty h => by cases h; rfl)
      · replace hf := ifF hf c2
        refine lv_iload_n hx hb dX5_liquid_14 rfl (lv_at hl 1 rfl) ?_
        refine lv_aload_n hx hb dX5_liquid_15 rfl (lv_at hl 0 rfl) ?_
        refine va_get (v := .ref g.2.1) (C := RX5) (T := TX5) (N := 10) hx hb hts hiX5 hown hK hP 0 rfl rfl 0 (by decide) hk7 (fun _ h9 => h9) rfl dX5_liquid_16 ?_
        refine lv_bipush (v := 20) hx hb dX5_liquid_19 (by decide) ?_
        refine lv_iload_n hx hb dX5_liquid_21 rfl (lv_at hl 2 rfl) ?_
        refine lv_iadd hx hb dX5_liquid_22 ?_
        obtain ⟨v3, hv3, hf⟩ := bnd hf
        refine xa_iald hx hb hK hP hv3 1 0 rfl rfl dX5_liquid_23 ?_
        refine lv_iadd hx hb dX5_liquid_24 ?_
        refine lv_istore_n (lv' := [(1, .int (x1q4 + v3)), (0, .ref g.1), (2, .int x2q4)]) hx hb dX5_liquid_25 rfl hl (by decide) rfl (fun ls hl => ?_)
        refine lv_iinc (v := (x2q4 + 1)) (lv' := [(2, .int (x2q4 + 1)), (1, .int (x1q4 + v3)), (0, .ref g.1)]) hx hb dX5_liquid_26 hl (k := 2) rfl rfl (by decide) rfl (fun ls hl => ?_)
        refine lv_goto (tgt := 4) hx hb dX5_liquid_29 (by decide) ?_
        exact ih4 _ _  _ hf (lv_sub hl [2, 1, 0] rfl)
  exact L4 k _ _ _ hf (lv_sub hl [2, 1, 0] rfl)

/-! ===== X5_takesAway ===== -/
def p_X5_takesAway (k : Nat) (M : MD) : Option (MD) :=
  (ald (MD.st M) 44 7).bind fun v1 => (p_X5_liquid k M).bind fun v2 => (ast (MD.st M) 44 7 (v1 + v2)).bind fun f3 => (ast f3 44 0 0).bind fun f4 => some (mkMD f4 (MD.past M) (MD.aside M) (MD.text M) (MD.pasts M) (MD.length M) (MD.spot M) (MD.itsThickness M) (MD.itsRows M) (MD.from_ M))

set_option maxHeartbeats 4000000 in
set_option maxRecDepth 100000 in
theorem c_X5_takesAway {l : Launch} {D : va_G} {ks : K3} (k : Nat) (g : AM) (M : MD) (rM : MD) (hf : p_X5_takesAway k M = some rM) : MetV l yX5_takesAway wsX5_takesAway { frames := 1, cells := 0, slots := 0, locals := 22 } D ks [.ref g.1] (wM ks g M) (wM ks g rM) := by
  refine MetV.of (cc := cX5_takesAway) (maxL := 1) (by decide +kernel) rfl (Nat.le_of_ble_eq_true rfl) ?_
  intro p e s m below meth c Q A hx hb hml hts hown hP hX hD hA hret ls hl
  have hK := hX.1
  replace hl : lv_has ls 1 [(0, .ref g.1)] := hl
  have hS : va_S A s.heap s.heap [] := va_S.rf
  have hiX5 : ∀ w ∈ wsX50, w ∈ wsX5_takesAway := by decide +kernel
  have hk7 := hts (.fieldLink RX5 7 "SoapFilmModel" "st" "[I") (by decide +kernel)
  unfold p_X5_takesAway at hf
  refine lv_aload_n hx hb dX5_takesAway_0 rfl (lv_at hl 0 rfl) ?_
  refine va_get (v := .ref g.2.1) (C := RX5) (T := TX5) (N := 10) hx hb hts hiX5 hown hK hP 0 rfl rfl 0 (by decide) hk7 (fun _ h9 => h9) rfl dX5_takesAway_1 ?_
  refine lv_bipush (v := 7) hx hb dX5_takesAway_4 (by decide) ?_
  refine lv_dup2_11 hx hb dX5_takesAway_6 rfl rfl ?_
  obtain ⟨v1, hv1, hf⟩ := bnd hf
  refine xa_iald hx hb hK hP hv1 1 0 rfl rfl dX5_takesAway_7 ?_
  refine lv_aload_n hx hb dX5_takesAway_8 rfl (lv_at hl 0 rfl) ?_
  obtain ⟨v2, hv2, hf⟩ := bnd hf
  refine xcallRV (As := []) (rest := [.int v1, .int 7, .ref g.2.1]) (wc := (wM ks g M)) ⟨hx, hb, hml, hown, hts⟩ (c_X5_liquid k g M v2 hv2) (cwV 0 hts gX5_takesAway_X5_liquid rfl rfl rfl (by decide +kernel) ⟨Nat.le_of_ble_eq_true rfl, Nat.le_of_ble_eq_true rfl⟩) hX hP (ci := 4) (q0 := 0) rfl rfl rfl hl.1 rfl (Nat.le_of_ble_eq_true rfl) dX5_takesAway_9 ⟨Nat.zero_le _, Nat.zero_le _⟩ (fun zv2 => ?_)
  refine lv_iadd hx hb dX5_takesAway_12 ?_
  obtain ⟨f3, hf3, hf⟩ := bnd hf
  refine xa_iast (wn := (wM ks g (mkMD f3 (MD.past M) (MD.aside M) (MD.text M) (MD.pasts M) (MD.length M) (MD.spot M) (MD.itsThickness M) (MD.itsRows M) (MD.from_ M)))) hx hb hK hP hD hS hf3 1 0 rfl rfl dX5_takesAway_13 rfl (fun H locs hP hD hS => ?_)
  refine lv_aload_n hx hb dX5_takesAway_14 rfl (lv_at hl 0 rfl) ?_
  refine va_get (v := .ref g.2.1) (C := RX5) (T := TX5) (N := 10) hx hb hts hiX5 hown hK hP 0 rfl rfl 0 (by decide) hk7 (fun _ h9 => h9) rfl dX5_takesAway_15 ?_
  refine lv_iconst (v := 0) hx hb dX5_takesAway_18 (by decide) ?_
  refine lv_iconst (v := 0) hx hb dX5_takesAway_19 (by decide) ?_
  obtain ⟨f4, hf4, hf⟩ := bnd hf
  refine xa_iast (wn := (wM ks g (mkMD f4 (MD.past M) (MD.aside M) (MD.text M) (MD.pasts M) (MD.length M) (MD.spot M) (MD.itsThickness M) (MD.itsRows M) (MD.from_ M)))) hx hb hK hP hD hS hf4 1 0 rfl rfl dX5_takesAway_20 rfl (fun H locs hP hD hS => ?_)
  obtain rfl := Option.some.inj hf
  exact hret _ _ _ _ dX5_takesAway_21 hP hD hS

/-! ===== X5_newRow ===== -/
def p_X5_newRow (k : Nat) (M : MD) (x1 : Int32) : Option (MD) :=
  (ald (MD.st M) 44 0).bind fun v1 => (ast (MD.st M) 44 (20 + v1) x1).bind fun f2 => (ald f2 44 0).bind fun v3 => (ast f2 44 0 (v3 + 1)).bind fun f4 => (ald f4 44 3).bind fun v5 => (ast f4 44 3 (v5 + x1)).bind fun f6 => some (mkMD f6 (MD.past M) (MD.aside M) (MD.text M) (MD.pasts M) (MD.length M) (MD.spot M) (MD.itsThickness M) (MD.itsRows M) (MD.from_ M))

set_option maxHeartbeats 4000000 in
set_option maxRecDepth 100000 in
theorem c_X5_newRow {l : Launch} {D : va_G} {ks : K3} (k : Nat) (g : AM) (M : MD) (x1 : Int32) (rM : MD) (hf : p_X5_newRow k M x1 = some rM) : MetV l yX5_newRow wsX5_newRow { frames := 0, cells := 0, slots := 0, locals := 0 } D ks [.ref g.1, .int x1] (wM ks g M) (wM ks g rM) := by
  refine MetV.of (cc := cX5_newRow) (maxL := 2) (by decide +kernel) rfl (Nat.le_of_ble_eq_true rfl) ?_
  intro p e s m below meth c Q A hx hb hml hts hown hP hX hD hA hret ls hl
  have hK := hX.1
  replace hl : lv_has ls 2 [(0, .ref g.1), (1, .int x1)] := hl
  have hS : va_S A s.heap s.heap [] := va_S.rf
  have hiX5 : ∀ w ∈ wsX50, w ∈ wsX5_newRow := by decide +kernel
  have hk7 := hts (.fieldLink RX5 7 "SoapFilmModel" "st" "[I") (by decide +kernel)
  unfold p_X5_newRow at hf
  refine lv_aload_n hx hb dX5_newRow_0 rfl (lv_at hl 0 rfl) ?_
  refine va_get (v := .ref g.2.1) (C := RX5) (T := TX5) (N := 10) hx hb hts hiX5 hown hK hP 0 rfl rfl 0 (by decide) hk7 (fun _ h9 => h9) rfl dX5_newRow_1 ?_
  refine lv_bipush (v := 20) hx hb dX5_newRow_4 (by decide) ?_
  refine lv_aload_n hx hb dX5_newRow_6 rfl (lv_at hl 0 rfl) ?_
  refine va_get (v := .ref g.2.1) (C := RX5) (T := TX5) (N := 10) hx hb hts hiX5 hown hK hP 0 rfl rfl 0 (by decide) hk7 (fun _ h9 => h9) rfl dX5_newRow_7 ?_
  refine lv_iconst (v := 0) hx hb dX5_newRow_10 (by decide) ?_
  obtain ⟨v1, hv1, hf⟩ := bnd hf
  refine xa_iald hx hb hK hP hv1 1 0 rfl rfl dX5_newRow_11 ?_
  refine lv_iadd hx hb dX5_newRow_12 ?_
  refine lv_iload_n hx hb dX5_newRow_13 rfl (lv_at hl 1 rfl) ?_
  obtain ⟨f2, hf2, hf⟩ := bnd hf
  refine xa_iast (wn := (wM ks g (mkMD f2 (MD.past M) (MD.aside M) (MD.text M) (MD.pasts M) (MD.length M) (MD.spot M) (MD.itsThickness M) (MD.itsRows M) (MD.from_ M)))) hx hb hK hP hD hS hf2 1 0 rfl rfl dX5_newRow_14 rfl (fun H locs hP hD hS => ?_)
  refine lv_aload_n hx hb dX5_newRow_15 rfl (lv_at hl 0 rfl) ?_
  refine va_get (v := .ref g.2.1) (C := RX5) (T := TX5) (N := 10) hx hb hts hiX5 hown hK hP 0 rfl rfl 0 (by decide) hk7 (fun _ h9 => h9) rfl dX5_newRow_16 ?_
  refine lv_iconst (v := 0) hx hb dX5_newRow_19 (by decide) ?_
  refine lv_dup2_11 hx hb dX5_newRow_20 rfl rfl ?_
  obtain ⟨v3, hv3, hf⟩ := bnd hf
  refine xa_iald hx hb hK hP hv3 1 0 rfl rfl dX5_newRow_21 ?_
  refine lv_iconst (v := 1) hx hb dX5_newRow_22 (by decide) ?_
  refine lv_iadd hx hb dX5_newRow_23 ?_
  obtain ⟨f4, hf4, hf⟩ := bnd hf
  refine xa_iast (wn := (wM ks g (mkMD f4 (MD.past M) (MD.aside M) (MD.text M) (MD.pasts M) (MD.length M) (MD.spot M) (MD.itsThickness M) (MD.itsRows M) (MD.from_ M)))) hx hb hK hP hD hS hf4 1 0 rfl rfl dX5_newRow_24 rfl (fun H locs hP hD hS => ?_)
  refine lv_aload_n hx hb dX5_newRow_25 rfl (lv_at hl 0 rfl) ?_
  refine va_get (v := .ref g.2.1) (C := RX5) (T := TX5) (N := 10) hx hb hts hiX5 hown hK hP 0 rfl rfl 0 (by decide) hk7 (fun _ h9 => h9) rfl dX5_newRow_26 ?_
  refine lv_iconst (v := 3) hx hb dX5_newRow_29 (by decide) ?_
  refine lv_dup2_11 hx hb dX5_newRow_30 rfl rfl ?_
  obtain ⟨v5, hv5, hf⟩ := bnd hf
  refine xa_iald hx hb hK hP hv5 1 0 rfl rfl dX5_newRow_31 ?_
  refine lv_iload_n hx hb dX5_newRow_32 rfl (lv_at hl 1 rfl) ?_
  refine lv_iadd hx hb dX5_newRow_33 ?_
  obtain ⟨f6, hf6, hf⟩ := bnd hf
  refine xa_iast (wn := (wM ks g (mkMD f6 (MD.past M) (MD.aside M) (MD.text M) (MD.pasts M) (MD.length M) (MD.spot M) (MD.itsThickness M) (MD.itsRows M) (MD.from_ M)))) hx hb hK hP hD hS hf6 1 0 rfl rfl dX5_newRow_34 rfl (fun H locs hP hD hS => ?_)
  obtain rfl := Option.some.inj hf
  exact hret _ _ _ _ dX5_newRow_35 hP hD hS

/-! ===== X5_gives ===== -/
def p_X5_gives (k : Nat) (M : MD) (x1 : Int32) (x2 : Int64) : Option (MD) :=
  (ald (MD.st M) 44 (20 + x1)).bind fun v1 => if 0 ≤ (lg_cmp x2 (Int32.toInt64 v1)) then ((ald (MD.st M) 44 0).bind fun v3 => if x1 = (v3 - 1) then ((ald (MD.st M) 44 2).bind fun v11 => (ast (MD.st M) 44 2 (v11 + v1)).bind fun f12 => (ald f12 44 (20 + x1)).bind fun v13 => (ast f12 44 (20 + x1) (v13 - v1)).bind fun f14 => some (mkMD f14 (MD.past M) (MD.aside M) (MD.text M) (MD.pasts M) (MD.length M) (MD.spot M) (MD.itsThickness M) (MD.itsRows M) (MD.from_ M))) else ((ald (MD.st M) 44 ((20 + x1) + 1)).bind fun v5 => (p_X5_lesser k v1 (5000 - v5)).bind fun v6 => (ald (MD.st M) 44 ((20 + x1) + 1)).bind fun v7 => (ast (MD.st M) 44 ((20 + x1) + 1) (v7 + v6)).bind fun f8 => (ald f8 44 (20 + x1)).bind fun v9 => (ast f8 44 (20 + x1) (v9 - v6)).bind fun f10 => some (mkMD f10 (MD.past M) (MD.aside M) (MD.text M) (MD.pasts M) (MD.length M) (MD.spot M) (MD.itsThickness M) (MD.itsRows M) (MD.from_ M)))) else ((ald (MD.st M) 44 0).bind fun v15 => if x1 = (v15 - 1) then ((ald (MD.st M) 44 2).bind fun v23 => (ast (MD.st M) 44 2 (v23 + (Int64.toInt32 x2))).bind fun f24 => (ald f24 44 (20 + x1)).bind fun v25 => (ast f24 44 (20 + x1) (v25 - (Int64.toInt32 x2))).bind fun f26 => some (mkMD f26 (MD.past M) (MD.aside M) (MD.text M) (MD.pasts M) (MD.length M) (MD.spot M) (MD.itsThickness M) (MD.itsRows M) (MD.from_ M))) else ((ald (MD.st M) 44 ((20 + x1) + 1)).bind fun v17 => (p_X5_lesser k (Int64.toInt32 x2) (5000 - v17)).bind fun v18 => (ald (MD.st M) 44 ((20 + x1) + 1)).bind fun v19 => (ast (MD.st M) 44 ((20 + x1) + 1) (v19 + v18)).bind fun f20 => (ald f20 44 (20 + x1)).bind fun v21 => (ast f20 44 (20 + x1) (v21 - v18)).bind fun f22 => some (mkMD f22 (MD.past M) (MD.aside M) (MD.text M) (MD.pasts M) (MD.length M) (MD.spot M) (MD.itsThickness M) (MD.itsRows M) (MD.from_ M))))

set_option maxHeartbeats 4000000 in
set_option maxRecDepth 100000 in
theorem c_X5_gives {l : Launch} {D : va_G} {ks : K3} (k : Nat) (g : AM) (M : MD) (x1 : Int32) (x2 : Int64) (rM : MD) (hf : p_X5_gives k M x1 x2 = some rM) : MetV l yX5_gives wsX5_gives { frames := 1, cells := 0, slots := 0, locals := 21 } D ks [.ref g.1, .int x1, .long x2] (wM ks g M) (wM ks g rM) := by
  refine MetV.of (cc := cX5_gives) (maxL := 5) (by decide +kernel) rfl (Nat.le_of_ble_eq_true rfl) ?_
  intro p e s m below meth c Q A hx hb hml hts hown hP hX hD hA hret ls hl
  have hK := hX.1
  replace hl : lv_has ls 5 [(0, .ref g.1), (1, .int x1), (2, .long x2)] := hl
  have hS : va_S A s.heap s.heap [] := va_S.rf
  have hiX5 : ∀ w ∈ wsX50, w ∈ wsX5_gives := by decide +kernel
  have hk7 := hts (.fieldLink RX5 7 "SoapFilmModel" "st" "[I") (by decide +kernel)
  unfold p_X5_gives at hf
  refine lv_aload_n hx hb dX5_gives_0 rfl (lv_at hl 0 rfl) ?_
  refine va_get (v := .ref g.2.1) (C := RX5) (T := TX5) (N := 10) hx hb hts hiX5 hown hK hP 0 rfl rfl 0 (by decide) hk7 (fun _ h9 => h9) rfl dX5_gives_1 ?_
  refine lv_bipush (v := 20) hx hb dX5_gives_4 (by decide) ?_
  refine lv_iload_n hx hb dX5_gives_6 rfl (lv_at hl 1 rfl) ?_
  refine lv_iadd hx hb dX5_gives_7 ?_
  obtain ⟨v1, hv1, hf⟩ := bnd hf
  refine xa_iald hx hb hK hP hv1 1 0 rfl rfl dX5_gives_8 ?_
  refine lv_istore (lv' := [(4, .int v1), (0, .ref g.1), (1, .int x1), (2, .long x2)]) hx hb dX5_gives_9 hl (by decide) rfl (fun ls hl => ?_)
  refine lv_lload_n hx hb dX5_gives_11 rfl (lv_at hl 3 rfl) ?_
  refine lv_iload hx hb dX5_gives_12 (lv_at hl 0 rfl) ?_
  refine lv_i2l hx hb dX5_gives_14 rfl ?_
  refine W.lcmp hx hb dX5_gives_15 ?_
  refine lv_if_ge (tgt := 24) hx hb dX5_gives_16 (by decide) (fun c2 => ?_) (fun c2 => ?_)
  · replace hf := ifT hf c2
    refine lv_iload hx hb dX5_gives_24 (lv_at hl 0 rfl) ?_
    refine lv_istore (lv' := [(4, .int v1), (0, .ref g.1), (1, .int x1), (2, .long x2)]) hx hb dX5_gives_26 hl (by decide) rfl (fun ls hl => ?_)
    refine lv_iload_n hx hb dX5_gives_28 rfl (lv_at hl 2 rfl) ?_
    refine lv_aload_n hx hb dX5_gives_29 rfl (lv_at hl 1 rfl) ?_
    refine va_get (v := .ref g.2.1) (C := RX5) (T := TX5) (N := 10) hx hb hts hiX5 hown hK hP 0 rfl rfl 0 (by decide) hk7 (fun _ h9 => h9) rfl dX5_gives_30 ?_
    refine lv_iconst (v := 0) hx hb dX5_gives_33 (by decide) ?_
    obtain ⟨v3, hv3, hf⟩ := bnd hf
    refine xa_iald hx hb hK hP hv3 1 0 rfl rfl dX5_gives_34 ?_
    refine lv_iconst (v := 1) hx hb dX5_gives_35 (by decide) ?_
    refine lv_isub hx hb dX5_gives_36 ?_
    refine lv_icmp_ne (tgt := 54) hx hb dX5_gives_37 (by decide) (fun c4 => ?_) (fun c4 => ?_)
    · replace hf := ifF hf c4
      refine lv_iload hx hb dX5_gives_54 (lv_at hl 0 rfl) ?_
      refine lv_sipush (v := 5000) hx hb dX5_gives_56 (by decide) ?_
      refine lv_aload_n hx hb dX5_gives_59 rfl (lv_at hl 1 rfl) ?_
      refine va_get (v := .ref g.2.1) (C := RX5) (T := TX5) (N := 10) hx hb hts hiX5 hown hK hP 0 rfl rfl 0 (by decide) hk7 (fun _ h9 => h9) rfl dX5_gives_60 ?_
      refine lv_bipush (v := 20) hx hb dX5_gives_63 (by decide) ?_
      refine lv_iload_n hx hb dX5_gives_65 rfl (lv_at hl 2 rfl) ?_
      refine lv_iadd hx hb dX5_gives_66 ?_
      refine lv_iconst (v := 1) hx hb dX5_gives_67 (by decide) ?_
      refine lv_iadd hx hb dX5_gives_68 ?_
      obtain ⟨v5, hv5, hf⟩ := bnd hf
      refine xa_iald hx hb hK hP hv5 1 0 rfl rfl dX5_gives_69 ?_
      refine lv_isub hx hb dX5_gives_70 ?_
      obtain ⟨v6, hv6, hf⟩ := bnd hf
      refine xcallRS (As := [.int v1, .int (5000 - v5)]) (rest := []) (wc := []) ⟨hx, hb, hml, hown, hts⟩ (c_X5_lesser k v1 (5000 - v5) v6 hv6) (va_cwS 2 hts gX5_gives_X5_lesser rfl rfl rfl (by decide +kernel) ⟨Nat.le_of_ble_eq_true rfl, Nat.le_of_ble_eq_true rfl⟩) hX (va_P0 _ _ _) rfl hl.1 rfl (Nat.le_of_ble_eq_true rfl) dX5_gives_71 ⟨Nat.zero_le _, Nat.zero_le _⟩ (fun zv6 => ?_)
      refine lv_istore (lv' := [(4, .int v6), (0, .ref g.1), (1, .int x1), (2, .long x2)]) hx hb dX5_gives_74 hl (by decide) rfl (fun ls hl => ?_)
      refine lv_aload_n hx hb dX5_gives_76 rfl (lv_at hl 1 rfl) ?_
      refine va_get (v := .ref g.2.1) (C := RX5) (T := TX5) (N := 10) hx hb hts hiX5 hown hK hP 0 rfl rfl 0 (by decide) hk7 (fun _ h9 => h9) rfl dX5_gives_77 ?_
      refine lv_bipush (v := 20) hx hb dX5_gives_80 (by decide) ?_
      refine lv_iload_n hx hb dX5_gives_82 rfl (lv_at hl 2 rfl) ?_
      refine lv_iadd hx hb dX5_gives_83 ?_
      refine lv_iconst (v := 1) hx hb dX5_gives_84 (by decide) ?_
      refine lv_iadd hx hb dX5_gives_85 ?_
      refine lv_dup2_11 hx hb dX5_gives_86 rfl rfl ?_
      obtain ⟨v7, hv7, hf⟩ := bnd hf
      refine xa_iald hx hb hK hP hv7 1 0 rfl rfl dX5_gives_87 ?_
      refine lv_iload hx hb dX5_gives_88 (lv_at hl 0 rfl) ?_
      refine lv_iadd hx hb dX5_gives_90 ?_
      obtain ⟨f8, hf8, hf⟩ := bnd hf
      refine xa_iast (wn := (wM ks g (mkMD f8 (MD.past M) (MD.aside M) (MD.text M) (MD.pasts M) (MD.length M) (MD.spot M) (MD.itsThickness M) (MD.itsRows M) (MD.from_ M)))) hx hb hK hP hD hS hf8 1 0 rfl rfl dX5_gives_91 rfl (fun H locs hP hD hS => ?_)
      refine lv_aload_n hx hb dX5_gives_92 rfl (lv_at hl 1 rfl) ?_
      refine va_get (v := .ref g.2.1) (C := RX5) (T := TX5) (N := 10) hx hb hts hiX5 hown hK hP 0 rfl rfl 0 (by decide) hk7 (fun _ h9 => h9) rfl dX5_gives_93 ?_
      refine lv_bipush (v := 20) hx hb dX5_gives_96 (by decide) ?_
      refine lv_iload_n hx hb dX5_gives_98 rfl (lv_at hl 2 rfl) ?_
      refine lv_iadd hx hb dX5_gives_99 ?_
      refine lv_dup2_11 hx hb dX5_gives_100 rfl rfl ?_
      obtain ⟨v9, hv9, hf⟩ := bnd hf
      refine xa_iald hx hb hK hP hv9 1 0 rfl rfl dX5_gives_101 ?_
      refine lv_iload hx hb dX5_gives_102 (lv_at hl 0 rfl) ?_
      refine lv_isub hx hb dX5_gives_104 ?_
      obtain ⟨f10, hf10, hf⟩ := bnd hf
      refine xa_iast (wn := (wM ks g (mkMD f10 (MD.past M) (MD.aside M) (MD.text M) (MD.pasts M) (MD.length M) (MD.spot M) (MD.itsThickness M) (MD.itsRows M) (MD.from_ M)))) hx hb hK hP hD hS hf10 1 0 rfl rfl dX5_gives_105 rfl (fun H locs hP hD hS => ?_)
      obtain rfl := Option.some.inj hf
      exact hret _ _ _ _ dX5_gives_106 hP hD hS
    · replace hf := ifT hf c4
      refine lv_aload_n hx hb dX5_gives_40 rfl (lv_at hl 1 rfl) ?_
      refine va_get (v := .ref g.2.1) (C := RX5) (T := TX5) (N := 10) hx hb hts hiX5 hown hK hP 0 rfl rfl 0 (by decide) hk7 (fun _ h9 => h9) rfl dX5_gives_41 ?_
      refine lv_iconst (v := 2) hx hb dX5_gives_44 (by decide) ?_
      refine lv_dup2_11 hx hb dX5_gives_45 rfl rfl ?_
      obtain ⟨v11, hv11, hf⟩ := bnd hf
      refine xa_iald hx hb hK hP hv11 1 0 rfl rfl dX5_gives_46 ?_
      refine lv_iload hx hb dX5_gives_47 (lv_at hl 0 rfl) ?_
      refine lv_iadd hx hb dX5_gives_49 ?_
      obtain ⟨f12, hf12, hf⟩ := bnd hf
      refine xa_iast (wn := (wM ks g (mkMD f12 (MD.past M) (MD.aside M) (MD.text M) (MD.pasts M) (MD.length M) (MD.spot M) (MD.itsThickness M) (MD.itsRows M) (MD.from_ M)))) hx hb hK hP hD hS hf12 1 0 rfl rfl dX5_gives_50 rfl (fun H locs hP hD hS => ?_)
      refine lv_goto (tgt := 92) hx hb dX5_gives_51 (by decide) ?_
      refine lv_aload_n hx hb dX5_gives_92 rfl (lv_at hl 1 rfl) ?_
      refine va_get (v := .ref g.2.1) (C := RX5) (T := TX5) (N := 10) hx hb hts hiX5 hown hK hP 0 rfl rfl 0 (by decide) hk7 (fun _ h9 => h9) rfl dX5_gives_93 ?_
      refine lv_bipush (v := 20) hx hb dX5_gives_96 (by decide) ?_
      refine lv_iload_n hx hb dX5_gives_98 rfl (lv_at hl 2 rfl) ?_
      refine lv_iadd hx hb dX5_gives_99 ?_
      refine lv_dup2_11 hx hb dX5_gives_100 rfl rfl ?_
      obtain ⟨v13, hv13, hf⟩ := bnd hf
      refine xa_iald hx hb hK hP hv13 1 0 rfl rfl dX5_gives_101 ?_
      refine lv_iload hx hb dX5_gives_102 (lv_at hl 0 rfl) ?_
      refine lv_isub hx hb dX5_gives_104 ?_
      obtain ⟨f14, hf14, hf⟩ := bnd hf
      refine xa_iast (wn := (wM ks g (mkMD f14 (MD.past M) (MD.aside M) (MD.text M) (MD.pasts M) (MD.length M) (MD.spot M) (MD.itsThickness M) (MD.itsRows M) (MD.from_ M)))) hx hb hK hP hD hS hf14 1 0 rfl rfl dX5_gives_105 rfl (fun H locs hP hD hS => ?_)
      obtain rfl := Option.some.inj hf
      exact hret _ _ _ _ dX5_gives_106 hP hD hS
  · replace hf := ifF hf c2
    refine lv_lload_n hx hb dX5_gives_19 rfl (lv_at hl 3 rfl) ?_
    refine lv_l2i hx hb dX5_gives_20 rfl ?_
    refine lv_goto (tgt := 26) hx hb dX5_gives_21 (by decide) ?_
    refine lv_istore (lv' := [(4, .int (Int64.toInt32 x2)), (0, .ref g.1), (1, .int x1), (2, .long x2)]) hx hb dX5_gives_26 hl (by decide) rfl (fun ls hl => ?_)
    refine lv_iload_n hx hb dX5_gives_28 rfl (lv_at hl 2 rfl) ?_
    refine lv_aload_n hx hb dX5_gives_29 rfl (lv_at hl 1 rfl) ?_
    refine va_get (v := .ref g.2.1) (C := RX5) (T := TX5) (N := 10) hx hb hts hiX5 hown hK hP 0 rfl rfl 0 (by decide) hk7 (fun _ h9 => h9) rfl dX5_gives_30 ?_
    refine lv_iconst (v := 0) hx hb dX5_gives_33 (by decide) ?_
    obtain ⟨v15, hv15, hf⟩ := bnd hf
    refine xa_iald hx hb hK hP hv15 1 0 rfl rfl dX5_gives_34 ?_
    refine lv_iconst (v := 1) hx hb dX5_gives_35 (by decide) ?_
    refine lv_isub hx hb dX5_gives_36 ?_
    refine lv_icmp_ne (tgt := 54) hx hb dX5_gives_37 (by decide) (fun c16 => ?_) (fun c16 => ?_)
    · replace hf := ifF hf c16
      refine lv_iload hx hb dX5_gives_54 (lv_at hl 0 rfl) ?_
      refine lv_sipush (v := 5000) hx hb dX5_gives_56 (by decide) ?_
      refine lv_aload_n hx hb dX5_gives_59 rfl (lv_at hl 1 rfl) ?_
      refine va_get (v := .ref g.2.1) (C := RX5) (T := TX5) (N := 10) hx hb hts hiX5 hown hK hP 0 rfl rfl 0 (by decide) hk7 (fun _ h9 => h9) rfl dX5_gives_60 ?_
      refine lv_bipush (v := 20) hx hb dX5_gives_63 (by decide) ?_
      refine lv_iload_n hx hb dX5_gives_65 rfl (lv_at hl 2 rfl) ?_
      refine lv_iadd hx hb dX5_gives_66 ?_
      refine lv_iconst (v := 1) hx hb dX5_gives_67 (by decide) ?_
      refine lv_iadd hx hb dX5_gives_68 ?_
      obtain ⟨v17, hv17, hf⟩ := bnd hf
      refine xa_iald hx hb hK hP hv17 1 0 rfl rfl dX5_gives_69 ?_
      refine lv_isub hx hb dX5_gives_70 ?_
      obtain ⟨v18, hv18, hf⟩ := bnd hf
      refine xcallRS (As := [.int (Int64.toInt32 x2), .int (5000 - v17)]) (rest := []) (wc := []) ⟨hx, hb, hml, hown, hts⟩ (c_X5_lesser k (Int64.toInt32 x2) (5000 - v17) v18 hv18) (va_cwS 2 hts gX5_gives_X5_lesser rfl rfl rfl (by decide +kernel) ⟨Nat.le_of_ble_eq_true rfl, Nat.le_of_ble_eq_true rfl⟩) hX (va_P0 _ _ _) rfl hl.1 rfl (Nat.le_of_ble_eq_true rfl) dX5_gives_71 ⟨Nat.zero_le _, Nat.zero_le _⟩ (fun zv18 => ?_)
      refine lv_istore (lv' := [(4, .int v18), (0, .ref g.1), (1, .int x1), (2, .long x2)]) hx hb dX5_gives_74 hl (by decide) rfl (fun ls hl => ?_)
      refine lv_aload_n hx hb dX5_gives_76 rfl (lv_at hl 1 rfl) ?_
      refine va_get (v := .ref g.2.1) (C := RX5) (T := TX5) (N := 10) hx hb hts hiX5 hown hK hP 0 rfl rfl 0 (by decide) hk7 (fun _ h9 => h9) rfl dX5_gives_77 ?_
      refine lv_bipush (v := 20) hx hb dX5_gives_80 (by decide) ?_
      refine lv_iload_n hx hb dX5_gives_82 rfl (lv_at hl 2 rfl) ?_
      refine lv_iadd hx hb dX5_gives_83 ?_
      refine lv_iconst (v := 1) hx hb dX5_gives_84 (by decide) ?_
      refine lv_iadd hx hb dX5_gives_85 ?_
      refine lv_dup2_11 hx hb dX5_gives_86 rfl rfl ?_
      obtain ⟨v19, hv19, hf⟩ := bnd hf
      refine xa_iald hx hb hK hP hv19 1 0 rfl rfl dX5_gives_87 ?_
      refine lv_iload hx hb dX5_gives_88 (lv_at hl 0 rfl) ?_
      refine lv_iadd hx hb dX5_gives_90 ?_
      obtain ⟨f20, hf20, hf⟩ := bnd hf
      refine xa_iast (wn := (wM ks g (mkMD f20 (MD.past M) (MD.aside M) (MD.text M) (MD.pasts M) (MD.length M) (MD.spot M) (MD.itsThickness M) (MD.itsRows M) (MD.from_ M)))) hx hb hK hP hD hS hf20 1 0 rfl rfl dX5_gives_91 rfl (fun H locs hP hD hS => ?_)
      refine lv_aload_n hx hb dX5_gives_92 rfl (lv_at hl 1 rfl) ?_
      refine va_get (v := .ref g.2.1) (C := RX5) (T := TX5) (N := 10) hx hb hts hiX5 hown hK hP 0 rfl rfl 0 (by decide) hk7 (fun _ h9 => h9) rfl dX5_gives_93 ?_
      refine lv_bipush (v := 20) hx hb dX5_gives_96 (by decide) ?_
      refine lv_iload_n hx hb dX5_gives_98 rfl (lv_at hl 2 rfl) ?_
      refine lv_iadd hx hb dX5_gives_99 ?_
      refine lv_dup2_11 hx hb dX5_gives_100 rfl rfl ?_
      obtain ⟨v21, hv21, hf⟩ := bnd hf
      refine xa_iald hx hb hK hP hv21 1 0 rfl rfl dX5_gives_101 ?_
      refine lv_iload hx hb dX5_gives_102 (lv_at hl 0 rfl) ?_
      refine lv_isub hx hb dX5_gives_104 ?_
      obtain ⟨f22, hf22, hf⟩ := bnd hf
      refine xa_iast (wn := (wM ks g (mkMD f22 (MD.past M) (MD.aside M) (MD.text M) (MD.pasts M) (MD.length M) (MD.spot M) (MD.itsThickness M) (MD.itsRows M) (MD.from_ M)))) hx hb hK hP hD hS hf22 1 0 rfl rfl dX5_gives_105 rfl (fun H locs hP hD hS => ?_)
      obtain rfl := Option.some.inj hf
      exact hret _ _ _ _ dX5_gives_106 hP hD hS
    · replace hf := ifT hf c16
      refine lv_aload_n hx hb dX5_gives_40 rfl (lv_at hl 1 rfl) ?_
      refine va_get (v := .ref g.2.1) (C := RX5) (T := TX5) (N := 10) hx hb hts hiX5 hown hK hP 0 rfl rfl 0 (by decide) hk7 (fun _ h9 => h9) rfl dX5_gives_41 ?_
      refine lv_iconst (v := 2) hx hb dX5_gives_44 (by decide) ?_
      refine lv_dup2_11 hx hb dX5_gives_45 rfl rfl ?_
      obtain ⟨v23, hv23, hf⟩ := bnd hf
      refine xa_iald hx hb hK hP hv23 1 0 rfl rfl dX5_gives_46 ?_
      refine lv_iload hx hb dX5_gives_47 (lv_at hl 0 rfl) ?_
      refine lv_iadd hx hb dX5_gives_49 ?_
      obtain ⟨f24, hf24, hf⟩ := bnd hf
      refine xa_iast (wn := (wM ks g (mkMD f24 (MD.past M) (MD.aside M) (MD.text M) (MD.pasts M) (MD.length M) (MD.spot M) (MD.itsThickness M) (MD.itsRows M) (MD.from_ M)))) hx hb hK hP hD hS hf24 1 0 rfl rfl dX5_gives_50 rfl (fun H locs hP hD hS => ?_)
      refine lv_goto (tgt := 92) hx hb dX5_gives_51 (by decide) ?_
      refine lv_aload_n hx hb dX5_gives_92 rfl (lv_at hl 1 rfl) ?_
      refine va_get (v := .ref g.2.1) (C := RX5) (T := TX5) (N := 10) hx hb hts hiX5 hown hK hP 0 rfl rfl 0 (by decide) hk7 (fun _ h9 => h9) rfl dX5_gives_93 ?_
      refine lv_bipush (v := 20) hx hb dX5_gives_96 (by decide) ?_
      refine lv_iload_n hx hb dX5_gives_98 rfl (lv_at hl 2 rfl) ?_
      refine lv_iadd hx hb dX5_gives_99 ?_
      refine lv_dup2_11 hx hb dX5_gives_100 rfl rfl ?_
      obtain ⟨v25, hv25, hf⟩ := bnd hf
      refine xa_iald hx hb hK hP hv25 1 0 rfl rfl dX5_gives_101 ?_
      refine lv_iload hx hb dX5_gives_102 (lv_at hl 0 rfl) ?_
      refine lv_isub hx hb dX5_gives_104 ?_
      obtain ⟨f26, hf26, hf⟩ := bnd hf
      refine xa_iast (wn := (wM ks g (mkMD f26 (MD.past M) (MD.aside M) (MD.text M) (MD.pasts M) (MD.length M) (MD.spot M) (MD.itsThickness M) (MD.itsRows M) (MD.from_ M)))) hx hb hK hP hD hS hf26 1 0 rfl rfl dX5_gives_105 rfl (fun H locs hP hD hS => ?_)
      obtain rfl := Option.some.inj hf
      exact hret _ _ _ _ dX5_gives_106 hP hD hS

/-! ===== X5_blackOnes ===== -/
def p_X5_blackOnes_L4 (k : Nat) (M : MD) : Nat → (Int32) → (Int32) → Option (Int32)
  | 0, _, _ => none
  | n + 1, x1, x2 =>
    (ald (MD.st M) 44 0).bind fun v1 => if v1 ≤ x2 then (some x1) else ((ald (MD.st M) 44 (20 + x2)).bind fun v3 => (p_X5_isBlack k M v3).bind fun v4 => if v4 = 0 then (p_X5_blackOnes_L4 k M n (x1 ||| 0) (x2 + 1)) else (p_X5_blackOnes_L4 k M n (x1 ||| (jshl 1 x2)) (x2 + 1)))

def p_X5_blackOnes (k : Nat) (M : MD) : Option (Int32) :=
  p_X5_blackOnes_L4 k M k 0 0

set_option maxHeartbeats 4000000 in
set_option maxRecDepth 100000 in
theorem c_X5_blackOnes {l : Launch} {D : va_G} {ks : K3} (k : Nat) (g : AM) (M : MD) (r : Int32) (hf : p_X5_blackOnes k M = some r) : MetR l yX5_blackOnes wsX5_blackOnes { frames := 2, cells := 0, slots := 0, locals := 42 } D ks [.ref g.1] (wM ks g M) r True := by
  refine MetR.of (cc := cX5_blackOnes) (maxL := 3) (ret := (some .int)) (by decide +kernel) rfl (Nat.le_of_ble_eq_true rfl) ?_ ⟨_, rfl⟩
  intro p e s m below meth c Q hx hb hml hts hown hP hX hret ls hl
  have hK := hX.1
  replace hl : lv_has ls 3 [(0, .ref g.1)] := hl
  have hiX5 : ∀ w ∈ wsX50, w ∈ wsX5_blackOnes := by decide +kernel
  have hk7 := hts (.fieldLink RX5 7 "SoapFilmModel" "st" "[I") (by decide +kernel)
  unfold p_X5_blackOnes at hf
  refine lv_iconst (v := 0) hx hb dX5_blackOnes_0 (by decide) ?_
  refine lv_istore_n (lv' := [(1, .int 0), (0, .ref g.1)]) hx hb dX5_blackOnes_1 rfl hl (by decide) rfl (fun ls hl => ?_)
  refine lv_iconst (v := 0) hx hb dX5_blackOnes_2 (by decide) ?_
  refine lv_istore_n (lv' := [(2, .int 0), (1, .int 0), (0, .ref g.1)]) hx hb dX5_blackOnes_3 rfl hl (by decide) rfl (fun ls hl => ?_)
  have L4 : ∀ (n : Nat) (x1q4 : Int32) (x2q4 : Int32) (ls : Array Slot), p_X5_blackOnes_L4 k M n x1q4 x2q4 = some r → lv_has ls 3 [(0, .ref g.1), (1, .int x1q4), (2, .int x2q4)] → W p l e { frames := 2, cells := 0, slots := 0, locals := 42 } s m ([.ref g.1] : List Value).toArray below meth c s.heap [] 0 0 Q (F0 m 4 ls []) := by
    intro n
    induction n with
    | zero => intro x1q4 x2q4 ls hf; cases hf
    | succ n ih4 =>
      intro x1q4 x2q4 ls hf hl
      rw [p_X5_blackOnes_L4] at hf
      refine lv_iload_n hx hb dX5_blackOnes_4 rfl (lv_at hl 2 rfl) ?_
      refine lv_aload_n hx hb dX5_blackOnes_5 rfl (lv_at hl 0 rfl) ?_
      refine va_get (v := .ref g.2.1) (C := RX5) (T := TX5) (N := 10) hx hb hts hiX5 hown hK hP 0 rfl rfl 0 (by decide) hk7 (fun _ h9 => h9) rfl dX5_blackOnes_6 ?_
      refine lv_iconst (v := 0) hx hb dX5_blackOnes_9 (by decide) ?_
      obtain ⟨v1, hv1, hf⟩ := bnd hf
      refine xa_iald hx hb hK hP hv1 1 0 rfl rfl dX5_blackOnes_10 ?_
      refine lv_icmp_ge (tgt := 46) hx hb dX5_blackOnes_11 (by decide) (fun c2 => ?_) (fun c2 => ?_)
      · replace hf := ifT hf c2
        refine lv_iload_n hx hb dX5_blackOnes_46 rfl (lv_at hl 1 rfl) ?_
        obtain rfl := Option.some.inj hf
        exact hret trivial _ _ dX5_blackOnes_47 (fun ty h => by cases h; rfl)
      · replace hf := ifF hf c2
        refine lv_iload_n hx hb dX5_blackOnes_14 rfl (lv_at hl 1 rfl) ?_
        refine lv_aload_n hx hb dX5_blackOnes_15 rfl (lv_at hl 0 rfl) ?_
        refine lv_aload_n hx hb dX5_blackOnes_16 rfl (lv_at hl 0 rfl) ?_
        refine va_get (v := .ref g.2.1) (C := RX5) (T := TX5) (N := 10) hx hb hts hiX5 hown hK hP 0 rfl rfl 0 (by decide) hk7 (fun _ h9 => h9) rfl dX5_blackOnes_17 ?_
        refine lv_bipush (v := 20) hx hb dX5_blackOnes_20 (by decide) ?_
        refine lv_iload_n hx hb dX5_blackOnes_22 rfl (lv_at hl 2 rfl) ?_
        refine lv_iadd hx hb dX5_blackOnes_23 ?_
        obtain ⟨v3, hv3, hf⟩ := bnd hf
        refine xa_iald hx hb hK hP hv3 1 0 rfl rfl dX5_blackOnes_24 ?_
        obtain ⟨v4, hv4, hf⟩ := bnd hf
        refine xcallRV (As := [.int v3]) (rest := [.int x1q4]) (wc := (wM ks g M)) ⟨hx, hb, hml, hown, hts⟩ (c_X5_isBlack k g M v3 v4 hv4) (cwV 1 hts gX5_blackOnes_X5_isBlack rfl rfl rfl (by decide +kernel) ⟨Nat.le_of_ble_eq_true rfl, Nat.le_of_ble_eq_true rfl⟩) hX hP (ci := 4) (q0 := 0) rfl rfl rfl hl.1 rfl (Nat.le_of_ble_eq_true rfl) dX5_blackOnes_25 ⟨Nat.zero_le _, Nat.zero_le _⟩ (fun zv4 => ?_)
        refine lv_if_eq (tgt := 37) hx hb dX5_blackOnes_28 (by decide) (fun c5 => ?_) (fun c5 => ?_)
        · replace hf := ifT hf c5
          refine lv_iconst (v := 0) hx hb dX5_blackOnes_37 (by decide) ?_
          refine lv_ior hx hb dX5_blackOnes_38 ?_
          refine lv_istore_n (lv' := [(1, .int (x1q4 ||| 0)), (0, .ref g.1), (2, .int x2q4)]) hx hb dX5_blackOnes_39 rfl hl (by decide) rfl (fun ls hl => ?_)
          refine lv_iinc (v := (x2q4 + 1)) (lv' := [(2, .int (x2q4 + 1)), (1, .int (x1q4 ||| 0)), (0, .ref g.1)]) hx hb dX5_blackOnes_40 hl (k := 2) rfl rfl (by decide) rfl (fun ls hl => ?_)
          refine lv_goto (tgt := 4) hx hb dX5_blackOnes_43 (by decide) ?_
          exact ih4 _ _  _ hf (lv_sub hl [2, 1, 0] rfl)
        · replace hf := ifF hf c5
          refine lv_iconst (v := 1) hx hb dX5_blackOnes_31 (by decide) ?_
          refine lv_iload_n hx hb dX5_blackOnes_32 rfl (lv_at hl 2 rfl) ?_
          refine xx_ishl hx hb dX5_blackOnes_33 ?_
          refine lv_goto (tgt := 38) hx hb dX5_blackOnes_34 (by decide) ?_
          refine lv_ior hx hb dX5_blackOnes_38 ?_
          refine lv_istore_n (lv' := [(1, .int (x1q4 ||| (jshl 1 x2q4))), (0, .ref g.1), (2, .int x2q4)]) hx hb dX5_blackOnes_39 rfl hl (by decide) rfl (fun ls hl => ?_)
          refine lv_iinc (v := (x2q4 + 1)) (lv' := [(2, .int (x2q4 + 1)), (1, .int (x1q4 ||| (jshl 1 x2q4))), (0, .ref g.1)]) hx hb dX5_blackOnes_40 hl (k := 2) rfl rfl (by decide) rfl (fun ls hl => ?_)
          refine lv_goto (tgt := 4) hx hb dX5_blackOnes_43 (by decide) ?_
          exact ih4 _ _  _ hf (lv_sub hl [2, 1, 0] rfl)
  exact L4 k _ _ _ hf (lv_sub hl [2, 1, 0] rfl)

/-! ===== X5_bits ===== -/
def p_X5_bits_L4 (k : Nat) : Nat → (Int32) → (Int32) → Option (Int32)
  | 0, _, _ => none
  | n + 1, x1, x2 =>
    if x2 = 0 then (some x1) else (p_X5_bits_L4 k n (x1 + 1) (x2 &&& (x2 - 1)))

def p_X5_bits (k : Nat) (x0 : Int32) : Option (Int32) :=
  p_X5_bits_L4 k k 0 x0

set_option maxHeartbeats 4000000 in
set_option maxRecDepth 100000 in
theorem c_X5_bits {l : Launch} {D : va_G} {ks : K3} (k : Nat) (x0 : Int32) (r : Int32) (hf : p_X5_bits k x0 = some r) : MetR l yX5_bits wsX5_bits { frames := 0, cells := 0, slots := 0, locals := 0 } D ks [.int x0] [] r True := by
  refine MetR.of (cc := cX5_bits) (maxL := 3) (ret := (some .int)) (by decide +kernel) rfl (Nat.le_of_ble_eq_true rfl) ?_ ⟨_, rfl⟩
  intro p e s m below meth c Q hx hb hml hts hown hP hX hret ls hl
  have hK := hX.1
  replace hl : lv_has ls 3 [(0, .int x0)] := hl
  unfold p_X5_bits at hf
  refine lv_iconst (v := 0) hx hb dX5_bits_0 (by decide) ?_
  refine lv_istore_n (lv' := [(1, .int 0), (0, .int x0)]) hx hb dX5_bits_1 rfl hl (by decide) rfl (fun ls hl => ?_)
  refine lv_iload_n hx hb dX5_bits_2 rfl (lv_at hl 1 rfl) ?_
  refine lv_istore_n (lv' := [(2, .int x0), (1, .int 0), (0, .int x0)]) hx hb dX5_bits_3 rfl hl (by decide) rfl (fun ls hl => ?_)
  have L4 : ∀ (n : Nat) (x1q4 : Int32) (x2q4 : Int32) (ls : Array Slot), p_X5_bits_L4 k n x1q4 x2q4 = some r → lv_has ls 3 [(1, .int x1q4), (2, .int x2q4)] → W p l e { frames := 0, cells := 0, slots := 0, locals := 0 } s m ([.int x0] : List Value).toArray below meth c s.heap [] 0 0 Q (F0 m 4 ls []) := by
    intro n
    induction n with
    | zero => intro x1q4 x2q4 ls hf; cases hf
    | succ n ih4 =>
      intro x1q4 x2q4 ls hf hl
      rw [p_X5_bits_L4] at hf
      refine lv_iload_n hx hb dX5_bits_4 rfl (lv_at hl 1 rfl) ?_
      refine lv_if_eq (tgt := 20) hx hb dX5_bits_5 (by decide) (fun c1 => ?_) (fun c1 => ?_)
      · replace hf := ifT hf c1
        refine lv_iload_n hx hb dX5_bits_20 rfl (lv_at hl 0 rfl) ?_
        obtain rfl := Option.some.inj hf
        exact hret trivial _ _ dX5_bits_21 (fun ty h => by cases h; rfl)
      · replace hf := ifF hf c1
        refine lv_iinc (v := (x1q4 + 1)) (lv' := [(1, .int (x1q4 + 1)), (2, .int x2q4)]) hx hb dX5_bits_8 hl (k := 0) rfl rfl (by decide) rfl (fun ls hl => ?_)
        refine lv_iload_n hx hb dX5_bits_11 rfl (lv_at hl 1 rfl) ?_
        refine lv_iload_n hx hb dX5_bits_12 rfl (lv_at hl 1 rfl) ?_
        refine lv_iconst (v := 1) hx hb dX5_bits_13 (by decide) ?_
        refine lv_isub hx hb dX5_bits_14 ?_
        refine lv_iand hx hb dX5_bits_15 ?_
        refine lv_istore_n (lv' := [(2, .int (x2q4 &&& (x2q4 - 1))), (1, .int (x1q4 + 1))]) hx hb dX5_bits_16 rfl hl (by decide) rfl (fun ls hl => ?_)
        refine lv_goto (tgt := 4) hx hb dX5_bits_17 (by decide) ?_
        exact ih4 _ _  _ hf (lv_sub hl [1, 0] rfl)
  exact L4 k _ _ _ hf (lv_sub hl [1, 0] rfl)

/-! ===== X5_bursts ===== -/
def p_X5_bursts (k : Nat) (M : MD) (x1 : Int32) (x2 : Int32) : Option (MD) :=
  (ast (MD.st M) 44 10 x1).bind fun f1 => (ast f1 44 11 x2).bind fun f2 => (ald f2 44 1).bind fun v3 => (ast f2 44 12 v3).bind fun f4 => (ald f4 44 8).bind fun v5 => (ast f4 44 8 (v5 + 1)).bind fun f6 => (ald f6 44 6).bind fun v7 => (p_X5_liquid k (mkMD f6 (MD.past M) (MD.aside M) (MD.text M) (MD.pasts M) (MD.length M) (MD.spot M) (MD.itsThickness M) (MD.itsRows M) (MD.from_ M))).bind fun v8 => (ast f6 44 6 (v7 + v8)).bind fun f9 => (ast f9 44 0 0).bind fun f10 => some (mkMD f10 (MD.past M) (MD.aside M) (MD.text M) (MD.pasts M) (MD.length M) (MD.spot M) (MD.itsThickness M) (MD.itsRows M) (MD.from_ M))

set_option maxHeartbeats 4000000 in
set_option maxRecDepth 100000 in
theorem c_X5_bursts {l : Launch} {D : va_G} {ks : K3} (k : Nat) (g : AM) (M : MD) (x1 : Int32) (x2 : Int32) (rM : MD) (hf : p_X5_bursts k M x1 x2 = some rM) : MetV l yX5_bursts wsX5_bursts { frames := 1, cells := 0, slots := 0, locals := 22 } D ks [.ref g.1, .int x1, .int x2] (wM ks g M) (wM ks g rM) := by
  refine MetV.of (cc := cX5_bursts) (maxL := 3) (by decide +kernel) rfl (Nat.le_of_ble_eq_true rfl) ?_
  intro p e s m below meth c Q A hx hb hml hts hown hP hX hD hA hret ls hl
  have hK := hX.1
  replace hl : lv_has ls 3 [(0, .ref g.1), (1, .int x1), (2, .int x2)] := hl
  have hS : va_S A s.heap s.heap [] := va_S.rf
  have hiX5 : ∀ w ∈ wsX50, w ∈ wsX5_bursts := by decide +kernel
  have hk7 := hts (.fieldLink RX5 7 "SoapFilmModel" "st" "[I") (by decide +kernel)
  unfold p_X5_bursts at hf
  refine lv_aload_n hx hb dX5_bursts_0 rfl (lv_at hl 0 rfl) ?_
  refine va_get (v := .ref g.2.1) (C := RX5) (T := TX5) (N := 10) hx hb hts hiX5 hown hK hP 0 rfl rfl 0 (by decide) hk7 (fun _ h9 => h9) rfl dX5_bursts_1 ?_
  refine lv_bipush (v := 10) hx hb dX5_bursts_4 (by decide) ?_
  refine lv_iload_n hx hb dX5_bursts_6 rfl (lv_at hl 1 rfl) ?_
  obtain ⟨f1, hf1, hf⟩ := bnd hf
  refine xa_iast (wn := (wM ks g (mkMD f1 (MD.past M) (MD.aside M) (MD.text M) (MD.pasts M) (MD.length M) (MD.spot M) (MD.itsThickness M) (MD.itsRows M) (MD.from_ M)))) hx hb hK hP hD hS hf1 1 0 rfl rfl dX5_bursts_7 rfl (fun H locs hP hD hS => ?_)
  refine lv_aload_n hx hb dX5_bursts_8 rfl (lv_at hl 0 rfl) ?_
  refine va_get (v := .ref g.2.1) (C := RX5) (T := TX5) (N := 10) hx hb hts hiX5 hown hK hP 0 rfl rfl 0 (by decide) hk7 (fun _ h9 => h9) rfl dX5_bursts_9 ?_
  refine lv_bipush (v := 11) hx hb dX5_bursts_12 (by decide) ?_
  refine lv_iload_n hx hb dX5_bursts_14 rfl (lv_at hl 2 rfl) ?_
  obtain ⟨f2, hf2, hf⟩ := bnd hf
  refine xa_iast (wn := (wM ks g (mkMD f2 (MD.past M) (MD.aside M) (MD.text M) (MD.pasts M) (MD.length M) (MD.spot M) (MD.itsThickness M) (MD.itsRows M) (MD.from_ M)))) hx hb hK hP hD hS hf2 1 0 rfl rfl dX5_bursts_15 rfl (fun H locs hP hD hS => ?_)
  refine lv_aload_n hx hb dX5_bursts_16 rfl (lv_at hl 0 rfl) ?_
  refine va_get (v := .ref g.2.1) (C := RX5) (T := TX5) (N := 10) hx hb hts hiX5 hown hK hP 0 rfl rfl 0 (by decide) hk7 (fun _ h9 => h9) rfl dX5_bursts_17 ?_
  refine lv_bipush (v := 12) hx hb dX5_bursts_20 (by decide) ?_
  refine lv_aload_n hx hb dX5_bursts_22 rfl (lv_at hl 0 rfl) ?_
  refine va_get (v := .ref g.2.1) (C := RX5) (T := TX5) (N := 10) hx hb hts hiX5 hown hK hP 0 rfl rfl 0 (by decide) hk7 (fun _ h9 => h9) rfl dX5_bursts_23 ?_
  refine lv_iconst (v := 1) hx hb dX5_bursts_26 (by decide) ?_
  obtain ⟨v3, hv3, hf⟩ := bnd hf
  refine xa_iald hx hb hK hP hv3 1 0 rfl rfl dX5_bursts_27 ?_
  obtain ⟨f4, hf4, hf⟩ := bnd hf
  refine xa_iast (wn := (wM ks g (mkMD f4 (MD.past M) (MD.aside M) (MD.text M) (MD.pasts M) (MD.length M) (MD.spot M) (MD.itsThickness M) (MD.itsRows M) (MD.from_ M)))) hx hb hK hP hD hS hf4 1 0 rfl rfl dX5_bursts_28 rfl (fun H locs hP hD hS => ?_)
  refine lv_aload_n hx hb dX5_bursts_29 rfl (lv_at hl 0 rfl) ?_
  refine va_get (v := .ref g.2.1) (C := RX5) (T := TX5) (N := 10) hx hb hts hiX5 hown hK hP 0 rfl rfl 0 (by decide) hk7 (fun _ h9 => h9) rfl dX5_bursts_30 ?_
  refine lv_bipush (v := 8) hx hb dX5_bursts_33 (by decide) ?_
  refine lv_dup2_11 hx hb dX5_bursts_35 rfl rfl ?_
  obtain ⟨v5, hv5, hf⟩ := bnd hf
  refine xa_iald hx hb hK hP hv5 1 0 rfl rfl dX5_bursts_36 ?_
  refine lv_iconst (v := 1) hx hb dX5_bursts_37 (by decide) ?_
  refine lv_iadd hx hb dX5_bursts_38 ?_
  obtain ⟨f6, hf6, hf⟩ := bnd hf
  refine xa_iast (wn := (wM ks g (mkMD f6 (MD.past M) (MD.aside M) (MD.text M) (MD.pasts M) (MD.length M) (MD.spot M) (MD.itsThickness M) (MD.itsRows M) (MD.from_ M)))) hx hb hK hP hD hS hf6 1 0 rfl rfl dX5_bursts_39 rfl (fun H locs hP hD hS => ?_)
  refine lv_aload_n hx hb dX5_bursts_40 rfl (lv_at hl 0 rfl) ?_
  refine va_get (v := .ref g.2.1) (C := RX5) (T := TX5) (N := 10) hx hb hts hiX5 hown hK hP 0 rfl rfl 0 (by decide) hk7 (fun _ h9 => h9) rfl dX5_bursts_41 ?_
  refine lv_bipush (v := 6) hx hb dX5_bursts_44 (by decide) ?_
  refine lv_dup2_11 hx hb dX5_bursts_46 rfl rfl ?_
  obtain ⟨v7, hv7, hf⟩ := bnd hf
  refine xa_iald hx hb hK hP hv7 1 0 rfl rfl dX5_bursts_47 ?_
  refine lv_aload_n hx hb dX5_bursts_48 rfl (lv_at hl 0 rfl) ?_
  obtain ⟨v8, hv8, hf⟩ := bnd hf
  refine xcallRV (As := []) (rest := [.int v7, .int 6, .ref g.2.1]) (wc := (wM ks g (mkMD f6 (MD.past M) (MD.aside M) (MD.text M) (MD.pasts M) (MD.length M) (MD.spot M) (MD.itsThickness M) (MD.itsRows M) (MD.from_ M)))) ⟨hx, hb, hml, hown, hts⟩ (c_X5_liquid k g (mkMD f6 (MD.past M) (MD.aside M) (MD.text M) (MD.pasts M) (MD.length M) (MD.spot M) (MD.itsThickness M) (MD.itsRows M) (MD.from_ M)) v8 hv8) (cwV 0 hts gX5_bursts_X5_liquid rfl rfl rfl (by decide +kernel) ⟨Nat.le_of_ble_eq_true rfl, Nat.le_of_ble_eq_true rfl⟩) hX hP (ci := 4) (q0 := 0) rfl rfl rfl hl.1 rfl (Nat.le_of_ble_eq_true rfl) dX5_bursts_49 ⟨Nat.zero_le _, Nat.zero_le _⟩ (fun zv8 => ?_)
  refine lv_iadd hx hb dX5_bursts_52 ?_
  obtain ⟨f9, hf9, hf⟩ := bnd hf
  refine xa_iast (wn := (wM ks g (mkMD f9 (MD.past M) (MD.aside M) (MD.text M) (MD.pasts M) (MD.length M) (MD.spot M) (MD.itsThickness M) (MD.itsRows M) (MD.from_ M)))) hx hb hK hP hD hS hf9 1 0 rfl rfl dX5_bursts_53 rfl (fun H locs hP hD hS => ?_)
  refine lv_aload_n hx hb dX5_bursts_54 rfl (lv_at hl 0 rfl) ?_
  refine va_get (v := .ref g.2.1) (C := RX5) (T := TX5) (N := 10) hx hb hts hiX5 hown hK hP 0 rfl rfl 0 (by decide) hk7 (fun _ h9 => h9) rfl dX5_bursts_55 ?_
  refine lv_iconst (v := 0) hx hb dX5_bursts_58 (by decide) ?_
  refine lv_iconst (v := 0) hx hb dX5_bursts_59 (by decide) ?_
  obtain ⟨f10, hf10, hf⟩ := bnd hf
  refine xa_iast (wn := (wM ks g (mkMD f10 (MD.past M) (MD.aside M) (MD.text M) (MD.pasts M) (MD.length M) (MD.spot M) (MD.itsThickness M) (MD.itsRows M) (MD.from_ M)))) hx hb hK hP hD hS hf10 1 0 rfl rfl dX5_bursts_60 rfl (fun H locs hP hD hS => ?_)
  obtain rfl := Option.some.inj hf
  exact hret _ _ _ _ dX5_bursts_61 hP hD hS

/-! ===== X5_mayBurst ===== -/
def p_X5_mayBurst_L2 (k : Nat) (M : MD) : Nat → (Int32) → Option (MD)
  | 0, _ => none
  | n + 1, x1 =>
    (ald (MD.st M) 44 0).bind fun v1 => if v1 ≤ x1 then ((p_X5_blackOnes k M).bind fun v3 => (p_X5_bits k v3).bind fun v4 => (p_X5_of k M 5).bind fun v5 => if v4 ≤ v5 then (some M) else ((p_X5_bursts k M 2 v4).bind fun M7 => some M7)) else ((ald (MD.st M) 44 (20 + x1)).bind fun v8 => (p_X5_of k M 4).bind fun v9 => if v9 ≤ v8 then (p_X5_mayBurst_L2 k M n (x1 + 1)) else ((p_X5_bursts k M 1 x1).bind fun M11 => some M11))

def p_X5_mayBurst (k : Nat) (M : MD) : Option (MD) :=
  p_X5_mayBurst_L2 k M k 0

set_option maxHeartbeats 4000000 in
set_option maxRecDepth 100000 in
theorem c_X5_mayBurst {l : Launch} {D : va_G} {ks : K3} (k : Nat) (g : AM) (M : MD) (rM : MD) (hf : p_X5_mayBurst k M = some rM) : MetV l yX5_mayBurst wsX5_mayBurst { frames := 3, cells := 0, slots := 0, locals := 64 } D ks [.ref g.1] (wM ks g M) (wM ks g rM) := by
  refine MetV.of (cc := cX5_mayBurst) (maxL := 2) (by decide +kernel) rfl (Nat.le_of_ble_eq_true rfl) ?_
  intro p e s m below meth c Q A hx hb hml hts hown hP hX hD hA hret ls hl
  have hK := hX.1
  replace hl : lv_has ls 2 [(0, .ref g.1)] := hl
  have hS : va_S A s.heap s.heap [] := va_S.rf
  have hiX5 : ∀ w ∈ wsX50, w ∈ wsX5_mayBurst := by decide +kernel
  have hk7 := hts (.fieldLink RX5 7 "SoapFilmModel" "st" "[I") (by decide +kernel)
  unfold p_X5_mayBurst at hf
  refine lv_iconst (v := 0) hx hb dX5_mayBurst_0 (by decide) ?_
  refine lv_istore_n (lv' := [(1, .int 0), (0, .ref g.1)]) hx hb dX5_mayBurst_1 rfl hl (by decide) rfl (fun ls hl => ?_)
  have L2 : ∀ (n : Nat) (x1q2 : Int32) (H : Heap) (locs : List Loc) (ls : Array Slot), p_X5_mayBurst_L2 k M n x1q2 = some rM → va_P D vwCl (wM ks g M) H → va_D A (wM ks g M) → va_S A s.heap H locs → lv_has ls 2 [(0, .ref g.1), (1, .int x1q2)] → W p l e { frames := 3, cells := 0, slots := 0, locals := 64 } s m ([.ref g.1] : List Value).toArray below meth c H locs 0 0 Q (F0 m 2 ls []) := by
    intro n
    induction n with
    | zero => intro x1q2 H locs ls hf; cases hf
    | succ n ih2 =>
      intro x1q2 H locs ls hf hP hD hS hl
      rw [p_X5_mayBurst_L2] at hf
      refine lv_iload_n hx hb dX5_mayBurst_2 rfl (lv_at hl 1 rfl) ?_
      refine lv_aload_n hx hb dX5_mayBurst_3 rfl (lv_at hl 0 rfl) ?_
      refine va_get (v := .ref g.2.1) (C := RX5) (T := TX5) (N := 10) hx hb hts hiX5 hown hK hP 0 rfl rfl 0 (by decide) hk7 (fun _ h9 => h9) rfl dX5_mayBurst_4 ?_
      refine lv_iconst (v := 0) hx hb dX5_mayBurst_7 (by decide) ?_
      obtain ⟨v1, hv1, hf⟩ := bnd hf
      refine xa_iald hx hb hK hP hv1 1 0 rfl rfl dX5_mayBurst_8 ?_
      refine lv_icmp_ge (tgt := 42) hx hb dX5_mayBurst_9 (by decide) (fun c2 => ?_) (fun c2 => ?_)
      · replace hf := ifT hf c2
        refine lv_aload_n hx hb dX5_mayBurst_42 rfl (lv_at hl 0 rfl) ?_
        obtain ⟨v3, hv3, hf⟩ := bnd hf
        refine xcallRV (As := []) (rest := []) (wc := (wM ks g M)) ⟨hx, hb, hml, hown, hts⟩ (c_X5_blackOnes k g M v3 hv3) (cwV 0 hts gX5_mayBurst_X5_blackOnes rfl rfl rfl (by decide +kernel) ⟨Nat.le_of_ble_eq_true rfl, Nat.le_of_ble_eq_true rfl⟩) hX hP (ci := 4) (q0 := 0) rfl rfl rfl hl.1 rfl (Nat.le_of_ble_eq_true rfl) dX5_mayBurst_43 ⟨Nat.zero_le _, Nat.zero_le _⟩ (fun zv3 => ?_)
        obtain ⟨v4, hv4, hf⟩ := bnd hf
        refine xcallRS (As := [.int v3]) (rest := []) (wc := []) ⟨hx, hb, hml, hown, hts⟩ (c_X5_bits k v3 v4 hv4) (va_cwS 1 hts gX5_mayBurst_X5_bits rfl rfl rfl (by decide +kernel) ⟨Nat.le_of_ble_eq_true rfl, Nat.le_of_ble_eq_true rfl⟩) hX (va_P0 _ _ _) rfl hl.1 rfl (Nat.le_of_ble_eq_true rfl) dX5_mayBurst_46 ⟨Nat.zero_le _, Nat.zero_le _⟩ (fun zv4 => ?_)
        refine lv_istore_n (lv' := [(1, .int v4), (0, .ref g.1)]) hx hb dX5_mayBurst_49 rfl hl (by decide) rfl (fun ls hl => ?_)
        refine lv_iload_n hx hb dX5_mayBurst_50 rfl (lv_at hl 0 rfl) ?_
        refine lv_aload_n hx hb dX5_mayBurst_51 rfl (lv_at hl 1 rfl) ?_
        refine lv_iconst (v := 5) hx hb dX5_mayBurst_52 (by decide) ?_
        obtain ⟨v5, hv5, hf⟩ := bnd hf
        refine xcallRV (As := [.int 5]) (rest := [.int v4]) (wc := (wM ks g M)) ⟨hx, hb, hml, hown, hts⟩ (c_X5_of k g M 5 v5 hv5) (cwV 1 hts gX5_mayBurst_X5_of rfl rfl rfl (by decide +kernel) ⟨Nat.le_of_ble_eq_true rfl, Nat.le_of_ble_eq_true rfl⟩) hX hP (ci := 4) (q0 := 0) rfl rfl rfl hl.1 rfl (Nat.le_of_ble_eq_true rfl) dX5_mayBurst_53 ⟨Nat.zero_le _, Nat.zero_le _⟩ (fun zv5 => ?_)
        refine lv_icmp_le (tgt := 65) hx hb dX5_mayBurst_56 (by decide) (fun c6 => ?_) (fun c6 => ?_)
        · replace hf := ifT hf c6
          obtain rfl := Option.some.inj hf
          exact hret _ _ _ _ dX5_mayBurst_65 hP hD hS
        · replace hf := ifF hf c6
          refine lv_aload_n hx hb dX5_mayBurst_59 rfl (lv_at hl 1 rfl) ?_
          refine lv_iconst (v := 2) hx hb dX5_mayBurst_60 (by decide) ?_
          refine lv_iload_n hx hb dX5_mayBurst_61 rfl (lv_at hl 0 rfl) ?_
          obtain ⟨M7, hM7, hf⟩ := bnd hf
          refine xcallV (As := [.int 2, .int v4]) (rest := []) (wc := (wM ks g M)) (w1 := (wM ks g M7)) (wr := ([] : va_W)) (wn := (wM ks g M7)) ⟨hx, hb, hml, hown, hts⟩ (c_X5_bursts k g M 2 v4 M7 hM7) (cwV 2 hts gX5_mayBurst_X5_bursts rfl rfl rfl (by decide +kernel) ⟨Nat.le_of_ble_eq_true rfl, Nat.le_of_ble_eq_true rfl⟩) hX hP hD hS hA [0, 1, 2, 3, 4] [] [0, 1, 2, 3, 4] rfl rfl rfl ⟨by decide, by decide, by decide⟩ (by decide) (ci := 4) (q0 := 0) rfl rfl rfl hl.1 rfl (Nat.le_of_ble_eq_true rfl) dX5_mayBurst_62 ⟨Nat.zero_le _, Nat.zero_le _⟩ (fun H locs hP hD hS => ?_)
          obtain rfl := Option.some.inj hf
          exact hret _ _ _ _ dX5_mayBurst_65 hP hD hS
      · replace hf := ifF hf c2
        refine lv_aload_n hx hb dX5_mayBurst_12 rfl (lv_at hl 0 rfl) ?_
        refine va_get (v := .ref g.2.1) (C := RX5) (T := TX5) (N := 10) hx hb hts hiX5 hown hK hP 0 rfl rfl 0 (by decide) hk7 (fun _ h9 => h9) rfl dX5_mayBurst_13 ?_
        refine lv_bipush (v := 20) hx hb dX5_mayBurst_16 (by decide) ?_
        refine lv_iload_n hx hb dX5_mayBurst_18 rfl (lv_at hl 1 rfl) ?_
        refine lv_iadd hx hb dX5_mayBurst_19 ?_
        obtain ⟨v8, hv8, hf⟩ := bnd hf
        refine xa_iald hx hb hK hP hv8 1 0 rfl rfl dX5_mayBurst_20 ?_
        refine lv_aload_n hx hb dX5_mayBurst_21 rfl (lv_at hl 0 rfl) ?_
        refine lv_iconst (v := 4) hx hb dX5_mayBurst_22 (by decide) ?_
        obtain ⟨v9, hv9, hf⟩ := bnd hf
        refine xcallRV (As := [.int 4]) (rest := [.int v8]) (wc := (wM ks g M)) ⟨hx, hb, hml, hown, hts⟩ (c_X5_of k g M 4 v9 hv9) (cwV 1 hts gX5_mayBurst_X5_of rfl rfl rfl (by decide +kernel) ⟨Nat.le_of_ble_eq_true rfl, Nat.le_of_ble_eq_true rfl⟩) hX hP (ci := 4) (q0 := 0) rfl rfl rfl hl.1 rfl (Nat.le_of_ble_eq_true rfl) dX5_mayBurst_23 ⟨Nat.zero_le _, Nat.zero_le _⟩ (fun zv9 => ?_)
        refine lv_icmp_ge (tgt := 36) hx hb dX5_mayBurst_26 (by decide) (fun c10 => ?_) (fun c10 => ?_)
        · replace hf := ifT hf c10
          refine lv_iinc (v := (x1q2 + 1)) (lv' := [(1, .int (x1q2 + 1)), (0, .ref g.1)]) hx hb dX5_mayBurst_36 hl (k := 1) rfl rfl (by decide) rfl (fun ls hl => ?_)
          refine lv_goto (tgt := 2) hx hb dX5_mayBurst_39 (by decide) ?_
          exact ih2 _  _ _ _ hf hP hD hS (lv_sub hl [1, 0] rfl)
        · replace hf := ifF hf c10
          refine lv_aload_n hx hb dX5_mayBurst_29 rfl (lv_at hl 0 rfl) ?_
          refine lv_iconst (v := 1) hx hb dX5_mayBurst_30 (by decide) ?_
          refine lv_iload_n hx hb dX5_mayBurst_31 rfl (lv_at hl 1 rfl) ?_
          obtain ⟨M11, hM11, hf⟩ := bnd hf
          refine xcallV (As := [.int 1, .int x1q2]) (rest := []) (wc := (wM ks g M)) (w1 := (wM ks g M11)) (wr := ([] : va_W)) (wn := (wM ks g M11)) ⟨hx, hb, hml, hown, hts⟩ (c_X5_bursts k g M 1 x1q2 M11 hM11) (cwV 2 hts gX5_mayBurst_X5_bursts rfl rfl rfl (by decide +kernel) ⟨Nat.le_of_ble_eq_true rfl, Nat.le_of_ble_eq_true rfl⟩) hX hP hD hS hA [0, 1, 2, 3, 4] [] [0, 1, 2, 3, 4] rfl rfl rfl ⟨by decide, by decide, by decide⟩ (by decide) (ci := 4) (q0 := 0) rfl rfl rfl hl.1 rfl (Nat.le_of_ble_eq_true rfl) dX5_mayBurst_32 ⟨Nat.zero_le _, Nat.zero_le _⟩ (fun H locs hP hD hS => ?_)
          obtain rfl := Option.some.inj hf
          exact hret _ _ _ _ dX5_mayBurst_35 hP hD hS
  exact L2 k _ _ _ _ hf hP hD hS (lv_sub hl [1, 0] rfl)

/-! ===== X5_changesFilm ===== -/
def p_X5_changesFilm_L104 (k : Nat) : Nat → (MD) → (Int32) → Option (MD)
  | 0, _, _ => none
  | n + 1, M, x2 =>
    (ald (MD.st M) 44 0).bind fun v1 => if v1 ≤ x2 then ((ald (MD.st M) 44 2).bind fun v3 => (p_X5_of k M 6).bind fun v4 => if v3 < v4 then ((p_X5_mayBurst k M).bind fun M6 => some M6) else ((ald (MD.st M) 44 4).bind fun v7 => (ald (MD.st M) 44 2).bind fun v8 => (ast (MD.st M) 44 4 (v7 + v8)).bind fun f9 => (ast f9 44 2 0).bind fun f10 => (ald f10 44 9).bind fun v11 => (ast f10 44 9 (v11 + 1)).bind fun f12 => (p_X5_mayBurst k (mkMD f12 (MD.past M) (MD.aside M) (MD.text M) (MD.pasts M) (MD.length M) (MD.spot M) (MD.itsThickness M) (MD.itsRows M) (MD.from_ M))).bind fun M13 => some M13)) else ((p_X5_of k M 1).bind fun v14 => (ald (MD.st M) 44 (20 + x2)).bind fun v15 => (p_X5_lesser k v14 v15).bind fun v16 => (ald (MD.st M) 44 (20 + x2)).bind fun v17 => (ast (MD.st M) 44 (20 + x2) (v17 - v16)).bind fun f18 => (ald f18 44 5).bind fun v19 => (ast f18 44 5 (v19 + v16)).bind fun f20 => p_X5_changesFilm_L104 k n (mkMD f20 (MD.past M) (MD.aside M) (MD.text M) (MD.pasts M) (MD.length M) (MD.spot M) (MD.itsThickness M) (MD.itsRows M) (MD.from_ M)) (x2 + 1))

def p_X5_changesFilm_L56 (k : Nat) (y1 : Int32) : Nat → (MD) → (Int32) → Option (MD)
  | 0, _, _ => none
  | n + 1, M, x2 =>
    (ald (MD.st M) 44 0).bind fun v1 => if v1 ≤ x2 then (p_X5_changesFilm_L104 k k M 0) else (if ((jshr y1 x2) &&& 1) = 0 then (if ((jshr y1 (x2 - 1)) &&& 1) = 1 then ((p_X5_of k M 2).bind fun v25 => (p_X5_gives k M x2 (Int32.toInt64 v25)).bind fun M26 => p_X5_changesFilm_L56 k y1 n M26 (x2 + 1)) else (p_X5_changesFilm_L56 k y1 n M (x2 + 1))) else (p_X5_changesFilm_L56 k y1 n M (x2 + 1)))

def p_X5_changesFilm_L9 (k : Nat) : Nat → (MD) → (Int32) → Option (MD)
  | 0, _, _ => none
  | n + 1, M, x1 =>
    if x1 < 0 then ((p_X5_blackOnes k M).bind fun v2 => p_X5_changesFilm_L56 k v2 k M 1) else ((ald (MD.st M) 44 (20 + x1)).bind fun v29 => (p_X5_of k M 0).bind fun v30 => (p_X5_gives k M x1 ((((Int32.toInt64 v29) * (Int32.toInt64 v29)) * (Int32.toInt64 v30)) / 1000000)).bind fun M31 => p_X5_changesFilm_L9 k n M31 (x1 + (-1)))

def p_X5_changesFilm (k : Nat) (M : MD) : Option (MD) :=
  (ald (MD.st M) 44 0).bind fun v1 => p_X5_changesFilm_L9 k k M (v1 - 1)

set_option maxHeartbeats 4000000 in
set_option maxRecDepth 100000 in
theorem c_X5_changesFilm {l : Launch} {D : va_G} {ks : K3} (k : Nat) (g : AM) (M : MD) (rM : MD) (hf : p_X5_changesFilm k M = some rM) : MetV l yX5_changesFilm wsX5_changesFilm { frames := 4, cells := 0, slots := 0, locals := 85 } D ks [.ref g.1] (wM ks g M) (wM ks g rM) := by
  refine MetV.of (cc := cX5_changesFilm) (maxL := 4) (by decide +kernel) rfl (Nat.le_of_ble_eq_true rfl) ?_
  intro p e s m below meth c Q A hx hb hml hts hown hP hX hD hA hret ls hl
  have hK := hX.1
  replace hl : lv_has ls 4 [(0, .ref g.1)] := hl
  have hS : va_S A s.heap s.heap [] := va_S.rf
  have hiX5 : ∀ w ∈ wsX50, w ∈ wsX5_changesFilm := by decide +kernel
  have hk7 := hts (.fieldLink RX5 7 "SoapFilmModel" "st" "[I") (by decide +kernel)
  have hc83 := hts (.constantLong RX5 83 (1000000)) (by decide +kernel)
  unfold p_X5_changesFilm at hf
  refine lv_aload_n hx hb dX5_changesFilm_0 rfl (lv_at hl 0 rfl) ?_
  refine va_get (v := .ref g.2.1) (C := RX5) (T := TX5) (N := 10) hx hb hts hiX5 hown hK hP 0 rfl rfl 0 (by decide) hk7 (fun _ h9 => h9) rfl dX5_changesFilm_1 ?_
  refine lv_iconst (v := 0) hx hb dX5_changesFilm_4 (by decide) ?_
  obtain ⟨v1, hv1, hf⟩ := bnd hf
  refine xa_iald hx hb hK hP hv1 1 0 rfl rfl dX5_changesFilm_5 ?_
  refine lv_iconst (v := 1) hx hb dX5_changesFilm_6 (by decide) ?_
  refine lv_isub hx hb dX5_changesFilm_7 ?_
  refine lv_istore_n (lv' := [(1, .int (v1 - 1)), (0, .ref g.1)]) hx hb dX5_changesFilm_8 rfl hl (by decide) rfl (fun ls hl => ?_)
  have L9 : ∀ (n : Nat) (Mq9 : MD) (x1q9 : Int32) (H : Heap) (locs : List Loc) (ls : Array Slot), p_X5_changesFilm_L9 k n Mq9 x1q9 = some rM → va_P D vwCl (wM ks g Mq9) H → va_D A (wM ks g Mq9) → va_S A s.heap H locs → lv_has ls 4 [(0, .ref g.1), (1, .int x1q9)] → W p l e { frames := 4, cells := 0, slots := 0, locals := 85 } s m ([.ref g.1] : List Value).toArray below meth c H locs 0 0 Q (F0 m 9 ls []) := by
    intro n
    induction n with
    | zero => intro Mq9 x1q9 H locs ls hf; cases hf
    | succ n ih9 =>
      intro Mq9 x1q9 H locs ls hf hP hD hS hl
      rw [p_X5_changesFilm_L9] at hf
      refine lv_iload_n hx hb dX5_changesFilm_9 rfl (lv_at hl 1 rfl) ?_
      refine lv_if_lt (tgt := 49) hx hb dX5_changesFilm_10 (by decide) (fun c2 => ?_) (fun c2 => ?_)
      · replace hf := ifT hf c2
        refine lv_aload_n hx hb dX5_changesFilm_49 rfl (lv_at hl 0 rfl) ?_
        obtain ⟨v3, hv3, hf⟩ := bnd hf
        refine xcallRV (As := []) (rest := []) (wc := (wM ks g Mq9)) ⟨hx, hb, hml, hown, hts⟩ (c_X5_blackOnes k g Mq9 v3 hv3) (cwV 0 hts gX5_changesFilm_X5_blackOnes rfl rfl rfl (by decide +kernel) ⟨Nat.le_of_ble_eq_true rfl, Nat.le_of_ble_eq_true rfl⟩) hX hP (ci := 4) (q0 := 0) rfl rfl rfl hl.1 rfl (Nat.le_of_ble_eq_true rfl) dX5_changesFilm_50 ⟨Nat.zero_le _, Nat.zero_le _⟩ (fun zv3 => ?_)
        refine lv_istore_n (lv' := [(1, .int v3), (0, .ref g.1)]) hx hb dX5_changesFilm_53 rfl hl (by decide) rfl (fun ls hl => ?_)
        refine lv_iconst (v := 1) hx hb dX5_changesFilm_54 (by decide) ?_
        refine lv_istore_n (lv' := [(2, .int 1), (1, .int v3), (0, .ref g.1)]) hx hb dX5_changesFilm_55 rfl hl (by decide) rfl (fun ls hl => ?_)
        have L56 : ∀ (n : Nat) (Mq56 : MD) (x2q56 : Int32) (H : Heap) (locs : List Loc) (ls : Array Slot), p_X5_changesFilm_L56 k v3 n Mq56 x2q56 = some rM → va_P D vwCl (wM ks g Mq56) H → va_D A (wM ks g Mq56) → va_S A s.heap H locs → lv_has ls 4 [(0, .ref g.1), (1, .int v3), (2, .int x2q56)] → W p l e { frames := 4, cells := 0, slots := 0, locals := 85 } s m ([.ref g.1] : List Value).toArray below meth c H locs 0 0 Q (F0 m 56 ls []) := by
          intro n
          induction n with
          | zero => intro Mq56 x2q56 H locs ls hf; cases hf
          | succ n ih56 =>
            intro Mq56 x2q56 H locs ls hf hP hD hS hl
            rw [p_X5_changesFilm_L56] at hf
            refine lv_iload_n hx hb dX5_changesFilm_56 rfl (lv_at hl 2 rfl) ?_
            refine lv_aload_n hx hb dX5_changesFilm_57 rfl (lv_at hl 0 rfl) ?_
            refine va_get (v := .ref g.2.1) (C := RX5) (T := TX5) (N := 10) hx hb hts hiX5 hown hK hP 0 rfl rfl 0 (by decide) hk7 (fun _ h9 => h9) rfl dX5_changesFilm_58 ?_
            refine lv_iconst (v := 0) hx hb dX5_changesFilm_61 (by decide) ?_
            obtain ⟨v4, hv4, hf⟩ := bnd hf
            refine xa_iald hx hb hK hP hv4 1 0 rfl rfl dX5_changesFilm_62 ?_
            refine lv_icmp_ge (tgt := 102) hx hb dX5_changesFilm_63 (by decide) (fun c5 => ?_) (fun c5 => ?_)
            · replace hf := ifT hf c5
              refine lv_iconst (v := 0) hx hb dX5_changesFilm_102 (by decide) ?_
              refine lv_istore_n (lv' := [(2, .int 0), (0, .ref g.1), (1, .int v3)]) hx hb dX5_changesFilm_103 rfl hl (by decide) rfl (fun ls hl => ?_)
              have L104 : ∀ (n : Nat) (Mq104 : MD) (x2q104 : Int32) (H : Heap) (locs : List Loc) (ls : Array Slot), p_X5_changesFilm_L104 k n Mq104 x2q104 = some rM → va_P D vwCl (wM ks g Mq104) H → va_D A (wM ks g Mq104) → va_S A s.heap H locs → lv_has ls 4 [(0, .ref g.1), (2, .int x2q104)] → W p l e { frames := 4, cells := 0, slots := 0, locals := 85 } s m ([.ref g.1] : List Value).toArray below meth c H locs 0 0 Q (F0 m 104 ls []) := by
                intro n
                induction n with
                | zero => intro Mq104 x2q104 H locs ls hf; cases hf
                | succ n ih104 =>
                  intro Mq104 x2q104 H locs ls hf hP hD hS hl
                  rw [p_X5_changesFilm_L104] at hf
                  refine lv_iload_n hx hb dX5_changesFilm_104 rfl (lv_at hl 1 rfl) ?_
                  refine lv_aload_n hx hb dX5_changesFilm_105 rfl (lv_at hl 0 rfl) ?_
                  refine va_get (v := .ref g.2.1) (C := RX5) (T := TX5) (N := 10) hx hb hts hiX5 hown hK hP 0 rfl rfl 0 (by decide) hk7 (fun _ h9 => h9) rfl dX5_changesFilm_106 ?_
                  refine lv_iconst (v := 0) hx hb dX5_changesFilm_109 (by decide) ?_
                  obtain ⟨v6, hv6, hf⟩ := bnd hf
                  refine xa_iald hx hb hK hP hv6 1 0 rfl rfl dX5_changesFilm_110 ?_
                  refine lv_icmp_ge (tgt := 161) hx hb dX5_changesFilm_111 (by decide) (fun c7 => ?_) (fun c7 => ?_)
                  · replace hf := ifT hf c7
                    refine lv_aload_n hx hb dX5_changesFilm_161 rfl (lv_at hl 0 rfl) ?_
                    refine va_get (v := .ref g.2.1) (C := RX5) (T := TX5) (N := 10) hx hb hts hiX5 hown hK hP 0 rfl rfl 0 (by decide) hk7 (fun _ h9 => h9) rfl dX5_changesFilm_162 ?_
                    refine lv_iconst (v := 2) hx hb dX5_changesFilm_165 (by decide) ?_
                    obtain ⟨v8, hv8, hf⟩ := bnd hf
                    refine xa_iald hx hb hK hP hv8 1 0 rfl rfl dX5_changesFilm_166 ?_
                    refine lv_aload_n hx hb dX5_changesFilm_167 rfl (lv_at hl 0 rfl) ?_
                    refine lv_bipush (v := 6) hx hb dX5_changesFilm_168 (by decide) ?_
                    obtain ⟨v9, hv9, hf⟩ := bnd hf
                    refine xcallRV (As := [.int 6]) (rest := [.int v8]) (wc := (wM ks g Mq104)) ⟨hx, hb, hml, hown, hts⟩ (c_X5_of k g Mq104 6 v9 hv9) (cwV 1 hts gX5_changesFilm_X5_of rfl rfl rfl (by decide +kernel) ⟨Nat.le_of_ble_eq_true rfl, Nat.le_of_ble_eq_true rfl⟩) hX hP (ci := 4) (q0 := 0) rfl rfl rfl hl.1 rfl (Nat.le_of_ble_eq_true rfl) dX5_changesFilm_170 ⟨Nat.zero_le _, Nat.zero_le _⟩ (fun zv9 => ?_)
                    refine lv_icmp_lt (tgt := 209) hx hb dX5_changesFilm_173 (by decide) (fun c10 => ?_) (fun c10 => ?_)
                    · replace hf := ifT hf c10
                      refine lv_aload_n hx hb dX5_changesFilm_209 rfl (lv_at hl 0 rfl) ?_
                      obtain ⟨M11, hM11, hf⟩ := bnd hf
                      refine xcallV (As := []) (rest := []) (wc := (wM ks g Mq104)) (w1 := (wM ks g M11)) (wr := ([] : va_W)) (wn := (wM ks g M11)) ⟨hx, hb, hml, hown, hts⟩ (c_X5_mayBurst k g Mq104 M11 hM11) (cwV 0 hts gX5_changesFilm_X5_mayBurst rfl rfl rfl (by decide +kernel) ⟨Nat.le_of_ble_eq_true rfl, Nat.le_of_ble_eq_true rfl⟩) hX hP hD hS hA [0, 1, 2, 3, 4] [] [0, 1, 2, 3, 4] rfl rfl rfl ⟨by decide, by decide, by decide⟩ (by decide) (ci := 4) (q0 := 0) rfl rfl rfl hl.1 rfl (Nat.le_of_ble_eq_true rfl) dX5_changesFilm_210 ⟨Nat.zero_le _, Nat.zero_le _⟩ (fun H locs hP hD hS => ?_)
                      obtain rfl := Option.some.inj hf
                      exact hret _ _ _ _ dX5_changesFilm_213 hP hD hS
                    · replace hf := ifF hf c10
                      refine lv_aload_n hx hb dX5_changesFilm_176 rfl (lv_at hl 0 rfl) ?_
                      refine va_get (v := .ref g.2.1) (C := RX5) (T := TX5) (N := 10) hx hb hts hiX5 hown hK hP 0 rfl rfl 0 (by decide) hk7 (fun _ h9 => h9) rfl dX5_changesFilm_177 ?_
                      refine lv_iconst (v := 4) hx hb dX5_changesFilm_180 (by decide) ?_
                      refine lv_dup2_11 hx hb dX5_changesFilm_181 rfl rfl ?_
                      obtain ⟨v12, hv12, hf⟩ := bnd hf
                      refine xa_iald hx hb hK hP hv12 1 0 rfl rfl dX5_changesFilm_182 ?_
                      refine lv_aload_n hx hb dX5_changesFilm_183 rfl (lv_at hl 0 rfl) ?_
                      refine va_get (v := .ref g.2.1) (C := RX5) (T := TX5) (N := 10) hx hb hts hiX5 hown hK hP 0 rfl rfl 0 (by decide) hk7 (fun _ h9 => h9) rfl dX5_changesFilm_184 ?_
                      refine lv_iconst (v := 2) hx hb dX5_changesFilm_187 (by decide) ?_
                      obtain ⟨v13, hv13, hf⟩ := bnd hf
                      refine xa_iald hx hb hK hP hv13 1 0 rfl rfl dX5_changesFilm_188 ?_
                      refine lv_iadd hx hb dX5_changesFilm_189 ?_
                      obtain ⟨f14, hf14, hf⟩ := bnd hf
                      refine xa_iast (wn := (wM ks g (mkMD f14 (MD.past Mq104) (MD.aside Mq104) (MD.text Mq104) (MD.pasts Mq104) (MD.length Mq104) (MD.spot Mq104) (MD.itsThickness Mq104) (MD.itsRows Mq104) (MD.from_ Mq104)))) hx hb hK hP hD hS hf14 1 0 rfl rfl dX5_changesFilm_190 rfl (fun H locs hP hD hS => ?_)
                      refine lv_aload_n hx hb dX5_changesFilm_191 rfl (lv_at hl 0 rfl) ?_
                      refine va_get (v := .ref g.2.1) (C := RX5) (T := TX5) (N := 10) hx hb hts hiX5 hown hK hP 0 rfl rfl 0 (by decide) hk7 (fun _ h9 => h9) rfl dX5_changesFilm_192 ?_
                      refine lv_iconst (v := 2) hx hb dX5_changesFilm_195 (by decide) ?_
                      refine lv_iconst (v := 0) hx hb dX5_changesFilm_196 (by decide) ?_
                      obtain ⟨f15, hf15, hf⟩ := bnd hf
                      refine xa_iast (wn := (wM ks g (mkMD f15 (MD.past Mq104) (MD.aside Mq104) (MD.text Mq104) (MD.pasts Mq104) (MD.length Mq104) (MD.spot Mq104) (MD.itsThickness Mq104) (MD.itsRows Mq104) (MD.from_ Mq104)))) hx hb hK hP hD hS hf15 1 0 rfl rfl dX5_changesFilm_197 rfl (fun H locs hP hD hS => ?_)
                      refine lv_aload_n hx hb dX5_changesFilm_198 rfl (lv_at hl 0 rfl) ?_
                      refine va_get (v := .ref g.2.1) (C := RX5) (T := TX5) (N := 10) hx hb hts hiX5 hown hK hP 0 rfl rfl 0 (by decide) hk7 (fun _ h9 => h9) rfl dX5_changesFilm_199 ?_
                      refine lv_bipush (v := 9) hx hb dX5_changesFilm_202 (by decide) ?_
                      refine lv_dup2_11 hx hb dX5_changesFilm_204 rfl rfl ?_
                      obtain ⟨v16, hv16, hf⟩ := bnd hf
                      refine xa_iald hx hb hK hP hv16 1 0 rfl rfl dX5_changesFilm_205 ?_
                      refine lv_iconst (v := 1) hx hb dX5_changesFilm_206 (by decide) ?_
                      refine lv_iadd hx hb dX5_changesFilm_207 ?_
                      obtain ⟨f17, hf17, hf⟩ := bnd hf
                      refine xa_iast (wn := (wM ks g (mkMD f17 (MD.past Mq104) (MD.aside Mq104) (MD.text Mq104) (MD.pasts Mq104) (MD.length Mq104) (MD.spot Mq104) (MD.itsThickness Mq104) (MD.itsRows Mq104) (MD.from_ Mq104)))) hx hb hK hP hD hS hf17 1 0 rfl rfl dX5_changesFilm_208 rfl (fun H locs hP hD hS => ?_)
                      refine lv_aload_n hx hb dX5_changesFilm_209 rfl (lv_at hl 0 rfl) ?_
                      obtain ⟨M18, hM18, hf⟩ := bnd hf
                      refine xcallV (As := []) (rest := []) (wc := (wM ks g (mkMD f17 (MD.past Mq104) (MD.aside Mq104) (MD.text Mq104) (MD.pasts Mq104) (MD.length Mq104) (MD.spot Mq104) (MD.itsThickness Mq104) (MD.itsRows Mq104) (MD.from_ Mq104)))) (w1 := (wM ks g M18)) (wr := ([] : va_W)) (wn := (wM ks g M18)) ⟨hx, hb, hml, hown, hts⟩ (c_X5_mayBurst k g (mkMD f17 (MD.past Mq104) (MD.aside Mq104) (MD.text Mq104) (MD.pasts Mq104) (MD.length Mq104) (MD.spot Mq104) (MD.itsThickness Mq104) (MD.itsRows Mq104) (MD.from_ Mq104)) M18 hM18) (cwV 0 hts gX5_changesFilm_X5_mayBurst rfl rfl rfl (by decide +kernel) ⟨Nat.le_of_ble_eq_true rfl, Nat.le_of_ble_eq_true rfl⟩) hX hP hD hS hA [0, 1, 2, 3, 4] [] [0, 1, 2, 3, 4] rfl rfl rfl ⟨by decide, by decide, by decide⟩ (by decide) (ci := 4) (q0 := 0) rfl rfl rfl hl.1 rfl (Nat.le_of_ble_eq_true rfl) dX5_changesFilm_210 ⟨Nat.zero_le _, Nat.zero_le _⟩ (fun H locs hP hD hS => ?_)
                      obtain rfl := Option.some.inj hf
                      exact hret _ _ _ _ dX5_changesFilm_213 hP hD hS
                  · replace hf := ifF hf c7
                    refine lv_aload_n hx hb dX5_changesFilm_114 rfl (lv_at hl 0 rfl) ?_
                    refine lv_iconst (v := 1) hx hb dX5_changesFilm_115 (by decide) ?_
                    obtain ⟨v19, hv19, hf⟩ := bnd hf
                    refine xcallRV (As := [.int 1]) (rest := []) (wc := (wM ks g Mq104)) ⟨hx, hb, hml, hown, hts⟩ (c_X5_of k g Mq104 1 v19 hv19) (cwV 1 hts gX5_changesFilm_X5_of rfl rfl rfl (by decide +kernel) ⟨Nat.le_of_ble_eq_true rfl, Nat.le_of_ble_eq_true rfl⟩) hX hP (ci := 4) (q0 := 0) rfl rfl rfl hl.1 rfl (Nat.le_of_ble_eq_true rfl) dX5_changesFilm_116 ⟨Nat.zero_le _, Nat.zero_le _⟩ (fun zv19 => ?_)
                    refine lv_aload_n hx hb dX5_changesFilm_119 rfl (lv_at hl 0 rfl) ?_
                    refine va_get (v := .ref g.2.1) (C := RX5) (T := TX5) (N := 10) hx hb hts hiX5 hown hK hP 0 rfl rfl 0 (by decide) hk7 (fun _ h9 => h9) rfl dX5_changesFilm_120 ?_
                    refine lv_bipush (v := 20) hx hb dX5_changesFilm_123 (by decide) ?_
                    refine lv_iload_n hx hb dX5_changesFilm_125 rfl (lv_at hl 1 rfl) ?_
                    refine lv_iadd hx hb dX5_changesFilm_126 ?_
                    obtain ⟨v20, hv20, hf⟩ := bnd hf
                    refine xa_iald hx hb hK hP hv20 1 0 rfl rfl dX5_changesFilm_127 ?_
                    obtain ⟨v21, hv21, hf⟩ := bnd hf
                    refine xcallRS (As := [.int v19, .int v20]) (rest := []) (wc := []) ⟨hx, hb, hml, hown, hts⟩ (c_X5_lesser k v19 v20 v21 hv21) (va_cwS 2 hts gX5_changesFilm_X5_lesser rfl rfl rfl (by decide +kernel) ⟨Nat.le_of_ble_eq_true rfl, Nat.le_of_ble_eq_true rfl⟩) hX (va_P0 _ _ _) rfl hl.1 rfl (Nat.le_of_ble_eq_true rfl) dX5_changesFilm_128 ⟨Nat.zero_le _, Nat.zero_le _⟩ (fun zv21 => ?_)
                    refine lv_istore_n (lv' := [(3, .int v21), (0, .ref g.1), (2, .int x2q104)]) hx hb dX5_changesFilm_131 rfl hl (by decide) rfl (fun ls hl => ?_)
                    refine lv_aload_n hx hb dX5_changesFilm_132 rfl (lv_at hl 1 rfl) ?_
                    refine va_get (v := .ref g.2.1) (C := RX5) (T := TX5) (N := 10) hx hb hts hiX5 hown hK hP 0 rfl rfl 0 (by decide) hk7 (fun _ h9 => h9) rfl dX5_changesFilm_133 ?_
                    refine lv_bipush (v := 20) hx hb dX5_changesFilm_136 (by decide) ?_
                    refine lv_iload_n hx hb dX5_changesFilm_138 rfl (lv_at hl 2 rfl) ?_
                    refine lv_iadd hx hb dX5_changesFilm_139 ?_
                    refine lv_dup2_11 hx hb dX5_changesFilm_140 rfl rfl ?_
                    obtain ⟨v22, hv22, hf⟩ := bnd hf
                    refine xa_iald hx hb hK hP hv22 1 0 rfl rfl dX5_changesFilm_141 ?_
                    refine lv_iload_n hx hb dX5_changesFilm_142 rfl (lv_at hl 0 rfl) ?_
                    refine lv_isub hx hb dX5_changesFilm_143 ?_
                    obtain ⟨f23, hf23, hf⟩ := bnd hf
                    refine xa_iast (wn := (wM ks g (mkMD f23 (MD.past Mq104) (MD.aside Mq104) (MD.text Mq104) (MD.pasts Mq104) (MD.length Mq104) (MD.spot Mq104) (MD.itsThickness Mq104) (MD.itsRows Mq104) (MD.from_ Mq104)))) hx hb hK hP hD hS hf23 1 0 rfl rfl dX5_changesFilm_144 rfl (fun H locs hP hD hS => ?_)
                    refine lv_aload_n hx hb dX5_changesFilm_145 rfl (lv_at hl 1 rfl) ?_
                    refine va_get (v := .ref g.2.1) (C := RX5) (T := TX5) (N := 10) hx hb hts hiX5 hown hK hP 0 rfl rfl 0 (by decide) hk7 (fun _ h9 => h9) rfl dX5_changesFilm_146 ?_
                    refine lv_iconst (v := 5) hx hb dX5_changesFilm_149 (by decide) ?_
                    refine lv_dup2_11 hx hb dX5_changesFilm_150 rfl rfl ?_
                    obtain ⟨v24, hv24, hf⟩ := bnd hf
                    refine xa_iald hx hb hK hP hv24 1 0 rfl rfl dX5_changesFilm_151 ?_
                    refine lv_iload_n hx hb dX5_changesFilm_152 rfl (lv_at hl 0 rfl) ?_
                    refine lv_iadd hx hb dX5_changesFilm_153 ?_
                    obtain ⟨f25, hf25, hf⟩ := bnd hf
                    refine xa_iast (wn := (wM ks g (mkMD f25 (MD.past Mq104) (MD.aside Mq104) (MD.text Mq104) (MD.pasts Mq104) (MD.length Mq104) (MD.spot Mq104) (MD.itsThickness Mq104) (MD.itsRows Mq104) (MD.from_ Mq104)))) hx hb hK hP hD hS hf25 1 0 rfl rfl dX5_changesFilm_154 rfl (fun H locs hP hD hS => ?_)
                    refine lv_iinc (v := (x2q104 + 1)) (lv' := [(2, .int (x2q104 + 1)), (3, .int v21), (0, .ref g.1)]) hx hb dX5_changesFilm_155 hl (k := 2) rfl rfl (by decide) rfl (fun ls hl => ?_)
                    refine lv_goto (tgt := 104) hx hb dX5_changesFilm_158 (by decide) ?_
                    exact ih104 _ _  _ _ _ hf hP hD hS (lv_sub hl [2, 0] rfl)
              exact L104 k _ _ _ _ _ hf hP hD hS (lv_sub hl [1, 0] rfl)
            · replace hf := ifF hf c5
              refine lv_iload_n hx hb dX5_changesFilm_66 rfl (lv_at hl 1 rfl) ?_
              refine lv_iload_n hx hb dX5_changesFilm_67 rfl (lv_at hl 2 rfl) ?_
              refine xx_ishr hx hb dX5_changesFilm_68 ?_
              refine lv_iconst (v := 1) hx hb dX5_changesFilm_69 (by decide) ?_
              refine lv_iand hx hb dX5_changesFilm_70 ?_
              refine lv_if_ne (tgt := 96) hx hb dX5_changesFilm_71 (by decide) (fun c26 => ?_) (fun c26 => ?_)
              · replace hf := ifF hf c26
                refine lv_iinc (v := (x2q56 + 1)) (lv' := [(2, .int (x2q56 + 1)), (0, .ref g.1), (1, .int v3)]) hx hb dX5_changesFilm_96 hl (k := 2) rfl rfl (by decide) rfl (fun ls hl => ?_)
                refine lv_goto (tgt := 56) hx hb dX5_changesFilm_99 (by decide) ?_
                exact ih56 _ _  _ _ _ hf hP hD hS (lv_sub hl [1, 2, 0] rfl)
              · replace hf := ifT hf c26
                refine lv_iload_n hx hb dX5_changesFilm_74 rfl (lv_at hl 1 rfl) ?_
                refine lv_iload_n hx hb dX5_changesFilm_75 rfl (lv_at hl 2 rfl) ?_
                refine lv_iconst (v := 1) hx hb dX5_changesFilm_76 (by decide) ?_
                refine lv_isub hx hb dX5_changesFilm_77 ?_
                refine xx_ishr hx hb dX5_changesFilm_78 ?_
                refine lv_iconst (v := 1) hx hb dX5_changesFilm_79 (by decide) ?_
                refine lv_iand hx hb dX5_changesFilm_80 ?_
                refine lv_iconst (v := 1) hx hb dX5_changesFilm_81 (by decide) ?_
                refine lv_icmp_ne (tgt := 96) hx hb dX5_changesFilm_82 (by decide) (fun c27 => ?_) (fun c27 => ?_)
                · replace hf := ifF hf c27
                  refine lv_iinc (v := (x2q56 + 1)) (lv' := [(2, .int (x2q56 + 1)), (0, .ref g.1), (1, .int v3)]) hx hb dX5_changesFilm_96 hl (k := 2) rfl rfl (by decide) rfl (fun ls hl => ?_)
                  refine lv_goto (tgt := 56) hx hb dX5_changesFilm_99 (by decide) ?_
                  exact ih56 _ _  _ _ _ hf hP hD hS (lv_sub hl [1, 2, 0] rfl)
                · replace hf := ifT hf c27
                  refine lv_aload_n hx hb dX5_changesFilm_85 rfl (lv_at hl 0 rfl) ?_
                  refine lv_iload_n hx hb dX5_changesFilm_86 rfl (lv_at hl 2 rfl) ?_
                  refine lv_aload_n hx hb dX5_changesFilm_87 rfl (lv_at hl 0 rfl) ?_
                  refine lv_iconst (v := 2) hx hb dX5_changesFilm_88 (by decide) ?_
                  obtain ⟨v28, hv28, hf⟩ := bnd hf
                  refine xcallRV (As := [.int 2]) (rest := [.int x2q56, .ref g.1]) (wc := (wM ks g Mq56)) ⟨hx, hb, hml, hown, hts⟩ (c_X5_of k g Mq56 2 v28 hv28) (cwV 1 hts gX5_changesFilm_X5_of rfl rfl rfl (by decide +kernel) ⟨Nat.le_of_ble_eq_true rfl, Nat.le_of_ble_eq_true rfl⟩) hX hP (ci := 4) (q0 := 0) rfl rfl rfl hl.1 rfl (Nat.le_of_ble_eq_true rfl) dX5_changesFilm_89 ⟨Nat.zero_le _, Nat.zero_le _⟩ (fun zv28 => ?_)
                  refine lv_i2l hx hb dX5_changesFilm_92 rfl ?_
                  obtain ⟨M29, hM29, hf⟩ := bnd hf
                  refine xcallV (As := [.int x2q56, .long (Int32.toInt64 v28)]) (rest := []) (wc := (wM ks g Mq56)) (w1 := (wM ks g M29)) (wr := ([] : va_W)) (wn := (wM ks g M29)) ⟨hx, hb, hml, hown, hts⟩ (c_X5_gives k g Mq56 x2q56 (Int32.toInt64 v28) M29 hM29) (cwV 2 hts gX5_changesFilm_X5_gives rfl rfl rfl (by decide +kernel) ⟨Nat.le_of_ble_eq_true rfl, Nat.le_of_ble_eq_true rfl⟩) hX hP hD hS hA [0, 1, 2, 3, 4] [] [0, 1, 2, 3, 4] rfl rfl rfl ⟨by decide, by decide, by decide⟩ (by decide) (ci := 4) (q0 := 0) rfl rfl rfl hl.1 rfl (Nat.le_of_ble_eq_true rfl) dX5_changesFilm_93 ⟨Nat.zero_le _, Nat.zero_le _⟩ (fun H locs hP hD hS => ?_)
                  refine lv_iinc (v := (x2q56 + 1)) (lv' := [(2, .int (x2q56 + 1)), (0, .ref g.1), (1, .int v3)]) hx hb dX5_changesFilm_96 hl (k := 2) rfl rfl (by decide) rfl (fun ls hl => ?_)
                  refine lv_goto (tgt := 56) hx hb dX5_changesFilm_99 (by decide) ?_
                  exact ih56 _ _  _ _ _ hf hP hD hS (lv_sub hl [1, 2, 0] rfl)
        exact L56 k _ _ _ _ _ hf hP hD hS (lv_sub hl [2, 1, 0] rfl)
      · replace hf := ifF hf c2
        refine lv_aload_n hx hb dX5_changesFilm_13 rfl (lv_at hl 0 rfl) ?_
        refine va_get (v := .ref g.2.1) (C := RX5) (T := TX5) (N := 10) hx hb hts hiX5 hown hK hP 0 rfl rfl 0 (by decide) hk7 (fun _ h9 => h9) rfl dX5_changesFilm_14 ?_
        refine lv_bipush (v := 20) hx hb dX5_changesFilm_17 (by decide) ?_
        refine lv_iload_n hx hb dX5_changesFilm_19 rfl (lv_at hl 1 rfl) ?_
        refine lv_iadd hx hb dX5_changesFilm_20 ?_
        obtain ⟨v30, hv30, hf⟩ := bnd hf
        refine xa_iald hx hb hK hP hv30 1 0 rfl rfl dX5_changesFilm_21 ?_
        refine lv_i2l hx hb dX5_changesFilm_22 rfl ?_
        refine lv_lstore_n (lv' := [(2, .long (Int32.toInt64 v30)), (0, .ref g.1), (1, .int x1q9)]) hx hb dX5_changesFilm_23 rfl hl (by decide) rfl (fun ls hl => ?_)
        refine lv_aload_n hx hb dX5_changesFilm_24 rfl (lv_at hl 1 rfl) ?_
        refine lv_iload_n hx hb dX5_changesFilm_25 rfl (lv_at hl 2 rfl) ?_
        refine lv_lload_n hx hb dX5_changesFilm_26 rfl (lv_at hl 0 rfl) ?_
        refine lv_lload_n hx hb dX5_changesFilm_27 rfl (lv_at hl 0 rfl) ?_
        refine lv_lmul hx hb dX5_changesFilm_28 ?_
        refine lv_aload_n hx hb dX5_changesFilm_29 rfl (lv_at hl 1 rfl) ?_
        refine lv_iconst (v := 0) hx hb dX5_changesFilm_30 (by decide) ?_
        obtain ⟨v31, hv31, hf⟩ := bnd hf
        refine xcallRV (As := [.int 0]) (rest := [.long ((Int32.toInt64 v30) * (Int32.toInt64 v30)), .int x1q9, .ref g.1]) (wc := (wM ks g Mq9)) ⟨hx, hb, hml, hown, hts⟩ (c_X5_of k g Mq9 0 v31 hv31) (cwV 1 hts gX5_changesFilm_X5_of rfl rfl rfl (by decide +kernel) ⟨Nat.le_of_ble_eq_true rfl, Nat.le_of_ble_eq_true rfl⟩) hX hP (ci := 4) (q0 := 0) rfl rfl rfl hl.1 rfl (Nat.le_of_ble_eq_true rfl) dX5_changesFilm_31 ⟨Nat.zero_le _, Nat.zero_le _⟩ (fun zv31 => ?_)
        refine lv_i2l hx hb dX5_changesFilm_34 rfl ?_
        refine lv_lmul hx hb dX5_changesFilm_35 ?_
        refine lv_ldc2 (v := 1000000) hx hb hown hc83 dX5_changesFilm_36 ?_
        refine lv_ldiv hx hb dX5_changesFilm_39 (by decide) ?_
        obtain ⟨M32, hM32, hf⟩ := bnd hf
        refine xcallV (As := [.int x1q9, .long ((((Int32.toInt64 v30) * (Int32.toInt64 v30)) * (Int32.toInt64 v31)) / 1000000)]) (rest := []) (wc := (wM ks g Mq9)) (w1 := (wM ks g M32)) (wr := ([] : va_W)) (wn := (wM ks g M32)) ⟨hx, hb, hml, hown, hts⟩ (c_X5_gives k g Mq9 x1q9 ((((Int32.toInt64 v30) * (Int32.toInt64 v30)) * (Int32.toInt64 v31)) / 1000000) M32 hM32) (cwV 2 hts gX5_changesFilm_X5_gives rfl rfl rfl (by decide +kernel) ⟨Nat.le_of_ble_eq_true rfl, Nat.le_of_ble_eq_true rfl⟩) hX hP hD hS hA [0, 1, 2, 3, 4] [] [0, 1, 2, 3, 4] rfl rfl rfl ⟨by decide, by decide, by decide⟩ (by decide) (ci := 4) (q0 := 0) rfl rfl rfl hl.1 rfl (Nat.le_of_ble_eq_true rfl) dX5_changesFilm_40 ⟨Nat.zero_le _, Nat.zero_le _⟩ (fun H locs hP hD hS => ?_)
        refine lv_iinc (v := (x1q9 + (-1))) (lv' := [(1, .int (x1q9 + (-1))), (2, .long (Int32.toInt64 v30)), (0, .ref g.1)]) hx hb dX5_changesFilm_43 hl (k := 2) rfl rfl (by decide) rfl (fun ls hl => ?_)
        refine lv_goto (tgt := 9) hx hb dX5_changesFilm_46 (by decide) ?_
        exact ih9 _ _  _ _ _ hf hP hD hS (lv_sub hl [2, 0] rfl)
  exact L9 k _ _ _ _ _ hf hP hD hS (lv_sub hl [1, 0] rfl)

/-! ===== X5_tick ===== -/
def p_X5_tick (k : Nat) (M : MD) : Option (Int32 × MD) :=
  (ald (MD.st M) 44 0).bind fun v1 => if v1 ≤ 0 then ((ald (MD.st M) 44 1).bind fun v3 => (ast (MD.st M) 44 1 (v3 + 1)).bind fun f4 => some (0, (mkMD f4 (MD.past M) (MD.aside M) (MD.text M) (MD.pasts M) (MD.length M) (MD.spot M) (MD.itsThickness M) (MD.itsRows M) (MD.from_ M)))) else ((p_X5_changesFilm k M).bind fun M5 => (ald (MD.st M5) 44 1).bind fun v6 => (ast (MD.st M5) 44 1 (v6 + 1)).bind fun f7 => some (1, (mkMD f7 (MD.past M5) (MD.aside M5) (MD.text M5) (MD.pasts M5) (MD.length M5) (MD.spot M5) (MD.itsThickness M5) (MD.itsRows M5) (MD.from_ M5))))

set_option maxHeartbeats 4000000 in
set_option maxRecDepth 100000 in
theorem c_X5_tick {l : Launch} {D : va_G} {ks : K3} (k : Nat) (g : AM) (M : MD) (r : Int32) (rM : MD) (hf : p_X5_tick k M = some (r, rM)) : MetI l yX5_tick wsX5_tick { frames := 5, cells := 0, slots := 0, locals := 108 } D ks [.ref g.1] (wM ks g M) (wM ks g rM) r (narrow .boolean (.int r) = .int r) := by
  refine MetI.of (cc := cX5_tick) (maxL := 2) (ret := (some .boolean)) (by decide +kernel) rfl (Nat.le_of_ble_eq_true rfl) ?_ ⟨_, rfl⟩
  intro p e s m below meth c Q A hx hb hml hts hown hP hX hD hA hret ls hl
  have hK := hX.1
  replace hl : lv_has ls 2 [(0, .ref g.1)] := hl
  have hS : va_S A s.heap s.heap [] := va_S.rf
  have hiX5 : ∀ w ∈ wsX50, w ∈ wsX5_tick := by decide +kernel
  have hk7 := hts (.fieldLink RX5 7 "SoapFilmModel" "st" "[I") (by decide +kernel)
  unfold p_X5_tick at hf
  refine lv_aload_n hx hb dX5_tick_0 rfl (lv_at hl 0 rfl) ?_
  refine va_get (v := .ref g.2.1) (C := RX5) (T := TX5) (N := 10) hx hb hts hiX5 hown hK hP 0 rfl rfl 0 (by decide) hk7 (fun _ h9 => h9) rfl dX5_tick_1 ?_
  refine lv_iconst (v := 0) hx hb dX5_tick_4 (by decide) ?_
  obtain ⟨v1, hv1, hf⟩ := bnd hf
  refine xa_iald hx hb hK hP hv1 1 0 rfl rfl dX5_tick_5 ?_
  refine lv_if_le (tgt := 13) hx hb dX5_tick_6 (by decide) (fun c2 => ?_) (fun c2 => ?_)
  · replace hf := ifT hf c2
    refine lv_iconst (v := 0) hx hb dX5_tick_13 (by decide) ?_
    refine lv_istore_n (lv' := [(1, .int 0), (0, .ref g.1)]) hx hb dX5_tick_14 rfl hl (by decide) rfl (fun ls hl => ?_)
    refine lv_iload_n hx hb dX5_tick_15 rfl (lv_at hl 0 rfl) ?_
    refine lv_if_eq (tgt := 23) hx hb dX5_tick_16 (by decide) (fun _ => ?_) (fun c => absurd c (by decide))
    refine lv_aload_n hx hb dX5_tick_23 rfl (lv_at hl 1 rfl) ?_
    refine va_get (v := .ref g.2.1) (C := RX5) (T := TX5) (N := 10) hx hb hts hiX5 hown hK hP 0 rfl rfl 0 (by decide) hk7 (fun _ h9 => h9) rfl dX5_tick_24 ?_
    refine lv_iconst (v := 1) hx hb dX5_tick_27 (by decide) ?_
    refine lv_dup2_11 hx hb dX5_tick_28 rfl rfl ?_
    obtain ⟨v3, hv3, hf⟩ := bnd hf
    refine xa_iald hx hb hK hP hv3 1 0 rfl rfl dX5_tick_29 ?_
    refine lv_iconst (v := 1) hx hb dX5_tick_30 (by decide) ?_
    refine lv_iadd hx hb dX5_tick_31 ?_
    obtain ⟨f4, hf4, hf⟩ := bnd hf
    refine xa_iast (wn := (wM ks g (mkMD f4 (MD.past M) (MD.aside M) (MD.text M) (MD.pasts M) (MD.length M) (MD.spot M) (MD.itsThickness M) (MD.itsRows M) (MD.from_ M)))) hx hb hK hP hD hS hf4 1 0 rfl rfl dX5_tick_32 rfl (fun H locs hP hD hS => ?_)
    refine lv_iload_n hx hb dX5_tick_33 rfl (lv_at hl 0 rfl) ?_
    obtain ⟨rfl, rfl⟩ := inj2 hf
    exact hret rfl _ _ _ _ dX5_tick_34 (fun ty h => by cases h; rfl) hP hD hS
  · replace hf := ifF hf c2
    refine lv_iconst (v := 1) hx hb dX5_tick_9 (by decide) ?_
    refine lv_goto (tgt := 14) hx hb dX5_tick_10 (by decide) ?_
    refine lv_istore_n (lv' := [(1, .int 1), (0, .ref g.1)]) hx hb dX5_tick_14 rfl hl (by decide) rfl (fun ls hl => ?_)
    refine lv_iload_n hx hb dX5_tick_15 rfl (lv_at hl 0 rfl) ?_
    refine lv_if_eq (tgt := 23) hx hb dX5_tick_16 (by decide) (fun c => absurd c (by decide)) (fun _ => ?_)
    refine lv_aload_n hx hb dX5_tick_19 rfl (lv_at hl 1 rfl) ?_
    obtain ⟨M5, hM5, hf⟩ := bnd hf
    refine xcallV (As := []) (rest := []) (wc := (wM ks g M)) (w1 := (wM ks g M5)) (wr := ([] : va_W)) (wn := (wM ks g M5)) ⟨hx, hb, hml, hown, hts⟩ (c_X5_changesFilm k g M M5 hM5) (cwV 0 hts gX5_tick_X5_changesFilm rfl rfl rfl (by decide +kernel) ⟨Nat.le_of_ble_eq_true rfl, Nat.le_of_ble_eq_true rfl⟩) hX hP hD hS hA [0, 1, 2, 3, 4] [] [0, 1, 2, 3, 4] rfl rfl rfl ⟨by decide, by decide, by decide⟩ (by decide) (ci := 4) (q0 := 0) rfl rfl rfl hl.1 rfl (Nat.le_of_ble_eq_true rfl) dX5_tick_20 ⟨Nat.zero_le _, Nat.zero_le _⟩ (fun H locs hP hD hS => ?_)
    refine lv_aload_n hx hb dX5_tick_23 rfl (lv_at hl 1 rfl) ?_
    refine va_get (v := .ref g.2.1) (C := RX5) (T := TX5) (N := 10) hx hb hts hiX5 hown hK hP 0 rfl rfl 0 (by decide) hk7 (fun _ h9 => h9) rfl dX5_tick_24 ?_
    refine lv_iconst (v := 1) hx hb dX5_tick_27 (by decide) ?_
    refine lv_dup2_11 hx hb dX5_tick_28 rfl rfl ?_
    obtain ⟨v6, hv6, hf⟩ := bnd hf
    refine xa_iald hx hb hK hP hv6 1 0 rfl rfl dX5_tick_29 ?_
    refine lv_iconst (v := 1) hx hb dX5_tick_30 (by decide) ?_
    refine lv_iadd hx hb dX5_tick_31 ?_
    obtain ⟨f7, hf7, hf⟩ := bnd hf
    refine xa_iast (wn := (wM ks g (mkMD f7 (MD.past M5) (MD.aside M5) (MD.text M5) (MD.pasts M5) (MD.length M5) (MD.spot M5) (MD.itsThickness M5) (MD.itsRows M5) (MD.from_ M5)))) hx hb hK hP hD hS hf7 1 0 rfl rfl dX5_tick_32 rfl (fun H locs hP hD hS => ?_)
    refine lv_iload_n hx hb dX5_tick_33 rfl (lv_at hl 0 rfl) ?_
    obtain ⟨rfl, rfl⟩ := inj2 hf
    exact hret rfl _ _ _ _ dX5_tick_34 (fun ty h => by cases h; rfl) hP hD hS
