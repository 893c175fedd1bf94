/-! ===== L_part ===== -/
def p_L_part (k : Nat) (x0 : Int32) (x1 : Int32) : Option (Int32) :=
  some ((x0 &&& 2147483647) - (x0 &&& 2147483647) / x1 * x1)

set_option maxHeartbeats 4000000 in
set_option maxRecDepth 100000 in
theorem c_L_part {l : Launch} {D : va_G} {ks : K3} (k : Nat) (x0 : Int32) (x1 : Int32) (h0 : ¬ x1 = 0) (r : Int32) (hf : p_L_part k x0 x1 = some r) : MetR l yL_part wsL_part { frames := 0, cells := 0, slots := 0, locals := 0 } D ks [.int x0, .int x1] [] r True := by
  refine MetR.of (cc := cL_part) (maxL := 2) (ret := (some .int)) (by decide +kernel) rfl (Nat.le_of_ble_eq_true rfl) ?_ ⟨_, rfl⟩
  intro p e s m below meth c Q hx hb hml hts hown hP hX hret ls hl
  have hK := hX.1
  replace hl : lv_has ls 2 [(0, .int x0), (1, .int x1)] := hl
  have hc7 := hts (.constant RL 7 (2147483647)) (by decide +kernel)
  unfold p_L_part at hf
  refine lv_iload_n hx hb dL_part_0 rfl (lv_at hl 0 rfl) ?_
  refine lv_ldc (v := 2147483647) hx hb hown hc7 dL_part_1 ?_
  refine lv_iand hx hb dL_part_3 ?_
  refine lv_iload_n hx hb dL_part_4 rfl (lv_at hl 1 rfl) ?_
  refine lv_irem hx hb dL_part_5 h0 ?_
  obtain rfl := Option.some.inj hf
  exact hret trivial _ _ dL_part_6 (fun ty h => by cases h; rfl)

/-! ===== L_mixed ===== -/
def p_L_mixed (k : Nat) (x0 : Int64) (x2 : Int64) : Option (Int64) :=
  some ((31 * x0) + x2)

set_option maxHeartbeats 4000000 in
set_option maxRecDepth 100000 in
theorem c_L_mixed {l : Launch} {D : va_G} {ks : K3} (k : Nat) (x0 : Int64) (x2 : Int64) (r : Int64) (hf : p_L_mixed k x0 x2 = some r) : MetRL l yL_mixed wsL_mixed { frames := 0, cells := 0, slots := 0, locals := 0 } D ks [.long x0, .long x2] [] r := by
  refine MetRL.of (cc := cL_mixed) (maxL := 4) (by decide +kernel) rfl (Nat.le_of_ble_eq_true rfl) ?_
  intro p e s m below meth c Q hx hb hml hts hown hP hX hret ls hl
  have hK := hX.1
  replace hl : lv_has ls 4 [(0, .long x0), (2, .long x2)] := hl
  have hc9 := hts (.constantLong RL 9 (31)) (by decide +kernel)
  unfold p_L_mixed at hf
  refine lv_ldc2 (v := 31) hx hb hown hc9 dL_mixed_0 ?_
  refine lv_lload_n hx hb dL_mixed_3 rfl (lv_at hl 0 rfl) ?_
  refine lv_lmul hx hb dL_mixed_4 ?_
  refine lv_lload_n hx hb dL_mixed_5 rfl (lv_at hl 1 rfl) ?_
  refine lv_ladd hx hb dL_mixed_6 ?_
  obtain rfl := Option.some.inj hf
  exact hret _ _ dL_mixed_7

/-! ===== L_state ===== -/
def p_L_state_L43 (k : Nat) (F : FD) (qA : Nat → AF) (qz : Int32) (qS : Nat → FD) (T : TD) : Nat → (Int64) → (Int32) → Option (Int64)
  | 0, _, _ => none
  | n + 1, x1, x3 =>
    (p_X4_count k F qA qz qS T 0).bind fun v1 => if (8 * v1) ≤ x3 then (some x1) else ((p_X4_row k F (x3 / 8) (x3 - x3 / 8 * 8)).bind fun v3 => (p_L_mixed k x1 (Int32.toInt64 v3)).bind fun v4 => p_L_state_L43 k F qA qz qS T n v4 (x3 + 1))

def p_L_state_L6 (k : Nat) (F : FD) (qA : Nat → AF) (qz : Int32) (qS : Nat → FD) (T : TD) : Nat → (Int64) → (Int32) → Option (Int64)
  | 0, _, _ => none
  | n + 1, x1, x3 =>
    if 37 ≤ x3 then (p_L_state_L43 k F qA qz qS T k x1 0) else (if x3 = 11 then (p_L_state_L6 k F qA qz qS T n x1 (x3 + 1)) else (if x3 = 12 then (p_L_state_L6 k F qA qz qS T n x1 (x3 + 1)) else ((p_X4_count k F qA qz qS T x3).bind fun v8 => (p_L_mixed k x1 (Int32.toInt64 v8)).bind fun v9 => p_L_state_L6 k F qA qz qS T n v9 (x3 + 1))))

def p_L_state (k : Nat) (F : FD) (qA : Nat → AF) (qz : Int32) (qS : Nat → FD) (T : TD) : Option (Int64) :=
  p_L_state_L6 k F qA qz qS T k 9 0

set_option maxHeartbeats 4000000 in
set_option maxRecDepth 100000 in
theorem c_L_state {l : Launch} {D : va_G} {ks : K3} (k : Nat) (o : Nat) (a b : AF) (h : AH) (t : AT) (F : FD) (qA : Nat → AF) (qz : Int32) (qS : Nat → FD) (T : TD) (r : Int64) (hf : p_L_state k F qA qz qS T = some r) : MetRL l yL_state wsL_state { frames := 7, cells := 0, slots := 0, locals := 149 } D ks [.ref o] (wS o a b h t ++ wF ks a F ++ wH ks h qA qz qS ++ wT ks t T) r := by
  refine MetRL.of (cc := cL_state) (maxL := 4) (by decide +kernel) rfl (Nat.le_of_ble_eq_true rfl) ?_
  intro p e s m below meth c Q hx hb hml hts hown hP hX hret ls hl
  have hK := hX.1
  replace hl : lv_has ls 4 [(0, .ref o)] := hl
  have hc11 := hts (.constantLong RL 11 (9)) (by decide +kernel)
  unfold p_L_state at hf
  refine lv_ldc2 (v := 9) hx hb hown hc11 dL_state_0 ?_
  refine lv_lstore_n (lv' := [(1, .long 9), (0, .ref o)]) hx hb dL_state_3 rfl hl (by decide) rfl (fun ls hl => ?_)
  refine lv_iconst (v := 0) hx hb dL_state_4 (by decide) ?_
  refine lv_istore_n (lv' := [(3, .int 0), (1, .long 9), (0, .ref o)]) hx hb dL_state_5 rfl hl (by decide) rfl (fun ls hl => ?_)
  have L6 : ∀ (n : Nat) (x1q6 : Int64) (x3q6 : Int32) (ls : Array Slot), p_L_state_L6 k F qA qz qS T n x1q6 x3q6 = some r → lv_has ls 4 [(0, .ref o), (1, .long x1q6), (3, .int x3q6)] → W p l e { frames := 7, cells := 0, slots := 0, locals := 149 } s m ([.ref o] : List Value).toArray below meth c s.heap [] 0 0 Q (F0 m 6 ls []) := by
    intro n
    induction n with
    | zero => intro x1q6 x3q6 ls hf; cases hf
    | succ n ih6 =>
      intro x1q6 x3q6 ls hf hl
      rw [p_L_state_L6] at hf
      refine lv_iload_n hx hb dL_state_6 rfl (lv_at hl 2 rfl) ?_
      refine lv_bipush (v := 37) hx hb dL_state_7 (by decide) ?_
      refine lv_icmp_ge (tgt := 41) hx hb dL_state_9 (by decide) (fun c1 => ?_) (fun c1 => ?_)
      · replace hf := ifT hf c1
        refine lv_iconst (v := 0) hx hb dL_state_41 (by decide) ?_
        refine lv_istore_n (lv' := [(3, .int 0), (0, .ref o), (1, .long x1q6)]) hx hb dL_state_42 rfl hl (by decide) rfl (fun ls hl => ?_)
        have L43 : ∀ (n : Nat) (x1q43 : Int64) (x3q43 : Int32) (ls : Array Slot), p_L_state_L43 k F qA qz qS T n x1q43 x3q43 = some r → lv_has ls 4 [(0, .ref o), (1, .long x1q43), (3, .int x3q43)] → W p l e { frames := 7, cells := 0, slots := 0, locals := 149 } s m ([.ref o] : List Value).toArray below meth c s.heap [] 0 0 Q (F0 m 43 ls []) := by
          intro n
          induction n with
          | zero => intro x1q43 x3q43 ls hf; cases hf
          | succ n ih43 =>
            intro x1q43 x3q43 ls hf hl
            rw [p_L_state_L43] at hf
            refine lv_iload_n hx hb dL_state_43 rfl (lv_at hl 2 rfl) ?_
            refine lv_bipush (v := 8) hx hb dL_state_44 (by decide) ?_
            refine lv_aload_n hx hb dL_state_46 rfl (lv_at hl 0 rfl) ?_
            refine lv_iconst (v := 0) hx hb dL_state_47 (by decide) ?_
            obtain ⟨v2, hv2, hf⟩ := bnd hf
            refine xcallRV (As := [.int 0]) (rest := [.int 8, .int x3q43]) (wc := (wS o a b h t ++ wF ks a F ++ wH ks h qA qz qS ++ wT ks t T)) ⟨hx, hb, hml, hown, hts⟩ (c_X4_count k o a b h t F qA qz qS T 0 v2 hv2) (cwV 1 hts gL_state_X4_count rfl rfl rfl (by decide +kernel) ⟨Nat.le_of_ble_eq_true rfl, Nat.le_of_ble_eq_true rfl⟩) hX hP (ci := 3) (q0 := 0) rfl rfl rfl hl.1 rfl (Nat.le_of_ble_eq_true rfl) dL_state_48 ⟨Nat.zero_le _, Nat.zero_le _⟩ (fun zv2 => ?_)
            refine lv_imul hx hb dL_state_51 ?_
            refine lv_icmp_ge (tgt := 79) hx hb dL_state_52 (by decide) (fun c3 => ?_) (fun c3 => ?_)
            · replace hf := ifT hf c3
              refine lv_lload_n hx hb dL_state_79 rfl (lv_at hl 1 rfl) ?_
              obtain rfl := Option.some.inj hf
              exact hret _ _ dL_state_80
            · replace hf := ifF hf c3
              refine lv_lload_n hx hb dL_state_55 rfl (lv_at hl 1 rfl) ?_
              refine lv_aload_n hx hb dL_state_56 rfl (lv_at hl 0 rfl) ?_
              refine lv_iload_n hx hb dL_state_57 rfl (lv_at hl 2 rfl) ?_
              refine lv_bipush (v := 8) hx hb dL_state_58 (by decide) ?_
              refine lv_idiv hx hb dL_state_60 (by decide) ?_
              refine lv_iload_n hx hb dL_state_61 rfl (lv_at hl 2 rfl) ?_
              refine lv_bipush (v := 8) hx hb dL_state_62 (by decide) ?_
              refine lv_irem hx hb dL_state_64 (by decide) ?_
              obtain ⟨v4, hv4, hf⟩ := bnd hf
              refine xcallRV (As := [.int (x3q43 / 8), .int (x3q43 - x3q43 / 8 * 8)]) (rest := [.long x1q43]) (wc := (wS o a b h t ++ wF ks a F)) ⟨hx, hb, hml, hown, hts⟩ (c_X4_row k o a b h t F (x3q43 / 8) (x3q43 - x3q43 / 8 * 8) v4 hv4) (cwV 2 hts gL_state_X4_row rfl rfl rfl (by decide +kernel) ⟨Nat.le_of_ble_eq_true rfl, Nat.le_of_ble_eq_true rfl⟩) hX (hP.sub (ws' := (wS o a b h t ++ wF ks a F)) [0, 1, 2, 3, 4] rfl) (ci := 3) (q0 := 0) rfl rfl rfl hl.1 rfl (Nat.le_of_ble_eq_true rfl) dL_state_65 ⟨Nat.zero_le _, Nat.zero_le _⟩ (fun zv4 => ?_)
              refine lv_i2l hx hb dL_state_68 rfl ?_
              obtain ⟨v5, hv5, hf⟩ := bnd hf
              refine xcallRSL (As := [.long x1q43, .long (Int32.toInt64 v4)]) (rest := []) (wc := []) ⟨hx, hb, hml, hown, hts⟩ (c_L_mixed k x1q43 (Int32.toInt64 v4) v5 hv5) (va_cwS 2 hts gL_state_L_mixed rfl rfl rfl (by decide +kernel) ⟨Nat.le_of_ble_eq_true rfl, Nat.le_of_ble_eq_true rfl⟩) hX (va_P0 _ _ _) rfl hl.1 rfl (Nat.le_of_ble_eq_true rfl) dL_state_69 ⟨Nat.zero_le _, Nat.zero_le _⟩ ?_
              refine lv_lstore_n (lv' := [(1, .long v5), (0, .ref o), (3, .int x3q43)]) hx hb dL_state_72 rfl hl (by decide) rfl (fun ls hl => ?_)
              refine lv_iinc (v := (x3q43 + 1)) (lv' := [(3, .int (x3q43 + 1)), (1, .long v5), (0, .ref o)]) hx hb dL_state_73 hl (k := 2) rfl rfl (by decide) rfl (fun ls hl => ?_)
              refine lv_goto (tgt := 43) hx hb dL_state_76 (by decide) ?_
              exact ih43 _ _  _ hf (lv_sub hl [2, 1, 0] rfl)
        exact L43 k _ _ _ hf (lv_sub hl [1, 2, 0] rfl)
      · replace hf := ifF hf c1
        refine lv_iload_n hx hb dL_state_12 rfl (lv_at hl 2 rfl) ?_
        refine lv_bipush (v := 11) hx hb dL_state_13 (by decide) ?_
        refine lv_icmp_eq (tgt := 35) hx hb dL_state_15 (by decide) (fun c6 => ?_) (fun c6 => ?_)
        · replace hf := ifT hf c6
          refine lv_iinc (v := (x3q6 + 1)) (lv' := [(3, .int (x3q6 + 1)), (0, .ref o), (1, .long x1q6)]) hx hb dL_state_35 hl (k := 2) rfl rfl (by decide) rfl (fun ls hl => ?_)
          refine lv_goto (tgt := 6) hx hb dL_state_38 (by decide) ?_
          exact ih6 _ _  _ hf (lv_sub hl [1, 2, 0] rfl)
        · replace hf := ifF hf c6
          refine lv_iload_n hx hb dL_state_18 rfl (lv_at hl 2 rfl) ?_
          refine lv_bipush (v := 12) hx hb dL_state_19 (by decide) ?_
          refine lv_icmp_eq (tgt := 35) hx hb dL_state_21 (by decide) (fun c7 => ?_) (fun c7 => ?_)
          · replace hf := ifT hf c7
            refine lv_iinc (v := (x3q6 + 1)) (lv' := [(3, .int (x3q6 + 1)), (0, .ref o), (1, .long x1q6)]) hx hb dL_state_35 hl (k := 2) rfl rfl (by decide) rfl (fun ls hl => ?_)
            refine lv_goto (tgt := 6) hx hb dL_state_38 (by decide) ?_
            exact ih6 _ _  _ hf (lv_sub hl [1, 2, 0] rfl)
          · replace hf := ifF hf c7
            refine lv_lload_n hx hb dL_state_24 rfl (lv_at hl 1 rfl) ?_
            refine lv_aload_n hx hb dL_state_25 rfl (lv_at hl 0 rfl) ?_
            refine lv_iload_n hx hb dL_state_26 rfl (lv_at hl 2 rfl) ?_
            obtain ⟨v8, hv8, hf⟩ := bnd hf
            refine xcallRV (As := [.int x3q6]) (rest := [.long x1q6]) (wc := (wS o a b h t ++ wF ks a F ++ wH ks h qA qz qS ++ wT ks t T)) ⟨hx, hb, hml, hown, hts⟩ (c_X4_count k o a b h t F qA qz qS T x3q6 v8 hv8) (cwV 1 hts gL_state_X4_count rfl rfl rfl (by decide +kernel) ⟨Nat.le_of_ble_eq_true rfl, Nat.le_of_ble_eq_true rfl⟩) hX hP (ci := 3) (q0 := 0) rfl rfl rfl hl.1 rfl (Nat.le_of_ble_eq_true rfl) dL_state_27 ⟨Nat.zero_le _, Nat.zero_le _⟩ (fun zv8 => ?_)
            refine lv_i2l hx hb dL_state_30 rfl ?_
            obtain ⟨v9, hv9, hf⟩ := bnd hf
            refine xcallRSL (As := [.long x1q6, .long (Int32.toInt64 v8)]) (rest := []) (wc := []) ⟨hx, hb, hml, hown, hts⟩ (c_L_mixed k x1q6 (Int32.toInt64 v8) v9 hv9) (va_cwS 2 hts gL_state_L_mixed rfl rfl rfl (by decide +kernel) ⟨Nat.le_of_ble_eq_true rfl, Nat.le_of_ble_eq_true rfl⟩) hX (va_P0 _ _ _) rfl hl.1 rfl (Nat.le_of_ble_eq_true rfl) dL_state_31 ⟨Nat.zero_le _, Nat.zero_le _⟩ ?_
            refine lv_lstore_n (lv' := [(1, .long v9), (0, .ref o), (3, .int x3q6)]) hx hb dL_state_34 rfl hl (by decide) rfl (fun ls hl => ?_)
            refine lv_iinc (v := (x3q6 + 1)) (lv' := [(3, .int (x3q6 + 1)), (1, .long v9), (0, .ref o)]) hx hb dL_state_35 hl (k := 2) rfl rfl (by decide) rfl (fun ls hl => ?_)
            refine lv_goto (tgt := 6) hx hb dL_state_38 (by decide) ?_
            exact ih6 _ _  _ hf (lv_sub hl [2, 1, 0] rfl)
  exact L6 k _ _ _ hf (lv_sub hl [2, 1, 0] rfl)

/-! ===== L_types ===== -/
def p_L_types_L3 (k : Nat) (y1 : Int64) : Nat → (TD) → (Int32) → Option (TD)
  | 0, _, _ => none
  | n + 1, T, x3 =>
    if x3 < 0 then (some T) else (if (Int64.toInt32 ((jlshr y1 (8 * x3)) &&& 255)) = 0 then (p_L_types_L3 k y1 n T (x3 + (-1))) else (bind2 (p_X4_type k T (Int64.toInt32 ((jlshr y1 (8 * x3)) &&& 255))) fun v3 T4 => p_L_types_L3 k y1 n T4 (x3 + (-1))))

def p_L_types (k : Nat) (T : TD) (x1 : Int64) : Option (TD) :=
  p_L_types_L3 k x1 k T 7

set_option maxHeartbeats 4000000 in
set_option maxRecDepth 100000 in
theorem c_L_types {l : Launch} {D : va_G} {ks : K3} (k : Nat) (o : Nat) (a b : AF) (h : AH) (t : AT) (T : TD) (x1 : Int64) (rT : TD) (hf : p_L_types k T x1 = some rT) : MetV l yL_types wsL_types { frames := 2, cells := 0, slots := 0, locals := 43 } D ks [.ref o, .long x1] (wS o a b h t ++ wT ks t T) (wS o a b h t ++ wT ks t rT) := by
  refine MetV.of (cc := cL_types) (maxL := 5) (by decide +kernel) rfl (Nat.le_of_ble_eq_true rfl) ?_
  intro p e s m below meth c Q A hx hb hml hts hown hP hX hD hA hret ls hl
  have hK := hX.1
  replace hl : lv_has ls 5 [(0, .ref o), (1, .long x1)] := hl
  have hS : va_S A s.heap s.heap [] := va_S.rf
  have hc81 := hts (.constantLong RL 81 (255)) (by decide +kernel)
  unfold p_L_types at hf
  refine lv_bipush (v := 7) hx hb dL_types_0 (by decide) ?_
  refine lv_istore_n (lv' := [(3, .int 7), (0, .ref o), (1, .long x1)]) hx hb dL_types_2 rfl hl (by decide) rfl (fun ls hl => ?_)
  have L3 : ∀ (n : Nat) (Tq3 : TD) (x3q3 : Int32) (H : Heap) (locs : List Loc) (ls : Array Slot), p_L_types_L3 k x1 n Tq3 x3q3 = some rT → va_P D vwCl (wS o a b h t ++ wT ks t Tq3) H → va_D A (wS o a b h t ++ wT ks t Tq3) → va_S A s.heap H locs → lv_has ls 5 [(0, .ref o), (1, .long x1), (3, .int x3q3)] → W p l e { frames := 2, cells := 0, slots := 0, locals := 43 } s m ([.ref o, .long x1] : List Value).toArray below meth c H locs 0 0 Q (F0 m 3 ls []) := by
    intro n
    induction n with
    | zero => intro Tq3 x3q3 H locs ls hf; cases hf
    | succ n ih3 =>
      intro Tq3 x3q3 H locs ls hf hP hD hS hl
      rw [p_L_types_L3] at hf
      refine lv_iload_n hx hb dL_types_3 rfl (lv_at hl 2 rfl) ?_
      refine lv_if_lt (tgt := 38) hx hb dL_types_4 (by decide) (fun c1 => ?_) (fun c1 => ?_)
      · replace hf := ifT hf c1
        obtain rfl := Option.some.inj hf
        exact hret _ _ _ _ dL_types_38 hP hD hS
      · replace hf := ifF hf c1
        refine lv_lload_n hx hb dL_types_7 rfl (lv_at hl 1 rfl) ?_
        refine lv_bipush (v := 8) hx hb dL_types_8 (by decide) ?_
        refine lv_iload_n hx hb dL_types_10 rfl (lv_at hl 2 rfl) ?_
        refine lv_imul hx hb dL_types_11 ?_
        refine lv_lshr (v := (jlshr x1 (8 * x3q3))) hx hb dL_types_12 rfl ?_
        refine lv_ldc2 (v := 255) hx hb hown hc81 dL_types_13 ?_
        refine lv_land hx hb dL_types_16 ?_
        refine lv_l2i hx hb dL_types_17 rfl ?_
        refine lv_istore (lv' := [(4, .int (Int64.toInt32 ((jlshr x1 (8 * x3q3)) &&& 255))), (0, .ref o), (1, .long x1), (3, .int x3q3)]) hx hb dL_types_18 hl (by decide) rfl (fun ls hl => ?_)
        refine lv_iload hx hb dL_types_20 (lv_at hl 0 rfl) ?_
        refine lv_if_eq (tgt := 32) hx hb dL_types_22 (by decide) (fun c2 => ?_) (fun c2 => ?_)
        · replace hf := ifT hf c2
          refine lv_iinc (v := (x3q3 + (-1))) (lv' := [(3, .int (x3q3 + (-1))), (4, .int (Int64.toInt32 ((jlshr x1 (8 * x3q3)) &&& 255))), (0, .ref o), (1, .long x1)]) hx hb dL_types_32 hl (k := 3) rfl rfl (by decide) rfl (fun ls hl => ?_)
          refine lv_goto (tgt := 3) hx hb dL_types_35 (by decide) ?_
          exact ih3 _ _  _ _ _ hf hP hD hS (lv_sub hl [2, 3, 0] rfl)
        · replace hf := ifF hf c2
          refine lv_aload_n hx hb dL_types_25 rfl (lv_at hl 1 rfl) ?_
          refine lv_iload hx hb dL_types_26 (lv_at hl 0 rfl) ?_
          obtain ⟨v3, T4, hv3, hf⟩ := bnd2 hf
          refine xcallI (As := [.int (Int64.toInt32 ((jlshr x1 (8 * x3q3)) &&& 255))]) (rest := []) (wc := (wS o a b h t ++ wT ks t Tq3)) (w1 := (wS o a b h t ++ wT ks t T4)) (wr := ([] : va_W)) (wn := (wS o a b h t ++ wT ks t T4)) ⟨hx, hb, hml, hown, hts⟩ (c_X4_type k o a b h t Tq3 (Int64.toInt32 ((jlshr x1 (8 * x3q3)) &&& 255)) v3 T4 hv3) (cwV 1 hts gL_types_X4_type rfl rfl rfl (by decide +kernel) ⟨Nat.le_of_ble_eq_true rfl, Nat.le_of_ble_eq_true rfl⟩) hX hP hD hS hA [0, 1, 2, 3] [] [0, 1, 2, 3] rfl rfl rfl ⟨by decide, by decide, by decide⟩ (by decide) (ci := 3) (q0 := 0) rfl rfl rfl hl.1 rfl (Nat.le_of_ble_eq_true rfl) dL_types_28 ⟨Nat.zero_le _, Nat.zero_le _⟩ (fun zv3 H locs hP hD hS => ?_)
          refine lv_pop hx hb dL_types_31 rfl ?_
          refine lv_iinc (v := (x3q3 + (-1))) (lv' := [(3, .int (x3q3 + (-1))), (4, .int (Int64.toInt32 ((jlshr x1 (8 * x3q3)) &&& 255))), (0, .ref o), (1, .long x1)]) hx hb dL_types_32 hl (k := 3) rfl rfl (by decide) rfl (fun ls hl => ?_)
          refine lv_goto (tgt := 3) hx hb dL_types_35 (by decide) ?_
          exact ih3 _ _  _ _ _ hf hP hD hS (lv_sub hl [2, 3, 0] rfl)
  exact L3 k _ _ _ _ _ hf hP hD hS (lv_sub hl [1, 2, 0] rfl)

/-! ===== L_isFault ===== -/
def p_L_isFault (k : Nat) (T : TD) (x1 : Int64) (x3 : Int64) (x5 : Int32) (x6 : Int32) : Option (Int32 × TD) :=
  bind2 (p_X4_clearText k T) fun v1 T2 => (p_L_types k T2 x1).bind fun T3 => (p_L_types k T3 x3).bind fun T4 => bind2 (p_X4_fault k T4 0) fun v5 T6 => if v5 = x5 then (bind2 (p_X4_fault k T6 1) fun v8 T9 => if v8 = x6 then (some (1, T9)) else (some (0, T9))) else (some (0, T6))

set_option maxHeartbeats 4000000 in
set_option maxRecDepth 100000 in
theorem c_L_isFault {l : Launch} {D : va_G} {ks : K3} (k : Nat) (o : Nat) (a b : AF) (h : AH) (t : AT) (T : TD) (x1 : Int64) (x3 : Int64) (x5 : Int32) (x6 : Int32) (r : Int32) (rT : TD) (hf : p_L_isFault k T x1 x3 x5 x6 = some (r, rT)) : MetI l yL_isFault wsL_isFault { frames := 5, cells := 0, slots := 0, locals := 111 } D ks [.ref o, .long x1, .long x3, .int x5, .int x6] (wS o a b h t ++ wT ks t T) (wS o a b h t ++ wT ks t rT) r (narrow .boolean (.int r) = .int r) := by
  refine MetI.of (cc := cL_isFault) (maxL := 7) (ret := (some .boolean)) (by decide +kernel) rfl (Nat.le_of_ble_eq_true rfl) ?_ ⟨_, rfl⟩
  intro p e s m below meth c Q A hx hb hml hts hown hP hX hD hA hret ls hl
  have hK := hX.1
  replace hl : lv_has ls 7 [(0, .ref o), (1, .long x1), (3, .long x3), (5, .int x5), (6, .int x6)] := hl
  have hS : va_S A s.heap s.heap [] := va_S.rf
  unfold p_L_isFault at hf
  refine lv_aload_n hx hb dL_isFault_0 rfl (lv_at hl 0 rfl) ?_
  obtain ⟨v1, T2, hv1, hf⟩ := bnd2 hf
  refine xcallI (As := []) (rest := []) (wc := (wS o a b h t ++ wT ks t T)) (w1 := (wS o a b h t ++ wT ks t T2)) (wr := ([] : va_W)) (wn := (wS o a b h t ++ wT ks t T2)) ⟨hx, hb, hml, hown, hts⟩ (c_X4_clearText k o a b h t T v1 T2 hv1) (cwV 0 hts gL_isFault_X4_clearText rfl rfl rfl (by decide +kernel) ⟨Nat.le_of_ble_eq_true rfl, Nat.le_of_ble_eq_true rfl⟩) hX hP hD hS hA [0, 1, 2, 3] [] [0, 1, 2, 3] rfl rfl rfl ⟨by decide, by decide, by decide⟩ (by decide) (ci := 3) (q0 := 0) rfl rfl rfl hl.1 rfl (Nat.le_of_ble_eq_true rfl) dL_isFault_1 ⟨Nat.zero_le _, Nat.zero_le _⟩ (fun zv1 H locs hP hD hS => ?_)
  refine lv_pop hx hb dL_isFault_4 rfl ?_
  refine lv_aload_n hx hb dL_isFault_5 rfl (lv_at hl 0 rfl) ?_
  refine lv_lload_n hx hb dL_isFault_6 rfl (lv_at hl 1 rfl) ?_
  obtain ⟨T3, hT3, hf⟩ := bnd hf
  refine xcallVS (As := [.ref o, .long x1]) (rest := []) (wc := (wS o a b h t ++ wT ks t T2)) (w1 := (wS o a b h t ++ wT ks t T3)) (wr := ([] : va_W)) (wn := (wS o a b h t ++ wT ks t T3)) ⟨hx, hb, hml, hown, hts⟩ (c_L_types k o a b h t T2 x1 T3 hT3) (va_cwS 2 hts gL_isFault_L_types rfl rfl rfl (by decide +kernel) ⟨Nat.le_of_ble_eq_true rfl, Nat.le_of_ble_eq_true rfl⟩) hX hP hD hS hA [0, 1, 2, 3] [] [0, 1, 2, 3] rfl rfl rfl ⟨by decide, by decide, by decide⟩ (by decide) rfl hl.1 rfl (Nat.le_of_ble_eq_true rfl) dL_isFault_7 ⟨Nat.zero_le _, Nat.zero_le _⟩ (fun H locs hP hD hS => ?_)
  refine lv_aload_n hx hb dL_isFault_10 rfl (lv_at hl 0 rfl) ?_
  refine lv_lload_n hx hb dL_isFault_11 rfl (lv_at hl 2 rfl) ?_
  obtain ⟨T4, hT4, hf⟩ := bnd hf
  refine xcallVS (As := [.ref o, .long x3]) (rest := []) (wc := (wS o a b h t ++ wT ks t T3)) (w1 := (wS o a b h t ++ wT ks t T4)) (wr := ([] : va_W)) (wn := (wS o a b h t ++ wT ks t T4)) ⟨hx, hb, hml, hown, hts⟩ (c_L_types k o a b h t T3 x3 T4 hT4) (va_cwS 2 hts gL_isFault_L_types rfl rfl rfl (by decide +kernel) ⟨Nat.le_of_ble_eq_true rfl, Nat.le_of_ble_eq_true rfl⟩) hX hP hD hS hA [0, 1, 2, 3] [] [0, 1, 2, 3] rfl rfl rfl ⟨by decide, by decide, by decide⟩ (by decide) rfl hl.1 rfl (Nat.le_of_ble_eq_true rfl) dL_isFault_12 ⟨Nat.zero_le _, Nat.zero_le _⟩ (fun H locs hP hD hS => ?_)
  refine lv_aload_n hx hb dL_isFault_15 rfl (lv_at hl 0 rfl) ?_
  refine lv_iconst (v := 0) hx hb dL_isFault_16 (by decide) ?_
  obtain ⟨v5, T6, hv5, hf⟩ := bnd2 hf
  refine xcallI (As := [.int 0]) (rest := []) (wc := (wS o a b h t ++ wT ks t T4)) (w1 := (wS o a b h t ++ wT ks t T6)) (wr := ([] : va_W)) (wn := (wS o a b h t ++ wT ks t T6)) ⟨hx, hb, hml, hown, hts⟩ (c_X4_fault k o a b h t T4 0 v5 T6 hv5) (cwV 1 hts gL_isFault_X4_fault rfl rfl rfl (by decide +kernel) ⟨Nat.le_of_ble_eq_true rfl, Nat.le_of_ble_eq_true rfl⟩) hX hP hD hS hA [0, 1, 2, 3] [] [0, 1, 2, 3] rfl rfl rfl ⟨by decide, by decide, by decide⟩ (by decide) (ci := 3) (q0 := 0) rfl rfl rfl hl.1 rfl (Nat.le_of_ble_eq_true rfl) dL_isFault_17 ⟨Nat.zero_le _, Nat.zero_le _⟩ (fun zv5 H locs hP hD hS => ?_)
  refine lv_iload hx hb dL_isFault_20 (lv_at hl 3 rfl) ?_
  refine lv_icmp_ne (tgt := 39) hx hb dL_isFault_22 (by decide) (fun c7 => ?_) (fun c7 => ?_)
  · replace hf := ifF hf c7
    refine lv_iconst (v := 0) hx hb dL_isFault_39 (by decide) ?_
    obtain ⟨rfl, rfl⟩ := inj2 hf
    exact hret rfl _ _ _ _ dL_isFault_40 (fun ty h => by cases h; rfl) hP hD hS
  · replace hf := ifT hf c7
    refine lv_aload_n hx hb dL_isFault_25 rfl (lv_at hl 0 rfl) ?_
    refine lv_iconst (v := 1) hx hb dL_isFault_26 (by decide) ?_
    obtain ⟨v8, T9, hv8, hf⟩ := bnd2 hf
    refine xcallI (As := [.int 1]) (rest := []) (wc := (wS o a b h t ++ wT ks t T6)) (w1 := (wS o a b h t ++ wT ks t T9)) (wr := ([] : va_W)) (wn := (wS o a b h t ++ wT ks t T9)) ⟨hx, hb, hml, hown, hts⟩ (c_X4_fault k o a b h t T6 1 v8 T9 hv8) (cwV 1 hts gL_isFault_X4_fault rfl rfl rfl (by decide +kernel) ⟨Nat.le_of_ble_eq_true rfl, Nat.le_of_ble_eq_true rfl⟩) hX hP hD hS hA [0, 1, 2, 3] [] [0, 1, 2, 3] rfl rfl rfl ⟨by decide, by decide, by decide⟩ (by decide) (ci := 3) (q0 := 0) rfl rfl rfl hl.1 rfl (Nat.le_of_ble_eq_true rfl) dL_isFault_27 ⟨Nat.zero_le _, Nat.zero_le _⟩ (fun zv8 H locs hP hD hS => ?_)
    refine lv_iload hx hb dL_isFault_30 (lv_at hl 4 rfl) ?_
    refine lv_icmp_ne (tgt := 39) hx hb dL_isFault_32 (by decide) (fun c10 => ?_) (fun c10 => ?_)
    · replace hf := ifF hf c10
      refine lv_iconst (v := 0) hx hb dL_isFault_39 (by decide) ?_
      obtain ⟨rfl, rfl⟩ := inj2 hf
      exact hret rfl _ _ _ _ dL_isFault_40 (fun ty h => by cases h; rfl) hP hD hS
    · replace hf := ifT hf c10
      refine lv_iconst (v := 1) hx hb dL_isFault_35 (by decide) ?_
      refine lv_goto (tgt := 40) hx hb dL_isFault_36 (by decide) ?_
      obtain ⟨rfl, rfl⟩ := inj2 hf
      exact hret rfl _ _ _ _ dL_isFault_40 (fun ty h => by cases h; rfl) hP hD hS
