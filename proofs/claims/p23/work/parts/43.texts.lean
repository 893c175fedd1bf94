/-! p23: the law's texts, call by call. -/
def tx_T1 : TD := mkTD (tb [49, 48, 48]) (tb [100]) 3 1 0 0
def tx_T2 : TD := mkTD (tb [49, 48, 48]) (tb [100]) 0 0 0 1
def tx_T3 : TD := mkTD (tb [53, 48, 48, 49]) (tb [100]) 4 0 0 2
def tx_T4 : TD := mkTD (tb [49, 50, 51, 52, 53]) (tb [100]) 5 0 0 1
def tx_T5 : TD := mkTD (tb [49, 48, 48, 44, 50, 48, 48, 120, 51]) (tb [100, 200, 200, 200]) 9 4 4 0
def tx_T6 : TD := mkTD (tb [49, 48, 48, 120, 50, 53, 48, 120, 51]) (tb [100, 200, 200, 200]) 6 0 0 2
def tx_T7 : TD := mkTD (tb [49, 48, 48, 120, 48, 53, 48, 120, 51]) (tb [100, 200, 200, 200]) 5 0 0 2
def tx_T8 : TD := mkTD (tb [49, 48, 48, 120, 48, 53, 48, 120, 51]) (tb [100, 200, 200, 200]) 4 0 0 1
def tx_T9 : TD := mkTD (tb [49, 48, 48, 120, 49, 50, 51, 120, 51]) (tb [100, 200, 200, 200]) 7 0 0 1
def tx_T10 : TD := mkTD (tb [49, 48, 48, 44, 44, 50, 48, 48, 51]) (tb [100, 200, 200, 200]) 8 1 4 1
def tx_T11 : TD := mkTD (tb [49, 48, 48, 44, 44, 50, 48, 48, 51]) (tb [100, 200, 200, 200]) 4 1 4 1
def tx_T12 : TD := mkTD (tb [44, 49, 48, 48, 44, 50, 48, 48, 51]) (tb [100, 200, 200, 200]) 4 0 0 1
def tx_T13 : TD := mkTD (tb [49, 48, 120, 50, 52, 44, 53, 48, 51]) (tb [10, 10, 10, 10, 10, 10, 10, 10, 10, 10, 10, 10, 10, 10, 10, 10, 10, 10, 10, 10, 10, 10, 10, 10]) 7 24 6 3
def tx_T14 : TD := mkTD (tb [49, 48, 120, 50, 48, 44, 53, 120, 53]) (tb [10, 10, 10, 10, 10, 10, 10, 10, 10, 10, 10, 10, 10, 10, 10, 10, 10, 10, 10, 10, 10, 10, 10, 10]) 9 20 6 3
def tx_T15 : TD := mkTD (tb [49, 48, 120, 50, 48, 44, 53, 120, 52]) (tb [10, 10, 10, 10, 10, 10, 10, 10, 10, 10, 10, 10, 10, 10, 10, 10, 10, 10, 10, 10, 5, 5, 5, 5]) 9 24 6 0
def tx_T16 : TD := mkTD (tb [49, 48, 48, 120, 50, 120, 51, 120, 52]) (tb [10, 10, 10, 10, 10, 10, 10, 10, 10, 10, 10, 10, 10, 10, 10, 10, 10, 10, 10, 10, 5, 5, 5, 5]) 7 0 0 1
def tx_T17 : TD := mkTD (tb [49, 48, 48, 32, 44, 53, 51, 120, 52]) (tb [10, 10, 10, 10, 10, 10, 10, 10, 10, 10, 10, 10, 10, 10, 10, 10, 10, 10, 10, 10, 5, 5, 5, 5]) 6 0 0 1
def tx_T18 : TD := mkTD (tb [48, 48, 48, 48, 120, 50, 52, 120, 52]) (tb []) 7 24 0 0
def tx_T19 : TD := mkTD (tb [55, 44, 53, 48, 48, 49, 120, 50, 53]) (tb [7]) 9 1 2 2
def tx_T20 : TD := mkTD (tb [55, 44, 53, 48, 120, 51, 48, 121, 53]) (tb [7]) 8 1 2 1
def tx_T21 : TD := mkTD (tb [49, 48, 120, 50, 48, 44, 54, 48, 48, 48, 120, 57]) (tb [10, 10, 10, 10, 10, 10, 10, 10, 10, 10, 10, 10, 10, 10, 10, 10, 10, 10, 10, 10]) 12 20 6 2
def tx_T22 : TD := mkTD (tb [53, 48, 48, 48, 120, 48, 49, 48, 48, 48, 120, 57]) (tb [5000, 10, 10, 10, 10, 10, 10, 10, 10, 10, 10, 10, 10, 10, 10, 10, 10, 10, 10, 10]) 7 1 0 0
def tx_T23 : TD := mkTD (tb [49, 48, 59, 50, 48, 48, 49, 48, 48, 48, 120, 57]) (tb [5000, 10, 10, 10, 10, 10, 10, 10, 10, 10, 10, 10, 10, 10, 10, 10, 10, 10, 10, 10]) 5 0 0 1
def tx_T24 : TD := mkTD (tb [49, 120, 50, 52, 44, 120, 49, 48, 48, 48, 120, 57]) (tb [1, 1, 1, 1, 1, 1, 1, 1, 1, 1, 1, 1, 1, 1, 1, 1, 1, 1, 1, 1, 1, 1, 1, 1]) 6 24 5 1
def tx_T25 : TD := mkTD (tb [49, 48, 48, 120, 50, 44, 51, 48, 48, 48, 120, 57]) (tb [100, 100, 30, 1, 1, 1, 1, 1, 1, 1, 1, 1, 1, 1, 1, 1, 1, 1, 1, 1, 1, 1, 1, 1]) 8 3 6 0
def tx_F1 : FD := mkFD (tb [100, 100, 30]) (tb [20, 1, 10, 30, 5, 12, 3000]) (tb [230, 230]) 3 0 0 0 0 0 0
def tx_F2 : FD := mkFD (tb [100, 100, 30]) (tb [20, 1, 10, 30, 5, 12, 3000]) (tb [460, 230, 0, 0, 0, 0, 230]) 3 0 0 0 0 0 0
def tx_T26 : TD := mkTD (tb [49, 48, 48, 120, 50, 44, 51, 48, 48, 48, 120, 57]) (tb [100, 100, 30, 1, 1, 1, 1, 1, 1, 1, 1, 1, 1, 1, 1, 1, 1, 1, 1, 1, 1, 1, 1, 1]) 0 3 6 0
def tx_T27 : TD := mkTD (tb [49, 48, 48, 120, 50, 44, 51, 48, 48, 48, 120, 57]) (tb [100, 100, 30, 1, 1, 1, 1, 1, 1, 1, 1, 1, 1, 1, 1, 1, 1, 1, 1, 1, 1, 1, 1, 1]) 0 0 0 1
def tx_T28 : TD := mkTD (tb [49, 49, 49, 49, 49, 49, 49, 49, 49, 49, 49, 49, 49, 49, 49, 49, 49, 49, 49, 49, 49, 49, 49, 49, 49, 49, 49, 49, 49, 49, 49, 49, 49, 49, 49, 49, 49, 49, 49, 49, 49, 49, 49, 49, 49, 49, 49, 49, 49, 49, 49, 49, 49, 49, 49, 49, 49, 49, 49, 49, 49, 49, 49, 49, 49, 49, 49, 49, 49, 49, 49, 49, 49, 49, 49, 49, 49, 49, 49, 49, 49, 49, 49, 49, 49, 49, 49, 49, 49, 49, 49, 49, 49, 49, 49, 49, 49, 49, 49, 49]) (tb [100, 100, 30, 1, 1, 1, 1, 1, 1, 1, 1, 1, 1, 1, 1, 1, 1, 1, 1, 1, 1, 1, 1, 1]) 100 0 0 1
def tx_T29 : TD := mkTD (tb [49, 49, 49, 49, 49, 49, 49, 49, 49, 49, 49, 49, 49, 49, 49, 49, 49, 49, 49, 49, 49, 49, 49, 49, 49, 49, 49, 49, 49, 49, 49, 49, 49, 49, 49, 49, 49, 49, 49, 49, 49, 49, 49, 49, 49, 49, 49, 49, 49, 49, 49, 49, 49, 49, 49, 49, 49, 49, 49, 49, 49, 49, 49, 49, 49, 49, 49, 49, 49, 49, 49, 49, 49, 49, 49, 49, 49, 49, 49, 49, 49, 49, 49, 49, 49, 49, 49, 49, 49, 49, 49, 49, 49, 49, 49, 49, 49, 49, 49, 49]) (tb [100, 100, 30, 1, 1, 1, 1, 1, 1, 1, 1, 1, 1, 1, 1, 1, 1, 1, 1, 1, 1, 1, 1, 1]) 0 0 0 1
theorem tx_k0 : chkT (p_L_isFault 120 td0 3223600 0 (-4) (-4)) 1 tx_T1 = true := by decide +kernel
theorem tx_k1 : chkT (p_L_isFault 120 tx_T1 0 0 0 1) 1 tx_T2 = true := by decide +kernel
theorem tx_k2 : chkT (p_L_isFault 120 tx_T2 892350513 0 0 2) 1 tx_T3 = true := by decide +kernel
theorem tx_k3 : chkT (p_L_isFault 120 tx_T3 211295614005 0 0 1) 1 tx_T4 = true := by decide +kernel
theorem tx_k4 : chkT (p_L_isFault 120 tx_T4 3544385873119293560 51 (-4) (-4)) 1 tx_T5 = true := by decide +kernel
theorem tx_k5 : chkT (p_L_isFault 120 tx_T5 54083041374773 0 0 2) 1 tx_T6 = true := by decide +kernel
theorem tx_k6 : chkT (p_L_isFault 120 tx_T6 211261880368 0 0 2) 1 tx_T7 = true := by decide +kernel
theorem tx_k7 : chkT (p_L_isFault 120 tx_T7 825241720 0 0 1) 1 tx_T8 = true := by decide +kernel
theorem tx_k8 : chkT (p_L_isFault 120 tx_T8 13845258591875635 0 0 1) 1 tx_T9 = true := by decide +kernel
theorem tx_k9 : chkT (p_L_isFault 120 tx_T9 3544385873018761264 0 4 1) 1 tx_T10 = true := by decide +kernel
theorem tx_k10 : chkT (p_L_isFault 120 tx_T10 825241644 0 4 1) 1 tx_T11 = true := by decide +kernel
theorem tx_k11 : chkT (p_L_isFault 120 tx_T11 741421104 0 0 1) 1 tx_T12 = true := by decide +kernel
theorem tx_k12 : chkT (p_L_isFault 120 tx_T12 13845566655310901 0 6 3) 1 tx_T13 = true := by decide +kernel
theorem tx_k13 : chkT (p_L_isFault 120 tx_T13 3544465063692481912 53 6 3) 1 tx_T14 = true := by decide +kernel
theorem tx_k14 : chkT (p_L_isFault 120 tx_T14 3544465063692481912 52 (-4) (-4)) 1 tx_T15 = true := by decide +kernel
theorem tx_k15 : chkT (p_L_isFault 120 tx_T15 13845258591959091 0 0 1) 1 tx_T16 = true := by decide +kernel
theorem tx_k16 : chkT (p_L_isFault 120 tx_T16 54083035606069 0 0 1) 1 tx_T17 = true := by decide +kernel
theorem tx_k17 : chkT (p_L_isFault 120 tx_T17 13563782411858484 0 (-4) (-4)) 1 tx_T18 = true := by decide +kernel
theorem tx_k18 : chkT (p_L_isFault 120 tx_T18 3975611052144556082 53 2 2) 1 tx_T19 = true := by decide +kernel
theorem tx_k19 : chkT (p_L_isFault 120 tx_T19 3975611053352628345 0 2 1) 1 tx_T20 = true := by decide +kernel
theorem tx_k20 : chkT (p_L_isFault 120 tx_T20 3544465063692482096 808482873 6 2) 1 tx_T21 = true := by decide +kernel
theorem tx_k21 : chkT (p_L_isFault 120 tx_T21 14971157295411249 0 (-4) (-4)) 1 tx_T22 = true := by decide +kernel
theorem tx_k22 : chkT (p_L_isFault 120 tx_T22 211262583344 0 0 1) 1 tx_T23 = true := by decide +kernel
theorem tx_k23 : chkT (p_L_isFault 120 tx_T23 54392308116600 0 5 1) 1 tx_T24 = true := by decide +kernel
theorem tx_k24 : chkR (p_X4_read 120 fd0 A00 0 S00 tx_T24) (-2) 0 fd0 tx_T24 = true := by decide +kernel
theorem tx_k25 : p_X4_count 120 fd0 A00 0 S00 tx_T24 11 = some 0 := by decide +kernel
theorem tx_k26 : chkT (p_L_isFault 120 tx_T24 3544386199536546608 0 (-4) (-4)) 1 tx_T25 = true := by decide +kernel
theorem tx_k27 : chkR (p_X4_read 120 fd0 A00 0 S00 tx_T25) 3 1 tx_F1 tx_T25 = true := by decide +kernel
theorem tx_k28 : p_X4_row 120 tx_F1 1 0 = some 100 := by decide +kernel
theorem tx_k29 : p_X4_row 120 tx_F1 2 0 = some 30 := by decide +kernel
theorem tx_k30 : p_X4_count 120 tx_F1 A00 1 S00 tx_T25 20 = some 230 := by decide +kernel
theorem tx_k31 : chkR (p_X4_read 120 tx_F1 A00 0 S00 tx_T25) 3 1 tx_F2 tx_T25 = true := by decide +kernel
theorem tx_k32 : p_X4_count 120 tx_F2 A00 2 S00 tx_T25 26 = some 230 := by decide +kernel
theorem tx_k33 : p_X4_count 120 tx_F2 A00 2 S00 tx_T25 20 = some 460 := by decide +kernel
theorem tx_k34 : p_X4_count 120 tx_F2 A00 2 S00 tx_T25 11 = some 2 := by decide +kernel
theorem tx_k35 : chkT (p_X4_clearText 120 tx_T25 ) 8 tx_T26 = true := by decide +kernel
theorem tx_k36 : chkT (p_X4_fault 120 tx_T26 0) 0 tx_T27 = true := by decide +kernel
theorem tx_k37 : chkT (p_X4_fault 120 tx_T27 1) 1 tx_T27 = true := by decide +kernel
theorem tx_k38 : chkR (p_X4_read 120 tx_F2 A00 0 S00 tx_T27) (-2) 0 tx_F2 tx_T27 = true := by decide +kernel
theorem tx_k39 : chkT (p_X4_type 120 tx_T28 49) (-3) tx_T28 = true := by decide +kernel
theorem tx_k40 : chkT (p_X4_type 120 tx_T28 31) (-1) tx_T28 = true := by decide +kernel
theorem tx_k41 : chkT (p_X4_fault 120 tx_T28 0) 0 tx_T28 = true := by decide +kernel
theorem tx_k42 : chkT (p_X4_clearText 120 tx_T28 ) 100 tx_T29 = true := by decide +kernel
section TX
variable {p : Program} {l : Launch} {e : Env} {s : State} {m : MethodId} {args : Array Value} {below : List Frame} {meth : Method} {c : Code} {Q : State → Prop} {A : Nat → Prop} {D : va_G} {ks : K3} {H : Heap} {locs : List Loc} {ls : Array Slot} {o : Nat} {a b : AF} {h : AH} {t : AT} {G : FD} {qA : Nat → AF} {qS : Nat → FD}
set_option maxHeartbeats 4000000 in
set_option maxRecDepth 100000 in
theorem tx_s0 (S0 : CallFix p m c cL_texts 2 s args wsL_texts RL) (hX : xK D ks s) (hE : xEset A s s.heap) (hA : ∀ q, s.heap.size ≤ q → A q) (hP : va_P D vwCl (wO ks o a b h t fd0 G qA 0 qS td0) H) (hD : va_D A (wO ks o a b h t fd0 G qA 0 qS td0)) (hS : va_S A s.heap H locs) (hl : lv_has ls 2 [(0, .ref o)])
    (kk : ∀ (G : FD) (qA : Nat → AF) (qS : Nat → FD) (H : Heap) (locs : List Loc), va_P D vwCl (wO ks o a b h t fd0 G qA 0 qS tx_T8) H → va_D A (wO ks o a b h t fd0 G qA 0 qS tx_T8) → va_S A s.heap H locs → W p l e { frames := 7, cells := 34, slots := 477, locals := 149 } s m args below meth c H locs 34 477 Q (F0 m 120 ls [])) : W p l e { frames := 7, cells := 34, slots := 477, locals := 149 } s m args below meth c H locs 34 477 Q (F0 m 8 ls []) := by
  obtain ⟨hx, hb, hml, hown, hts⟩ := id S0
  refine lv_aload_n hx hb dL_texts_8 rfl (lv_at hl 0 rfl) ?_
  refine lv_ldc2 (v := 3223600) hx hb hown (hts (.constantLong RL 91 (3223600)) (by decide +kernel)) dL_texts_9 ?_
  refine lv_lconst (v := 0) hx hb dL_texts_12 (by decide) ?_
  refine lv_bipush (v := (-4)) hx hb dL_texts_13 (by decide) ?_
  refine lv_bipush (v := (-4)) hx hb dL_texts_15 (by decide) ?_
  obtain ⟨T1, e1, g1⟩ := stepT tx_k0
  refine kIsF0 (As := [.long 3223600, .long 0, .int (-4), .int (-4)]) (rest := []) ⟨hx, hb, hml, hown, hts⟩ (c_L_isFault 120 o a b h t td0 3223600 0 (-4) (-4) _ _ e1) (va_cwS 5 hts gL_texts_L_isFault rfl rfl rfl (by decide +kernel) ⟨Nat.le_of_ble_eq_true rfl, Nat.le_of_ble_eq_true rfl⟩) hX hP hD hS hA rfl hl.1 rfl (Nat.le_of_ble_eq_true rfl) dL_texts_17 ⟨Nat.le_of_ble_eq_true rfl, Nat.le_of_ble_eq_true rfl⟩ (fun H locs hP hD hS => ?_)
  obtain ⟨hP, hD⟩ := convT g1 hP hD
  refine lv_if_eq (tgt := 60) hx hb dL_texts_20 (by decide) (fun c => absurd c (by decide)) (fun _ => ?_)
  refine lv_aload_n hx hb dL_texts_23 rfl (lv_at hl 0 rfl) ?_
  refine lv_lconst (v := 0) hx hb dL_texts_24 (by decide) ?_
  refine lv_lconst (v := 0) hx hb dL_texts_25 (by decide) ?_
  refine lv_iconst (v := 0) hx hb dL_texts_26 (by decide) ?_
  refine lv_iconst (v := 1) hx hb dL_texts_27 (by decide) ?_
  obtain ⟨T1, e1, g1⟩ := stepT tx_k1
  refine kIsF0 (As := [.long 0, .long 0, .int 0, .int 1]) (rest := []) ⟨hx, hb, hml, hown, hts⟩ (c_L_isFault 120 o a b h t tx_T1 0 0 0 1 _ _ e1) (va_cwS 5 hts gL_texts_L_isFault rfl rfl rfl (by decide +kernel) ⟨Nat.le_of_ble_eq_true rfl, Nat.le_of_ble_eq_true rfl⟩) hX hP hD hS hA rfl hl.1 rfl (Nat.le_of_ble_eq_true rfl) dL_texts_28 ⟨Nat.le_of_ble_eq_true rfl, Nat.le_of_ble_eq_true rfl⟩ (fun H locs hP hD hS => ?_)
  obtain ⟨hP, hD⟩ := convT g1 hP hD
  refine lv_if_eq (tgt := 60) hx hb dL_texts_31 (by decide) (fun c => absurd c (by decide)) (fun _ => ?_)
  refine lv_aload_n hx hb dL_texts_34 rfl (lv_at hl 0 rfl) ?_
  refine lv_ldc2 (v := 892350513) hx hb hown (hts (.constantLong RL 97 (892350513)) (by decide +kernel)) dL_texts_35 ?_
  refine lv_lconst (v := 0) hx hb dL_texts_38 (by decide) ?_
  refine lv_iconst (v := 0) hx hb dL_texts_39 (by decide) ?_
  refine lv_iconst (v := 2) hx hb dL_texts_40 (by decide) ?_
  obtain ⟨T1, e1, g1⟩ := stepT tx_k2
  refine kIsF0 (As := [.long 892350513, .long 0, .int 0, .int 2]) (rest := []) ⟨hx, hb, hml, hown, hts⟩ (c_L_isFault 120 o a b h t tx_T2 892350513 0 0 2 _ _ e1) (va_cwS 5 hts gL_texts_L_isFault rfl rfl rfl (by decide +kernel) ⟨Nat.le_of_ble_eq_true rfl, Nat.le_of_ble_eq_true rfl⟩) hX hP hD hS hA rfl hl.1 rfl (Nat.le_of_ble_eq_true rfl) dL_texts_41 ⟨Nat.le_of_ble_eq_true rfl, Nat.le_of_ble_eq_true rfl⟩ (fun H locs hP hD hS => ?_)
  obtain ⟨hP, hD⟩ := convT g1 hP hD
  refine lv_if_eq (tgt := 60) hx hb dL_texts_44 (by decide) (fun c => absurd c (by decide)) (fun _ => ?_)
  refine lv_aload_n hx hb dL_texts_47 rfl (lv_at hl 0 rfl) ?_
  refine lv_ldc2 (v := 211295614005) hx hb hown (hts (.constantLong RL 99 (211295614005)) (by decide +kernel)) dL_texts_48 ?_
  refine lv_lconst (v := 0) hx hb dL_texts_51 (by decide) ?_
  refine lv_iconst (v := 0) hx hb dL_texts_52 (by decide) ?_
  refine lv_iconst (v := 1) hx hb dL_texts_53 (by decide) ?_
  obtain ⟨T1, e1, g1⟩ := stepT tx_k3
  refine kIsF0 (As := [.long 211295614005, .long 0, .int 0, .int 1]) (rest := []) ⟨hx, hb, hml, hown, hts⟩ (c_L_isFault 120 o a b h t tx_T3 211295614005 0 0 1 _ _ e1) (va_cwS 5 hts gL_texts_L_isFault rfl rfl rfl (by decide +kernel) ⟨Nat.le_of_ble_eq_true rfl, Nat.le_of_ble_eq_true rfl⟩) hX hP hD hS hA rfl hl.1 rfl (Nat.le_of_ble_eq_true rfl) dL_texts_54 ⟨Nat.le_of_ble_eq_true rfl, Nat.le_of_ble_eq_true rfl⟩ (fun H locs hP hD hS => ?_)
  obtain ⟨hP, hD⟩ := convT g1 hP hD
  refine lv_if_ne (tgt := 62) hx hb dL_texts_57 (by decide) (fun _ => ?_) (fun c => absurd c (by decide))
  refine lv_aload_n hx hb dL_texts_62 rfl (lv_at hl 0 rfl) ?_
  refine lv_ldc2 (v := 3544385873119293560) hx hb hown (hts (.constantLong RL 101 (3544385873119293560)) (by decide +kernel)) dL_texts_63 ?_
  refine lv_ldc2 (v := 51) hx hb hown (hts (.constantLong RL 103 (51)) (by decide +kernel)) dL_texts_66 ?_
  refine lv_bipush (v := (-4)) hx hb dL_texts_69 (by decide) ?_
  refine lv_bipush (v := (-4)) hx hb dL_texts_71 (by decide) ?_
  obtain ⟨T1, e1, g1⟩ := stepT tx_k4
  refine kIsF0 (As := [.long 3544385873119293560, .long 51, .int (-4), .int (-4)]) (rest := []) ⟨hx, hb, hml, hown, hts⟩ (c_L_isFault 120 o a b h t tx_T4 3544385873119293560 51 (-4) (-4) _ _ e1) (va_cwS 5 hts gL_texts_L_isFault rfl rfl rfl (by decide +kernel) ⟨Nat.le_of_ble_eq_true rfl, Nat.le_of_ble_eq_true rfl⟩) hX hP hD hS hA rfl hl.1 rfl (Nat.le_of_ble_eq_true rfl) dL_texts_73 ⟨Nat.le_of_ble_eq_true rfl, Nat.le_of_ble_eq_true rfl⟩ (fun H locs hP hD hS => ?_)
  obtain ⟨hP, hD⟩ := convT g1 hP hD
  refine lv_if_eq (tgt := 118) hx hb dL_texts_76 (by decide) (fun c => absurd c (by decide)) (fun _ => ?_)
  refine lv_aload_n hx hb dL_texts_79 rfl (lv_at hl 0 rfl) ?_
  refine lv_ldc2 (v := 54083041374773) hx hb hown (hts (.constantLong RL 105 (54083041374773)) (by decide +kernel)) dL_texts_80 ?_
  refine lv_lconst (v := 0) hx hb dL_texts_83 (by decide) ?_
  refine lv_iconst (v := 0) hx hb dL_texts_84 (by decide) ?_
  refine lv_iconst (v := 2) hx hb dL_texts_85 (by decide) ?_
  obtain ⟨T1, e1, g1⟩ := stepT tx_k5
  refine kIsF0 (As := [.long 54083041374773, .long 0, .int 0, .int 2]) (rest := []) ⟨hx, hb, hml, hown, hts⟩ (c_L_isFault 120 o a b h t tx_T5 54083041374773 0 0 2 _ _ e1) (va_cwS 5 hts gL_texts_L_isFault rfl rfl rfl (by decide +kernel) ⟨Nat.le_of_ble_eq_true rfl, Nat.le_of_ble_eq_true rfl⟩) hX hP hD hS hA rfl hl.1 rfl (Nat.le_of_ble_eq_true rfl) dL_texts_86 ⟨Nat.le_of_ble_eq_true rfl, Nat.le_of_ble_eq_true rfl⟩ (fun H locs hP hD hS => ?_)
  obtain ⟨hP, hD⟩ := convT g1 hP hD
  refine lv_if_eq (tgt := 118) hx hb dL_texts_89 (by decide) (fun c => absurd c (by decide)) (fun _ => ?_)
  refine lv_aload_n hx hb dL_texts_92 rfl (lv_at hl 0 rfl) ?_
  refine lv_ldc2 (v := 211261880368) hx hb hown (hts (.constantLong RL 107 (211261880368)) (by decide +kernel)) dL_texts_93 ?_
  refine lv_lconst (v := 0) hx hb dL_texts_96 (by decide) ?_
  refine lv_iconst (v := 0) hx hb dL_texts_97 (by decide) ?_
  refine lv_iconst (v := 2) hx hb dL_texts_98 (by decide) ?_
  obtain ⟨T1, e1, g1⟩ := stepT tx_k6
  refine kIsF0 (As := [.long 211261880368, .long 0, .int 0, .int 2]) (rest := []) ⟨hx, hb, hml, hown, hts⟩ (c_L_isFault 120 o a b h t tx_T6 211261880368 0 0 2 _ _ e1) (va_cwS 5 hts gL_texts_L_isFault rfl rfl rfl (by decide +kernel) ⟨Nat.le_of_ble_eq_true rfl, Nat.le_of_ble_eq_true rfl⟩) hX hP hD hS hA rfl hl.1 rfl (Nat.le_of_ble_eq_true rfl) dL_texts_99 ⟨Nat.le_of_ble_eq_true rfl, Nat.le_of_ble_eq_true rfl⟩ (fun H locs hP hD hS => ?_)
  obtain ⟨hP, hD⟩ := convT g1 hP hD
  refine lv_if_eq (tgt := 118) hx hb dL_texts_102 (by decide) (fun c => absurd c (by decide)) (fun _ => ?_)
  refine lv_aload_n hx hb dL_texts_105 rfl (lv_at hl 0 rfl) ?_
  refine lv_ldc2 (v := 825241720) hx hb hown (hts (.constantLong RL 109 (825241720)) (by decide +kernel)) dL_texts_106 ?_
  refine lv_lconst (v := 0) hx hb dL_texts_109 (by decide) ?_
  refine lv_iconst (v := 0) hx hb dL_texts_110 (by decide) ?_
  refine lv_iconst (v := 1) hx hb dL_texts_111 (by decide) ?_
  obtain ⟨T1, e1, g1⟩ := stepT tx_k7
  refine kIsF0 (As := [.long 825241720, .long 0, .int 0, .int 1]) (rest := []) ⟨hx, hb, hml, hown, hts⟩ (c_L_isFault 120 o a b h t tx_T7 825241720 0 0 1 _ _ e1) (va_cwS 5 hts gL_texts_L_isFault rfl rfl rfl (by decide +kernel) ⟨Nat.le_of_ble_eq_true rfl, Nat.le_of_ble_eq_true rfl⟩) hX hP hD hS hA rfl hl.1 rfl (Nat.le_of_ble_eq_true rfl) dL_texts_112 ⟨Nat.le_of_ble_eq_true rfl, Nat.le_of_ble_eq_true rfl⟩ (fun H locs hP hD hS => ?_)
  obtain ⟨hP, hD⟩ := convT g1 hP hD
  refine lv_if_ne (tgt := 120) hx hb dL_texts_115 (by decide) (fun _ => ?_) (fun c => absurd c (by decide))
  exact kk G qA qS _ _ hP hD hS
set_option maxHeartbeats 4000000 in
set_option maxRecDepth 100000 in
theorem tx_s1 (S0 : CallFix p m c cL_texts 2 s args wsL_texts RL) (hX : xK D ks s) (hE : xEset A s s.heap) (hA : ∀ q, s.heap.size ≤ q → A q) (hP : va_P D vwCl (wO ks o a b h t fd0 G qA 0 qS tx_T8) H) (hD : va_D A (wO ks o a b h t fd0 G qA 0 qS tx_T8)) (hS : va_S A s.heap H locs) (hl : lv_has ls 2 [(0, .ref o)])
    (kk : ∀ (G : FD) (qA : Nat → AF) (qS : Nat → FD) (H : Heap) (locs : List Loc), va_P D vwCl (wO ks o a b h t fd0 G qA 0 qS tx_T16) H → va_D A (wO ks o a b h t fd0 G qA 0 qS tx_T16) → va_S A s.heap H locs → W p l e { frames := 7, cells := 34, slots := 477, locals := 149 } s m args below meth c H locs 34 477 Q (F0 m 236 ls [])) : W p l e { frames := 7, cells := 34, slots := 477, locals := 149 } s m args below meth c H locs 34 477 Q (F0 m 120 ls []) := by
  obtain ⟨hx, hb, hml, hown, hts⟩ := id S0
  refine lv_aload_n hx hb dL_texts_120 rfl (lv_at hl 0 rfl) ?_
  refine lv_ldc2 (v := 13845258591875635) hx hb hown (hts (.constantLong RL 111 (13845258591875635)) (by decide +kernel)) dL_texts_121 ?_
  refine lv_lconst (v := 0) hx hb dL_texts_124 (by decide) ?_
  refine lv_iconst (v := 0) hx hb dL_texts_125 (by decide) ?_
  refine lv_iconst (v := 1) hx hb dL_texts_126 (by decide) ?_
  obtain ⟨T1, e1, g1⟩ := stepT tx_k8
  refine kIsF0 (As := [.long 13845258591875635, .long 0, .int 0, .int 1]) (rest := []) ⟨hx, hb, hml, hown, hts⟩ (c_L_isFault 120 o a b h t tx_T8 13845258591875635 0 0 1 _ _ e1) (va_cwS 5 hts gL_texts_L_isFault rfl rfl rfl (by decide +kernel) ⟨Nat.le_of_ble_eq_true rfl, Nat.le_of_ble_eq_true rfl⟩) hX hP hD hS hA rfl hl.1 rfl (Nat.le_of_ble_eq_true rfl) dL_texts_127 ⟨Nat.le_of_ble_eq_true rfl, Nat.le_of_ble_eq_true rfl⟩ (fun H locs hP hD hS => ?_)
  obtain ⟨hP, hD⟩ := convT g1 hP hD
  refine lv_if_eq (tgt := 172) hx hb dL_texts_130 (by decide) (fun c => absurd c (by decide)) (fun _ => ?_)
  refine lv_aload_n hx hb dL_texts_133 rfl (lv_at hl 0 rfl) ?_
  refine lv_ldc2 (v := 3544385873018761264) hx hb hown (hts (.constantLong RL 113 (3544385873018761264)) (by decide +kernel)) dL_texts_134 ?_
  refine lv_lconst (v := 0) hx hb dL_texts_137 (by decide) ?_
  refine lv_iconst (v := 4) hx hb dL_texts_138 (by decide) ?_
  refine lv_iconst (v := 1) hx hb dL_texts_139 (by decide) ?_
  obtain ⟨T1, e1, g1⟩ := stepT tx_k9
  refine kIsF0 (As := [.long 3544385873018761264, .long 0, .int 4, .int 1]) (rest := []) ⟨hx, hb, hml, hown, hts⟩ (c_L_isFault 120 o a b h t tx_T9 3544385873018761264 0 4 1 _ _ e1) (va_cwS 5 hts gL_texts_L_isFault rfl rfl rfl (by decide +kernel) ⟨Nat.le_of_ble_eq_true rfl, Nat.le_of_ble_eq_true rfl⟩) hX hP hD hS hA rfl hl.1 rfl (Nat.le_of_ble_eq_true rfl) dL_texts_140 ⟨Nat.le_of_ble_eq_true rfl, Nat.le_of_ble_eq_true rfl⟩ (fun H locs hP hD hS => ?_)
  obtain ⟨hP, hD⟩ := convT g1 hP hD
  refine lv_if_eq (tgt := 172) hx hb dL_texts_143 (by decide) (fun c => absurd c (by decide)) (fun _ => ?_)
  refine lv_aload_n hx hb dL_texts_146 rfl (lv_at hl 0 rfl) ?_
  refine lv_ldc2 (v := 825241644) hx hb hown (hts (.constantLong RL 115 (825241644)) (by decide +kernel)) dL_texts_147 ?_
  refine lv_lconst (v := 0) hx hb dL_texts_150 (by decide) ?_
  refine lv_iconst (v := 4) hx hb dL_texts_151 (by decide) ?_
  refine lv_iconst (v := 1) hx hb dL_texts_152 (by decide) ?_
  obtain ⟨T1, e1, g1⟩ := stepT tx_k10
  refine kIsF0 (As := [.long 825241644, .long 0, .int 4, .int 1]) (rest := []) ⟨hx, hb, hml, hown, hts⟩ (c_L_isFault 120 o a b h t tx_T10 825241644 0 4 1 _ _ e1) (va_cwS 5 hts gL_texts_L_isFault rfl rfl rfl (by decide +kernel) ⟨Nat.le_of_ble_eq_true rfl, Nat.le_of_ble_eq_true rfl⟩) hX hP hD hS hA rfl hl.1 rfl (Nat.le_of_ble_eq_true rfl) dL_texts_153 ⟨Nat.le_of_ble_eq_true rfl, Nat.le_of_ble_eq_true rfl⟩ (fun H locs hP hD hS => ?_)
  obtain ⟨hP, hD⟩ := convT g1 hP hD
  refine lv_if_eq (tgt := 172) hx hb dL_texts_156 (by decide) (fun c => absurd c (by decide)) (fun _ => ?_)
  refine lv_aload_n hx hb dL_texts_159 rfl (lv_at hl 0 rfl) ?_
  refine lv_ldc2 (v := 741421104) hx hb hown (hts (.constantLong RL 117 (741421104)) (by decide +kernel)) dL_texts_160 ?_
  refine lv_lconst (v := 0) hx hb dL_texts_163 (by decide) ?_
  refine lv_iconst (v := 0) hx hb dL_texts_164 (by decide) ?_
  refine lv_iconst (v := 1) hx hb dL_texts_165 (by decide) ?_
  obtain ⟨T1, e1, g1⟩ := stepT tx_k11
  refine kIsF0 (As := [.long 741421104, .long 0, .int 0, .int 1]) (rest := []) ⟨hx, hb, hml, hown, hts⟩ (c_L_isFault 120 o a b h t tx_T11 741421104 0 0 1 _ _ e1) (va_cwS 5 hts gL_texts_L_isFault rfl rfl rfl (by decide +kernel) ⟨Nat.le_of_ble_eq_true rfl, Nat.le_of_ble_eq_true rfl⟩) hX hP hD hS hA rfl hl.1 rfl (Nat.le_of_ble_eq_true rfl) dL_texts_166 ⟨Nat.le_of_ble_eq_true rfl, Nat.le_of_ble_eq_true rfl⟩ (fun H locs hP hD hS => ?_)
  obtain ⟨hP, hD⟩ := convT g1 hP hD
  refine lv_if_ne (tgt := 174) hx hb dL_texts_169 (by decide) (fun _ => ?_) (fun c => absurd c (by decide))
  refine lv_aload_n hx hb dL_texts_174 rfl (lv_at hl 0 rfl) ?_
  refine lv_ldc2 (v := 13845566655310901) hx hb hown (hts (.constantLong RL 119 (13845566655310901)) (by decide +kernel)) dL_texts_175 ?_
  refine lv_lconst (v := 0) hx hb dL_texts_178 (by decide) ?_
  refine lv_bipush (v := 6) hx hb dL_texts_179 (by decide) ?_
  refine lv_iconst (v := 3) hx hb dL_texts_181 (by decide) ?_
  obtain ⟨T1, e1, g1⟩ := stepT tx_k12
  refine kIsF0 (As := [.long 13845566655310901, .long 0, .int 6, .int 3]) (rest := []) ⟨hx, hb, hml, hown, hts⟩ (c_L_isFault 120 o a b h t tx_T12 13845566655310901 0 6 3 _ _ e1) (va_cwS 5 hts gL_texts_L_isFault rfl rfl rfl (by decide +kernel) ⟨Nat.le_of_ble_eq_true rfl, Nat.le_of_ble_eq_true rfl⟩) hX hP hD hS hA rfl hl.1 rfl (Nat.le_of_ble_eq_true rfl) dL_texts_182 ⟨Nat.le_of_ble_eq_true rfl, Nat.le_of_ble_eq_true rfl⟩ (fun H locs hP hD hS => ?_)
  obtain ⟨hP, hD⟩ := convT g1 hP hD
  refine lv_if_eq (tgt := 234) hx hb dL_texts_185 (by decide) (fun c => absurd c (by decide)) (fun _ => ?_)
  refine lv_aload_n hx hb dL_texts_188 rfl (lv_at hl 0 rfl) ?_
  refine lv_ldc2 (v := 3544465063692481912) hx hb hown (hts (.constantLong RL 121 (3544465063692481912)) (by decide +kernel)) dL_texts_189 ?_
  refine lv_ldc2 (v := 53) hx hb hown (hts (.constantLong RL 123 (53)) (by decide +kernel)) dL_texts_192 ?_
  refine lv_bipush (v := 6) hx hb dL_texts_195 (by decide) ?_
  refine lv_iconst (v := 3) hx hb dL_texts_197 (by decide) ?_
  obtain ⟨T1, e1, g1⟩ := stepT tx_k13
  refine kIsF0 (As := [.long 3544465063692481912, .long 53, .int 6, .int 3]) (rest := []) ⟨hx, hb, hml, hown, hts⟩ (c_L_isFault 120 o a b h t tx_T13 3544465063692481912 53 6 3 _ _ e1) (va_cwS 5 hts gL_texts_L_isFault rfl rfl rfl (by decide +kernel) ⟨Nat.le_of_ble_eq_true rfl, Nat.le_of_ble_eq_true rfl⟩) hX hP hD hS hA rfl hl.1 rfl (Nat.le_of_ble_eq_true rfl) dL_texts_198 ⟨Nat.le_of_ble_eq_true rfl, Nat.le_of_ble_eq_true rfl⟩ (fun H locs hP hD hS => ?_)
  obtain ⟨hP, hD⟩ := convT g1 hP hD
  refine lv_if_eq (tgt := 234) hx hb dL_texts_201 (by decide) (fun c => absurd c (by decide)) (fun _ => ?_)
  refine lv_aload_n hx hb dL_texts_204 rfl (lv_at hl 0 rfl) ?_
  refine lv_ldc2 (v := 3544465063692481912) hx hb hown (hts (.constantLong RL 121 (3544465063692481912)) (by decide +kernel)) dL_texts_205 ?_
  refine lv_ldc2 (v := 52) hx hb hown (hts (.constantLong RL 125 (52)) (by decide +kernel)) dL_texts_208 ?_
  refine lv_bipush (v := (-4)) hx hb dL_texts_211 (by decide) ?_
  refine lv_bipush (v := (-4)) hx hb dL_texts_213 (by decide) ?_
  obtain ⟨T1, e1, g1⟩ := stepT tx_k14
  refine kIsF0 (As := [.long 3544465063692481912, .long 52, .int (-4), .int (-4)]) (rest := []) ⟨hx, hb, hml, hown, hts⟩ (c_L_isFault 120 o a b h t tx_T14 3544465063692481912 52 (-4) (-4) _ _ e1) (va_cwS 5 hts gL_texts_L_isFault rfl rfl rfl (by decide +kernel) ⟨Nat.le_of_ble_eq_true rfl, Nat.le_of_ble_eq_true rfl⟩) hX hP hD hS hA rfl hl.1 rfl (Nat.le_of_ble_eq_true rfl) dL_texts_215 ⟨Nat.le_of_ble_eq_true rfl, Nat.le_of_ble_eq_true rfl⟩ (fun H locs hP hD hS => ?_)
  obtain ⟨hP, hD⟩ := convT g1 hP hD
  refine lv_if_eq (tgt := 234) hx hb dL_texts_218 (by decide) (fun c => absurd c (by decide)) (fun _ => ?_)
  refine lv_aload_n hx hb dL_texts_221 rfl (lv_at hl 0 rfl) ?_
  refine lv_ldc2 (v := 13845258591959091) hx hb hown (hts (.constantLong RL 127 (13845258591959091)) (by decide +kernel)) dL_texts_222 ?_
  refine lv_lconst (v := 0) hx hb dL_texts_225 (by decide) ?_
  refine lv_iconst (v := 0) hx hb dL_texts_226 (by decide) ?_
  refine lv_iconst (v := 1) hx hb dL_texts_227 (by decide) ?_
  obtain ⟨T1, e1, g1⟩ := stepT tx_k15
  refine kIsF0 (As := [.long 13845258591959091, .long 0, .int 0, .int 1]) (rest := []) ⟨hx, hb, hml, hown, hts⟩ (c_L_isFault 120 o a b h t tx_T15 13845258591959091 0 0 1 _ _ e1) (va_cwS 5 hts gL_texts_L_isFault rfl rfl rfl (by decide +kernel) ⟨Nat.le_of_ble_eq_true rfl, Nat.le_of_ble_eq_true rfl⟩) hX hP hD hS hA rfl hl.1 rfl (Nat.le_of_ble_eq_true rfl) dL_texts_228 ⟨Nat.le_of_ble_eq_true rfl, Nat.le_of_ble_eq_true rfl⟩ (fun H locs hP hD hS => ?_)
  obtain ⟨hP, hD⟩ := convT g1 hP hD
  refine lv_if_ne (tgt := 236) hx hb dL_texts_231 (by decide) (fun _ => ?_) (fun c => absurd c (by decide))
  exact kk G qA qS _ _ hP hD hS
set_option maxHeartbeats 4000000 in
set_option maxRecDepth 100000 in
theorem tx_s2 (S0 : CallFix p m c cL_texts 2 s args wsL_texts RL) (hX : xK D ks s) (hE : xEset A s s.heap) (hA : ∀ q, s.heap.size ≤ q → A q) (hP : va_P D vwCl (wO ks o a b h t fd0 G qA 0 qS tx_T16) H) (hD : va_D A (wO ks o a b h t fd0 G qA 0 qS tx_T16)) (hS : va_S A s.heap H locs) (hl : lv_has ls 2 [(0, .ref o)])
    (kk : ∀ (G : FD) (qA : Nat → AF) (qS : Nat → FD) (H : Heap) (locs : List Loc), va_P D vwCl (wO ks o a b h t fd0 G qA 0 qS tx_T24) H → va_D A (wO ks o a b h t fd0 G qA 0 qS tx_T24) → va_S A s.heap H locs → W p l e { frames := 7, cells := 34, slots := 477, locals := 149 } s m args below meth c H locs 34 477 Q (F0 m 353 ls [])) : W p l e { frames := 7, cells := 34, slots := 477, locals := 149 } s m args below meth c H locs 34 477 Q (F0 m 236 ls []) := by
  obtain ⟨hx, hb, hml, hown, hts⟩ := id S0
  refine lv_aload_n hx hb dL_texts_236 rfl (lv_at hl 0 rfl) ?_
  refine lv_ldc2 (v := 54083035606069) hx hb hown (hts (.constantLong RL 129 (54083035606069)) (by decide +kernel)) dL_texts_237 ?_
  refine lv_lconst (v := 0) hx hb dL_texts_240 (by decide) ?_
  refine lv_iconst (v := 0) hx hb dL_texts_241 (by decide) ?_
  refine lv_iconst (v := 1) hx hb dL_texts_242 (by decide) ?_
  obtain ⟨T1, e1, g1⟩ := stepT tx_k16
  refine kIsF0 (As := [.long 54083035606069, .long 0, .int 0, .int 1]) (rest := []) ⟨hx, hb, hml, hown, hts⟩ (c_L_isFault 120 o a b h t tx_T16 54083035606069 0 0 1 _ _ e1) (va_cwS 5 hts gL_texts_L_isFault rfl rfl rfl (by decide +kernel) ⟨Nat.le_of_ble_eq_true rfl, Nat.le_of_ble_eq_true rfl⟩) hX hP hD hS hA rfl hl.1 rfl (Nat.le_of_ble_eq_true rfl) dL_texts_243 ⟨Nat.le_of_ble_eq_true rfl, Nat.le_of_ble_eq_true rfl⟩ (fun H locs hP hD hS => ?_)
  obtain ⟨hP, hD⟩ := convT g1 hP hD
  refine lv_if_eq (tgt := 292) hx hb dL_texts_246 (by decide) (fun c => absurd c (by decide)) (fun _ => ?_)
  refine lv_aload_n hx hb dL_texts_249 rfl (lv_at hl 0 rfl) ?_
  refine lv_ldc2 (v := 13563782411858484) hx hb hown (hts (.constantLong RL 131 (13563782411858484)) (by decide +kernel)) dL_texts_250 ?_
  refine lv_lconst (v := 0) hx hb dL_texts_253 (by decide) ?_
  refine lv_bipush (v := (-4)) hx hb dL_texts_254 (by decide) ?_
  refine lv_bipush (v := (-4)) hx hb dL_texts_256 (by decide) ?_
  obtain ⟨T1, e1, g1⟩ := stepT tx_k17
  refine kIsF0 (As := [.long 13563782411858484, .long 0, .int (-4), .int (-4)]) (rest := []) ⟨hx, hb, hml, hown, hts⟩ (c_L_isFault 120 o a b h t tx_T17 13563782411858484 0 (-4) (-4) _ _ e1) (va_cwS 5 hts gL_texts_L_isFault rfl rfl rfl (by decide +kernel) ⟨Nat.le_of_ble_eq_true rfl, Nat.le_of_ble_eq_true rfl⟩) hX hP hD hS hA rfl hl.1 rfl (Nat.le_of_ble_eq_true rfl) dL_texts_258 ⟨Nat.le_of_ble_eq_true rfl, Nat.le_of_ble_eq_true rfl⟩ (fun H locs hP hD hS => ?_)
  obtain ⟨hP, hD⟩ := convT g1 hP hD
  refine lv_if_eq (tgt := 292) hx hb dL_texts_261 (by decide) (fun c => absurd c (by decide)) (fun _ => ?_)
  refine lv_aload_n hx hb dL_texts_264 rfl (lv_at hl 0 rfl) ?_
  refine lv_ldc2 (v := 3975611052144556082) hx hb hown (hts (.constantLong RL 133 (3975611052144556082)) (by decide +kernel)) dL_texts_265 ?_
  refine lv_ldc2 (v := 53) hx hb hown (hts (.constantLong RL 123 (53)) (by decide +kernel)) dL_texts_268 ?_
  refine lv_iconst (v := 2) hx hb dL_texts_271 (by decide) ?_
  refine lv_iconst (v := 2) hx hb dL_texts_272 (by decide) ?_
  obtain ⟨T1, e1, g1⟩ := stepT tx_k18
  refine kIsF0 (As := [.long 3975611052144556082, .long 53, .int 2, .int 2]) (rest := []) ⟨hx, hb, hml, hown, hts⟩ (c_L_isFault 120 o a b h t tx_T18 3975611052144556082 53 2 2 _ _ e1) (va_cwS 5 hts gL_texts_L_isFault rfl rfl rfl (by decide +kernel) ⟨Nat.le_of_ble_eq_true rfl, Nat.le_of_ble_eq_true rfl⟩) hX hP hD hS hA rfl hl.1 rfl (Nat.le_of_ble_eq_true rfl) dL_texts_273 ⟨Nat.le_of_ble_eq_true rfl, Nat.le_of_ble_eq_true rfl⟩ (fun H locs hP hD hS => ?_)
  obtain ⟨hP, hD⟩ := convT g1 hP hD
  refine lv_if_eq (tgt := 292) hx hb dL_texts_276 (by decide) (fun c => absurd c (by decide)) (fun _ => ?_)
  refine lv_aload_n hx hb dL_texts_279 rfl (lv_at hl 0 rfl) ?_
  refine lv_ldc2 (v := 3975611053352628345) hx hb hown (hts (.constantLong RL 135 (3975611053352628345)) (by decide +kernel)) dL_texts_280 ?_
  refine lv_lconst (v := 0) hx hb dL_texts_283 (by decide) ?_
  refine lv_iconst (v := 2) hx hb dL_texts_284 (by decide) ?_
  refine lv_iconst (v := 1) hx hb dL_texts_285 (by decide) ?_
  obtain ⟨T1, e1, g1⟩ := stepT tx_k19
  refine kIsF0 (As := [.long 3975611053352628345, .long 0, .int 2, .int 1]) (rest := []) ⟨hx, hb, hml, hown, hts⟩ (c_L_isFault 120 o a b h t tx_T19 3975611053352628345 0 2 1 _ _ e1) (va_cwS 5 hts gL_texts_L_isFault rfl rfl rfl (by decide +kernel) ⟨Nat.le_of_ble_eq_true rfl, Nat.le_of_ble_eq_true rfl⟩) hX hP hD hS hA rfl hl.1 rfl (Nat.le_of_ble_eq_true rfl) dL_texts_286 ⟨Nat.le_of_ble_eq_true rfl, Nat.le_of_ble_eq_true rfl⟩ (fun H locs hP hD hS => ?_)
  obtain ⟨hP, hD⟩ := convT g1 hP hD
  refine lv_if_ne (tgt := 294) hx hb dL_texts_289 (by decide) (fun _ => ?_) (fun c => absurd c (by decide))
  refine lv_aload_n hx hb dL_texts_294 rfl (lv_at hl 0 rfl) ?_
  refine lv_ldc2 (v := 3544465063692482096) hx hb hown (hts (.constantLong RL 137 (3544465063692482096)) (by decide +kernel)) dL_texts_295 ?_
  refine lv_ldc2 (v := 808482873) hx hb hown (hts (.constantLong RL 139 (808482873)) (by decide +kernel)) dL_texts_298 ?_
  refine lv_bipush (v := 6) hx hb dL_texts_301 (by decide) ?_
  refine lv_iconst (v := 2) hx hb dL_texts_303 (by decide) ?_
  obtain ⟨T1, e1, g1⟩ := stepT tx_k20
  refine kIsF0 (As := [.long 3544465063692482096, .long 808482873, .int 6, .int 2]) (rest := []) ⟨hx, hb, hml, hown, hts⟩ (c_L_isFault 120 o a b h t tx_T20 3544465063692482096 808482873 6 2 _ _ e1) (va_cwS 5 hts gL_texts_L_isFault rfl rfl rfl (by decide +kernel) ⟨Nat.le_of_ble_eq_true rfl, Nat.le_of_ble_eq_true rfl⟩) hX hP hD hS hA rfl hl.1 rfl (Nat.le_of_ble_eq_true rfl) dL_texts_304 ⟨Nat.le_of_ble_eq_true rfl, Nat.le_of_ble_eq_true rfl⟩ (fun H locs hP hD hS => ?_)
  obtain ⟨hP, hD⟩ := convT g1 hP hD
  refine lv_if_eq (tgt := 351) hx hb dL_texts_307 (by decide) (fun c => absurd c (by decide)) (fun _ => ?_)
  refine lv_aload_n hx hb dL_texts_310 rfl (lv_at hl 0 rfl) ?_
  refine lv_ldc2 (v := 14971157295411249) hx hb hown (hts (.constantLong RL 141 (14971157295411249)) (by decide +kernel)) dL_texts_311 ?_
  refine lv_lconst (v := 0) hx hb dL_texts_314 (by decide) ?_
  refine lv_bipush (v := (-4)) hx hb dL_texts_315 (by decide) ?_
  refine lv_bipush (v := (-4)) hx hb dL_texts_317 (by decide) ?_
  obtain ⟨T1, e1, g1⟩ := stepT tx_k21
  refine kIsF0 (As := [.long 14971157295411249, .long 0, .int (-4), .int (-4)]) (rest := []) ⟨hx, hb, hml, hown, hts⟩ (c_L_isFault 120 o a b h t tx_T21 14971157295411249 0 (-4) (-4) _ _ e1) (va_cwS 5 hts gL_texts_L_isFault rfl rfl rfl (by decide +kernel) ⟨Nat.le_of_ble_eq_true rfl, Nat.le_of_ble_eq_true rfl⟩) hX hP hD hS hA rfl hl.1 rfl (Nat.le_of_ble_eq_true rfl) dL_texts_319 ⟨Nat.le_of_ble_eq_true rfl, Nat.le_of_ble_eq_true rfl⟩ (fun H locs hP hD hS => ?_)
  obtain ⟨hP, hD⟩ := convT g1 hP hD
  refine lv_if_eq (tgt := 351) hx hb dL_texts_322 (by decide) (fun c => absurd c (by decide)) (fun _ => ?_)
  refine lv_aload_n hx hb dL_texts_325 rfl (lv_at hl 0 rfl) ?_
  refine lv_ldc2 (v := 211262583344) hx hb hown (hts (.constantLong RL 143 (211262583344)) (by decide +kernel)) dL_texts_326 ?_
  refine lv_lconst (v := 0) hx hb dL_texts_329 (by decide) ?_
  refine lv_iconst (v := 0) hx hb dL_texts_330 (by decide) ?_
  refine lv_iconst (v := 1) hx hb dL_texts_331 (by decide) ?_
  obtain ⟨T1, e1, g1⟩ := stepT tx_k22
  refine kIsF0 (As := [.long 211262583344, .long 0, .int 0, .int 1]) (rest := []) ⟨hx, hb, hml, hown, hts⟩ (c_L_isFault 120 o a b h t tx_T22 211262583344 0 0 1 _ _ e1) (va_cwS 5 hts gL_texts_L_isFault rfl rfl rfl (by decide +kernel) ⟨Nat.le_of_ble_eq_true rfl, Nat.le_of_ble_eq_true rfl⟩) hX hP hD hS hA rfl hl.1 rfl (Nat.le_of_ble_eq_true rfl) dL_texts_332 ⟨Nat.le_of_ble_eq_true rfl, Nat.le_of_ble_eq_true rfl⟩ (fun H locs hP hD hS => ?_)
  obtain ⟨hP, hD⟩ := convT g1 hP hD
  refine lv_if_eq (tgt := 351) hx hb dL_texts_335 (by decide) (fun c => absurd c (by decide)) (fun _ => ?_)
  refine lv_aload_n hx hb dL_texts_338 rfl (lv_at hl 0 rfl) ?_
  refine lv_ldc2 (v := 54392308116600) hx hb hown (hts (.constantLong RL 145 (54392308116600)) (by decide +kernel)) dL_texts_339 ?_
  refine lv_lconst (v := 0) hx hb dL_texts_342 (by decide) ?_
  refine lv_iconst (v := 5) hx hb dL_texts_343 (by decide) ?_
  refine lv_iconst (v := 1) hx hb dL_texts_344 (by decide) ?_
  obtain ⟨T1, e1, g1⟩ := stepT tx_k23
  refine kIsF0 (As := [.long 54392308116600, .long 0, .int 5, .int 1]) (rest := []) ⟨hx, hb, hml, hown, hts⟩ (c_L_isFault 120 o a b h t tx_T23 54392308116600 0 5 1 _ _ e1) (va_cwS 5 hts gL_texts_L_isFault rfl rfl rfl (by decide +kernel) ⟨Nat.le_of_ble_eq_true rfl, Nat.le_of_ble_eq_true rfl⟩) hX hP hD hS hA rfl hl.1 rfl (Nat.le_of_ble_eq_true rfl) dL_texts_345 ⟨Nat.le_of_ble_eq_true rfl, Nat.le_of_ble_eq_true rfl⟩ (fun H locs hP hD hS => ?_)
  obtain ⟨hP, hD⟩ := convT g1 hP hD
  refine lv_if_ne (tgt := 353) hx hb dL_texts_348 (by decide) (fun _ => ?_) (fun c => absurd c (by decide))
  exact kk G qA qS _ _ hP hD hS
set_option maxHeartbeats 4000000 in
set_option maxRecDepth 100000 in
theorem tx_s3 (S0 : CallFix p m c cL_texts 2 s args wsL_texts RL) (hX : xK D ks s) (hE : xEset A s s.heap) (hA : ∀ q, s.heap.size ≤ q → A q) (hP : va_P D vwCl (wO ks o a b h t fd0 G qA 0 qS tx_T24) H) (hD : va_D A (wO ks o a b h t fd0 G qA 0 qS tx_T24)) (hS : va_S A s.heap H locs) (hl : lv_has ls 2 [(0, .ref o)])
    (kk : ∀ (G : FD) (qA : Nat → AF) (qS : Nat → FD) (H : Heap) (locs : List Loc), va_P D vwCl (wO ks o a b h t tx_F2 G qA 2 qS tx_T25) H → va_D A (wO ks o a b h t tx_F2 G qA 2 qS tx_T25) → va_S A s.heap H locs → W p l e { frames := 7, cells := 34, slots := 477, locals := 149 } s m args below meth c H locs 34 477 Q (F0 m 436 ls [])) : W p l e { frames := 7, cells := 34, slots := 477, locals := 149 } s m args below meth c H locs 34 477 Q (F0 m 353 ls []) := by
  obtain ⟨hx, hb, hml, hown, hts⟩ := id S0
  refine lv_aload_n hx hb dL_texts_353 rfl (lv_at hl 0 rfl) ?_
  obtain ⟨T1, e1, g1⟩ := readN (A := qA) (S := qS) (z := 0) tx_k24
  refine kRd0 (As := []) (rest := []) ⟨hx, hb, hml, hown, hts⟩ (c_X4_read 120 o a b h t fd0 qA 0 qS tx_T24 _ _ _ _ _ _ e1) (cwV 0 hts gL_texts_X4_read rfl rfl rfl (by decide +kernel) ⟨Nat.le_of_ble_eq_true rfl, Nat.le_of_ble_eq_true rfl⟩) hX hP hD hS hA rfl hl.1 rfl (Nat.le_of_ble_eq_true rfl) dL_texts_354 ⟨Nat.le_of_ble_eq_true rfl, Nat.le_of_ble_eq_true rfl⟩ (fun H locs hP hD hS => ?_)
  obtain ⟨hP, hD⟩ := convT g1 hP hD
  refine lv_bipush (v := (-2)) hx hb dL_texts_357 (by decide) ?_
  refine lv_icmp_ne (tgt := 505) hx hb dL_texts_359 (by decide) (fun c => absurd c (by decide)) (fun _ => ?_)
  refine lv_aload_n hx hb dL_texts_362 rfl (lv_at hl 0 rfl) ?_
  refine lv_bipush (v := 11) hx hb dL_texts_363 (by decide) ?_
  refine kC0 (As := [.int 11]) (rest := []) ⟨hx, hb, hml, hown, hts⟩ (c_X4_count 120 o a b h t fd0 qA 0 qS tx_T24 11 0 tx_k25) (cwV 1 hts gL_texts_X4_count rfl rfl rfl (by decide +kernel) ⟨Nat.le_of_ble_eq_true rfl, Nat.le_of_ble_eq_true rfl⟩) hX hP rfl hl.1 rfl (Nat.le_of_ble_eq_true rfl) dL_texts_365 ⟨Nat.le_of_ble_eq_true rfl, Nat.le_of_ble_eq_true rfl⟩ ?_
  refine lv_if_ne (tgt := 505) hx hb dL_texts_368 (by decide) (fun c => absurd c (by decide)) (fun _ => ?_)
  refine lv_aload_n hx hb dL_texts_371 rfl (lv_at hl 0 rfl) ?_
  refine lv_ldc2 (v := 3544386199536546608) hx hb hown (hts (.constantLong RL 150 (3544386199536546608)) (by decide +kernel)) dL_texts_372 ?_
  refine lv_lconst (v := 0) hx hb dL_texts_375 (by decide) ?_
  refine lv_bipush (v := (-4)) hx hb dL_texts_376 (by decide) ?_
  refine lv_bipush (v := (-4)) hx hb dL_texts_378 (by decide) ?_
  obtain ⟨T1, e1, g1⟩ := stepT tx_k26
  refine kIsF0 (As := [.long 3544386199536546608, .long 0, .int (-4), .int (-4)]) (rest := []) ⟨hx, hb, hml, hown, hts⟩ (c_L_isFault 120 o a b h t tx_T24 3544386199536546608 0 (-4) (-4) _ _ e1) (va_cwS 5 hts gL_texts_L_isFault rfl rfl rfl (by decide +kernel) ⟨Nat.le_of_ble_eq_true rfl, Nat.le_of_ble_eq_true rfl⟩) hX hP hD hS hA rfl hl.1 rfl (Nat.le_of_ble_eq_true rfl) dL_texts_380 ⟨Nat.le_of_ble_eq_true rfl, Nat.le_of_ble_eq_true rfl⟩ (fun H locs hP hD hS => ?_)
  obtain ⟨hP, hD⟩ := convT g1 hP hD
  refine lv_if_eq (tgt := 505) hx hb dL_texts_383 (by decide) (fun c => absurd c (by decide)) (fun _ => ?_)
  refine lv_aload_n hx hb dL_texts_386 rfl (lv_at hl 0 rfl) ?_
  obtain ⟨F1, T1, e1, g0, g1⟩ := readY (A := qA) (S := qS) (z := 0) (z' := 1) (A' := qA) (S' := va_up qS 0 fd0) rfl tx_k27
  refine kRd0 (As := []) (rest := []) ⟨hx, hb, hml, hown, hts⟩ (c_X4_read 120 o a b h t fd0 qA 0 qS tx_T25 _ _ _ _ _ _ e1) (cwV 0 hts gL_texts_X4_read rfl rfl rfl (by decide +kernel) ⟨Nat.le_of_ble_eq_true rfl, Nat.le_of_ble_eq_true rfl⟩) hX hP hD hS hA rfl hl.1 rfl (Nat.le_of_ble_eq_true rfl) dL_texts_387 ⟨Nat.le_of_ble_eq_true rfl, Nat.le_of_ble_eq_true rfl⟩ (fun H locs hP hD hS => ?_)
  obtain ⟨hP, hD⟩ := convF g0 hP hD
  obtain ⟨hP, hD⟩ := convT g1 hP hD
  generalize va_up qS 0 fd0 = qS at hP hD
  refine lv_iconst (v := 3) hx hb dL_texts_390 (by decide) ?_
  refine lv_icmp_ne (tgt := 505) hx hb dL_texts_391 (by decide) (fun c => absurd c (by decide)) (fun _ => ?_)
  refine lv_aload_n hx hb dL_texts_394 rfl (lv_at hl 0 rfl) ?_
  refine lv_iconst (v := 1) hx hb dL_texts_395 (by decide) ?_
  refine lv_iconst (v := 0) hx hb dL_texts_396 (by decide) ?_
  refine kSF0 (As := [.int 1, .int 0]) (rest := []) ⟨hx, hb, hml, hown, hts⟩ (c_X4_row 120 o a b h t tx_F1 1 0 100 tx_k28) (cwV 2 hts gL_texts_X4_row rfl rfl rfl (by decide +kernel) ⟨Nat.le_of_ble_eq_true rfl, Nat.le_of_ble_eq_true rfl⟩) hX hP rfl hl.1 rfl (Nat.le_of_ble_eq_true rfl) dL_texts_397 ⟨Nat.le_of_ble_eq_true rfl, Nat.le_of_ble_eq_true rfl⟩ ?_
  refine lv_bipush (v := 100) hx hb dL_texts_400 (by decide) ?_
  refine lv_icmp_ne (tgt := 505) hx hb dL_texts_402 (by decide) (fun c => absurd c (by decide)) (fun _ => ?_)
  refine lv_aload_n hx hb dL_texts_405 rfl (lv_at hl 0 rfl) ?_
  refine lv_iconst (v := 2) hx hb dL_texts_406 (by decide) ?_
  refine lv_iconst (v := 0) hx hb dL_texts_407 (by decide) ?_
  refine kSF0 (As := [.int 2, .int 0]) (rest := []) ⟨hx, hb, hml, hown, hts⟩ (c_X4_row 120 o a b h t tx_F1 2 0 30 tx_k29) (cwV 2 hts gL_texts_X4_row rfl rfl rfl (by decide +kernel) ⟨Nat.le_of_ble_eq_true rfl, Nat.le_of_ble_eq_true rfl⟩) hX hP rfl hl.1 rfl (Nat.le_of_ble_eq_true rfl) dL_texts_408 ⟨Nat.le_of_ble_eq_true rfl, Nat.le_of_ble_eq_true rfl⟩ ?_
  refine lv_bipush (v := 30) hx hb dL_texts_411 (by decide) ?_
  refine lv_icmp_ne (tgt := 505) hx hb dL_texts_413 (by decide) (fun c => absurd c (by decide)) (fun _ => ?_)
  refine lv_aload_n hx hb dL_texts_416 rfl (lv_at hl 0 rfl) ?_
  refine lv_bipush (v := 20) hx hb dL_texts_417 (by decide) ?_
  refine kC0 (As := [.int 20]) (rest := []) ⟨hx, hb, hml, hown, hts⟩ (c_X4_count 120 o a b h t tx_F1 qA 1 qS tx_T25 20 230 tx_k30) (cwV 1 hts gL_texts_X4_count rfl rfl rfl (by decide +kernel) ⟨Nat.le_of_ble_eq_true rfl, Nat.le_of_ble_eq_true rfl⟩) hX hP rfl hl.1 rfl (Nat.le_of_ble_eq_true rfl) dL_texts_419 ⟨Nat.le_of_ble_eq_true rfl, Nat.le_of_ble_eq_true rfl⟩ ?_
  refine lv_sipush (v := 230) hx hb dL_texts_422 (by decide) ?_
  refine lv_icmp_ne (tgt := 505) hx hb dL_texts_425 (by decide) (fun c => absurd c (by decide)) (fun _ => ?_)
  refine lv_aload_n hx hb dL_texts_428 rfl (lv_at hl 0 rfl) ?_
  obtain ⟨F1, T1, e1, g0, g1⟩ := readY (A := qA) (S := qS) (z := 1) (z' := 2) (A' := qA) (S' := va_up qS 1 tx_F1) rfl tx_k31
  refine kRd0 (As := []) (rest := []) ⟨hx, hb, hml, hown, hts⟩ (c_X4_read 120 o a b h t tx_F1 qA 1 qS tx_T25 _ _ _ _ _ _ e1) (cwV 0 hts gL_texts_X4_read rfl rfl rfl (by decide +kernel) ⟨Nat.le_of_ble_eq_true rfl, Nat.le_of_ble_eq_true rfl⟩) hX hP hD hS hA rfl hl.1 rfl (Nat.le_of_ble_eq_true rfl) dL_texts_429 ⟨Nat.le_of_ble_eq_true rfl, Nat.le_of_ble_eq_true rfl⟩ (fun H locs hP hD hS => ?_)
  obtain ⟨hP, hD⟩ := convF g0 hP hD
  obtain ⟨hP, hD⟩ := convT g1 hP hD
  generalize va_up qS 1 tx_F1 = qS at hP hD
  refine lv_iconst (v := 3) hx hb dL_texts_432 (by decide) ?_
  refine lv_icmp_ne (tgt := 505) hx hb dL_texts_433 (by decide) (fun c => absurd c (by decide)) (fun _ => ?_)
  exact kk G qA qS _ _ hP hD hS
set_option maxHeartbeats 4000000 in
set_option maxRecDepth 100000 in
theorem tx_s4 (S0 : CallFix p m c cL_texts 2 s args wsL_texts RL) (hX : xK D ks s) (hE : xEset A s s.heap) (hA : ∀ q, s.heap.size ≤ q → A q) (hP : va_P D vwCl (wO ks o a b h t tx_F2 G qA 2 qS tx_T25) H) (hD : va_D A (wO ks o a b h t tx_F2 G qA 2 qS tx_T25)) (hS : va_S A s.heap H locs) (hl : lv_has ls 2 [(0, .ref o)])
    (kk : ∀ (G : FD) (qA : Nat → AF) (qS : Nat → FD) (H : Heap) (locs : List Loc), va_P D vwCl (wO ks o a b h t tx_F2 G qA 2 qS tx_T27) H → va_D A (wO ks o a b h t tx_F2 G qA 2 qS tx_T27) → va_S A s.heap H locs → W p l e { frames := 7, cells := 34, slots := 477, locals := 149 } s m args below meth c H locs 34 477 Q (F0 m 507 ls [])) : W p l e { frames := 7, cells := 34, slots := 477, locals := 149 } s m args below meth c H locs 34 477 Q (F0 m 436 ls []) := by
  obtain ⟨hx, hb, hml, hown, hts⟩ := id S0
  refine lv_aload_n hx hb dL_texts_436 rfl (lv_at hl 0 rfl) ?_
  refine lv_bipush (v := 26) hx hb dL_texts_437 (by decide) ?_
  refine kC0 (As := [.int 26]) (rest := []) ⟨hx, hb, hml, hown, hts⟩ (c_X4_count 120 o a b h t tx_F2 qA 2 qS tx_T25 26 230 tx_k32) (cwV 1 hts gL_texts_X4_count rfl rfl rfl (by decide +kernel) ⟨Nat.le_of_ble_eq_true rfl, Nat.le_of_ble_eq_true rfl⟩) hX hP rfl hl.1 rfl (Nat.le_of_ble_eq_true rfl) dL_texts_439 ⟨Nat.le_of_ble_eq_true rfl, Nat.le_of_ble_eq_true rfl⟩ ?_
  refine lv_sipush (v := 230) hx hb dL_texts_442 (by decide) ?_
  refine lv_icmp_ne (tgt := 505) hx hb dL_texts_445 (by decide) (fun c => absurd c (by decide)) (fun _ => ?_)
  refine lv_aload_n hx hb dL_texts_448 rfl (lv_at hl 0 rfl) ?_
  refine lv_bipush (v := 20) hx hb dL_texts_449 (by decide) ?_
  refine kC0 (As := [.int 20]) (rest := []) ⟨hx, hb, hml, hown, hts⟩ (c_X4_count 120 o a b h t tx_F2 qA 2 qS tx_T25 20 460 tx_k33) (cwV 1 hts gL_texts_X4_count rfl rfl rfl (by decide +kernel) ⟨Nat.le_of_ble_eq_true rfl, Nat.le_of_ble_eq_true rfl⟩) hX hP rfl hl.1 rfl (Nat.le_of_ble_eq_true rfl) dL_texts_451 ⟨Nat.le_of_ble_eq_true rfl, Nat.le_of_ble_eq_true rfl⟩ ?_
  refine lv_sipush (v := 460) hx hb dL_texts_454 (by decide) ?_
  refine lv_icmp_ne (tgt := 505) hx hb dL_texts_457 (by decide) (fun c => absurd c (by decide)) (fun _ => ?_)
  refine lv_aload_n hx hb dL_texts_460 rfl (lv_at hl 0 rfl) ?_
  refine lv_bipush (v := 11) hx hb dL_texts_461 (by decide) ?_
  refine kC0 (As := [.int 11]) (rest := []) ⟨hx, hb, hml, hown, hts⟩ (c_X4_count 120 o a b h t tx_F2 qA 2 qS tx_T25 11 2 tx_k34) (cwV 1 hts gL_texts_X4_count rfl rfl rfl (by decide +kernel) ⟨Nat.le_of_ble_eq_true rfl, Nat.le_of_ble_eq_true rfl⟩) hX hP rfl hl.1 rfl (Nat.le_of_ble_eq_true rfl) dL_texts_463 ⟨Nat.le_of_ble_eq_true rfl, Nat.le_of_ble_eq_true rfl⟩ ?_
  refine lv_iconst (v := 2) hx hb dL_texts_466 (by decide) ?_
  refine lv_icmp_ne (tgt := 505) hx hb dL_texts_467 (by decide) (fun c => absurd c (by decide)) (fun _ => ?_)
  refine lv_aload_n hx hb dL_texts_470 rfl (lv_at hl 0 rfl) ?_
  obtain ⟨T1, e1, g1⟩ := stepT tx_k35
  refine kT0 (As := []) (rest := []) ⟨hx, hb, hml, hown, hts⟩ (c_X4_clearText 120 o a b h t tx_T25  _ _ e1) (cwV 0 hts gL_texts_X4_clearText rfl rfl rfl (by decide +kernel) ⟨Nat.le_of_ble_eq_true rfl, Nat.le_of_ble_eq_true rfl⟩) hX hP hD hS hA rfl hl.1 rfl (Nat.le_of_ble_eq_true rfl) dL_texts_471 ⟨Nat.le_of_ble_eq_true rfl, Nat.le_of_ble_eq_true rfl⟩ (fun H locs hP hD hS => ?_)
  obtain ⟨hP, hD⟩ := convT g1 hP hD
  refine lv_bipush (v := 8) hx hb dL_texts_474 (by decide) ?_
  refine lv_icmp_ne (tgt := 505) hx hb dL_texts_476 (by decide) (fun c => absurd c (by decide)) (fun _ => ?_)
  refine lv_aload_n hx hb dL_texts_479 rfl (lv_at hl 0 rfl) ?_
  refine lv_iconst (v := 0) hx hb dL_texts_480 (by decide) ?_
  obtain ⟨T1, e1, g1⟩ := stepT tx_k36
  refine kT0 (As := [.int 0]) (rest := []) ⟨hx, hb, hml, hown, hts⟩ (c_X4_fault 120 o a b h t tx_T26 0 _ _ e1) (cwV 1 hts gL_texts_X4_fault rfl rfl rfl (by decide +kernel) ⟨Nat.le_of_ble_eq_true rfl, Nat.le_of_ble_eq_true rfl⟩) hX hP hD hS hA rfl hl.1 rfl (Nat.le_of_ble_eq_true rfl) dL_texts_481 ⟨Nat.le_of_ble_eq_true rfl, Nat.le_of_ble_eq_true rfl⟩ (fun H locs hP hD hS => ?_)
  obtain ⟨hP, hD⟩ := convT g1 hP hD
  refine lv_if_ne (tgt := 505) hx hb dL_texts_484 (by decide) (fun c => absurd c (by decide)) (fun _ => ?_)
  refine lv_aload_n hx hb dL_texts_487 rfl (lv_at hl 0 rfl) ?_
  refine lv_iconst (v := 1) hx hb dL_texts_488 (by decide) ?_
  obtain ⟨T1, e1, g1⟩ := stepT tx_k37
  refine kT0 (As := [.int 1]) (rest := []) ⟨hx, hb, hml, hown, hts⟩ (c_X4_fault 120 o a b h t tx_T27 1 _ _ e1) (cwV 1 hts gL_texts_X4_fault rfl rfl rfl (by decide +kernel) ⟨Nat.le_of_ble_eq_true rfl, Nat.le_of_ble_eq_true rfl⟩) hX hP hD hS hA rfl hl.1 rfl (Nat.le_of_ble_eq_true rfl) dL_texts_489 ⟨Nat.le_of_ble_eq_true rfl, Nat.le_of_ble_eq_true rfl⟩ (fun H locs hP hD hS => ?_)
  obtain ⟨hP, hD⟩ := convT g1 hP hD
  refine lv_iconst (v := 1) hx hb dL_texts_492 (by decide) ?_
  refine lv_icmp_ne (tgt := 505) hx hb dL_texts_493 (by decide) (fun c => absurd c (by decide)) (fun _ => ?_)
  refine lv_aload_n hx hb dL_texts_496 rfl (lv_at hl 0 rfl) ?_
  obtain ⟨T1, e1, g1⟩ := readN (A := qA) (S := qS) (z := 2) tx_k38
  refine kRd0 (As := []) (rest := []) ⟨hx, hb, hml, hown, hts⟩ (c_X4_read 120 o a b h t tx_F2 qA 2 qS tx_T27 _ _ _ _ _ _ e1) (cwV 0 hts gL_texts_X4_read rfl rfl rfl (by decide +kernel) ⟨Nat.le_of_ble_eq_true rfl, Nat.le_of_ble_eq_true rfl⟩) hX hP hD hS hA rfl hl.1 rfl (Nat.le_of_ble_eq_true rfl) dL_texts_497 ⟨Nat.le_of_ble_eq_true rfl, Nat.le_of_ble_eq_true rfl⟩ (fun H locs hP hD hS => ?_)
  obtain ⟨hP, hD⟩ := convT g1 hP hD
  refine lv_bipush (v := (-2)) hx hb dL_texts_500 (by decide) ?_
  refine lv_icmp_eq (tgt := 507) hx hb dL_texts_502 (by decide) (fun _ => ?_) (fun c => absurd c (by decide))
  exact kk G qA qS _ _ hP hD hS
set_option maxHeartbeats 4000000 in
set_option maxRecDepth 100000 in
theorem tx_end (S0 : CallFix p m c cL_texts 2 s args wsL_texts RL) (hX : xK D ks s) (hE : xEset A s s.heap) (hA : ∀ q, s.heap.size ≤ q → A q) (hP : va_P D vwCl (wO ks o a b h t tx_F2 G qA 2 qS tx_T28) H) (hD : va_D A (wO ks o a b h t tx_F2 G qA 2 qS tx_T28)) (hS : va_S A s.heap H locs) (hl : lv_has ls 2 [(0, .ref o)])
    (kk : ∀ (H : Heap) (locs : List Loc), va_S A s.heap H locs → W p l e { frames := 7, cells := 34, slots := 477, locals := 149 } s m args below meth c H locs 34 477 Q (F0 m 576 ls [.int 1])) : W p l e { frames := 7, cells := 34, slots := 477, locals := 149 } s m args below meth c H locs 34 477 Q (F0 m 533 ls []) := by
  obtain ⟨hx, hb, hml, hown, hts⟩ := id S0
  refine lv_aload_n hx hb dL_texts_533 rfl (lv_at hl 0 rfl) ?_
  refine lv_bipush (v := 49) hx hb dL_texts_534 (by decide) ?_
  obtain ⟨T1, e1, g1⟩ := stepT tx_k39
  refine kT0 (As := [.int 49]) (rest := []) ⟨hx, hb, hml, hown, hts⟩ (c_X4_type 120 o a b h t tx_T28 49 _ _ e1) (cwV 1 hts gL_texts_X4_type rfl rfl rfl (by decide +kernel) ⟨Nat.le_of_ble_eq_true rfl, Nat.le_of_ble_eq_true rfl⟩) hX hP hD hS hA rfl hl.1 rfl (Nat.le_of_ble_eq_true rfl) dL_texts_536 ⟨Nat.le_of_ble_eq_true rfl, Nat.le_of_ble_eq_true rfl⟩ (fun H locs hP hD hS => ?_)
  obtain ⟨hP, hD⟩ := convT g1 hP hD
  refine lv_bipush (v := (-3)) hx hb dL_texts_539 (by decide) ?_
  refine lv_icmp_ne (tgt := 575) hx hb dL_texts_541 (by decide) (fun c => absurd c (by decide)) (fun _ => ?_)
  refine lv_aload_n hx hb dL_texts_544 rfl (lv_at hl 0 rfl) ?_
  refine lv_bipush (v := 31) hx hb dL_texts_545 (by decide) ?_
  obtain ⟨T1, e1, g1⟩ := stepT tx_k40
  refine kT0 (As := [.int 31]) (rest := []) ⟨hx, hb, hml, hown, hts⟩ (c_X4_type 120 o a b h t tx_T28 31 _ _ e1) (cwV 1 hts gL_texts_X4_type rfl rfl rfl (by decide +kernel) ⟨Nat.le_of_ble_eq_true rfl, Nat.le_of_ble_eq_true rfl⟩) hX hP hD hS hA rfl hl.1 rfl (Nat.le_of_ble_eq_true rfl) dL_texts_547 ⟨Nat.le_of_ble_eq_true rfl, Nat.le_of_ble_eq_true rfl⟩ (fun H locs hP hD hS => ?_)
  obtain ⟨hP, hD⟩ := convT g1 hP hD
  refine lv_iconst (v := (-1)) hx hb dL_texts_550 (by decide) ?_
  refine lv_icmp_ne (tgt := 575) hx hb dL_texts_551 (by decide) (fun c => absurd c (by decide)) (fun _ => ?_)
  refine lv_aload_n hx hb dL_texts_554 rfl (lv_at hl 0 rfl) ?_
  refine lv_iconst (v := 0) hx hb dL_texts_555 (by decide) ?_
  obtain ⟨T1, e1, g1⟩ := stepT tx_k41
  refine kT0 (As := [.int 0]) (rest := []) ⟨hx, hb, hml, hown, hts⟩ (c_X4_fault 120 o a b h t tx_T28 0 _ _ e1) (cwV 1 hts gL_texts_X4_fault rfl rfl rfl (by decide +kernel) ⟨Nat.le_of_ble_eq_true rfl, Nat.le_of_ble_eq_true rfl⟩) hX hP hD hS hA rfl hl.1 rfl (Nat.le_of_ble_eq_true rfl) dL_texts_556 ⟨Nat.le_of_ble_eq_true rfl, Nat.le_of_ble_eq_true rfl⟩ (fun H locs hP hD hS => ?_)
  obtain ⟨hP, hD⟩ := convT g1 hP hD
  refine lv_if_ne (tgt := 575) hx hb dL_texts_559 (by decide) (fun c => absurd c (by decide)) (fun _ => ?_)
  refine lv_aload_n hx hb dL_texts_562 rfl (lv_at hl 0 rfl) ?_
  obtain ⟨T1, e1, g1⟩ := stepT tx_k42
  refine kT0 (As := []) (rest := []) ⟨hx, hb, hml, hown, hts⟩ (c_X4_clearText 120 o a b h t tx_T28  _ _ e1) (cwV 0 hts gL_texts_X4_clearText rfl rfl rfl (by decide +kernel) ⟨Nat.le_of_ble_eq_true rfl, Nat.le_of_ble_eq_true rfl⟩) hX hP hD hS hA rfl hl.1 rfl (Nat.le_of_ble_eq_true rfl) dL_texts_563 ⟨Nat.le_of_ble_eq_true rfl, Nat.le_of_ble_eq_true rfl⟩ (fun H locs hP hD hS => ?_)
  obtain ⟨hP, hD⟩ := convT g1 hP hD
  refine lv_bipush (v := 100) hx hb dL_texts_566 (by decide) ?_
  refine lv_icmp_ne (tgt := 575) hx hb dL_texts_568 (by decide) (fun c => absurd c (by decide)) (fun _ => ?_)
  refine lv_iconst (v := 1) hx hb dL_texts_571 (by decide) ?_
  refine lv_goto (tgt := 576) hx hb dL_texts_572 (by decide) ?_
  exact kk _ _ hS
/-- one sign more, of the hundred -/
def txL (T : TD) (j : Nat) : Prop := TD.length T = nI j ∧ (∀ i, i < j → TD.sg T i = 49) ∧ (∀ i, i < 24 → TD.th T i = TD.th tx_T27 i) ∧ TD.rows T = TD.rows tx_T27 ∧ TD.position T = TD.position tx_T27 ∧ TD.reason T = TD.reason tx_T27
theorem tx_type {T : TD} {j : Nat} (h : txL T j) (hj : j < 100) : ∃ T1, p_X4_type 120 T 49 = some (nI (j + 1), T1) ∧ txL T1 (j + 1) := by
  obtain ⟨h1, h2, h3⟩ := h
  refine ⟨mkTD (upd (TD.sg T) j 49) (TD.th T) (nI (j + 1)) (TD.rows T) (TD.position T) (TD.reason T), ?_, rfl, fun i hi => ?_, h3⟩
  · unfold p_X4_type p_X1_append
    rw [show p_X4_isBetween 120 49 32 126 = some 1 from rfl, Option.bind_some, if_neg (by decide), h1, if_neg (show ¬ nI j = 100 from fun w => by have := (nI_eq (b := 100) (by omega) (by decide)).mp w; omega), if_neg (show ¬ (100 : Int32) ≤ nI j from nI_ge (b := 100) hj (by decide))]
    unfold cst
    rw [if_neg (nI_in (N := 100) hj (by decide)), nI_1, nI_clamp (by omega)]
    rfl
  · by_cases c : i = j
    · subst c
      exact us
    · exact (un c).trans (h2 i (by omega))
set_option maxHeartbeats 4000000 in
set_option maxRecDepth 100000 in
theorem tx_loop (S0 : CallFix p m c cL_texts 2 s args wsL_texts RL) (hX : xK D ks s) (hE : xEset A s s.heap) (hA : ∀ q, s.heap.size ≤ q → A q) (kk : ∀ (T : TD) (H : Heap) (locs : List Loc) (ls : Array Slot), txL T 100 → va_P D vwCl (wO ks o a b h t tx_F2 G qA 2 qS T) H → va_D A (wO ks o a b h t tx_F2 G qA 2 qS T) → va_S A s.heap H locs → lv_has ls 2 [(0, .ref o)] → W p l e { frames := 7, cells := 34, slots := 477, locals := 149 } s m args below meth c H locs 34 477 Q (F0 m 533 ls [])) :
    ∀ (d j : Nat) (T : TD) (H : Heap) (locs : List Loc) (ls : Array Slot), j + d = 100 → txL T j → va_P D vwCl (wO ks o a b h t tx_F2 G qA 2 qS T) H → va_D A (wO ks o a b h t tx_F2 G qA 2 qS T) → va_S A s.heap H locs → lv_has ls 2 [(1, .int (nI (j + 1))), (0, .ref o)] → W p l e { frames := 7, cells := 34, slots := 477, locals := 149 } s m args below meth c H locs 34 477 Q (F0 m 509 ls [])
  | 0, j, T, H, locs, ls, hd, hT, hP, hD, hS, hl => by
    obtain ⟨hx, hb, hml, hown, hts⟩ := id S0
    have hj : j = 100 := by omega
    subst hj
    refine lv_iload_n hx hb dL_texts_509 rfl (lv_at hl 0 rfl) ?_
    refine lv_bipush (v := 100) hx hb dL_texts_510 (by decide) ?_
    refine lv_icmp_gt (tgt := 533) hx hb dL_texts_512 (by decide) (fun _ => ?_) (fun c => absurd (by decide) c)
    exact kk T H locs ls hT hP hD hS (lv_sub hl [1] rfl)
  | d + 1, j, T, H, locs, ls, hd, hT, hP, hD, hS, hl => by
    obtain ⟨hx, hb, hml, hown, hts⟩ := id S0
    obtain ⟨T1, e1, hT1⟩ := tx_type hT (show j < 100 by omega)
    refine lv_iload_n hx hb dL_texts_509 rfl (lv_at hl 0 rfl) ?_
    refine lv_bipush (v := 100) hx hb dL_texts_510 (by decide) ?_
    refine lv_icmp_gt (tgt := 533) hx hb dL_texts_512 (by decide) (fun c => absurd c (nI_nlt (a := 100) (b := j + 1) (by omega) (by decide))) (fun _ => ?_)
    refine lv_aload_n hx hb dL_texts_515 rfl (lv_at hl 1 rfl) ?_
    refine lv_bipush (v := 49) hx hb dL_texts_516 (by decide) ?_
    refine kT0 (As := [.int 49]) (rest := []) ⟨hx, hb, hml, hown, hts⟩ (c_X4_type 120 o a b h t T 49 _ _ e1) (cwV 1 hts gL_texts_X4_type rfl rfl rfl (by decide +kernel) ⟨Nat.le_of_ble_eq_true rfl, Nat.le_of_ble_eq_true rfl⟩) hX hP hD hS hA rfl hl.1 rfl (Nat.le_of_ble_eq_true rfl) dL_texts_518 ⟨Nat.le_of_ble_eq_true rfl, Nat.le_of_ble_eq_true rfl⟩ (fun H locs hP hD hS => ?_)
    refine lv_iload_n hx hb dL_texts_521 rfl (lv_at hl 0 rfl) ?_
    refine lv_icmp_eq (tgt := 527) hx hb dL_texts_522 (by decide) (fun _ => ?_) (fun c => absurd rfl c)
    refine lv_iinc (v := nI (j + 1 + 1)) (lv' := [(1, .int (nI (j + 1 + 1))), (0, .ref o)]) hx hb dL_texts_527 hl (k := 0) rfl (nI_1 (j + 1)) (by decide) rfl (fun ls hl => ?_)
    refine lv_goto (tgt := 509) hx hb dL_texts_530 (by decide) ?_
    exact tx_loop S0 hX hE hA kk d (j + 1) T1 H locs ls (by omega) hT1 hP hD hS hl
theorem tx_agree {T : TD} (h : txL T 100) : agT T tx_T28 = true := by
  obtain ⟨h1, h2, h3, h4, h5, h6⟩ := h
  have b : ∀ {x y : Int32}, x = y → (x == y) = true := fun e => by rw [e]; exact beq_self_eq_true _
  have q : ∀ {N : Nat} {f g : Nat → Int32}, (∀ j, j < N → f j = g j) → eqN N f g = true := fun e => List.all_eq_true.mpr (fun j hj => b (e j (List.mem_range.mp hj)))
  have s1 : eqN 100 (TD.sg T) (TD.sg tx_T28) = true := q (fun j hj => (h2 j hj).trans (by
    have : ∀ j, j < 100 → (49 : Int32) = TD.sg tx_T28 j := by decide +kernel
    exact this j hj))
  have s2 : eqN 24 (TD.th T) (TD.th tx_T28) = true := q (fun j hj => (h3 j hj).trans (by
    have : ∀ j, j < 24 → TD.th tx_T27 j = TD.th tx_T28 j := by decide +kernel
    exact this j hj))
  unfold agT
  rw [s1, s2, b (show TD.length T = TD.length tx_T28 from h1), b (show TD.rows T = TD.rows tx_T28 from h4), b (show TD.position T = TD.position tx_T28 from h5), b (show TD.reason T = TD.reason tx_T28 from h6)]
  rfl
end TX
set_option maxHeartbeats 4000000 in
set_option maxRecDepth 100000 in
theorem c_L_texts {l : Launch} {D : va_G} {ks : K3} : MetN l yL_texts wsL_texts { frames := 7, cells := 34, slots := 477, locals := 149 } D ks 34 477 xE2 := by
  refine MetN.of (cc := cL_texts) (maxL := 2) (ret := (some .boolean)) (by decide +kernel) rfl ?_ ⟨_, rfl⟩
  intro p e s m below meth c Q A hx hb hml hts hown hX hA hEE hret ls hl
  obtain ⟨hEF, hE⟩ := hEE
  have hK := hX.1
  have hS : va_S A s.heap s.heap [] := va_S.rf
  have hP := va_P00 D vwCl s.heap
  have hD := va_D00 A
  have inl : ∀ w ∈ wsX40, w ∈ wsL_texts := fun w h => List.mem_cons_of_mem _ (inlX4 w h)
  refine va_new (ci := 3) (fs := [.null, .null, .null, .null]) (C := RX4) (T := TX4) (N := 4) hx hb hts inl tyX4 tyX4_ok hown (hts (.classLink RL 14 RX4) (by decide +kernel)) (hts (.instantiable RX4 4) (by decide +kernel)) (hts (.initialized RX4) (by decide +kernel)) hK hP hD hS hA rfl (fun j hj => by rcases (show j = 0 ∨ j = 1 ∨ j = 2 ∨ j = 3 by omega) with rfl | rfl | rfl | rfl <;> rfl) (Nat.le_of_ble_eq_true rfl) (Nat.le_of_ble_eq_true rfl) dL_texts_0 (fun o H hP hD hS => ?_)
  replace hP : va_P D vwCl [(o, .inr (3, [.null, .null, .null, .null]))] H := hP
  replace hD : va_D A [(o, .inr (3, [.null, .null, .null, .null]))] := hD
  refine lv_dup hx hb dL_texts_3 rfl ?_
  refine xcallC (As := []) (rest := [.ref o]) (wc := [(o, .inr (3, [.null, .null, .null, .null]))]) (wr := ([] : va_W)) ⟨hx, hb, hml, hown, hts⟩ (c_X4_init o) (cwI 0 hts gL_texts_X4_init rfl rfl rfl (hts (.initialized RX4) (by decide +kernel)) (hts (.methodLink RL 90 yX4_init) (by decide +kernel)) (hts (.instanceMethod yX4_init) (by decide +kernel)) rfl (by decide +kernel) ⟨Nat.le_of_ble_eq_true rfl, Nat.le_of_ble_eq_true rfl⟩) hX hP hD hS hA [0] [] rfl rfl ⟨by decide, by decide⟩ (by decide) hEF ok_xEF rfl hl.1 rfl (Nat.le_of_ble_eq_true rfl) dL_texts_4 ⟨Nat.le_of_ble_eq_true rfl, Nat.le_of_ble_eq_true rfl⟩ (fun v H locs hu hP2 hD2 hS => ?_)
  obtain ⟨fa, fb, fh, fq, ft⟩ := v
  have hP : va_P D vwCl (wO ks o fa fb fh ft fd0 fd0 fq 0 (fun _ => fd0) td0) H := hP2
  have hD : va_D A (wO ks o fa fb fh ft fd0 fd0 fq 0 (fun _ => fd0) td0) := hD2
  clear hP2 hD2
  refine W.widen (k := 34) (n := 477) (Nat.le_of_ble_eq_true rfl) (Nat.le_of_ble_eq_true rfl) ?_
  refine lv_astore_n (lv' := [(0, .ref o)]) hx hb dL_texts_7 rfl hl (by decide) rfl (fun ls hl => ?_)
  have S0 : CallFix p m c cL_texts 2 s ([] : List Value).toArray wsL_texts RL := ⟨hx, hb, hml, hown, hts⟩
  refine tx_s0 S0 hX hE hA hP hD hS hl (fun G qA qS H locs hP hD hS => ?_)
  refine tx_s1 S0 hX hE hA hP hD hS hl (fun G qA qS H locs hP hD hS => ?_)
  refine tx_s2 S0 hX hE hA hP hD hS hl (fun G qA qS H locs hP hD hS => ?_)
  refine tx_s3 S0 hX hE hA hP hD hS hl (fun G qA qS H locs hP hD hS => ?_)
  refine tx_s4 S0 hX hE hA hP hD hS hl (fun G qA qS H locs hP hD hS => ?_)
  refine lv_iconst (v := 1) hx hb dL_texts_507 (by decide) ?_
  refine lv_istore_n (lv' := [(1, .int (nI (0 + 1))), (0, .ref o)]) hx hb dL_texts_508 rfl hl (by decide) rfl (fun ls hl => ?_)
  refine tx_loop S0 hX hE hA (fun T H locs ls hT hP hD hS hl => ?_) 100 0 tx_T27 H locs ls (by decide) ⟨rfl, fun i hi => absurd hi (Nat.not_lt_zero i), fun i hi => rfl, rfl, rfl, rfl⟩ hP hD hS hl
  obtain ⟨hP, hD⟩ := convT (tx_agree hT) hP hD
  exact tx_end S0 hX hE hA hP hD hS hl (fun H locs hS => hret H locs _ _ dL_texts_576 (fun ty h => by cases h; rfl) hS)
