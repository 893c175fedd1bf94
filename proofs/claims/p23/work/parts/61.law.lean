/-! p23: the law's own walk, piece by piece. -/
section LAW23
variable {p : Program} {l : Launch} {e : Env} {s : State} {m : MethodId} {args : Array Value} {below : List Frame} {meth : Method} {c : Code} {Q : State → Prop} {A : Nat → Prop} {D : va_G} {ks : K3} {H : Heap} {locs : List Loc} {ls : Array Slot} {o : Nat} {a b : AF} {h : AH} {t : AT} {F G : FD} {qA : Nat → AF} {qz : Int32} {qS : Nat → FD} {b0 L : Nat} {xs : Nat → Int32} {wq cn j rr : Nat} {cL : ClassId} {w : Nat → Int64} {x kv : Int32} {M : MD}
set_option maxHeartbeats 4000000 in
set_option maxRecDepth 100000 in
theorem lw_set (S0 : CallFix p m c cL_law 9 s args wsL_law RL) (hX : xK D ks s) (hE : xEset A s s.heap) (hA : ∀ q, s.heap.size ≤ q → A q) (hX0 : va_X b0 L xs s s.heap) (hbl : b0 < s.heap.size) (hbA : ¬ A b0) (hL : L ≤ 260) (hP : va_P D vwCl (wO ks o a b h t fd0 G qA 0 qS td0) H) (hD : va_D A (wO ks o a b h t fd0 G qA 0 qS td0)) (hS : va_S A s.heap H locs) (hl : lv_has ls 9 [(1, .ref o), (0, .ref b0)])
    (kk : ∀ (F : FD) (qA : Nat → AF) (qz : Int32) (qS : Nat → FD) (wq : Nat) (cL : ClassId) (w : Nat → Int64) (H : Heap) (locs : List Loc) (ls : Array Slot), LI 6000 F qz qS td0 w 0 → va_K D vwCl (tyK ks ++ [(cL, .long)]) s → va_P D vwCl (wO ks o a b h t F G qA qz qS td0 ++ [(wq, .inl (cL, 32, .inr (.inl w)))]) H → va_D A (wO ks o a b h t F G qA qz qS td0 ++ [(wq, .inl (cL, 32, .inr (.inl w)))]) → va_S A s.heap H locs → lv_has ls 9 [(4, .int (nI 0)), (3, .int (nI 0)), (2, .ref wq), (1, .ref o), (0, .ref b0)] → W p l e room_1 s m args below meth c H locs 103 1463 Q (F0 m 120 ls [])) : W p l e room_1 s m args below meth c H locs 102 1431 Q (F0 m 22 ls []) := by
  obtain ⟨hx, hb, hml, hown, hts⟩ := id S0
  refine lv_aload_n hx hb dL_law_22 rfl (lv_at hl 0 rfl) ?_
  refine lv_bipush (v := 24) hx hb dL_law_23 (by decide) ?_
  refine lv_aload_n hx hb dL_law_25 rfl (lv_at hl 1 rfl) ?_
  refine lv_iconst (v := 0) hx hb dL_law_26 (by decide) ?_
  refine xtake (j := 0) (rest := [.int 24, .ref o]) ⟨hx, hb, hml, hown, hts⟩ (va_cwS 2 hts gL_law_L_take rfl rfl rfl (by decide +kernel) ⟨Nat.le_of_ble_eq_true rfl, Nat.le_of_ble_eq_true rfl⟩) hX0 hbl hbA hS (by omega) (by omega) hl.1 (Nat.le_of_ble_eq_true rfl) dL_law_27 ⟨Nat.le_of_ble_eq_true rfl, Nat.le_of_ble_eq_true rfl⟩ (fun r1 => ?_)
  refine lv_sipush (v := 500) hx hb dL_law_30 (by decide) ?_
  refine xpart (k := 500) (rest := [.int 24, .ref o]) ⟨hx, hb, hml, hown, hts⟩ (va_cwS 2 hts gL_law_L_part rfl rfl rfl (by decide +kernel) ⟨Nat.le_of_ble_eq_true rfl, Nat.le_of_ble_eq_true rfl⟩) hX (z := 500) rfl (by decide) (by decide) hl.1 (Nat.le_of_ble_eq_true rfl) dL_law_33 ⟨Nat.le_of_ble_eq_true rfl, Nat.le_of_ble_eq_true rfl⟩ (fun i2 hi2 => ?_)
  refine lv_aload_n hx hb dL_law_36 rfl (lv_at hl 1 rfl) ?_
  refine lv_iconst (v := 1) hx hb dL_law_37 (by decide) ?_
  refine xtake (j := 1) (rest := [.int (nI i2), .int 24, .ref o]) ⟨hx, hb, hml, hown, hts⟩ (va_cwS 2 hts gL_law_L_take rfl rfl rfl (by decide +kernel) ⟨Nat.le_of_ble_eq_true rfl, Nat.le_of_ble_eq_true rfl⟩) hX0 hbl hbA hS (by omega) (by omega) hl.1 (Nat.le_of_ble_eq_true rfl) dL_law_38 ⟨Nat.le_of_ble_eq_true rfl, Nat.le_of_ble_eq_true rfl⟩ (fun r3 => ?_)
  refine lv_sipush (v := 196) hx hb dL_law_41 (by decide) ?_
  refine xpart (k := 196) (rest := [.int (nI i2), .int 24, .ref o]) ⟨hx, hb, hml, hown, hts⟩ (va_cwS 2 hts gL_law_L_part rfl rfl rfl (by decide +kernel) ⟨Nat.le_of_ble_eq_true rfl, Nat.le_of_ble_eq_true rfl⟩) hX (z := 196) rfl (by decide) (by decide) hl.1 (Nat.le_of_ble_eq_true rfl) dL_law_44 ⟨Nat.le_of_ble_eq_true rfl, Nat.le_of_ble_eq_true rfl⟩ (fun i4 hi4 => ?_)
  obtain ⟨r, F1, M1, e1, hr1, hs1, hR1, h24⟩ := dip24 (k := 6000) (b := i2) (c := i4) (A := qA) (S := qS) (by decide) hi2 hi4
  refine kFH0 (As := [.int 24, .int (nI i2), .int (nI i4)]) (rest := []) ⟨hx, hb, hml, hown, hts⟩ (c_X4_dip 6000 o a b h t fd0 qA 0 qS 24 (nI i2) (nI i4) _ _ _ _ _ e1) (cwV 3 hts gL_law_X4_dip rfl rfl rfl (by decide +kernel) ⟨Nat.le_of_ble_eq_true rfl, Nat.le_of_ble_eq_true rfl⟩) hX hP hD hS hA rfl hl.1 rfl (Nat.le_of_ble_eq_true rfl) dL_law_47 ⟨Nat.le_of_ble_eq_true rfl, Nat.le_of_ble_eq_true rfl⟩ (fun H locs hP hD hS => ?_)
  refine lv_if_lt (tgt := 108) hx hb dL_law_50 (by decide) (fun c => absurd c (hr1)) (fun _ => ?_)
  refine lv_aload_n hx hb dL_law_53 rfl (lv_at hl 0 rfl) ?_
  refine lv_iconst (v := 1) hx hb dL_law_54 (by decide) ?_
  refine kFH0 (As := [.int 1]) (rest := []) ⟨hx, hb, hml, hown, hts⟩ (c_X4_add 6000 o a b h t F1 qA 1 (va_up qS 0 fd0) 1 _ _ _ _ _ (add_24 h24)) (cwV 1 hts gL_law_X4_add rfl rfl rfl (by decide +kernel) ⟨Nat.le_of_ble_eq_true rfl, Nat.le_of_ble_eq_true rfl⟩) hX hP hD hS hA rfl hl.1 rfl (Nat.le_of_ble_eq_true rfl) dL_law_55 ⟨Nat.le_of_ble_eq_true rfl, Nat.le_of_ble_eq_true rfl⟩ (fun H locs hP hD hS => ?_)
  refine lv_bipush (v := (-3)) hx hb dL_law_58 (by decide) ?_
  refine lv_icmp_ne (tgt := 108) hx hb dL_law_60 (by decide) (fun c => absurd c (by decide)) (fun _ => ?_)
  refine lv_aload_n hx hb dL_law_63 rfl (lv_at hl 0 rfl) ?_
  refine lv_sipush (v := 5001) hx hb dL_law_64 (by decide) ?_
  refine kFH0 (As := [.int 5001]) (rest := []) ⟨hx, hb, hml, hown, hts⟩ (c_X4_add 6000 o a b h t F1 qA 1 (va_up qS 0 fd0) 5001 _ _ _ _ _ rl_add_5001) (cwV 1 hts gL_law_X4_add rfl rfl rfl (by decide +kernel) ⟨Nat.le_of_ble_eq_true rfl, Nat.le_of_ble_eq_true rfl⟩) hX hP hD hS hA rfl hl.1 rfl (Nat.le_of_ble_eq_true rfl) dL_law_67 ⟨Nat.le_of_ble_eq_true rfl, Nat.le_of_ble_eq_true rfl⟩ (fun H locs hP hD hS => ?_)
  refine lv_iconst (v := (-1)) hx hb dL_law_70 (by decide) ?_
  refine lv_icmp_ne (tgt := 108) hx hb dL_law_71 (by decide) (fun c => absurd c (by decide)) (fun _ => ?_)
  refine lv_aload_n hx hb dL_law_74 rfl (lv_at hl 0 rfl) ?_
  refine kRef0 (As := []) (rest := []) ⟨hx, hb, hml, hown, hts⟩ (c_L_refused 6000 o a b h t F1 G G qA 1 (va_up qS 0 fd0) td0 M1 (by decide) hR1 (if_neg (by rw [h24]; decide)).symm) (va_cwS 1 hts gL_law_L_refused rfl rfl rfl (by decide +kernel) ⟨Nat.le_of_ble_eq_true rfl, Nat.le_of_ble_eq_true rfl⟩) hX hP hD hS hA hE ok_xEset rfl hl.1 rfl (Nat.le_of_ble_eq_true rfl) dL_law_75 ⟨Nat.le_of_ble_eq_true rfl, Nat.le_of_ble_eq_true rfl⟩ (fun H locs hP hD hS => ?_)
  refine lv_if_eq (tgt := 108) hx hb dL_law_78 (by decide) (fun c => absurd c (by decide)) (fun _ => ?_)
  refine lv_aload_n hx hb dL_law_81 rfl (lv_at hl 0 rfl) ?_
  obtain ⟨r2, F2, M2, e2, hr2, hs2, hR2, h23⟩ := cut_24 (k := 6000) (A := qA) (by decide) hs1 hR1 h24
  refine kFH0 (As := []) (rest := []) ⟨hx, hb, hml, hown, hts⟩ (c_X4_cut 6000 o a b h t F1 qA 1 (va_up qS 0 fd0) _ _ _ _ _ e2) (cwV 0 hts gL_law_X4_cut rfl rfl rfl (by decide +kernel) ⟨Nat.le_of_ble_eq_true rfl, Nat.le_of_ble_eq_true rfl⟩) hX hP hD hS hA rfl hl.1 rfl (Nat.le_of_ble_eq_true rfl) dL_law_82 ⟨Nat.le_of_ble_eq_true rfl, Nat.le_of_ble_eq_true rfl⟩ (fun H locs hP hD hS => ?_)
  refine lv_if_lt (tgt := 108) hx hb dL_law_85 (by decide) (fun c => absurd c (hr2)) (fun _ => ?_)
  refine lv_aload_n hx hb dL_law_88 rfl (lv_at hl 0 rfl) ?_
  refine lv_aload_n hx hb dL_law_89 rfl (lv_at hl 1 rfl) ?_
  refine lv_iconst (v := 2) hx hb dL_law_90 (by decide) ?_
  refine xtake (j := 2) (rest := [.ref o]) ⟨hx, hb, hml, hown, hts⟩ (va_cwS 2 hts gL_law_L_take rfl rfl rfl (by decide +kernel) ⟨Nat.le_of_ble_eq_true rfl, Nat.le_of_ble_eq_true rfl⟩) hX0 hbl hbA hS (by omega) (by omega) hl.1 (Nat.le_of_ble_eq_true rfl) dL_law_91 ⟨Nat.le_of_ble_eq_true rfl, Nat.le_of_ble_eq_true rfl⟩ (fun r5 => ?_)
  refine lv_sipush (v := 5001) hx hb dL_law_94 (by decide) ?_
  refine xpart (k := 5001) (rest := [.ref o]) ⟨hx, hb, hml, hown, hts⟩ (va_cwS 2 hts gL_law_L_part rfl rfl rfl (by decide +kernel) ⟨Nat.le_of_ble_eq_true rfl, Nat.le_of_ble_eq_true rfl⟩) hX (z := 5001) rfl (by decide) (by decide) hl.1 (Nat.le_of_ble_eq_true rfl) dL_law_97 ⟨Nat.le_of_ble_eq_true rfl, Nat.le_of_ble_eq_true rfl⟩ (fun i6 hi6 => ?_)
  obtain ⟨F3, M3, e3, hs3, hR3⟩ := add_23 (k := 6000) (a := i6) (A := qA) (by decide) (by omega) hs2 hR2 h23
  refine kFH0 (As := [.int (nI i6)]) (rest := []) ⟨hx, hb, hml, hown, hts⟩ (c_X4_add 6000 o a b h t F2 qA 2 (va_up (va_up qS 0 fd0) 1 F1) (nI i6) _ _ _ _ _ e3) (cwV 1 hts gL_law_X4_add rfl rfl rfl (by decide +kernel) ⟨Nat.le_of_ble_eq_true rfl, Nat.le_of_ble_eq_true rfl⟩) hX hP hD hS hA rfl hl.1 rfl (Nat.le_of_ble_eq_true rfl) dL_law_100 ⟨Nat.le_of_ble_eq_true rfl, Nat.le_of_ble_eq_true rfl⟩ (fun H locs hP hD hS => ?_)
  refine lv_bipush (v := 24) hx hb dL_law_103 (by decide) ?_
  refine lv_icmp_eq (tgt := 110) hx hb dL_law_105 (by decide) (fun _ => ?_) (fun c => absurd c (by decide))
  refine lv_bipush (v := 32) hx hb dL_law_110 (by decide) ?_
  refine xnewL hx hb (hts (.arrayClass .long) (by decide +kernel)) hX hP hD hS hA (Nat.le_of_ble_eq_true rfl) (Nat.le_of_ble_eq_true rfl) dL_law_112 (fun wq cL w H hKL hP hD hS => ?_)
  refine lv_astore_n (lv' := [(2, .ref wq), (1, .ref o), (0, .ref b0)]) hx hb dL_law_114 rfl hl (by decide) rfl (fun ls hl => ?_)
  refine lv_iconst (v := 0) hx hb dL_law_115 (by decide) ?_
  refine lv_istore_n (lv' := [(3, .int 0), (2, .ref wq), (1, .ref o), (0, .ref b0)]) hx hb dL_law_116 rfl hl (by decide) rfl (fun ls hl => ?_)
  refine lv_iconst (v := 0) hx hb dL_law_117 (by decide) ?_
  refine lv_istore (lv' := [(4, .int 0), (3, .int 0), (2, .ref wq), (1, .ref o), (0, .ref b0)]) hx hb dL_law_118 hl (by decide) rfl (fun ls hl => ?_)
  exact kk F3 qA 3 _ wq cL w H _ ls (LI_start hs3 ⟨M3, hR3⟩ rfl) hKL hP hD hS (lv_sub hl [0, 1, 2, 3, 4] rfl)
set_option maxHeartbeats 4000000 in
set_option maxRecDepth 100000 in
theorem lw_head (S0 : CallFix p m c cL_law 9 s args wsL_law RL) (hX : xK D ks s) (hE : xEset A s s.heap) (hA : ∀ q, s.heap.size ≤ q → A q) (hX0 : va_X b0 L xs s s.heap) (hbl : b0 < s.heap.size) (hbA : ¬ A b0) (hL : L ≤ 260) (hKL : va_K D vwCl (tyK ks ++ [(cL, .long)]) s) (hj : j < 24) (hc : cn ≤ j) (hR : RS F qz qS td0 M) (hP : va_P D vwCl (wO ks o a b h t F G qA qz qS td0 ++ [(wq, .inl (cL, 32, .inr (.inl w)))]) H) (hD : va_D A (wO ks o a b h t F G qA qz qS td0 ++ [(wq, .inl (cL, 32, .inr (.inl w)))])) (hS : va_S A s.heap H locs) (hl : lv_has ls 9 [(4, .int (nI j)), (3, .int (nI cn)), (2, .ref wq), (1, .ref o), (0, .ref b0)])
    (kk : ∀ (x : Int32) (rr kd : Nat) (v : Int64) (H : Heap) (locs : List Loc) (ls : Array Slot), kd < 9 → dgF 6000 F = some v → va_P D vwCl (wO ks o a b h t F G qA qz qS td0 ++ [(wq, .inl (cL, 32, .inr (.inl (vp_updL w cn v))))]) H → va_D A (wO ks o a b h t F G qA qz qS td0 ++ [(wq, .inl (cL, 32, .inr (.inl (vp_updL w cn v))))]) → va_S A s.heap H locs → lv_has ls 9 [(7, .int (nI kd)), (6, .int (nI rr)), (5, .int x), (4, .int (nI j)), (3, .int (nI cn)), (2, .ref wq), (1, .ref o), (0, .ref b0)] → W p l e room_1 s m args below meth c H locs 103 1463 Q (F0 m 165 ls [])) : W p l e room_1 s m args below meth c H locs 103 1463 Q (F0 m 120 ls []) := by
  obtain ⟨hx, hb, hml, hown, hts⟩ := id S0
  refine lv_iload hx hb dL_law_120 (lv_at hl 0 rfl) ?_
  refine lv_bipush (v := 24) hx hb dL_law_122 (by decide) ?_
  refine lv_icmp_ge (tgt := 446) hx hb dL_law_124 (by decide) (fun c => absurd c (nI_ge (b := 24) (a := j) hj (by decide))) (fun _ => ?_)
  refine lv_aload_n hx hb dL_law_127 rfl (lv_at hl 4 rfl) ?_
  refine lv_bipush (v := 10) hx hb dL_law_128 (by decide) ?_
  refine lv_iload hx hb dL_law_130 (lv_at hl 0 rfl) ?_
  refine lv_iadd hx hb dL_law_132 ?_
  refine lv_name (w := (nI (10 + j))) ((nI_add 10 j).symm) ?_
  refine xtake (j := 10 + j) (rest := []) ⟨hx, hb, hml, hown, hts⟩ (va_cwS 2 hts gL_law_L_take rfl rfl rfl (by decide +kernel) ⟨Nat.le_of_ble_eq_true rfl, Nat.le_of_ble_eq_true rfl⟩) hX0 hbl hbA hS (by omega) (by omega) hl.1 (Nat.le_of_ble_eq_true rfl) dL_law_133 ⟨Nat.le_of_ble_eq_true rfl, Nat.le_of_ble_eq_true rfl⟩ (fun r1 => ?_)
  refine lv_istore (lv' := [(5, .int r1), (4, .int (nI j)), (3, .int (nI cn)), (2, .ref wq), (1, .ref o), (0, .ref b0)]) hx hb dL_law_136 hl (by decide) rfl (fun ls hl => ?_)
  refine lv_iload hx hb dL_law_138 (lv_at hl 0 rfl) ?_
  refine lv_iconst (v := 3) hx hb dL_law_140 (by decide) ?_
  refine xx_ishr hx hb dL_law_141 ?_
  refine lv_bipush (v := 24) hx hb dL_law_142 (by decide) ?_
  refine xpart (k := 24) (rest := []) ⟨hx, hb, hml, hown, hts⟩ (va_cwS 2 hts gL_law_L_part rfl rfl rfl (by decide +kernel) ⟨Nat.le_of_ble_eq_true rfl, Nat.le_of_ble_eq_true rfl⟩) hX (z := 24) rfl (by decide) (by decide) hl.1 (Nat.le_of_ble_eq_true rfl) dL_law_144 ⟨Nat.le_of_ble_eq_true rfl, Nat.le_of_ble_eq_true rfl⟩ (fun i2 hi2 => ?_)
  refine lv_istore (lv' := [(6, .int (nI i2)), (5, .int r1), (4, .int (nI j)), (3, .int (nI cn)), (2, .ref wq), (1, .ref o), (0, .ref b0)]) hx hb dL_law_147 hl (by decide) rfl (fun ls hl => ?_)
  refine lv_iload hx hb dL_law_149 (lv_at hl 1 rfl) ?_
  refine lv_bipush (v := 9) hx hb dL_law_151 (by decide) ?_
  refine xpart (k := 9) (rest := []) ⟨hx, hb, hml, hown, hts⟩ (va_cwS 2 hts gL_law_L_part rfl rfl rfl (by decide +kernel) ⟨Nat.le_of_ble_eq_true rfl, Nat.le_of_ble_eq_true rfl⟩) hX (z := 9) rfl (by decide) (by decide) hl.1 (Nat.le_of_ble_eq_true rfl) dL_law_153 ⟨Nat.le_of_ble_eq_true rfl, Nat.le_of_ble_eq_true rfl⟩ (fun i3 hi3 => ?_)
  refine lv_istore (lv' := [(7, .int (nI i3)), (6, .int (nI i2)), (5, .int r1), (4, .int (nI j)), (3, .int (nI cn)), (2, .ref wq), (1, .ref o), (0, .ref b0)]) hx hb dL_law_156 hl (by decide) rfl (fun ls hl => ?_)
  refine lv_aload_n hx hb dL_law_158 rfl (lv_at hl 5 rfl) ?_
  refine lv_iload_n hx hb dL_law_159 rfl (lv_at hl 4 rfl) ?_
  refine lv_aload_n hx hb dL_law_160 rfl (lv_at hl 6 rfl) ?_
  obtain ⟨v, hv⟩ := st_tot (k := 6000) (A := qA) (by decide) hR
  refine kSt1 (As := []) (rest := [.int (nI cn), .ref wq]) ⟨hx, hb, hml, hown, hts⟩ (c_L_state 6000 o a b h t F qA qz qS td0 v hv) (va_cwS 1 hts gL_law_L_state rfl rfl rfl (by decide +kernel) ⟨Nat.le_of_ble_eq_true rfl, Nat.le_of_ble_eq_true rfl⟩) hX hP rfl hl.1 rfl (Nat.le_of_ble_eq_true rfl) dL_law_161 ⟨Nat.le_of_ble_eq_true rfl, Nat.le_of_ble_eq_true rfl⟩ ?_
  refine xlast hx hb hKL hP hD hS (by omega) dL_law_164 (fun H locs hP hD hS => ?_)
  exact kk r1 i2 i3 v H locs ls hi3 ((dgF_of (A := qA)).symm.trans hv) hP hD hS (lv_sub hl [0, 1, 2, 3, 4, 5, 6, 7] rfl)
set_option maxHeartbeats 4000000 in
set_option maxRecDepth 100000 in
theorem lw_pour (S0 : CallFix p m c cL_law 9 s args wsL_law RL) (hX : xK D ks s) (hE : xEset A s s.heap) (hA : ∀ q, s.heap.size ≤ q → A q) (hX0 : va_X b0 L xs s s.heap) (hbl : b0 < s.heap.size) (hbA : ¬ A b0) (hL : L ≤ 260) (hKL : va_K D vwCl (tyK ks ++ [(cL, .long)]) s) (hR : RS F qz qS td0 M) (hP : va_P D vwCl (wO ks o a b h t F G qA qz qS td0 ++ [(wq, .inl (cL, 32, .inr (.inl w)))]) H) (hD : va_D A (wO ks o a b h t F G qA qz qS td0 ++ [(wq, .inl (cL, 32, .inr (.inl w)))])) (hS : va_S A s.heap H locs) (hl : lv_has ls 9 [(7, .int kv), (6, .int (nI rr)), (5, .int x), (4, .int (nI j)), (3, .int (nI cn)), (2, .ref wq), (1, .ref o), (0, .ref b0)])
    (kk : ∀ (r : Int32) (F1 : FD) (A1 : Nat → AF) (z1 : Int32) (S1 : Nat → FD) (M1 : MD) (H : Heap) (locs : List Loc), RS F1 z1 S1 td0 M1 → (SM F → SM F1) → ((r < 0 ∧ F1 = F ∧ A1 = qA ∧ z1 = qz ∧ S1 = qS) ∨ (0 ≤ r ∧ p_X2_keep 6000 qA qz qS F = some (A1, z1, S1))) → va_P D vwCl (wO ks o a b h t F1 G A1 z1 S1 td0 ++ [(wq, .inl (cL, 32, .inr (.inl w)))]) H → va_D A (wO ks o a b h t F1 G A1 z1 S1 td0 ++ [(wq, .inl (cL, 32, .inr (.inl w)))]) → va_S A s.heap H locs → W p l e room_1 s m args below meth c H locs 103 1463 Q (F0 m 357 ls [.int r])) : W p l e room_1 s m args below meth c H locs 103 1463 Q (F0 m 170 ls []) := by
  obtain ⟨hx, hb, hml, hown, hts⟩ := id S0
  refine lv_aload_n hx hb dL_law_170 rfl (lv_at hl 6 rfl) ?_
  refine lv_iload hx hb dL_law_171 (lv_at hl 1 rfl) ?_
  refine lv_iconst (v := 1) hx hb dL_law_173 (by decide) ?_
  refine lv_iload hx hb dL_law_174 (lv_at hl 2 rfl) ?_
  refine lv_iconst (v := 4) hx hb dL_law_176 (by decide) ?_
  refine xx_ishr hx hb dL_law_177 ?_
  refine lv_sipush (v := 5000) hx hb dL_law_178 (by decide) ?_
  refine xpart (k := 5000) (rest := [.int 1, .int (nI rr), .ref o]) ⟨hx, hb, hml, hown, hts⟩ (va_cwS 2 hts gL_law_L_part rfl rfl rfl (by decide +kernel) ⟨Nat.le_of_ble_eq_true rfl, Nat.le_of_ble_eq_true rfl⟩) hX (z := 5000) rfl (by decide) (by decide) hl.1 (Nat.le_of_ble_eq_true rfl) dL_law_181 ⟨Nat.le_of_ble_eq_true rfl, Nat.le_of_ble_eq_true rfl⟩ (fun i1 hi1 => ?_)
  refine lv_iadd hx hb dL_law_184 ?_
  obtain ⟨r, F1, A1, z1, S1, M1, e1, hR1, hs1, hn1⟩ := opAll (A := qA) (uni_pour 6000 F (nI rr) (1 + (nI i1))) hR (pourR (k := 6000) (qA := qA) (by decide) hR (nI rr) (1 + (nI i1)))
  have e1 : p_X4_pour 6000 F qA qz qS (nI rr) (1 + (nI i1)) = some (r, F1, A1, z1, S1) := e1
  refine kFH1 (As := [.int (nI rr), .int (1 + (nI i1))]) (rest := []) ⟨hx, hb, hml, hown, hts⟩ (c_X4_pour 6000 o a b h t F qA qz qS (nI rr) (1 + (nI i1)) _ _ _ _ _ e1) (cwV 2 hts gL_law_X4_pour rfl rfl rfl (by decide +kernel) ⟨Nat.le_of_ble_eq_true rfl, Nat.le_of_ble_eq_true rfl⟩) hX hP hD hS hA rfl hl.1 rfl (Nat.le_of_ble_eq_true rfl) dL_law_185 ⟨Nat.le_of_ble_eq_true rfl, Nat.le_of_ble_eq_true rfl⟩ (fun H locs hP hD hS => ?_)
  refine lv_goto (tgt := 357) hx hb dL_law_188 (by decide) ?_
  exact kk r F1 A1 z1 S1 M1 H locs hR1 hs1 hn1 hP hD hS
set_option maxHeartbeats 4000000 in
set_option maxRecDepth 100000 in
theorem lw_thin (S0 : CallFix p m c cL_law 9 s args wsL_law RL) (hX : xK D ks s) (hE : xEset A s s.heap) (hA : ∀ q, s.heap.size ≤ q → A q) (hX0 : va_X b0 L xs s s.heap) (hbl : b0 < s.heap.size) (hbA : ¬ A b0) (hL : L ≤ 260) (hKL : va_K D vwCl (tyK ks ++ [(cL, .long)]) s) (hR : RS F qz qS td0 M) (hP : va_P D vwCl (wO ks o a b h t F G qA qz qS td0 ++ [(wq, .inl (cL, 32, .inr (.inl w)))]) H) (hD : va_D A (wO ks o a b h t F G qA qz qS td0 ++ [(wq, .inl (cL, 32, .inr (.inl w)))])) (hS : va_S A s.heap H locs) (hl : lv_has ls 9 [(7, .int kv), (6, .int (nI rr)), (5, .int x), (4, .int (nI j)), (3, .int (nI cn)), (2, .ref wq), (1, .ref o), (0, .ref b0)])
    (kk : ∀ (r : Int32) (F1 : FD) (A1 : Nat → AF) (z1 : Int32) (S1 : Nat → FD) (M1 : MD) (H : Heap) (locs : List Loc), RS F1 z1 S1 td0 M1 → (SM F → SM F1) → ((r < 0 ∧ F1 = F ∧ A1 = qA ∧ z1 = qz ∧ S1 = qS) ∨ (0 ≤ r ∧ p_X2_keep 6000 qA qz qS F = some (A1, z1, S1))) → va_P D vwCl (wO ks o a b h t F1 G A1 z1 S1 td0 ++ [(wq, .inl (cL, 32, .inr (.inl w)))]) H → va_D A (wO ks o a b h t F1 G A1 z1 S1 td0 ++ [(wq, .inl (cL, 32, .inr (.inl w)))]) → va_S A s.heap H locs → W p l e room_1 s m args below meth c H locs 103 1463 Q (F0 m 357 ls [.int r])) : W p l e room_1 s m args below meth c H locs 103 1463 Q (F0 m 197 ls []) := by
  obtain ⟨hx, hb, hml, hown, hts⟩ := id S0
  refine lv_aload_n hx hb dL_law_197 rfl (lv_at hl 6 rfl) ?_
  refine lv_iload hx hb dL_law_198 (lv_at hl 1 rfl) ?_
  refine lv_iconst (v := 1) hx hb dL_law_200 (by decide) ?_
  refine lv_iload hx hb dL_law_201 (lv_at hl 2 rfl) ?_
  refine lv_iconst (v := 4) hx hb dL_law_203 (by decide) ?_
  refine xx_ishr hx hb dL_law_204 ?_
  refine lv_sipush (v := 3000) hx hb dL_law_205 (by decide) ?_
  refine xpart (k := 3000) (rest := [.int 1, .int (nI rr), .ref o]) ⟨hx, hb, hml, hown, hts⟩ (va_cwS 2 hts gL_law_L_part rfl rfl rfl (by decide +kernel) ⟨Nat.le_of_ble_eq_true rfl, Nat.le_of_ble_eq_true rfl⟩) hX (z := 3000) rfl (by decide) (by decide) hl.1 (Nat.le_of_ble_eq_true rfl) dL_law_208 ⟨Nat.le_of_ble_eq_true rfl, Nat.le_of_ble_eq_true rfl⟩ (fun i1 hi1 => ?_)
  refine lv_iadd hx hb dL_law_211 ?_
  obtain ⟨r, F1, A1, z1, S1, M1, e1, hR1, hs1, hn1⟩ := opAll (A := qA) (uni_thin 6000 F (nI rr) (1 + (nI i1))) hR (thinR (k := 6000) (qA := qA) (by decide) hR (nI rr) (1 + (nI i1)))
  have e1 : p_X4_thin 6000 F qA qz qS (nI rr) (1 + (nI i1)) = some (r, F1, A1, z1, S1) := e1
  refine kFH1 (As := [.int (nI rr), .int (1 + (nI i1))]) (rest := []) ⟨hx, hb, hml, hown, hts⟩ (c_X4_thin 6000 o a b h t F qA qz qS (nI rr) (1 + (nI i1)) _ _ _ _ _ e1) (cwV 2 hts gL_law_X4_thin rfl rfl rfl (by decide +kernel) ⟨Nat.le_of_ble_eq_true rfl, Nat.le_of_ble_eq_true rfl⟩) hX hP hD hS hA rfl hl.1 rfl (Nat.le_of_ble_eq_true rfl) dL_law_212 ⟨Nat.le_of_ble_eq_true rfl, Nat.le_of_ble_eq_true rfl⟩ (fun H locs hP hD hS => ?_)
  refine lv_goto (tgt := 357) hx hb dL_law_215 (by decide) ?_
  exact kk r F1 A1 z1 S1 M1 H locs hR1 hs1 hn1 hP hD hS
set_option maxHeartbeats 4000000 in
set_option maxRecDepth 100000 in
theorem lw_cut (S0 : CallFix p m c cL_law 9 s args wsL_law RL) (hX : xK D ks s) (hE : xEset A s s.heap) (hA : ∀ q, s.heap.size ≤ q → A q) (hX0 : va_X b0 L xs s s.heap) (hbl : b0 < s.heap.size) (hbA : ¬ A b0) (hL : L ≤ 260) (hKL : va_K D vwCl (tyK ks ++ [(cL, .long)]) s) (hR : RS F qz qS td0 M) (hP : va_P D vwCl (wO ks o a b h t F G qA qz qS td0 ++ [(wq, .inl (cL, 32, .inr (.inl w)))]) H) (hD : va_D A (wO ks o a b h t F G qA qz qS td0 ++ [(wq, .inl (cL, 32, .inr (.inl w)))])) (hS : va_S A s.heap H locs) (hl : lv_has ls 9 [(7, .int kv), (6, .int (nI rr)), (5, .int x), (4, .int (nI j)), (3, .int (nI cn)), (2, .ref wq), (1, .ref o), (0, .ref b0)])
    (kk : ∀ (r : Int32) (F1 : FD) (A1 : Nat → AF) (z1 : Int32) (S1 : Nat → FD) (M1 : MD) (H : Heap) (locs : List Loc), RS F1 z1 S1 td0 M1 → (SM F → SM F1) → ((r < 0 ∧ F1 = F ∧ A1 = qA ∧ z1 = qz ∧ S1 = qS) ∨ (0 ≤ r ∧ p_X2_keep 6000 qA qz qS F = some (A1, z1, S1))) → va_P D vwCl (wO ks o a b h t F1 G A1 z1 S1 td0 ++ [(wq, .inl (cL, 32, .inr (.inl w)))]) H → va_D A (wO ks o a b h t F1 G A1 z1 S1 td0 ++ [(wq, .inl (cL, 32, .inr (.inl w)))]) → va_S A s.heap H locs → W p l e room_1 s m args below meth c H locs 103 1463 Q (F0 m 357 ls [.int r])) : W p l e room_1 s m args below meth c H locs 103 1463 Q (F0 m 224 ls []) := by
  obtain ⟨hx, hb, hml, hown, hts⟩ := id S0
  refine lv_aload_n hx hb dL_law_224 rfl (lv_at hl 6 rfl) ?_
  obtain ⟨r, F1, A1, z1, S1, M1, e1, hR1, hs1, hn1⟩ := opAll (A := qA) (uni_cut 6000 F) hR (cutR (k := 6000) (qA := qA) (by decide) hR )
  have e1 : p_X4_cut 6000 F qA qz qS = some (r, F1, A1, z1, S1) := e1
  refine kFH1 (As := []) (rest := []) ⟨hx, hb, hml, hown, hts⟩ (c_X4_cut 6000 o a b h t F qA qz qS  _ _ _ _ _ e1) (cwV 0 hts gL_law_X4_cut rfl rfl rfl (by decide +kernel) ⟨Nat.le_of_ble_eq_true rfl, Nat.le_of_ble_eq_true rfl⟩) hX hP hD hS hA rfl hl.1 rfl (Nat.le_of_ble_eq_true rfl) dL_law_225 ⟨Nat.le_of_ble_eq_true rfl, Nat.le_of_ble_eq_true rfl⟩ (fun H locs hP hD hS => ?_)
  refine lv_goto (tgt := 357) hx hb dL_law_228 (by decide) ?_
  exact kk r F1 A1 z1 S1 M1 H locs hR1 hs1 hn1 hP hD hS
set_option maxHeartbeats 4000000 in
set_option maxRecDepth 100000 in
theorem lw_add (S0 : CallFix p m c cL_law 9 s args wsL_law RL) (hX : xK D ks s) (hE : xEset A s s.heap) (hA : ∀ q, s.heap.size ≤ q → A q) (hX0 : va_X b0 L xs s s.heap) (hbl : b0 < s.heap.size) (hbA : ¬ A b0) (hL : L ≤ 260) (hKL : va_K D vwCl (tyK ks ++ [(cL, .long)]) s) (hR : RS F qz qS td0 M) (hP : va_P D vwCl (wO ks o a b h t F G qA qz qS td0 ++ [(wq, .inl (cL, 32, .inr (.inl w)))]) H) (hD : va_D A (wO ks o a b h t F G qA qz qS td0 ++ [(wq, .inl (cL, 32, .inr (.inl w)))])) (hS : va_S A s.heap H locs) (hl : lv_has ls 9 [(7, .int kv), (6, .int (nI rr)), (5, .int x), (4, .int (nI j)), (3, .int (nI cn)), (2, .ref wq), (1, .ref o), (0, .ref b0)])
    (kk : ∀ (r : Int32) (F1 : FD) (A1 : Nat → AF) (z1 : Int32) (S1 : Nat → FD) (M1 : MD) (H : Heap) (locs : List Loc), RS F1 z1 S1 td0 M1 → (SM F → SM F1) → ((r < 0 ∧ F1 = F ∧ A1 = qA ∧ z1 = qz ∧ S1 = qS) ∨ (0 ≤ r ∧ p_X2_keep 6000 qA qz qS F = some (A1, z1, S1))) → va_P D vwCl (wO ks o a b h t F1 G A1 z1 S1 td0 ++ [(wq, .inl (cL, 32, .inr (.inl w)))]) H → va_D A (wO ks o a b h t F1 G A1 z1 S1 td0 ++ [(wq, .inl (cL, 32, .inr (.inl w)))]) → va_S A s.heap H locs → W p l e room_1 s m args below meth c H locs 103 1463 Q (F0 m 357 ls [.int r])) : W p l e room_1 s m args below meth c H locs 103 1463 Q (F0 m 237 ls []) := by
  obtain ⟨hx, hb, hml, hown, hts⟩ := id S0
  refine lv_aload_n hx hb dL_law_237 rfl (lv_at hl 6 rfl) ?_
  refine lv_iload hx hb dL_law_238 (lv_at hl 2 rfl) ?_
  refine lv_iconst (v := 4) hx hb dL_law_240 (by decide) ?_
  refine xx_ishr hx hb dL_law_241 ?_
  refine lv_sipush (v := 5001) hx hb dL_law_242 (by decide) ?_
  refine xpart (k := 5001) (rest := [.ref o]) ⟨hx, hb, hml, hown, hts⟩ (va_cwS 2 hts gL_law_L_part rfl rfl rfl (by decide +kernel) ⟨Nat.le_of_ble_eq_true rfl, Nat.le_of_ble_eq_true rfl⟩) hX (z := 5001) rfl (by decide) (by decide) hl.1 (Nat.le_of_ble_eq_true rfl) dL_law_245 ⟨Nat.le_of_ble_eq_true rfl, Nat.le_of_ble_eq_true rfl⟩ (fun i1 hi1 => ?_)
  obtain ⟨r, F1, A1, z1, S1, M1, e1, hR1, hs1, hn1⟩ := opAll (A := qA) (uni_add 6000 F (nI i1)) hR (addR (k := 6000) (qA := qA) (by decide) hR (nI i1))
  have e1 : p_X4_add 6000 F qA qz qS (nI i1) = some (r, F1, A1, z1, S1) := e1
  refine kFH1 (As := [.int (nI i1)]) (rest := []) ⟨hx, hb, hml, hown, hts⟩ (c_X4_add 6000 o a b h t F qA qz qS (nI i1) _ _ _ _ _ e1) (cwV 1 hts gL_law_X4_add rfl rfl rfl (by decide +kernel) ⟨Nat.le_of_ble_eq_true rfl, Nat.le_of_ble_eq_true rfl⟩) hX hP hD hS hA rfl hl.1 rfl (Nat.le_of_ble_eq_true rfl) dL_law_248 ⟨Nat.le_of_ble_eq_true rfl, Nat.le_of_ble_eq_true rfl⟩ (fun H locs hP hD hS => ?_)
  refine lv_goto (tgt := 357) hx hb dL_law_251 (by decide) ?_
  exact kk r F1 A1 z1 S1 M1 H locs hR1 hs1 hn1 hP hD hS
set_option maxHeartbeats 4000000 in
set_option maxRecDepth 100000 in
theorem lw_set4 (S0 : CallFix p m c cL_law 9 s args wsL_law RL) (hX : xK D ks s) (hE : xEset A s s.heap) (hA : ∀ q, s.heap.size ≤ q → A q) (hX0 : va_X b0 L xs s s.heap) (hbl : b0 < s.heap.size) (hbA : ¬ A b0) (hL : L ≤ 260) (hKL : va_K D vwCl (tyK ks ++ [(cL, .long)]) s) (hR : RS F qz qS td0 M) (hP : va_P D vwCl (wO ks o a b h t F G qA qz qS td0 ++ [(wq, .inl (cL, 32, .inr (.inl w)))]) H) (hD : va_D A (wO ks o a b h t F G qA qz qS td0 ++ [(wq, .inl (cL, 32, .inr (.inl w)))])) (hS : va_S A s.heap H locs) (hl : lv_has ls 9 [(7, .int kv), (6, .int (nI rr)), (5, .int x), (4, .int (nI j)), (3, .int (nI cn)), (2, .ref wq), (1, .ref o), (0, .ref b0)])
    (kk : ∀ (r : Int32) (F1 : FD) (A1 : Nat → AF) (z1 : Int32) (S1 : Nat → FD) (M1 : MD) (H : Heap) (locs : List Loc), RS F1 z1 S1 td0 M1 → (SM F → SM F1) → ((r < 0 ∧ F1 = F ∧ A1 = qA ∧ z1 = qz ∧ S1 = qS) ∨ (0 ≤ r ∧ p_X2_keep 6000 qA qz qS F = some (A1, z1, S1))) → va_P D vwCl (wO ks o a b h t F1 G A1 z1 S1 td0 ++ [(wq, .inl (cL, 32, .inr (.inl w)))]) H → va_D A (wO ks o a b h t F1 G A1 z1 S1 td0 ++ [(wq, .inl (cL, 32, .inr (.inl w)))]) → va_S A s.heap H locs → W p l e room_1 s m args below meth c H locs 103 1463 Q (F0 m 357 ls [.int r])) : W p l e room_1 s m args below meth c H locs 103 1463 Q (F0 m 260 ls []) := by
  obtain ⟨hx, hb, hml, hown, hts⟩ := id S0
  refine lv_aload_n hx hb dL_law_260 rfl (lv_at hl 6 rfl) ?_
  refine lv_iload hx hb dL_law_261 (lv_at hl 2 rfl) ?_
  refine lv_iconst (v := 4) hx hb dL_law_263 (by decide) ?_
  refine xx_ishr hx hb dL_law_264 ?_
  refine lv_bipush (v := 7) hx hb dL_law_265 (by decide) ?_
  refine xpart (k := 7) (rest := [.ref o]) ⟨hx, hb, hml, hown, hts⟩ (va_cwS 2 hts gL_law_L_part rfl rfl rfl (by decide +kernel) ⟨Nat.le_of_ble_eq_true rfl, Nat.le_of_ble_eq_true rfl⟩) hX (z := 7) rfl (by decide) (by decide) hl.1 (Nat.le_of_ble_eq_true rfl) dL_law_267 ⟨Nat.le_of_ble_eq_true rfl, Nat.le_of_ble_eq_true rfl⟩ (fun i1 hi1 => ?_)
  refine lv_iload hx hb dL_law_270 (lv_at hl 2 rfl) ?_
  refine lv_iconst (v := 5) hx hb dL_law_272 (by decide) ?_
  refine xx_ishr hx hb dL_law_273 ?_
  refine lv_bipush (v := 100) hx hb dL_law_274 (by decide) ?_
  refine xpart (k := 100) (rest := [.int (nI i1), .ref o]) ⟨hx, hb, hml, hown, hts⟩ (va_cwS 2 hts gL_law_L_part rfl rfl rfl (by decide +kernel) ⟨Nat.le_of_ble_eq_true rfl, Nat.le_of_ble_eq_true rfl⟩) hX (z := 100) rfl (by decide) (by decide) hl.1 (Nat.le_of_ble_eq_true rfl) dL_law_276 ⟨Nat.le_of_ble_eq_true rfl, Nat.le_of_ble_eq_true rfl⟩ (fun i2 hi2 => ?_)
  obtain ⟨r, F1, A1, z1, S1, M1, e1, hR1, hs1, hn1⟩ := opAll (A := qA) (uni_set 6000 F (nI i1) (nI i2)) hR (setR (k := 6000) (qA := qA) (by decide) hR (nI i1) (nI i2))
  have e1 : p_X4_set 6000 F qA qz qS (nI i1) (nI i2) = some (r, F1, A1, z1, S1) := e1
  refine kFHE1 (As := [.int (nI i1), .int (nI i2)]) (rest := []) ⟨hx, hb, hml, hown, hts⟩ (c_X4_set 6000 o a b h t F qA qz qS (nI i1) (nI i2) _ _ _ _ _ e1) (cwV 2 hts gL_law_X4_set rfl rfl rfl (by decide +kernel) ⟨Nat.le_of_ble_eq_true rfl, Nat.le_of_ble_eq_true rfl⟩) hX hP hD hS hA hE ok_xEset rfl hl.1 rfl (Nat.le_of_ble_eq_true rfl) dL_law_279 ⟨Nat.le_of_ble_eq_true rfl, Nat.le_of_ble_eq_true rfl⟩ (fun H locs hP hD hS => ?_)
  refine lv_goto (tgt := 357) hx hb dL_law_282 (by decide) ?_
  exact kk r F1 A1 z1 S1 M1 H locs hR1 hs1 hn1 hP hD hS
set_option maxHeartbeats 4000000 in
set_option maxRecDepth 100000 in
theorem lw_dip (S0 : CallFix p m c cL_law 9 s args wsL_law RL) (hX : xK D ks s) (hE : xEset A s s.heap) (hA : ∀ q, s.heap.size ≤ q → A q) (hX0 : va_X b0 L xs s s.heap) (hbl : b0 < s.heap.size) (hbA : ¬ A b0) (hL : L ≤ 260) (hKL : va_K D vwCl (tyK ks ++ [(cL, .long)]) s) (hR : RS F qz qS td0 M) (hP : va_P D vwCl (wO ks o a b h t F G qA qz qS td0 ++ [(wq, .inl (cL, 32, .inr (.inl w)))]) H) (hD : va_D A (wO ks o a b h t F G qA qz qS td0 ++ [(wq, .inl (cL, 32, .inr (.inl w)))])) (hS : va_S A s.heap H locs) (hl : lv_has ls 9 [(7, .int kv), (6, .int (nI rr)), (5, .int x), (4, .int (nI j)), (3, .int (nI cn)), (2, .ref wq), (1, .ref o), (0, .ref b0)])
    (kk : ∀ (r : Int32) (F1 : FD) (A1 : Nat → AF) (z1 : Int32) (S1 : Nat → FD) (M1 : MD) (H : Heap) (locs : List Loc), RS F1 z1 S1 td0 M1 → (SM F → SM F1) → ((r < 0 ∧ F1 = F ∧ A1 = qA ∧ z1 = qz ∧ S1 = qS) ∨ (0 ≤ r ∧ p_X2_keep 6000 qA qz qS F = some (A1, z1, S1))) → va_P D vwCl (wO ks o a b h t F1 G A1 z1 S1 td0 ++ [(wq, .inl (cL, 32, .inr (.inl w)))]) H → va_D A (wO ks o a b h t F1 G A1 z1 S1 td0 ++ [(wq, .inl (cL, 32, .inr (.inl w)))]) → va_S A s.heap H locs → W p l e room_1 s m args below meth c H locs 103 1463 Q (F0 m 357 ls [.int r])) : W p l e room_1 s m args below meth c H locs 103 1463 Q (F0 m 291 ls []) := by
  obtain ⟨hx, hb, hml, hown, hts⟩ := id S0
  refine lv_aload_n hx hb dL_law_291 rfl (lv_at hl 6 rfl) ?_
  refine lv_iconst (v := 1) hx hb dL_law_292 (by decide) ?_
  refine lv_iload hx hb dL_law_293 (lv_at hl 2 rfl) ?_
  refine lv_iconst (v := 4) hx hb dL_law_295 (by decide) ?_
  refine xx_ishr hx hb dL_law_296 ?_
  refine lv_bipush (v := 24) hx hb dL_law_297 (by decide) ?_
  refine xpart (k := 24) (rest := [.int 1, .ref o]) ⟨hx, hb, hml, hown, hts⟩ (va_cwS 2 hts gL_law_L_part rfl rfl rfl (by decide +kernel) ⟨Nat.le_of_ble_eq_true rfl, Nat.le_of_ble_eq_true rfl⟩) hX (z := 24) rfl (by decide) (by decide) hl.1 (Nat.le_of_ble_eq_true rfl) dL_law_299 ⟨Nat.le_of_ble_eq_true rfl, Nat.le_of_ble_eq_true rfl⟩ (fun i1 hi1 => ?_)
  refine lv_iadd hx hb dL_law_302 ?_
  refine lv_iload hx hb dL_law_303 (lv_at hl 2 rfl) ?_
  refine lv_iconst (v := 5) hx hb dL_law_305 (by decide) ?_
  refine xx_ishr hx hb dL_law_306 ?_
  refine lv_sipush (v := 3000) hx hb dL_law_307 (by decide) ?_
  refine xpart (k := 3000) (rest := [.int (1 + (nI i1)), .ref o]) ⟨hx, hb, hml, hown, hts⟩ (va_cwS 2 hts gL_law_L_part rfl rfl rfl (by decide +kernel) ⟨Nat.le_of_ble_eq_true rfl, Nat.le_of_ble_eq_true rfl⟩) hX (z := 3000) rfl (by decide) (by decide) hl.1 (Nat.le_of_ble_eq_true rfl) dL_law_310 ⟨Nat.le_of_ble_eq_true rfl, Nat.le_of_ble_eq_true rfl⟩ (fun i2 hi2 => ?_)
  refine lv_iload hx hb dL_law_313 (lv_at hl 2 rfl) ?_
  refine lv_bipush (v := 6) hx hb dL_law_315 (by decide) ?_
  refine xx_ishr hx hb dL_law_317 ?_
  refine lv_bipush (v := 90) hx hb dL_law_318 (by decide) ?_
  refine xpart (k := 90) (rest := [.int (nI i2), .int (1 + (nI i1)), .ref o]) ⟨hx, hb, hml, hown, hts⟩ (va_cwS 2 hts gL_law_L_part rfl rfl rfl (by decide +kernel) ⟨Nat.le_of_ble_eq_true rfl, Nat.le_of_ble_eq_true rfl⟩) hX (z := 90) rfl (by decide) (by decide) hl.1 (Nat.le_of_ble_eq_true rfl) dL_law_320 ⟨Nat.le_of_ble_eq_true rfl, Nat.le_of_ble_eq_true rfl⟩ (fun i3 hi3 => ?_)
  obtain ⟨r, F1, A1, z1, S1, M1, e1, hR1, hs1, hn1⟩ := opAll (A := qA) (uni_dip 6000 F (1 + (nI i1)) (nI i2) (nI i3)) hR (dipR (k := 6000) (qA := qA) (by decide) hR (1 + (nI i1)) (nI i2) (nI i3))
  have e1 : p_X4_dip 6000 F qA qz qS (1 + (nI i1)) (nI i2) (nI i3) = some (r, F1, A1, z1, S1) := e1
  refine kFH1 (As := [.int (1 + (nI i1)), .int (nI i2), .int (nI i3)]) (rest := []) ⟨hx, hb, hml, hown, hts⟩ (c_X4_dip 6000 o a b h t F qA qz qS (1 + (nI i1)) (nI i2) (nI i3) _ _ _ _ _ e1) (cwV 3 hts gL_law_X4_dip rfl rfl rfl (by decide +kernel) ⟨Nat.le_of_ble_eq_true rfl, Nat.le_of_ble_eq_true rfl⟩) hX hP hD hS hA rfl hl.1 rfl (Nat.le_of_ble_eq_true rfl) dL_law_323 ⟨Nat.le_of_ble_eq_true rfl, Nat.le_of_ble_eq_true rfl⟩ (fun H locs hP hD hS => ?_)
  refine lv_goto (tgt := 357) hx hb dL_law_326 (by decide) ?_
  exact kk r F1 A1 z1 S1 M1 H locs hR1 hs1 hn1 hP hD hS
set_option maxHeartbeats 4000000 in
set_option maxRecDepth 100000 in
theorem lw_go6 (S0 : CallFix p m c cL_law 9 s args wsL_law RL) (hX : xK D ks s) (hE : xEset A s s.heap) (hA : ∀ q, s.heap.size ≤ q → A q) (hX0 : va_X b0 L xs s s.heap) (hbl : b0 < s.heap.size) (hbA : ¬ A b0) (hL : L ≤ 260) (hKL : va_K D vwCl (tyK ks ++ [(cL, .long)]) s) (hR : RS F qz qS td0 M) (h6 : kv = 6) (hP : va_P D vwCl (wO ks o a b h t F G qA qz qS td0 ++ [(wq, .inl (cL, 32, .inr (.inl w)))]) H) (hD : va_D A (wO ks o a b h t F G qA qz qS td0 ++ [(wq, .inl (cL, 32, .inr (.inl w)))])) (hS : va_S A s.heap H locs) (hl : lv_has ls 9 [(7, .int kv), (6, .int (nI rr)), (5, .int x), (4, .int (nI j)), (3, .int (nI cn)), (2, .ref wq), (1, .ref o), (0, .ref b0)])
    (kk : ∀ (r : Int32) (F1 : FD) (A1 : Nat → AF) (z1 : Int32) (S1 : Nat → FD) (M1 : MD) (H : Heap) (locs : List Loc), RS F1 z1 S1 td0 M1 → (SM F → SM F1) → ((r < 0 ∧ F1 = F ∧ A1 = qA ∧ z1 = qz ∧ S1 = qS) ∨ (0 ≤ r ∧ p_X2_keep 6000 qA qz qS F = some (A1, z1, S1))) → va_P D vwCl (wO ks o a b h t F1 G A1 z1 S1 td0 ++ [(wq, .inl (cL, 32, .inr (.inl w)))]) H → va_D A (wO ks o a b h t F1 G A1 z1 S1 td0 ++ [(wq, .inl (cL, 32, .inr (.inl w)))]) → va_S A s.heap H locs → W p l e room_1 s m args below meth c H locs 103 1463 Q (F0 m 357 ls [.int r])) : W p l e room_1 s m args below meth c H locs 103 1463 Q (F0 m 329 ls []) := by
  obtain ⟨hx, hb, hml, hown, hts⟩ := id S0
  refine lv_aload_n hx hb dL_law_329 rfl (lv_at hl 6 rfl) ?_
  refine lv_iconst (v := 1) hx hb dL_law_330 (by decide) ?_
  refine lv_iload hx hb dL_law_331 (lv_at hl 2 rfl) ?_
  refine lv_iconst (v := 4) hx hb dL_law_333 (by decide) ?_
  refine xx_ishr hx hb dL_law_334 ?_
  refine lv_iload hx hb dL_law_335 (lv_at hl 0 rfl) ?_
  refine lv_bipush (v := 6) hx hb dL_law_337 (by decide) ?_
  refine lv_icmp_ne (tgt := 348) hx hb dL_law_339 (by decide) (fun c => absurd (h6) c) (fun _ => ?_)
  refine lv_sipush (v := 300) hx hb dL_law_342 (by decide) ?_
  refine lv_goto (tgt := 350) hx hb dL_law_345 (by decide) ?_
  refine xpart (k := 300) (rest := [.int 1, .ref o]) ⟨hx, hb, hml, hown, hts⟩ (va_cwS 2 hts gL_law_L_part rfl rfl rfl (by decide +kernel) ⟨Nat.le_of_ble_eq_true rfl, Nat.le_of_ble_eq_true rfl⟩) hX (z := 300) rfl (by decide) (by decide) hl.1 (Nat.le_of_ble_eq_true rfl) dL_law_350 ⟨Nat.le_of_ble_eq_true rfl, Nat.le_of_ble_eq_true rfl⟩ (fun i1 hi1 => ?_)
  refine lv_iadd hx hb dL_law_353 ?_
  obtain ⟨r, F1, A1, z1, S1, M1, e1, hR1, hs1, hn1⟩ := opAll (A := qA) (uni_go 6000 (by decide) F (1 + (nI i1))) hR (goR (k := 6000) (qA := qA) (by decide) hR (1 + (nI i1)))
  have e1 : p_X4_go 6000 F qA qz qS (1 + (nI i1)) = some (r, F1, A1, z1, S1) := e1
  refine kFH1 (As := [.int (1 + (nI i1))]) (rest := []) ⟨hx, hb, hml, hown, hts⟩ (c_X4_go 6000 o a b h t F qA qz qS (1 + (nI i1)) _ _ _ _ _ e1) (cwV 1 hts gL_law_X4_go rfl rfl rfl (by decide +kernel) ⟨Nat.le_of_ble_eq_true rfl, Nat.le_of_ble_eq_true rfl⟩) hX hP hD hS hA rfl hl.1 rfl (Nat.le_of_ble_eq_true rfl) dL_law_354 ⟨Nat.le_of_ble_eq_true rfl, Nat.le_of_ble_eq_true rfl⟩ (fun H locs hP hD hS => ?_)
  exact kk r F1 A1 z1 S1 M1 H locs hR1 hs1 hn1 hP hD hS
set_option maxHeartbeats 4000000 in
set_option maxRecDepth 100000 in
theorem lw_go9 (S0 : CallFix p m c cL_law 9 s args wsL_law RL) (hX : xK D ks s) (hE : xEset A s s.heap) (hA : ∀ q, s.heap.size ≤ q → A q) (hX0 : va_X b0 L xs s s.heap) (hbl : b0 < s.heap.size) (hbA : ¬ A b0) (hL : L ≤ 260) (hKL : va_K D vwCl (tyK ks ++ [(cL, .long)]) s) (hR : RS F qz qS td0 M) (h6 : ¬ kv = 6) (hP : va_P D vwCl (wO ks o a b h t F G qA qz qS td0 ++ [(wq, .inl (cL, 32, .inr (.inl w)))]) H) (hD : va_D A (wO ks o a b h t F G qA qz qS td0 ++ [(wq, .inl (cL, 32, .inr (.inl w)))])) (hS : va_S A s.heap H locs) (hl : lv_has ls 9 [(7, .int kv), (6, .int (nI rr)), (5, .int x), (4, .int (nI j)), (3, .int (nI cn)), (2, .ref wq), (1, .ref o), (0, .ref b0)])
    (kk : ∀ (r : Int32) (F1 : FD) (A1 : Nat → AF) (z1 : Int32) (S1 : Nat → FD) (M1 : MD) (H : Heap) (locs : List Loc), RS F1 z1 S1 td0 M1 → (SM F → SM F1) → ((r < 0 ∧ F1 = F ∧ A1 = qA ∧ z1 = qz ∧ S1 = qS) ∨ (0 ≤ r ∧ p_X2_keep 6000 qA qz qS F = some (A1, z1, S1))) → va_P D vwCl (wO ks o a b h t F1 G A1 z1 S1 td0 ++ [(wq, .inl (cL, 32, .inr (.inl w)))]) H → va_D A (wO ks o a b h t F1 G A1 z1 S1 td0 ++ [(wq, .inl (cL, 32, .inr (.inl w)))]) → va_S A s.heap H locs → W p l e room_1 s m args below meth c H locs 103 1463 Q (F0 m 357 ls [.int r])) : W p l e room_1 s m args below meth c H locs 103 1463 Q (F0 m 329 ls []) := by
  obtain ⟨hx, hb, hml, hown, hts⟩ := id S0
  refine lv_aload_n hx hb dL_law_329 rfl (lv_at hl 6 rfl) ?_
  refine lv_iconst (v := 1) hx hb dL_law_330 (by decide) ?_
  refine lv_iload hx hb dL_law_331 (lv_at hl 2 rfl) ?_
  refine lv_iconst (v := 4) hx hb dL_law_333 (by decide) ?_
  refine xx_ishr hx hb dL_law_334 ?_
  refine lv_iload hx hb dL_law_335 (lv_at hl 0 rfl) ?_
  refine lv_bipush (v := 6) hx hb dL_law_337 (by decide) ?_
  refine lv_icmp_ne (tgt := 348) hx hb dL_law_339 (by decide) (fun _ => ?_) (fun c => absurd c (h6))
  refine lv_bipush (v := 9) hx hb dL_law_348 (by decide) ?_
  refine xpart (k := 9) (rest := [.int 1, .ref o]) ⟨hx, hb, hml, hown, hts⟩ (va_cwS 2 hts gL_law_L_part rfl rfl rfl (by decide +kernel) ⟨Nat.le_of_ble_eq_true rfl, Nat.le_of_ble_eq_true rfl⟩) hX (z := 9) rfl (by decide) (by decide) hl.1 (Nat.le_of_ble_eq_true rfl) dL_law_350 ⟨Nat.le_of_ble_eq_true rfl, Nat.le_of_ble_eq_true rfl⟩ (fun i1 hi1 => ?_)
  refine lv_iadd hx hb dL_law_353 ?_
  obtain ⟨r, F1, A1, z1, S1, M1, e1, hR1, hs1, hn1⟩ := opAll (A := qA) (uni_go 6000 (by decide) F (1 + (nI i1))) hR (goR (k := 6000) (qA := qA) (by decide) hR (1 + (nI i1)))
  have e1 : p_X4_go 6000 F qA qz qS (1 + (nI i1)) = some (r, F1, A1, z1, S1) := e1
  refine kFH1 (As := [.int (1 + (nI i1))]) (rest := []) ⟨hx, hb, hml, hown, hts⟩ (c_X4_go 6000 o a b h t F qA qz qS (1 + (nI i1)) _ _ _ _ _ e1) (cwV 1 hts gL_law_X4_go rfl rfl rfl (by decide +kernel) ⟨Nat.le_of_ble_eq_true rfl, Nat.le_of_ble_eq_true rfl⟩) hX hP hD hS hA rfl hl.1 rfl (Nat.le_of_ble_eq_true rfl) dL_law_354 ⟨Nat.le_of_ble_eq_true rfl, Nat.le_of_ble_eq_true rfl⟩ (fun H locs hP hD hS => ?_)
  exact kk r F1 A1 z1 S1 M1 H locs hR1 hs1 hn1 hP hD hS
set_option maxHeartbeats 4000000 in
set_option maxRecDepth 100000 in
theorem lw_kind (S0 : CallFix p m c cL_law 9 s args wsL_law RL) (hX : xK D ks s) (hE : xEset A s s.heap) (hA : ∀ q, s.heap.size ≤ q → A q) (hX0 : va_X b0 L xs s s.heap) (hbl : b0 < s.heap.size) (hbA : ¬ A b0) (hL : L ≤ 260) {kd : Nat} (hkd : kd < 9) (hKL : va_K D vwCl (tyK ks ++ [(cL, .long)]) s) (hR : RS F qz qS td0 M) (hP : va_P D vwCl (wO ks o a b h t F G qA qz qS td0 ++ [(wq, .inl (cL, 32, .inr (.inl w)))]) H) (hD : va_D A (wO ks o a b h t F G qA qz qS td0 ++ [(wq, .inl (cL, 32, .inr (.inl w)))])) (hS : va_S A s.heap H locs) (hl : lv_has ls 9 [(7, .int (nI kd)), (6, .int (nI rr)), (5, .int x), (4, .int (nI j)), (3, .int (nI cn)), (2, .ref wq), (1, .ref o), (0, .ref b0)])
    (kk : ∀ (r : Int32) (F1 : FD) (A1 : Nat → AF) (z1 : Int32) (S1 : Nat → FD) (M1 : MD) (H : Heap) (locs : List Loc), RS F1 z1 S1 td0 M1 → (SM F → SM F1) → ((r < 0 ∧ F1 = F ∧ A1 = qA ∧ z1 = qz ∧ S1 = qS) ∨ (0 ≤ r ∧ p_X2_keep 6000 qA qz qS F = some (A1, z1, S1))) → va_P D vwCl (wO ks o a b h t F1 G A1 z1 S1 td0 ++ [(wq, .inl (cL, 32, .inr (.inl w)))]) H → va_D A (wO ks o a b h t F1 G A1 z1 S1 td0 ++ [(wq, .inl (cL, 32, .inr (.inl w)))]) → va_S A s.heap H locs → W p l e room_1 s m args below meth c H locs 103 1463 Q (F0 m 357 ls [.int r])) : W p l e room_1 s m args below meth c H locs 103 1463 Q (F0 m 165 ls []) := by
  obtain ⟨hx, hb, hml, hown, hts⟩ := id S0
  have hk : kd = 0 ∨ kd = 1 ∨ kd = 2 ∨ kd = 3 ∨ kd = 4 ∨ kd = 5 ∨ kd = 6 ∨ kd = 7 ∨ kd = 8 := by omega
  rcases hk with rfl | rfl | rfl | rfl | rfl | rfl | rfl | rfl | rfl
  · refine lv_iload hx hb dL_law_165 (lv_at hl 0 rfl) ?_
    refine lv_if_ne (tgt := 191) hx hb dL_law_167 (by decide) (fun c => absurd c (by decide)) (fun _ => ?_)
    exact lw_pour S0 hX hE hA hX0 hbl hbA hL hKL hR hP hD hS hl kk
  · refine lv_iload hx hb dL_law_165 (lv_at hl 0 rfl) ?_
    refine lv_if_ne (tgt := 191) hx hb dL_law_167 (by decide) (fun _ => ?_) (fun c => absurd c (by decide))
    refine lv_iload hx hb dL_law_191 (lv_at hl 0 rfl) ?_
    refine lv_iconst (v := 1) hx hb dL_law_193 (by decide) ?_
    refine lv_icmp_ne (tgt := 218) hx hb dL_law_194 (by decide) (fun c => absurd c (by decide)) (fun _ => ?_)
    exact lw_thin S0 hX hE hA hX0 hbl hbA hL hKL hR hP hD hS hl kk
  · refine lv_iload hx hb dL_law_165 (lv_at hl 0 rfl) ?_
    refine lv_if_ne (tgt := 191) hx hb dL_law_167 (by decide) (fun _ => ?_) (fun c => absurd c (by decide))
    refine lv_iload hx hb dL_law_191 (lv_at hl 0 rfl) ?_
    refine lv_iconst (v := 1) hx hb dL_law_193 (by decide) ?_
    refine lv_icmp_ne (tgt := 218) hx hb dL_law_194 (by decide) (fun _ => ?_) (fun c => absurd c (by decide))
    refine lv_iload hx hb dL_law_218 (lv_at hl 0 rfl) ?_
    refine lv_iconst (v := 2) hx hb dL_law_220 (by decide) ?_
    refine lv_icmp_ne (tgt := 231) hx hb dL_law_221 (by decide) (fun c => absurd c (by decide)) (fun _ => ?_)
    exact lw_cut S0 hX hE hA hX0 hbl hbA hL hKL hR hP hD hS hl kk
  · refine lv_iload hx hb dL_law_165 (lv_at hl 0 rfl) ?_
    refine lv_if_ne (tgt := 191) hx hb dL_law_167 (by decide) (fun _ => ?_) (fun c => absurd c (by decide))
    refine lv_iload hx hb dL_law_191 (lv_at hl 0 rfl) ?_
    refine lv_iconst (v := 1) hx hb dL_law_193 (by decide) ?_
    refine lv_icmp_ne (tgt := 218) hx hb dL_law_194 (by decide) (fun _ => ?_) (fun c => absurd c (by decide))
    refine lv_iload hx hb dL_law_218 (lv_at hl 0 rfl) ?_
    refine lv_iconst (v := 2) hx hb dL_law_220 (by decide) ?_
    refine lv_icmp_ne (tgt := 231) hx hb dL_law_221 (by decide) (fun _ => ?_) (fun c => absurd c (by decide))
    refine lv_iload hx hb dL_law_231 (lv_at hl 0 rfl) ?_
    refine lv_iconst (v := 3) hx hb dL_law_233 (by decide) ?_
    refine lv_icmp_ne (tgt := 254) hx hb dL_law_234 (by decide) (fun c => absurd c (by decide)) (fun _ => ?_)
    exact lw_add S0 hX hE hA hX0 hbl hbA hL hKL hR hP hD hS hl kk
  · refine lv_iload hx hb dL_law_165 (lv_at hl 0 rfl) ?_
    refine lv_if_ne (tgt := 191) hx hb dL_law_167 (by decide) (fun _ => ?_) (fun c => absurd c (by decide))
    refine lv_iload hx hb dL_law_191 (lv_at hl 0 rfl) ?_
    refine lv_iconst (v := 1) hx hb dL_law_193 (by decide) ?_
    refine lv_icmp_ne (tgt := 218) hx hb dL_law_194 (by decide) (fun _ => ?_) (fun c => absurd c (by decide))
    refine lv_iload hx hb dL_law_218 (lv_at hl 0 rfl) ?_
    refine lv_iconst (v := 2) hx hb dL_law_220 (by decide) ?_
    refine lv_icmp_ne (tgt := 231) hx hb dL_law_221 (by decide) (fun _ => ?_) (fun c => absurd c (by decide))
    refine lv_iload hx hb dL_law_231 (lv_at hl 0 rfl) ?_
    refine lv_iconst (v := 3) hx hb dL_law_233 (by decide) ?_
    refine lv_icmp_ne (tgt := 254) hx hb dL_law_234 (by decide) (fun _ => ?_) (fun c => absurd c (by decide))
    refine lv_iload hx hb dL_law_254 (lv_at hl 0 rfl) ?_
    refine lv_iconst (v := 4) hx hb dL_law_256 (by decide) ?_
    refine lv_icmp_ne (tgt := 285) hx hb dL_law_257 (by decide) (fun c => absurd c (by decide)) (fun _ => ?_)
    exact lw_set4 S0 hX hE hA hX0 hbl hbA hL hKL hR hP hD hS hl kk
  · refine lv_iload hx hb dL_law_165 (lv_at hl 0 rfl) ?_
    refine lv_if_ne (tgt := 191) hx hb dL_law_167 (by decide) (fun _ => ?_) (fun c => absurd c (by decide))
    refine lv_iload hx hb dL_law_191 (lv_at hl 0 rfl) ?_
    refine lv_iconst (v := 1) hx hb dL_law_193 (by decide) ?_
    refine lv_icmp_ne (tgt := 218) hx hb dL_law_194 (by decide) (fun _ => ?_) (fun c => absurd c (by decide))
    refine lv_iload hx hb dL_law_218 (lv_at hl 0 rfl) ?_
    refine lv_iconst (v := 2) hx hb dL_law_220 (by decide) ?_
    refine lv_icmp_ne (tgt := 231) hx hb dL_law_221 (by decide) (fun _ => ?_) (fun c => absurd c (by decide))
    refine lv_iload hx hb dL_law_231 (lv_at hl 0 rfl) ?_
    refine lv_iconst (v := 3) hx hb dL_law_233 (by decide) ?_
    refine lv_icmp_ne (tgt := 254) hx hb dL_law_234 (by decide) (fun _ => ?_) (fun c => absurd c (by decide))
    refine lv_iload hx hb dL_law_254 (lv_at hl 0 rfl) ?_
    refine lv_iconst (v := 4) hx hb dL_law_256 (by decide) ?_
    refine lv_icmp_ne (tgt := 285) hx hb dL_law_257 (by decide) (fun _ => ?_) (fun c => absurd c (by decide))
    refine lv_iload hx hb dL_law_285 (lv_at hl 0 rfl) ?_
    refine lv_iconst (v := 5) hx hb dL_law_287 (by decide) ?_
    refine lv_icmp_ne (tgt := 329) hx hb dL_law_288 (by decide) (fun c => absurd c (by decide)) (fun _ => ?_)
    exact lw_dip S0 hX hE hA hX0 hbl hbA hL hKL hR hP hD hS hl kk
  · refine lv_iload hx hb dL_law_165 (lv_at hl 0 rfl) ?_
    refine lv_if_ne (tgt := 191) hx hb dL_law_167 (by decide) (fun _ => ?_) (fun c => absurd c (by decide))
    refine lv_iload hx hb dL_law_191 (lv_at hl 0 rfl) ?_
    refine lv_iconst (v := 1) hx hb dL_law_193 (by decide) ?_
    refine lv_icmp_ne (tgt := 218) hx hb dL_law_194 (by decide) (fun _ => ?_) (fun c => absurd c (by decide))
    refine lv_iload hx hb dL_law_218 (lv_at hl 0 rfl) ?_
    refine lv_iconst (v := 2) hx hb dL_law_220 (by decide) ?_
    refine lv_icmp_ne (tgt := 231) hx hb dL_law_221 (by decide) (fun _ => ?_) (fun c => absurd c (by decide))
    refine lv_iload hx hb dL_law_231 (lv_at hl 0 rfl) ?_
    refine lv_iconst (v := 3) hx hb dL_law_233 (by decide) ?_
    refine lv_icmp_ne (tgt := 254) hx hb dL_law_234 (by decide) (fun _ => ?_) (fun c => absurd c (by decide))
    refine lv_iload hx hb dL_law_254 (lv_at hl 0 rfl) ?_
    refine lv_iconst (v := 4) hx hb dL_law_256 (by decide) ?_
    refine lv_icmp_ne (tgt := 285) hx hb dL_law_257 (by decide) (fun _ => ?_) (fun c => absurd c (by decide))
    refine lv_iload hx hb dL_law_285 (lv_at hl 0 rfl) ?_
    refine lv_iconst (v := 5) hx hb dL_law_287 (by decide) ?_
    refine lv_icmp_ne (tgt := 329) hx hb dL_law_288 (by decide) (fun _ => ?_) (fun c => absurd c (by decide))
    exact lw_go6 S0 hX hE hA hX0 hbl hbA hL hKL hR (by decide) hP hD hS hl kk
  · refine lv_iload hx hb dL_law_165 (lv_at hl 0 rfl) ?_
    refine lv_if_ne (tgt := 191) hx hb dL_law_167 (by decide) (fun _ => ?_) (fun c => absurd c (by decide))
    refine lv_iload hx hb dL_law_191 (lv_at hl 0 rfl) ?_
    refine lv_iconst (v := 1) hx hb dL_law_193 (by decide) ?_
    refine lv_icmp_ne (tgt := 218) hx hb dL_law_194 (by decide) (fun _ => ?_) (fun c => absurd c (by decide))
    refine lv_iload hx hb dL_law_218 (lv_at hl 0 rfl) ?_
    refine lv_iconst (v := 2) hx hb dL_law_220 (by decide) ?_
    refine lv_icmp_ne (tgt := 231) hx hb dL_law_221 (by decide) (fun _ => ?_) (fun c => absurd c (by decide))
    refine lv_iload hx hb dL_law_231 (lv_at hl 0 rfl) ?_
    refine lv_iconst (v := 3) hx hb dL_law_233 (by decide) ?_
    refine lv_icmp_ne (tgt := 254) hx hb dL_law_234 (by decide) (fun _ => ?_) (fun c => absurd c (by decide))
    refine lv_iload hx hb dL_law_254 (lv_at hl 0 rfl) ?_
    refine lv_iconst (v := 4) hx hb dL_law_256 (by decide) ?_
    refine lv_icmp_ne (tgt := 285) hx hb dL_law_257 (by decide) (fun _ => ?_) (fun c => absurd c (by decide))
    refine lv_iload hx hb dL_law_285 (lv_at hl 0 rfl) ?_
    refine lv_iconst (v := 5) hx hb dL_law_287 (by decide) ?_
    refine lv_icmp_ne (tgt := 329) hx hb dL_law_288 (by decide) (fun _ => ?_) (fun c => absurd c (by decide))
    exact lw_go9 S0 hX hE hA hX0 hbl hbA hL hKL hR (by decide) hP hD hS hl kk
  · refine lv_iload hx hb dL_law_165 (lv_at hl 0 rfl) ?_
    refine lv_if_ne (tgt := 191) hx hb dL_law_167 (by decide) (fun _ => ?_) (fun c => absurd c (by decide))
    refine lv_iload hx hb dL_law_191 (lv_at hl 0 rfl) ?_
    refine lv_iconst (v := 1) hx hb dL_law_193 (by decide) ?_
    refine lv_icmp_ne (tgt := 218) hx hb dL_law_194 (by decide) (fun _ => ?_) (fun c => absurd c (by decide))
    refine lv_iload hx hb dL_law_218 (lv_at hl 0 rfl) ?_
    refine lv_iconst (v := 2) hx hb dL_law_220 (by decide) ?_
    refine lv_icmp_ne (tgt := 231) hx hb dL_law_221 (by decide) (fun _ => ?_) (fun c => absurd c (by decide))
    refine lv_iload hx hb dL_law_231 (lv_at hl 0 rfl) ?_
    refine lv_iconst (v := 3) hx hb dL_law_233 (by decide) ?_
    refine lv_icmp_ne (tgt := 254) hx hb dL_law_234 (by decide) (fun _ => ?_) (fun c => absurd c (by decide))
    refine lv_iload hx hb dL_law_254 (lv_at hl 0 rfl) ?_
    refine lv_iconst (v := 4) hx hb dL_law_256 (by decide) ?_
    refine lv_icmp_ne (tgt := 285) hx hb dL_law_257 (by decide) (fun _ => ?_) (fun c => absurd c (by decide))
    refine lv_iload hx hb dL_law_285 (lv_at hl 0 rfl) ?_
    refine lv_iconst (v := 5) hx hb dL_law_287 (by decide) ?_
    refine lv_icmp_ne (tgt := 329) hx hb dL_law_288 (by decide) (fun _ => ?_) (fun c => absurd c (by decide))
    exact lw_go9 S0 hX hE hA hX0 hbl hbA hL hKL hR (by decide) hP hD hS hl kk
set_option maxHeartbeats 4000000 in
set_option maxRecDepth 100000 in
theorem lw_tail1 (S0 : CallFix p m c cL_law 9 s args wsL_law RL) (hX : xK D ks s) (hE : xEset A s s.heap) (hA : ∀ q, s.heap.size ≤ q → A q) (hX0 : va_X b0 L xs s s.heap) (hbl : b0 < s.heap.size) (hbA : ¬ A b0) (hL : L ≤ 260) {r : Int32} {v : Int64} {F1 : FD} {A1 : Nat → AF} {z1 : Int32} {S1 : Nat → FD} (hr : 0 ≤ r) (hcj : cn ≤ j) (hsm : FD.ac F1 0 = FD.ac F1 1 + FD.ac F1 2 + FD.ac F1 3 + FD.ac F1 4 + FD.ac F1 5 + FD.ac F1 6) (hI1 : LI 6000 F1 z1 S1 td0 (vp_updL w cn v) (cn + 1)) (hP : va_P D vwCl (wO ks o a b h t F1 G A1 z1 S1 td0 ++ [(wq, .inl (cL, 32, .inr (.inl (vp_updL w cn v))))]) H) (hD : va_D A (wO ks o a b h t F1 G A1 z1 S1 td0 ++ [(wq, .inl (cL, 32, .inr (.inl (vp_updL w cn v))))])) (hS : va_S A s.heap H locs) (hl : lv_has ls 9 [(4, .int (nI j)), (3, .int (nI cn)), (2, .ref wq), (1, .ref o), (0, .ref b0)])
    (kk : ∀ (F1 : FD) (A1 : Nat → AF) (z1 : Int32) (S1 : Nat → FD) (w1 : Nat → Int64) (c1 : Nat) (H : Heap) (locs : List Loc) (ls : Array Slot), c1 ≤ j + 1 → LI 6000 F1 z1 S1 td0 w1 c1 → va_P D vwCl (wO ks o a b h t F1 G A1 z1 S1 td0 ++ [(wq, .inl (cL, 32, .inr (.inl w1)))]) H → va_D A (wO ks o a b h t F1 G A1 z1 S1 td0 ++ [(wq, .inl (cL, 32, .inr (.inl w1)))]) → va_S A s.heap H locs → lv_has ls 9 [(4, .int (nI (j + 1))), (3, .int (nI c1)), (2, .ref wq), (1, .ref o), (0, .ref b0)] → W p l e room_1 s m args below meth c H locs 103 1463 Q (F0 m 120 ls [])) : W p l e room_1 s m args below meth c H locs 103 1463 Q (F0 m 357 ls [.int r]) := by
  obtain ⟨hx, hb, hml, hown, hts⟩ := id S0
  refine lv_istore (lv' := [(8, .int r), (4, .int (nI j)), (3, .int (nI cn)), (2, .ref wq), (1, .ref o), (0, .ref b0)]) hx hb dL_law_357 hl (by decide) rfl (fun ls hl => ?_)
  refine lv_iload_n hx hb dL_law_359 rfl (lv_at hl 2 rfl) ?_
  refine lv_iload hx hb dL_law_360 (lv_at hl 0 rfl) ?_
  refine lv_if_lt (tgt := 369) hx hb dL_law_362 (by decide) (fun c => absurd c (nn_lt hr)) (fun _ => ?_)
  refine lv_iconst (v := 1) hx hb dL_law_365 (by decide) ?_
  refine lv_goto (tgt := 370) hx hb dL_law_366 (by decide) ?_
  refine lv_iadd hx hb dL_law_370 ?_
  refine lv_name (w := (nI (cn + 1))) ((nI_1 cn).symm) ?_
  refine lv_istore_n (lv' := [(3, .int (nI (cn + 1))), (8, .int r), (4, .int (nI j)), (2, .ref wq), (1, .ref o), (0, .ref b0)]) hx hb dL_law_371 rfl hl (by decide) rfl (fun ls hl => ?_)
  refine lv_iload hx hb dL_law_372 (lv_at hl 1 rfl) ?_
  refine lv_if_ge (tgt := 388) hx hb dL_law_374 (by decide) (fun _ => ?_) (fun c => absurd (hr) c)
  refine lv_aload_n hx hb dL_law_388 rfl (lv_at hl 4 rfl) ?_
  refine lv_bipush (v := 20) hx hb dL_law_389 (by decide) ?_
  refine kC1 (As := [.int 20]) (rest := []) ⟨hx, hb, hml, hown, hts⟩ (c_X4_count 6000 o a b h t F1 A1 z1 S1 td0 20 _ cnt_20) (cwV 1 hts gL_law_X4_count rfl rfl rfl (by decide +kernel) ⟨Nat.le_of_ble_eq_true rfl, Nat.le_of_ble_eq_true rfl⟩) hX hP rfl hl.1 rfl (Nat.le_of_ble_eq_true rfl) dL_law_391 ⟨Nat.le_of_ble_eq_true rfl, Nat.le_of_ble_eq_true rfl⟩ ?_
  refine lv_aload_n hx hb dL_law_394 rfl (lv_at hl 4 rfl) ?_
  refine lv_bipush (v := 21) hx hb dL_law_395 (by decide) ?_
  refine kC1 (As := [.int 21]) (rest := [.int (FD.ac F1 0)]) ⟨hx, hb, hml, hown, hts⟩ (c_X4_count 6000 o a b h t F1 A1 z1 S1 td0 21 _ cnt_21) (cwV 1 hts gL_law_X4_count rfl rfl rfl (by decide +kernel) ⟨Nat.le_of_ble_eq_true rfl, Nat.le_of_ble_eq_true rfl⟩) hX hP rfl hl.1 rfl (Nat.le_of_ble_eq_true rfl) dL_law_397 ⟨Nat.le_of_ble_eq_true rfl, Nat.le_of_ble_eq_true rfl⟩ ?_
  refine lv_aload_n hx hb dL_law_400 rfl (lv_at hl 4 rfl) ?_
  refine lv_bipush (v := 22) hx hb dL_law_401 (by decide) ?_
  refine kC1 (As := [.int 22]) (rest := [.int (FD.ac F1 1), .int (FD.ac F1 0)]) ⟨hx, hb, hml, hown, hts⟩ (c_X4_count 6000 o a b h t F1 A1 z1 S1 td0 22 _ cnt_22) (cwV 1 hts gL_law_X4_count rfl rfl rfl (by decide +kernel) ⟨Nat.le_of_ble_eq_true rfl, Nat.le_of_ble_eq_true rfl⟩) hX hP rfl hl.1 rfl (Nat.le_of_ble_eq_true rfl) dL_law_403 ⟨Nat.le_of_ble_eq_true rfl, Nat.le_of_ble_eq_true rfl⟩ ?_
  refine lv_iadd hx hb dL_law_406 ?_
  refine lv_aload_n hx hb dL_law_407 rfl (lv_at hl 4 rfl) ?_
  refine lv_bipush (v := 23) hx hb dL_law_408 (by decide) ?_
  refine kC1 (As := [.int 23]) (rest := [.int ((FD.ac F1 1) + (FD.ac F1 2)), .int (FD.ac F1 0)]) ⟨hx, hb, hml, hown, hts⟩ (c_X4_count 6000 o a b h t F1 A1 z1 S1 td0 23 _ cnt_23) (cwV 1 hts gL_law_X4_count rfl rfl rfl (by decide +kernel) ⟨Nat.le_of_ble_eq_true rfl, Nat.le_of_ble_eq_true rfl⟩) hX hP rfl hl.1 rfl (Nat.le_of_ble_eq_true rfl) dL_law_410 ⟨Nat.le_of_ble_eq_true rfl, Nat.le_of_ble_eq_true rfl⟩ ?_
  refine lv_iadd hx hb dL_law_413 ?_
  refine lv_aload_n hx hb dL_law_414 rfl (lv_at hl 4 rfl) ?_
  refine lv_bipush (v := 24) hx hb dL_law_415 (by decide) ?_
  refine kC1 (As := [.int 24]) (rest := [.int (((FD.ac F1 1) + (FD.ac F1 2)) + (FD.ac F1 3)), .int (FD.ac F1 0)]) ⟨hx, hb, hml, hown, hts⟩ (c_X4_count 6000 o a b h t F1 A1 z1 S1 td0 24 _ cnt_24) (cwV 1 hts gL_law_X4_count rfl rfl rfl (by decide +kernel) ⟨Nat.le_of_ble_eq_true rfl, Nat.le_of_ble_eq_true rfl⟩) hX hP rfl hl.1 rfl (Nat.le_of_ble_eq_true rfl) dL_law_417 ⟨Nat.le_of_ble_eq_true rfl, Nat.le_of_ble_eq_true rfl⟩ ?_
  refine lv_iadd hx hb dL_law_420 ?_
  refine lv_aload_n hx hb dL_law_421 rfl (lv_at hl 4 rfl) ?_
  refine lv_bipush (v := 25) hx hb dL_law_422 (by decide) ?_
  refine kC1 (As := [.int 25]) (rest := [.int ((((FD.ac F1 1) + (FD.ac F1 2)) + (FD.ac F1 3)) + (FD.ac F1 4)), .int (FD.ac F1 0)]) ⟨hx, hb, hml, hown, hts⟩ (c_X4_count 6000 o a b h t F1 A1 z1 S1 td0 25 _ cnt_25) (cwV 1 hts gL_law_X4_count rfl rfl rfl (by decide +kernel) ⟨Nat.le_of_ble_eq_true rfl, Nat.le_of_ble_eq_true rfl⟩) hX hP rfl hl.1 rfl (Nat.le_of_ble_eq_true rfl) dL_law_424 ⟨Nat.le_of_ble_eq_true rfl, Nat.le_of_ble_eq_true rfl⟩ ?_
  refine lv_iadd hx hb dL_law_427 ?_
  refine lv_aload_n hx hb dL_law_428 rfl (lv_at hl 4 rfl) ?_
  refine lv_bipush (v := 26) hx hb dL_law_429 (by decide) ?_
  refine kC1 (As := [.int 26]) (rest := [.int (((((FD.ac F1 1) + (FD.ac F1 2)) + (FD.ac F1 3)) + (FD.ac F1 4)) + (FD.ac F1 5)), .int (FD.ac F1 0)]) ⟨hx, hb, hml, hown, hts⟩ (c_X4_count 6000 o a b h t F1 A1 z1 S1 td0 26 _ cnt_26) (cwV 1 hts gL_law_X4_count rfl rfl rfl (by decide +kernel) ⟨Nat.le_of_ble_eq_true rfl, Nat.le_of_ble_eq_true rfl⟩) hX hP rfl hl.1 rfl (Nat.le_of_ble_eq_true rfl) dL_law_431 ⟨Nat.le_of_ble_eq_true rfl, Nat.le_of_ble_eq_true rfl⟩ ?_
  refine lv_iadd hx hb dL_law_434 ?_
  refine lv_icmp_eq (tgt := 440) hx hb dL_law_435 (by decide) (fun _ => ?_) (fun c => absurd (hsm) c)
  refine lv_iinc (v := nI (j + 1)) (lv' := [(4, .int (nI (j + 1))), (3, .int (nI (cn + 1))), (8, .int r), (2, .ref wq), (1, .ref o), (0, .ref b0)]) hx hb dL_law_440 hl (k := 2) rfl (nI_1 j) (by decide) rfl (fun ls hl => ?_)
  refine lv_goto (tgt := 120) hx hb dL_law_443 (by decide) ?_
  exact kk F1 A1 z1 S1 (vp_updL w cn v) (cn + 1) H locs ls (by omega) hI1 hP hD hS (lv_sub hl [0, 1, 3, 4, 5] rfl)
set_option maxHeartbeats 4000000 in
set_option maxRecDepth 100000 in
theorem lw_tail0 (S0 : CallFix p m c cL_law 9 s args wsL_law RL) (hX : xK D ks s) (hE : xEset A s s.heap) (hA : ∀ q, s.heap.size ≤ q → A q) (hX0 : va_X b0 L xs s s.heap) (hbl : b0 < s.heap.size) (hbA : ¬ A b0) (hL : L ≤ 260) {r : Int32} {v : Int64} (hKL : va_K D vwCl (tyK ks ++ [(cL, .long)]) s) (hr : r < 0) (hcj : cn ≤ j) (hj : j < 24) (hv : dgF 6000 F = some v) (hsm : FD.ac F 0 = FD.ac F 1 + FD.ac F 2 + FD.ac F 3 + FD.ac F 4 + FD.ac F 5 + FD.ac F 6) (hI1 : LI 6000 F qz qS td0 (vp_updL w cn v) cn) (hP : va_P D vwCl (wO ks o a b h t F G qA qz qS td0 ++ [(wq, .inl (cL, 32, .inr (.inl (vp_updL w cn v))))]) H) (hD : va_D A (wO ks o a b h t F G qA qz qS td0 ++ [(wq, .inl (cL, 32, .inr (.inl (vp_updL w cn v))))])) (hS : va_S A s.heap H locs) (hl : lv_has ls 9 [(4, .int (nI j)), (3, .int (nI cn)), (2, .ref wq), (1, .ref o), (0, .ref b0)])
    (kk : ∀ (F1 : FD) (A1 : Nat → AF) (z1 : Int32) (S1 : Nat → FD) (w1 : Nat → Int64) (c1 : Nat) (H : Heap) (locs : List Loc) (ls : Array Slot), c1 ≤ j + 1 → LI 6000 F1 z1 S1 td0 w1 c1 → va_P D vwCl (wO ks o a b h t F1 G A1 z1 S1 td0 ++ [(wq, .inl (cL, 32, .inr (.inl w1)))]) H → va_D A (wO ks o a b h t F1 G A1 z1 S1 td0 ++ [(wq, .inl (cL, 32, .inr (.inl w1)))]) → va_S A s.heap H locs → lv_has ls 9 [(4, .int (nI (j + 1))), (3, .int (nI c1)), (2, .ref wq), (1, .ref o), (0, .ref b0)] → W p l e room_1 s m args below meth c H locs 103 1463 Q (F0 m 120 ls [])) : W p l e room_1 s m args below meth c H locs 103 1463 Q (F0 m 357 ls [.int r]) := by
  obtain ⟨hx, hb, hml, hown, hts⟩ := id S0
  refine lv_istore (lv' := [(8, .int r), (4, .int (nI j)), (3, .int (nI cn)), (2, .ref wq), (1, .ref o), (0, .ref b0)]) hx hb dL_law_357 hl (by decide) rfl (fun ls hl => ?_)
  refine lv_iload_n hx hb dL_law_359 rfl (lv_at hl 2 rfl) ?_
  refine lv_iload hx hb dL_law_360 (lv_at hl 0 rfl) ?_
  refine lv_if_lt (tgt := 369) hx hb dL_law_362 (by decide) (fun _ => ?_) (fun c => absurd (hr) c)
  refine lv_iconst (v := 0) hx hb dL_law_369 (by decide) ?_
  refine lv_iadd hx hb dL_law_370 ?_
  refine lv_name (w := (nI cn)) ((Int32.add_zero (nI cn)).symm) ?_
  refine lv_istore_n (lv' := [(3, .int (nI cn)), (8, .int r), (4, .int (nI j)), (2, .ref wq), (1, .ref o), (0, .ref b0)]) hx hb dL_law_371 rfl hl (by decide) rfl (fun ls hl => ?_)
  refine lv_iload hx hb dL_law_372 (lv_at hl 1 rfl) ?_
  refine lv_if_ge (tgt := 388) hx hb dL_law_374 (by decide) (fun c => absurd c (Int32.not_le.mpr hr)) (fun _ => ?_)
  refine lv_aload_n hx hb dL_law_377 rfl (lv_at hl 4 rfl) ?_
  refine kSt1 (As := []) (rest := []) ⟨hx, hb, hml, hown, hts⟩ (c_L_state 6000 o a b h t F qA qz qS td0 v ((dgF_of (A := qA)).trans hv)) (va_cwS 1 hts gL_law_L_state rfl rfl rfl (by decide +kernel) ⟨Nat.le_of_ble_eq_true rfl, Nat.le_of_ble_eq_true rfl⟩) hX hP rfl hl.1 rfl (Nat.le_of_ble_eq_true rfl) dL_law_378 ⟨Nat.le_of_ble_eq_true rfl, Nat.le_of_ble_eq_true rfl⟩ ?_
  refine lv_aload_n hx hb dL_law_381 rfl (lv_at hl 3 rfl) ?_
  refine lv_iload_n hx hb dL_law_382 rfl (lv_at hl 0 rfl) ?_
  refine xlald (w := vp_updL w cn v) hx hb hKL hP (by omega) dL_law_383 ?_
  rw [pk_uLs]
  refine W.lcmp hx hb dL_law_384 ?_
  refine lv_if_ne (tgt := 438) hx hb dL_law_385 (by decide) (fun c => absurd ((lg_cmp_eq v v).mpr rfl) c) (fun _ => ?_)
  refine lv_aload_n hx hb dL_law_388 rfl (lv_at hl 4 rfl) ?_
  refine lv_bipush (v := 20) hx hb dL_law_389 (by decide) ?_
  refine kC1 (As := [.int 20]) (rest := []) ⟨hx, hb, hml, hown, hts⟩ (c_X4_count 6000 o a b h t F qA qz qS td0 20 _ cnt_20) (cwV 1 hts gL_law_X4_count rfl rfl rfl (by decide +kernel) ⟨Nat.le_of_ble_eq_true rfl, Nat.le_of_ble_eq_true rfl⟩) hX hP rfl hl.1 rfl (Nat.le_of_ble_eq_true rfl) dL_law_391 ⟨Nat.le_of_ble_eq_true rfl, Nat.le_of_ble_eq_true rfl⟩ ?_
  refine lv_aload_n hx hb dL_law_394 rfl (lv_at hl 4 rfl) ?_
  refine lv_bipush (v := 21) hx hb dL_law_395 (by decide) ?_
  refine kC1 (As := [.int 21]) (rest := [.int (FD.ac F 0)]) ⟨hx, hb, hml, hown, hts⟩ (c_X4_count 6000 o a b h t F qA qz qS td0 21 _ cnt_21) (cwV 1 hts gL_law_X4_count rfl rfl rfl (by decide +kernel) ⟨Nat.le_of_ble_eq_true rfl, Nat.le_of_ble_eq_true rfl⟩) hX hP rfl hl.1 rfl (Nat.le_of_ble_eq_true rfl) dL_law_397 ⟨Nat.le_of_ble_eq_true rfl, Nat.le_of_ble_eq_true rfl⟩ ?_
  refine lv_aload_n hx hb dL_law_400 rfl (lv_at hl 4 rfl) ?_
  refine lv_bipush (v := 22) hx hb dL_law_401 (by decide) ?_
  refine kC1 (As := [.int 22]) (rest := [.int (FD.ac F 1), .int (FD.ac F 0)]) ⟨hx, hb, hml, hown, hts⟩ (c_X4_count 6000 o a b h t F qA qz qS td0 22 _ cnt_22) (cwV 1 hts gL_law_X4_count rfl rfl rfl (by decide +kernel) ⟨Nat.le_of_ble_eq_true rfl, Nat.le_of_ble_eq_true rfl⟩) hX hP rfl hl.1 rfl (Nat.le_of_ble_eq_true rfl) dL_law_403 ⟨Nat.le_of_ble_eq_true rfl, Nat.le_of_ble_eq_true rfl⟩ ?_
  refine lv_iadd hx hb dL_law_406 ?_
  refine lv_aload_n hx hb dL_law_407 rfl (lv_at hl 4 rfl) ?_
  refine lv_bipush (v := 23) hx hb dL_law_408 (by decide) ?_
  refine kC1 (As := [.int 23]) (rest := [.int ((FD.ac F 1) + (FD.ac F 2)), .int (FD.ac F 0)]) ⟨hx, hb, hml, hown, hts⟩ (c_X4_count 6000 o a b h t F qA qz qS td0 23 _ cnt_23) (cwV 1 hts gL_law_X4_count rfl rfl rfl (by decide +kernel) ⟨Nat.le_of_ble_eq_true rfl, Nat.le_of_ble_eq_true rfl⟩) hX hP rfl hl.1 rfl (Nat.le_of_ble_eq_true rfl) dL_law_410 ⟨Nat.le_of_ble_eq_true rfl, Nat.le_of_ble_eq_true rfl⟩ ?_
  refine lv_iadd hx hb dL_law_413 ?_
  refine lv_aload_n hx hb dL_law_414 rfl (lv_at hl 4 rfl) ?_
  refine lv_bipush (v := 24) hx hb dL_law_415 (by decide) ?_
  refine kC1 (As := [.int 24]) (rest := [.int (((FD.ac F 1) + (FD.ac F 2)) + (FD.ac F 3)), .int (FD.ac F 0)]) ⟨hx, hb, hml, hown, hts⟩ (c_X4_count 6000 o a b h t F qA qz qS td0 24 _ cnt_24) (cwV 1 hts gL_law_X4_count rfl rfl rfl (by decide +kernel) ⟨Nat.le_of_ble_eq_true rfl, Nat.le_of_ble_eq_true rfl⟩) hX hP rfl hl.1 rfl (Nat.le_of_ble_eq_true rfl) dL_law_417 ⟨Nat.le_of_ble_eq_true rfl, Nat.le_of_ble_eq_true rfl⟩ ?_
  refine lv_iadd hx hb dL_law_420 ?_
  refine lv_aload_n hx hb dL_law_421 rfl (lv_at hl 4 rfl) ?_
  refine lv_bipush (v := 25) hx hb dL_law_422 (by decide) ?_
  refine kC1 (As := [.int 25]) (rest := [.int ((((FD.ac F 1) + (FD.ac F 2)) + (FD.ac F 3)) + (FD.ac F 4)), .int (FD.ac F 0)]) ⟨hx, hb, hml, hown, hts⟩ (c_X4_count 6000 o a b h t F qA qz qS td0 25 _ cnt_25) (cwV 1 hts gL_law_X4_count rfl rfl rfl (by decide +kernel) ⟨Nat.le_of_ble_eq_true rfl, Nat.le_of_ble_eq_true rfl⟩) hX hP rfl hl.1 rfl (Nat.le_of_ble_eq_true rfl) dL_law_424 ⟨Nat.le_of_ble_eq_true rfl, Nat.le_of_ble_eq_true rfl⟩ ?_
  refine lv_iadd hx hb dL_law_427 ?_
  refine lv_aload_n hx hb dL_law_428 rfl (lv_at hl 4 rfl) ?_
  refine lv_bipush (v := 26) hx hb dL_law_429 (by decide) ?_
  refine kC1 (As := [.int 26]) (rest := [.int (((((FD.ac F 1) + (FD.ac F 2)) + (FD.ac F 3)) + (FD.ac F 4)) + (FD.ac F 5)), .int (FD.ac F 0)]) ⟨hx, hb, hml, hown, hts⟩ (c_X4_count 6000 o a b h t F qA qz qS td0 26 _ cnt_26) (cwV 1 hts gL_law_X4_count rfl rfl rfl (by decide +kernel) ⟨Nat.le_of_ble_eq_true rfl, Nat.le_of_ble_eq_true rfl⟩) hX hP rfl hl.1 rfl (Nat.le_of_ble_eq_true rfl) dL_law_431 ⟨Nat.le_of_ble_eq_true rfl, Nat.le_of_ble_eq_true rfl⟩ ?_
  refine lv_iadd hx hb dL_law_434 ?_
  refine lv_icmp_eq (tgt := 440) hx hb dL_law_435 (by decide) (fun _ => ?_) (fun c => absurd (hsm) c)
  refine lv_iinc (v := nI (j + 1)) (lv' := [(4, .int (nI (j + 1))), (3, .int (nI cn)), (8, .int r), (2, .ref wq), (1, .ref o), (0, .ref b0)]) hx hb dL_law_440 hl (k := 2) rfl (nI_1 j) (by decide) rfl (fun ls hl => ?_)
  refine lv_goto (tgt := 120) hx hb dL_law_443 (by decide) ?_
  exact kk F qA qz qS (vp_updL w cn v) cn H locs ls (by omega) hI1 hP hD hS (lv_sub hl [0, 1, 3, 4, 5] rfl)
set_option maxHeartbeats 4000000 in
set_option maxRecDepth 100000 in
theorem lw_step (S0 : CallFix p m c cL_law 9 s args wsL_law RL) (hX : xK D ks s) (hE : xEset A s s.heap) (hA : ∀ q, s.heap.size ≤ q → A q) (hX0 : va_X b0 L xs s s.heap) (hbl : b0 < s.heap.size) (hbA : ¬ A b0) (hL : L ≤ 260) (hKL : va_K D vwCl (tyK ks ++ [(cL, .long)]) s) (hj : j < 24) (hc : cn ≤ j) (hI : LI 6000 F qz qS td0 w cn) (hP : va_P D vwCl (wO ks o a b h t F G qA qz qS td0 ++ [(wq, .inl (cL, 32, .inr (.inl w)))]) H) (hD : va_D A (wO ks o a b h t F G qA qz qS td0 ++ [(wq, .inl (cL, 32, .inr (.inl w)))])) (hS : va_S A s.heap H locs) (hl : lv_has ls 9 [(4, .int (nI j)), (3, .int (nI cn)), (2, .ref wq), (1, .ref o), (0, .ref b0)])
    (kk : ∀ (F1 : FD) (A1 : Nat → AF) (z1 : Int32) (S1 : Nat → FD) (w1 : Nat → Int64) (c1 : Nat) (H : Heap) (locs : List Loc) (ls : Array Slot), c1 ≤ j + 1 → LI 6000 F1 z1 S1 td0 w1 c1 → va_P D vwCl (wO ks o a b h t F1 G A1 z1 S1 td0 ++ [(wq, .inl (cL, 32, .inr (.inl w1)))]) H → va_D A (wO ks o a b h t F1 G A1 z1 S1 td0 ++ [(wq, .inl (cL, 32, .inr (.inl w1)))]) → va_S A s.heap H locs → lv_has ls 9 [(4, .int (nI (j + 1))), (3, .int (nI c1)), (2, .ref wq), (1, .ref o), (0, .ref b0)] → W p l e room_1 s m args below meth c H locs 103 1463 Q (F0 m 120 ls [])) : W p l e room_1 s m args below meth c H locs 103 1463 Q (F0 m 120 ls []) := by
  obtain ⟨hx, hb, hml, hown, hts⟩ := id S0
  obtain ⟨hs, ⟨M, hR⟩, -, -⟩ := id hI
  refine lw_head S0 hX hE hA hX0 hbl hbA hL hKL hj hc hR hP hD hS hl (fun x rr kd v H locs ls hkd hv hP hD hS hl => ?_)
  refine lw_kind S0 hX hE hA hX0 hbl hbA hL hkd hKL hR hP hD hS hl (fun r F1 A1 z1 S1 M1 H2 locs2 hR1 hs1 hn hP2 hD2 hS2 => ?_)
  have hs2 : SM F1 := hs1 hs
  rcases hn with ⟨hr, rfl, rfl, rfl, rfl⟩ | ⟨hr, hkp⟩
  · exact lw_tail0 S0 hX hE hA hX0 hbl hbA hL hKL hr hc hj hv hs2 (LI_same hI) hP2 hD2 hS2 (lv_sub hl [3, 4, 5, 6, 7] rfl) kk
  · exact lw_tail1 S0 hX hE hA hX0 hbl hbA hL hr hc hs2 (LI_keep hI hv hkp hs2 ⟨M1, hR1⟩) hP2 hD2 hS2 (lv_sub hl [3, 4, 5, 6, 7] rfl) kk
theorem lw_loop (S0 : CallFix p m c cL_law 9 s args wsL_law RL) (hX : xK D ks s) (hE : xEset A s s.heap) (hA : ∀ q, s.heap.size ≤ q → A q) (hX0 : va_X b0 L xs s s.heap) (hbl : b0 < s.heap.size) (hbA : ¬ A b0) (hL : L ≤ 260) (hKL : va_K D vwCl (tyK ks ++ [(cL, .long)]) s) (kk : ∀ (F : FD) (qA : Nat → AF) (qz : Int32) (qS : Nat → FD) (w : Nat → Int64) (cn : Nat) (H : Heap) (locs : List Loc) (ls : Array Slot), cn ≤ 24 → LI 6000 F qz qS td0 w cn → va_P D vwCl (wO ks o a b h t F G qA qz qS td0 ++ [(wq, .inl (cL, 32, .inr (.inl w)))]) H → va_D A (wO ks o a b h t F G qA qz qS td0 ++ [(wq, .inl (cL, 32, .inr (.inl w)))]) → va_S A s.heap H locs → lv_has ls 9 [(4, .int (nI 24)), (3, .int (nI cn)), (2, .ref wq), (1, .ref o), (0, .ref b0)] → W p l e room_1 s m args below meth c H locs 103 1463 Q (F0 m 120 ls [])) : ∀ (d j : Nat) (F : FD) (qA : Nat → AF) (qz : Int32) (qS : Nat → FD) (w : Nat → Int64) (cn : Nat) (H : Heap) (locs : List Loc) (ls : Array Slot), j + d = 24 → cn ≤ j → LI 6000 F qz qS td0 w cn → va_P D vwCl (wO ks o a b h t F G qA qz qS td0 ++ [(wq, .inl (cL, 32, .inr (.inl w)))]) H → va_D A (wO ks o a b h t F G qA qz qS td0 ++ [(wq, .inl (cL, 32, .inr (.inl w)))]) → va_S A s.heap H locs → lv_has ls 9 [(4, .int (nI j)), (3, .int (nI cn)), (2, .ref wq), (1, .ref o), (0, .ref b0)] → W p l e room_1 s m args below meth c H locs 103 1463 Q (F0 m 120 ls [])
  | 0, j, F, qA, qz, qS, w, cn, H, locs, ls, hd, hc, hI, hP, hD, hS, hl => by
    have hj : j = 24 := by omega
    subst hj
    exact kk F qA qz qS w cn H locs ls hc hI hP hD hS hl
  | d + 1, j, F, qA, qz, qS, w, cn, H, locs, ls, hd, hc, hI, hP, hD, hS, hl =>
    lw_step S0 hX hE hA hX0 hbl hbA hL hKL (by omega) hc hI hP hD hS hl (fun F1 A1 z1 S1 w1 c1 H locs ls hc1 hI1 hP hD hS hl => lw_loop S0 hX hE hA hX0 hbl hbA hL hKL kk d (j + 1) F1 A1 z1 S1 w1 c1 H locs ls (by omega) hc1 hI1 hP hD hS hl)
set_option maxHeartbeats 4000000 in
set_option maxRecDepth 100000 in
theorem lw_ref2 (S0 : CallFix p m c cL_law 9 s args wsL_law RL) (hX : xK D ks s) (hE : xEset A s s.heap) (hA : ∀ q, s.heap.size ≤ q → A q) (hX0 : va_X b0 L xs s s.heap) (hbl : b0 < s.heap.size) (hbA : ¬ A b0) (hL : L ≤ 260) (hKL : va_K D vwCl (tyK ks ++ [(cL, .long)]) s) (hI : LI 6000 F qz qS td0 w cn) (hP : va_P D vwCl (wO ks o a b h t F G qA qz qS td0 ++ [(wq, .inl (cL, 32, .inr (.inl w)))]) H) (hD : va_D A (wO ks o a b h t F G qA qz qS td0 ++ [(wq, .inl (cL, 32, .inr (.inl w)))])) (hS : va_S A s.heap H locs) (hl : lv_has ls 9 [(4, .int (nI 24)), (3, .int (nI cn)), (2, .ref wq), (1, .ref o), (0, .ref b0)])
    (kk : ∀ (G : FD) (H : Heap) (locs : List Loc) (ls : Array Slot), va_P D vwCl (wO ks o a b h t F G qA qz qS td0 ++ [(wq, .inl (cL, 32, .inr (.inl w)))]) H → va_D A (wO ks o a b h t F G qA qz qS td0 ++ [(wq, .inl (cL, 32, .inr (.inl w)))]) → va_S A s.heap H locs → lv_has ls 9 [(4, .int (nI (0 + 1))), (3, .int (nI cn)), (2, .ref wq), (1, .ref o), (0, .ref b0)] → W p l e room_1 s m args below meth c H locs 103 1463 Q (F0 m 458 ls [])) : W p l e room_1 s m args below meth c H locs 103 1463 Q (F0 m 120 ls []) := by
  obtain ⟨hx, hb, hml, hown, hts⟩ := id S0
  refine lv_iload hx hb dL_law_120 (lv_at hl 0 rfl) ?_
  refine lv_bipush (v := 24) hx hb dL_law_122 (by decide) ?_
  refine lv_icmp_ge (tgt := 446) hx hb dL_law_124 (by decide) (fun _ => ?_) (fun c => absurd (by decide) c)
  refine lv_aload_n hx hb dL_law_446 rfl (lv_at hl 3 rfl) ?_
  obtain ⟨M, hR⟩ := hI.2.1
  refine kRef1 (As := []) (rest := []) ⟨hx, hb, hml, hown, hts⟩ (c_L_refused 6000 o a b h t F G _ qA qz qS td0 M (by decide) hR rfl) (va_cwS 1 hts gL_law_L_refused rfl rfl rfl (by decide +kernel) ⟨Nat.le_of_ble_eq_true rfl, Nat.le_of_ble_eq_true rfl⟩) hX hP hD hS hA hE ok_xEset rfl hl.1 rfl (Nat.le_of_ble_eq_true rfl) dL_law_447 ⟨Nat.le_of_ble_eq_true rfl, Nat.le_of_ble_eq_true rfl⟩ (fun H locs hP hD hS => ?_)
  refine lv_if_ne (tgt := 455) hx hb dL_law_450 (by decide) (fun _ => ?_) (fun c => absurd c (by decide))
  refine lv_iconst (v := 1) hx hb dL_law_455 (by decide) ?_
  refine lv_istore (lv' := [(4, .int 1), (3, .int (nI cn)), (2, .ref wq), (1, .ref o), (0, .ref b0)]) hx hb dL_law_456 hl (by decide) rfl (fun ls hl => ?_)
  exact kk _ H locs ls hP hD hS (lv_sub hl [0, 1, 2, 3, 4] rfl)
set_option maxHeartbeats 4000000 in
set_option maxRecDepth 100000 in
theorem lw_undo (S0 : CallFix p m c cL_law 9 s args wsL_law RL) (hX : xK D ks s) (hE : xEset A s s.heap) (hA : ∀ q, s.heap.size ≤ q → A q) (hX0 : va_X b0 L xs s s.heap) (hbl : b0 < s.heap.size) (hbA : ¬ A b0) (hL : L ≤ 260) (hKL : va_K D vwCl (tyK ks ++ [(cL, .long)]) s) (hc : cn ≤ 24) (hj5 : j < 5) (hjc : j < cn) (hU : LU 6000 F qz qS td0 w cn j) (hP : va_P D vwCl (wO ks o a b h t F G qA qz qS td0 ++ [(wq, .inl (cL, 32, .inr (.inl w)))]) H) (hD : va_D A (wO ks o a b h t F G qA qz qS td0 ++ [(wq, .inl (cL, 32, .inr (.inl w)))])) (hS : va_S A s.heap H locs) (hl : lv_has ls 9 [(4, .int (nI (j + 1))), (3, .int (nI cn)), (2, .ref wq), (1, .ref o), (0, .ref b0)])
    (kk : ∀ (F1 : FD) (z1 : Int32) (H : Heap) (locs : List Loc) (ls : Array Slot), LU 6000 F1 z1 qS td0 w cn (j + 1) → va_P D vwCl (wO ks o a b h t F1 G qA z1 qS td0 ++ [(wq, .inl (cL, 32, .inr (.inl w)))]) H → va_D A (wO ks o a b h t F1 G qA z1 qS td0 ++ [(wq, .inl (cL, 32, .inr (.inl w)))]) → va_S A s.heap H locs → lv_has ls 9 [(4, .int (nI (j + 1 + 1))), (3, .int (nI cn)), (2, .ref wq), (1, .ref o), (0, .ref b0)] → W p l e room_1 s m args below meth c H locs 103 1463 Q (F0 m 458 ls [])) : W p l e room_1 s m args below meth c H locs 103 1463 Q (F0 m 458 ls []) := by
  obtain ⟨hx, hb, hml, hown, hts⟩ := id S0
  refine lv_iload hx hb dL_law_458 (lv_at hl 0 rfl) ?_
  refine lv_iconst (v := 5) hx hb dL_law_460 (by decide) ?_
  refine lv_icmp_gt (tgt := 517) hx hb dL_law_461 (by decide) (fun c => absurd c (nI_nlt (a := 5) (b := j + 1) (by omega) (by decide))) (fun _ => ?_)
  refine lv_iload hx hb dL_law_464 (lv_at hl 0 rfl) ?_
  refine lv_iload_n hx hb dL_law_466 rfl (lv_at hl 1 rfl) ?_
  refine lv_icmp_gt (tgt := 517) hx hb dL_law_467 (by decide) (fun c => absurd c (nI_nlt (a := cn) (b := j + 1) (by omega) (by omega))) (fun _ => ?_)
  refine lv_aload_n hx hb dL_law_470 rfl (lv_at hl 3 rfl) ?_
  obtain ⟨F1, e1, hU1, hd1⟩ := LU_step (k := 6000) (A := qA) (by decide) hU (show j < min cn 5 by omega)
  refine kFH1 (As := []) (rest := []) ⟨hx, hb, hml, hown, hts⟩ (c_X4_undo 6000 o a b h t F qA qz qS _ _ _ _ _ e1) (cwV 0 hts gL_law_X4_undo rfl rfl rfl (by decide +kernel) ⟨Nat.le_of_ble_eq_true rfl, Nat.le_of_ble_eq_true rfl⟩) hX hP hD hS hA rfl hl.1 rfl (Nat.le_of_ble_eq_true rfl) dL_law_471 ⟨Nat.le_of_ble_eq_true rfl, Nat.le_of_ble_eq_true rfl⟩ (fun H locs hP hD hS => ?_)
  refine lv_istore (lv' := [(5, .int (nI (min 5 (3 + cn) - (j + 1)))), (4, .int (nI (j + 1))), (3, .int (nI cn)), (2, .ref wq), (1, .ref o), (0, .ref b0)]) hx hb dL_law_474 hl (by decide) rfl (fun ls hl => ?_)
  refine lv_iload hx hb dL_law_476 (lv_at hl 0 rfl) ?_
  refine lv_if_lt (tgt := 509) hx hb dL_law_478 (by decide) (fun c => absurd c (nn_lt (nI_nn (by omega)))) (fun _ => ?_)
  refine lv_aload_n hx hb dL_law_481 rfl (lv_at hl 4 rfl) ?_
  refine kSt1 (As := []) (rest := []) ⟨hx, hb, hml, hown, hts⟩ (c_L_state 6000 o a b h t F1 qA (nI (min 5 (3 + cn) - (j + 1))) qS td0 (w (cn - (j + 1))) ((dgF_of (A := qA)).trans hd1)) (va_cwS 1 hts gL_law_L_state rfl rfl rfl (by decide +kernel) ⟨Nat.le_of_ble_eq_true rfl, Nat.le_of_ble_eq_true rfl⟩) hX hP rfl hl.1 rfl (Nat.le_of_ble_eq_true rfl) dL_law_482 ⟨Nat.le_of_ble_eq_true rfl, Nat.le_of_ble_eq_true rfl⟩ ?_
  refine lv_aload_n hx hb dL_law_485 rfl (lv_at hl 3 rfl) ?_
  refine lv_iload_n hx hb dL_law_486 rfl (lv_at hl 2 rfl) ?_
  refine lv_iload hx hb dL_law_487 (lv_at hl 1 rfl) ?_
  refine lv_isub hx hb dL_law_489 ?_
  refine lv_name (w := (nI (cn - (j + 1)))) ((pk_sub (a := cn) (b := j + 1) (by omega)).symm) ?_
  refine xlald (w := w) hx hb hKL hP (by omega) dL_law_490 ?_
  refine W.lcmp hx hb dL_law_491 ?_
  refine lv_if_ne (tgt := 509) hx hb dL_law_492 (by decide) (fun c => absurd ((lg_cmp_eq _ _).mpr rfl) c) (fun _ => ?_)
  have back : ∀ (ls : Array Slot), lv_has ls 9 [(5, .int (nI (min 5 (3 + cn) - (j + 1)))), (4, .int (nI (j + 1))), (3, .int (nI cn)), (2, .ref wq), (1, .ref o), (0, .ref b0)] → W p l e room_1 s m args below meth c H locs 103 1463 Q (F0 m 511 ls []) := by
    intro ls hl
    refine lv_iinc (v := nI (j + 1 + 1)) (lv' := [(4, .int (nI (j + 1 + 1))), (5, .int (nI (min 5 (3 + cn) - (j + 1)))), (3, .int (nI cn)), (2, .ref wq), (1, .ref o), (0, .ref b0)]) hx hb dL_law_511 hl (k := 1) rfl (nI_1 (j + 1)) (by decide) rfl (fun ls hl => ?_)
    refine lv_goto (tgt := 458) hx hb dL_law_514 (by decide) ?_
    exact kk F1 (nI (min 5 (3 + cn) - (j + 1))) H locs ls hU1 hP hD hS (lv_sub hl [0, 2, 3, 4, 5] rfl)
  refine lv_iload_n hx hb dL_law_495 rfl (lv_at hl 2 rfl) ?_
  refine lv_iconst (v := 4) hx hb dL_law_496 (by decide) ?_
  by_cases h4 : cn ≤ 4
  · have q4 : nI cn ≤ 4 := nI_le (b := 4) h4 (by decide)
    refine lv_icmp_le (tgt := 511) hx hb dL_law_497 (by decide) (fun _ => ?_) (fun c => absurd q4 c)
    exact back ls hl
  · have q4 : ¬ nI cn ≤ 4 := nI_ge (b := cn) (a := 4) (by omega) (by omega)
    refine lv_icmp_le (tgt := 511) hx hb dL_law_497 (by decide) (fun c => absurd c q4) (fun _ => ?_)
    refine lv_iload hx hb dL_law_500 (lv_at hl 0 rfl) ?_
    refine lv_iconst (v := 5) hx hb dL_law_502 (by decide) ?_
    refine lv_iload hx hb dL_law_503 (lv_at hl 1 rfl) ?_
    refine lv_isub hx hb dL_law_505 ?_
    refine lv_name (w := (nI (5 - (j + 1)))) ((pk_sub (a := 5) (b := j + 1) (by omega)).symm) ?_
    rw [show min 5 (3 + cn) - (j + 1) = 5 - (j + 1) by omega]
    exact lv_icmp_eq (tgt := 511) hx hb dL_law_506 (by decide) (fun _ => back ls hl) (fun c => absurd rfl c)
set_option maxHeartbeats 4000000 in
set_option maxRecDepth 100000 in
theorem lw_undos (S0 : CallFix p m c cL_law 9 s args wsL_law RL) (hX : xK D ks s) (hE : xEset A s s.heap) (hA : ∀ q, s.heap.size ≤ q → A q) (hX0 : va_X b0 L xs s s.heap) (hbl : b0 < s.heap.size) (hbA : ¬ A b0) (hL : L ≤ 260) (hKL : va_K D vwCl (tyK ks ++ [(cL, .long)]) s) (hc : cn ≤ 24) (kk : ∀ (F : FD) (qz : Int32) (H : Heap) (locs : List Loc) (ls : Array Slot), LU 6000 F qz qS td0 w cn (min cn 5) → va_P D vwCl (wO ks o a b h t F G qA qz qS td0 ++ [(wq, .inl (cL, 32, .inr (.inl w)))]) H → va_D A (wO ks o a b h t F G qA qz qS td0 ++ [(wq, .inl (cL, 32, .inr (.inl w)))]) → va_S A s.heap H locs → lv_has ls 9 [(3, .int (nI cn)), (2, .ref wq), (1, .ref o), (0, .ref b0)] → W p l e room_1 s m args below meth c H locs 103 1463 Q (F0 m 517 ls [])) : ∀ (d j : Nat) (F : FD) (qz : Int32) (H : Heap) (locs : List Loc) (ls : Array Slot), j + d = min cn 5 → LU 6000 F qz qS td0 w cn j → va_P D vwCl (wO ks o a b h t F G qA qz qS td0 ++ [(wq, .inl (cL, 32, .inr (.inl w)))]) H → va_D A (wO ks o a b h t F G qA qz qS td0 ++ [(wq, .inl (cL, 32, .inr (.inl w)))]) → va_S A s.heap H locs → lv_has ls 9 [(4, .int (nI (j + 1))), (3, .int (nI cn)), (2, .ref wq), (1, .ref o), (0, .ref b0)] → W p l e room_1 s m args below meth c H locs 103 1463 Q (F0 m 458 ls [])
  | 0, j, F, qz, H, locs, ls, hd, hU, hP, hD, hS, hl => by
    obtain ⟨hx, hb, hml, hown, hts⟩ := id S0
    have hj : j = min cn 5 := by omega
    rw [← hj] at kk
    refine lv_iload hx hb dL_law_458 (lv_at hl 0 rfl) ?_
    refine lv_iconst (v := 5) hx hb dL_law_460 (by decide) ?_
    by_cases h5 : 5 ≤ j
    · have q5 : (5 : Int32) < nI (j + 1) := nI_lt (a := 5) (b := j + 1) (by omega) (by omega)
      refine lv_icmp_gt (tgt := 517) hx hb dL_law_461 (by decide) (fun _ => ?_) (fun c => absurd q5 c)
      exact kk F qz H locs ls hU hP hD hS (lv_sub hl [1, 2, 3, 4] rfl)
    · have q5 : ¬ (5 : Int32) < nI (j + 1) := nI_nlt (a := 5) (b := j + 1) (by omega) (by decide)
      refine lv_icmp_gt (tgt := 517) hx hb dL_law_461 (by decide) (fun c => absurd c q5) (fun _ => ?_)
      refine lv_iload hx hb dL_law_464 (lv_at hl 0 rfl) ?_
      refine lv_iload_n hx hb dL_law_466 rfl (lv_at hl 1 rfl) ?_
      have qc : nI cn < nI (j + 1) := nI_lt (a := cn) (b := j + 1) (by omega) (by omega)
      refine lv_icmp_gt (tgt := 517) hx hb dL_law_467 (by decide) (fun _ => ?_) (fun c => absurd qc c)
      exact kk F qz H locs ls hU hP hD hS (lv_sub hl [1, 2, 3, 4] rfl)
  | d + 1, j, F, qz, H, locs, ls, hd, hU, hP, hD, hS, hl =>
    lw_undo S0 hX hE hA hX0 hbl hbA hL hKL hc (by omega) (by omega) hU hP hD hS hl (fun F1 z1 H locs ls hU1 hP hD hS hl => lw_undos S0 hX hE hA hX0 hbl hbA hL hKL hc kk d (j + 1) F1 z1 H locs ls (by omega) hU1 hP hD hS hl)
set_option maxHeartbeats 4000000 in
set_option maxRecDepth 100000 in
theorem lw_last (S0 : CallFix p m c cL_law 9 s args wsL_law RL) (hX : xK D ks s) (hE : xEset A s s.heap) (hA : ∀ q, s.heap.size ≤ q → A q) (hX0 : va_X b0 L xs s s.heap) (hbl : b0 < s.heap.size) (hbA : ¬ A b0) (hL : L ≤ 260) (hKL : va_K D vwCl (tyK ks ++ [(cL, .long)]) s) (hc : cn ≤ 24) (hU : LU 6000 F qz qS td0 w cn (min cn 5)) (hP : va_P D vwCl (wO ks o a b h t F G qA qz qS td0 ++ [(wq, .inl (cL, 32, .inr (.inl w)))]) H) (hD : va_D A (wO ks o a b h t F G qA qz qS td0 ++ [(wq, .inl (cL, 32, .inr (.inl w)))])) (hS : va_S A s.heap H locs) (hl : lv_has ls 9 [(3, .int (nI cn)), (2, .ref wq), (1, .ref o), (0, .ref b0)])
    (kk : ∀ (H : Heap) (locs : List Loc), va_S A s.heap H locs → W p l e room_1 s m args below meth c H locs 103 1463 Q (F0 m 533 ls [])) : W p l e room_1 s m args below meth c H locs 103 1463 Q (F0 m 517 ls []) := by
  obtain ⟨hx, hb, hml, hown, hts⟩ := id S0
  refine lv_iload_n hx hb dL_law_517 rfl (lv_at hl 0 rfl) ?_
  refine lv_iconst (v := 4) hx hb dL_law_518 (by decide) ?_
  by_cases h4 : cn ≤ 4
  · have q4 : nI cn ≤ 4 := nI_le (b := 4) h4 (by decide)
    refine lv_icmp_le (tgt := 533) hx hb dL_law_519 (by decide) (fun _ => ?_) (fun c => absurd q4 c)
    exact kk H locs hS
  · have q4 : ¬ nI cn ≤ 4 := nI_ge (b := cn) (a := 4) (by omega) (by omega)
    refine lv_icmp_le (tgt := 533) hx hb dL_law_519 (by decide) (fun c => absurd c q4) (fun _ => ?_)
    refine lv_aload_n hx hb dL_law_522 rfl (lv_at hl 2 rfl) ?_
    obtain ⟨-, -, hz, -⟩ := hU
    rw [show min 5 (3 + cn) - min cn 5 = 0 by omega] at hz
    have hz : qz = 0 := hz
    subst hz
    refine kFH1 (As := []) (rest := []) ⟨hx, hb, hml, hown, hts⟩ (c_X4_undo 6000 o a b h t F qA 0 qS _ _ _ _ _ undo_none) (cwV 0 hts gL_law_X4_undo rfl rfl rfl (by decide +kernel) ⟨Nat.le_of_ble_eq_true rfl, Nat.le_of_ble_eq_true rfl⟩) hX hP hD hS hA rfl hl.1 rfl (Nat.le_of_ble_eq_true rfl) dL_law_523 ⟨Nat.le_of_ble_eq_true rfl, Nat.le_of_ble_eq_true rfl⟩ (fun H locs hP hD hS => ?_)
    refine lv_bipush (v := (-2)) hx hb dL_law_526 (by decide) ?_
    refine lv_icmp_eq (tgt := 533) hx hb dL_law_528 (by decide) (fun _ => ?_) (fun c => absurd c (by decide))
    exact kk H locs hS
set_option maxHeartbeats 4000000 in
set_option maxRecDepth 100000 in
theorem lw_emp1 (S0 : CallFix p m c cL_law 9 s args wsL_law RL) (hX : xK D ks s) (hE : xEset A s s.heap) (hA : ∀ q, s.heap.size ≤ q → A q) (hX0 : va_X b0 L xs s s.heap) (hbl : b0 < s.heap.size) (hbA : ¬ A b0) (hL : L ≤ 260) (hj : j < 100) (hE0 : LE0 F qz qS j) (hP : va_P D vwCl (wO ks o a b h t F G qA qz qS td0) H) (hD : va_D A (wO ks o a b h t F G qA qz qS td0)) (hS : va_S A s.heap H locs) (hl : lv_has ls 9 [(5, .int (nI j)), (4, .ref o)])
    (kk : ∀ (F1 : FD) (A1 : Nat → AF) (z1 : Int32) (S1 : Nat → FD) (H : Heap) (locs : List Loc) (ls : Array Slot), LE0 F1 z1 S1 (j + 1) → va_P D vwCl (wO ks o a b h t F1 G A1 z1 S1 td0) H → va_D A (wO ks o a b h t F1 G A1 z1 S1 td0) → va_S A s.heap H locs → lv_has ls 9 [(5, .int (nI (j + 1))), (4, .ref o)] → W p l e room_1 s m args below meth c H locs 137 1940 Q (F0 m 545 ls [])) : W p l e room_1 s m args below meth c H locs 137 1940 Q (F0 m 545 ls []) := by
  obtain ⟨hx, hb, hml, hown, hts⟩ := id S0
  refine lv_iload hx hb dL_law_545 (lv_at hl 0 rfl) ?_
  refine lv_bipush (v := 100) hx hb dL_law_547 (by decide) ?_
  refine lv_icmp_ge (tgt := 571) hx hb dL_law_549 (by decide) (fun c => absurd c (nI_ge (b := 100) (a := j) hj (by decide))) (fun _ => ?_)
  refine lv_aload hx hb dL_law_552 (lv_at hl 1 rfl) ?_
  refine lv_sipush (v := 1000) hx hb dL_law_554 (by decide) ?_
  obtain ⟨F1, A1, z1, S1, e1, hE1⟩ := LE0_go (k := 6000) (A := qA) (by decide) hj hE0
  refine kFH0 (As := [.int 1000]) (rest := []) ⟨hx, hb, hml, hown, hts⟩ (c_X4_go 6000 o a b h t F qA qz qS 1000 _ _ _ _ _ e1) (cwV 1 hts gL_law_X4_go rfl rfl rfl (by decide +kernel) ⟨Nat.le_of_ble_eq_true rfl, Nat.le_of_ble_eq_true rfl⟩) hX hP hD hS hA rfl hl.1 rfl (Nat.le_of_ble_eq_true rfl) dL_law_557 ⟨Nat.le_of_ble_eq_true rfl, Nat.le_of_ble_eq_true rfl⟩ (fun H locs hP hD hS => ?_)
  refine lv_if_eq (tgt := 565) hx hb dL_law_560 (by decide) (fun _ => ?_) (fun c => absurd c (by decide))
  refine lv_iinc (v := nI (j + 1)) (lv' := [(5, .int (nI (j + 1))), (4, .ref o)]) hx hb dL_law_565 hl (k := 0) rfl (nI_1 j) (by decide) rfl (fun ls hl => ?_)
  refine lv_goto (tgt := 545) hx hb dL_law_568 (by decide) ?_
  exact kk F1 A1 z1 S1 H locs ls hE1 hP hD hS hl
theorem lw_emp (S0 : CallFix p m c cL_law 9 s args wsL_law RL) (hX : xK D ks s) (hE : xEset A s s.heap) (hA : ∀ q, s.heap.size ≤ q → A q) (hX0 : va_X b0 L xs s s.heap) (hbl : b0 < s.heap.size) (hbA : ¬ A b0) (hL : L ≤ 260) (kk : ∀ (F : FD) (qA : Nat → AF) (qz : Int32) (qS : Nat → FD) (H : Heap) (locs : List Loc) (ls : Array Slot), LE0 F qz qS 100 → va_P D vwCl (wO ks o a b h t F G qA qz qS td0) H → va_D A (wO ks o a b h t F G qA qz qS td0) → va_S A s.heap H locs → lv_has ls 9 [(5, .int (nI 100)), (4, .ref o)] → W p l e room_1 s m args below meth c H locs 137 1940 Q (F0 m 545 ls [])) : ∀ (d j : Nat) (F : FD) (qA : Nat → AF) (qz : Int32) (qS : Nat → FD) (H : Heap) (locs : List Loc) (ls : Array Slot), j + d = 100 → LE0 F qz qS j → va_P D vwCl (wO ks o a b h t F G qA qz qS td0) H → va_D A (wO ks o a b h t F G qA qz qS td0) → va_S A s.heap H locs → lv_has ls 9 [(5, .int (nI j)), (4, .ref o)] → W p l e room_1 s m args below meth c H locs 137 1940 Q (F0 m 545 ls [])
  | 0, j, F, qA, qz, qS, H, locs, ls, hd, hE0, hP, hD, hS, hl => by
    have hj : j = 100 := by omega
    subst hj
    exact kk F qA qz qS H locs ls hE0 hP hD hS hl
  | d + 1, j, F, qA, qz, qS, H, locs, ls, hd, hE0, hP, hD, hS, hl =>
    lw_emp1 S0 hX hE hA hX0 hbl hbA hL (by omega) hE0 hP hD hS hl (fun F1 A1 z1 S1 H locs ls hE1 hP hD hS hl => lw_emp S0 hX hE hA hX0 hbl hbA hL kk d (j + 1) F1 A1 z1 S1 H locs ls (by omega) hE1 hP hD hS hl)
set_option maxHeartbeats 4000000 in
set_option maxRecDepth 100000 in
theorem lw_fin (S0 : CallFix p m c cL_law 9 s args wsL_law RL) (hX : xK D ks s) (hE : xEset A s s.heap) (hA : ∀ q, s.heap.size ≤ q → A q) (hX0 : va_X b0 L xs s s.heap) (hbl : b0 < s.heap.size) (hbA : ¬ A b0) (hL : L ≤ 260) (hE0 : LE0 F qz qS 100) (hP : va_P D vwCl (wO ks o a b h t F G qA qz qS td0) H) (hD : va_D A (wO ks o a b h t F G qA qz qS td0)) (hS : va_S A s.heap H locs) (hl : lv_has ls 9 [(5, .int (nI 100)), (4, .ref o)])
    (kk : ∀ (H : Heap) (locs : List Loc) (ls : Array Slot), va_S A s.heap H locs → W p l e room_1 s m args below meth c H locs 137 1940 Q (F0 m 628 ls [.int 1])) : W p l e room_1 s m args below meth c H locs 137 1940 Q (F0 m 545 ls []) := by
  obtain ⟨hx, hb, hml, hown, hts⟩ := id S0
  refine lv_iload hx hb dL_law_545 (lv_at hl 0 rfl) ?_
  refine lv_bipush (v := 100) hx hb dL_law_547 (by decide) ?_
  refine lv_icmp_ge (tgt := 571) hx hb dL_law_549 (by decide) (fun _ => ?_) (fun c => absurd (by decide) c)
  obtain ⟨rfl, eu, rfl⟩ := LE0_undo (k := 6000) (A := qA) hE0
  refine lv_aload hx hb dL_law_571 (lv_at hl 1 rfl) ?_
  refine lv_iconst (v := 1) hx hb dL_law_573 (by decide) ?_
  refine kFH0 (As := [.int 1]) (rest := []) ⟨hx, hb, hml, hown, hts⟩ (c_X4_go 6000 o a b h t (fdt 100000) qA 5 qS 1 _ _ _ _ _ fdt_full) (cwV 1 hts gL_law_X4_go rfl rfl rfl (by decide +kernel) ⟨Nat.le_of_ble_eq_true rfl, Nat.le_of_ble_eq_true rfl⟩) hX hP hD hS hA rfl hl.1 rfl (Nat.le_of_ble_eq_true rfl) dL_law_574 ⟨Nat.le_of_ble_eq_true rfl, Nat.le_of_ble_eq_true rfl⟩ (fun H locs hP hD hS => ?_)
  refine lv_bipush (v := (-3)) hx hb dL_law_577 (by decide) ?_
  refine lv_icmp_ne (tgt := 627) hx hb dL_law_579 (by decide) (fun c => absurd c (by decide)) (fun _ => ?_)
  refine lv_aload hx hb dL_law_582 (lv_at hl 1 rfl) ?_
  refine lv_iconst (v := 0) hx hb dL_law_584 (by decide) ?_
  refine kFH0 (As := [.int 0]) (rest := []) ⟨hx, hb, hml, hown, hts⟩ (c_X4_go 6000 o a b h t (fdt 100000) qA 5 qS 0 _ _ _ _ _ rl_go_0) (cwV 1 hts gL_law_X4_go rfl rfl rfl (by decide +kernel) ⟨Nat.le_of_ble_eq_true rfl, Nat.le_of_ble_eq_true rfl⟩) hX hP hD hS hA rfl hl.1 rfl (Nat.le_of_ble_eq_true rfl) dL_law_585 ⟨Nat.le_of_ble_eq_true rfl, Nat.le_of_ble_eq_true rfl⟩ (fun H locs hP hD hS => ?_)
  refine lv_iconst (v := (-1)) hx hb dL_law_588 (by decide) ?_
  refine lv_icmp_ne (tgt := 627) hx hb dL_law_589 (by decide) (fun c => absurd c (by decide)) (fun _ => ?_)
  refine lv_aload hx hb dL_law_592 (lv_at hl 1 rfl) ?_
  refine lv_iconst (v := 1) hx hb dL_law_594 (by decide) ?_
  refine kC0 (As := [.int 1]) (rest := []) ⟨hx, hb, hml, hown, hts⟩ (c_X4_count 6000 o a b h t (fdt 100000) qA 5 qS td0 1 (nI 100000) rfl) (cwV 1 hts gL_law_X4_count rfl rfl rfl (by decide +kernel) ⟨Nat.le_of_ble_eq_true rfl, Nat.le_of_ble_eq_true rfl⟩) hX hP rfl hl.1 rfl (Nat.le_of_ble_eq_true rfl) dL_law_595 ⟨Nat.le_of_ble_eq_true rfl, Nat.le_of_ble_eq_true rfl⟩ ?_
  refine lv_ldc (v := 100000) hx hb hown (hts (.constant RL 159 (100000)) (by decide +kernel)) dL_law_598 ?_
  refine lv_icmp_ne (tgt := 627) hx hb dL_law_600 (by decide) (fun c => absurd (show nI 100000 = 100000 from by decide) c) (fun _ => ?_)
  refine lv_aload hx hb dL_law_603 (lv_at hl 1 rfl) ?_
  refine kFH0 (As := []) (rest := []) ⟨hx, hb, hml, hown, hts⟩ (c_X4_undo 6000 o a b h t (fdt 100000) qA 5 qS _ _ _ _ _ eu) (cwV 0 hts gL_law_X4_undo rfl rfl rfl (by decide +kernel) ⟨Nat.le_of_ble_eq_true rfl, Nat.le_of_ble_eq_true rfl⟩) hX hP hD hS hA rfl hl.1 rfl (Nat.le_of_ble_eq_true rfl) dL_law_605 ⟨Nat.le_of_ble_eq_true rfl, Nat.le_of_ble_eq_true rfl⟩ (fun H locs hP hD hS => ?_)
  refine lv_iconst (v := 4) hx hb dL_law_608 (by decide) ?_
  refine lv_icmp_ne (tgt := 627) hx hb dL_law_609 (by decide) (fun c => absurd c (by decide)) (fun _ => ?_)
  refine lv_aload hx hb dL_law_612 (lv_at hl 1 rfl) ?_
  refine lv_sipush (v := 1000) hx hb dL_law_614 (by decide) ?_
  refine kFH0 (As := [.int 1000]) (rest := []) ⟨hx, hb, hml, hown, hts⟩ (c_X4_go 6000 o a b h t (fdt 99000) qA 4 qS 1000 _ _ _ _ _ (fdt_go (k := 6000) (n := 99000) (by decide) (by decide) (keep_lt (h := 4) (by decide)))) (cwV 1 hts gL_law_X4_go rfl rfl rfl (by decide +kernel) ⟨Nat.le_of_ble_eq_true rfl, Nat.le_of_ble_eq_true rfl⟩) hX hP hD hS hA rfl hl.1 rfl (Nat.le_of_ble_eq_true rfl) dL_law_617 ⟨Nat.le_of_ble_eq_true rfl, Nat.le_of_ble_eq_true rfl⟩ (fun H locs hP hD hS => ?_)
  refine lv_if_ne (tgt := 627) hx hb dL_law_620 (by decide) (fun c => absurd c (by decide)) (fun _ => ?_)
  refine lv_iconst (v := 1) hx hb dL_law_623 (by decide) ?_
  refine lv_goto (tgt := 628) hx hb dL_law_624 (by decide) ?_
  exact kk H locs ls hS
end LAW23
