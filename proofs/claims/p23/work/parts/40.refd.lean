/-! p23: the contract of the law's refused. -/
section REFUSED
variable {p : Program} {l : Launch} {e : Env} {s : State} {m : MethodId} {args : Array Value} {below : List Frame} {meth : Method} {c : Code} {Q : State → Prop} {A : Nat → Prop} {D : va_G} {ks : K3} {H : Heap} {locs : List Loc} {ls : Array Slot} {o : Nat} {a b : AF} {h : AH} {t : AT} {F G : FD} {qA : Nat → AF} {qz : Int32} {qS : Nat → FD} {T : TD} {k : Nat} {y : Int64} {n : Nat} {tt uu : Nat → Nat} {M : MD}
set_option maxHeartbeats 4000000 in
set_option maxRecDepth 100000 in
theorem rfd_0 (S0 : CallFix p m c cL_refused 4 s args wsL_refused RL) (hX : xK D ks s) (hE : xEset A s s.heap) (hA : ∀ q, s.heap.size ≤ q → A q) (hk : 100 ≤ k) (hf : RF F (MD.st M) n tt uu) (hP : va_P D vwCl (wO ks o a b h t F G qA qz qS T) H) (hD : va_D A (wO ks o a b h t F G qA qz qS T)) (hS : va_S A s.heap H locs) (hl : lv_has ls 4 [(3, .int (FD.rows F)), (1, .long y), (0, .ref o)])
    (kk : ∀ (H : Heap) (locs : List Loc), va_P D vwCl (wO ks o a b h t F G qA qz qS T) H → va_D A (wO ks o a b h t F G qA qz qS T) → va_S A s.heap H locs → W p l e { frames := 8, cells := 0, slots := 0, locals := 172 } s m args below meth c H locs 0 0 Q (F0 m 108 ls [])) : W p l e { frames := 8, cells := 0, slots := 0, locals := 172 } s m args below meth c H locs 0 0 Q (F0 m 31 ls []) := by
  obtain ⟨hx, hb, hml, hown, hts⟩ := id S0
  refine lv_aload_n hx hb dL_refused_31 rfl (lv_at hl 2 rfl) ?_
  refine lv_iconst (v := (-1)) hx hb dL_refused_32 (by decide) ?_
  refine lv_bipush (v := 20) hx hb dL_refused_33 (by decide) ?_
  refine kFHE0 (As := [.int (-1), .int 20]) (rest := []) ⟨hx, hb, hml, hown, hts⟩ (c_X4_set k o a b h t F qA qz qS (-1) 20 _ _ _ _ _ (rl_set_m1_20)) (cwV 2 hts gL_refused_X4_set rfl rfl rfl (by decide +kernel) ⟨Nat.le_of_ble_eq_true rfl, Nat.le_of_ble_eq_true rfl⟩) hX hP hD hS hA hE ok_xEset rfl hl.1 rfl (Nat.le_of_ble_eq_true rfl) dL_refused_35 ⟨Nat.le_of_ble_eq_true rfl, Nat.le_of_ble_eq_true rfl⟩ (fun H locs hP hD hS => ?_)
  refine lv_iconst (v := (-1)) hx hb dL_refused_38 (by decide) ?_
  refine lv_icmp_ne (tgt := 185) hx hb dL_refused_39 (by decide) (fun c => absurd c (by decide)) (fun _ => ?_)
  refine lv_aload_n hx hb dL_refused_42 rfl (lv_at hl 2 rfl) ?_
  refine lv_bipush (v := 7) hx hb dL_refused_43 (by decide) ?_
  refine lv_bipush (v := 20) hx hb dL_refused_45 (by decide) ?_
  refine kFHE0 (As := [.int 7, .int 20]) (rest := []) ⟨hx, hb, hml, hown, hts⟩ (c_X4_set k o a b h t F qA qz qS 7 20 _ _ _ _ _ (rl_set_7_20)) (cwV 2 hts gL_refused_X4_set rfl rfl rfl (by decide +kernel) ⟨Nat.le_of_ble_eq_true rfl, Nat.le_of_ble_eq_true rfl⟩) hX hP hD hS hA hE ok_xEset rfl hl.1 rfl (Nat.le_of_ble_eq_true rfl) dL_refused_47 ⟨Nat.le_of_ble_eq_true rfl, Nat.le_of_ble_eq_true rfl⟩ (fun H locs hP hD hS => ?_)
  refine lv_iconst (v := (-1)) hx hb dL_refused_50 (by decide) ?_
  refine lv_icmp_ne (tgt := 185) hx hb dL_refused_51 (by decide) (fun c => absurd c (by decide)) (fun _ => ?_)
  refine lv_aload_n hx hb dL_refused_54 rfl (lv_at hl 2 rfl) ?_
  refine lv_iconst (v := 0) hx hb dL_refused_55 (by decide) ?_
  refine lv_bipush (v := 101) hx hb dL_refused_56 (by decide) ?_
  refine kFHE0 (As := [.int 0, .int 101]) (rest := []) ⟨hx, hb, hml, hown, hts⟩ (c_X4_set k o a b h t F qA qz qS 0 101 _ _ _ _ _ (rl_set_0_101)) (cwV 2 hts gL_refused_X4_set rfl rfl rfl (by decide +kernel) ⟨Nat.le_of_ble_eq_true rfl, Nat.le_of_ble_eq_true rfl⟩) hX hP hD hS hA hE ok_xEset rfl hl.1 rfl (Nat.le_of_ble_eq_true rfl) dL_refused_58 ⟨Nat.le_of_ble_eq_true rfl, Nat.le_of_ble_eq_true rfl⟩ (fun H locs hP hD hS => ?_)
  refine lv_iconst (v := (-1)) hx hb dL_refused_61 (by decide) ?_
  refine lv_icmp_ne (tgt := 185) hx hb dL_refused_62 (by decide) (fun c => absurd c (by decide)) (fun _ => ?_)
  refine lv_aload_n hx hb dL_refused_65 rfl (lv_at hl 2 rfl) ?_
  refine lv_iconst (v := 0) hx hb dL_refused_66 (by decide) ?_
  refine lv_iconst (v := (-1)) hx hb dL_refused_67 (by decide) ?_
  refine kFHE0 (As := [.int 0, .int (-1)]) (rest := []) ⟨hx, hb, hml, hown, hts⟩ (c_X4_set k o a b h t F qA qz qS 0 (-1) _ _ _ _ _ (rl_set_0_m1)) (cwV 2 hts gL_refused_X4_set rfl rfl rfl (by decide +kernel) ⟨Nat.le_of_ble_eq_true rfl, Nat.le_of_ble_eq_true rfl⟩) hX hP hD hS hA hE ok_xEset rfl hl.1 rfl (Nat.le_of_ble_eq_true rfl) dL_refused_68 ⟨Nat.le_of_ble_eq_true rfl, Nat.le_of_ble_eq_true rfl⟩ (fun H locs hP hD hS => ?_)
  refine lv_iconst (v := (-1)) hx hb dL_refused_71 (by decide) ?_
  refine lv_icmp_ne (tgt := 185) hx hb dL_refused_72 (by decide) (fun c => absurd c (by decide)) (fun _ => ?_)
  refine lv_aload_n hx hb dL_refused_75 rfl (lv_at hl 2 rfl) ?_
  refine lv_iconst (v := 1) hx hb dL_refused_76 (by decide) ?_
  refine lv_bipush (v := 51) hx hb dL_refused_77 (by decide) ?_
  refine kFHE0 (As := [.int 1, .int 51]) (rest := []) ⟨hx, hb, hml, hown, hts⟩ (c_X4_set k o a b h t F qA qz qS 1 51 _ _ _ _ _ (rl_set_1_51)) (cwV 2 hts gL_refused_X4_set rfl rfl rfl (by decide +kernel) ⟨Nat.le_of_ble_eq_true rfl, Nat.le_of_ble_eq_true rfl⟩) hX hP hD hS hA hE ok_xEset rfl hl.1 rfl (Nat.le_of_ble_eq_true rfl) dL_refused_79 ⟨Nat.le_of_ble_eq_true rfl, Nat.le_of_ble_eq_true rfl⟩ (fun H locs hP hD hS => ?_)
  refine lv_iconst (v := (-1)) hx hb dL_refused_82 (by decide) ?_
  refine lv_icmp_ne (tgt := 185) hx hb dL_refused_83 (by decide) (fun c => absurd c (by decide)) (fun _ => ?_)
  refine lv_aload_n hx hb dL_refused_86 rfl (lv_at hl 2 rfl) ?_
  refine lv_iconst (v := 2) hx hb dL_refused_87 (by decide) ?_
  refine lv_sipush (v := 501) hx hb dL_refused_88 (by decide) ?_
  refine kFHE0 (As := [.int 2, .int 501]) (rest := []) ⟨hx, hb, hml, hown, hts⟩ (c_X4_set k o a b h t F qA qz qS 2 501 _ _ _ _ _ (rl_set_2_501)) (cwV 2 hts gL_refused_X4_set rfl rfl rfl (by decide +kernel) ⟨Nat.le_of_ble_eq_true rfl, Nat.le_of_ble_eq_true rfl⟩) hX hP hD hS hA hE ok_xEset rfl hl.1 rfl (Nat.le_of_ble_eq_true rfl) dL_refused_91 ⟨Nat.le_of_ble_eq_true rfl, Nat.le_of_ble_eq_true rfl⟩ (fun H locs hP hD hS => ?_)
  refine lv_iconst (v := (-1)) hx hb dL_refused_94 (by decide) ?_
  refine lv_icmp_ne (tgt := 185) hx hb dL_refused_95 (by decide) (fun c => absurd c (by decide)) (fun _ => ?_)
  refine lv_aload_n hx hb dL_refused_98 rfl (lv_at hl 2 rfl) ?_
  refine lv_iconst (v := 3) hx hb dL_refused_99 (by decide) ?_
  refine lv_iconst (v := 0) hx hb dL_refused_100 (by decide) ?_
  refine kFHE0 (As := [.int 3, .int 0]) (rest := []) ⟨hx, hb, hml, hown, hts⟩ (c_X4_set k o a b h t F qA qz qS 3 0 _ _ _ _ _ (rl_set_3_0)) (cwV 2 hts gL_refused_X4_set rfl rfl rfl (by decide +kernel) ⟨Nat.le_of_ble_eq_true rfl, Nat.le_of_ble_eq_true rfl⟩) hX hP hD hS hA hE ok_xEset rfl hl.1 rfl (Nat.le_of_ble_eq_true rfl) dL_refused_101 ⟨Nat.le_of_ble_eq_true rfl, Nat.le_of_ble_eq_true rfl⟩ (fun H locs hP hD hS => ?_)
  refine lv_iconst (v := (-1)) hx hb dL_refused_104 (by decide) ?_
  refine lv_icmp_ne (tgt := 185) hx hb dL_refused_105 (by decide) (fun c => absurd c (by decide)) (fun _ => ?_)
  exact kk _ _ hP hD hS
set_option maxHeartbeats 4000000 in
set_option maxRecDepth 100000 in
theorem rfd_1 (S0 : CallFix p m c cL_refused 4 s args wsL_refused RL) (hX : xK D ks s) (hE : xEset A s s.heap) (hA : ∀ q, s.heap.size ≤ q → A q) (hk : 100 ≤ k) (hf : RF F (MD.st M) n tt uu) (hP : va_P D vwCl (wO ks o a b h t F G qA qz qS T) H) (hD : va_D A (wO ks o a b h t F G qA qz qS T)) (hS : va_S A s.heap H locs) (hl : lv_has ls 4 [(3, .int (FD.rows F)), (1, .long y), (0, .ref o)])
    (kk : ∀ (H : Heap) (locs : List Loc), va_P D vwCl (wO ks o a b h t F G qA qz qS T) H → va_D A (wO ks o a b h t F G qA qz qS T) → va_S A s.heap H locs → W p l e { frames := 8, cells := 0, slots := 0, locals := 172 } s m args below meth c H locs 0 0 Q (F0 m 187 ls [])) : W p l e { frames := 8, cells := 0, slots := 0, locals := 172 } s m args below meth c H locs 0 0 Q (F0 m 108 ls []) := by
  obtain ⟨hx, hb, hml, hown, hts⟩ := id S0
  refine lv_aload_n hx hb dL_refused_108 rfl (lv_at hl 2 rfl) ?_
  refine lv_iconst (v := 3) hx hb dL_refused_109 (by decide) ?_
  refine lv_sipush (v := 201) hx hb dL_refused_110 (by decide) ?_
  refine kFHE0 (As := [.int 3, .int 201]) (rest := []) ⟨hx, hb, hml, hown, hts⟩ (c_X4_set k o a b h t F qA qz qS 3 201 _ _ _ _ _ (rl_set_3_201)) (cwV 2 hts gL_refused_X4_set rfl rfl rfl (by decide +kernel) ⟨Nat.le_of_ble_eq_true rfl, Nat.le_of_ble_eq_true rfl⟩) hX hP hD hS hA hE ok_xEset rfl hl.1 rfl (Nat.le_of_ble_eq_true rfl) dL_refused_113 ⟨Nat.le_of_ble_eq_true rfl, Nat.le_of_ble_eq_true rfl⟩ (fun H locs hP hD hS => ?_)
  refine lv_iconst (v := (-1)) hx hb dL_refused_116 (by decide) ?_
  refine lv_icmp_ne (tgt := 185) hx hb dL_refused_117 (by decide) (fun c => absurd c (by decide)) (fun _ => ?_)
  refine lv_aload_n hx hb dL_refused_120 rfl (lv_at hl 2 rfl) ?_
  refine lv_iconst (v := 4) hx hb dL_refused_121 (by decide) ?_
  refine lv_bipush (v := 101) hx hb dL_refused_122 (by decide) ?_
  refine kFHE0 (As := [.int 4, .int 101]) (rest := []) ⟨hx, hb, hml, hown, hts⟩ (c_X4_set k o a b h t F qA qz qS 4 101 _ _ _ _ _ (rl_set_4_101)) (cwV 2 hts gL_refused_X4_set rfl rfl rfl (by decide +kernel) ⟨Nat.le_of_ble_eq_true rfl, Nat.le_of_ble_eq_true rfl⟩) hX hP hD hS hA hE ok_xEset rfl hl.1 rfl (Nat.le_of_ble_eq_true rfl) dL_refused_124 ⟨Nat.le_of_ble_eq_true rfl, Nat.le_of_ble_eq_true rfl⟩ (fun H locs hP hD hS => ?_)
  refine lv_iconst (v := (-1)) hx hb dL_refused_127 (by decide) ?_
  refine lv_icmp_ne (tgt := 185) hx hb dL_refused_128 (by decide) (fun c => absurd c (by decide)) (fun _ => ?_)
  refine lv_aload_n hx hb dL_refused_131 rfl (lv_at hl 2 rfl) ?_
  refine lv_iconst (v := 4) hx hb dL_refused_132 (by decide) ?_
  refine lv_iconst (v := (-1)) hx hb dL_refused_133 (by decide) ?_
  refine kFHE0 (As := [.int 4, .int (-1)]) (rest := []) ⟨hx, hb, hml, hown, hts⟩ (c_X4_set k o a b h t F qA qz qS 4 (-1) _ _ _ _ _ (rl_set_4_m1)) (cwV 2 hts gL_refused_X4_set rfl rfl rfl (by decide +kernel) ⟨Nat.le_of_ble_eq_true rfl, Nat.le_of_ble_eq_true rfl⟩) hX hP hD hS hA hE ok_xEset rfl hl.1 rfl (Nat.le_of_ble_eq_true rfl) dL_refused_134 ⟨Nat.le_of_ble_eq_true rfl, Nat.le_of_ble_eq_true rfl⟩ (fun H locs hP hD hS => ?_)
  refine lv_iconst (v := (-1)) hx hb dL_refused_137 (by decide) ?_
  refine lv_icmp_ne (tgt := 185) hx hb dL_refused_138 (by decide) (fun c => absurd c (by decide)) (fun _ => ?_)
  refine lv_aload_n hx hb dL_refused_141 rfl (lv_at hl 2 rfl) ?_
  refine lv_iconst (v := 5) hx hb dL_refused_142 (by decide) ?_
  refine lv_iconst (v := 0) hx hb dL_refused_143 (by decide) ?_
  refine kFHE0 (As := [.int 5, .int 0]) (rest := []) ⟨hx, hb, hml, hown, hts⟩ (c_X4_set k o a b h t F qA qz qS 5 0 _ _ _ _ _ (rl_set_5_0)) (cwV 2 hts gL_refused_X4_set rfl rfl rfl (by decide +kernel) ⟨Nat.le_of_ble_eq_true rfl, Nat.le_of_ble_eq_true rfl⟩) hX hP hD hS hA hE ok_xEset rfl hl.1 rfl (Nat.le_of_ble_eq_true rfl) dL_refused_144 ⟨Nat.le_of_ble_eq_true rfl, Nat.le_of_ble_eq_true rfl⟩ (fun H locs hP hD hS => ?_)
  refine lv_iconst (v := (-1)) hx hb dL_refused_147 (by decide) ?_
  refine lv_icmp_ne (tgt := 185) hx hb dL_refused_148 (by decide) (fun c => absurd c (by decide)) (fun _ => ?_)
  refine lv_aload_n hx hb dL_refused_151 rfl (lv_at hl 2 rfl) ?_
  refine lv_iconst (v := 5) hx hb dL_refused_152 (by decide) ?_
  refine lv_bipush (v := 25) hx hb dL_refused_153 (by decide) ?_
  refine kFHE0 (As := [.int 5, .int 25]) (rest := []) ⟨hx, hb, hml, hown, hts⟩ (c_X4_set k o a b h t F qA qz qS 5 25 _ _ _ _ _ (rl_set_5_25)) (cwV 2 hts gL_refused_X4_set rfl rfl rfl (by decide +kernel) ⟨Nat.le_of_ble_eq_true rfl, Nat.le_of_ble_eq_true rfl⟩) hX hP hD hS hA hE ok_xEset rfl hl.1 rfl (Nat.le_of_ble_eq_true rfl) dL_refused_155 ⟨Nat.le_of_ble_eq_true rfl, Nat.le_of_ble_eq_true rfl⟩ (fun H locs hP hD hS => ?_)
  refine lv_iconst (v := (-1)) hx hb dL_refused_158 (by decide) ?_
  refine lv_icmp_ne (tgt := 185) hx hb dL_refused_159 (by decide) (fun c => absurd c (by decide)) (fun _ => ?_)
  refine lv_aload_n hx hb dL_refused_162 rfl (lv_at hl 2 rfl) ?_
  refine lv_bipush (v := 6) hx hb dL_refused_163 (by decide) ?_
  refine lv_iconst (v := 0) hx hb dL_refused_165 (by decide) ?_
  refine kFHE0 (As := [.int 6, .int 0]) (rest := []) ⟨hx, hb, hml, hown, hts⟩ (c_X4_set k o a b h t F qA qz qS 6 0 _ _ _ _ _ (rl_set_6_0)) (cwV 2 hts gL_refused_X4_set rfl rfl rfl (by decide +kernel) ⟨Nat.le_of_ble_eq_true rfl, Nat.le_of_ble_eq_true rfl⟩) hX hP hD hS hA hE ok_xEset rfl hl.1 rfl (Nat.le_of_ble_eq_true rfl) dL_refused_166 ⟨Nat.le_of_ble_eq_true rfl, Nat.le_of_ble_eq_true rfl⟩ (fun H locs hP hD hS => ?_)
  refine lv_iconst (v := (-1)) hx hb dL_refused_169 (by decide) ?_
  refine lv_icmp_ne (tgt := 185) hx hb dL_refused_170 (by decide) (fun c => absurd c (by decide)) (fun _ => ?_)
  refine lv_aload_n hx hb dL_refused_173 rfl (lv_at hl 2 rfl) ?_
  refine lv_bipush (v := 6) hx hb dL_refused_174 (by decide) ?_
  refine lv_ldc (v := 100001) hx hb hown (hts (.constant RL 36 (100001)) (by decide +kernel)) dL_refused_176 ?_
  refine kFHE0 (As := [.int 6, .int 100001]) (rest := []) ⟨hx, hb, hml, hown, hts⟩ (c_X4_set k o a b h t F qA qz qS 6 100001 _ _ _ _ _ (rl_set_6_100001)) (cwV 2 hts gL_refused_X4_set rfl rfl rfl (by decide +kernel) ⟨Nat.le_of_ble_eq_true rfl, Nat.le_of_ble_eq_true rfl⟩) hX hP hD hS hA hE ok_xEset rfl hl.1 rfl (Nat.le_of_ble_eq_true rfl) dL_refused_178 ⟨Nat.le_of_ble_eq_true rfl, Nat.le_of_ble_eq_true rfl⟩ (fun H locs hP hD hS => ?_)
  refine lv_iconst (v := (-1)) hx hb dL_refused_181 (by decide) ?_
  refine lv_icmp_eq (tgt := 187) hx hb dL_refused_182 (by decide) (fun _ => ?_) (fun c => absurd c (by decide))
  exact kk _ _ hP hD hS
set_option maxHeartbeats 4000000 in
set_option maxRecDepth 100000 in
theorem rfd_2 (S0 : CallFix p m c cL_refused 4 s args wsL_refused RL) (hX : xK D ks s) (hE : xEset A s s.heap) (hA : ∀ q, s.heap.size ≤ q → A q) (hk : 100 ≤ k) (hf : RF F (MD.st M) n tt uu) (hP : va_P D vwCl (wO ks o a b h t F G qA qz qS T) H) (hD : va_D A (wO ks o a b h t F G qA qz qS T)) (hS : va_S A s.heap H locs) (hl : lv_has ls 4 [(3, .int (FD.rows F)), (1, .long y), (0, .ref o)])
    (kk : ∀ (H : Heap) (locs : List Loc), va_P D vwCl (wO ks o a b h t F G qA qz qS T) H → va_D A (wO ks o a b h t F G qA qz qS T) → va_S A s.heap H locs → W p l e { frames := 8, cells := 0, slots := 0, locals := 172 } s m args below meth c H locs 0 0 Q (F0 m 273 ls [])) : W p l e { frames := 8, cells := 0, slots := 0, locals := 172 } s m args below meth c H locs 0 0 Q (F0 m 187 ls []) := by
  obtain ⟨hx, hb, hml, hown, hts⟩ := id S0
  refine lv_aload_n hx hb dL_refused_187 rfl (lv_at hl 2 rfl) ?_
  refine lv_iconst (v := 0) hx hb dL_refused_188 (by decide) ?_
  refine lv_iconst (v := 0) hx hb dL_refused_189 (by decide) ?_
  refine lv_iconst (v := 0) hx hb dL_refused_190 (by decide) ?_
  refine kFH0 (As := [.int 0, .int 0, .int 0]) (rest := []) ⟨hx, hb, hml, hown, hts⟩ (c_X4_dip k o a b h t F qA qz qS 0 0 0 _ _ _ _ _ (rl_dip_0_0_0)) (cwV 3 hts gL_refused_X4_dip rfl rfl rfl (by decide +kernel) ⟨Nat.le_of_ble_eq_true rfl, Nat.le_of_ble_eq_true rfl⟩) hX hP hD hS hA rfl hl.1 rfl (Nat.le_of_ble_eq_true rfl) dL_refused_191 ⟨Nat.le_of_ble_eq_true rfl, Nat.le_of_ble_eq_true rfl⟩ (fun H locs hP hD hS => ?_)
  refine lv_iconst (v := (-1)) hx hb dL_refused_194 (by decide) ?_
  refine lv_icmp_ne (tgt := 327) hx hb dL_refused_195 (by decide) (fun c => absurd c (by decide)) (fun _ => ?_)
  refine lv_aload_n hx hb dL_refused_198 rfl (lv_at hl 2 rfl) ?_
  refine lv_bipush (v := 25) hx hb dL_refused_199 (by decide) ?_
  refine lv_iconst (v := 0) hx hb dL_refused_201 (by decide) ?_
  refine lv_iconst (v := 0) hx hb dL_refused_202 (by decide) ?_
  refine kFH0 (As := [.int 25, .int 0, .int 0]) (rest := []) ⟨hx, hb, hml, hown, hts⟩ (c_X4_dip k o a b h t F qA qz qS 25 0 0 _ _ _ _ _ (rl_dip_25_0_0)) (cwV 3 hts gL_refused_X4_dip rfl rfl rfl (by decide +kernel) ⟨Nat.le_of_ble_eq_true rfl, Nat.le_of_ble_eq_true rfl⟩) hX hP hD hS hA rfl hl.1 rfl (Nat.le_of_ble_eq_true rfl) dL_refused_203 ⟨Nat.le_of_ble_eq_true rfl, Nat.le_of_ble_eq_true rfl⟩ (fun H locs hP hD hS => ?_)
  refine lv_iconst (v := (-1)) hx hb dL_refused_206 (by decide) ?_
  refine lv_icmp_ne (tgt := 327) hx hb dL_refused_207 (by decide) (fun c => absurd c (by decide)) (fun _ => ?_)
  refine lv_aload_n hx hb dL_refused_210 rfl (lv_at hl 2 rfl) ?_
  refine lv_iconst (v := 1) hx hb dL_refused_211 (by decide) ?_
  refine lv_sipush (v := 5001) hx hb dL_refused_212 (by decide) ?_
  refine lv_iconst (v := 0) hx hb dL_refused_215 (by decide) ?_
  refine kFH0 (As := [.int 1, .int 5001, .int 0]) (rest := []) ⟨hx, hb, hml, hown, hts⟩ (c_X4_dip k o a b h t F qA qz qS 1 5001 0 _ _ _ _ _ (rl_dip_1_5001_0)) (cwV 3 hts gL_refused_X4_dip rfl rfl rfl (by decide +kernel) ⟨Nat.le_of_ble_eq_true rfl, Nat.le_of_ble_eq_true rfl⟩) hX hP hD hS hA rfl hl.1 rfl (Nat.le_of_ble_eq_true rfl) dL_refused_216 ⟨Nat.le_of_ble_eq_true rfl, Nat.le_of_ble_eq_true rfl⟩ (fun H locs hP hD hS => ?_)
  refine lv_iconst (v := (-1)) hx hb dL_refused_219 (by decide) ?_
  refine lv_icmp_ne (tgt := 327) hx hb dL_refused_220 (by decide) (fun c => absurd c (by decide)) (fun _ => ?_)
  refine lv_aload_n hx hb dL_refused_223 rfl (lv_at hl 2 rfl) ?_
  refine lv_iconst (v := 1) hx hb dL_refused_224 (by decide) ?_
  refine lv_iconst (v := (-1)) hx hb dL_refused_225 (by decide) ?_
  refine lv_iconst (v := 0) hx hb dL_refused_226 (by decide) ?_
  refine kFH0 (As := [.int 1, .int (-1), .int 0]) (rest := []) ⟨hx, hb, hml, hown, hts⟩ (c_X4_dip k o a b h t F qA qz qS 1 (-1) 0 _ _ _ _ _ (rl_dip_1_m1_0)) (cwV 3 hts gL_refused_X4_dip rfl rfl rfl (by decide +kernel) ⟨Nat.le_of_ble_eq_true rfl, Nat.le_of_ble_eq_true rfl⟩) hX hP hD hS hA rfl hl.1 rfl (Nat.le_of_ble_eq_true rfl) dL_refused_227 ⟨Nat.le_of_ble_eq_true rfl, Nat.le_of_ble_eq_true rfl⟩ (fun H locs hP hD hS => ?_)
  refine lv_iconst (v := (-1)) hx hb dL_refused_230 (by decide) ?_
  refine lv_icmp_ne (tgt := 327) hx hb dL_refused_231 (by decide) (fun c => absurd c (by decide)) (fun _ => ?_)
  refine lv_aload_n hx hb dL_refused_234 rfl (lv_at hl 2 rfl) ?_
  refine lv_iconst (v := 1) hx hb dL_refused_235 (by decide) ?_
  refine lv_iconst (v := 0) hx hb dL_refused_236 (by decide) ?_
  refine lv_sipush (v := 501) hx hb dL_refused_237 (by decide) ?_
  refine kFH0 (As := [.int 1, .int 0, .int 501]) (rest := []) ⟨hx, hb, hml, hown, hts⟩ (c_X4_dip k o a b h t F qA qz qS 1 0 501 _ _ _ _ _ (rl_dip_1_0_501)) (cwV 3 hts gL_refused_X4_dip rfl rfl rfl (by decide +kernel) ⟨Nat.le_of_ble_eq_true rfl, Nat.le_of_ble_eq_true rfl⟩) hX hP hD hS hA rfl hl.1 rfl (Nat.le_of_ble_eq_true rfl) dL_refused_240 ⟨Nat.le_of_ble_eq_true rfl, Nat.le_of_ble_eq_true rfl⟩ (fun H locs hP hD hS => ?_)
  refine lv_iconst (v := (-1)) hx hb dL_refused_243 (by decide) ?_
  refine lv_icmp_ne (tgt := 327) hx hb dL_refused_244 (by decide) (fun c => absurd c (by decide)) (fun _ => ?_)
  refine lv_aload_n hx hb dL_refused_247 rfl (lv_at hl 2 rfl) ?_
  refine lv_iconst (v := 1) hx hb dL_refused_248 (by decide) ?_
  refine lv_iconst (v := 0) hx hb dL_refused_249 (by decide) ?_
  refine lv_iconst (v := (-1)) hx hb dL_refused_250 (by decide) ?_
  refine kFH0 (As := [.int 1, .int 0, .int (-1)]) (rest := []) ⟨hx, hb, hml, hown, hts⟩ (c_X4_dip k o a b h t F qA qz qS 1 0 (-1) _ _ _ _ _ (rl_dip_1_0_m1)) (cwV 3 hts gL_refused_X4_dip rfl rfl rfl (by decide +kernel) ⟨Nat.le_of_ble_eq_true rfl, Nat.le_of_ble_eq_true rfl⟩) hX hP hD hS hA rfl hl.1 rfl (Nat.le_of_ble_eq_true rfl) dL_refused_251 ⟨Nat.le_of_ble_eq_true rfl, Nat.le_of_ble_eq_true rfl⟩ (fun H locs hP hD hS => ?_)
  refine lv_iconst (v := (-1)) hx hb dL_refused_254 (by decide) ?_
  refine lv_icmp_ne (tgt := 327) hx hb dL_refused_255 (by decide) (fun c => absurd c (by decide)) (fun _ => ?_)
  refine lv_aload_n hx hb dL_refused_258 rfl (lv_at hl 2 rfl) ?_
  refine lv_iconst (v := 2) hx hb dL_refused_259 (by decide) ?_
  refine lv_sipush (v := 4600) hx hb dL_refused_260 (by decide) ?_
  refine lv_sipush (v := 401) hx hb dL_refused_263 (by decide) ?_
  refine kFH0 (As := [.int 2, .int 4600, .int 401]) (rest := []) ⟨hx, hb, hml, hown, hts⟩ (c_X4_dip k o a b h t F qA qz qS 2 4600 401 _ _ _ _ _ (rl_dip_2_4600_401)) (cwV 3 hts gL_refused_X4_dip rfl rfl rfl (by decide +kernel) ⟨Nat.le_of_ble_eq_true rfl, Nat.le_of_ble_eq_true rfl⟩) hX hP hD hS hA rfl hl.1 rfl (Nat.le_of_ble_eq_true rfl) dL_refused_266 ⟨Nat.le_of_ble_eq_true rfl, Nat.le_of_ble_eq_true rfl⟩ (fun H locs hP hD hS => ?_)
  refine lv_iconst (v := (-1)) hx hb dL_refused_269 (by decide) ?_
  refine lv_icmp_ne (tgt := 327) hx hb dL_refused_270 (by decide) (fun c => absurd c (by decide)) (fun _ => ?_)
  exact kk _ _ hP hD hS
set_option maxHeartbeats 4000000 in
set_option maxRecDepth 100000 in
theorem rfd_3 (S0 : CallFix p m c cL_refused 4 s args wsL_refused RL) (hX : xK D ks s) (hE : xEset A s s.heap) (hA : ∀ q, s.heap.size ≤ q → A q) (hk : 100 ≤ k) (hf : RF F (MD.st M) n tt uu) (hP : va_P D vwCl (wO ks o a b h t F G qA qz qS T) H) (hD : va_D A (wO ks o a b h t F G qA qz qS T)) (hS : va_S A s.heap H locs) (hl : lv_has ls 4 [(3, .int (FD.rows F)), (1, .long y), (0, .ref o)])
    (kk : ∀ (H : Heap) (locs : List Loc), va_P D vwCl (wO ks o a b h t F G qA qz qS T) H → va_D A (wO ks o a b h t F G qA qz qS T) → va_S A s.heap H locs → W p l e { frames := 8, cells := 0, slots := 0, locals := 172 } s m args below meth c H locs 0 0 Q (F0 m 349 ls [])) : W p l e { frames := 8, cells := 0, slots := 0, locals := 172 } s m args below meth c H locs 0 0 Q (F0 m 273 ls []) := by
  obtain ⟨hx, hb, hml, hown, hts⟩ := id S0
  refine lv_aload_n hx hb dL_refused_273 rfl (lv_at hl 2 rfl) ?_
  refine lv_bipush (v := 24) hx hb dL_refused_274 (by decide) ?_
  refine lv_iconst (v := 0) hx hb dL_refused_276 (by decide) ?_
  refine lv_sipush (v := 218) hx hb dL_refused_277 (by decide) ?_
  refine kFH0 (As := [.int 24, .int 0, .int 218]) (rest := []) ⟨hx, hb, hml, hown, hts⟩ (c_X4_dip k o a b h t F qA qz qS 24 0 218 _ _ _ _ _ (rl_dip_24_0_218)) (cwV 3 hts gL_refused_X4_dip rfl rfl rfl (by decide +kernel) ⟨Nat.le_of_ble_eq_true rfl, Nat.le_of_ble_eq_true rfl⟩) hX hP hD hS hA rfl hl.1 rfl (Nat.le_of_ble_eq_true rfl) dL_refused_280 ⟨Nat.le_of_ble_eq_true rfl, Nat.le_of_ble_eq_true rfl⟩ (fun H locs hP hD hS => ?_)
  refine lv_iconst (v := (-1)) hx hb dL_refused_283 (by decide) ?_
  refine lv_icmp_ne (tgt := 327) hx hb dL_refused_284 (by decide) (fun c => absurd c (by decide)) (fun _ => ?_)
  refine lv_aload_n hx hb dL_refused_287 rfl (lv_at hl 2 rfl) ?_
  refine lv_iconst (v := (-1)) hx hb dL_refused_288 (by decide) ?_
  refine kFH0 (As := [.int (-1)]) (rest := []) ⟨hx, hb, hml, hown, hts⟩ (c_X4_add k o a b h t F qA qz qS (-1) _ _ _ _ _ (rl_add_m1)) (cwV 1 hts gL_refused_X4_add rfl rfl rfl (by decide +kernel) ⟨Nat.le_of_ble_eq_true rfl, Nat.le_of_ble_eq_true rfl⟩) hX hP hD hS hA rfl hl.1 rfl (Nat.le_of_ble_eq_true rfl) dL_refused_289 ⟨Nat.le_of_ble_eq_true rfl, Nat.le_of_ble_eq_true rfl⟩ (fun H locs hP hD hS => ?_)
  refine lv_iconst (v := (-1)) hx hb dL_refused_292 (by decide) ?_
  refine lv_icmp_ne (tgt := 327) hx hb dL_refused_293 (by decide) (fun c => absurd c (by decide)) (fun _ => ?_)
  refine lv_aload_n hx hb dL_refused_296 rfl (lv_at hl 2 rfl) ?_
  refine lv_sipush (v := 5001) hx hb dL_refused_297 (by decide) ?_
  refine kFH0 (As := [.int 5001]) (rest := []) ⟨hx, hb, hml, hown, hts⟩ (c_X4_add k o a b h t F qA qz qS 5001 _ _ _ _ _ (rl_add_5001)) (cwV 1 hts gL_refused_X4_add rfl rfl rfl (by decide +kernel) ⟨Nat.le_of_ble_eq_true rfl, Nat.le_of_ble_eq_true rfl⟩) hX hP hD hS hA rfl hl.1 rfl (Nat.le_of_ble_eq_true rfl) dL_refused_300 ⟨Nat.le_of_ble_eq_true rfl, Nat.le_of_ble_eq_true rfl⟩ (fun H locs hP hD hS => ?_)
  refine lv_iconst (v := (-1)) hx hb dL_refused_303 (by decide) ?_
  refine lv_icmp_ne (tgt := 327) hx hb dL_refused_304 (by decide) (fun c => absurd c (by decide)) (fun _ => ?_)
  refine lv_aload_n hx hb dL_refused_307 rfl (lv_at hl 2 rfl) ?_
  refine lv_iconst (v := 0) hx hb dL_refused_308 (by decide) ?_
  refine kFH0 (As := [.int 0]) (rest := []) ⟨hx, hb, hml, hown, hts⟩ (c_X4_go k o a b h t F qA qz qS 0 _ _ _ _ _ (rl_go_0)) (cwV 1 hts gL_refused_X4_go rfl rfl rfl (by decide +kernel) ⟨Nat.le_of_ble_eq_true rfl, Nat.le_of_ble_eq_true rfl⟩) hX hP hD hS hA rfl hl.1 rfl (Nat.le_of_ble_eq_true rfl) dL_refused_309 ⟨Nat.le_of_ble_eq_true rfl, Nat.le_of_ble_eq_true rfl⟩ (fun H locs hP hD hS => ?_)
  refine lv_iconst (v := (-1)) hx hb dL_refused_312 (by decide) ?_
  refine lv_icmp_ne (tgt := 327) hx hb dL_refused_313 (by decide) (fun c => absurd c (by decide)) (fun _ => ?_)
  refine lv_aload_n hx hb dL_refused_316 rfl (lv_at hl 2 rfl) ?_
  refine lv_sipush (v := 1001) hx hb dL_refused_317 (by decide) ?_
  refine kFH0 (As := [.int 1001]) (rest := []) ⟨hx, hb, hml, hown, hts⟩ (c_X4_go k o a b h t F qA qz qS 1001 _ _ _ _ _ (rl_go_1001)) (cwV 1 hts gL_refused_X4_go rfl rfl rfl (by decide +kernel) ⟨Nat.le_of_ble_eq_true rfl, Nat.le_of_ble_eq_true rfl⟩) hX hP hD hS hA rfl hl.1 rfl (Nat.le_of_ble_eq_true rfl) dL_refused_320 ⟨Nat.le_of_ble_eq_true rfl, Nat.le_of_ble_eq_true rfl⟩ (fun H locs hP hD hS => ?_)
  refine lv_iconst (v := (-1)) hx hb dL_refused_323 (by decide) ?_
  refine lv_icmp_eq (tgt := 329) hx hb dL_refused_324 (by decide) (fun _ => ?_) (fun c => absurd c (by decide))
  refine lv_aload_n hx hb dL_refused_329 rfl (lv_at hl 2 rfl) ?_
  refine lv_iload_n hx hb dL_refused_330 rfl (lv_at hl 0 rfl) ?_
  refine lv_iconst (v := 1) hx hb dL_refused_331 (by decide) ?_
  refine kFH0 (As := [.int (FD.rows F), .int 1]) (rest := []) ⟨hx, hb, hml, hown, hts⟩ (c_X4_pour k o a b h t F qA qz qS (FD.rows F) 1 _ _ _ _ _ (rf_pour hf)) (cwV 2 hts gL_refused_X4_pour rfl rfl rfl (by decide +kernel) ⟨Nat.le_of_ble_eq_true rfl, Nat.le_of_ble_eq_true rfl⟩) hX hP hD hS hA rfl hl.1 rfl (Nat.le_of_ble_eq_true rfl) dL_refused_332 ⟨Nat.le_of_ble_eq_true rfl, Nat.le_of_ble_eq_true rfl⟩ (fun H locs hP hD hS => ?_)
  refine lv_iconst (v := (-1)) hx hb dL_refused_335 (by decide) ?_
  refine lv_icmp_ne (tgt := 541) hx hb dL_refused_336 (by decide) (fun c => absurd c (by decide)) (fun _ => ?_)
  refine lv_aload_n hx hb dL_refused_339 rfl (lv_at hl 2 rfl) ?_
  refine lv_iconst (v := (-1)) hx hb dL_refused_340 (by decide) ?_
  refine lv_iconst (v := 1) hx hb dL_refused_341 (by decide) ?_
  refine kFH0 (As := [.int (-1), .int 1]) (rest := []) ⟨hx, hb, hml, hown, hts⟩ (c_X4_pour k o a b h t F qA qz qS (-1) 1 _ _ _ _ _ (rl_pour_m1_1)) (cwV 2 hts gL_refused_X4_pour rfl rfl rfl (by decide +kernel) ⟨Nat.le_of_ble_eq_true rfl, Nat.le_of_ble_eq_true rfl⟩) hX hP hD hS hA rfl hl.1 rfl (Nat.le_of_ble_eq_true rfl) dL_refused_342 ⟨Nat.le_of_ble_eq_true rfl, Nat.le_of_ble_eq_true rfl⟩ (fun H locs hP hD hS => ?_)
  refine lv_iconst (v := (-1)) hx hb dL_refused_345 (by decide) ?_
  refine lv_icmp_ne (tgt := 541) hx hb dL_refused_346 (by decide) (fun c => absurd c (by decide)) (fun _ => ?_)
  exact kk _ _ hP hD hS
set_option maxHeartbeats 4000000 in
set_option maxRecDepth 100000 in
theorem rfd_4 (S0 : CallFix p m c cL_refused 4 s args wsL_refused RL) (hX : xK D ks s) (hE : xEset A s s.heap) (hA : ∀ q, s.heap.size ≤ q → A q) (hk : 100 ≤ k) (hf : RF F (MD.st M) n tt uu) (hP : va_P D vwCl (wO ks o a b h t F G qA qz qS T) H) (hD : va_D A (wO ks o a b h t F G qA qz qS T)) (hS : va_S A s.heap H locs) (hl : lv_has ls 4 [(3, .int (FD.rows F)), (1, .long y), (0, .ref o)])
    (kk : ∀ (H : Heap) (locs : List Loc), va_P D vwCl (wO ks o a b h t F G qA qz qS T) H → va_D A (wO ks o a b h t F G qA qz qS T) → va_S A s.heap H locs → W p l e { frames := 8, cells := 0, slots := 0, locals := 172 } s m args below meth c H locs 0 0 Q (F0 m 418 ls [])) : W p l e { frames := 8, cells := 0, slots := 0, locals := 172 } s m args below meth c H locs 0 0 Q (F0 m 349 ls []) := by
  obtain ⟨hx, hb, hml, hown, hts⟩ := id S0
  refine lv_aload_n hx hb dL_refused_349 rfl (lv_at hl 2 rfl) ?_
  refine lv_iload_n hx hb dL_refused_350 rfl (lv_at hl 0 rfl) ?_
  refine lv_iconst (v := 1) hx hb dL_refused_351 (by decide) ?_
  refine kFH0 (As := [.int (FD.rows F), .int 1]) (rest := []) ⟨hx, hb, hml, hown, hts⟩ (c_X4_thin k o a b h t F qA qz qS (FD.rows F) 1 _ _ _ _ _ (rf_thin hf)) (cwV 2 hts gL_refused_X4_thin rfl rfl rfl (by decide +kernel) ⟨Nat.le_of_ble_eq_true rfl, Nat.le_of_ble_eq_true rfl⟩) hX hP hD hS hA rfl hl.1 rfl (Nat.le_of_ble_eq_true rfl) dL_refused_352 ⟨Nat.le_of_ble_eq_true rfl, Nat.le_of_ble_eq_true rfl⟩ (fun H locs hP hD hS => ?_)
  refine lv_iconst (v := (-1)) hx hb dL_refused_355 (by decide) ?_
  refine lv_icmp_ne (tgt := 541) hx hb dL_refused_356 (by decide) (fun c => absurd c (by decide)) (fun _ => ?_)
  refine lv_aload_n hx hb dL_refused_359 rfl (lv_at hl 2 rfl) ?_
  refine lv_iconst (v := (-1)) hx hb dL_refused_360 (by decide) ?_
  refine lv_iconst (v := 1) hx hb dL_refused_361 (by decide) ?_
  refine kFH0 (As := [.int (-1), .int 1]) (rest := []) ⟨hx, hb, hml, hown, hts⟩ (c_X4_thin k o a b h t F qA qz qS (-1) 1 _ _ _ _ _ (rl_thin_m1_1)) (cwV 2 hts gL_refused_X4_thin rfl rfl rfl (by decide +kernel) ⟨Nat.le_of_ble_eq_true rfl, Nat.le_of_ble_eq_true rfl⟩) hX hP hD hS hA rfl hl.1 rfl (Nat.le_of_ble_eq_true rfl) dL_refused_362 ⟨Nat.le_of_ble_eq_true rfl, Nat.le_of_ble_eq_true rfl⟩ (fun H locs hP hD hS => ?_)
  refine lv_iconst (v := (-1)) hx hb dL_refused_365 (by decide) ?_
  refine lv_icmp_ne (tgt := 541) hx hb dL_refused_366 (by decide) (fun c => absurd c (by decide)) (fun _ => ?_)
  refine lv_aload_n hx hb dL_refused_369 rfl (lv_at hl 2 rfl) ?_
  refine lv_iload_n hx hb dL_refused_370 rfl (lv_at hl 0 rfl) ?_
  refine lv_iconst (v := 0) hx hb dL_refused_371 (by decide) ?_
  refine kSF0 (As := [.int (FD.rows F), .int 0]) (rest := []) ⟨hx, hb, hml, hown, hts⟩ (c_X4_row k o a b h t F (FD.rows F) 0 _ (rf_row hf)) (cwV 2 hts gL_refused_X4_row rfl rfl rfl (by decide +kernel) ⟨Nat.le_of_ble_eq_true rfl, Nat.le_of_ble_eq_true rfl⟩) hX hP rfl hl.1 rfl (Nat.le_of_ble_eq_true rfl) dL_refused_372 ⟨Nat.le_of_ble_eq_true rfl, Nat.le_of_ble_eq_true rfl⟩ ?_
  refine lv_iconst (v := (-1)) hx hb dL_refused_375 (by decide) ?_
  refine lv_icmp_ne (tgt := 541) hx hb dL_refused_376 (by decide) (fun c => absurd c (by decide)) (fun _ => ?_)
  refine lv_aload_n hx hb dL_refused_379 rfl (lv_at hl 2 rfl) ?_
  refine lv_iconst (v := (-1)) hx hb dL_refused_380 (by decide) ?_
  refine lv_iconst (v := 0) hx hb dL_refused_381 (by decide) ?_
  refine kSF0 (As := [.int (-1), .int 0]) (rest := []) ⟨hx, hb, hml, hown, hts⟩ (c_X4_row k o a b h t F (-1) 0 _ (rl_row_m1_0)) (cwV 2 hts gL_refused_X4_row rfl rfl rfl (by decide +kernel) ⟨Nat.le_of_ble_eq_true rfl, Nat.le_of_ble_eq_true rfl⟩) hX hP rfl hl.1 rfl (Nat.le_of_ble_eq_true rfl) dL_refused_382 ⟨Nat.le_of_ble_eq_true rfl, Nat.le_of_ble_eq_true rfl⟩ ?_
  refine lv_iconst (v := (-1)) hx hb dL_refused_385 (by decide) ?_
  refine lv_icmp_ne (tgt := 541) hx hb dL_refused_386 (by decide) (fun c => absurd c (by decide)) (fun _ => ?_)
  refine lv_aload_n hx hb dL_refused_389 rfl (lv_at hl 2 rfl) ?_
  refine lv_iload_n hx hb dL_refused_390 rfl (lv_at hl 0 rfl) ?_
  refine lv_iconst (v := 1) hx hb dL_refused_391 (by decide) ?_
  refine kG0 (As := [.int (FD.rows F), .int 1]) (rest := []) ⟨hx, hb, hml, hown, hts⟩ (c_X4_ifGo k o a b h t F G (FD.rows F) 1 _ _ (rf_ifGo hf)) (cwV 2 hts gL_refused_X4_ifGo rfl rfl rfl (by decide +kernel) ⟨Nat.le_of_ble_eq_true rfl, Nat.le_of_ble_eq_true rfl⟩) hX hP hD hS hA rfl hl.1 rfl (Nat.le_of_ble_eq_true rfl) dL_refused_392 ⟨Nat.le_of_ble_eq_true rfl, Nat.le_of_ble_eq_true rfl⟩ (fun H locs hP hD hS => ?_)
  refine lv_iconst (v := (-1)) hx hb dL_refused_395 (by decide) ?_
  refine lv_icmp_ne (tgt := 541) hx hb dL_refused_396 (by decide) (fun c => absurd c (by decide)) (fun _ => ?_)
  refine lv_aload_n hx hb dL_refused_399 rfl (lv_at hl 2 rfl) ?_
  refine lv_iconst (v := (-1)) hx hb dL_refused_400 (by decide) ?_
  refine lv_iconst (v := 1) hx hb dL_refused_401 (by decide) ?_
  refine kG0 (As := [.int (-1), .int 1]) (rest := []) ⟨hx, hb, hml, hown, hts⟩ (c_X4_ifGo k o a b h t F G (-1) 1 _ _ (rl_ifGo_m1_1)) (cwV 2 hts gL_refused_X4_ifGo rfl rfl rfl (by decide +kernel) ⟨Nat.le_of_ble_eq_true rfl, Nat.le_of_ble_eq_true rfl⟩) hX hP hD hS hA rfl hl.1 rfl (Nat.le_of_ble_eq_true rfl) dL_refused_402 ⟨Nat.le_of_ble_eq_true rfl, Nat.le_of_ble_eq_true rfl⟩ (fun H locs hP hD hS => ?_)
  refine lv_iconst (v := (-1)) hx hb dL_refused_405 (by decide) ?_
  refine lv_icmp_ne (tgt := 541) hx hb dL_refused_406 (by decide) (fun c => absurd c (by decide)) (fun _ => ?_)
  refine lv_aload_n hx hb dL_refused_409 rfl (lv_at hl 2 rfl) ?_
  refine lv_iconst (v := (-1)) hx hb dL_refused_410 (by decide) ?_
  refine kC0 (As := [.int (-1)]) (rest := []) ⟨hx, hb, hml, hown, hts⟩ (c_X4_count k o a b h t F qA qz qS T (-1) _ (rl_count_m1)) (cwV 1 hts gL_refused_X4_count rfl rfl rfl (by decide +kernel) ⟨Nat.le_of_ble_eq_true rfl, Nat.le_of_ble_eq_true rfl⟩) hX hP rfl hl.1 rfl (Nat.le_of_ble_eq_true rfl) dL_refused_411 ⟨Nat.le_of_ble_eq_true rfl, Nat.le_of_ble_eq_true rfl⟩ ?_
  refine lv_iconst (v := (-1)) hx hb dL_refused_414 (by decide) ?_
  refine lv_icmp_ne (tgt := 541) hx hb dL_refused_415 (by decide) (fun c => absurd c (by decide)) (fun _ => ?_)
  exact kk _ _ hP hD hS
set_option maxHeartbeats 4000000 in
set_option maxRecDepth 100000 in
theorem rfd_5 (S0 : CallFix p m c cL_refused 4 s args wsL_refused RL) (hX : xK D ks s) (hE : xEset A s s.heap) (hA : ∀ q, s.heap.size ≤ q → A q) (hk : 100 ≤ k) (hf : RF F (MD.st M) n tt uu) (hP : va_P D vwCl (wO ks o a b h t F G qA qz qS T) H) (hD : va_D A (wO ks o a b h t F G qA qz qS T)) (hS : va_S A s.heap H locs) (hl : lv_has ls 4 [(3, .int (FD.rows F)), (1, .long y), (0, .ref o)])
    (kk : ∀ (H : Heap) (locs : List Loc), va_P D vwCl (wO ks o a b h t F G qA qz qS T) H → va_D A (wO ks o a b h t F G qA qz qS T) → va_S A s.heap H locs → W p l e { frames := 8, cells := 0, slots := 0, locals := 172 } s m args below meth c H locs 0 0 Q (F0 m 489 ls [])) : W p l e { frames := 8, cells := 0, slots := 0, locals := 172 } s m args below meth c H locs 0 0 Q (F0 m 418 ls []) := by
  obtain ⟨hx, hb, hml, hown, hts⟩ := id S0
  refine lv_aload_n hx hb dL_refused_418 rfl (lv_at hl 2 rfl) ?_
  refine lv_bipush (v := 13) hx hb dL_refused_419 (by decide) ?_
  refine kC0 (As := [.int 13]) (rest := []) ⟨hx, hb, hml, hown, hts⟩ (c_X4_count k o a b h t F qA qz qS T 13 _ (rl_count_13)) (cwV 1 hts gL_refused_X4_count rfl rfl rfl (by decide +kernel) ⟨Nat.le_of_ble_eq_true rfl, Nat.le_of_ble_eq_true rfl⟩) hX hP rfl hl.1 rfl (Nat.le_of_ble_eq_true rfl) dL_refused_421 ⟨Nat.le_of_ble_eq_true rfl, Nat.le_of_ble_eq_true rfl⟩ ?_
  refine lv_iconst (v := (-1)) hx hb dL_refused_424 (by decide) ?_
  refine lv_icmp_ne (tgt := 541) hx hb dL_refused_425 (by decide) (fun c => absurd c (by decide)) (fun _ => ?_)
  refine lv_aload_n hx hb dL_refused_428 rfl (lv_at hl 2 rfl) ?_
  refine lv_bipush (v := 19) hx hb dL_refused_429 (by decide) ?_
  refine kC0 (As := [.int 19]) (rest := []) ⟨hx, hb, hml, hown, hts⟩ (c_X4_count k o a b h t F qA qz qS T 19 _ (rl_count_19)) (cwV 1 hts gL_refused_X4_count rfl rfl rfl (by decide +kernel) ⟨Nat.le_of_ble_eq_true rfl, Nat.le_of_ble_eq_true rfl⟩) hX hP rfl hl.1 rfl (Nat.le_of_ble_eq_true rfl) dL_refused_431 ⟨Nat.le_of_ble_eq_true rfl, Nat.le_of_ble_eq_true rfl⟩ ?_
  refine lv_iconst (v := (-1)) hx hb dL_refused_434 (by decide) ?_
  refine lv_icmp_ne (tgt := 541) hx hb dL_refused_435 (by decide) (fun c => absurd c (by decide)) (fun _ => ?_)
  refine lv_aload_n hx hb dL_refused_438 rfl (lv_at hl 2 rfl) ?_
  refine lv_bipush (v := 27) hx hb dL_refused_439 (by decide) ?_
  refine kC0 (As := [.int 27]) (rest := []) ⟨hx, hb, hml, hown, hts⟩ (c_X4_count k o a b h t F qA qz qS T 27 _ (rl_count_27)) (cwV 1 hts gL_refused_X4_count rfl rfl rfl (by decide +kernel) ⟨Nat.le_of_ble_eq_true rfl, Nat.le_of_ble_eq_true rfl⟩) hX hP rfl hl.1 rfl (Nat.le_of_ble_eq_true rfl) dL_refused_441 ⟨Nat.le_of_ble_eq_true rfl, Nat.le_of_ble_eq_true rfl⟩ ?_
  refine lv_iconst (v := (-1)) hx hb dL_refused_444 (by decide) ?_
  refine lv_icmp_ne (tgt := 541) hx hb dL_refused_445 (by decide) (fun c => absurd c (by decide)) (fun _ => ?_)
  refine lv_aload_n hx hb dL_refused_448 rfl (lv_at hl 2 rfl) ?_
  refine lv_bipush (v := 37) hx hb dL_refused_449 (by decide) ?_
  refine kC0 (As := [.int 37]) (rest := []) ⟨hx, hb, hml, hown, hts⟩ (c_X4_count k o a b h t F qA qz qS T 37 _ (rl_count_37)) (cwV 1 hts gL_refused_X4_count rfl rfl rfl (by decide +kernel) ⟨Nat.le_of_ble_eq_true rfl, Nat.le_of_ble_eq_true rfl⟩) hX hP rfl hl.1 rfl (Nat.le_of_ble_eq_true rfl) dL_refused_451 ⟨Nat.le_of_ble_eq_true rfl, Nat.le_of_ble_eq_true rfl⟩ ?_
  refine lv_iconst (v := (-1)) hx hb dL_refused_454 (by decide) ?_
  refine lv_icmp_ne (tgt := 541) hx hb dL_refused_455 (by decide) (fun c => absurd c (by decide)) (fun _ => ?_)
  refine lv_aload_n hx hb dL_refused_458 rfl (lv_at hl 2 rfl) ?_
  refine lv_iconst (v := (-1)) hx hb dL_refused_459 (by decide) ?_
  refine kSF0 (As := [.int (-1)]) (rest := []) ⟨hx, hb, hml, hown, hts⟩ (c_X4_ladder k o a b h t F (-1) _ (rl_ladder_m1)) (cwV 1 hts gL_refused_X4_ladder rfl rfl rfl (by decide +kernel) ⟨Nat.le_of_ble_eq_true rfl, Nat.le_of_ble_eq_true rfl⟩) hX hP rfl hl.1 rfl (Nat.le_of_ble_eq_true rfl) dL_refused_460 ⟨Nat.le_of_ble_eq_true rfl, Nat.le_of_ble_eq_true rfl⟩ ?_
  refine lv_iconst (v := (-1)) hx hb dL_refused_463 (by decide) ?_
  refine lv_icmp_ne (tgt := 541) hx hb dL_refused_464 (by decide) (fun c => absurd c (by decide)) (fun _ => ?_)
  refine lv_aload_n hx hb dL_refused_467 rfl (lv_at hl 2 rfl) ?_
  refine lv_bipush (v := 24) hx hb dL_refused_468 (by decide) ?_
  refine kSF0 (As := [.int 24]) (rest := []) ⟨hx, hb, hml, hown, hts⟩ (c_X4_ladder k o a b h t F 24 _ (rf_lad24 hk hf)) (cwV 1 hts gL_refused_X4_ladder rfl rfl rfl (by decide +kernel) ⟨Nat.le_of_ble_eq_true rfl, Nat.le_of_ble_eq_true rfl⟩) hX hP rfl hl.1 rfl (Nat.le_of_ble_eq_true rfl) dL_refused_470 ⟨Nat.le_of_ble_eq_true rfl, Nat.le_of_ble_eq_true rfl⟩ ?_
  refine lv_bipush (v := (-4)) hx hb dL_refused_473 (by decide) ?_
  refine lv_icmp_ne (tgt := 541) hx hb dL_refused_475 (by decide) (fun c => absurd c (by decide)) (fun _ => ?_)
  refine lv_aload_n hx hb dL_refused_478 rfl (lv_at hl 2 rfl) ?_
  refine lv_bipush (v := 8) hx hb dL_refused_479 (by decide) ?_
  refine lv_iconst (v := 0) hx hb dL_refused_481 (by decide) ?_
  refine kSF0 (As := [.int 8, .int 0]) (rest := []) ⟨hx, hb, hml, hown, hts⟩ (c_X4_find k o a b h t F 8 0 _ (rl_find_8_0)) (cwV 2 hts gL_refused_X4_find rfl rfl rfl (by decide +kernel) ⟨Nat.le_of_ble_eq_true rfl, Nat.le_of_ble_eq_true rfl⟩) hX hP rfl hl.1 rfl (Nat.le_of_ble_eq_true rfl) dL_refused_482 ⟨Nat.le_of_ble_eq_true rfl, Nat.le_of_ble_eq_true rfl⟩ ?_
  refine lv_iconst (v := (-1)) hx hb dL_refused_485 (by decide) ?_
  refine lv_icmp_ne (tgt := 541) hx hb dL_refused_486 (by decide) (fun c => absurd c (by decide)) (fun _ => ?_)
  exact kk _ _ hP hD hS
set_option maxHeartbeats 4000000 in
set_option maxRecDepth 100000 in
theorem rfd_6 (S0 : CallFix p m c cL_refused 4 s args wsL_refused RL) (hX : xK D ks s) (hE : xEset A s s.heap) (hA : ∀ q, s.heap.size ≤ q → A q) (hk : 100 ≤ k) (hf : RF F (MD.st M) n tt uu) (hP : va_P D vwCl (wO ks o a b h t F G qA qz qS T) H) (hD : va_D A (wO ks o a b h t F G qA qz qS T)) (hS : va_S A s.heap H locs) (hl : lv_has ls 4 [(3, .int (FD.rows F)), (1, .long y), (0, .ref o)])
    (kk : ∀ (H : Heap) (locs : List Loc), va_P D vwCl (wO ks o a b h t F G qA qz qS T) H → va_D A (wO ks o a b h t F G qA qz qS T) → va_S A s.heap H locs → W p l e { frames := 8, cells := 0, slots := 0, locals := 172 } s m args below meth c H locs 0 0 Q (F0 m 564 ls [])) : W p l e { frames := 8, cells := 0, slots := 0, locals := 172 } s m args below meth c H locs 0 0 Q (F0 m 489 ls []) := by
  obtain ⟨hx, hb, hml, hown, hts⟩ := id S0
  refine lv_aload_n hx hb dL_refused_489 rfl (lv_at hl 2 rfl) ?_
  refine lv_iconst (v := (-1)) hx hb dL_refused_490 (by decide) ?_
  refine lv_iconst (v := 0) hx hb dL_refused_491 (by decide) ?_
  refine kSF0 (As := [.int (-1), .int 0]) (rest := []) ⟨hx, hb, hml, hown, hts⟩ (c_X4_find k o a b h t F (-1) 0 _ (rl_find_m1_0)) (cwV 2 hts gL_refused_X4_find rfl rfl rfl (by decide +kernel) ⟨Nat.le_of_ble_eq_true rfl, Nat.le_of_ble_eq_true rfl⟩) hX hP rfl hl.1 rfl (Nat.le_of_ble_eq_true rfl) dL_refused_492 ⟨Nat.le_of_ble_eq_true rfl, Nat.le_of_ble_eq_true rfl⟩ ?_
  refine lv_iconst (v := (-1)) hx hb dL_refused_495 (by decide) ?_
  refine lv_icmp_ne (tgt := 541) hx hb dL_refused_496 (by decide) (fun c => absurd c (by decide)) (fun _ => ?_)
  refine lv_aload_n hx hb dL_refused_499 rfl (lv_at hl 2 rfl) ?_
  refine lv_iconst (v := 0) hx hb dL_refused_500 (by decide) ?_
  refine lv_iconst (v := (-1)) hx hb dL_refused_501 (by decide) ?_
  refine kSF0 (As := [.int 0, .int (-1)]) (rest := []) ⟨hx, hb, hml, hown, hts⟩ (c_X4_find k o a b h t F 0 (-1) _ (rl_find_0_m1)) (cwV 2 hts gL_refused_X4_find rfl rfl rfl (by decide +kernel) ⟨Nat.le_of_ble_eq_true rfl, Nat.le_of_ble_eq_true rfl⟩) hX hP rfl hl.1 rfl (Nat.le_of_ble_eq_true rfl) dL_refused_502 ⟨Nat.le_of_ble_eq_true rfl, Nat.le_of_ble_eq_true rfl⟩ ?_
  refine lv_iconst (v := (-1)) hx hb dL_refused_505 (by decide) ?_
  refine lv_icmp_ne (tgt := 541) hx hb dL_refused_506 (by decide) (fun c => absurd c (by decide)) (fun _ => ?_)
  refine lv_aload_n hx hb dL_refused_509 rfl (lv_at hl 2 rfl) ?_
  refine lv_iconst (v := 0) hx hb dL_refused_510 (by decide) ?_
  refine lv_bipush (v := 24) hx hb dL_refused_511 (by decide) ?_
  refine kSF0 (As := [.int 0, .int 24]) (rest := []) ⟨hx, hb, hml, hown, hts⟩ (c_X4_find k o a b h t F 0 24 _ (rf_find24 hk hf)) (cwV 2 hts gL_refused_X4_find rfl rfl rfl (by decide +kernel) ⟨Nat.le_of_ble_eq_true rfl, Nat.le_of_ble_eq_true rfl⟩) hX hP rfl hl.1 rfl (Nat.le_of_ble_eq_true rfl) dL_refused_513 ⟨Nat.le_of_ble_eq_true rfl, Nat.le_of_ble_eq_true rfl⟩ ?_
  refine lv_bipush (v := (-4)) hx hb dL_refused_516 (by decide) ?_
  refine lv_icmp_ne (tgt := 541) hx hb dL_refused_518 (by decide) (fun c => absurd c (by decide)) (fun _ => ?_)
  refine lv_aload_n hx hb dL_refused_521 rfl (lv_at hl 2 rfl) ?_
  refine lv_iconst (v := (-1)) hx hb dL_refused_522 (by decide) ?_
  refine kSF0 (As := [.int (-1)]) (rest := []) ⟨hx, hb, hml, hown, hts⟩ (c_X4_colourOf k o a b h t F (-1) _ (rl_colourOf_m1)) (cwV 1 hts gL_refused_X4_colourOf rfl rfl rfl (by decide +kernel) ⟨Nat.le_of_ble_eq_true rfl, Nat.le_of_ble_eq_true rfl⟩) hX hP rfl hl.1 rfl (Nat.le_of_ble_eq_true rfl) dL_refused_523 ⟨Nat.le_of_ble_eq_true rfl, Nat.le_of_ble_eq_true rfl⟩ ?_
  refine lv_iconst (v := (-1)) hx hb dL_refused_526 (by decide) ?_
  refine lv_icmp_ne (tgt := 541) hx hb dL_refused_527 (by decide) (fun c => absurd c (by decide)) (fun _ => ?_)
  refine lv_aload_n hx hb dL_refused_530 rfl (lv_at hl 2 rfl) ?_
  refine lv_sipush (v := 5001) hx hb dL_refused_531 (by decide) ?_
  refine kSF0 (As := [.int 5001]) (rest := []) ⟨hx, hb, hml, hown, hts⟩ (c_X4_colourOf k o a b h t F 5001 _ (rl_colourOf_5001)) (cwV 1 hts gL_refused_X4_colourOf rfl rfl rfl (by decide +kernel) ⟨Nat.le_of_ble_eq_true rfl, Nat.le_of_ble_eq_true rfl⟩) hX hP rfl hl.1 rfl (Nat.le_of_ble_eq_true rfl) dL_refused_534 ⟨Nat.le_of_ble_eq_true rfl, Nat.le_of_ble_eq_true rfl⟩ ?_
  refine lv_iconst (v := (-1)) hx hb dL_refused_537 (by decide) ?_
  refine lv_icmp_eq (tgt := 543) hx hb dL_refused_538 (by decide) (fun _ => ?_) (fun c => absurd c (by decide))
  refine lv_aload_n hx hb dL_refused_543 rfl (lv_at hl 2 rfl) ?_
  refine lv_bipush (v := 8) hx hb dL_refused_544 (by decide) ?_
  refine lv_iconst (v := 0) hx hb dL_refused_546 (by decide) ?_
  refine kSF0 (As := [.int 8, .int 0]) (rest := []) ⟨hx, hb, hml, hown, hts⟩ (c_X4_thicknessFor k o a b h t F 8 0 _ (rl_thicknessFor_8_0)) (cwV 2 hts gL_refused_X4_thicknessFor rfl rfl rfl (by decide +kernel) ⟨Nat.le_of_ble_eq_true rfl, Nat.le_of_ble_eq_true rfl⟩) hX hP rfl hl.1 rfl (Nat.le_of_ble_eq_true rfl) dL_refused_547 ⟨Nat.le_of_ble_eq_true rfl, Nat.le_of_ble_eq_true rfl⟩ ?_
  refine lv_iconst (v := (-1)) hx hb dL_refused_550 (by decide) ?_
  refine lv_icmp_ne (tgt := 717) hx hb dL_refused_551 (by decide) (fun c => absurd c (by decide)) (fun _ => ?_)
  refine lv_aload_n hx hb dL_refused_554 rfl (lv_at hl 2 rfl) ?_
  refine lv_iconst (v := (-1)) hx hb dL_refused_555 (by decide) ?_
  refine lv_iconst (v := 0) hx hb dL_refused_556 (by decide) ?_
  refine kSF0 (As := [.int (-1), .int 0]) (rest := []) ⟨hx, hb, hml, hown, hts⟩ (c_X4_thicknessFor k o a b h t F (-1) 0 _ (rl_thicknessFor_m1_0)) (cwV 2 hts gL_refused_X4_thicknessFor rfl rfl rfl (by decide +kernel) ⟨Nat.le_of_ble_eq_true rfl, Nat.le_of_ble_eq_true rfl⟩) hX hP rfl hl.1 rfl (Nat.le_of_ble_eq_true rfl) dL_refused_557 ⟨Nat.le_of_ble_eq_true rfl, Nat.le_of_ble_eq_true rfl⟩ ?_
  refine lv_iconst (v := (-1)) hx hb dL_refused_560 (by decide) ?_
  refine lv_icmp_ne (tgt := 717) hx hb dL_refused_561 (by decide) (fun c => absurd c (by decide)) (fun _ => ?_)
  exact kk _ _ hP hD hS
set_option maxHeartbeats 4000000 in
set_option maxRecDepth 100000 in
theorem rfd_7 (S0 : CallFix p m c cL_refused 4 s args wsL_refused RL) (hX : xK D ks s) (hE : xEset A s s.heap) (hA : ∀ q, s.heap.size ≤ q → A q) (hk : 100 ≤ k) (hf : RF F (MD.st M) n tt uu) (hP : va_P D vwCl (wO ks o a b h t F G qA qz qS T) H) (hD : va_D A (wO ks o a b h t F G qA qz qS T)) (hS : va_S A s.heap H locs) (hl : lv_has ls 4 [(3, .int (FD.rows F)), (1, .long y), (0, .ref o)])
    (kk : ∀ (H : Heap) (locs : List Loc), va_P D vwCl (wO ks o a b h t F G qA qz qS T) H → va_D A (wO ks o a b h t F G qA qz qS T) → va_S A s.heap H locs → W p l e { frames := 8, cells := 0, slots := 0, locals := 172 } s m args below meth c H locs 0 0 Q (F0 m 637 ls [])) : W p l e { frames := 8, cells := 0, slots := 0, locals := 172 } s m args below meth c H locs 0 0 Q (F0 m 564 ls []) := by
  obtain ⟨hx, hb, hml, hown, hts⟩ := id S0
  refine lv_aload_n hx hb dL_refused_564 rfl (lv_at hl 2 rfl) ?_
  refine lv_iconst (v := 0) hx hb dL_refused_565 (by decide) ?_
  refine lv_sipush (v := 5001) hx hb dL_refused_566 (by decide) ?_
  refine kSF0 (As := [.int 0, .int 5001]) (rest := []) ⟨hx, hb, hml, hown, hts⟩ (c_X4_thicknessFor k o a b h t F 0 5001 _ (rl_thicknessFor_0_5001)) (cwV 2 hts gL_refused_X4_thicknessFor rfl rfl rfl (by decide +kernel) ⟨Nat.le_of_ble_eq_true rfl, Nat.le_of_ble_eq_true rfl⟩) hX hP rfl hl.1 rfl (Nat.le_of_ble_eq_true rfl) dL_refused_569 ⟨Nat.le_of_ble_eq_true rfl, Nat.le_of_ble_eq_true rfl⟩ ?_
  refine lv_iconst (v := (-1)) hx hb dL_refused_572 (by decide) ?_
  refine lv_icmp_ne (tgt := 717) hx hb dL_refused_573 (by decide) (fun c => absurd c (by decide)) (fun _ => ?_)
  refine lv_aload_n hx hb dL_refused_576 rfl (lv_at hl 2 rfl) ?_
  refine lv_iconst (v := 0) hx hb dL_refused_577 (by decide) ?_
  refine lv_iconst (v := (-1)) hx hb dL_refused_578 (by decide) ?_
  refine kSF0 (As := [.int 0, .int (-1)]) (rest := []) ⟨hx, hb, hml, hown, hts⟩ (c_X4_thicknessFor k o a b h t F 0 (-1) _ (rl_thicknessFor_0_m1)) (cwV 2 hts gL_refused_X4_thicknessFor rfl rfl rfl (by decide +kernel) ⟨Nat.le_of_ble_eq_true rfl, Nat.le_of_ble_eq_true rfl⟩) hX hP rfl hl.1 rfl (Nat.le_of_ble_eq_true rfl) dL_refused_579 ⟨Nat.le_of_ble_eq_true rfl, Nat.le_of_ble_eq_true rfl⟩ ?_
  refine lv_iconst (v := (-1)) hx hb dL_refused_582 (by decide) ?_
  refine lv_icmp_ne (tgt := 717) hx hb dL_refused_583 (by decide) (fun c => absurd c (by decide)) (fun _ => ?_)
  refine lv_aload_n hx hb dL_refused_586 rfl (lv_at hl 2 rfl) ?_
  refine lv_iconst (v := (-1)) hx hb dL_refused_587 (by decide) ?_
  refine lv_iconst (v := 0) hx hb dL_refused_588 (by decide) ?_
  refine kG0 (As := [.int (-1), .int 0]) (rest := []) ⟨hx, hb, hml, hown, hts⟩ (c_X4_until k o a b h t F G (-1) 0 _ _ (rl_until_m1_0)) (cwV 2 hts gL_refused_X4_until rfl rfl rfl (by decide +kernel) ⟨Nat.le_of_ble_eq_true rfl, Nat.le_of_ble_eq_true rfl⟩) hX hP hD hS hA rfl hl.1 rfl (Nat.le_of_ble_eq_true rfl) dL_refused_589 ⟨Nat.le_of_ble_eq_true rfl, Nat.le_of_ble_eq_true rfl⟩ (fun H locs hP hD hS => ?_)
  refine lv_iconst (v := (-1)) hx hb dL_refused_592 (by decide) ?_
  refine lv_icmp_ne (tgt := 717) hx hb dL_refused_593 (by decide) (fun c => absurd c (by decide)) (fun _ => ?_)
  refine lv_aload_n hx hb dL_refused_596 rfl (lv_at hl 2 rfl) ?_
  refine lv_iconst (v := 4) hx hb dL_refused_597 (by decide) ?_
  refine lv_iconst (v := 0) hx hb dL_refused_598 (by decide) ?_
  refine kG0 (As := [.int 4, .int 0]) (rest := []) ⟨hx, hb, hml, hown, hts⟩ (c_X4_until k o a b h t F G 4 0 _ _ (rl_until_4_0)) (cwV 2 hts gL_refused_X4_until rfl rfl rfl (by decide +kernel) ⟨Nat.le_of_ble_eq_true rfl, Nat.le_of_ble_eq_true rfl⟩) hX hP hD hS hA rfl hl.1 rfl (Nat.le_of_ble_eq_true rfl) dL_refused_599 ⟨Nat.le_of_ble_eq_true rfl, Nat.le_of_ble_eq_true rfl⟩ (fun H locs hP hD hS => ?_)
  refine lv_iconst (v := (-1)) hx hb dL_refused_602 (by decide) ?_
  refine lv_icmp_ne (tgt := 717) hx hb dL_refused_603 (by decide) (fun c => absurd c (by decide)) (fun _ => ?_)
  refine lv_aload_n hx hb dL_refused_606 rfl (lv_at hl 2 rfl) ?_
  refine lv_iconst (v := 0) hx hb dL_refused_607 (by decide) ?_
  refine lv_iconst (v := 1) hx hb dL_refused_608 (by decide) ?_
  refine kG0 (As := [.int 0, .int 1]) (rest := []) ⟨hx, hb, hml, hown, hts⟩ (c_X4_until k o a b h t F G 0 1 _ _ (rl_until_0_1)) (cwV 2 hts gL_refused_X4_until rfl rfl rfl (by decide +kernel) ⟨Nat.le_of_ble_eq_true rfl, Nat.le_of_ble_eq_true rfl⟩) hX hP hD hS hA rfl hl.1 rfl (Nat.le_of_ble_eq_true rfl) dL_refused_609 ⟨Nat.le_of_ble_eq_true rfl, Nat.le_of_ble_eq_true rfl⟩ (fun H locs hP hD hS => ?_)
  refine lv_iconst (v := (-1)) hx hb dL_refused_612 (by decide) ?_
  refine lv_icmp_ne (tgt := 717) hx hb dL_refused_613 (by decide) (fun c => absurd c (by decide)) (fun _ => ?_)
  refine lv_aload_n hx hb dL_refused_616 rfl (lv_at hl 2 rfl) ?_
  refine lv_iconst (v := 1) hx hb dL_refused_617 (by decide) ?_
  refine lv_iconst (v := 0) hx hb dL_refused_618 (by decide) ?_
  refine kG0 (As := [.int 1, .int 0]) (rest := []) ⟨hx, hb, hml, hown, hts⟩ (c_X4_until k o a b h t F G 1 0 _ _ (rl_until_1_0)) (cwV 2 hts gL_refused_X4_until rfl rfl rfl (by decide +kernel) ⟨Nat.le_of_ble_eq_true rfl, Nat.le_of_ble_eq_true rfl⟩) hX hP hD hS hA rfl hl.1 rfl (Nat.le_of_ble_eq_true rfl) dL_refused_619 ⟨Nat.le_of_ble_eq_true rfl, Nat.le_of_ble_eq_true rfl⟩ (fun H locs hP hD hS => ?_)
  refine lv_iconst (v := (-1)) hx hb dL_refused_622 (by decide) ?_
  refine lv_icmp_ne (tgt := 717) hx hb dL_refused_623 (by decide) (fun c => absurd c (by decide)) (fun _ => ?_)
  refine lv_aload_n hx hb dL_refused_626 rfl (lv_at hl 2 rfl) ?_
  refine lv_iconst (v := 1) hx hb dL_refused_627 (by decide) ?_
  refine lv_bipush (v := 25) hx hb dL_refused_628 (by decide) ?_
  refine kG0 (As := [.int 1, .int 25]) (rest := []) ⟨hx, hb, hml, hown, hts⟩ (c_X4_until k o a b h t F G 1 25 _ _ (rl_until_1_25)) (cwV 2 hts gL_refused_X4_until rfl rfl rfl (by decide +kernel) ⟨Nat.le_of_ble_eq_true rfl, Nat.le_of_ble_eq_true rfl⟩) hX hP hD hS hA rfl hl.1 rfl (Nat.le_of_ble_eq_true rfl) dL_refused_630 ⟨Nat.le_of_ble_eq_true rfl, Nat.le_of_ble_eq_true rfl⟩ (fun H locs hP hD hS => ?_)
  refine lv_iconst (v := (-1)) hx hb dL_refused_633 (by decide) ?_
  refine lv_icmp_ne (tgt := 717) hx hb dL_refused_634 (by decide) (fun c => absurd c (by decide)) (fun _ => ?_)
  exact kk _ _ hP hD hS
set_option maxHeartbeats 4000000 in
set_option maxRecDepth 100000 in
theorem rfd_8 (S0 : CallFix p m c cL_refused 4 s args wsL_refused RL) (hX : xK D ks s) (hE : xEset A s s.heap) (hA : ∀ q, s.heap.size ≤ q → A q) (hk : 100 ≤ k) (hf : RF F (MD.st M) n tt uu) (hP : va_P D vwCl (wO ks o a b h t F G qA qz qS T) H) (hD : va_D A (wO ks o a b h t F G qA qz qS T)) (hS : va_S A s.heap H locs) (hl : lv_has ls 4 [(3, .int (FD.rows F)), (1, .long y), (0, .ref o)])
    (kk : ∀ (H : Heap) (locs : List Loc), va_P D vwCl (wO ks o a b h t F G qA qz qS T) H → va_D A (wO ks o a b h t F G qA qz qS T) → va_S A s.heap H locs → W p l e { frames := 8, cells := 0, slots := 0, locals := 172 } s m args below meth c H locs 0 0 Q (F0 m 708 ls [])) : W p l e { frames := 8, cells := 0, slots := 0, locals := 172 } s m args below meth c H locs 0 0 Q (F0 m 637 ls []) := by
  obtain ⟨hx, hb, hml, hown, hts⟩ := id S0
  refine lv_aload_n hx hb dL_refused_637 rfl (lv_at hl 2 rfl) ?_
  refine lv_iconst (v := 2) hx hb dL_refused_638 (by decide) ?_
  refine lv_bipush (v := 8) hx hb dL_refused_639 (by decide) ?_
  refine kG0 (As := [.int 2, .int 8]) (rest := []) ⟨hx, hb, hml, hown, hts⟩ (c_X4_until k o a b h t F G 2 8 _ _ (rl_until_2_8)) (cwV 2 hts gL_refused_X4_until rfl rfl rfl (by decide +kernel) ⟨Nat.le_of_ble_eq_true rfl, Nat.le_of_ble_eq_true rfl⟩) hX hP hD hS hA rfl hl.1 rfl (Nat.le_of_ble_eq_true rfl) dL_refused_641 ⟨Nat.le_of_ble_eq_true rfl, Nat.le_of_ble_eq_true rfl⟩ (fun H locs hP hD hS => ?_)
  refine lv_iconst (v := (-1)) hx hb dL_refused_644 (by decide) ?_
  refine lv_icmp_ne (tgt := 717) hx hb dL_refused_645 (by decide) (fun c => absurd c (by decide)) (fun _ => ?_)
  refine lv_aload_n hx hb dL_refused_648 rfl (lv_at hl 2 rfl) ?_
  refine lv_iconst (v := 2) hx hb dL_refused_649 (by decide) ?_
  refine lv_iconst (v := (-1)) hx hb dL_refused_650 (by decide) ?_
  refine kG0 (As := [.int 2, .int (-1)]) (rest := []) ⟨hx, hb, hml, hown, hts⟩ (c_X4_until k o a b h t F G 2 (-1) _ _ (rl_until_2_m1)) (cwV 2 hts gL_refused_X4_until rfl rfl rfl (by decide +kernel) ⟨Nat.le_of_ble_eq_true rfl, Nat.le_of_ble_eq_true rfl⟩) hX hP hD hS hA rfl hl.1 rfl (Nat.le_of_ble_eq_true rfl) dL_refused_651 ⟨Nat.le_of_ble_eq_true rfl, Nat.le_of_ble_eq_true rfl⟩ (fun H locs hP hD hS => ?_)
  refine lv_iconst (v := (-1)) hx hb dL_refused_654 (by decide) ?_
  refine lv_icmp_ne (tgt := 717) hx hb dL_refused_655 (by decide) (fun c => absurd c (by decide)) (fun _ => ?_)
  refine lv_aload_n hx hb dL_refused_658 rfl (lv_at hl 2 rfl) ?_
  refine lv_iconst (v := 3) hx hb dL_refused_659 (by decide) ?_
  refine lv_iconst (v := 0) hx hb dL_refused_660 (by decide) ?_
  refine kG0 (As := [.int 3, .int 0]) (rest := []) ⟨hx, hb, hml, hown, hts⟩ (c_X4_until k o a b h t F G 3 0 _ _ (rl_until_3_0)) (cwV 2 hts gL_refused_X4_until rfl rfl rfl (by decide +kernel) ⟨Nat.le_of_ble_eq_true rfl, Nat.le_of_ble_eq_true rfl⟩) hX hP hD hS hA rfl hl.1 rfl (Nat.le_of_ble_eq_true rfl) dL_refused_661 ⟨Nat.le_of_ble_eq_true rfl, Nat.le_of_ble_eq_true rfl⟩ (fun H locs hP hD hS => ?_)
  refine lv_iconst (v := (-1)) hx hb dL_refused_664 (by decide) ?_
  refine lv_icmp_ne (tgt := 717) hx hb dL_refused_665 (by decide) (fun c => absurd c (by decide)) (fun _ => ?_)
  refine lv_aload_n hx hb dL_refused_668 rfl (lv_at hl 2 rfl) ?_
  refine lv_iconst (v := 3) hx hb dL_refused_669 (by decide) ?_
  refine lv_bipush (v := 101) hx hb dL_refused_670 (by decide) ?_
  refine kG0 (As := [.int 3, .int 101]) (rest := []) ⟨hx, hb, hml, hown, hts⟩ (c_X4_until k o a b h t F G 3 101 _ _ (rl_until_3_101)) (cwV 2 hts gL_refused_X4_until rfl rfl rfl (by decide +kernel) ⟨Nat.le_of_ble_eq_true rfl, Nat.le_of_ble_eq_true rfl⟩) hX hP hD hS hA rfl hl.1 rfl (Nat.le_of_ble_eq_true rfl) dL_refused_672 ⟨Nat.le_of_ble_eq_true rfl, Nat.le_of_ble_eq_true rfl⟩ (fun H locs hP hD hS => ?_)
  refine lv_iconst (v := (-1)) hx hb dL_refused_675 (by decide) ?_
  refine lv_icmp_ne (tgt := 717) hx hb dL_refused_676 (by decide) (fun c => absurd c (by decide)) (fun _ => ?_)
  refine lv_aload_n hx hb dL_refused_679 rfl (lv_at hl 2 rfl) ?_
  refine lv_bipush (v := 31) hx hb dL_refused_680 (by decide) ?_
  refine kT0 (As := [.int 31]) (rest := []) ⟨hx, hb, hml, hown, hts⟩ (c_X4_type k o a b h t T 31 _ _ (rl_type_31)) (cwV 1 hts gL_refused_X4_type rfl rfl rfl (by decide +kernel) ⟨Nat.le_of_ble_eq_true rfl, Nat.le_of_ble_eq_true rfl⟩) hX hP hD hS hA rfl hl.1 rfl (Nat.le_of_ble_eq_true rfl) dL_refused_682 ⟨Nat.le_of_ble_eq_true rfl, Nat.le_of_ble_eq_true rfl⟩ (fun H locs hP hD hS => ?_)
  refine lv_iconst (v := (-1)) hx hb dL_refused_685 (by decide) ?_
  refine lv_icmp_ne (tgt := 717) hx hb dL_refused_686 (by decide) (fun c => absurd c (by decide)) (fun _ => ?_)
  refine lv_aload_n hx hb dL_refused_689 rfl (lv_at hl 2 rfl) ?_
  refine lv_bipush (v := 127) hx hb dL_refused_690 (by decide) ?_
  refine kT0 (As := [.int 127]) (rest := []) ⟨hx, hb, hml, hown, hts⟩ (c_X4_type k o a b h t T 127 _ _ (rl_type_127)) (cwV 1 hts gL_refused_X4_type rfl rfl rfl (by decide +kernel) ⟨Nat.le_of_ble_eq_true rfl, Nat.le_of_ble_eq_true rfl⟩) hX hP hD hS hA rfl hl.1 rfl (Nat.le_of_ble_eq_true rfl) dL_refused_692 ⟨Nat.le_of_ble_eq_true rfl, Nat.le_of_ble_eq_true rfl⟩ (fun H locs hP hD hS => ?_)
  refine lv_iconst (v := (-1)) hx hb dL_refused_695 (by decide) ?_
  refine lv_icmp_ne (tgt := 717) hx hb dL_refused_696 (by decide) (fun c => absurd c (by decide)) (fun _ => ?_)
  refine lv_aload_n hx hb dL_refused_699 rfl (lv_at hl 2 rfl) ?_
  refine lv_iconst (v := (-1)) hx hb dL_refused_700 (by decide) ?_
  refine kT0 (As := [.int (-1)]) (rest := []) ⟨hx, hb, hml, hown, hts⟩ (c_X4_fault k o a b h t T (-1) _ _ (rl_fault_m1)) (cwV 1 hts gL_refused_X4_fault rfl rfl rfl (by decide +kernel) ⟨Nat.le_of_ble_eq_true rfl, Nat.le_of_ble_eq_true rfl⟩) hX hP hD hS hA rfl hl.1 rfl (Nat.le_of_ble_eq_true rfl) dL_refused_701 ⟨Nat.le_of_ble_eq_true rfl, Nat.le_of_ble_eq_true rfl⟩ (fun H locs hP hD hS => ?_)
  refine lv_iconst (v := (-1)) hx hb dL_refused_704 (by decide) ?_
  refine lv_icmp_ne (tgt := 717) hx hb dL_refused_705 (by decide) (fun c => absurd c (by decide)) (fun _ => ?_)
  exact kk _ _ hP hD hS
set_option maxHeartbeats 4000000 in
set_option maxRecDepth 100000 in
theorem rfd_9 (S0 : CallFix p m c cL_refused 4 s args wsL_refused RL) (hX : xK D ks s) (hE : xEset A s s.heap) (hA : ∀ q, s.heap.size ≤ q → A q) (hk : 100 ≤ k) (hf : RF F (MD.st M) n tt uu) (hP : va_P D vwCl (wO ks o a b h t F G qA qz qS T) H) (hD : va_D A (wO ks o a b h t F G qA qz qS T)) (hS : va_S A s.heap H locs) (hl : lv_has ls 4 [(3, .int (FD.rows F)), (1, .long y), (0, .ref o)])
    (kk : ∀ (H : Heap) (locs : List Loc), va_P D vwCl (wO ks o a b h t F G qA qz qS T) H → va_D A (wO ks o a b h t F G qA qz qS T) → va_S A s.heap H locs → W p l e { frames := 8, cells := 0, slots := 0, locals := 172 } s m args below meth c H locs 0 0 Q (F0 m 719 ls [])) : W p l e { frames := 8, cells := 0, slots := 0, locals := 172 } s m args below meth c H locs 0 0 Q (F0 m 708 ls []) := by
  obtain ⟨hx, hb, hml, hown, hts⟩ := id S0
  refine lv_aload_n hx hb dL_refused_708 rfl (lv_at hl 2 rfl) ?_
  refine lv_iconst (v := 2) hx hb dL_refused_709 (by decide) ?_
  refine kT0 (As := [.int 2]) (rest := []) ⟨hx, hb, hml, hown, hts⟩ (c_X4_fault k o a b h t T 2 _ _ (rl_fault_2)) (cwV 1 hts gL_refused_X4_fault rfl rfl rfl (by decide +kernel) ⟨Nat.le_of_ble_eq_true rfl, Nat.le_of_ble_eq_true rfl⟩) hX hP hD hS hA rfl hl.1 rfl (Nat.le_of_ble_eq_true rfl) dL_refused_710 ⟨Nat.le_of_ble_eq_true rfl, Nat.le_of_ble_eq_true rfl⟩ (fun H locs hP hD hS => ?_)
  refine lv_iconst (v := (-1)) hx hb dL_refused_713 (by decide) ?_
  refine lv_icmp_eq (tgt := 719) hx hb dL_refused_714 (by decide) (fun _ => ?_) (fun c => absurd c (by decide))
  exact kk _ _ hP hD hS
set_option maxHeartbeats 4000000 in
set_option maxRecDepth 100000 in
theorem rfp_0 (S0 : CallFix p m c cL_refused 4 s args wsL_refused RL) (hX : xK D ks s) (hE : xEset A s s.heap) (hA : ∀ q, s.heap.size ≤ q → A q) (hk : 100 ≤ k) (hf : RF F (MD.st M) n tt uu) (h0 : 0 < n) (hP : va_P D vwCl (wO ks o a b h t F G qA qz qS T) H) (hD : va_D A (wO ks o a b h t F G qA qz qS T)) (hS : va_S A s.heap H locs) (hl : lv_has ls 4 [(3, .int (FD.rows F)), (1, .long y), (0, .ref o)])
    (kk : ∀ (H : Heap) (locs : List Loc), va_P D vwCl (wO ks o a b h t F G qA qz qS T) H → va_D A (wO ks o a b h t F G qA qz qS T) → va_S A s.heap H locs → W p l e { frames := 8, cells := 0, slots := 0, locals := 172 } s m args below meth c H locs 0 0 Q (F0 m 798 ls [])) : W p l e { frames := 8, cells := 0, slots := 0, locals := 172 } s m args below meth c H locs 0 0 Q (F0 m 723 ls []) := by
  obtain ⟨hx, hb, hml, hown, hts⟩ := id S0
  refine lv_aload_n hx hb dL_refused_723 rfl (lv_at hl 2 rfl) ?_
  refine lv_iconst (v := 0) hx hb dL_refused_724 (by decide) ?_
  refine lv_iconst (v := 0) hx hb dL_refused_725 (by decide) ?_
  refine kFH0 (As := [.int 0, .int 0]) (rest := []) ⟨hx, hb, hml, hown, hts⟩ (c_X4_pour k o a b h t F qA qz qS 0 0 _ _ _ _ _ (rf_pour0 hf h0 0 (by decide))) (cwV 2 hts gL_refused_X4_pour rfl rfl rfl (by decide +kernel) ⟨Nat.le_of_ble_eq_true rfl, Nat.le_of_ble_eq_true rfl⟩) hX hP hD hS hA rfl hl.1 rfl (Nat.le_of_ble_eq_true rfl) dL_refused_726 ⟨Nat.le_of_ble_eq_true rfl, Nat.le_of_ble_eq_true rfl⟩ (fun H locs hP hD hS => ?_)
  refine lv_iconst (v := (-1)) hx hb dL_refused_729 (by decide) ?_
  refine lv_icmp_ne (tgt := 810) hx hb dL_refused_730 (by decide) (fun c => absurd c (by decide)) (fun _ => ?_)
  refine lv_aload_n hx hb dL_refused_733 rfl (lv_at hl 2 rfl) ?_
  refine lv_iconst (v := 0) hx hb dL_refused_734 (by decide) ?_
  refine lv_sipush (v := 5001) hx hb dL_refused_735 (by decide) ?_
  refine kFH0 (As := [.int 0, .int 5001]) (rest := []) ⟨hx, hb, hml, hown, hts⟩ (c_X4_pour k o a b h t F qA qz qS 0 5001 _ _ _ _ _ (rf_pour0 hf h0 5001 (by decide))) (cwV 2 hts gL_refused_X4_pour rfl rfl rfl (by decide +kernel) ⟨Nat.le_of_ble_eq_true rfl, Nat.le_of_ble_eq_true rfl⟩) hX hP hD hS hA rfl hl.1 rfl (Nat.le_of_ble_eq_true rfl) dL_refused_738 ⟨Nat.le_of_ble_eq_true rfl, Nat.le_of_ble_eq_true rfl⟩ (fun H locs hP hD hS => ?_)
  refine lv_iconst (v := (-1)) hx hb dL_refused_741 (by decide) ?_
  refine lv_icmp_ne (tgt := 810) hx hb dL_refused_742 (by decide) (fun c => absurd c (by decide)) (fun _ => ?_)
  refine lv_aload_n hx hb dL_refused_745 rfl (lv_at hl 2 rfl) ?_
  refine lv_iconst (v := 0) hx hb dL_refused_746 (by decide) ?_
  refine lv_iconst (v := 0) hx hb dL_refused_747 (by decide) ?_
  refine kFH0 (As := [.int 0, .int 0]) (rest := []) ⟨hx, hb, hml, hown, hts⟩ (c_X4_thin k o a b h t F qA qz qS 0 0 _ _ _ _ _ (rf_thin0 hf h0 0 (by decide))) (cwV 2 hts gL_refused_X4_thin rfl rfl rfl (by decide +kernel) ⟨Nat.le_of_ble_eq_true rfl, Nat.le_of_ble_eq_true rfl⟩) hX hP hD hS hA rfl hl.1 rfl (Nat.le_of_ble_eq_true rfl) dL_refused_748 ⟨Nat.le_of_ble_eq_true rfl, Nat.le_of_ble_eq_true rfl⟩ (fun H locs hP hD hS => ?_)
  refine lv_iconst (v := (-1)) hx hb dL_refused_751 (by decide) ?_
  refine lv_icmp_ne (tgt := 810) hx hb dL_refused_752 (by decide) (fun c => absurd c (by decide)) (fun _ => ?_)
  refine lv_aload_n hx hb dL_refused_755 rfl (lv_at hl 2 rfl) ?_
  refine lv_iconst (v := 0) hx hb dL_refused_756 (by decide) ?_
  refine lv_sipush (v := 5001) hx hb dL_refused_757 (by decide) ?_
  refine kFH0 (As := [.int 0, .int 5001]) (rest := []) ⟨hx, hb, hml, hown, hts⟩ (c_X4_thin k o a b h t F qA qz qS 0 5001 _ _ _ _ _ (rf_thin0 hf h0 5001 (by decide))) (cwV 2 hts gL_refused_X4_thin rfl rfl rfl (by decide +kernel) ⟨Nat.le_of_ble_eq_true rfl, Nat.le_of_ble_eq_true rfl⟩) hX hP hD hS hA rfl hl.1 rfl (Nat.le_of_ble_eq_true rfl) dL_refused_760 ⟨Nat.le_of_ble_eq_true rfl, Nat.le_of_ble_eq_true rfl⟩ (fun H locs hP hD hS => ?_)
  refine lv_iconst (v := (-1)) hx hb dL_refused_763 (by decide) ?_
  refine lv_icmp_ne (tgt := 810) hx hb dL_refused_764 (by decide) (fun c => absurd c (by decide)) (fun _ => ?_)
  refine lv_aload_n hx hb dL_refused_767 rfl (lv_at hl 2 rfl) ?_
  refine lv_iconst (v := 0) hx hb dL_refused_768 (by decide) ?_
  refine lv_bipush (v := 8) hx hb dL_refused_769 (by decide) ?_
  refine kSF0 (As := [.int 0, .int 8]) (rest := []) ⟨hx, hb, hml, hown, hts⟩ (c_X4_row k o a b h t F 0 8 _ (rf_row8 hf h0)) (cwV 2 hts gL_refused_X4_row rfl rfl rfl (by decide +kernel) ⟨Nat.le_of_ble_eq_true rfl, Nat.le_of_ble_eq_true rfl⟩) hX hP rfl hl.1 rfl (Nat.le_of_ble_eq_true rfl) dL_refused_771 ⟨Nat.le_of_ble_eq_true rfl, Nat.le_of_ble_eq_true rfl⟩ ?_
  refine lv_iconst (v := (-1)) hx hb dL_refused_774 (by decide) ?_
  refine lv_icmp_ne (tgt := 810) hx hb dL_refused_775 (by decide) (fun c => absurd c (by decide)) (fun _ => ?_)
  refine lv_aload_n hx hb dL_refused_778 rfl (lv_at hl 2 rfl) ?_
  refine lv_iconst (v := 0) hx hb dL_refused_779 (by decide) ?_
  refine lv_iconst (v := (-1)) hx hb dL_refused_780 (by decide) ?_
  refine kSF0 (As := [.int 0, .int (-1)]) (rest := []) ⟨hx, hb, hml, hown, hts⟩ (c_X4_row k o a b h t F 0 (-1) _ (rf_rowm hf h0)) (cwV 2 hts gL_refused_X4_row rfl rfl rfl (by decide +kernel) ⟨Nat.le_of_ble_eq_true rfl, Nat.le_of_ble_eq_true rfl⟩) hX hP rfl hl.1 rfl (Nat.le_of_ble_eq_true rfl) dL_refused_781 ⟨Nat.le_of_ble_eq_true rfl, Nat.le_of_ble_eq_true rfl⟩ ?_
  refine lv_iconst (v := (-1)) hx hb dL_refused_784 (by decide) ?_
  refine lv_icmp_ne (tgt := 810) hx hb dL_refused_785 (by decide) (fun c => absurd c (by decide)) (fun _ => ?_)
  refine lv_aload_n hx hb dL_refused_788 rfl (lv_at hl 2 rfl) ?_
  refine lv_iconst (v := 0) hx hb dL_refused_789 (by decide) ?_
  refine lv_iconst (v := 0) hx hb dL_refused_790 (by decide) ?_
  refine kG0 (As := [.int 0, .int 0]) (rest := []) ⟨hx, hb, hml, hown, hts⟩ (c_X4_ifGo k o a b h t F G 0 0 _ _ (rf_ifGo0 hf h0 0 (by decide))) (cwV 2 hts gL_refused_X4_ifGo rfl rfl rfl (by decide +kernel) ⟨Nat.le_of_ble_eq_true rfl, Nat.le_of_ble_eq_true rfl⟩) hX hP hD hS hA rfl hl.1 rfl (Nat.le_of_ble_eq_true rfl) dL_refused_791 ⟨Nat.le_of_ble_eq_true rfl, Nat.le_of_ble_eq_true rfl⟩ (fun H locs hP hD hS => ?_)
  refine lv_iconst (v := (-1)) hx hb dL_refused_794 (by decide) ?_
  refine lv_icmp_ne (tgt := 810) hx hb dL_refused_795 (by decide) (fun c => absurd c (by decide)) (fun _ => ?_)
  exact kk _ _ hP hD hS
set_option maxHeartbeats 4000000 in
set_option maxRecDepth 100000 in
theorem rfp_1 (S0 : CallFix p m c cL_refused 4 s args wsL_refused RL) (hX : xK D ks s) (hE : xEset A s s.heap) (hA : ∀ q, s.heap.size ≤ q → A q) (hk : 100 ≤ k) (hf : RF F (MD.st M) n tt uu) (h0 : 0 < n) (hP : va_P D vwCl (wO ks o a b h t F G qA qz qS T) H) (hD : va_D A (wO ks o a b h t F G qA qz qS T)) (hS : va_S A s.heap H locs) (hl : lv_has ls 4 [(3, .int (FD.rows F)), (1, .long y), (0, .ref o)])
    (kk : ∀ (H : Heap) (locs : List Loc), va_P D vwCl (wO ks o a b h t F G qA qz qS T) H → va_D A (wO ks o a b h t F G qA qz qS T) → va_S A s.heap H locs → W p l e { frames := 8, cells := 0, slots := 0, locals := 172 } s m args below meth c H locs 0 0 Q (F0 m 812 ls [])) : W p l e { frames := 8, cells := 0, slots := 0, locals := 172 } s m args below meth c H locs 0 0 Q (F0 m 798 ls []) := by
  obtain ⟨hx, hb, hml, hown, hts⟩ := id S0
  refine lv_aload_n hx hb dL_refused_798 rfl (lv_at hl 2 rfl) ?_
  refine lv_iconst (v := 0) hx hb dL_refused_799 (by decide) ?_
  refine lv_sipush (v := 1001) hx hb dL_refused_800 (by decide) ?_
  refine kG0 (As := [.int 0, .int 1001]) (rest := []) ⟨hx, hb, hml, hown, hts⟩ (c_X4_ifGo k o a b h t F G 0 1001 _ _ (rf_ifGo0 hf h0 1001 (by decide))) (cwV 2 hts gL_refused_X4_ifGo rfl rfl rfl (by decide +kernel) ⟨Nat.le_of_ble_eq_true rfl, Nat.le_of_ble_eq_true rfl⟩) hX hP hD hS hA rfl hl.1 rfl (Nat.le_of_ble_eq_true rfl) dL_refused_803 ⟨Nat.le_of_ble_eq_true rfl, Nat.le_of_ble_eq_true rfl⟩ (fun H locs hP hD hS => ?_)
  refine lv_iconst (v := (-1)) hx hb dL_refused_806 (by decide) ?_
  refine lv_icmp_eq (tgt := 812) hx hb dL_refused_807 (by decide) (fun _ => ?_) (fun c => absurd c (by decide))
  exact kk _ _ hP hD hS
set_option maxHeartbeats 4000000 in
set_option maxRecDepth 100000 in
theorem rfz_0 (S0 : CallFix p m c cL_refused 4 s args wsL_refused RL) (hX : xK D ks s) (hE : xEset A s s.heap) (hA : ∀ q, s.heap.size ≤ q → A q) (hk : 100 ≤ k) (hf : RF F (MD.st M) n tt uu) (hr : FD.rows F = 0) (hP : va_P D vwCl (wO ks o a b h t F G qA qz qS T) H) (hD : va_D A (wO ks o a b h t F G qA qz qS T)) (hS : va_S A s.heap H locs) (hl : lv_has ls 4 [(3, .int (FD.rows F)), (1, .long y), (0, .ref o)])
    (kk : ∀ (H : Heap) (locs : List Loc), va_P D vwCl (wO ks o a b h t F F qA qz qS T) H → va_D A (wO ks o a b h t F F qA qz qS T) → va_S A s.heap H locs → W p l e { frames := 8, cells := 0, slots := 0, locals := 172 } s m args below meth c H locs 0 0 Q (F0 m 887 ls [])) : W p l e { frames := 8, cells := 0, slots := 0, locals := 172 } s m args below meth c H locs 0 0 Q (F0 m 816 ls []) := by
  obtain ⟨hx, hb, hml, hown, hts⟩ := id S0
  refine lv_aload_n hx hb dL_refused_816 rfl (lv_at hl 2 rfl) ?_
  refine lv_iconst (v := 0) hx hb dL_refused_817 (by decide) ?_
  refine kFH0 (As := [.int 0]) (rest := []) ⟨hx, hb, hml, hown, hts⟩ (c_X4_add k o a b h t F qA qz qS 0 _ _ _ _ _ (rf_add0 hr)) (cwV 1 hts gL_refused_X4_add rfl rfl rfl (by decide +kernel) ⟨Nat.le_of_ble_eq_true rfl, Nat.le_of_ble_eq_true rfl⟩) hX hP hD hS hA rfl hl.1 rfl (Nat.le_of_ble_eq_true rfl) dL_refused_818 ⟨Nat.le_of_ble_eq_true rfl, Nat.le_of_ble_eq_true rfl⟩ (fun H locs hP hD hS => ?_)
  refine lv_bipush (v := (-2)) hx hb dL_refused_821 (by decide) ?_
  refine lv_icmp_ne (tgt := 897) hx hb dL_refused_823 (by decide) (fun c => absurd c (by decide)) (fun _ => ?_)
  refine lv_aload_n hx hb dL_refused_826 rfl (lv_at hl 2 rfl) ?_
  refine kFH0 (As := []) (rest := []) ⟨hx, hb, hml, hown, hts⟩ (c_X4_cut k o a b h t F qA qz qS  _ _ _ _ _ (rf_cut0 (by rw [hr]; decide))) (cwV 0 hts gL_refused_X4_cut rfl rfl rfl (by decide +kernel) ⟨Nat.le_of_ble_eq_true rfl, Nat.le_of_ble_eq_true rfl⟩) hX hP hD hS hA rfl hl.1 rfl (Nat.le_of_ble_eq_true rfl) dL_refused_827 ⟨Nat.le_of_ble_eq_true rfl, Nat.le_of_ble_eq_true rfl⟩ (fun H locs hP hD hS => ?_)
  refine lv_bipush (v := (-2)) hx hb dL_refused_830 (by decide) ?_
  refine lv_icmp_ne (tgt := 897) hx hb dL_refused_832 (by decide) (fun c => absurd c (by decide)) (fun _ => ?_)
  refine lv_aload_n hx hb dL_refused_835 rfl (lv_at hl 2 rfl) ?_
  refine lv_iconst (v := 0) hx hb dL_refused_836 (by decide) ?_
  refine lv_iconst (v := 0) hx hb dL_refused_837 (by decide) ?_
  refine kG0 (As := [.int 0, .int 0]) (rest := []) ⟨hx, hb, hml, hown, hts⟩ (c_X4_until k o a b h t F G 0 0 _ _ (rf_u0 hr)) (cwV 2 hts gL_refused_X4_until rfl rfl rfl (by decide +kernel) ⟨Nat.le_of_ble_eq_true rfl, Nat.le_of_ble_eq_true rfl⟩) hX hP hD hS hA rfl hl.1 rfl (Nat.le_of_ble_eq_true rfl) dL_refused_838 ⟨Nat.le_of_ble_eq_true rfl, Nat.le_of_ble_eq_true rfl⟩ (fun H locs hP hD hS => ?_)
  refine lv_if_ne (tgt := 897) hx hb dL_refused_841 (by decide) (fun c => absurd c (by decide)) (fun _ => ?_)
  refine lv_aload_n hx hb dL_refused_844 rfl (lv_at hl 2 rfl) ?_
  refine lv_iconst (v := 1) hx hb dL_refused_845 (by decide) ?_
  refine lv_iconst (v := 1) hx hb dL_refused_846 (by decide) ?_
  refine kG0 (As := [.int 1, .int 1]) (rest := []) ⟨hx, hb, hml, hown, hts⟩ (c_X4_until k o a b h t F F 1 1 _ _ (rf_u1 hk hr)) (cwV 2 hts gL_refused_X4_until rfl rfl rfl (by decide +kernel) ⟨Nat.le_of_ble_eq_true rfl, Nat.le_of_ble_eq_true rfl⟩) hX hP hD hS hA rfl hl.1 rfl (Nat.le_of_ble_eq_true rfl) dL_refused_847 ⟨Nat.le_of_ble_eq_true rfl, Nat.le_of_ble_eq_true rfl⟩ (fun H locs hP hD hS => ?_)
  refine lv_bipush (v := (-4)) hx hb dL_refused_850 (by decide) ?_
  refine lv_icmp_ne (tgt := 897) hx hb dL_refused_852 (by decide) (fun c => absurd c (by decide)) (fun _ => ?_)
  refine lv_aload_n hx hb dL_refused_855 rfl (lv_at hl 2 rfl) ?_
  refine lv_iconst (v := 2) hx hb dL_refused_856 (by decide) ?_
  refine lv_iconst (v := 0) hx hb dL_refused_857 (by decide) ?_
  refine kG0 (As := [.int 2, .int 0]) (rest := []) ⟨hx, hb, hml, hown, hts⟩ (c_X4_until k o a b h t F F 2 0 _ _ (rf_u2 hk hr)) (cwV 2 hts gL_refused_X4_until rfl rfl rfl (by decide +kernel) ⟨Nat.le_of_ble_eq_true rfl, Nat.le_of_ble_eq_true rfl⟩) hX hP hD hS hA rfl hl.1 rfl (Nat.le_of_ble_eq_true rfl) dL_refused_858 ⟨Nat.le_of_ble_eq_true rfl, Nat.le_of_ble_eq_true rfl⟩ (fun H locs hP hD hS => ?_)
  refine lv_bipush (v := (-4)) hx hb dL_refused_861 (by decide) ?_
  refine lv_icmp_ne (tgt := 897) hx hb dL_refused_863 (by decide) (fun c => absurd c (by decide)) (fun _ => ?_)
  refine lv_aload_n hx hb dL_refused_866 rfl (lv_at hl 2 rfl) ?_
  refine lv_iconst (v := 3) hx hb dL_refused_867 (by decide) ?_
  refine lv_iconst (v := 1) hx hb dL_refused_868 (by decide) ?_
  refine kG0 (As := [.int 3, .int 1]) (rest := []) ⟨hx, hb, hml, hown, hts⟩ (c_X4_until k o a b h t F F 3 1 _ _ (rf_u3 hk hr)) (cwV 2 hts gL_refused_X4_until rfl rfl rfl (by decide +kernel) ⟨Nat.le_of_ble_eq_true rfl, Nat.le_of_ble_eq_true rfl⟩) hX hP hD hS hA rfl hl.1 rfl (Nat.le_of_ble_eq_true rfl) dL_refused_869 ⟨Nat.le_of_ble_eq_true rfl, Nat.le_of_ble_eq_true rfl⟩ (fun H locs hP hD hS => ?_)
  refine lv_bipush (v := (-4)) hx hb dL_refused_872 (by decide) ?_
  refine lv_icmp_ne (tgt := 897) hx hb dL_refused_874 (by decide) (fun c => absurd c (by decide)) (fun _ => ?_)
  refine lv_aload_n hx hb dL_refused_877 rfl (lv_at hl 2 rfl) ?_
  refine lv_iconst (v := 5) hx hb dL_refused_878 (by decide) ?_
  refine kC0 (As := [.int 5]) (rest := []) ⟨hx, hb, hml, hown, hts⟩ (c_X4_count k o a b h t F qA qz qS T 5 _ (rf_count5 hr)) (cwV 1 hts gL_refused_X4_count rfl rfl rfl (by decide +kernel) ⟨Nat.le_of_ble_eq_true rfl, Nat.le_of_ble_eq_true rfl⟩) hX hP rfl hl.1 rfl (Nat.le_of_ble_eq_true rfl) dL_refused_879 ⟨Nat.le_of_ble_eq_true rfl, Nat.le_of_ble_eq_true rfl⟩ ?_
  refine lv_bipush (v := (-4)) hx hb dL_refused_882 (by decide) ?_
  refine lv_icmp_ne (tgt := 897) hx hb dL_refused_884 (by decide) (fun c => absurd c (by decide)) (fun _ => ?_)
  exact kk _ _ hP hD hS
set_option maxHeartbeats 4000000 in
set_option maxRecDepth 100000 in
theorem rfz_1 (S0 : CallFix p m c cL_refused 4 s args wsL_refused RL) (hX : xK D ks s) (hE : xEset A s s.heap) (hA : ∀ q, s.heap.size ≤ q → A q) (hk : 100 ≤ k) (hf : RF F (MD.st M) n tt uu) (hr : FD.rows F = 0) (hP : va_P D vwCl (wO ks o a b h t F F qA qz qS T) H) (hD : va_D A (wO ks o a b h t F F qA qz qS T)) (hS : va_S A s.heap H locs) (hl : lv_has ls 4 [(3, .int (FD.rows F)), (1, .long y), (0, .ref o)])
    (kk : ∀ (H : Heap) (locs : List Loc), va_P D vwCl (wO ks o a b h t F F qA qz qS T) H → va_D A (wO ks o a b h t F F qA qz qS T) → va_S A s.heap H locs → W p l e { frames := 8, cells := 0, slots := 0, locals := 172 } s m args below meth c H locs 0 0 Q (F0 m 899 ls [])) : W p l e { frames := 8, cells := 0, slots := 0, locals := 172 } s m args below meth c H locs 0 0 Q (F0 m 887 ls []) := by
  obtain ⟨hx, hb, hml, hown, hts⟩ := id S0
  refine lv_aload_n hx hb dL_refused_887 rfl (lv_at hl 2 rfl) ?_
  refine lv_iconst (v := 0) hx hb dL_refused_888 (by decide) ?_
  refine kSF0 (As := [.int 0]) (rest := []) ⟨hx, hb, hml, hown, hts⟩ (c_X4_ladder k o a b h t F 0 _ (rf_lad0 hk hr)) (cwV 1 hts gL_refused_X4_ladder rfl rfl rfl (by decide +kernel) ⟨Nat.le_of_ble_eq_true rfl, Nat.le_of_ble_eq_true rfl⟩) hX hP rfl hl.1 rfl (Nat.le_of_ble_eq_true rfl) dL_refused_889 ⟨Nat.le_of_ble_eq_true rfl, Nat.le_of_ble_eq_true rfl⟩ ?_
  refine lv_bipush (v := (-4)) hx hb dL_refused_892 (by decide) ?_
  refine lv_icmp_eq (tgt := 899) hx hb dL_refused_894 (by decide) (fun _ => ?_) (fun c => absurd c (by decide))
  exact kk _ _ hP hD hS
set_option maxHeartbeats 4000000 in
set_option maxRecDepth 100000 in
theorem rft_1 (S0 : CallFix p m c cL_refused 4 s args wsL_refused RL) (hX : xK D ks s) (hE : xEset A s s.heap) (hA : ∀ q, s.heap.size ≤ q → A q) (hk : 100 ≤ k) (hf : RF F (MD.st M) n tt uu) (h1 : FD.rows F = 1) (h2 : ¬ 2 ≤ FD.rows F) (h24 : ¬ FD.rows F = 24) (hP : va_P D vwCl (wO ks o a b h t F G qA qz qS T) H) (hD : va_D A (wO ks o a b h t F G qA qz qS T)) (hS : va_S A s.heap H locs) (hl : lv_has ls 4 [(3, .int (FD.rows F)), (1, .long y), (0, .ref o)])
    (kk : ∀ (H : Heap) (locs : List Loc), va_P D vwCl (wO ks o a b h t F G qA qz qS T) H → va_D A (wO ks o a b h t F G qA qz qS T) → va_S A s.heap H locs → W p l e { frames := 8, cells := 0, slots := 0, locals := 172 } s m args below meth c H locs 0 0 Q (F0 m 929 ls [])) : W p l e { frames := 8, cells := 0, slots := 0, locals := 172 } s m args below meth c H locs 0 0 Q (F0 m 899 ls []) := by
  obtain ⟨hx, hb, hml, hown, hts⟩ := id S0
  refine lv_iload_n hx hb dL_refused_899 rfl (lv_at hl 0 rfl) ?_
  refine lv_iconst (v := 1) hx hb dL_refused_900 (by decide) ?_
  refine lv_icmp_ne (tgt := 913) hx hb dL_refused_901 (by decide) (fun c => absurd (h1) c) (fun _ => ?_)
  refine lv_aload_n hx hb dL_refused_904 rfl (lv_at hl 2 rfl) ?_
  refine kFH0 (As := []) (rest := []) ⟨hx, hb, hml, hown, hts⟩ (c_X4_cut k o a b h t F qA qz qS  _ _ _ _ _ (rf_cut0 h2)) (cwV 0 hts gL_refused_X4_cut rfl rfl rfl (by decide +kernel) ⟨Nat.le_of_ble_eq_true rfl, Nat.le_of_ble_eq_true rfl⟩) hX hP hD hS hA rfl hl.1 rfl (Nat.le_of_ble_eq_true rfl) dL_refused_905 ⟨Nat.le_of_ble_eq_true rfl, Nat.le_of_ble_eq_true rfl⟩ (fun H locs hP hD hS => ?_)
  refine lv_bipush (v := (-2)) hx hb dL_refused_908 (by decide) ?_
  refine lv_icmp_ne (tgt := 962) hx hb dL_refused_910 (by decide) (fun c => absurd c (by decide)) (fun _ => ?_)
  refine lv_iload_n hx hb dL_refused_913 rfl (lv_at hl 0 rfl) ?_
  refine lv_bipush (v := 24) hx hb dL_refused_914 (by decide) ?_
  refine lv_icmp_ne (tgt := 929) hx hb dL_refused_916 (by decide) (fun _ => ?_) (fun c => absurd c (h24))
  exact kk _ _ hP hD hS
set_option maxHeartbeats 4000000 in
set_option maxRecDepth 100000 in
theorem rft_24 (S0 : CallFix p m c cL_refused 4 s args wsL_refused RL) (hX : xK D ks s) (hE : xEset A s s.heap) (hA : ∀ q, s.heap.size ≤ q → A q) (hk : 100 ≤ k) (hf : RF F (MD.st M) n tt uu) (h1 : ¬ FD.rows F = 1) (h24 : FD.rows F = 24) (hP : va_P D vwCl (wO ks o a b h t F G qA qz qS T) H) (hD : va_D A (wO ks o a b h t F G qA qz qS T)) (hS : va_S A s.heap H locs) (hl : lv_has ls 4 [(3, .int (FD.rows F)), (1, .long y), (0, .ref o)])
    (kk : ∀ (H : Heap) (locs : List Loc), va_P D vwCl (wO ks o a b h t F G qA qz qS T) H → va_D A (wO ks o a b h t F G qA qz qS T) → va_S A s.heap H locs → W p l e { frames := 8, cells := 0, slots := 0, locals := 172 } s m args below meth c H locs 0 0 Q (F0 m 929 ls [])) : W p l e { frames := 8, cells := 0, slots := 0, locals := 172 } s m args below meth c H locs 0 0 Q (F0 m 899 ls []) := by
  obtain ⟨hx, hb, hml, hown, hts⟩ := id S0
  refine lv_iload_n hx hb dL_refused_899 rfl (lv_at hl 0 rfl) ?_
  refine lv_iconst (v := 1) hx hb dL_refused_900 (by decide) ?_
  refine lv_icmp_ne (tgt := 913) hx hb dL_refused_901 (by decide) (fun _ => ?_) (fun c => absurd c (h1))
  refine lv_iload_n hx hb dL_refused_913 rfl (lv_at hl 0 rfl) ?_
  refine lv_bipush (v := 24) hx hb dL_refused_914 (by decide) ?_
  refine lv_icmp_ne (tgt := 929) hx hb dL_refused_916 (by decide) (fun c => absurd (h24) c) (fun _ => ?_)
  refine lv_aload_n hx hb dL_refused_919 rfl (lv_at hl 2 rfl) ?_
  refine lv_iconst (v := 0) hx hb dL_refused_920 (by decide) ?_
  refine kFH0 (As := [.int 0]) (rest := []) ⟨hx, hb, hml, hown, hts⟩ (c_X4_add k o a b h t F qA qz qS 0 _ _ _ _ _ (rf_add24 h24)) (cwV 1 hts gL_refused_X4_add rfl rfl rfl (by decide +kernel) ⟨Nat.le_of_ble_eq_true rfl, Nat.le_of_ble_eq_true rfl⟩) hX hP hD hS hA rfl hl.1 rfl (Nat.le_of_ble_eq_true rfl) dL_refused_921 ⟨Nat.le_of_ble_eq_true rfl, Nat.le_of_ble_eq_true rfl⟩ (fun H locs hP hD hS => ?_)
  refine lv_bipush (v := (-3)) hx hb dL_refused_924 (by decide) ?_
  refine lv_icmp_ne (tgt := 962) hx hb dL_refused_926 (by decide) (fun c => absurd c (by decide)) (fun _ => ?_)
  exact kk _ _ hP hD hS
set_option maxHeartbeats 4000000 in
set_option maxRecDepth 100000 in
theorem rft_n (S0 : CallFix p m c cL_refused 4 s args wsL_refused RL) (hX : xK D ks s) (hE : xEset A s s.heap) (hA : ∀ q, s.heap.size ≤ q → A q) (hk : 100 ≤ k) (hf : RF F (MD.st M) n tt uu) (h1 : ¬ FD.rows F = 1) (h24 : ¬ FD.rows F = 24) (hP : va_P D vwCl (wO ks o a b h t F G qA qz qS T) H) (hD : va_D A (wO ks o a b h t F G qA qz qS T)) (hS : va_S A s.heap H locs) (hl : lv_has ls 4 [(3, .int (FD.rows F)), (1, .long y), (0, .ref o)])
    (kk : ∀ (H : Heap) (locs : List Loc), va_P D vwCl (wO ks o a b h t F G qA qz qS T) H → va_D A (wO ks o a b h t F G qA qz qS T) → va_S A s.heap H locs → W p l e { frames := 8, cells := 0, slots := 0, locals := 172 } s m args below meth c H locs 0 0 Q (F0 m 929 ls [])) : W p l e { frames := 8, cells := 0, slots := 0, locals := 172 } s m args below meth c H locs 0 0 Q (F0 m 899 ls []) := by
  obtain ⟨hx, hb, hml, hown, hts⟩ := id S0
  refine lv_iload_n hx hb dL_refused_899 rfl (lv_at hl 0 rfl) ?_
  refine lv_iconst (v := 1) hx hb dL_refused_900 (by decide) ?_
  refine lv_icmp_ne (tgt := 913) hx hb dL_refused_901 (by decide) (fun _ => ?_) (fun c => absurd c (h1))
  refine lv_iload_n hx hb dL_refused_913 rfl (lv_at hl 0 rfl) ?_
  refine lv_bipush (v := 24) hx hb dL_refused_914 (by decide) ?_
  refine lv_icmp_ne (tgt := 929) hx hb dL_refused_916 (by decide) (fun _ => ?_) (fun c => absurd c (h24))
  exact kk _ _ hP hD hS
set_option maxHeartbeats 4000000 in
set_option maxRecDepth 100000 in
theorem rf_end (S0 : CallFix p m c cL_refused 4 s args wsL_refused RL) (hX : xK D ks s) (hE : xEset A s s.heap) (hA : ∀ q, s.heap.size ≤ q → A q) (hk : 100 ≤ k) (hf : RF F (MD.st M) n tt uu) {v : Int64} (hv : p_L_state k F qA qz qS T = some v) (hP : va_P D vwCl (wO ks o a b h t F G qA qz qS T) H) (hD : va_D A (wO ks o a b h t F G qA qz qS T)) (hS : va_S A s.heap H locs) (hl : lv_has ls 4 [(3, .int (FD.rows F)), (1, .long (31 * (31 * v + (Int32.toInt64 qz)) + (Int32.toInt64 (TD.length T)))), (0, .ref o)])
    (kk : ∀ (H : Heap) (locs : List Loc), va_P D vwCl (wO ks o a b h t F G qA qz qS T) H → va_D A (wO ks o a b h t F G qA qz qS T) → va_S A s.heap H locs → W p l e { frames := 8, cells := 0, slots := 0, locals := 172 } s m args below meth c H locs 0 0 Q (F0 m 963 ls [.int 1])) : W p l e { frames := 8, cells := 0, slots := 0, locals := 172 } s m args below meth c H locs 0 0 Q (F0 m 929 ls []) := by
  obtain ⟨hx, hb, hml, hown, hts⟩ := id S0
  refine lv_aload_n hx hb dL_refused_929 rfl (lv_at hl 2 rfl) ?_
  refine kSt0 (As := []) (rest := []) ⟨hx, hb, hml, hown, hts⟩ (c_L_state k o a b h t F qA qz qS T v hv) (va_cwS 1 hts gL_refused_L_state rfl rfl rfl (by decide +kernel) ⟨Nat.le_of_ble_eq_true rfl, Nat.le_of_ble_eq_true rfl⟩) hX hP rfl hl.1 rfl (Nat.le_of_ble_eq_true rfl) dL_refused_930 ⟨Nat.le_of_ble_eq_true rfl, Nat.le_of_ble_eq_true rfl⟩ ?_
  refine lv_aload_n hx hb dL_refused_933 rfl (lv_at hl 2 rfl) ?_
  refine lv_bipush (v := 11) hx hb dL_refused_934 (by decide) ?_
  refine kC0 (As := [.int 11]) (rest := [.long v]) ⟨hx, hb, hml, hown, hts⟩ (c_X4_count k o a b h t F qA qz qS T 11 (qz) rfl) (cwV 1 hts gL_refused_X4_count rfl rfl rfl (by decide +kernel) ⟨Nat.le_of_ble_eq_true rfl, Nat.le_of_ble_eq_true rfl⟩) hX hP rfl hl.1 rfl (Nat.le_of_ble_eq_true rfl) dL_refused_936 ⟨Nat.le_of_ble_eq_true rfl, Nat.le_of_ble_eq_true rfl⟩ ?_
  refine lv_i2l hx hb dL_refused_939 rfl ?_
  refine xcallRSL (As := [.long v, .long (Int32.toInt64 qz)]) (rest := []) (wc := []) ⟨hx, hb, hml, hown, hts⟩ (c_L_mixed k v (Int32.toInt64 qz) (31 * v + (Int32.toInt64 qz)) rfl) (va_cwS 2 hts gL_refused_L_mixed rfl rfl rfl (by decide +kernel) ⟨Nat.le_of_ble_eq_true rfl, Nat.le_of_ble_eq_true rfl⟩) hX (va_P0 _ _ _) rfl hl.1 rfl (Nat.le_of_ble_eq_true rfl) dL_refused_940 ⟨Nat.le_of_ble_eq_true rfl, Nat.le_of_ble_eq_true rfl⟩ ?_
  refine lv_aload_n hx hb dL_refused_943 rfl (lv_at hl 2 rfl) ?_
  refine lv_bipush (v := 12) hx hb dL_refused_944 (by decide) ?_
  refine kC0 (As := [.int 12]) (rest := [.long (31 * v + (Int32.toInt64 qz))]) ⟨hx, hb, hml, hown, hts⟩ (c_X4_count k o a b h t F qA qz qS T 12 (TD.length T) rfl) (cwV 1 hts gL_refused_X4_count rfl rfl rfl (by decide +kernel) ⟨Nat.le_of_ble_eq_true rfl, Nat.le_of_ble_eq_true rfl⟩) hX hP rfl hl.1 rfl (Nat.le_of_ble_eq_true rfl) dL_refused_946 ⟨Nat.le_of_ble_eq_true rfl, Nat.le_of_ble_eq_true rfl⟩ ?_
  refine lv_i2l hx hb dL_refused_949 rfl ?_
  refine xcallRSL (As := [.long (31 * v + (Int32.toInt64 qz)), .long (Int32.toInt64 (TD.length T))]) (rest := []) (wc := []) ⟨hx, hb, hml, hown, hts⟩ (c_L_mixed k (31 * v + (Int32.toInt64 qz)) (Int32.toInt64 (TD.length T)) (31 * (31 * v + (Int32.toInt64 qz)) + (Int32.toInt64 (TD.length T))) rfl) (va_cwS 2 hts gL_refused_L_mixed rfl rfl rfl (by decide +kernel) ⟨Nat.le_of_ble_eq_true rfl, Nat.le_of_ble_eq_true rfl⟩) hX (va_P0 _ _ _) rfl hl.1 rfl (Nat.le_of_ble_eq_true rfl) dL_refused_950 ⟨Nat.le_of_ble_eq_true rfl, Nat.le_of_ble_eq_true rfl⟩ ?_
  refine lv_lload_n hx hb dL_refused_953 rfl (lv_at hl 1 rfl) ?_
  refine W.lcmp hx hb dL_refused_954 ?_
  refine lv_if_ne (tgt := 962) hx hb dL_refused_955 (by decide) (fun c => absurd ((lg_cmp_eq _ _).mpr rfl) c) (fun _ => ?_)
  refine lv_iconst (v := 1) hx hb dL_refused_958 (by decide) ?_
  refine lv_goto (tgt := 963) hx hb dL_refused_959 (by decide) ?_
  exact kk _ _ hP hD hS
end REFUSED
set_option maxHeartbeats 4000000 in
set_option maxRecDepth 100000 in
theorem c_L_refused {l : Launch} {D : va_G} {ks : K3} (k : Nat) (o : Nat) (a b : AF) (h : AH) (t : AT) (F G G1 : FD) (qA : Nat → AF) (qz : Int32) (qS : Nat → FD) (T : TD) (M : MD) (hk : 300 ≤ k) (hR : RS F qz qS T M) (hG : G1 = if FD.rows F = 0 then F else G) : MetIE l yL_refused wsL_refused { frames := 8, cells := 0, slots := 0, locals := 172 } D ks [.ref o] (wO ks o a b h t F G qA qz qS T) (wO ks o a b h t F G1 qA qz qS T) 1 True xEset := by
  obtain ⟨v, hv⟩ := st_tot (A := qA) hk hR
  obtain ⟨⟨n, tt, uu, hf⟩, -, -⟩ := id hR
  have hn := hf.1
  have hk1 : 100 ≤ k := by omega
  refine MetIE.of (cc := cL_refused) (maxL := 4) (ret := (some .boolean)) (by decide +kernel) rfl (Nat.le_of_ble_eq_true rfl) ?_ ⟨_, rfl⟩
  intro p e s m below meth c Q A hx hb hml hts hown hP hX hD hA hE hret ls hl
  replace hl : lv_has ls 4 [(0, .ref o)] := hl
  have hS : va_S A s.heap s.heap [] := va_S.rf
  refine lv_aload_n hx hb dL_refused_0 rfl (lv_at hl 0 rfl) ?_
  refine kSt0 (As := []) (rest := []) ⟨hx, hb, hml, hown, hts⟩ (c_L_state k o a b h t F qA qz qS T v hv) (va_cwS 1 hts gL_refused_L_state rfl rfl rfl (by decide +kernel) ⟨Nat.le_of_ble_eq_true rfl, Nat.le_of_ble_eq_true rfl⟩) hX hP rfl hl.1 rfl (Nat.le_of_ble_eq_true rfl) dL_refused_1 ⟨Nat.le_of_ble_eq_true rfl, Nat.le_of_ble_eq_true rfl⟩ ?_
  refine lv_aload_n hx hb dL_refused_4 rfl (lv_at hl 0 rfl) ?_
  refine lv_bipush (v := 11) hx hb dL_refused_5 (by decide) ?_
  refine kC0 (As := [.int 11]) (rest := [.long v]) ⟨hx, hb, hml, hown, hts⟩ (c_X4_count k o a b h t F qA qz qS T 11 (qz) rfl) (cwV 1 hts gL_refused_X4_count rfl rfl rfl (by decide +kernel) ⟨Nat.le_of_ble_eq_true rfl, Nat.le_of_ble_eq_true rfl⟩) hX hP rfl hl.1 rfl (Nat.le_of_ble_eq_true rfl) dL_refused_7 ⟨Nat.le_of_ble_eq_true rfl, Nat.le_of_ble_eq_true rfl⟩ ?_
  refine lv_i2l hx hb dL_refused_10 rfl ?_
  refine xcallRSL (As := [.long v, .long (Int32.toInt64 qz)]) (rest := []) (wc := []) ⟨hx, hb, hml, hown, hts⟩ (c_L_mixed k v (Int32.toInt64 qz) (31 * v + (Int32.toInt64 qz)) rfl) (va_cwS 2 hts gL_refused_L_mixed rfl rfl rfl (by decide +kernel) ⟨Nat.le_of_ble_eq_true rfl, Nat.le_of_ble_eq_true rfl⟩) hX (va_P0 _ _ _) rfl hl.1 rfl (Nat.le_of_ble_eq_true rfl) dL_refused_11 ⟨Nat.le_of_ble_eq_true rfl, Nat.le_of_ble_eq_true rfl⟩ ?_
  refine lv_aload_n hx hb dL_refused_14 rfl (lv_at hl 0 rfl) ?_
  refine lv_bipush (v := 12) hx hb dL_refused_15 (by decide) ?_
  refine kC0 (As := [.int 12]) (rest := [.long (31 * v + (Int32.toInt64 qz))]) ⟨hx, hb, hml, hown, hts⟩ (c_X4_count k o a b h t F qA qz qS T 12 (TD.length T) rfl) (cwV 1 hts gL_refused_X4_count rfl rfl rfl (by decide +kernel) ⟨Nat.le_of_ble_eq_true rfl, Nat.le_of_ble_eq_true rfl⟩) hX hP rfl hl.1 rfl (Nat.le_of_ble_eq_true rfl) dL_refused_17 ⟨Nat.le_of_ble_eq_true rfl, Nat.le_of_ble_eq_true rfl⟩ ?_
  refine lv_i2l hx hb dL_refused_20 rfl ?_
  refine xcallRSL (As := [.long (31 * v + (Int32.toInt64 qz)), .long (Int32.toInt64 (TD.length T))]) (rest := []) (wc := []) ⟨hx, hb, hml, hown, hts⟩ (c_L_mixed k (31 * v + (Int32.toInt64 qz)) (Int32.toInt64 (TD.length T)) (31 * (31 * v + (Int32.toInt64 qz)) + (Int32.toInt64 (TD.length T))) rfl) (va_cwS 2 hts gL_refused_L_mixed rfl rfl rfl (by decide +kernel) ⟨Nat.le_of_ble_eq_true rfl, Nat.le_of_ble_eq_true rfl⟩) hX (va_P0 _ _ _) rfl hl.1 rfl (Nat.le_of_ble_eq_true rfl) dL_refused_21 ⟨Nat.le_of_ble_eq_true rfl, Nat.le_of_ble_eq_true rfl⟩ ?_
  refine lv_lstore_n (lv' := [(1, .long (31 * (31 * v + (Int32.toInt64 qz)) + (Int32.toInt64 (TD.length T)))), (0, .ref o)]) hx hb dL_refused_24 rfl hl (by decide) rfl (fun ls hl => ?_)
  refine lv_aload_n hx hb dL_refused_25 rfl (lv_at hl 1 rfl) ?_
  refine lv_iconst (v := 0) hx hb dL_refused_26 (by decide) ?_
  refine kC0 (As := [.int 0]) (rest := []) ⟨hx, hb, hml, hown, hts⟩ (c_X4_count k o a b h t F qA qz qS T 0 (FD.rows F) rfl) (cwV 1 hts gL_refused_X4_count rfl rfl rfl (by decide +kernel) ⟨Nat.le_of_ble_eq_true rfl, Nat.le_of_ble_eq_true rfl⟩) hX hP rfl hl.1 rfl (Nat.le_of_ble_eq_true rfl) dL_refused_27 ⟨Nat.le_of_ble_eq_true rfl, Nat.le_of_ble_eq_true rfl⟩ ?_
  refine lv_istore_n (lv' := [(3, .int (FD.rows F)), (1, .long (31 * (31 * v + (Int32.toInt64 qz)) + (Int32.toInt64 (TD.length T)))), (0, .ref o)]) hx hb dL_refused_30 rfl hl (by decide) rfl (fun ls hl => ?_)
  have S0 : CallFix p m c cL_refused 4 s ([.ref o] : List Value).toArray wsL_refused RL := ⟨hx, hb, hml, hown, hts⟩
  have fin : ∀ (X : FD), X = G1 → ∀ (H : Heap) (locs : List Loc), va_P D vwCl (wO ks o a b h t F X qA qz qS T) H → va_D A (wO ks o a b h t F X qA qz qS T) → va_S A s.heap H locs → W p l e { frames := 8, cells := 0, slots := 0, locals := 172 } s m ([.ref o] : List Value).toArray below meth c H locs 0 0 Q (F0 m 929 ls []) := by
    intro X hXG H locs hP hD hS
    subst hXG
    exact rf_end S0 hX hE hA hk1 hf hv hP hD hS hl (fun H locs hP hD hS => hret trivial _ _ _ _ dL_refused_963 (fun ty h => by cases h; rfl) hP hD hS)
  have i3 : decode cL_refused 719 = .ok (.iload_n 3, 1) := dL_refused_719
  refine rfd_0 S0 hX hE hA hk1 hf hP hD hS hl (fun H locs hP hD hS => ?_)
  refine rfd_1 S0 hX hE hA hk1 hf hP hD hS hl (fun H locs hP hD hS => ?_)
  refine rfd_2 S0 hX hE hA hk1 hf hP hD hS hl (fun H locs hP hD hS => ?_)
  refine rfd_3 S0 hX hE hA hk1 hf hP hD hS hl (fun H locs hP hD hS => ?_)
  refine rfd_4 S0 hX hE hA hk1 hf hP hD hS hl (fun H locs hP hD hS => ?_)
  refine rfd_5 S0 hX hE hA hk1 hf hP hD hS hl (fun H locs hP hD hS => ?_)
  refine rfd_6 S0 hX hE hA hk1 hf hP hD hS hl (fun H locs hP hD hS => ?_)
  refine rfd_7 S0 hX hE hA hk1 hf hP hD hS hl (fun H locs hP hD hS => ?_)
  refine rfd_8 S0 hX hE hA hk1 hf hP hD hS hl (fun H locs hP hD hS => ?_)
  refine rfd_9 S0 hX hE hA hk1 hf hP hD hS hl (fun H locs hP hD hS => ?_)
  refine lv_iload_n hx hb dL_refused_719 rfl (lv_at hl 0 rfl) ?_
  by_cases h0 : n = 0
  · have hr : FD.rows F = 0 := by rw [hf.2.1, h0]; rfl
    have e0 : F = G1 := by rw [hG, if_pos hr]
    refine lv_if_le (tgt := 812) hx hb dL_refused_720 (by decide) (fun _ => ?_) (fun c => absurd (show FD.rows F ≤ 0 by rw [hr]; exact Int32.le_refl 0) c)
    refine lv_iload_n hx hb dL_refused_812 rfl (lv_at hl 0 rfl) ?_
    refine lv_if_ne (tgt := 899) hx hb dL_refused_813 (by decide) (fun c => absurd hr c) (fun _ => ?_)
    refine rfz_0 S0 hX hE hA hk1 hf hr hP hD hS hl (fun H locs hP hD hS => ?_)
    refine rfz_1 S0 hX hE hA hk1 hf hr hP hD hS hl (fun H locs hP hD hS => ?_)
    refine rft_n S0 hX hE hA hk1 hf (by rw [hr]; decide) (by rw [hr]; decide) hP hD hS hl (fun H locs hP hD hS => ?_)
    exact fin F e0 H locs hP hD hS
  · have h0 : 0 < n := by omega
    have hr : ¬ FD.rows F = 0 := by rw [hf.2.1]; exact nI_ne0 (by omega) (by omega)
    have e0 : G = G1 := by rw [hG, if_neg hr]
    refine lv_if_le (tgt := 812) hx hb dL_refused_720 (by decide) (fun c => absurd c (by rw [hf.2.1]; exact nI_nle (by omega) (by omega))) (fun _ => ?_)
    refine rfp_0 S0 hX hE hA hk1 hf h0 hP hD hS hl (fun H locs hP hD hS => ?_)
    refine rfp_1 S0 hX hE hA hk1 hf h0 hP hD hS hl (fun H locs hP hD hS => ?_)
    refine lv_iload_n hx hb dL_refused_812 rfl (lv_at hl 0 rfl) ?_
    refine lv_if_ne (tgt := 899) hx hb dL_refused_813 (by decide) (fun _ => ?_) (fun c => absurd c hr)
    by_cases h1 : n = 1
    · refine rft_1 S0 hX hE hA hk1 hf (by rw [hf.2.1, h1]; rfl) (by rw [hf.2.1, h1]; decide) (by rw [hf.2.1, h1]; decide) hP hD hS hl (fun H locs hP hD hS => ?_)
      exact fin G e0 H locs hP hD hS
    · have g1 : ¬ FD.rows F = 1 := by rw [hf.2.1]; exact fun w => h1 ((nI_eq (b := 1) (by omega) (by decide)).mp w)
      by_cases h24 : n = 24
      · refine rft_24 S0 hX hE hA hk1 hf g1 (by rw [hf.2.1, h24]; rfl) hP hD hS hl (fun H locs hP hD hS => ?_)
        exact fin G e0 H locs hP hD hS
      · refine rft_n S0 hX hE hA hk1 hf g1 (by rw [hf.2.1]; exact fun w => h24 ((nI_eq (b := 24) (by omega) (by decide)).mp w)) hP hD hS hl (fun H locs hP hD hS => ?_)
        exact fin G e0 H locs hP hD hS
