/-! p23: the law's known, call by call. -/
def kn_F1 : FD := mkFD (tb []) (tb [20, 1, 10, 30, 5, 12, 3000]) (tb []) 0 3 0 0 0 0 0
def kn_F2 : FD := mkFD (tb [1000]) (tb [20, 1, 10, 30, 5, 12, 3000]) (tb [1000, 1000]) 1 0 0 0 0 0 0
def kn_F3 : FD := mkFD (tb [979]) (tb [20, 1, 10, 30, 5, 12, 3000]) (tb [1000, 979, 20, 0, 1]) 1 1 0 0 0 0 0
def kn_F4 : FD := mkFD (tb [20, 40, 60]) (tb [20, 1, 10, 30, 5, 12, 3000]) (tb [1120, 120, 20, 0, 1, 0, 979]) 3 1 0 0 0 0 0
def kn_F5 : FD := mkFD (tb [19, 29, 69]) (tb [20, 1, 10, 30, 5, 12, 3000]) (tb [1120, 117, 20, 0, 4, 0, 979]) 3 2 0 0 0 0 0
def kn_F6 : FD := mkFD (tb [18, 28, 58]) (tb [20, 1, 10, 30, 5, 12, 3000]) (tb [1120, 104, 30, 0, 7, 0, 979]) 3 3 0 0 0 0 0
def kn_F7 : FD := mkFD (tb [18, 28, 58]) (tb [20, 1, 10, 30, 5, 1, 3000]) (tb [1120, 104, 30, 0, 7, 0, 979]) 3 3 0 0 0 0 0
def kn_F8 : FD := mkFD (tb [17, 27, 47]) (tb [20, 1, 10, 30, 5, 1, 3000]) (tb [1120, 0, 40, 0, 10, 91, 979]) 0 5 0 1 2 2 3
def kn_F9 : FD := mkFD (tb [17, 27, 47]) (tb [20, 1, 10, 30, 5, 1, 3000]) (tb [1120, 0, 40, 0, 10, 91, 979]) 0 9 0 1 2 2 3
def kn_F10 : FD := mkFD (tb [17, 27, 47]) (tb [20, 1, 10, 30, 5, 24, 3000]) (tb [1120, 0, 40, 0, 10, 91, 979]) 0 9 0 1 2 2 3
def kn_F11 : FD := mkFD (tb [4, 104, 47]) (tb [20, 1, 10, 30, 5, 24, 3000]) (tb [1228, 108, 40, 0, 10, 91, 979]) 2 9 0 1 2 2 3
def kn_F12 : FD := mkFD (tb [3, 93, 47]) (tb [20, 1, 10, 30, 5, 24, 3000]) (tb [1228, 0, 50, 0, 12, 187, 979]) 0 10 0 2 1 0 9
def kn_F13 : FD := mkFD (tb [5000, 93, 47]) (tb [20, 1, 10, 30, 5, 24, 3000]) (tb [6228, 5000, 50, 0, 12, 187, 979]) 1 10 0 2 1 0 9
def kn_F14 : FD := mkFD (tb [4499, 93, 47]) (tb [20, 1, 10, 30, 5, 24, 3000]) (tb [6228, 4499, 550, 0, 13, 187, 979]) 1 11 0 2 1 0 9
def kn_F15 : FD := mkFD (tb [4499, 93, 47]) (tb [20, 1, 10, 30, 5, 24, 100]) (tb [6228, 4499, 550, 0, 13, 187, 979]) 1 11 0 2 1 0 9
def kn_F16 : FD := mkFD (tb [4094, 93, 47]) (tb [20, 1, 10, 30, 5, 24, 100]) (tb [6228, 4094, 0, 954, 14, 187, 979]) 1 12 1 2 1 0 9
def kn_F17 : FD := mkFD (tb [5000, 93, 47]) (tb [20, 1, 10, 30, 5, 24, 100]) (tb [7134, 5000, 0, 954, 14, 187, 979]) 1 12 1 2 1 0 9
def kn_F18 : FD := mkFD (tb [0, 93, 47]) (tb [20, 1, 10, 30, 5, 24, 100]) (tb [7134, 0, 0, 954, 14, 187, 5979]) 1 12 1 2 1 0 9
def kn_F19 : FD := mkFD (tb [0, 7, 47]) (tb [20, 1, 10, 30, 5, 24, 100]) (tb [7141, 7, 0, 954, 14, 187, 5979]) 2 12 1 2 1 0 9
def kn_F20 : FD := mkFD (tb [0, 0, 47]) (tb [20, 1, 10, 30, 5, 24, 100]) (tb [7141, 0, 0, 954, 14, 187, 5986]) 1 12 1 2 1 0 9
def kn_F21 : FD := mkFD (tb [5000, 5000, 47]) (tb [20, 1, 10, 30, 5, 24, 100]) (tb [17141, 10000, 0, 954, 14, 187, 5986]) 2 12 1 2 1 0 9
def kn_F22 : FD := mkFD (tb [4499, 4999, 47]) (tb [20, 1, 10, 30, 5, 24, 100]) (tb [17141, 9498, 0, 1454, 16, 187, 5986]) 2 13 2 2 1 0 9
def kn_F23 : FD := mkFD (tb [4499, 4999, 47]) (tb [100, 1, 10, 30, 5, 24, 100]) (tb [17141, 9498, 0, 1454, 16, 187, 5986]) 2 13 2 2 1 0 9
def kn_F24 : FD := mkFD (tb [4499, 4999, 47]) (tb [100, 1, 10, 30, 5, 24, 100000]) (tb [17141, 9498, 0, 1454, 16, 187, 5986]) 2 13 2 2 1 0 9
def kn_F25 : FD := mkFD (tb [2474, 4523, 47]) (tb [100, 1, 10, 30, 5, 24, 100000]) (tb [17141, 6997, 2499, 1454, 18, 187, 5986]) 2 14 2 2 1 0 9
theorem kn_k0 : chk (p_X4_go 60 fd0 A00 0 S00 3) 0 1 kn_F1 = true := by decide +kernel
theorem kn_k1 : p_X4_count 60 kn_F1 A00 1 S00 td0 1 = some 3 := by decide +kernel
theorem kn_k2 : chk (p_X4_dip 60 fd0 A00 0 S00 1 1000 0) 1000 1 kn_F2 = true := by decide +kernel
theorem kn_k3 : p_X4_row 60 kn_F2 0 1 = some 2660 := by decide +kernel
theorem kn_k4 : p_X4_row 60 kn_F2 0 2 = some 184 := by decide +kernel
theorem kn_k5 : p_X4_row 60 kn_F2 0 3 = some 36 := by decide +kernel
theorem kn_k6 : p_X4_row 60 kn_F2 0 4 = some 436 := by decide +kernel
theorem kn_k7 : p_X4_row 60 kn_F2 0 5 = some 0 := by decide +kernel
theorem kn_k8 : p_X4_row 60 kn_F2 0 6 = some 5 := by decide +kernel
theorem kn_k9 : p_X4_row 60 kn_F2 0 7 = some 0 := by decide +kernel
theorem kn_k10 : p_X4_count 60 kn_F2 A00 1 S00 td0 5 = some 5 := by decide +kernel
theorem kn_k11 : chk (p_X4_go 60 kn_F2 A00 0 S00 1) 1 1 kn_F3 = true := by decide +kernel
theorem kn_k12 : p_X4_row 60 kn_F3 0 0 = some 979 := by decide +kernel
theorem kn_k13 : p_X4_count 60 kn_F3 A00 2 S00 td0 20 = some 1000 := by decide +kernel
theorem kn_k14 : p_X4_count 60 kn_F3 A00 2 S00 td0 21 = some 979 := by decide +kernel
theorem kn_k15 : p_X4_count 60 kn_F3 A00 2 S00 td0 22 = some 20 := by decide +kernel
theorem kn_k16 : p_X4_count 60 kn_F3 A00 2 S00 td0 24 = some 1 := by decide +kernel
theorem kn_k17 : chk (p_X4_dip 60 kn_F3 A00 0 S00 3 20 20) 120 1 kn_F4 = true := by decide +kernel
theorem kn_k18 : p_X4_count 60 kn_F4 A00 3 S00 td0 26 = some 979 := by decide +kernel
theorem kn_k19 : p_X4_count 60 kn_F4 A00 3 S00 td0 20 = some 1120 := by decide +kernel
theorem kn_k20 : p_X4_row 60 kn_F4 0 7 = some 1 := by decide +kernel
theorem kn_k21 : p_X4_row 60 kn_F4 0 5 = some 0 := by decide +kernel
theorem kn_k22 : chk (p_X4_go 60 kn_F4 A00 0 S00 1) 1 1 kn_F5 = true := by decide +kernel
theorem kn_k23 : p_X4_row 60 kn_F5 0 0 = some 19 := by decide +kernel
theorem kn_k24 : p_X4_row 60 kn_F5 1 0 = some 29 := by decide +kernel
theorem kn_k25 : p_X4_row 60 kn_F5 2 0 = some 69 := by decide +kernel
theorem kn_k26 : p_X4_count 60 kn_F5 A00 4 S00 td0 2 = some 2 := by decide +kernel
theorem kn_k27 : chk (p_X4_go 60 kn_F5 A00 0 S00 1) 1 1 kn_F6 = true := by decide +kernel
theorem kn_k28 : p_X4_row 60 kn_F6 2 0 = some 58 := by decide +kernel
theorem kn_k29 : p_X4_row 60 kn_F6 1 0 = some 28 := by decide +kernel
theorem kn_k30 : p_X4_count 60 kn_F6 A00 5 S00 td0 22 = some 30 := by decide +kernel
theorem kn_k31 : chk (p_X4_set 60 kn_F6 A00 0 S00 5 1) 12 1 kn_F7 = true := by decide +kernel
theorem kn_k32 : (p_X4_until 60 kn_F7 fd0 0 0).map (fun q => q.1) = some 1 := by decide +kernel
theorem kn_k33 : (p_X4_ifGo 60 kn_F7 fd0 0 1).map (fun q => q.1) = some (-4) := by decide +kernel
theorem kn_k34 : p_X0_hasRow 60 kn_F7 0 = some 1 := by decide +kernel
theorem kn_k35 : p_X4_count 60 kn_F7 A00 5 S00 td0 6 = some 0 := by decide +kernel
theorem kn_k36 : p_X4_count 60 kn_F7 A00 5 S00 td0 7 = some (-4) := by decide +kernel
theorem kn_k37 : p_X4_count 60 kn_F7 A00 5 S00 td0 8 = some (-4) := by decide +kernel
theorem kn_k38 : chk (p_X4_go 60 kn_F7 A00 0 S00 2) 1 1 kn_F8 = true := by decide +kernel
theorem kn_k39 : p_X4_count 60 kn_F8 A00 5 S00 td0 0 = some 0 := by decide +kernel
theorem kn_k40 : p_X4_count 60 kn_F8 A00 5 S00 td0 6 = some 2 := by decide +kernel
theorem kn_k41 : p_X4_count 60 kn_F8 A00 5 S00 td0 7 = some 2 := by decide +kernel
theorem kn_k42 : p_X4_count 60 kn_F8 A00 5 S00 td0 8 = some 3 := by decide +kernel
theorem kn_k43 : p_X4_count 60 kn_F8 A00 5 S00 td0 9 = some 1 := by decide +kernel
theorem kn_k44 : p_X4_count 60 kn_F8 A00 5 S00 td0 25 = some 91 := by decide +kernel
theorem kn_k45 : p_X4_count 60 kn_F8 A00 5 S00 td0 22 = some 40 := by decide +kernel
theorem kn_k46 : chk (p_X4_go 60 kn_F8 A00 0 S00 4) 0 1 kn_F9 = true := by decide +kernel
theorem kn_k47 : p_X4_count 60 kn_F9 A00 5 S00 td0 1 = some 9 := by decide +kernel
theorem kn_k48 : chk (p_X4_set 60 kn_F9 A00 0 S00 5 24) 1 1 kn_F10 = true := by decide +kernel
theorem kn_k49 : chk (p_X4_dip 60 kn_F10 A00 0 S00 2 4 100) 108 1 kn_F11 = true := by decide +kernel
theorem kn_k50 : chk (p_X4_go 60 kn_F11 A00 0 S00 1) 1 1 kn_F12 = true := by decide +kernel
theorem kn_k51 : p_X4_count 60 kn_F12 A00 5 S00 td0 6 = some 1 := by decide +kernel
theorem kn_k52 : p_X4_count 60 kn_F12 A00 5 S00 td0 7 = some 0 := by decide +kernel
theorem kn_k53 : p_X4_count 60 kn_F12 A00 5 S00 td0 8 = some 9 := by decide +kernel
theorem kn_k54 : p_X4_count 60 kn_F12 A00 5 S00 td0 25 = some 187 := by decide +kernel
theorem kn_k55 : p_X4_count 60 kn_F12 A00 5 S00 td0 22 = some 50 := by decide +kernel
theorem kn_k56 : p_X4_count 60 kn_F12 A00 5 S00 td0 24 = some 12 := by decide +kernel
theorem kn_k57 : chk (p_X4_dip 60 kn_F12 A00 0 S00 1 5000 0) 5000 1 kn_F13 = true := by decide +kernel
theorem kn_k58 : chk (p_X4_go 60 kn_F13 A00 0 S00 1) 1 1 kn_F14 = true := by decide +kernel
theorem kn_k59 : p_X4_row 60 kn_F14 0 0 = some 4499 := by decide +kernel
theorem kn_k60 : p_X4_count 60 kn_F14 A00 5 S00 td0 22 = some 550 := by decide +kernel
theorem kn_k61 : chk (p_X4_set 60 kn_F14 A00 0 S00 6 100) 3000 1 kn_F15 = true := by decide +kernel
theorem kn_k62 : (p_X4_until 60 kn_F15 fd0 3 1).map (fun q => q.1) = some 1 := by decide +kernel
theorem kn_k63 : chk (p_X4_go 60 kn_F15 A00 0 S00 1) 1 1 kn_F16 = true := by decide +kernel
theorem kn_k64 : p_X4_row 60 kn_F16 0 0 = some 4094 := by decide +kernel
theorem kn_k65 : p_X4_count 60 kn_F16 A00 5 S00 td0 23 = some 954 := by decide +kernel
theorem kn_k66 : p_X4_count 60 kn_F16 A00 5 S00 td0 22 = some 0 := by decide +kernel
theorem kn_k67 : p_X4_count 60 kn_F16 A00 5 S00 td0 10 = some 1 := by decide +kernel
theorem kn_k68 : chk (p_X4_pour 60 kn_F16 A00 0 S00 0 907) (-3) 0 kn_F16 = true := by decide +kernel
theorem kn_k69 : chk (p_X4_pour 60 kn_F16 A00 0 S00 0 906) 5000 1 kn_F17 = true := by decide +kernel
theorem kn_k70 : chk (p_X4_thin 60 kn_F17 A00 0 S00 0 5000) 5000 1 kn_F18 = true := by decide +kernel
theorem kn_k71 : chk (p_X4_thin 60 kn_F18 A00 0 S00 0 1) 0 1 kn_F18 = true := by decide +kernel
theorem kn_k72 : chk (p_X4_cut 60 kn_F18 A00 0 S00) (-2) 0 kn_F18 = true := by decide +kernel
theorem kn_k73 : chk (p_X4_add 60 kn_F18 A00 0 S00 7) 2 1 kn_F19 = true := by decide +kernel
theorem kn_k74 : chk (p_X4_cut 60 kn_F19 A00 0 S00) 7 1 kn_F20 = true := by decide +kernel
theorem kn_k75 : chk (p_X4_dip 60 kn_F20 A00 0 S00 2 5000 0) 10000 1 kn_F21 = true := by decide +kernel
theorem kn_k76 : chk (p_X4_go 60 kn_F21 A00 0 S00 1) 1 1 kn_F22 = true := by decide +kernel
theorem kn_k77 : p_X4_row 60 kn_F22 0 0 = some 4499 := by decide +kernel
theorem kn_k78 : p_X4_row 60 kn_F22 1 0 = some 4999 := by decide +kernel
theorem kn_k79 : p_X4_count 60 kn_F22 A00 5 S00 td0 10 = some 2 := by decide +kernel
theorem kn_k80 : p_X4_count 60 kn_F22 A00 5 S00 td0 20 = some 17141 := by decide +kernel
theorem kn_k81 : p_X4_count 60 kn_F22 A00 5 S00 td0 21 = some 9498 := by decide +kernel
theorem kn_k82 : p_X4_count 60 kn_F22 A00 5 S00 td0 22 = some 0 := by decide +kernel
theorem kn_k83 : p_X4_count 60 kn_F22 A00 5 S00 td0 23 = some 1454 := by decide +kernel
theorem kn_k84 : p_X4_count 60 kn_F22 A00 5 S00 td0 24 = some 16 := by decide +kernel
theorem kn_k85 : p_X4_count 60 kn_F22 A00 5 S00 td0 25 = some 187 := by decide +kernel
theorem kn_k86 : p_X4_count 60 kn_F22 A00 5 S00 td0 26 = some 5986 := by decide +kernel
theorem kn_k87 : chk (p_X4_set 60 kn_F22 A00 0 S00 0 100) 20 1 kn_F23 = true := by decide +kernel
theorem kn_k88 : chk (p_X4_set 60 kn_F23 A00 0 S00 6 100000) 100 1 kn_F24 = true := by decide +kernel
theorem kn_k89 : chk (p_X4_go 60 kn_F24 A00 0 S00 1) 1 1 kn_F25 = true := by decide +kernel
theorem kn_k90 : p_X4_row 60 kn_F25 1 0 = some 4523 := by decide +kernel
theorem kn_k91 : p_X4_row 60 kn_F25 0 0 = some 2474 := by decide +kernel
section KN
variable {p : Program} {l : Launch} {e : Env} {s : State} {m : MethodId} {args : Array Value} {below : List Frame} {meth : Method} {c : Code} {Q : State → Prop} {A : Nat → Prop} {D : va_G} {ks : K3} {H : Heap} {locs : List Loc} {ls : Array Slot} {o : Nat} {a b : AF} {h : AH} {t : AT} {G : FD} {qA : Nat → AF} {qS : Nat → FD}
set_option maxHeartbeats 4000000 in
set_option maxRecDepth 100000 in
theorem kn_s0 (S0 : CallFix p m c cL_known 1 s args wsL_known RL) (hX : xK D ks s) (hE : xEset A s s.heap) (hA : ∀ q, s.heap.size ≤ q → A q) (hP : va_P D vwCl (wO ks o a b h t fd0 G qA 0 qS td0) H) (hD : va_D A (wO ks o a b h t fd0 G qA 0 qS td0)) (hS : va_S A s.heap H locs) (hl : lv_has ls 1 [(0, .ref o)])
    (kk : ∀ (G : FD) (qA : Nat → AF) (qS : Nat → FD) (H : Heap) (locs : List Loc), va_P D vwCl (wO ks o a b h t kn_F2 G qA 1 qS td0) H → va_D A (wO ks o a b h t kn_F2 G qA 1 qS td0) → va_S A s.heap H locs → W p l e { frames := 9, cells := 34, slots := 477, locals := 195 } s m args below meth c H locs 34 477 Q (F0 m 87 ls [])) : W p l e { frames := 9, cells := 34, slots := 477, locals := 195 } s m args below meth c H locs 34 477 Q (F0 m 8 ls []) := by
  obtain ⟨hx, hb, hml, hown, hts⟩ := id S0
  refine lv_aload_n hx hb dL_known_8 rfl (lv_at hl 0 rfl) ?_
  refine kRef0 (As := []) (rest := []) ⟨hx, hb, hml, hown, hts⟩ (c_L_refused 300 o a b h t fd0 G fd0 qA 0 qS td0 md0 (by decide) (rs0 _) rfl) (va_cwS 1 hts gL_known_L_refused rfl rfl rfl (by decide +kernel) ⟨Nat.le_of_ble_eq_true rfl, Nat.le_of_ble_eq_true rfl⟩) hX hP hD hS hA hE ok_xEset rfl hl.1 rfl (Nat.le_of_ble_eq_true rfl) dL_known_9 ⟨Nat.le_of_ble_eq_true rfl, Nat.le_of_ble_eq_true rfl⟩ (fun H locs hP hD hS => ?_)
  refine lv_if_eq (tgt := 149) hx hb dL_known_12 (by decide) (fun c => absurd c (by decide)) (fun _ => ?_)
  refine lv_aload_n hx hb dL_known_15 rfl (lv_at hl 0 rfl) ?_
  refine kFH0 (As := []) (rest := []) ⟨hx, hb, hml, hown, hts⟩ (c_X4_undo 60 o a b h t fd0 qA 0 qS _ _ _ _ _ (show p_X4_undo 60 fd0 qA 0 qS = some (-2, fd0, qA, 0, qS) from rfl)) (cwV 0 hts gL_known_X4_undo rfl rfl rfl (by decide +kernel) ⟨Nat.le_of_ble_eq_true rfl, Nat.le_of_ble_eq_true rfl⟩) hX hP hD hS hA rfl hl.1 rfl (Nat.le_of_ble_eq_true rfl) dL_known_16 ⟨Nat.le_of_ble_eq_true rfl, Nat.le_of_ble_eq_true rfl⟩ (fun H locs hP hD hS => ?_)
  refine lv_bipush (v := (-2)) hx hb dL_known_19 (by decide) ?_
  refine lv_icmp_ne (tgt := 149) hx hb dL_known_21 (by decide) (fun c => absurd c (by decide)) (fun _ => ?_)
  refine lv_aload_n hx hb dL_known_24 rfl (lv_at hl 0 rfl) ?_
  refine lv_iconst (v := 3) hx hb dL_known_25 (by decide) ?_
  obtain ⟨F1, e1, g1⟩ := step0 (A := qA) (S := qS) (uni_go 60 (by decide) fd0 3) kn_k0
  refine kFH0 (As := [.int 3]) (rest := []) ⟨hx, hb, hml, hown, hts⟩ (c_X4_go 60 o a b h t fd0 qA 0 qS 3 _ _ _ _ _ e1) (cwV 1 hts gL_known_X4_go rfl rfl rfl (by decide +kernel) ⟨Nat.le_of_ble_eq_true rfl, Nat.le_of_ble_eq_true rfl⟩) hX hP hD hS hA rfl hl.1 rfl (Nat.le_of_ble_eq_true rfl) dL_known_26 ⟨Nat.le_of_ble_eq_true rfl, Nat.le_of_ble_eq_true rfl⟩ (fun H locs hP hD hS => ?_)
  obtain ⟨hP, hD⟩ := convF g1 hP hD
  refine lv_if_ne (tgt := 149) hx hb dL_known_29 (by decide) (fun c => absurd c (by decide)) (fun _ => ?_)
  refine lv_aload_n hx hb dL_known_32 rfl (lv_at hl 0 rfl) ?_
  refine lv_iconst (v := 1) hx hb dL_known_33 (by decide) ?_
  refine kC0 (As := [.int 1]) (rest := []) ⟨hx, hb, hml, hown, hts⟩ (c_X4_count 60 o a b h t kn_F1 qA 1 (va_up qS 0 fd0) td0 1 3 kn_k1) (cwV 1 hts gL_known_X4_count rfl rfl rfl (by decide +kernel) ⟨Nat.le_of_ble_eq_true rfl, Nat.le_of_ble_eq_true rfl⟩) hX hP rfl hl.1 rfl (Nat.le_of_ble_eq_true rfl) dL_known_34 ⟨Nat.le_of_ble_eq_true rfl, Nat.le_of_ble_eq_true rfl⟩ ?_
  refine lv_iconst (v := 3) hx hb dL_known_37 (by decide) ?_
  refine lv_icmp_ne (tgt := 149) hx hb dL_known_38 (by decide) (fun c => absurd c (by decide)) (fun _ => ?_)
  refine lv_aload_n hx hb dL_known_41 rfl (lv_at hl 0 rfl) ?_
  refine kFH0 (As := []) (rest := []) ⟨hx, hb, hml, hown, hts⟩ (c_X4_undo 60 o a b h t kn_F1 qA 1 (va_up qS 0 fd0) _ _ _ _ _ (show p_X4_undo 60 kn_F1 qA 1 (va_up qS 0 fd0) = some (0, fd0, qA, 0, (va_up qS 0 fd0)) from rfl)) (cwV 0 hts gL_known_X4_undo rfl rfl rfl (by decide +kernel) ⟨Nat.le_of_ble_eq_true rfl, Nat.le_of_ble_eq_true rfl⟩) hX hP hD hS hA rfl hl.1 rfl (Nat.le_of_ble_eq_true rfl) dL_known_42 ⟨Nat.le_of_ble_eq_true rfl, Nat.le_of_ble_eq_true rfl⟩ (fun H locs hP hD hS => ?_)
  refine lv_if_ne (tgt := 149) hx hb dL_known_45 (by decide) (fun c => absurd c (by decide)) (fun _ => ?_)
  refine lv_aload_n hx hb dL_known_48 rfl (lv_at hl 0 rfl) ?_
  refine lv_iconst (v := 1) hx hb dL_known_49 (by decide) ?_
  refine lv_sipush (v := 1000) hx hb dL_known_50 (by decide) ?_
  refine lv_iconst (v := 0) hx hb dL_known_53 (by decide) ?_
  obtain ⟨F1, e1, g1⟩ := step0 (A := qA) (S := (va_up qS 0 fd0)) (uni_dip 60 fd0 1 1000 0) kn_k2
  refine kFH0 (As := [.int 1, .int 1000, .int 0]) (rest := []) ⟨hx, hb, hml, hown, hts⟩ (c_X4_dip 60 o a b h t fd0 qA 0 (va_up qS 0 fd0) 1 1000 0 _ _ _ _ _ e1) (cwV 3 hts gL_known_X4_dip rfl rfl rfl (by decide +kernel) ⟨Nat.le_of_ble_eq_true rfl, Nat.le_of_ble_eq_true rfl⟩) hX hP hD hS hA rfl hl.1 rfl (Nat.le_of_ble_eq_true rfl) dL_known_54 ⟨Nat.le_of_ble_eq_true rfl, Nat.le_of_ble_eq_true rfl⟩ (fun H locs hP hD hS => ?_)
  obtain ⟨hP, hD⟩ := convF g1 hP hD
  generalize va_up (va_up qS 0 fd0) 0 fd0 = qS at hP hD
  refine lv_sipush (v := 1000) hx hb dL_known_57 (by decide) ?_
  refine lv_icmp_ne (tgt := 149) hx hb dL_known_60 (by decide) (fun c => absurd c (by decide)) (fun _ => ?_)
  refine lv_aload_n hx hb dL_known_63 rfl (lv_at hl 0 rfl) ?_
  refine lv_iconst (v := 0) hx hb dL_known_64 (by decide) ?_
  refine lv_iconst (v := 1) hx hb dL_known_65 (by decide) ?_
  refine kSF0 (As := [.int 0, .int 1]) (rest := []) ⟨hx, hb, hml, hown, hts⟩ (c_X4_row 60 o a b h t kn_F2 0 1 2660 kn_k3) (cwV 2 hts gL_known_X4_row rfl rfl rfl (by decide +kernel) ⟨Nat.le_of_ble_eq_true rfl, Nat.le_of_ble_eq_true rfl⟩) hX hP rfl hl.1 rfl (Nat.le_of_ble_eq_true rfl) dL_known_66 ⟨Nat.le_of_ble_eq_true rfl, Nat.le_of_ble_eq_true rfl⟩ ?_
  refine lv_sipush (v := 2660) hx hb dL_known_69 (by decide) ?_
  refine lv_icmp_ne (tgt := 149) hx hb dL_known_72 (by decide) (fun c => absurd c (by decide)) (fun _ => ?_)
  refine lv_aload_n hx hb dL_known_75 rfl (lv_at hl 0 rfl) ?_
  refine lv_iconst (v := 0) hx hb dL_known_76 (by decide) ?_
  refine lv_iconst (v := 2) hx hb dL_known_77 (by decide) ?_
  refine kSF0 (As := [.int 0, .int 2]) (rest := []) ⟨hx, hb, hml, hown, hts⟩ (c_X4_row 60 o a b h t kn_F2 0 2 184 kn_k4) (cwV 2 hts gL_known_X4_row rfl rfl rfl (by decide +kernel) ⟨Nat.le_of_ble_eq_true rfl, Nat.le_of_ble_eq_true rfl⟩) hX hP rfl hl.1 rfl (Nat.le_of_ble_eq_true rfl) dL_known_78 ⟨Nat.le_of_ble_eq_true rfl, Nat.le_of_ble_eq_true rfl⟩ ?_
  refine lv_sipush (v := 184) hx hb dL_known_81 (by decide) ?_
  refine lv_icmp_ne (tgt := 149) hx hb dL_known_84 (by decide) (fun c => absurd c (by decide)) (fun _ => ?_)
  exact kk fd0 qA qS _ _ hP hD hS
set_option maxHeartbeats 4000000 in
set_option maxRecDepth 100000 in
theorem kn_s1 (S0 : CallFix p m c cL_known 1 s args wsL_known RL) (hX : xK D ks s) (hE : xEset A s s.heap) (hA : ∀ q, s.heap.size ≤ q → A q) (hP : va_P D vwCl (wO ks o a b h t kn_F2 G qA 1 qS td0) H) (hD : va_D A (wO ks o a b h t kn_F2 G qA 1 qS td0)) (hS : va_S A s.heap H locs) (hl : lv_has ls 1 [(0, .ref o)])
    (kk : ∀ (G : FD) (qA : Nat → AF) (qS : Nat → FD) (H : Heap) (locs : List Loc), va_P D vwCl (wO ks o a b h t kn_F3 G qA 2 qS td0) H → va_D A (wO ks o a b h t kn_F3 G qA 2 qS td0) → va_S A s.heap H locs → W p l e { frames := 9, cells := 34, slots := 477, locals := 195 } s m args below meth c H locs 34 477 Q (F0 m 172 ls [])) : W p l e { frames := 9, cells := 34, slots := 477, locals := 195 } s m args below meth c H locs 34 477 Q (F0 m 87 ls []) := by
  obtain ⟨hx, hb, hml, hown, hts⟩ := id S0
  refine lv_aload_n hx hb dL_known_87 rfl (lv_at hl 0 rfl) ?_
  refine lv_iconst (v := 0) hx hb dL_known_88 (by decide) ?_
  refine lv_iconst (v := 3) hx hb dL_known_89 (by decide) ?_
  refine kSF0 (As := [.int 0, .int 3]) (rest := []) ⟨hx, hb, hml, hown, hts⟩ (c_X4_row 60 o a b h t kn_F2 0 3 36 kn_k5) (cwV 2 hts gL_known_X4_row rfl rfl rfl (by decide +kernel) ⟨Nat.le_of_ble_eq_true rfl, Nat.le_of_ble_eq_true rfl⟩) hX hP rfl hl.1 rfl (Nat.le_of_ble_eq_true rfl) dL_known_90 ⟨Nat.le_of_ble_eq_true rfl, Nat.le_of_ble_eq_true rfl⟩ ?_
  refine lv_bipush (v := 36) hx hb dL_known_93 (by decide) ?_
  refine lv_icmp_ne (tgt := 149) hx hb dL_known_95 (by decide) (fun c => absurd c (by decide)) (fun _ => ?_)
  refine lv_aload_n hx hb dL_known_98 rfl (lv_at hl 0 rfl) ?_
  refine lv_iconst (v := 0) hx hb dL_known_99 (by decide) ?_
  refine lv_iconst (v := 4) hx hb dL_known_100 (by decide) ?_
  refine kSF0 (As := [.int 0, .int 4]) (rest := []) ⟨hx, hb, hml, hown, hts⟩ (c_X4_row 60 o a b h t kn_F2 0 4 436 kn_k6) (cwV 2 hts gL_known_X4_row rfl rfl rfl (by decide +kernel) ⟨Nat.le_of_ble_eq_true rfl, Nat.le_of_ble_eq_true rfl⟩) hX hP rfl hl.1 rfl (Nat.le_of_ble_eq_true rfl) dL_known_101 ⟨Nat.le_of_ble_eq_true rfl, Nat.le_of_ble_eq_true rfl⟩ ?_
  refine lv_sipush (v := 436) hx hb dL_known_104 (by decide) ?_
  refine lv_icmp_ne (tgt := 149) hx hb dL_known_107 (by decide) (fun c => absurd c (by decide)) (fun _ => ?_)
  refine lv_aload_n hx hb dL_known_110 rfl (lv_at hl 0 rfl) ?_
  refine lv_iconst (v := 0) hx hb dL_known_111 (by decide) ?_
  refine lv_iconst (v := 5) hx hb dL_known_112 (by decide) ?_
  refine kSF0 (As := [.int 0, .int 5]) (rest := []) ⟨hx, hb, hml, hown, hts⟩ (c_X4_row 60 o a b h t kn_F2 0 5 0 kn_k7) (cwV 2 hts gL_known_X4_row rfl rfl rfl (by decide +kernel) ⟨Nat.le_of_ble_eq_true rfl, Nat.le_of_ble_eq_true rfl⟩) hX hP rfl hl.1 rfl (Nat.le_of_ble_eq_true rfl) dL_known_113 ⟨Nat.le_of_ble_eq_true rfl, Nat.le_of_ble_eq_true rfl⟩ ?_
  refine lv_if_ne (tgt := 149) hx hb dL_known_116 (by decide) (fun c => absurd c (by decide)) (fun _ => ?_)
  refine lv_aload_n hx hb dL_known_119 rfl (lv_at hl 0 rfl) ?_
  refine lv_iconst (v := 0) hx hb dL_known_120 (by decide) ?_
  refine lv_bipush (v := 6) hx hb dL_known_121 (by decide) ?_
  refine kSF0 (As := [.int 0, .int 6]) (rest := []) ⟨hx, hb, hml, hown, hts⟩ (c_X4_row 60 o a b h t kn_F2 0 6 5 kn_k8) (cwV 2 hts gL_known_X4_row rfl rfl rfl (by decide +kernel) ⟨Nat.le_of_ble_eq_true rfl, Nat.le_of_ble_eq_true rfl⟩) hX hP rfl hl.1 rfl (Nat.le_of_ble_eq_true rfl) dL_known_123 ⟨Nat.le_of_ble_eq_true rfl, Nat.le_of_ble_eq_true rfl⟩ ?_
  refine lv_iconst (v := 5) hx hb dL_known_126 (by decide) ?_
  refine lv_icmp_ne (tgt := 149) hx hb dL_known_127 (by decide) (fun c => absurd c (by decide)) (fun _ => ?_)
  refine lv_aload_n hx hb dL_known_130 rfl (lv_at hl 0 rfl) ?_
  refine lv_iconst (v := 0) hx hb dL_known_131 (by decide) ?_
  refine lv_bipush (v := 7) hx hb dL_known_132 (by decide) ?_
  refine kSF0 (As := [.int 0, .int 7]) (rest := []) ⟨hx, hb, hml, hown, hts⟩ (c_X4_row 60 o a b h t kn_F2 0 7 0 kn_k9) (cwV 2 hts gL_known_X4_row rfl rfl rfl (by decide +kernel) ⟨Nat.le_of_ble_eq_true rfl, Nat.le_of_ble_eq_true rfl⟩) hX hP rfl hl.1 rfl (Nat.le_of_ble_eq_true rfl) dL_known_134 ⟨Nat.le_of_ble_eq_true rfl, Nat.le_of_ble_eq_true rfl⟩ ?_
  refine lv_if_ne (tgt := 149) hx hb dL_known_137 (by decide) (fun c => absurd c (by decide)) (fun _ => ?_)
  refine lv_aload_n hx hb dL_known_140 rfl (lv_at hl 0 rfl) ?_
  refine lv_iconst (v := 5) hx hb dL_known_141 (by decide) ?_
  refine kC0 (As := [.int 5]) (rest := []) ⟨hx, hb, hml, hown, hts⟩ (c_X4_count 60 o a b h t kn_F2 qA 1 qS td0 5 5 kn_k10) (cwV 1 hts gL_known_X4_count rfl rfl rfl (by decide +kernel) ⟨Nat.le_of_ble_eq_true rfl, Nat.le_of_ble_eq_true rfl⟩) hX hP rfl hl.1 rfl (Nat.le_of_ble_eq_true rfl) dL_known_142 ⟨Nat.le_of_ble_eq_true rfl, Nat.le_of_ble_eq_true rfl⟩ ?_
  refine lv_iconst (v := 5) hx hb dL_known_145 (by decide) ?_
  refine lv_icmp_eq (tgt := 151) hx hb dL_known_146 (by decide) (fun _ => ?_) (fun c => absurd c (by decide))
  refine lv_aload_n hx hb dL_known_151 rfl (lv_at hl 0 rfl) ?_
  refine lv_iconst (v := 1) hx hb dL_known_152 (by decide) ?_
  obtain ⟨F1, e1, g1⟩ := step1 (A := qA) (S := qS) (uni_go 60 (by decide) kn_F2 1) kn_k11
  refine kFH0 (As := [.int 1]) (rest := []) ⟨hx, hb, hml, hown, hts⟩ (c_X4_go 60 o a b h t kn_F2 qA 1 qS 1 _ _ _ _ _ e1) (cwV 1 hts gL_known_X4_go rfl rfl rfl (by decide +kernel) ⟨Nat.le_of_ble_eq_true rfl, Nat.le_of_ble_eq_true rfl⟩) hX hP hD hS hA rfl hl.1 rfl (Nat.le_of_ble_eq_true rfl) dL_known_153 ⟨Nat.le_of_ble_eq_true rfl, Nat.le_of_ble_eq_true rfl⟩ (fun H locs hP hD hS => ?_)
  obtain ⟨hP, hD⟩ := convF g1 hP hD
  generalize va_up qS 1 kn_F2 = qS at hP hD
  refine lv_iconst (v := 1) hx hb dL_known_156 (by decide) ?_
  refine lv_icmp_ne (tgt := 368) hx hb dL_known_157 (by decide) (fun c => absurd c (by decide)) (fun _ => ?_)
  refine lv_aload_n hx hb dL_known_160 rfl (lv_at hl 0 rfl) ?_
  refine lv_iconst (v := 0) hx hb dL_known_161 (by decide) ?_
  refine lv_iconst (v := 0) hx hb dL_known_162 (by decide) ?_
  refine kSF0 (As := [.int 0, .int 0]) (rest := []) ⟨hx, hb, hml, hown, hts⟩ (c_X4_row 60 o a b h t kn_F3 0 0 979 kn_k12) (cwV 2 hts gL_known_X4_row rfl rfl rfl (by decide +kernel) ⟨Nat.le_of_ble_eq_true rfl, Nat.le_of_ble_eq_true rfl⟩) hX hP rfl hl.1 rfl (Nat.le_of_ble_eq_true rfl) dL_known_163 ⟨Nat.le_of_ble_eq_true rfl, Nat.le_of_ble_eq_true rfl⟩ ?_
  refine lv_sipush (v := 979) hx hb dL_known_166 (by decide) ?_
  refine lv_icmp_ne (tgt := 368) hx hb dL_known_169 (by decide) (fun c => absurd c (by decide)) (fun _ => ?_)
  exact kk G qA qS _ _ hP hD hS
set_option maxHeartbeats 4000000 in
set_option maxRecDepth 100000 in
theorem kn_s2 (S0 : CallFix p m c cL_known 1 s args wsL_known RL) (hX : xK D ks s) (hE : xEset A s s.heap) (hA : ∀ q, s.heap.size ≤ q → A q) (hP : va_P D vwCl (wO ks o a b h t kn_F3 G qA 2 qS td0) H) (hD : va_D A (wO ks o a b h t kn_F3 G qA 2 qS td0)) (hS : va_S A s.heap H locs) (hl : lv_has ls 1 [(0, .ref o)])
    (kk : ∀ (G : FD) (qA : Nat → AF) (qS : Nat → FD) (H : Heap) (locs : List Loc), va_P D vwCl (wO ks o a b h t kn_F4 G qA 3 qS td0) H → va_D A (wO ks o a b h t kn_F4 G qA 3 qS td0) → va_S A s.heap H locs → W p l e { frames := 9, cells := 34, slots := 477, locals := 195 } s m args below meth c H locs 34 477 Q (F0 m 266 ls [])) : W p l e { frames := 9, cells := 34, slots := 477, locals := 195 } s m args below meth c H locs 34 477 Q (F0 m 172 ls []) := by
  obtain ⟨hx, hb, hml, hown, hts⟩ := id S0
  refine lv_aload_n hx hb dL_known_172 rfl (lv_at hl 0 rfl) ?_
  refine lv_bipush (v := 20) hx hb dL_known_173 (by decide) ?_
  refine kC0 (As := [.int 20]) (rest := []) ⟨hx, hb, hml, hown, hts⟩ (c_X4_count 60 o a b h t kn_F3 qA 2 qS td0 20 1000 kn_k13) (cwV 1 hts gL_known_X4_count rfl rfl rfl (by decide +kernel) ⟨Nat.le_of_ble_eq_true rfl, Nat.le_of_ble_eq_true rfl⟩) hX hP rfl hl.1 rfl (Nat.le_of_ble_eq_true rfl) dL_known_175 ⟨Nat.le_of_ble_eq_true rfl, Nat.le_of_ble_eq_true rfl⟩ ?_
  refine lv_sipush (v := 1000) hx hb dL_known_178 (by decide) ?_
  refine lv_icmp_ne (tgt := 368) hx hb dL_known_181 (by decide) (fun c => absurd c (by decide)) (fun _ => ?_)
  refine lv_aload_n hx hb dL_known_184 rfl (lv_at hl 0 rfl) ?_
  refine lv_bipush (v := 21) hx hb dL_known_185 (by decide) ?_
  refine kC0 (As := [.int 21]) (rest := []) ⟨hx, hb, hml, hown, hts⟩ (c_X4_count 60 o a b h t kn_F3 qA 2 qS td0 21 979 kn_k14) (cwV 1 hts gL_known_X4_count rfl rfl rfl (by decide +kernel) ⟨Nat.le_of_ble_eq_true rfl, Nat.le_of_ble_eq_true rfl⟩) hX hP rfl hl.1 rfl (Nat.le_of_ble_eq_true rfl) dL_known_187 ⟨Nat.le_of_ble_eq_true rfl, Nat.le_of_ble_eq_true rfl⟩ ?_
  refine lv_sipush (v := 979) hx hb dL_known_190 (by decide) ?_
  refine lv_icmp_ne (tgt := 368) hx hb dL_known_193 (by decide) (fun c => absurd c (by decide)) (fun _ => ?_)
  refine lv_aload_n hx hb dL_known_196 rfl (lv_at hl 0 rfl) ?_
  refine lv_bipush (v := 22) hx hb dL_known_197 (by decide) ?_
  refine kC0 (As := [.int 22]) (rest := []) ⟨hx, hb, hml, hown, hts⟩ (c_X4_count 60 o a b h t kn_F3 qA 2 qS td0 22 20 kn_k15) (cwV 1 hts gL_known_X4_count rfl rfl rfl (by decide +kernel) ⟨Nat.le_of_ble_eq_true rfl, Nat.le_of_ble_eq_true rfl⟩) hX hP rfl hl.1 rfl (Nat.le_of_ble_eq_true rfl) dL_known_199 ⟨Nat.le_of_ble_eq_true rfl, Nat.le_of_ble_eq_true rfl⟩ ?_
  refine lv_bipush (v := 20) hx hb dL_known_202 (by decide) ?_
  refine lv_icmp_ne (tgt := 368) hx hb dL_known_204 (by decide) (fun c => absurd c (by decide)) (fun _ => ?_)
  refine lv_aload_n hx hb dL_known_207 rfl (lv_at hl 0 rfl) ?_
  refine lv_bipush (v := 24) hx hb dL_known_208 (by decide) ?_
  refine kC0 (As := [.int 24]) (rest := []) ⟨hx, hb, hml, hown, hts⟩ (c_X4_count 60 o a b h t kn_F3 qA 2 qS td0 24 1 kn_k16) (cwV 1 hts gL_known_X4_count rfl rfl rfl (by decide +kernel) ⟨Nat.le_of_ble_eq_true rfl, Nat.le_of_ble_eq_true rfl⟩) hX hP rfl hl.1 rfl (Nat.le_of_ble_eq_true rfl) dL_known_210 ⟨Nat.le_of_ble_eq_true rfl, Nat.le_of_ble_eq_true rfl⟩ ?_
  refine lv_iconst (v := 1) hx hb dL_known_213 (by decide) ?_
  refine lv_icmp_ne (tgt := 368) hx hb dL_known_214 (by decide) (fun c => absurd c (by decide)) (fun _ => ?_)
  refine lv_aload_n hx hb dL_known_217 rfl (lv_at hl 0 rfl) ?_
  refine lv_iconst (v := 3) hx hb dL_known_218 (by decide) ?_
  refine lv_bipush (v := 20) hx hb dL_known_219 (by decide) ?_
  refine lv_bipush (v := 20) hx hb dL_known_221 (by decide) ?_
  obtain ⟨F1, e1, g1⟩ := step2 (A := qA) (S := qS) (uni_dip 60 kn_F3 3 20 20) kn_k17
  refine kFH0 (As := [.int 3, .int 20, .int 20]) (rest := []) ⟨hx, hb, hml, hown, hts⟩ (c_X4_dip 60 o a b h t kn_F3 qA 2 qS 3 20 20 _ _ _ _ _ e1) (cwV 3 hts gL_known_X4_dip rfl rfl rfl (by decide +kernel) ⟨Nat.le_of_ble_eq_true rfl, Nat.le_of_ble_eq_true rfl⟩) hX hP hD hS hA rfl hl.1 rfl (Nat.le_of_ble_eq_true rfl) dL_known_223 ⟨Nat.le_of_ble_eq_true rfl, Nat.le_of_ble_eq_true rfl⟩ (fun H locs hP hD hS => ?_)
  obtain ⟨hP, hD⟩ := convF g1 hP hD
  generalize va_up qS 2 kn_F3 = qS at hP hD
  refine lv_bipush (v := 120) hx hb dL_known_226 (by decide) ?_
  refine lv_icmp_ne (tgt := 368) hx hb dL_known_228 (by decide) (fun c => absurd c (by decide)) (fun _ => ?_)
  refine lv_aload_n hx hb dL_known_231 rfl (lv_at hl 0 rfl) ?_
  refine lv_bipush (v := 26) hx hb dL_known_232 (by decide) ?_
  refine kC0 (As := [.int 26]) (rest := []) ⟨hx, hb, hml, hown, hts⟩ (c_X4_count 60 o a b h t kn_F4 qA 3 qS td0 26 979 kn_k18) (cwV 1 hts gL_known_X4_count rfl rfl rfl (by decide +kernel) ⟨Nat.le_of_ble_eq_true rfl, Nat.le_of_ble_eq_true rfl⟩) hX hP rfl hl.1 rfl (Nat.le_of_ble_eq_true rfl) dL_known_234 ⟨Nat.le_of_ble_eq_true rfl, Nat.le_of_ble_eq_true rfl⟩ ?_
  refine lv_sipush (v := 979) hx hb dL_known_237 (by decide) ?_
  refine lv_icmp_ne (tgt := 368) hx hb dL_known_240 (by decide) (fun c => absurd c (by decide)) (fun _ => ?_)
  refine lv_aload_n hx hb dL_known_243 rfl (lv_at hl 0 rfl) ?_
  refine lv_bipush (v := 20) hx hb dL_known_244 (by decide) ?_
  refine kC0 (As := [.int 20]) (rest := []) ⟨hx, hb, hml, hown, hts⟩ (c_X4_count 60 o a b h t kn_F4 qA 3 qS td0 20 1120 kn_k19) (cwV 1 hts gL_known_X4_count rfl rfl rfl (by decide +kernel) ⟨Nat.le_of_ble_eq_true rfl, Nat.le_of_ble_eq_true rfl⟩) hX hP rfl hl.1 rfl (Nat.le_of_ble_eq_true rfl) dL_known_246 ⟨Nat.le_of_ble_eq_true rfl, Nat.le_of_ble_eq_true rfl⟩ ?_
  refine lv_sipush (v := 1120) hx hb dL_known_249 (by decide) ?_
  refine lv_icmp_ne (tgt := 368) hx hb dL_known_252 (by decide) (fun c => absurd c (by decide)) (fun _ => ?_)
  refine lv_aload_n hx hb dL_known_255 rfl (lv_at hl 0 rfl) ?_
  refine lv_iconst (v := 0) hx hb dL_known_256 (by decide) ?_
  refine lv_bipush (v := 7) hx hb dL_known_257 (by decide) ?_
  refine kSF0 (As := [.int 0, .int 7]) (rest := []) ⟨hx, hb, hml, hown, hts⟩ (c_X4_row 60 o a b h t kn_F4 0 7 1 kn_k20) (cwV 2 hts gL_known_X4_row rfl rfl rfl (by decide +kernel) ⟨Nat.le_of_ble_eq_true rfl, Nat.le_of_ble_eq_true rfl⟩) hX hP rfl hl.1 rfl (Nat.le_of_ble_eq_true rfl) dL_known_259 ⟨Nat.le_of_ble_eq_true rfl, Nat.le_of_ble_eq_true rfl⟩ ?_
  refine lv_iconst (v := 1) hx hb dL_known_262 (by decide) ?_
  refine lv_icmp_ne (tgt := 368) hx hb dL_known_263 (by decide) (fun c => absurd c (by decide)) (fun _ => ?_)
  exact kk G qA qS _ _ hP hD hS
set_option maxHeartbeats 4000000 in
set_option maxRecDepth 100000 in
theorem kn_s3 (S0 : CallFix p m c cL_known 1 s args wsL_known RL) (hX : xK D ks s) (hE : xEset A s s.heap) (hA : ∀ q, s.heap.size ≤ q → A q) (hP : va_P D vwCl (wO ks o a b h t kn_F4 G qA 3 qS td0) H) (hD : va_D A (wO ks o a b h t kn_F4 G qA 3 qS td0)) (hS : va_S A s.heap H locs) (hl : lv_has ls 1 [(0, .ref o)])
    (kk : ∀ (G : FD) (qA : Nat → AF) (qS : Nat → FD) (H : Heap) (locs : List Loc), va_P D vwCl (wO ks o a b h t kn_F6 G qA 5 qS td0) H → va_D A (wO ks o a b h t kn_F6 G qA 5 qS td0) → va_S A s.heap H locs → W p l e { frames := 9, cells := 34, slots := 477, locals := 195 } s m args below meth c H locs 34 477 Q (F0 m 346 ls [])) : W p l e { frames := 9, cells := 34, slots := 477, locals := 195 } s m args below meth c H locs 34 477 Q (F0 m 266 ls []) := by
  obtain ⟨hx, hb, hml, hown, hts⟩ := id S0
  refine lv_aload_n hx hb dL_known_266 rfl (lv_at hl 0 rfl) ?_
  refine lv_iconst (v := 0) hx hb dL_known_267 (by decide) ?_
  refine lv_iconst (v := 5) hx hb dL_known_268 (by decide) ?_
  refine kSF0 (As := [.int 0, .int 5]) (rest := []) ⟨hx, hb, hml, hown, hts⟩ (c_X4_row 60 o a b h t kn_F4 0 5 0 kn_k21) (cwV 2 hts gL_known_X4_row rfl rfl rfl (by decide +kernel) ⟨Nat.le_of_ble_eq_true rfl, Nat.le_of_ble_eq_true rfl⟩) hX hP rfl hl.1 rfl (Nat.le_of_ble_eq_true rfl) dL_known_269 ⟨Nat.le_of_ble_eq_true rfl, Nat.le_of_ble_eq_true rfl⟩ ?_
  refine lv_if_ne (tgt := 368) hx hb dL_known_272 (by decide) (fun c => absurd c (by decide)) (fun _ => ?_)
  refine lv_aload_n hx hb dL_known_275 rfl (lv_at hl 0 rfl) ?_
  refine lv_iconst (v := 1) hx hb dL_known_276 (by decide) ?_
  obtain ⟨F1, e1, g1⟩ := step3 (A := qA) (S := qS) (uni_go 60 (by decide) kn_F4 1) kn_k22
  refine kFH0 (As := [.int 1]) (rest := []) ⟨hx, hb, hml, hown, hts⟩ (c_X4_go 60 o a b h t kn_F4 qA 3 qS 1 _ _ _ _ _ e1) (cwV 1 hts gL_known_X4_go rfl rfl rfl (by decide +kernel) ⟨Nat.le_of_ble_eq_true rfl, Nat.le_of_ble_eq_true rfl⟩) hX hP hD hS hA rfl hl.1 rfl (Nat.le_of_ble_eq_true rfl) dL_known_277 ⟨Nat.le_of_ble_eq_true rfl, Nat.le_of_ble_eq_true rfl⟩ (fun H locs hP hD hS => ?_)
  obtain ⟨hP, hD⟩ := convF g1 hP hD
  generalize va_up qS 3 kn_F4 = qS at hP hD
  refine lv_iconst (v := 1) hx hb dL_known_280 (by decide) ?_
  refine lv_icmp_ne (tgt := 368) hx hb dL_known_281 (by decide) (fun c => absurd c (by decide)) (fun _ => ?_)
  refine lv_aload_n hx hb dL_known_284 rfl (lv_at hl 0 rfl) ?_
  refine lv_iconst (v := 0) hx hb dL_known_285 (by decide) ?_
  refine lv_iconst (v := 0) hx hb dL_known_286 (by decide) ?_
  refine kSF0 (As := [.int 0, .int 0]) (rest := []) ⟨hx, hb, hml, hown, hts⟩ (c_X4_row 60 o a b h t kn_F5 0 0 19 kn_k23) (cwV 2 hts gL_known_X4_row rfl rfl rfl (by decide +kernel) ⟨Nat.le_of_ble_eq_true rfl, Nat.le_of_ble_eq_true rfl⟩) hX hP rfl hl.1 rfl (Nat.le_of_ble_eq_true rfl) dL_known_287 ⟨Nat.le_of_ble_eq_true rfl, Nat.le_of_ble_eq_true rfl⟩ ?_
  refine lv_bipush (v := 19) hx hb dL_known_290 (by decide) ?_
  refine lv_icmp_ne (tgt := 368) hx hb dL_known_292 (by decide) (fun c => absurd c (by decide)) (fun _ => ?_)
  refine lv_aload_n hx hb dL_known_295 rfl (lv_at hl 0 rfl) ?_
  refine lv_iconst (v := 1) hx hb dL_known_296 (by decide) ?_
  refine lv_iconst (v := 0) hx hb dL_known_297 (by decide) ?_
  refine kSF0 (As := [.int 1, .int 0]) (rest := []) ⟨hx, hb, hml, hown, hts⟩ (c_X4_row 60 o a b h t kn_F5 1 0 29 kn_k24) (cwV 2 hts gL_known_X4_row rfl rfl rfl (by decide +kernel) ⟨Nat.le_of_ble_eq_true rfl, Nat.le_of_ble_eq_true rfl⟩) hX hP rfl hl.1 rfl (Nat.le_of_ble_eq_true rfl) dL_known_298 ⟨Nat.le_of_ble_eq_true rfl, Nat.le_of_ble_eq_true rfl⟩ ?_
  refine lv_bipush (v := 29) hx hb dL_known_301 (by decide) ?_
  refine lv_icmp_ne (tgt := 368) hx hb dL_known_303 (by decide) (fun c => absurd c (by decide)) (fun _ => ?_)
  refine lv_aload_n hx hb dL_known_306 rfl (lv_at hl 0 rfl) ?_
  refine lv_iconst (v := 2) hx hb dL_known_307 (by decide) ?_
  refine lv_iconst (v := 0) hx hb dL_known_308 (by decide) ?_
  refine kSF0 (As := [.int 2, .int 0]) (rest := []) ⟨hx, hb, hml, hown, hts⟩ (c_X4_row 60 o a b h t kn_F5 2 0 69 kn_k25) (cwV 2 hts gL_known_X4_row rfl rfl rfl (by decide +kernel) ⟨Nat.le_of_ble_eq_true rfl, Nat.le_of_ble_eq_true rfl⟩) hX hP rfl hl.1 rfl (Nat.le_of_ble_eq_true rfl) dL_known_309 ⟨Nat.le_of_ble_eq_true rfl, Nat.le_of_ble_eq_true rfl⟩ ?_
  refine lv_bipush (v := 69) hx hb dL_known_312 (by decide) ?_
  refine lv_icmp_ne (tgt := 368) hx hb dL_known_314 (by decide) (fun c => absurd c (by decide)) (fun _ => ?_)
  refine lv_aload_n hx hb dL_known_317 rfl (lv_at hl 0 rfl) ?_
  refine lv_iconst (v := 2) hx hb dL_known_318 (by decide) ?_
  refine kC0 (As := [.int 2]) (rest := []) ⟨hx, hb, hml, hown, hts⟩ (c_X4_count 60 o a b h t kn_F5 qA 4 qS td0 2 2 kn_k26) (cwV 1 hts gL_known_X4_count rfl rfl rfl (by decide +kernel) ⟨Nat.le_of_ble_eq_true rfl, Nat.le_of_ble_eq_true rfl⟩) hX hP rfl hl.1 rfl (Nat.le_of_ble_eq_true rfl) dL_known_319 ⟨Nat.le_of_ble_eq_true rfl, Nat.le_of_ble_eq_true rfl⟩ ?_
  refine lv_iconst (v := 2) hx hb dL_known_322 (by decide) ?_
  refine lv_icmp_ne (tgt := 368) hx hb dL_known_323 (by decide) (fun c => absurd c (by decide)) (fun _ => ?_)
  refine lv_aload_n hx hb dL_known_326 rfl (lv_at hl 0 rfl) ?_
  refine lv_iconst (v := 1) hx hb dL_known_327 (by decide) ?_
  obtain ⟨F1, e1, g1⟩ := step4 (A := qA) (S := qS) (uni_go 60 (by decide) kn_F5 1) kn_k27
  refine kFH0 (As := [.int 1]) (rest := []) ⟨hx, hb, hml, hown, hts⟩ (c_X4_go 60 o a b h t kn_F5 qA 4 qS 1 _ _ _ _ _ e1) (cwV 1 hts gL_known_X4_go rfl rfl rfl (by decide +kernel) ⟨Nat.le_of_ble_eq_true rfl, Nat.le_of_ble_eq_true rfl⟩) hX hP hD hS hA rfl hl.1 rfl (Nat.le_of_ble_eq_true rfl) dL_known_328 ⟨Nat.le_of_ble_eq_true rfl, Nat.le_of_ble_eq_true rfl⟩ (fun H locs hP hD hS => ?_)
  obtain ⟨hP, hD⟩ := convF g1 hP hD
  generalize va_up qS 4 kn_F5 = qS at hP hD
  refine lv_iconst (v := 1) hx hb dL_known_331 (by decide) ?_
  refine lv_icmp_ne (tgt := 368) hx hb dL_known_332 (by decide) (fun c => absurd c (by decide)) (fun _ => ?_)
  refine lv_aload_n hx hb dL_known_335 rfl (lv_at hl 0 rfl) ?_
  refine lv_iconst (v := 2) hx hb dL_known_336 (by decide) ?_
  refine lv_iconst (v := 0) hx hb dL_known_337 (by decide) ?_
  refine kSF0 (As := [.int 2, .int 0]) (rest := []) ⟨hx, hb, hml, hown, hts⟩ (c_X4_row 60 o a b h t kn_F6 2 0 58 kn_k28) (cwV 2 hts gL_known_X4_row rfl rfl rfl (by decide +kernel) ⟨Nat.le_of_ble_eq_true rfl, Nat.le_of_ble_eq_true rfl⟩) hX hP rfl hl.1 rfl (Nat.le_of_ble_eq_true rfl) dL_known_338 ⟨Nat.le_of_ble_eq_true rfl, Nat.le_of_ble_eq_true rfl⟩ ?_
  refine lv_bipush (v := 58) hx hb dL_known_341 (by decide) ?_
  refine lv_icmp_ne (tgt := 368) hx hb dL_known_343 (by decide) (fun c => absurd c (by decide)) (fun _ => ?_)
  exact kk G qA qS _ _ hP hD hS
set_option maxHeartbeats 4000000 in
set_option maxRecDepth 100000 in
theorem kn_s4 (S0 : CallFix p m c cL_known 1 s args wsL_known RL) (hX : xK D ks s) (hE : xEset A s s.heap) (hA : ∀ q, s.heap.size ≤ q → A q) (hP : va_P D vwCl (wO ks o a b h t kn_F6 G qA 5 qS td0) H) (hD : va_D A (wO ks o a b h t kn_F6 G qA 5 qS td0)) (hS : va_S A s.heap H locs) (hl : lv_has ls 1 [(0, .ref o)])
    (kk : ∀ (G : FD) (qA : Nat → AF) (qS : Nat → FD) (H : Heap) (locs : List Loc), va_P D vwCl (wO ks o a b h t kn_F7 G qA 5 qS td0) H → va_D A (wO ks o a b h t kn_F7 G qA 5 qS td0) → va_S A s.heap H locs → W p l e { frames := 9, cells := 34, slots := 477, locals := 195 } s m args below meth c H locs 34 477 Q (F0 m 433 ls [])) : W p l e { frames := 9, cells := 34, slots := 477, locals := 195 } s m args below meth c H locs 34 477 Q (F0 m 346 ls []) := by
  obtain ⟨hx, hb, hml, hown, hts⟩ := id S0
  refine lv_aload_n hx hb dL_known_346 rfl (lv_at hl 0 rfl) ?_
  refine lv_iconst (v := 1) hx hb dL_known_347 (by decide) ?_
  refine lv_iconst (v := 0) hx hb dL_known_348 (by decide) ?_
  refine kSF0 (As := [.int 1, .int 0]) (rest := []) ⟨hx, hb, hml, hown, hts⟩ (c_X4_row 60 o a b h t kn_F6 1 0 28 kn_k29) (cwV 2 hts gL_known_X4_row rfl rfl rfl (by decide +kernel) ⟨Nat.le_of_ble_eq_true rfl, Nat.le_of_ble_eq_true rfl⟩) hX hP rfl hl.1 rfl (Nat.le_of_ble_eq_true rfl) dL_known_349 ⟨Nat.le_of_ble_eq_true rfl, Nat.le_of_ble_eq_true rfl⟩ ?_
  refine lv_bipush (v := 28) hx hb dL_known_352 (by decide) ?_
  refine lv_icmp_ne (tgt := 368) hx hb dL_known_354 (by decide) (fun c => absurd c (by decide)) (fun _ => ?_)
  refine lv_aload_n hx hb dL_known_357 rfl (lv_at hl 0 rfl) ?_
  refine lv_bipush (v := 22) hx hb dL_known_358 (by decide) ?_
  refine kC0 (As := [.int 22]) (rest := []) ⟨hx, hb, hml, hown, hts⟩ (c_X4_count 60 o a b h t kn_F6 qA 5 qS td0 22 30 kn_k30) (cwV 1 hts gL_known_X4_count rfl rfl rfl (by decide +kernel) ⟨Nat.le_of_ble_eq_true rfl, Nat.le_of_ble_eq_true rfl⟩) hX hP rfl hl.1 rfl (Nat.le_of_ble_eq_true rfl) dL_known_360 ⟨Nat.le_of_ble_eq_true rfl, Nat.le_of_ble_eq_true rfl⟩ ?_
  refine lv_bipush (v := 30) hx hb dL_known_363 (by decide) ?_
  refine lv_icmp_eq (tgt := 370) hx hb dL_known_365 (by decide) (fun _ => ?_) (fun c => absurd c (by decide))
  refine lv_aload_n hx hb dL_known_370 rfl (lv_at hl 0 rfl) ?_
  refine lv_iconst (v := 5) hx hb dL_known_371 (by decide) ?_
  refine lv_iconst (v := 1) hx hb dL_known_372 (by decide) ?_
  obtain ⟨F1, e1, g1⟩ := step5 (A := qA) (S := qS) (uni_set 60 kn_F6 5 1) kn_k31
  refine kFHE0 (As := [.int 5, .int 1]) (rest := []) ⟨hx, hb, hml, hown, hts⟩ (c_X4_set 60 o a b h t kn_F6 qA 5 qS 5 1 _ _ _ _ _ e1) (cwV 2 hts gL_known_X4_set rfl rfl rfl (by decide +kernel) ⟨Nat.le_of_ble_eq_true rfl, Nat.le_of_ble_eq_true rfl⟩) hX hP hD hS hA hE ok_xEset rfl hl.1 rfl (Nat.le_of_ble_eq_true rfl) dL_known_373 ⟨Nat.le_of_ble_eq_true rfl, Nat.le_of_ble_eq_true rfl⟩ (fun H locs hP hD hS => ?_)
  obtain ⟨hP, hD⟩ := convF g1 hP hD
  generalize rot qA = qA at hP hD
  generalize va_up (rot qS) 4 kn_F6 = qS at hP hD
  refine lv_bipush (v := 12) hx hb dL_known_376 (by decide) ?_
  refine lv_icmp_ne (tgt := 627) hx hb dL_known_378 (by decide) (fun c => absurd c (by decide)) (fun _ => ?_)
  refine lv_aload_n hx hb dL_known_381 rfl (lv_at hl 0 rfl) ?_
  refine lv_iconst (v := 0) hx hb dL_known_382 (by decide) ?_
  refine lv_iconst (v := 0) hx hb dL_known_383 (by decide) ?_
  obtain ⟨G1, e1⟩ := until_G (G := G) (by decide) kn_k32
  refine kG0 (As := [.int 0, .int 0]) (rest := []) ⟨hx, hb, hml, hown, hts⟩ (c_X4_until 60 o a b h t kn_F7 G 0 0 _ _ e1) (cwV 2 hts gL_known_X4_until rfl rfl rfl (by decide +kernel) ⟨Nat.le_of_ble_eq_true rfl, Nat.le_of_ble_eq_true rfl⟩) hX hP hD hS hA rfl hl.1 rfl (Nat.le_of_ble_eq_true rfl) dL_known_384 ⟨Nat.le_of_ble_eq_true rfl, Nat.le_of_ble_eq_true rfl⟩ (fun H locs hP hD hS => ?_)
  refine lv_iconst (v := 1) hx hb dL_known_387 (by decide) ?_
  refine lv_icmp_ne (tgt := 627) hx hb dL_known_388 (by decide) (fun c => absurd c (by decide)) (fun _ => ?_)
  refine lv_aload_n hx hb dL_known_391 rfl (lv_at hl 0 rfl) ?_
  refine lv_iconst (v := 0) hx hb dL_known_392 (by decide) ?_
  refine lv_iconst (v := 1) hx hb dL_known_393 (by decide) ?_
  obtain ⟨G2, e1⟩ := ifGo_G (G := G1) kn_k34 (by decide) (by decide) kn_k33
  refine kG0 (As := [.int 0, .int 1]) (rest := []) ⟨hx, hb, hml, hown, hts⟩ (c_X4_ifGo 60 o a b h t kn_F7 G1 0 1 _ _ e1) (cwV 2 hts gL_known_X4_ifGo rfl rfl rfl (by decide +kernel) ⟨Nat.le_of_ble_eq_true rfl, Nat.le_of_ble_eq_true rfl⟩) hX hP hD hS hA rfl hl.1 rfl (Nat.le_of_ble_eq_true rfl) dL_known_394 ⟨Nat.le_of_ble_eq_true rfl, Nat.le_of_ble_eq_true rfl⟩ (fun H locs hP hD hS => ?_)
  refine lv_bipush (v := (-4)) hx hb dL_known_397 (by decide) ?_
  refine lv_icmp_ne (tgt := 627) hx hb dL_known_399 (by decide) (fun c => absurd c (by decide)) (fun _ => ?_)
  refine lv_aload_n hx hb dL_known_402 rfl (lv_at hl 0 rfl) ?_
  refine lv_bipush (v := 6) hx hb dL_known_403 (by decide) ?_
  refine kC0 (As := [.int 6]) (rest := []) ⟨hx, hb, hml, hown, hts⟩ (c_X4_count 60 o a b h t kn_F7 qA 5 qS td0 6 0 kn_k35) (cwV 1 hts gL_known_X4_count rfl rfl rfl (by decide +kernel) ⟨Nat.le_of_ble_eq_true rfl, Nat.le_of_ble_eq_true rfl⟩) hX hP rfl hl.1 rfl (Nat.le_of_ble_eq_true rfl) dL_known_405 ⟨Nat.le_of_ble_eq_true rfl, Nat.le_of_ble_eq_true rfl⟩ ?_
  refine lv_if_ne (tgt := 627) hx hb dL_known_408 (by decide) (fun c => absurd c (by decide)) (fun _ => ?_)
  refine lv_aload_n hx hb dL_known_411 rfl (lv_at hl 0 rfl) ?_
  refine lv_bipush (v := 7) hx hb dL_known_412 (by decide) ?_
  refine kC0 (As := [.int 7]) (rest := []) ⟨hx, hb, hml, hown, hts⟩ (c_X4_count 60 o a b h t kn_F7 qA 5 qS td0 7 (-4) kn_k36) (cwV 1 hts gL_known_X4_count rfl rfl rfl (by decide +kernel) ⟨Nat.le_of_ble_eq_true rfl, Nat.le_of_ble_eq_true rfl⟩) hX hP rfl hl.1 rfl (Nat.le_of_ble_eq_true rfl) dL_known_414 ⟨Nat.le_of_ble_eq_true rfl, Nat.le_of_ble_eq_true rfl⟩ ?_
  refine lv_bipush (v := (-4)) hx hb dL_known_417 (by decide) ?_
  refine lv_icmp_ne (tgt := 627) hx hb dL_known_419 (by decide) (fun c => absurd c (by decide)) (fun _ => ?_)
  refine lv_aload_n hx hb dL_known_422 rfl (lv_at hl 0 rfl) ?_
  refine lv_bipush (v := 8) hx hb dL_known_423 (by decide) ?_
  refine kC0 (As := [.int 8]) (rest := []) ⟨hx, hb, hml, hown, hts⟩ (c_X4_count 60 o a b h t kn_F7 qA 5 qS td0 8 (-4) kn_k37) (cwV 1 hts gL_known_X4_count rfl rfl rfl (by decide +kernel) ⟨Nat.le_of_ble_eq_true rfl, Nat.le_of_ble_eq_true rfl⟩) hX hP rfl hl.1 rfl (Nat.le_of_ble_eq_true rfl) dL_known_425 ⟨Nat.le_of_ble_eq_true rfl, Nat.le_of_ble_eq_true rfl⟩ ?_
  refine lv_bipush (v := (-4)) hx hb dL_known_428 (by decide) ?_
  refine lv_icmp_ne (tgt := 627) hx hb dL_known_430 (by decide) (fun c => absurd c (by decide)) (fun _ => ?_)
  exact kk G2 qA qS _ _ hP hD hS
set_option maxHeartbeats 4000000 in
set_option maxRecDepth 100000 in
theorem kn_s5 (S0 : CallFix p m c cL_known 1 s args wsL_known RL) (hX : xK D ks s) (hE : xEset A s s.heap) (hA : ∀ q, s.heap.size ≤ q → A q) (hP : va_P D vwCl (wO ks o a b h t kn_F7 G qA 5 qS td0) H) (hD : va_D A (wO ks o a b h t kn_F7 G qA 5 qS td0)) (hS : va_S A s.heap H locs) (hl : lv_has ls 1 [(0, .ref o)])
    (kk : ∀ (G : FD) (qA : Nat → AF) (qS : Nat → FD) (H : Heap) (locs : List Loc), va_P D vwCl (wO ks o a b h t kn_F8 G qA 5 qS td0) H → va_D A (wO ks o a b h t kn_F8 G qA 5 qS td0) → va_S A s.heap H locs → W p l e { frames := 9, cells := 34, slots := 477, locals := 195 } s m args below meth c H locs 34 477 Q (F0 m 512 ls [])) : W p l e { frames := 9, cells := 34, slots := 477, locals := 195 } s m args below meth c H locs 34 477 Q (F0 m 433 ls []) := by
  obtain ⟨hx, hb, hml, hown, hts⟩ := id S0
  refine lv_aload_n hx hb dL_known_433 rfl (lv_at hl 0 rfl) ?_
  refine lv_iconst (v := 2) hx hb dL_known_434 (by decide) ?_
  obtain ⟨F1, e1, g1⟩ := step5 (A := qA) (S := qS) (uni_go 60 (by decide) kn_F7 2) kn_k38
  refine kFH0 (As := [.int 2]) (rest := []) ⟨hx, hb, hml, hown, hts⟩ (c_X4_go 60 o a b h t kn_F7 qA 5 qS 2 _ _ _ _ _ e1) (cwV 1 hts gL_known_X4_go rfl rfl rfl (by decide +kernel) ⟨Nat.le_of_ble_eq_true rfl, Nat.le_of_ble_eq_true rfl⟩) hX hP hD hS hA rfl hl.1 rfl (Nat.le_of_ble_eq_true rfl) dL_known_435 ⟨Nat.le_of_ble_eq_true rfl, Nat.le_of_ble_eq_true rfl⟩ (fun H locs hP hD hS => ?_)
  obtain ⟨hP, hD⟩ := convF g1 hP hD
  generalize rot qA = qA at hP hD
  generalize va_up (rot qS) 4 kn_F7 = qS at hP hD
  refine lv_iconst (v := 1) hx hb dL_known_438 (by decide) ?_
  refine lv_icmp_ne (tgt := 627) hx hb dL_known_439 (by decide) (fun c => absurd c (by decide)) (fun _ => ?_)
  refine lv_aload_n hx hb dL_known_442 rfl (lv_at hl 0 rfl) ?_
  refine lv_iconst (v := 0) hx hb dL_known_443 (by decide) ?_
  refine kC0 (As := [.int 0]) (rest := []) ⟨hx, hb, hml, hown, hts⟩ (c_X4_count 60 o a b h t kn_F8 qA 5 qS td0 0 0 kn_k39) (cwV 1 hts gL_known_X4_count rfl rfl rfl (by decide +kernel) ⟨Nat.le_of_ble_eq_true rfl, Nat.le_of_ble_eq_true rfl⟩) hX hP rfl hl.1 rfl (Nat.le_of_ble_eq_true rfl) dL_known_444 ⟨Nat.le_of_ble_eq_true rfl, Nat.le_of_ble_eq_true rfl⟩ ?_
  refine lv_if_ne (tgt := 627) hx hb dL_known_447 (by decide) (fun c => absurd c (by decide)) (fun _ => ?_)
  refine lv_aload_n hx hb dL_known_450 rfl (lv_at hl 0 rfl) ?_
  refine lv_bipush (v := 6) hx hb dL_known_451 (by decide) ?_
  refine kC0 (As := [.int 6]) (rest := []) ⟨hx, hb, hml, hown, hts⟩ (c_X4_count 60 o a b h t kn_F8 qA 5 qS td0 6 2 kn_k40) (cwV 1 hts gL_known_X4_count rfl rfl rfl (by decide +kernel) ⟨Nat.le_of_ble_eq_true rfl, Nat.le_of_ble_eq_true rfl⟩) hX hP rfl hl.1 rfl (Nat.le_of_ble_eq_true rfl) dL_known_453 ⟨Nat.le_of_ble_eq_true rfl, Nat.le_of_ble_eq_true rfl⟩ ?_
  refine lv_iconst (v := 2) hx hb dL_known_456 (by decide) ?_
  refine lv_icmp_ne (tgt := 627) hx hb dL_known_457 (by decide) (fun c => absurd c (by decide)) (fun _ => ?_)
  refine lv_aload_n hx hb dL_known_460 rfl (lv_at hl 0 rfl) ?_
  refine lv_bipush (v := 7) hx hb dL_known_461 (by decide) ?_
  refine kC0 (As := [.int 7]) (rest := []) ⟨hx, hb, hml, hown, hts⟩ (c_X4_count 60 o a b h t kn_F8 qA 5 qS td0 7 2 kn_k41) (cwV 1 hts gL_known_X4_count rfl rfl rfl (by decide +kernel) ⟨Nat.le_of_ble_eq_true rfl, Nat.le_of_ble_eq_true rfl⟩) hX hP rfl hl.1 rfl (Nat.le_of_ble_eq_true rfl) dL_known_463 ⟨Nat.le_of_ble_eq_true rfl, Nat.le_of_ble_eq_true rfl⟩ ?_
  refine lv_iconst (v := 2) hx hb dL_known_466 (by decide) ?_
  refine lv_icmp_ne (tgt := 627) hx hb dL_known_467 (by decide) (fun c => absurd c (by decide)) (fun _ => ?_)
  refine lv_aload_n hx hb dL_known_470 rfl (lv_at hl 0 rfl) ?_
  refine lv_bipush (v := 8) hx hb dL_known_471 (by decide) ?_
  refine kC0 (As := [.int 8]) (rest := []) ⟨hx, hb, hml, hown, hts⟩ (c_X4_count 60 o a b h t kn_F8 qA 5 qS td0 8 3 kn_k42) (cwV 1 hts gL_known_X4_count rfl rfl rfl (by decide +kernel) ⟨Nat.le_of_ble_eq_true rfl, Nat.le_of_ble_eq_true rfl⟩) hX hP rfl hl.1 rfl (Nat.le_of_ble_eq_true rfl) dL_known_473 ⟨Nat.le_of_ble_eq_true rfl, Nat.le_of_ble_eq_true rfl⟩ ?_
  refine lv_iconst (v := 3) hx hb dL_known_476 (by decide) ?_
  refine lv_icmp_ne (tgt := 627) hx hb dL_known_477 (by decide) (fun c => absurd c (by decide)) (fun _ => ?_)
  refine lv_aload_n hx hb dL_known_480 rfl (lv_at hl 0 rfl) ?_
  refine lv_bipush (v := 9) hx hb dL_known_481 (by decide) ?_
  refine kC0 (As := [.int 9]) (rest := []) ⟨hx, hb, hml, hown, hts⟩ (c_X4_count 60 o a b h t kn_F8 qA 5 qS td0 9 1 kn_k43) (cwV 1 hts gL_known_X4_count rfl rfl rfl (by decide +kernel) ⟨Nat.le_of_ble_eq_true rfl, Nat.le_of_ble_eq_true rfl⟩) hX hP rfl hl.1 rfl (Nat.le_of_ble_eq_true rfl) dL_known_483 ⟨Nat.le_of_ble_eq_true rfl, Nat.le_of_ble_eq_true rfl⟩ ?_
  refine lv_iconst (v := 1) hx hb dL_known_486 (by decide) ?_
  refine lv_icmp_ne (tgt := 627) hx hb dL_known_487 (by decide) (fun c => absurd c (by decide)) (fun _ => ?_)
  refine lv_aload_n hx hb dL_known_490 rfl (lv_at hl 0 rfl) ?_
  refine lv_bipush (v := 25) hx hb dL_known_491 (by decide) ?_
  refine kC0 (As := [.int 25]) (rest := []) ⟨hx, hb, hml, hown, hts⟩ (c_X4_count 60 o a b h t kn_F8 qA 5 qS td0 25 91 kn_k44) (cwV 1 hts gL_known_X4_count rfl rfl rfl (by decide +kernel) ⟨Nat.le_of_ble_eq_true rfl, Nat.le_of_ble_eq_true rfl⟩) hX hP rfl hl.1 rfl (Nat.le_of_ble_eq_true rfl) dL_known_493 ⟨Nat.le_of_ble_eq_true rfl, Nat.le_of_ble_eq_true rfl⟩ ?_
  refine lv_bipush (v := 91) hx hb dL_known_496 (by decide) ?_
  refine lv_icmp_ne (tgt := 627) hx hb dL_known_498 (by decide) (fun c => absurd c (by decide)) (fun _ => ?_)
  refine lv_aload_n hx hb dL_known_501 rfl (lv_at hl 0 rfl) ?_
  refine lv_bipush (v := 22) hx hb dL_known_502 (by decide) ?_
  refine kC0 (As := [.int 22]) (rest := []) ⟨hx, hb, hml, hown, hts⟩ (c_X4_count 60 o a b h t kn_F8 qA 5 qS td0 22 40 kn_k45) (cwV 1 hts gL_known_X4_count rfl rfl rfl (by decide +kernel) ⟨Nat.le_of_ble_eq_true rfl, Nat.le_of_ble_eq_true rfl⟩) hX hP rfl hl.1 rfl (Nat.le_of_ble_eq_true rfl) dL_known_504 ⟨Nat.le_of_ble_eq_true rfl, Nat.le_of_ble_eq_true rfl⟩ ?_
  refine lv_bipush (v := 40) hx hb dL_known_507 (by decide) ?_
  refine lv_icmp_ne (tgt := 627) hx hb dL_known_509 (by decide) (fun c => absurd c (by decide)) (fun _ => ?_)
  exact kk G qA qS _ _ hP hD hS
set_option maxHeartbeats 4000000 in
set_option maxRecDepth 100000 in
theorem kn_s6 (S0 : CallFix p m c cL_known 1 s args wsL_known RL) (hX : xK D ks s) (hE : xEset A s s.heap) (hA : ∀ q, s.heap.size ≤ q → A q) (hP : va_P D vwCl (wO ks o a b h t kn_F8 G qA 5 qS td0) H) (hD : va_D A (wO ks o a b h t kn_F8 G qA 5 qS td0)) (hS : va_S A s.heap H locs) (hl : lv_has ls 1 [(0, .ref o)])
    (kk : ∀ (G : FD) (qA : Nat → AF) (qS : Nat → FD) (H : Heap) (locs : List Loc), va_P D vwCl (wO ks o a b h t kn_F12 G qA 5 qS td0) H → va_D A (wO ks o a b h t kn_F12 G qA 5 qS td0) → va_S A s.heap H locs → W p l e { frames := 9, cells := 34, slots := 477, locals := 195 } s m args below meth c H locs 34 477 Q (F0 m 593 ls [])) : W p l e { frames := 9, cells := 34, slots := 477, locals := 195 } s m args below meth c H locs 34 477 Q (F0 m 512 ls []) := by
  obtain ⟨hx, hb, hml, hown, hts⟩ := id S0
  refine lv_aload_n hx hb dL_known_512 rfl (lv_at hl 0 rfl) ?_
  refine lv_iconst (v := 4) hx hb dL_known_513 (by decide) ?_
  obtain ⟨F1, e1, g1⟩ := step5 (A := qA) (S := qS) (uni_go 60 (by decide) kn_F8 4) kn_k46
  refine kFH0 (As := [.int 4]) (rest := []) ⟨hx, hb, hml, hown, hts⟩ (c_X4_go 60 o a b h t kn_F8 qA 5 qS 4 _ _ _ _ _ e1) (cwV 1 hts gL_known_X4_go rfl rfl rfl (by decide +kernel) ⟨Nat.le_of_ble_eq_true rfl, Nat.le_of_ble_eq_true rfl⟩) hX hP hD hS hA rfl hl.1 rfl (Nat.le_of_ble_eq_true rfl) dL_known_514 ⟨Nat.le_of_ble_eq_true rfl, Nat.le_of_ble_eq_true rfl⟩ (fun H locs hP hD hS => ?_)
  obtain ⟨hP, hD⟩ := convF g1 hP hD
  generalize rot qA = qA at hP hD
  generalize va_up (rot qS) 4 kn_F8 = qS at hP hD
  refine lv_if_ne (tgt := 627) hx hb dL_known_517 (by decide) (fun c => absurd c (by decide)) (fun _ => ?_)
  refine lv_aload_n hx hb dL_known_520 rfl (lv_at hl 0 rfl) ?_
  refine lv_iconst (v := 1) hx hb dL_known_521 (by decide) ?_
  refine kC0 (As := [.int 1]) (rest := []) ⟨hx, hb, hml, hown, hts⟩ (c_X4_count 60 o a b h t kn_F9 qA 5 qS td0 1 9 kn_k47) (cwV 1 hts gL_known_X4_count rfl rfl rfl (by decide +kernel) ⟨Nat.le_of_ble_eq_true rfl, Nat.le_of_ble_eq_true rfl⟩) hX hP rfl hl.1 rfl (Nat.le_of_ble_eq_true rfl) dL_known_522 ⟨Nat.le_of_ble_eq_true rfl, Nat.le_of_ble_eq_true rfl⟩ ?_
  refine lv_bipush (v := 9) hx hb dL_known_525 (by decide) ?_
  refine lv_icmp_ne (tgt := 627) hx hb dL_known_527 (by decide) (fun c => absurd c (by decide)) (fun _ => ?_)
  refine lv_aload_n hx hb dL_known_530 rfl (lv_at hl 0 rfl) ?_
  refine lv_iconst (v := 5) hx hb dL_known_531 (by decide) ?_
  refine lv_bipush (v := 24) hx hb dL_known_532 (by decide) ?_
  obtain ⟨F1, e1, g1⟩ := step5 (A := qA) (S := qS) (uni_set 60 kn_F9 5 24) kn_k48
  refine kFHE0 (As := [.int 5, .int 24]) (rest := []) ⟨hx, hb, hml, hown, hts⟩ (c_X4_set 60 o a b h t kn_F9 qA 5 qS 5 24 _ _ _ _ _ e1) (cwV 2 hts gL_known_X4_set rfl rfl rfl (by decide +kernel) ⟨Nat.le_of_ble_eq_true rfl, Nat.le_of_ble_eq_true rfl⟩) hX hP hD hS hA hE ok_xEset rfl hl.1 rfl (Nat.le_of_ble_eq_true rfl) dL_known_534 ⟨Nat.le_of_ble_eq_true rfl, Nat.le_of_ble_eq_true rfl⟩ (fun H locs hP hD hS => ?_)
  obtain ⟨hP, hD⟩ := convF g1 hP hD
  generalize rot qA = qA at hP hD
  generalize va_up (rot qS) 4 kn_F9 = qS at hP hD
  refine lv_iconst (v := 1) hx hb dL_known_537 (by decide) ?_
  refine lv_icmp_ne (tgt := 627) hx hb dL_known_538 (by decide) (fun c => absurd c (by decide)) (fun _ => ?_)
  refine lv_aload_n hx hb dL_known_541 rfl (lv_at hl 0 rfl) ?_
  refine lv_iconst (v := 2) hx hb dL_known_542 (by decide) ?_
  refine lv_iconst (v := 4) hx hb dL_known_543 (by decide) ?_
  refine lv_bipush (v := 100) hx hb dL_known_544 (by decide) ?_
  obtain ⟨F1, e1, g1⟩ := step5 (A := qA) (S := qS) (uni_dip 60 kn_F10 2 4 100) kn_k49
  refine kFH0 (As := [.int 2, .int 4, .int 100]) (rest := []) ⟨hx, hb, hml, hown, hts⟩ (c_X4_dip 60 o a b h t kn_F10 qA 5 qS 2 4 100 _ _ _ _ _ e1) (cwV 3 hts gL_known_X4_dip rfl rfl rfl (by decide +kernel) ⟨Nat.le_of_ble_eq_true rfl, Nat.le_of_ble_eq_true rfl⟩) hX hP hD hS hA rfl hl.1 rfl (Nat.le_of_ble_eq_true rfl) dL_known_546 ⟨Nat.le_of_ble_eq_true rfl, Nat.le_of_ble_eq_true rfl⟩ (fun H locs hP hD hS => ?_)
  obtain ⟨hP, hD⟩ := convF g1 hP hD
  generalize rot qA = qA at hP hD
  generalize va_up (rot qS) 4 kn_F10 = qS at hP hD
  refine lv_bipush (v := 108) hx hb dL_known_549 (by decide) ?_
  refine lv_icmp_ne (tgt := 627) hx hb dL_known_551 (by decide) (fun c => absurd c (by decide)) (fun _ => ?_)
  refine lv_aload_n hx hb dL_known_554 rfl (lv_at hl 0 rfl) ?_
  refine lv_iconst (v := 1) hx hb dL_known_555 (by decide) ?_
  obtain ⟨F1, e1, g1⟩ := step5 (A := qA) (S := qS) (uni_go 60 (by decide) kn_F11 1) kn_k50
  refine kFH0 (As := [.int 1]) (rest := []) ⟨hx, hb, hml, hown, hts⟩ (c_X4_go 60 o a b h t kn_F11 qA 5 qS 1 _ _ _ _ _ e1) (cwV 1 hts gL_known_X4_go rfl rfl rfl (by decide +kernel) ⟨Nat.le_of_ble_eq_true rfl, Nat.le_of_ble_eq_true rfl⟩) hX hP hD hS hA rfl hl.1 rfl (Nat.le_of_ble_eq_true rfl) dL_known_556 ⟨Nat.le_of_ble_eq_true rfl, Nat.le_of_ble_eq_true rfl⟩ (fun H locs hP hD hS => ?_)
  obtain ⟨hP, hD⟩ := convF g1 hP hD
  generalize rot qA = qA at hP hD
  generalize va_up (rot qS) 4 kn_F11 = qS at hP hD
  refine lv_iconst (v := 1) hx hb dL_known_559 (by decide) ?_
  refine lv_icmp_ne (tgt := 627) hx hb dL_known_560 (by decide) (fun c => absurd c (by decide)) (fun _ => ?_)
  refine lv_aload_n hx hb dL_known_563 rfl (lv_at hl 0 rfl) ?_
  refine lv_bipush (v := 6) hx hb dL_known_564 (by decide) ?_
  refine kC0 (As := [.int 6]) (rest := []) ⟨hx, hb, hml, hown, hts⟩ (c_X4_count 60 o a b h t kn_F12 qA 5 qS td0 6 1 kn_k51) (cwV 1 hts gL_known_X4_count rfl rfl rfl (by decide +kernel) ⟨Nat.le_of_ble_eq_true rfl, Nat.le_of_ble_eq_true rfl⟩) hX hP rfl hl.1 rfl (Nat.le_of_ble_eq_true rfl) dL_known_566 ⟨Nat.le_of_ble_eq_true rfl, Nat.le_of_ble_eq_true rfl⟩ ?_
  refine lv_iconst (v := 1) hx hb dL_known_569 (by decide) ?_
  refine lv_icmp_ne (tgt := 627) hx hb dL_known_570 (by decide) (fun c => absurd c (by decide)) (fun _ => ?_)
  refine lv_aload_n hx hb dL_known_573 rfl (lv_at hl 0 rfl) ?_
  refine lv_bipush (v := 7) hx hb dL_known_574 (by decide) ?_
  refine kC0 (As := [.int 7]) (rest := []) ⟨hx, hb, hml, hown, hts⟩ (c_X4_count 60 o a b h t kn_F12 qA 5 qS td0 7 0 kn_k52) (cwV 1 hts gL_known_X4_count rfl rfl rfl (by decide +kernel) ⟨Nat.le_of_ble_eq_true rfl, Nat.le_of_ble_eq_true rfl⟩) hX hP rfl hl.1 rfl (Nat.le_of_ble_eq_true rfl) dL_known_576 ⟨Nat.le_of_ble_eq_true rfl, Nat.le_of_ble_eq_true rfl⟩ ?_
  refine lv_if_ne (tgt := 627) hx hb dL_known_579 (by decide) (fun c => absurd c (by decide)) (fun _ => ?_)
  refine lv_aload_n hx hb dL_known_582 rfl (lv_at hl 0 rfl) ?_
  refine lv_bipush (v := 8) hx hb dL_known_583 (by decide) ?_
  refine kC0 (As := [.int 8]) (rest := []) ⟨hx, hb, hml, hown, hts⟩ (c_X4_count 60 o a b h t kn_F12 qA 5 qS td0 8 9 kn_k53) (cwV 1 hts gL_known_X4_count rfl rfl rfl (by decide +kernel) ⟨Nat.le_of_ble_eq_true rfl, Nat.le_of_ble_eq_true rfl⟩) hX hP rfl hl.1 rfl (Nat.le_of_ble_eq_true rfl) dL_known_585 ⟨Nat.le_of_ble_eq_true rfl, Nat.le_of_ble_eq_true rfl⟩ ?_
  refine lv_bipush (v := 9) hx hb dL_known_588 (by decide) ?_
  refine lv_icmp_ne (tgt := 627) hx hb dL_known_590 (by decide) (fun c => absurd c (by decide)) (fun _ => ?_)
  exact kk G qA qS _ _ hP hD hS
set_option maxHeartbeats 4000000 in
set_option maxRecDepth 100000 in
theorem kn_s7 (S0 : CallFix p m c cL_known 1 s args wsL_known RL) (hX : xK D ks s) (hE : xEset A s s.heap) (hA : ∀ q, s.heap.size ≤ q → A q) (hP : va_P D vwCl (wO ks o a b h t kn_F12 G qA 5 qS td0) H) (hD : va_D A (wO ks o a b h t kn_F12 G qA 5 qS td0)) (hS : va_S A s.heap H locs) (hl : lv_has ls 1 [(0, .ref o)])
    (kk : ∀ (G : FD) (qA : Nat → AF) (qS : Nat → FD) (H : Heap) (locs : List Loc), va_P D vwCl (wO ks o a b h t kn_F15 G qA 5 qS td0) H → va_D A (wO ks o a b h t kn_F15 G qA 5 qS td0) → va_S A s.heap H locs → W p l e { frames := 9, cells := 34, slots := 477, locals := 195 } s m args below meth c H locs 34 477 Q (F0 m 691 ls [])) : W p l e { frames := 9, cells := 34, slots := 477, locals := 195 } s m args below meth c H locs 34 477 Q (F0 m 593 ls []) := by
  obtain ⟨hx, hb, hml, hown, hts⟩ := id S0
  refine lv_aload_n hx hb dL_known_593 rfl (lv_at hl 0 rfl) ?_
  refine lv_bipush (v := 25) hx hb dL_known_594 (by decide) ?_
  refine kC0 (As := [.int 25]) (rest := []) ⟨hx, hb, hml, hown, hts⟩ (c_X4_count 60 o a b h t kn_F12 qA 5 qS td0 25 187 kn_k54) (cwV 1 hts gL_known_X4_count rfl rfl rfl (by decide +kernel) ⟨Nat.le_of_ble_eq_true rfl, Nat.le_of_ble_eq_true rfl⟩) hX hP rfl hl.1 rfl (Nat.le_of_ble_eq_true rfl) dL_known_596 ⟨Nat.le_of_ble_eq_true rfl, Nat.le_of_ble_eq_true rfl⟩ ?_
  refine lv_sipush (v := 187) hx hb dL_known_599 (by decide) ?_
  refine lv_icmp_ne (tgt := 627) hx hb dL_known_602 (by decide) (fun c => absurd c (by decide)) (fun _ => ?_)
  refine lv_aload_n hx hb dL_known_605 rfl (lv_at hl 0 rfl) ?_
  refine lv_bipush (v := 22) hx hb dL_known_606 (by decide) ?_
  refine kC0 (As := [.int 22]) (rest := []) ⟨hx, hb, hml, hown, hts⟩ (c_X4_count 60 o a b h t kn_F12 qA 5 qS td0 22 50 kn_k55) (cwV 1 hts gL_known_X4_count rfl rfl rfl (by decide +kernel) ⟨Nat.le_of_ble_eq_true rfl, Nat.le_of_ble_eq_true rfl⟩) hX hP rfl hl.1 rfl (Nat.le_of_ble_eq_true rfl) dL_known_608 ⟨Nat.le_of_ble_eq_true rfl, Nat.le_of_ble_eq_true rfl⟩ ?_
  refine lv_bipush (v := 50) hx hb dL_known_611 (by decide) ?_
  refine lv_icmp_ne (tgt := 627) hx hb dL_known_613 (by decide) (fun c => absurd c (by decide)) (fun _ => ?_)
  refine lv_aload_n hx hb dL_known_616 rfl (lv_at hl 0 rfl) ?_
  refine lv_bipush (v := 24) hx hb dL_known_617 (by decide) ?_
  refine kC0 (As := [.int 24]) (rest := []) ⟨hx, hb, hml, hown, hts⟩ (c_X4_count 60 o a b h t kn_F12 qA 5 qS td0 24 12 kn_k56) (cwV 1 hts gL_known_X4_count rfl rfl rfl (by decide +kernel) ⟨Nat.le_of_ble_eq_true rfl, Nat.le_of_ble_eq_true rfl⟩) hX hP rfl hl.1 rfl (Nat.le_of_ble_eq_true rfl) dL_known_619 ⟨Nat.le_of_ble_eq_true rfl, Nat.le_of_ble_eq_true rfl⟩ ?_
  refine lv_bipush (v := 12) hx hb dL_known_622 (by decide) ?_
  refine lv_icmp_eq (tgt := 629) hx hb dL_known_624 (by decide) (fun _ => ?_) (fun c => absurd c (by decide))
  refine lv_aload_n hx hb dL_known_629 rfl (lv_at hl 0 rfl) ?_
  refine lv_iconst (v := 1) hx hb dL_known_630 (by decide) ?_
  refine lv_sipush (v := 5000) hx hb dL_known_631 (by decide) ?_
  refine lv_iconst (v := 0) hx hb dL_known_634 (by decide) ?_
  obtain ⟨F1, e1, g1⟩ := step5 (A := qA) (S := qS) (uni_dip 60 kn_F12 1 5000 0) kn_k57
  refine kFH0 (As := [.int 1, .int 5000, .int 0]) (rest := []) ⟨hx, hb, hml, hown, hts⟩ (c_X4_dip 60 o a b h t kn_F12 qA 5 qS 1 5000 0 _ _ _ _ _ e1) (cwV 3 hts gL_known_X4_dip rfl rfl rfl (by decide +kernel) ⟨Nat.le_of_ble_eq_true rfl, Nat.le_of_ble_eq_true rfl⟩) hX hP hD hS hA rfl hl.1 rfl (Nat.le_of_ble_eq_true rfl) dL_known_635 ⟨Nat.le_of_ble_eq_true rfl, Nat.le_of_ble_eq_true rfl⟩ (fun H locs hP hD hS => ?_)
  obtain ⟨hP, hD⟩ := convF g1 hP hD
  generalize rot qA = qA at hP hD
  generalize va_up (rot qS) 4 kn_F12 = qS at hP hD
  refine lv_sipush (v := 5000) hx hb dL_known_638 (by decide) ?_
  refine lv_icmp_ne (tgt := 889) hx hb dL_known_641 (by decide) (fun c => absurd c (by decide)) (fun _ => ?_)
  refine lv_aload_n hx hb dL_known_644 rfl (lv_at hl 0 rfl) ?_
  refine lv_iconst (v := 1) hx hb dL_known_645 (by decide) ?_
  obtain ⟨F1, e1, g1⟩ := step5 (A := qA) (S := qS) (uni_go 60 (by decide) kn_F13 1) kn_k58
  refine kFH0 (As := [.int 1]) (rest := []) ⟨hx, hb, hml, hown, hts⟩ (c_X4_go 60 o a b h t kn_F13 qA 5 qS 1 _ _ _ _ _ e1) (cwV 1 hts gL_known_X4_go rfl rfl rfl (by decide +kernel) ⟨Nat.le_of_ble_eq_true rfl, Nat.le_of_ble_eq_true rfl⟩) hX hP hD hS hA rfl hl.1 rfl (Nat.le_of_ble_eq_true rfl) dL_known_646 ⟨Nat.le_of_ble_eq_true rfl, Nat.le_of_ble_eq_true rfl⟩ (fun H locs hP hD hS => ?_)
  obtain ⟨hP, hD⟩ := convF g1 hP hD
  generalize rot qA = qA at hP hD
  generalize va_up (rot qS) 4 kn_F13 = qS at hP hD
  refine lv_iconst (v := 1) hx hb dL_known_649 (by decide) ?_
  refine lv_icmp_ne (tgt := 889) hx hb dL_known_650 (by decide) (fun c => absurd c (by decide)) (fun _ => ?_)
  refine lv_aload_n hx hb dL_known_653 rfl (lv_at hl 0 rfl) ?_
  refine lv_iconst (v := 0) hx hb dL_known_654 (by decide) ?_
  refine lv_iconst (v := 0) hx hb dL_known_655 (by decide) ?_
  refine kSF0 (As := [.int 0, .int 0]) (rest := []) ⟨hx, hb, hml, hown, hts⟩ (c_X4_row 60 o a b h t kn_F14 0 0 4499 kn_k59) (cwV 2 hts gL_known_X4_row rfl rfl rfl (by decide +kernel) ⟨Nat.le_of_ble_eq_true rfl, Nat.le_of_ble_eq_true rfl⟩) hX hP rfl hl.1 rfl (Nat.le_of_ble_eq_true rfl) dL_known_656 ⟨Nat.le_of_ble_eq_true rfl, Nat.le_of_ble_eq_true rfl⟩ ?_
  refine lv_sipush (v := 4499) hx hb dL_known_659 (by decide) ?_
  refine lv_icmp_ne (tgt := 889) hx hb dL_known_662 (by decide) (fun c => absurd c (by decide)) (fun _ => ?_)
  refine lv_aload_n hx hb dL_known_665 rfl (lv_at hl 0 rfl) ?_
  refine lv_bipush (v := 22) hx hb dL_known_666 (by decide) ?_
  refine kC0 (As := [.int 22]) (rest := []) ⟨hx, hb, hml, hown, hts⟩ (c_X4_count 60 o a b h t kn_F14 qA 5 qS td0 22 550 kn_k60) (cwV 1 hts gL_known_X4_count rfl rfl rfl (by decide +kernel) ⟨Nat.le_of_ble_eq_true rfl, Nat.le_of_ble_eq_true rfl⟩) hX hP rfl hl.1 rfl (Nat.le_of_ble_eq_true rfl) dL_known_668 ⟨Nat.le_of_ble_eq_true rfl, Nat.le_of_ble_eq_true rfl⟩ ?_
  refine lv_sipush (v := 550) hx hb dL_known_671 (by decide) ?_
  refine lv_icmp_ne (tgt := 889) hx hb dL_known_674 (by decide) (fun c => absurd c (by decide)) (fun _ => ?_)
  refine lv_aload_n hx hb dL_known_677 rfl (lv_at hl 0 rfl) ?_
  refine lv_bipush (v := 6) hx hb dL_known_678 (by decide) ?_
  refine lv_bipush (v := 100) hx hb dL_known_680 (by decide) ?_
  obtain ⟨F1, e1, g1⟩ := step5 (A := qA) (S := qS) (uni_set 60 kn_F14 6 100) kn_k61
  refine kFHE0 (As := [.int 6, .int 100]) (rest := []) ⟨hx, hb, hml, hown, hts⟩ (c_X4_set 60 o a b h t kn_F14 qA 5 qS 6 100 _ _ _ _ _ e1) (cwV 2 hts gL_known_X4_set rfl rfl rfl (by decide +kernel) ⟨Nat.le_of_ble_eq_true rfl, Nat.le_of_ble_eq_true rfl⟩) hX hP hD hS hA hE ok_xEset rfl hl.1 rfl (Nat.le_of_ble_eq_true rfl) dL_known_682 ⟨Nat.le_of_ble_eq_true rfl, Nat.le_of_ble_eq_true rfl⟩ (fun H locs hP hD hS => ?_)
  obtain ⟨hP, hD⟩ := convF g1 hP hD
  generalize rot qA = qA at hP hD
  generalize va_up (rot qS) 4 kn_F14 = qS at hP hD
  refine lv_sipush (v := 3000) hx hb dL_known_685 (by decide) ?_
  refine lv_icmp_ne (tgt := 889) hx hb dL_known_688 (by decide) (fun c => absurd c (by decide)) (fun _ => ?_)
  exact kk G qA qS _ _ hP hD hS
set_option maxHeartbeats 4000000 in
set_option maxRecDepth 100000 in
theorem kn_s8 (S0 : CallFix p m c cL_known 1 s args wsL_known RL) (hX : xK D ks s) (hE : xEset A s s.heap) (hA : ∀ q, s.heap.size ≤ q → A q) (hP : va_P D vwCl (wO ks o a b h t kn_F15 G qA 5 qS td0) H) (hD : va_D A (wO ks o a b h t kn_F15 G qA 5 qS td0)) (hS : va_S A s.heap H locs) (hl : lv_has ls 1 [(0, .ref o)])
    (kk : ∀ (G : FD) (qA : Nat → AF) (qS : Nat → FD) (H : Heap) (locs : List Loc), va_P D vwCl (wO ks o a b h t kn_F17 G qA 5 qS td0) H → va_D A (wO ks o a b h t kn_F17 G qA 5 qS td0) → va_S A s.heap H locs → W p l e { frames := 9, cells := 34, slots := 477, locals := 195 } s m args below meth c H locs 34 477 Q (F0 m 780 ls [])) : W p l e { frames := 9, cells := 34, slots := 477, locals := 195 } s m args below meth c H locs 34 477 Q (F0 m 691 ls []) := by
  obtain ⟨hx, hb, hml, hown, hts⟩ := id S0
  refine lv_aload_n hx hb dL_known_691 rfl (lv_at hl 0 rfl) ?_
  refine lv_iconst (v := 3) hx hb dL_known_692 (by decide) ?_
  refine lv_iconst (v := 1) hx hb dL_known_693 (by decide) ?_
  obtain ⟨G3, e1⟩ := until_G (G := G) (by decide) kn_k62
  refine kG0 (As := [.int 3, .int 1]) (rest := []) ⟨hx, hb, hml, hown, hts⟩ (c_X4_until 60 o a b h t kn_F15 G 3 1 _ _ e1) (cwV 2 hts gL_known_X4_until rfl rfl rfl (by decide +kernel) ⟨Nat.le_of_ble_eq_true rfl, Nat.le_of_ble_eq_true rfl⟩) hX hP hD hS hA rfl hl.1 rfl (Nat.le_of_ble_eq_true rfl) dL_known_694 ⟨Nat.le_of_ble_eq_true rfl, Nat.le_of_ble_eq_true rfl⟩ (fun H locs hP hD hS => ?_)
  refine lv_iconst (v := 1) hx hb dL_known_697 (by decide) ?_
  refine lv_icmp_ne (tgt := 889) hx hb dL_known_698 (by decide) (fun c => absurd c (by decide)) (fun _ => ?_)
  refine lv_aload_n hx hb dL_known_701 rfl (lv_at hl 0 rfl) ?_
  refine lv_iconst (v := 1) hx hb dL_known_702 (by decide) ?_
  obtain ⟨F1, e1, g1⟩ := step5 (A := qA) (S := qS) (uni_go 60 (by decide) kn_F15 1) kn_k63
  refine kFH0 (As := [.int 1]) (rest := []) ⟨hx, hb, hml, hown, hts⟩ (c_X4_go 60 o a b h t kn_F15 qA 5 qS 1 _ _ _ _ _ e1) (cwV 1 hts gL_known_X4_go rfl rfl rfl (by decide +kernel) ⟨Nat.le_of_ble_eq_true rfl, Nat.le_of_ble_eq_true rfl⟩) hX hP hD hS hA rfl hl.1 rfl (Nat.le_of_ble_eq_true rfl) dL_known_703 ⟨Nat.le_of_ble_eq_true rfl, Nat.le_of_ble_eq_true rfl⟩ (fun H locs hP hD hS => ?_)
  obtain ⟨hP, hD⟩ := convF g1 hP hD
  generalize rot qA = qA at hP hD
  generalize va_up (rot qS) 4 kn_F15 = qS at hP hD
  refine lv_iconst (v := 1) hx hb dL_known_706 (by decide) ?_
  refine lv_icmp_ne (tgt := 889) hx hb dL_known_707 (by decide) (fun c => absurd c (by decide)) (fun _ => ?_)
  refine lv_aload_n hx hb dL_known_710 rfl (lv_at hl 0 rfl) ?_
  refine lv_iconst (v := 0) hx hb dL_known_711 (by decide) ?_
  refine lv_iconst (v := 0) hx hb dL_known_712 (by decide) ?_
  refine kSF0 (As := [.int 0, .int 0]) (rest := []) ⟨hx, hb, hml, hown, hts⟩ (c_X4_row 60 o a b h t kn_F16 0 0 4094 kn_k64) (cwV 2 hts gL_known_X4_row rfl rfl rfl (by decide +kernel) ⟨Nat.le_of_ble_eq_true rfl, Nat.le_of_ble_eq_true rfl⟩) hX hP rfl hl.1 rfl (Nat.le_of_ble_eq_true rfl) dL_known_713 ⟨Nat.le_of_ble_eq_true rfl, Nat.le_of_ble_eq_true rfl⟩ ?_
  refine lv_sipush (v := 4094) hx hb dL_known_716 (by decide) ?_
  refine lv_icmp_ne (tgt := 889) hx hb dL_known_719 (by decide) (fun c => absurd c (by decide)) (fun _ => ?_)
  refine lv_aload_n hx hb dL_known_722 rfl (lv_at hl 0 rfl) ?_
  refine lv_bipush (v := 23) hx hb dL_known_723 (by decide) ?_
  refine kC0 (As := [.int 23]) (rest := []) ⟨hx, hb, hml, hown, hts⟩ (c_X4_count 60 o a b h t kn_F16 qA 5 qS td0 23 954 kn_k65) (cwV 1 hts gL_known_X4_count rfl rfl rfl (by decide +kernel) ⟨Nat.le_of_ble_eq_true rfl, Nat.le_of_ble_eq_true rfl⟩) hX hP rfl hl.1 rfl (Nat.le_of_ble_eq_true rfl) dL_known_725 ⟨Nat.le_of_ble_eq_true rfl, Nat.le_of_ble_eq_true rfl⟩ ?_
  refine lv_sipush (v := 954) hx hb dL_known_728 (by decide) ?_
  refine lv_icmp_ne (tgt := 889) hx hb dL_known_731 (by decide) (fun c => absurd c (by decide)) (fun _ => ?_)
  refine lv_aload_n hx hb dL_known_734 rfl (lv_at hl 0 rfl) ?_
  refine lv_bipush (v := 22) hx hb dL_known_735 (by decide) ?_
  refine kC0 (As := [.int 22]) (rest := []) ⟨hx, hb, hml, hown, hts⟩ (c_X4_count 60 o a b h t kn_F16 qA 5 qS td0 22 0 kn_k66) (cwV 1 hts gL_known_X4_count rfl rfl rfl (by decide +kernel) ⟨Nat.le_of_ble_eq_true rfl, Nat.le_of_ble_eq_true rfl⟩) hX hP rfl hl.1 rfl (Nat.le_of_ble_eq_true rfl) dL_known_737 ⟨Nat.le_of_ble_eq_true rfl, Nat.le_of_ble_eq_true rfl⟩ ?_
  refine lv_if_ne (tgt := 889) hx hb dL_known_740 (by decide) (fun c => absurd c (by decide)) (fun _ => ?_)
  refine lv_aload_n hx hb dL_known_743 rfl (lv_at hl 0 rfl) ?_
  refine lv_bipush (v := 10) hx hb dL_known_744 (by decide) ?_
  refine kC0 (As := [.int 10]) (rest := []) ⟨hx, hb, hml, hown, hts⟩ (c_X4_count 60 o a b h t kn_F16 qA 5 qS td0 10 1 kn_k67) (cwV 1 hts gL_known_X4_count rfl rfl rfl (by decide +kernel) ⟨Nat.le_of_ble_eq_true rfl, Nat.le_of_ble_eq_true rfl⟩) hX hP rfl hl.1 rfl (Nat.le_of_ble_eq_true rfl) dL_known_746 ⟨Nat.le_of_ble_eq_true rfl, Nat.le_of_ble_eq_true rfl⟩ ?_
  refine lv_iconst (v := 1) hx hb dL_known_749 (by decide) ?_
  refine lv_icmp_ne (tgt := 889) hx hb dL_known_750 (by decide) (fun c => absurd c (by decide)) (fun _ => ?_)
  refine lv_aload_n hx hb dL_known_753 rfl (lv_at hl 0 rfl) ?_
  refine lv_iconst (v := 0) hx hb dL_known_754 (by decide) ?_
  refine lv_sipush (v := 907) hx hb dL_known_755 (by decide) ?_
  have e1 := stepN (A := qA) (S := qS) (z := 5) (uni_pour 60 kn_F16 0 907) kn_k68
  refine kFH0 (As := [.int 0, .int 907]) (rest := []) ⟨hx, hb, hml, hown, hts⟩ (c_X4_pour 60 o a b h t kn_F16 qA 5 qS 0 907 _ _ _ _ _ e1) (cwV 2 hts gL_known_X4_pour rfl rfl rfl (by decide +kernel) ⟨Nat.le_of_ble_eq_true rfl, Nat.le_of_ble_eq_true rfl⟩) hX hP hD hS hA rfl hl.1 rfl (Nat.le_of_ble_eq_true rfl) dL_known_758 ⟨Nat.le_of_ble_eq_true rfl, Nat.le_of_ble_eq_true rfl⟩ (fun H locs hP hD hS => ?_)
  refine lv_bipush (v := (-3)) hx hb dL_known_761 (by decide) ?_
  refine lv_icmp_ne (tgt := 889) hx hb dL_known_763 (by decide) (fun c => absurd c (by decide)) (fun _ => ?_)
  refine lv_aload_n hx hb dL_known_766 rfl (lv_at hl 0 rfl) ?_
  refine lv_iconst (v := 0) hx hb dL_known_767 (by decide) ?_
  refine lv_sipush (v := 906) hx hb dL_known_768 (by decide) ?_
  obtain ⟨F1, e1, g1⟩ := step5 (A := qA) (S := qS) (uni_pour 60 kn_F16 0 906) kn_k69
  refine kFH0 (As := [.int 0, .int 906]) (rest := []) ⟨hx, hb, hml, hown, hts⟩ (c_X4_pour 60 o a b h t kn_F16 qA 5 qS 0 906 _ _ _ _ _ e1) (cwV 2 hts gL_known_X4_pour rfl rfl rfl (by decide +kernel) ⟨Nat.le_of_ble_eq_true rfl, Nat.le_of_ble_eq_true rfl⟩) hX hP hD hS hA rfl hl.1 rfl (Nat.le_of_ble_eq_true rfl) dL_known_771 ⟨Nat.le_of_ble_eq_true rfl, Nat.le_of_ble_eq_true rfl⟩ (fun H locs hP hD hS => ?_)
  obtain ⟨hP, hD⟩ := convF g1 hP hD
  generalize rot qA = qA at hP hD
  generalize va_up (rot qS) 4 kn_F16 = qS at hP hD
  refine lv_sipush (v := 5000) hx hb dL_known_774 (by decide) ?_
  refine lv_icmp_ne (tgt := 889) hx hb dL_known_777 (by decide) (fun c => absurd c (by decide)) (fun _ => ?_)
  exact kk G3 qA qS _ _ hP hD hS
set_option maxHeartbeats 4000000 in
set_option maxRecDepth 100000 in
theorem kn_s9 (S0 : CallFix p m c cL_known 1 s args wsL_known RL) (hX : xK D ks s) (hE : xEset A s s.heap) (hA : ∀ q, s.heap.size ≤ q → A q) (hP : va_P D vwCl (wO ks o a b h t kn_F17 G qA 5 qS td0) H) (hD : va_D A (wO ks o a b h t kn_F17 G qA 5 qS td0)) (hS : va_S A s.heap H locs) (hl : lv_has ls 1 [(0, .ref o)])
    (kk : ∀ (G : FD) (qA : Nat → AF) (qS : Nat → FD) (H : Heap) (locs : List Loc), va_P D vwCl (wO ks o a b h t kn_F22 G qA 5 qS td0) H → va_D A (wO ks o a b h t kn_F22 G qA 5 qS td0) → va_S A s.heap H locs → W p l e { frames := 9, cells := 34, slots := 477, locals := 195 } s m args below meth c H locs 34 477 Q (F0 m 867 ls [])) : W p l e { frames := 9, cells := 34, slots := 477, locals := 195 } s m args below meth c H locs 34 477 Q (F0 m 780 ls []) := by
  obtain ⟨hx, hb, hml, hown, hts⟩ := id S0
  refine lv_aload_n hx hb dL_known_780 rfl (lv_at hl 0 rfl) ?_
  refine lv_iconst (v := 0) hx hb dL_known_781 (by decide) ?_
  refine lv_sipush (v := 5000) hx hb dL_known_782 (by decide) ?_
  obtain ⟨F1, e1, g1⟩ := step5 (A := qA) (S := qS) (uni_thin 60 kn_F17 0 5000) kn_k70
  refine kFH0 (As := [.int 0, .int 5000]) (rest := []) ⟨hx, hb, hml, hown, hts⟩ (c_X4_thin 60 o a b h t kn_F17 qA 5 qS 0 5000 _ _ _ _ _ e1) (cwV 2 hts gL_known_X4_thin rfl rfl rfl (by decide +kernel) ⟨Nat.le_of_ble_eq_true rfl, Nat.le_of_ble_eq_true rfl⟩) hX hP hD hS hA rfl hl.1 rfl (Nat.le_of_ble_eq_true rfl) dL_known_785 ⟨Nat.le_of_ble_eq_true rfl, Nat.le_of_ble_eq_true rfl⟩ (fun H locs hP hD hS => ?_)
  obtain ⟨hP, hD⟩ := convF g1 hP hD
  generalize rot qA = qA at hP hD
  generalize va_up (rot qS) 4 kn_F17 = qS at hP hD
  refine lv_sipush (v := 5000) hx hb dL_known_788 (by decide) ?_
  refine lv_icmp_ne (tgt := 889) hx hb dL_known_791 (by decide) (fun c => absurd c (by decide)) (fun _ => ?_)
  refine lv_aload_n hx hb dL_known_794 rfl (lv_at hl 0 rfl) ?_
  refine lv_iconst (v := 0) hx hb dL_known_795 (by decide) ?_
  refine lv_iconst (v := 1) hx hb dL_known_796 (by decide) ?_
  obtain ⟨F1, e1, g1⟩ := step5 (A := qA) (S := qS) (uni_thin 60 kn_F18 0 1) kn_k71
  refine kFH0 (As := [.int 0, .int 1]) (rest := []) ⟨hx, hb, hml, hown, hts⟩ (c_X4_thin 60 o a b h t kn_F18 qA 5 qS 0 1 _ _ _ _ _ e1) (cwV 2 hts gL_known_X4_thin rfl rfl rfl (by decide +kernel) ⟨Nat.le_of_ble_eq_true rfl, Nat.le_of_ble_eq_true rfl⟩) hX hP hD hS hA rfl hl.1 rfl (Nat.le_of_ble_eq_true rfl) dL_known_797 ⟨Nat.le_of_ble_eq_true rfl, Nat.le_of_ble_eq_true rfl⟩ (fun H locs hP hD hS => ?_)
  obtain ⟨hP, hD⟩ := convF g1 hP hD
  generalize rot qA = qA at hP hD
  generalize va_up (rot qS) 4 kn_F18 = qS at hP hD
  refine lv_if_ne (tgt := 889) hx hb dL_known_800 (by decide) (fun c => absurd c (by decide)) (fun _ => ?_)
  refine lv_aload_n hx hb dL_known_803 rfl (lv_at hl 0 rfl) ?_
  have e1 := stepN (A := qA) (S := qS) (z := 5) (uni_cut 60 kn_F18) kn_k72
  refine kFH0 (As := []) (rest := []) ⟨hx, hb, hml, hown, hts⟩ (c_X4_cut 60 o a b h t kn_F18 qA 5 qS _ _ _ _ _ e1) (cwV 0 hts gL_known_X4_cut rfl rfl rfl (by decide +kernel) ⟨Nat.le_of_ble_eq_true rfl, Nat.le_of_ble_eq_true rfl⟩) hX hP hD hS hA rfl hl.1 rfl (Nat.le_of_ble_eq_true rfl) dL_known_804 ⟨Nat.le_of_ble_eq_true rfl, Nat.le_of_ble_eq_true rfl⟩ (fun H locs hP hD hS => ?_)
  refine lv_bipush (v := (-2)) hx hb dL_known_807 (by decide) ?_
  refine lv_icmp_ne (tgt := 889) hx hb dL_known_809 (by decide) (fun c => absurd c (by decide)) (fun _ => ?_)
  refine lv_aload_n hx hb dL_known_812 rfl (lv_at hl 0 rfl) ?_
  refine lv_bipush (v := 7) hx hb dL_known_813 (by decide) ?_
  obtain ⟨F1, e1, g1⟩ := step5 (A := qA) (S := qS) (uni_add 60 kn_F18 7) kn_k73
  refine kFH0 (As := [.int 7]) (rest := []) ⟨hx, hb, hml, hown, hts⟩ (c_X4_add 60 o a b h t kn_F18 qA 5 qS 7 _ _ _ _ _ e1) (cwV 1 hts gL_known_X4_add rfl rfl rfl (by decide +kernel) ⟨Nat.le_of_ble_eq_true rfl, Nat.le_of_ble_eq_true rfl⟩) hX hP hD hS hA rfl hl.1 rfl (Nat.le_of_ble_eq_true rfl) dL_known_815 ⟨Nat.le_of_ble_eq_true rfl, Nat.le_of_ble_eq_true rfl⟩ (fun H locs hP hD hS => ?_)
  obtain ⟨hP, hD⟩ := convF g1 hP hD
  generalize rot qA = qA at hP hD
  generalize va_up (rot qS) 4 kn_F18 = qS at hP hD
  refine lv_iconst (v := 2) hx hb dL_known_818 (by decide) ?_
  refine lv_icmp_ne (tgt := 889) hx hb dL_known_819 (by decide) (fun c => absurd c (by decide)) (fun _ => ?_)
  refine lv_aload_n hx hb dL_known_822 rfl (lv_at hl 0 rfl) ?_
  obtain ⟨F1, e1, g1⟩ := step5 (A := qA) (S := qS) (uni_cut 60 kn_F19) kn_k74
  refine kFH0 (As := []) (rest := []) ⟨hx, hb, hml, hown, hts⟩ (c_X4_cut 60 o a b h t kn_F19 qA 5 qS _ _ _ _ _ e1) (cwV 0 hts gL_known_X4_cut rfl rfl rfl (by decide +kernel) ⟨Nat.le_of_ble_eq_true rfl, Nat.le_of_ble_eq_true rfl⟩) hX hP hD hS hA rfl hl.1 rfl (Nat.le_of_ble_eq_true rfl) dL_known_823 ⟨Nat.le_of_ble_eq_true rfl, Nat.le_of_ble_eq_true rfl⟩ (fun H locs hP hD hS => ?_)
  obtain ⟨hP, hD⟩ := convF g1 hP hD
  generalize rot qA = qA at hP hD
  generalize va_up (rot qS) 4 kn_F19 = qS at hP hD
  refine lv_bipush (v := 7) hx hb dL_known_826 (by decide) ?_
  refine lv_icmp_ne (tgt := 889) hx hb dL_known_828 (by decide) (fun c => absurd c (by decide)) (fun _ => ?_)
  refine lv_aload_n hx hb dL_known_831 rfl (lv_at hl 0 rfl) ?_
  refine lv_iconst (v := 2) hx hb dL_known_832 (by decide) ?_
  refine lv_sipush (v := 5000) hx hb dL_known_833 (by decide) ?_
  refine lv_iconst (v := 0) hx hb dL_known_836 (by decide) ?_
  obtain ⟨F1, e1, g1⟩ := step5 (A := qA) (S := qS) (uni_dip 60 kn_F20 2 5000 0) kn_k75
  refine kFH0 (As := [.int 2, .int 5000, .int 0]) (rest := []) ⟨hx, hb, hml, hown, hts⟩ (c_X4_dip 60 o a b h t kn_F20 qA 5 qS 2 5000 0 _ _ _ _ _ e1) (cwV 3 hts gL_known_X4_dip rfl rfl rfl (by decide +kernel) ⟨Nat.le_of_ble_eq_true rfl, Nat.le_of_ble_eq_true rfl⟩) hX hP hD hS hA rfl hl.1 rfl (Nat.le_of_ble_eq_true rfl) dL_known_837 ⟨Nat.le_of_ble_eq_true rfl, Nat.le_of_ble_eq_true rfl⟩ (fun H locs hP hD hS => ?_)
  obtain ⟨hP, hD⟩ := convF g1 hP hD
  generalize rot qA = qA at hP hD
  generalize va_up (rot qS) 4 kn_F20 = qS at hP hD
  refine lv_sipush (v := 10000) hx hb dL_known_840 (by decide) ?_
  refine lv_icmp_ne (tgt := 889) hx hb dL_known_843 (by decide) (fun c => absurd c (by decide)) (fun _ => ?_)
  refine lv_aload_n hx hb dL_known_846 rfl (lv_at hl 0 rfl) ?_
  refine lv_iconst (v := 1) hx hb dL_known_847 (by decide) ?_
  obtain ⟨F1, e1, g1⟩ := step5 (A := qA) (S := qS) (uni_go 60 (by decide) kn_F21 1) kn_k76
  refine kFH0 (As := [.int 1]) (rest := []) ⟨hx, hb, hml, hown, hts⟩ (c_X4_go 60 o a b h t kn_F21 qA 5 qS 1 _ _ _ _ _ e1) (cwV 1 hts gL_known_X4_go rfl rfl rfl (by decide +kernel) ⟨Nat.le_of_ble_eq_true rfl, Nat.le_of_ble_eq_true rfl⟩) hX hP hD hS hA rfl hl.1 rfl (Nat.le_of_ble_eq_true rfl) dL_known_848 ⟨Nat.le_of_ble_eq_true rfl, Nat.le_of_ble_eq_true rfl⟩ (fun H locs hP hD hS => ?_)
  obtain ⟨hP, hD⟩ := convF g1 hP hD
  generalize rot qA = qA at hP hD
  generalize va_up (rot qS) 4 kn_F21 = qS at hP hD
  refine lv_iconst (v := 1) hx hb dL_known_851 (by decide) ?_
  refine lv_icmp_ne (tgt := 889) hx hb dL_known_852 (by decide) (fun c => absurd c (by decide)) (fun _ => ?_)
  refine lv_aload_n hx hb dL_known_855 rfl (lv_at hl 0 rfl) ?_
  refine lv_iconst (v := 0) hx hb dL_known_856 (by decide) ?_
  refine lv_iconst (v := 0) hx hb dL_known_857 (by decide) ?_
  refine kSF0 (As := [.int 0, .int 0]) (rest := []) ⟨hx, hb, hml, hown, hts⟩ (c_X4_row 60 o a b h t kn_F22 0 0 4499 kn_k77) (cwV 2 hts gL_known_X4_row rfl rfl rfl (by decide +kernel) ⟨Nat.le_of_ble_eq_true rfl, Nat.le_of_ble_eq_true rfl⟩) hX hP rfl hl.1 rfl (Nat.le_of_ble_eq_true rfl) dL_known_858 ⟨Nat.le_of_ble_eq_true rfl, Nat.le_of_ble_eq_true rfl⟩ ?_
  refine lv_sipush (v := 4499) hx hb dL_known_861 (by decide) ?_
  refine lv_icmp_ne (tgt := 889) hx hb dL_known_864 (by decide) (fun c => absurd c (by decide)) (fun _ => ?_)
  exact kk G qA qS _ _ hP hD hS
set_option maxHeartbeats 4000000 in
set_option maxRecDepth 100000 in
theorem kn_s10 (S0 : CallFix p m c cL_known 1 s args wsL_known RL) (hX : xK D ks s) (hE : xEset A s s.heap) (hA : ∀ q, s.heap.size ≤ q → A q) (hP : va_P D vwCl (wO ks o a b h t kn_F22 G qA 5 qS td0) H) (hD : va_D A (wO ks o a b h t kn_F22 G qA 5 qS td0)) (hS : va_S A s.heap H locs) (hl : lv_has ls 1 [(0, .ref o)])
    (kk : ∀ (G : FD) (qA : Nat → AF) (qS : Nat → FD) (H : Heap) (locs : List Loc), va_P D vwCl (wO ks o a b h t kn_F22 G qA 5 qS td0) H → va_D A (wO ks o a b h t kn_F22 G qA 5 qS td0) → va_S A s.heap H locs → W p l e { frames := 9, cells := 34, slots := 477, locals := 195 } s m args below meth c H locs 34 477 Q (F0 m 941 ls [])) : W p l e { frames := 9, cells := 34, slots := 477, locals := 195 } s m args below meth c H locs 34 477 Q (F0 m 867 ls []) := by
  obtain ⟨hx, hb, hml, hown, hts⟩ := id S0
  refine lv_aload_n hx hb dL_known_867 rfl (lv_at hl 0 rfl) ?_
  refine lv_iconst (v := 1) hx hb dL_known_868 (by decide) ?_
  refine lv_iconst (v := 0) hx hb dL_known_869 (by decide) ?_
  refine kSF0 (As := [.int 1, .int 0]) (rest := []) ⟨hx, hb, hml, hown, hts⟩ (c_X4_row 60 o a b h t kn_F22 1 0 4999 kn_k78) (cwV 2 hts gL_known_X4_row rfl rfl rfl (by decide +kernel) ⟨Nat.le_of_ble_eq_true rfl, Nat.le_of_ble_eq_true rfl⟩) hX hP rfl hl.1 rfl (Nat.le_of_ble_eq_true rfl) dL_known_870 ⟨Nat.le_of_ble_eq_true rfl, Nat.le_of_ble_eq_true rfl⟩ ?_
  refine lv_sipush (v := 4999) hx hb dL_known_873 (by decide) ?_
  refine lv_icmp_ne (tgt := 889) hx hb dL_known_876 (by decide) (fun c => absurd c (by decide)) (fun _ => ?_)
  refine lv_aload_n hx hb dL_known_879 rfl (lv_at hl 0 rfl) ?_
  refine lv_bipush (v := 10) hx hb dL_known_880 (by decide) ?_
  refine kC0 (As := [.int 10]) (rest := []) ⟨hx, hb, hml, hown, hts⟩ (c_X4_count 60 o a b h t kn_F22 qA 5 qS td0 10 2 kn_k79) (cwV 1 hts gL_known_X4_count rfl rfl rfl (by decide +kernel) ⟨Nat.le_of_ble_eq_true rfl, Nat.le_of_ble_eq_true rfl⟩) hX hP rfl hl.1 rfl (Nat.le_of_ble_eq_true rfl) dL_known_882 ⟨Nat.le_of_ble_eq_true rfl, Nat.le_of_ble_eq_true rfl⟩ ?_
  refine lv_iconst (v := 2) hx hb dL_known_885 (by decide) ?_
  refine lv_icmp_eq (tgt := 891) hx hb dL_known_886 (by decide) (fun _ => ?_) (fun c => absurd c (by decide))
  refine lv_aload_n hx hb dL_known_891 rfl (lv_at hl 0 rfl) ?_
  refine lv_bipush (v := 20) hx hb dL_known_892 (by decide) ?_
  refine kC0 (As := [.int 20]) (rest := []) ⟨hx, hb, hml, hown, hts⟩ (c_X4_count 60 o a b h t kn_F22 qA 5 qS td0 20 17141 kn_k80) (cwV 1 hts gL_known_X4_count rfl rfl rfl (by decide +kernel) ⟨Nat.le_of_ble_eq_true rfl, Nat.le_of_ble_eq_true rfl⟩) hX hP rfl hl.1 rfl (Nat.le_of_ble_eq_true rfl) dL_known_894 ⟨Nat.le_of_ble_eq_true rfl, Nat.le_of_ble_eq_true rfl⟩ ?_
  refine lv_aload_n hx hb dL_known_897 rfl (lv_at hl 0 rfl) ?_
  refine lv_bipush (v := 21) hx hb dL_known_898 (by decide) ?_
  refine kC0 (As := [.int 21]) (rest := [.int 17141]) ⟨hx, hb, hml, hown, hts⟩ (c_X4_count 60 o a b h t kn_F22 qA 5 qS td0 21 9498 kn_k81) (cwV 1 hts gL_known_X4_count rfl rfl rfl (by decide +kernel) ⟨Nat.le_of_ble_eq_true rfl, Nat.le_of_ble_eq_true rfl⟩) hX hP rfl hl.1 rfl (Nat.le_of_ble_eq_true rfl) dL_known_900 ⟨Nat.le_of_ble_eq_true rfl, Nat.le_of_ble_eq_true rfl⟩ ?_
  refine lv_aload_n hx hb dL_known_903 rfl (lv_at hl 0 rfl) ?_
  refine lv_bipush (v := 22) hx hb dL_known_904 (by decide) ?_
  refine kC0 (As := [.int 22]) (rest := [.int 9498, .int 17141]) ⟨hx, hb, hml, hown, hts⟩ (c_X4_count 60 o a b h t kn_F22 qA 5 qS td0 22 0 kn_k82) (cwV 1 hts gL_known_X4_count rfl rfl rfl (by decide +kernel) ⟨Nat.le_of_ble_eq_true rfl, Nat.le_of_ble_eq_true rfl⟩) hX hP rfl hl.1 rfl (Nat.le_of_ble_eq_true rfl) dL_known_906 ⟨Nat.le_of_ble_eq_true rfl, Nat.le_of_ble_eq_true rfl⟩ ?_
  refine lv_iadd hx hb dL_known_909 ?_
  rw [show ((9498 : Int32) + 0) = 9498 from by decide]
  refine lv_aload_n hx hb dL_known_910 rfl (lv_at hl 0 rfl) ?_
  refine lv_bipush (v := 23) hx hb dL_known_911 (by decide) ?_
  refine kC0 (As := [.int 23]) (rest := [.int 9498, .int 17141]) ⟨hx, hb, hml, hown, hts⟩ (c_X4_count 60 o a b h t kn_F22 qA 5 qS td0 23 1454 kn_k83) (cwV 1 hts gL_known_X4_count rfl rfl rfl (by decide +kernel) ⟨Nat.le_of_ble_eq_true rfl, Nat.le_of_ble_eq_true rfl⟩) hX hP rfl hl.1 rfl (Nat.le_of_ble_eq_true rfl) dL_known_913 ⟨Nat.le_of_ble_eq_true rfl, Nat.le_of_ble_eq_true rfl⟩ ?_
  refine lv_iadd hx hb dL_known_916 ?_
  rw [show ((9498 : Int32) + 1454) = 10952 from by decide]
  refine lv_aload_n hx hb dL_known_917 rfl (lv_at hl 0 rfl) ?_
  refine lv_bipush (v := 24) hx hb dL_known_918 (by decide) ?_
  refine kC0 (As := [.int 24]) (rest := [.int 10952, .int 17141]) ⟨hx, hb, hml, hown, hts⟩ (c_X4_count 60 o a b h t kn_F22 qA 5 qS td0 24 16 kn_k84) (cwV 1 hts gL_known_X4_count rfl rfl rfl (by decide +kernel) ⟨Nat.le_of_ble_eq_true rfl, Nat.le_of_ble_eq_true rfl⟩) hX hP rfl hl.1 rfl (Nat.le_of_ble_eq_true rfl) dL_known_920 ⟨Nat.le_of_ble_eq_true rfl, Nat.le_of_ble_eq_true rfl⟩ ?_
  refine lv_iadd hx hb dL_known_923 ?_
  rw [show ((10952 : Int32) + 16) = 10968 from by decide]
  refine lv_aload_n hx hb dL_known_924 rfl (lv_at hl 0 rfl) ?_
  refine lv_bipush (v := 25) hx hb dL_known_925 (by decide) ?_
  refine kC0 (As := [.int 25]) (rest := [.int 10968, .int 17141]) ⟨hx, hb, hml, hown, hts⟩ (c_X4_count 60 o a b h t kn_F22 qA 5 qS td0 25 187 kn_k85) (cwV 1 hts gL_known_X4_count rfl rfl rfl (by decide +kernel) ⟨Nat.le_of_ble_eq_true rfl, Nat.le_of_ble_eq_true rfl⟩) hX hP rfl hl.1 rfl (Nat.le_of_ble_eq_true rfl) dL_known_927 ⟨Nat.le_of_ble_eq_true rfl, Nat.le_of_ble_eq_true rfl⟩ ?_
  refine lv_iadd hx hb dL_known_930 ?_
  rw [show ((10968 : Int32) + 187) = 11155 from by decide]
  refine lv_aload_n hx hb dL_known_931 rfl (lv_at hl 0 rfl) ?_
  refine lv_bipush (v := 26) hx hb dL_known_932 (by decide) ?_
  refine kC0 (As := [.int 26]) (rest := [.int 11155, .int 17141]) ⟨hx, hb, hml, hown, hts⟩ (c_X4_count 60 o a b h t kn_F22 qA 5 qS td0 26 5986 kn_k86) (cwV 1 hts gL_known_X4_count rfl rfl rfl (by decide +kernel) ⟨Nat.le_of_ble_eq_true rfl, Nat.le_of_ble_eq_true rfl⟩) hX hP rfl hl.1 rfl (Nat.le_of_ble_eq_true rfl) dL_known_934 ⟨Nat.le_of_ble_eq_true rfl, Nat.le_of_ble_eq_true rfl⟩ ?_
  refine lv_iadd hx hb dL_known_937 ?_
  rw [show ((11155 : Int32) + 5986) = 17141 from by decide]
  refine lv_icmp_ne (tgt := 1003) hx hb dL_known_938 (by decide) (fun c => absurd c (by decide)) (fun _ => ?_)
  exact kk G qA qS _ _ hP hD hS
set_option maxHeartbeats 4000000 in
set_option maxRecDepth 100000 in
theorem kn_end (S0 : CallFix p m c cL_known 1 s args wsL_known RL) (hX : xK D ks s) (hE : xEset A s s.heap) (hA : ∀ q, s.heap.size ≤ q → A q) (hP : va_P D vwCl (wO ks o a b h t kn_F22 G qA 5 qS td0) H) (hD : va_D A (wO ks o a b h t kn_F22 G qA 5 qS td0)) (hS : va_S A s.heap H locs) (hl : lv_has ls 1 [(0, .ref o)])
    (kk : ∀ (H : Heap) (locs : List Loc), va_S A s.heap H locs → W p l e { frames := 9, cells := 34, slots := 477, locals := 195 } s m args below meth c H locs 34 477 Q (F0 m 1004 ls [.int 1])) : W p l e { frames := 9, cells := 34, slots := 477, locals := 195 } s m args below meth c H locs 34 477 Q (F0 m 941 ls []) := by
  obtain ⟨hx, hb, hml, hown, hts⟩ := id S0
  refine lv_aload_n hx hb dL_known_941 rfl (lv_at hl 0 rfl) ?_
  refine lv_iconst (v := 0) hx hb dL_known_942 (by decide) ?_
  refine lv_bipush (v := 100) hx hb dL_known_943 (by decide) ?_
  obtain ⟨F1, e1, g1⟩ := step5 (A := qA) (S := qS) (uni_set 60 kn_F22 0 100) kn_k87
  refine kFHE0 (As := [.int 0, .int 100]) (rest := []) ⟨hx, hb, hml, hown, hts⟩ (c_X4_set 60 o a b h t kn_F22 qA 5 qS 0 100 _ _ _ _ _ e1) (cwV 2 hts gL_known_X4_set rfl rfl rfl (by decide +kernel) ⟨Nat.le_of_ble_eq_true rfl, Nat.le_of_ble_eq_true rfl⟩) hX hP hD hS hA hE ok_xEset rfl hl.1 rfl (Nat.le_of_ble_eq_true rfl) dL_known_945 ⟨Nat.le_of_ble_eq_true rfl, Nat.le_of_ble_eq_true rfl⟩ (fun H locs hP hD hS => ?_)
  obtain ⟨hP, hD⟩ := convF g1 hP hD
  generalize rot qA = qA at hP hD
  generalize va_up (rot qS) 4 kn_F22 = qS at hP hD
  refine lv_bipush (v := 20) hx hb dL_known_948 (by decide) ?_
  refine lv_icmp_ne (tgt := 1003) hx hb dL_known_950 (by decide) (fun c => absurd c (by decide)) (fun _ => ?_)
  refine lv_aload_n hx hb dL_known_953 rfl (lv_at hl 0 rfl) ?_
  refine lv_bipush (v := 6) hx hb dL_known_954 (by decide) ?_
  refine lv_ldc (v := 100000) hx hb hown (hts (.constant RL 159 (100000)) (by decide +kernel)) dL_known_956 ?_
  obtain ⟨F1, e1, g1⟩ := step5 (A := qA) (S := qS) (uni_set 60 kn_F23 6 100000) kn_k88
  refine kFHE0 (As := [.int 6, .int 100000]) (rest := []) ⟨hx, hb, hml, hown, hts⟩ (c_X4_set 60 o a b h t kn_F23 qA 5 qS 6 100000 _ _ _ _ _ e1) (cwV 2 hts gL_known_X4_set rfl rfl rfl (by decide +kernel) ⟨Nat.le_of_ble_eq_true rfl, Nat.le_of_ble_eq_true rfl⟩) hX hP hD hS hA hE ok_xEset rfl hl.1 rfl (Nat.le_of_ble_eq_true rfl) dL_known_958 ⟨Nat.le_of_ble_eq_true rfl, Nat.le_of_ble_eq_true rfl⟩ (fun H locs hP hD hS => ?_)
  obtain ⟨hP, hD⟩ := convF g1 hP hD
  generalize rot qA = qA at hP hD
  generalize va_up (rot qS) 4 kn_F23 = qS at hP hD
  refine lv_bipush (v := 100) hx hb dL_known_961 (by decide) ?_
  refine lv_icmp_ne (tgt := 1003) hx hb dL_known_963 (by decide) (fun c => absurd c (by decide)) (fun _ => ?_)
  refine lv_aload_n hx hb dL_known_966 rfl (lv_at hl 0 rfl) ?_
  refine lv_iconst (v := 1) hx hb dL_known_967 (by decide) ?_
  obtain ⟨F1, e1, g1⟩ := step5 (A := qA) (S := qS) (uni_go 60 (by decide) kn_F24 1) kn_k89
  refine kFH0 (As := [.int 1]) (rest := []) ⟨hx, hb, hml, hown, hts⟩ (c_X4_go 60 o a b h t kn_F24 qA 5 qS 1 _ _ _ _ _ e1) (cwV 1 hts gL_known_X4_go rfl rfl rfl (by decide +kernel) ⟨Nat.le_of_ble_eq_true rfl, Nat.le_of_ble_eq_true rfl⟩) hX hP hD hS hA rfl hl.1 rfl (Nat.le_of_ble_eq_true rfl) dL_known_968 ⟨Nat.le_of_ble_eq_true rfl, Nat.le_of_ble_eq_true rfl⟩ (fun H locs hP hD hS => ?_)
  obtain ⟨hP, hD⟩ := convF g1 hP hD
  generalize rot qA = qA at hP hD
  generalize va_up (rot qS) 4 kn_F24 = qS at hP hD
  refine lv_iconst (v := 1) hx hb dL_known_971 (by decide) ?_
  refine lv_icmp_ne (tgt := 1003) hx hb dL_known_972 (by decide) (fun c => absurd c (by decide)) (fun _ => ?_)
  refine lv_aload_n hx hb dL_known_975 rfl (lv_at hl 0 rfl) ?_
  refine lv_iconst (v := 1) hx hb dL_known_976 (by decide) ?_
  refine lv_iconst (v := 0) hx hb dL_known_977 (by decide) ?_
  refine kSF0 (As := [.int 1, .int 0]) (rest := []) ⟨hx, hb, hml, hown, hts⟩ (c_X4_row 60 o a b h t kn_F25 1 0 4523 kn_k90) (cwV 2 hts gL_known_X4_row rfl rfl rfl (by decide +kernel) ⟨Nat.le_of_ble_eq_true rfl, Nat.le_of_ble_eq_true rfl⟩) hX hP rfl hl.1 rfl (Nat.le_of_ble_eq_true rfl) dL_known_978 ⟨Nat.le_of_ble_eq_true rfl, Nat.le_of_ble_eq_true rfl⟩ ?_
  refine lv_sipush (v := 4523) hx hb dL_known_981 (by decide) ?_
  refine lv_icmp_ne (tgt := 1003) hx hb dL_known_984 (by decide) (fun c => absurd c (by decide)) (fun _ => ?_)
  refine lv_aload_n hx hb dL_known_987 rfl (lv_at hl 0 rfl) ?_
  refine lv_iconst (v := 0) hx hb dL_known_988 (by decide) ?_
  refine lv_iconst (v := 0) hx hb dL_known_989 (by decide) ?_
  refine kSF0 (As := [.int 0, .int 0]) (rest := []) ⟨hx, hb, hml, hown, hts⟩ (c_X4_row 60 o a b h t kn_F25 0 0 2474 kn_k91) (cwV 2 hts gL_known_X4_row rfl rfl rfl (by decide +kernel) ⟨Nat.le_of_ble_eq_true rfl, Nat.le_of_ble_eq_true rfl⟩) hX hP rfl hl.1 rfl (Nat.le_of_ble_eq_true rfl) dL_known_990 ⟨Nat.le_of_ble_eq_true rfl, Nat.le_of_ble_eq_true rfl⟩ ?_
  refine lv_sipush (v := 2474) hx hb dL_known_993 (by decide) ?_
  refine lv_icmp_ne (tgt := 1003) hx hb dL_known_996 (by decide) (fun c => absurd c (by decide)) (fun _ => ?_)
  refine lv_iconst (v := 1) hx hb dL_known_999 (by decide) ?_
  refine lv_goto (tgt := 1004) hx hb dL_known_1000 (by decide) ?_
  exact kk _ _ hS
end KN
set_option maxHeartbeats 4000000 in
set_option maxRecDepth 100000 in
theorem c_L_known {l : Launch} {D : va_G} {ks : K3} : MetN l yL_known wsL_known { frames := 9, cells := 34, slots := 477, locals := 195 } D ks 34 477 xE2 := by
  refine MetN.of (cc := cL_known) (maxL := 1) (ret := (some .boolean)) (by decide +kernel) rfl ?_ ⟨_, rfl⟩
  intro p e s m below meth c Q A hx hb hml hts hown hX hA hEE hret ls hl
  obtain ⟨hEF, hE⟩ := hEE
  have hK := hX.1
  have hS : va_S A s.heap s.heap [] := va_S.rf
  have hP := va_P00 D vwCl s.heap
  have hD := va_D00 A
  have inl : ∀ w ∈ wsX40, w ∈ wsL_known := fun w h => List.mem_cons_of_mem _ (inlX4 w h)
  refine va_new (ci := 3) (fs := [.null, .null, .null, .null]) (C := RX4) (T := TX4) (N := 4) hx hb hts inl tyX4 tyX4_ok hown (hts (.classLink RL 14 RX4) (by decide +kernel)) (hts (.instantiable RX4 4) (by decide +kernel)) (hts (.initialized RX4) (by decide +kernel)) hK hP hD hS hA rfl (fun j hj => by rcases (show j = 0 ∨ j = 1 ∨ j = 2 ∨ j = 3 by omega) with rfl | rfl | rfl | rfl <;> rfl) (Nat.le_of_ble_eq_true rfl) (Nat.le_of_ble_eq_true rfl) dL_known_0 (fun o H hP hD hS => ?_)
  replace hP : va_P D vwCl [(o, .inr (3, [.null, .null, .null, .null]))] H := hP
  replace hD : va_D A [(o, .inr (3, [.null, .null, .null, .null]))] := hD
  refine lv_dup hx hb dL_known_3 rfl ?_
  refine xcallC (As := []) (rest := [.ref o]) (wc := [(o, .inr (3, [.null, .null, .null, .null]))]) (wr := ([] : va_W)) ⟨hx, hb, hml, hown, hts⟩ (c_X4_init o) (cwI 0 hts gL_known_X4_init rfl rfl rfl (hts (.initialized RX4) (by decide +kernel)) (hts (.methodLink RL 90 yX4_init) (by decide +kernel)) (hts (.instanceMethod yX4_init) (by decide +kernel)) rfl (by decide +kernel) ⟨Nat.le_of_ble_eq_true rfl, Nat.le_of_ble_eq_true rfl⟩) hX hP hD hS hA [0] [] rfl rfl ⟨by decide, by decide⟩ (by decide) hEF ok_xEF rfl hl.1 rfl (Nat.le_of_ble_eq_true rfl) dL_known_4 ⟨Nat.le_of_ble_eq_true rfl, Nat.le_of_ble_eq_true rfl⟩ (fun v H locs hu hP2 hD2 hS => ?_)
  obtain ⟨fa, fb, fh, fq, ft⟩ := v
  have hP : va_P D vwCl (wO ks o fa fb fh ft fd0 fd0 fq 0 (fun _ => fd0) td0) H := hP2
  have hD : va_D A (wO ks o fa fb fh ft fd0 fd0 fq 0 (fun _ => fd0) td0) := hD2
  clear hP2 hD2
  refine W.widen (k := 34) (n := 477) (Nat.le_of_ble_eq_true rfl) (Nat.le_of_ble_eq_true rfl) ?_
  refine lv_astore_n (lv' := [(0, .ref o)]) hx hb dL_known_7 rfl hl (by decide) rfl (fun ls hl => ?_)
  have S0 : CallFix p m c cL_known 1 s ([] : List Value).toArray wsL_known RL := ⟨hx, hb, hml, hown, hts⟩
  refine kn_s0 S0 hX hE hA hP hD hS hl (fun G qA qS H locs hP hD hS => ?_)
  refine kn_s1 S0 hX hE hA hP hD hS hl (fun G qA qS H locs hP hD hS => ?_)
  refine kn_s2 S0 hX hE hA hP hD hS hl (fun G qA qS H locs hP hD hS => ?_)
  refine kn_s3 S0 hX hE hA hP hD hS hl (fun G qA qS H locs hP hD hS => ?_)
  refine kn_s4 S0 hX hE hA hP hD hS hl (fun G qA qS H locs hP hD hS => ?_)
  refine kn_s5 S0 hX hE hA hP hD hS hl (fun G qA qS H locs hP hD hS => ?_)
  refine kn_s6 S0 hX hE hA hP hD hS hl (fun G qA qS H locs hP hD hS => ?_)
  refine kn_s7 S0 hX hE hA hP hD hS hl (fun G qA qS H locs hP hD hS => ?_)
  refine kn_s8 S0 hX hE hA hP hD hS hl (fun G qA qS H locs hP hD hS => ?_)
  refine kn_s9 S0 hX hE hA hP hD hS hl (fun G qA qS H locs hP hD hS => ?_)
  refine kn_s10 S0 hX hE hA hP hD hS hl (fun G qA qS H locs hP hD hS => ?_)
  exact kn_end S0 hX hE hA hP hD hS hl (fun H locs hS => hret H locs _ _ dL_known_1004 (fun ty h => by cases h; rfl) hS)
