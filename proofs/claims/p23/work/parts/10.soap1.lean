/-! ===== X4_isSo ===== -/
def p_X4_isSo (k : Nat) (F : FD) (G : FD) (x1 : Int32) (x2 : Int32) : Option (Int32) :=
  if x1 = 0 then (if (FD.rows G) = 0 then (some 1) else (some 0)) else (if x1 = 1 then ((p_X0_blackRows k G).bind fun v4 => if v4 < x2 then (some 0) else (some 1)) else (if x1 = 2 then (if (FD.rows G) ≤ 0 then (some 0) else ((p_X0_colourAt k G 0).bind fun v8 => if v8 = x2 then (some 1) else (some 0))) else (if x1 = 3 then (if ((FD.drops G) - (FD.drops F)) < x2 then (some 0) else (some 1)) else (some 0))))

set_option maxHeartbeats 4000000 in
set_option maxRecDepth 100000 in
theorem c_X4_isSo {l : Launch} {D : va_G} {ks : K3} (k : Nat) (o : Nat) (a b : AF) (h : AH) (t : AT) (F : FD) (G : FD) (x1 : Int32) (x2 : Int32) (r : Int32) (hf : p_X4_isSo k F G x1 x2 = some r) : MetR l yX4_isSo wsX4_isSo { frames := 4, cells := 0, slots := 0, locals := 85 } D ks [.ref o, .int x1, .int x2] (wS o a b h t ++ wF ks a F ++ wF ks b G) r (narrow .boolean (.int r) = .int r) := by
  refine MetR.of (cc := cX4_isSo) (maxL := 3) (ret := (some .boolean)) (by decide +kernel) rfl (Nat.le_of_ble_eq_true rfl) ?_ ⟨_, rfl⟩
  intro p e s m below meth c Q hx hb hml hts hown hP hX hret ls hl
  have hK := hX.1
  replace hl : lv_has ls 3 [(0, .ref o), (1, .int x1), (2, .int x2)] := hl
  have hiX0 : ∀ w ∈ wsX00, w ∈ wsX4_isSo := by decide +kernel
  have hiX4 : ∀ w ∈ wsX40, w ∈ wsX4_isSo := by decide +kernel
  have hk16 := hts (.fieldLink RX4 16 "SoapFilm" "trial" "LSoapFilm$Film;") (by decide +kernel)
  have hk74 := hts (.fieldLink RX4 74 "SoapFilm$Film" "rows" "I") (by decide +kernel)
  have hk144 := hts (.fieldLink RX4 144 "SoapFilm$Film" "drops" "I") (by decide +kernel)
  have hk10 := hts (.fieldLink RX4 10 "SoapFilm" "film" "LSoapFilm$Film;") (by decide +kernel)
  unfold p_X4_isSo at hf
  refine lv_iload_n hx hb dX4_isSo_0 rfl (lv_at hl 1 rfl) ?_
  by_cases c1 : x1 = 0
  · replace hf := ifT hf c1
    refine lv_tableIn (tgt := 32) (off := 31) hx hb dX4_isSo_1 (by rw [c1]; decide) (by rw [c1]; decide) (by rw [c1]; rfl) (by decide) ?_
    refine lv_aload_n hx hb dX4_isSo_32 rfl (lv_at hl 0 rfl) ?_
    refine va_get (v := .ref b.1) (C := RX4) (T := TX4) (N := 4) hx hb hts hiX4 hown hK hP 0 rfl rfl 1 (by decide) hk16 (fun _ h9 => h9) rfl dX4_isSo_33 ?_
    refine va_get (v := .int (FD.rows G)) (C := RX0) (T := TX0) (N := 10) hx hb hts hiX0 hown hK hP 5 rfl rfl 3 (by decide) hk74 (fun _ h9 => h9) rfl dX4_isSo_36 ?_
    refine lv_if_ne (tgt := 46) hx hb dX4_isSo_39 (by decide) (fun c2 => ?_) (fun c2 => ?_)
    · replace hf := ifF hf c2
      refine lv_iconst (v := 0) hx hb dX4_isSo_46 (by decide) ?_
      obtain rfl := Option.some.inj hf
      exact hret rfl _ _ dX4_isSo_47 (fun ty h => by cases h; rfl)
    · replace hf := ifT hf c2
      refine lv_iconst (v := 1) hx hb dX4_isSo_42 (by decide) ?_
      refine lv_goto (tgt := 47) hx hb dX4_isSo_43 (by decide) ?_
      obtain rfl := Option.some.inj hf
      exact hret rfl _ _ dX4_isSo_47 (fun ty h => by cases h; rfl)
  replace hf := ifF hf c1
  by_cases c3 : x1 = 1
  · replace hf := ifT hf c3
    refine lv_tableIn (tgt := 48) (off := 47) hx hb dX4_isSo_1 (by rw [c3]; decide) (by rw [c3]; decide) (by rw [c3]; rfl) (by decide) ?_
    refine lv_aload_n hx hb dX4_isSo_48 rfl (lv_at hl 0 rfl) ?_
    refine va_get (v := .ref b.1) (C := RX4) (T := TX4) (N := 4) hx hb hts hiX4 hown hK hP 0 rfl rfl 1 (by decide) hk16 (fun _ h9 => h9) rfl dX4_isSo_49 ?_
    obtain ⟨v4, hv4, hf⟩ := bnd hf
    refine xcallRV (As := []) (rest := []) (wc := (wF ks b G)) ⟨hx, hb, hml, hown, hts⟩ (c_X0_blackRows k b G v4 hv4) (cwV 0 hts gX4_isSo_X0_blackRows rfl rfl rfl (by decide +kernel) ⟨Nat.le_of_ble_eq_true rfl, Nat.le_of_ble_eq_true rfl⟩) hX (hP.sub (ws' := (wF ks b G)) [5, 6, 7, 8] rfl) (ci := 0) (q0 := 0) rfl rfl rfl hl.1 rfl (Nat.le_of_ble_eq_true rfl) dX4_isSo_52 ⟨Nat.zero_le _, Nat.zero_le _⟩ (fun zv4 => ?_)
    refine lv_iload_n hx hb dX4_isSo_55 rfl (lv_at hl 2 rfl) ?_
    refine lv_icmp_lt (tgt := 63) hx hb dX4_isSo_56 (by decide) (fun c5 => ?_) (fun c5 => ?_)
    · replace hf := ifT hf c5
      refine lv_iconst (v := 0) hx hb dX4_isSo_63 (by decide) ?_
      obtain rfl := Option.some.inj hf
      exact hret rfl _ _ dX4_isSo_64 (fun ty h => by cases h; rfl)
    · replace hf := ifF hf c5
      refine lv_iconst (v := 1) hx hb dX4_isSo_59 (by decide) ?_
      refine lv_goto (tgt := 64) hx hb dX4_isSo_60 (by decide) ?_
      obtain rfl := Option.some.inj hf
      exact hret rfl _ _ dX4_isSo_64 (fun ty h => by cases h; rfl)
  replace hf := ifF hf c3
  by_cases c6 : x1 = 2
  · replace hf := ifT hf c6
    refine lv_tableIn (tgt := 65) (off := 64) hx hb dX4_isSo_1 (by rw [c6]; decide) (by rw [c6]; decide) (by rw [c6]; rfl) (by decide) ?_
    refine lv_aload_n hx hb dX4_isSo_65 rfl (lv_at hl 0 rfl) ?_
    refine va_get (v := .ref b.1) (C := RX4) (T := TX4) (N := 4) hx hb hts hiX4 hown hK hP 0 rfl rfl 1 (by decide) hk16 (fun _ h9 => h9) rfl dX4_isSo_66 ?_
    refine va_get (v := .int (FD.rows G)) (C := RX0) (T := TX0) (N := 10) hx hb hts hiX0 hown hK hP 5 rfl rfl 3 (by decide) hk74 (fun _ h9 => h9) rfl dX4_isSo_69 ?_
    refine lv_if_le (tgt := 91) hx hb dX4_isSo_72 (by decide) (fun c7 => ?_) (fun c7 => ?_)
    · replace hf := ifT hf c7
      refine lv_iconst (v := 0) hx hb dX4_isSo_91 (by decide) ?_
      obtain rfl := Option.some.inj hf
      exact hret rfl _ _ dX4_isSo_92 (fun ty h => by cases h; rfl)
    · replace hf := ifF hf c7
      refine lv_aload_n hx hb dX4_isSo_75 rfl (lv_at hl 0 rfl) ?_
      refine va_get (v := .ref b.1) (C := RX4) (T := TX4) (N := 4) hx hb hts hiX4 hown hK hP 0 rfl rfl 1 (by decide) hk16 (fun _ h9 => h9) rfl dX4_isSo_76 ?_
      refine lv_iconst (v := 0) hx hb dX4_isSo_79 (by decide) ?_
      obtain ⟨v8, hv8, hf⟩ := bnd hf
      refine xcallRV (As := [.int 0]) (rest := []) (wc := (wF ks b G)) ⟨hx, hb, hml, hown, hts⟩ (c_X0_colourAt k b G 0 v8 hv8) (cwV 1 hts gX4_isSo_X0_colourAt rfl rfl rfl (by decide +kernel) ⟨Nat.le_of_ble_eq_true rfl, Nat.le_of_ble_eq_true rfl⟩) hX (hP.sub (ws' := (wF ks b G)) [5, 6, 7, 8] rfl) (ci := 0) (q0 := 0) rfl rfl rfl hl.1 rfl (Nat.le_of_ble_eq_true rfl) dX4_isSo_80 ⟨Nat.zero_le _, Nat.zero_le _⟩ (fun zv8 => ?_)
      refine lv_iload_n hx hb dX4_isSo_83 rfl (lv_at hl 2 rfl) ?_
      refine lv_icmp_ne (tgt := 91) hx hb dX4_isSo_84 (by decide) (fun c9 => ?_) (fun c9 => ?_)
      · replace hf := ifF hf c9
        refine lv_iconst (v := 0) hx hb dX4_isSo_91 (by decide) ?_
        obtain rfl := Option.some.inj hf
        exact hret rfl _ _ dX4_isSo_92 (fun ty h => by cases h; rfl)
      · replace hf := ifT hf c9
        refine lv_iconst (v := 1) hx hb dX4_isSo_87 (by decide) ?_
        refine lv_goto (tgt := 92) hx hb dX4_isSo_88 (by decide) ?_
        obtain rfl := Option.some.inj hf
        exact hret rfl _ _ dX4_isSo_92 (fun ty h => by cases h; rfl)
  replace hf := ifF hf c6
  by_cases c10 : x1 = 3
  · replace hf := ifT hf c10
    refine lv_tableIn (tgt := 93) (off := 92) hx hb dX4_isSo_1 (by rw [c10]; decide) (by rw [c10]; decide) (by rw [c10]; rfl) (by decide) ?_
    refine lv_aload_n hx hb dX4_isSo_93 rfl (lv_at hl 0 rfl) ?_
    refine va_get (v := .ref b.1) (C := RX4) (T := TX4) (N := 4) hx hb hts hiX4 hown hK hP 0 rfl rfl 1 (by decide) hk16 (fun _ h9 => h9) rfl dX4_isSo_94 ?_
    refine va_get (v := .int (FD.drops G)) (C := RX0) (T := TX0) (N := 10) hx hb hts hiX0 hown hK hP 5 rfl rfl 5 (by decide) hk144 (fun _ h9 => h9) rfl dX4_isSo_97 ?_
    refine lv_aload_n hx hb dX4_isSo_100 rfl (lv_at hl 0 rfl) ?_
    refine va_get (v := .ref a.1) (C := RX4) (T := TX4) (N := 4) hx hb hts hiX4 hown hK hP 0 rfl rfl 0 (by decide) hk10 (fun _ h9 => h9) rfl dX4_isSo_101 ?_
    refine va_get (v := .int (FD.drops F)) (C := RX0) (T := TX0) (N := 10) hx hb hts hiX0 hown hK hP 1 rfl rfl 5 (by decide) hk144 (fun _ h9 => h9) rfl dX4_isSo_104 ?_
    refine lv_isub hx hb dX4_isSo_107 ?_
    refine lv_iload_n hx hb dX4_isSo_108 rfl (lv_at hl 2 rfl) ?_
    refine lv_icmp_lt (tgt := 116) hx hb dX4_isSo_109 (by decide) (fun c11 => ?_) (fun c11 => ?_)
    · replace hf := ifT hf c11
      refine lv_iconst (v := 0) hx hb dX4_isSo_116 (by decide) ?_
      obtain rfl := Option.some.inj hf
      exact hret rfl _ _ dX4_isSo_117 (fun ty h => by cases h; rfl)
    · replace hf := ifF hf c11
      refine lv_iconst (v := 1) hx hb dX4_isSo_112 (by decide) ?_
      refine lv_goto (tgt := 117) hx hb dX4_isSo_113 (by decide) ?_
      obtain rfl := Option.some.inj hf
      exact hret rfl _ _ dX4_isSo_117 (fun ty h => by cases h; rfl)
  replace hf := ifF hf c10
  refine lv_tableOut (tgt := 118) hx hb dX4_isSo_1 (by have := lv_neT (a := 0) c1 (by decide); have := lv_neT (a := 1) c3 (by decide); have := lv_neT (a := 2) c6 (by decide); have := lv_neT (a := 3) c10 (by decide); omega) (by decide) ?_
  refine lv_iconst (v := 0) hx hb dX4_isSo_118 (by decide) ?_
  obtain rfl := Option.some.inj hf
  exact hret rfl _ _ dX4_isSo_119 (fun ty h => by cases h; rfl)

/-! ===== X4_set ===== -/
def p_X4_set (k : Nat) (F : FD) (qA : Nat → AF) (qz : Int32) (qS : Nat → FD) (x1 : Int32) (x2 : Int32) : Option (Int32 × FD × (Nat → AF) × Int32 × (Nat → FD)) :=
  if x1 < 0 then (some ((-1), F, qA, qz, qS)) else (if x1 < 7 then ((ald tb_LEAST_SETTING 7 x1).bind fun v3 => (ald tb_GREATEST_SETTING 7 x1).bind fun v4 => (p_X4_isBetween k x2 v3 v4).bind fun v5 => if v5 = 0 then (some ((-1), F, qA, qz, qS)) else (bind3 (p_X2_keep k qA qz qS F) fun A7 z8 S9 => (ald (FD.st F) 7 x1).bind fun v10 => (ast (FD.st F) 7 x1 x2).bind fun f11 => some (v10, (mkFD (FD.th F) f11 (FD.ac F) (FD.rows F) (FD.ticks F) (FD.drops F) (FD.bursts F) (FD.burstReason F) (FD.burstNumber F) (FD.ticksBeforeBurst F)), A7, z8, S9))) else (some ((-1), F, qA, qz, qS)))

set_option maxHeartbeats 4000000 in
set_option maxRecDepth 100000 in
theorem c_X4_set {l : Launch} {D : va_G} {ks : K3} (k : Nat) (o : Nat) (a b : AF) (h : AH) (t : AT) (F : FD) (qA : Nat → AF) (qz : Int32) (qS : Nat → FD) (x1 : Int32) (x2 : Int32) (r : Int32) (rF : FD) (rA : Nat → AF) (rz : Int32) (rS : Nat → FD) (hf : p_X4_set k F qA qz qS x1 x2 = some (r, rF, rA, rz, rS)) : MetIE l yX4_set wsX4_set { frames := 3, cells := 0, slots := 0, locals := 68 } D ks [.ref o, .int x1, .int x2] (wS o a b h t ++ wF ks a F ++ wH ks h qA qz qS) (wS o a b h t ++ wF ks a rF ++ wH ks h rA rz rS) r True xEset := by
  refine MetIE.of (cc := cX4_set) (maxL := 4) (ret := (some .int)) (by decide +kernel) rfl (Nat.le_of_ble_eq_true rfl) ?_ ⟨_, rfl⟩
  intro p e s m below meth c Q A hx hb hml hts hown hP hX hD hA hE hret ls hl
  have hK := hX.1
  replace hl : lv_has ls 4 [(0, .ref o), (1, .int x1), (2, .int x2)] := hl
  have hS : va_S A s.heap s.heap [] := va_S.rf
  obtain ⟨⟨t_LEAST_SETTING, hZ_LEAST_SETTING, hT_LEAST_SETTING⟩, t_GREATEST_SETTING, hZ_GREATEST_SETTING, hT_GREATEST_SETTING⟩ := hE
  have hiX0 : ∀ w ∈ wsX00, w ∈ wsX4_set := by decide +kernel
  have hiX4 : ∀ w ∈ wsX40, w ∈ wsX4_set := by decide +kernel
  have hk33 := hts (.fieldLink RX4 33 "SoapFilm" "LEAST_SETTING" "[I") (by decide +kernel)
  have hk37 := hts (.fieldLink RX4 37 "SoapFilm" "GREATEST_SETTING" "[I") (by decide +kernel)
  have hk22 := hts (.fieldLink RX4 22 "SoapFilm" "history" "LSoapFilm$History;") (by decide +kernel)
  have hk10 := hts (.fieldLink RX4 10 "SoapFilm" "film" "LSoapFilm$Film;") (by decide +kernel)
  have hk48 := hts (.fieldLink RX4 48 "SoapFilm$Film" "settings" "[I") (by decide +kernel)
  unfold p_X4_set at hf
  refine lv_iload_n hx hb dX4_set_0 rfl (lv_at hl 1 rfl) ?_
  refine lv_if_lt (tgt := 10) hx hb dX4_set_1 (by decide) (fun c1 => ?_) (fun c1 => ?_)
  · replace hf := ifT hf c1
    refine lv_iconst (v := (-1)) hx hb dX4_set_10 (by decide) ?_
    obtain ⟨rfl, rfl, rfl, rfl, rfl⟩ := inj5 hf
    exact hret trivial _ _ _ _ dX4_set_11 (fun ty h => by cases h; rfl) hP hD hS
  · replace hf := ifF hf c1
    refine lv_iload_n hx hb dX4_set_4 rfl (lv_at hl 1 rfl) ?_
    refine lv_bipush (v := 7) hx hb dX4_set_5 (by decide) ?_
    refine lv_icmp_lt (tgt := 12) hx hb dX4_set_7 (by decide) (fun c2 => ?_) (fun c2 => ?_)
    · replace hf := ifT hf c2
      refine lv_iload_n hx hb dX4_set_12 rfl (lv_at hl 2 rfl) ?_
      refine va_gets hx hb hZ_LEAST_SETTING hS hown hk33 (fun _ h9 => h9) dX4_set_13 ?_
      refine lv_iload_n hx hb dX4_set_16 rfl (lv_at hl 1 rfl) ?_
      obtain ⟨v3, hv3, hf⟩ := bnd hf
      refine xa_tald hx hb hT_LEAST_SETTING hS hv3 dX4_set_17 ?_
      refine va_gets hx hb hZ_GREATEST_SETTING hS hown hk37 (fun _ h9 => h9) dX4_set_18 ?_
      refine lv_iload_n hx hb dX4_set_21 rfl (lv_at hl 1 rfl) ?_
      obtain ⟨v4, hv4, hf⟩ := bnd hf
      refine xa_tald hx hb hT_GREATEST_SETTING hS hv4 dX4_set_22 ?_
      obtain ⟨v5, hv5, hf⟩ := bnd hf
      refine xcallRS (As := [.int x2, .int v3, .int v4]) (rest := []) (wc := []) ⟨hx, hb, hml, hown, hts⟩ (c_X4_isBetween k x2 v3 v4 v5 hv5) (va_cwS 3 hts gX4_set_X4_isBetween rfl rfl rfl (by decide +kernel) ⟨Nat.le_of_ble_eq_true rfl, Nat.le_of_ble_eq_true rfl⟩) hX (va_P0 _ _ _) rfl hl.1 rfl (Nat.le_of_ble_eq_true rfl) dX4_set_23 ⟨Nat.zero_le _, Nat.zero_le _⟩ (fun zv5 => ?_)
      refine lv_if_ne (tgt := 31) hx hb dX4_set_26 (by decide) (fun c6 => ?_) (fun c6 => ?_)
      · replace hf := ifF hf c6
        refine lv_aload_n hx hb dX4_set_31 rfl (lv_at hl 0 rfl) ?_
        refine va_get (v := .ref h.1) (C := RX4) (T := TX4) (N := 4) hx hb hts hiX4 hown hK hP 0 rfl rfl 2 (by decide) hk22 (fun _ h9 => h9) rfl dX4_set_32 ?_
        refine lv_aload_n hx hb dX4_set_35 rfl (lv_at hl 0 rfl) ?_
        refine va_get (v := .ref a.1) (C := RX4) (T := TX4) (N := 4) hx hb hts hiX4 hown hK hP 0 rfl rfl 0 (by decide) hk10 (fun _ h9 => h9) rfl dX4_set_36 ?_
        obtain ⟨A7, z8, S9, hA7, hf⟩ := bnd3 hf
        refine xcallV (As := [.ref a.1]) (rest := []) (wc := (wH ks h qA qz qS ++ wF ks a F)) (w1 := (wH ks h A7 z8 S9 ++ wF ks a F)) (wr := ((wS o a b h t))) (wn := (wS o a b h t ++ wF ks a F ++ wH ks h A7 z8 S9)) ⟨hx, hb, hml, hown, hts⟩ (c_X2_keep k h a qA qz qS F A7 z8 S9 hA7) (cwV 1 hts gX4_set_X2_keep rfl rfl rfl (by decide +kernel) ⟨Nat.le_of_ble_eq_true rfl, Nat.le_of_ble_eq_true rfl⟩) hX hP hD hS hA [5, 6, 7, 8, 9, 10, 11, 12, 13, 14, 15, 16, 17, 18, 19, 20, 21, 22, 23, 24, 25, 26, 1, 2, 3, 4] [0] [0, 23, 24, 25, 26, 1, 2, 3, 4, 5, 6, 7, 8, 9, 10, 11, 12, 13, 14, 15, 16, 17, 18, 19, 20, 21, 22] rfl rfl rfl ⟨by decide, by decide, by decide⟩ (by decide) (ci := 2) (q0 := 0) rfl rfl rfl hl.1 rfl (Nat.le_of_ble_eq_true rfl) dX4_set_39 ⟨Nat.zero_le _, Nat.zero_le _⟩ (fun H locs hP hD hS => ?_)
        refine lv_aload_n hx hb dX4_set_42 rfl (lv_at hl 0 rfl) ?_
        refine va_get (v := .ref a.1) (C := RX4) (T := TX4) (N := 4) hx hb hts hiX4 hown hK hP 0 rfl rfl 0 (by decide) hk10 (fun _ h9 => h9) rfl dX4_set_43 ?_
        refine va_get (v := .ref a.2.2.1) (C := RX0) (T := TX0) (N := 10) hx hb hts hiX0 hown hK hP 1 rfl rfl 1 (by decide) hk48 (fun _ h9 => h9) rfl dX4_set_46 ?_
        refine lv_iload_n hx hb dX4_set_49 rfl (lv_at hl 1 rfl) ?_
        obtain ⟨v10, hv10, hf⟩ := bnd hf
        refine xa_iald hx hb hK hP hv10 3 0 rfl rfl dX4_set_50 ?_
        refine lv_istore_n (lv' := [(3, .int v10), (0, .ref o), (1, .int x1), (2, .int x2)]) hx hb dX4_set_51 rfl hl (by decide) rfl (fun ls hl => ?_)
        refine lv_aload_n hx hb dX4_set_52 rfl (lv_at hl 1 rfl) ?_
        refine va_get (v := .ref a.1) (C := RX4) (T := TX4) (N := 4) hx hb hts hiX4 hown hK hP 0 rfl rfl 0 (by decide) hk10 (fun _ h9 => h9) rfl dX4_set_53 ?_
        refine va_get (v := .ref a.2.2.1) (C := RX0) (T := TX0) (N := 10) hx hb hts hiX0 hown hK hP 1 rfl rfl 1 (by decide) hk48 (fun _ h9 => h9) rfl dX4_set_56 ?_
        refine lv_iload_n hx hb dX4_set_59 rfl (lv_at hl 2 rfl) ?_
        refine lv_iload_n hx hb dX4_set_60 rfl (lv_at hl 3 rfl) ?_
        obtain ⟨f11, hf11, hf⟩ := bnd hf
        refine xa_iast (wn := (wS o a b h t ++ wF ks a (mkFD (FD.th F) f11 (FD.ac F) (FD.rows F) (FD.ticks F) (FD.drops F) (FD.bursts F) (FD.burstReason F) (FD.burstNumber F) (FD.ticksBeforeBurst F)) ++ wH ks h A7 z8 S9)) hx hb hK hP hD hS hf11 3 0 rfl rfl dX4_set_61 rfl (fun H locs hP hD hS => ?_)
        refine lv_iload_n hx hb dX4_set_62 rfl (lv_at hl 0 rfl) ?_
        obtain ⟨rfl, rfl, rfl, rfl, rfl⟩ := inj5 hf
        exact hret trivial _ _ _ _ dX4_set_63 (fun ty h => by cases h; rfl) hP hD hS
      · replace hf := ifT hf c6
        refine lv_iconst (v := (-1)) hx hb dX4_set_29 (by decide) ?_
        obtain ⟨rfl, rfl, rfl, rfl, rfl⟩ := inj5 hf
        exact hret trivial _ _ _ _ dX4_set_30 (fun ty h => by cases h; rfl) hP hD hS
    · replace hf := ifF hf c2
      refine lv_iconst (v := (-1)) hx hb dX4_set_10 (by decide) ?_
      obtain ⟨rfl, rfl, rfl, rfl, rfl⟩ := inj5 hf
      exact hret trivial _ _ _ _ dX4_set_11 (fun ty h => by cases h; rfl) hP hD hS

/-! ===== X4_dip ===== -/
def p_X4_dip_L66 (k : Nat) (qA : Nat → AF) (qz : Int32) (qS : Nat → FD) (y1 : Int32) (y2 : Int32) (y3 : Int32) : Nat → (FD) → (Int32) → Option (Int32 × FD × (Nat → AF) × Int32 × (Nat → FD))
  | 0, _, _ => none
  | n + 1, F, x4 =>
    if y1 ≤ x4 then ((ald (FD.ac F) 7 1).bind fun v2 => some (v2, F, qA, qz, qS)) else ((p_X0_appendRow k F (y2 + (y3 * x4))).bind fun F3 => p_X4_dip_L66 k qA qz qS y1 y2 y3 n F3 (x4 + 1))

def p_X4_dip (k : Nat) (F : FD) (qA : Nat → AF) (qz : Int32) (qS : Nat → FD) (x1 : Int32) (x2 : Int32) (x3 : Int32) : Option (Int32 × FD × (Nat → AF) × Int32 × (Nat → FD)) :=
  (p_X4_isBetween k x1 1 24).bind fun v1 => if v1 = 0 then (some ((-1), F, qA, qz, qS)) else ((p_X4_isThickness k x2).bind fun v3 => if v3 = 0 then (some ((-1), F, qA, qz, qS)) else ((p_X4_isBetween k x3 0 500).bind fun v5 => if v5 = 0 then (some ((-1), F, qA, qz, qS)) else ((p_X4_isThickness k (x2 + (x3 * (x1 - 1)))).bind fun v7 => if v7 = 0 then (some ((-1), F, qA, qz, qS)) else (bind3 (p_X2_keep k qA qz qS F) fun A9 z10 S11 => (p_X0_takeAway k F).bind fun F12 => p_X4_dip_L66 k A9 z10 S11 x1 x2 x3 k F12 0))))

set_option maxHeartbeats 4000000 in
set_option maxRecDepth 100000 in
theorem c_X4_dip {l : Launch} {D : va_G} {ks : K3} (k : Nat) (o : Nat) (a b : AF) (h : AH) (t : AT) (F : FD) (qA : Nat → AF) (qz : Int32) (qS : Nat → FD) (x1 : Int32) (x2 : Int32) (x3 : Int32) (r : Int32) (rF : FD) (rA : Nat → AF) (rz : Int32) (rS : Nat → FD) (hf : p_X4_dip k F qA qz qS x1 x2 x3 = some (r, rF, rA, rz, rS)) : MetI l yX4_dip wsX4_dip { frames := 3, cells := 0, slots := 0, locals := 68 } D ks [.ref o, .int x1, .int x2, .int x3] (wS o a b h t ++ wF ks a F ++ wH ks h qA qz qS) (wS o a b h t ++ wF ks a rF ++ wH ks h rA rz rS) r True := by
  refine MetI.of (cc := cX4_dip) (maxL := 5) (ret := (some .int)) (by decide +kernel) rfl (Nat.le_of_ble_eq_true rfl) ?_ ⟨_, rfl⟩
  intro p e s m below meth c Q A hx hb hml hts hown hP hX hD hA hret ls hl
  have hK := hX.1
  replace hl : lv_has ls 5 [(0, .ref o), (1, .int x1), (2, .int x2), (3, .int x3)] := hl
  have hS : va_S A s.heap s.heap [] := va_S.rf
  have hiX0 : ∀ w ∈ wsX00, w ∈ wsX4_dip := by decide +kernel
  have hiX4 : ∀ w ∈ wsX40, w ∈ wsX4_dip := by decide +kernel
  have hk22 := hts (.fieldLink RX4 22 "SoapFilm" "history" "LSoapFilm$History;") (by decide +kernel)
  have hk10 := hts (.fieldLink RX4 10 "SoapFilm" "film" "LSoapFilm$Film;") (by decide +kernel)
  have hk62 := hts (.fieldLink RX4 62 "SoapFilm$Film" "accounts" "[I") (by decide +kernel)
  unfold p_X4_dip at hf
  refine lv_iload_n hx hb dX4_dip_0 rfl (lv_at hl 1 rfl) ?_
  refine lv_iconst (v := 1) hx hb dX4_dip_1 (by decide) ?_
  refine lv_bipush (v := 24) hx hb dX4_dip_2 (by decide) ?_
  obtain ⟨v1, hv1, hf⟩ := bnd hf
  refine xcallRS (As := [.int x1, .int 1, .int 24]) (rest := []) (wc := []) ⟨hx, hb, hml, hown, hts⟩ (c_X4_isBetween k x1 1 24 v1 hv1) (va_cwS 3 hts gX4_dip_X4_isBetween rfl rfl rfl (by decide +kernel) ⟨Nat.le_of_ble_eq_true rfl, Nat.le_of_ble_eq_true rfl⟩) hX (va_P0 _ _ _) rfl hl.1 rfl (Nat.le_of_ble_eq_true rfl) dX4_dip_4 ⟨Nat.zero_le _, Nat.zero_le _⟩ (fun zv1 => ?_)
  refine lv_if_eq (tgt := 28) hx hb dX4_dip_7 (by decide) (fun c2 => ?_) (fun c2 => ?_)
  · replace hf := ifT hf c2
    refine lv_iconst (v := (-1)) hx hb dX4_dip_28 (by decide) ?_
    obtain ⟨rfl, rfl, rfl, rfl, rfl⟩ := inj5 hf
    exact hret trivial _ _ _ _ dX4_dip_29 (fun ty h => by cases h; rfl) hP hD hS
  · replace hf := ifF hf c2
    refine lv_iload_n hx hb dX4_dip_10 rfl (lv_at hl 2 rfl) ?_
    obtain ⟨v3, hv3, hf⟩ := bnd hf
    refine xcallRS (As := [.int x2]) (rest := []) (wc := []) ⟨hx, hb, hml, hown, hts⟩ (c_X4_isThickness k x2 v3 hv3) (va_cwS 1 hts gX4_dip_X4_isThickness rfl rfl rfl (by decide +kernel) ⟨Nat.le_of_ble_eq_true rfl, Nat.le_of_ble_eq_true rfl⟩) hX (va_P0 _ _ _) rfl hl.1 rfl (Nat.le_of_ble_eq_true rfl) dX4_dip_11 ⟨Nat.zero_le _, Nat.zero_le _⟩ (fun zv3 => ?_)
    refine lv_if_eq (tgt := 28) hx hb dX4_dip_14 (by decide) (fun c4 => ?_) (fun c4 => ?_)
    · replace hf := ifT hf c4
      refine lv_iconst (v := (-1)) hx hb dX4_dip_28 (by decide) ?_
      obtain ⟨rfl, rfl, rfl, rfl, rfl⟩ := inj5 hf
      exact hret trivial _ _ _ _ dX4_dip_29 (fun ty h => by cases h; rfl) hP hD hS
    · replace hf := ifF hf c4
      refine lv_iload_n hx hb dX4_dip_17 rfl (lv_at hl 3 rfl) ?_
      refine lv_iconst (v := 0) hx hb dX4_dip_18 (by decide) ?_
      refine lv_sipush (v := 500) hx hb dX4_dip_19 (by decide) ?_
      obtain ⟨v5, hv5, hf⟩ := bnd hf
      refine xcallRS (As := [.int x3, .int 0, .int 500]) (rest := []) (wc := []) ⟨hx, hb, hml, hown, hts⟩ (c_X4_isBetween k x3 0 500 v5 hv5) (va_cwS 3 hts gX4_dip_X4_isBetween rfl rfl rfl (by decide +kernel) ⟨Nat.le_of_ble_eq_true rfl, Nat.le_of_ble_eq_true rfl⟩) hX (va_P0 _ _ _) rfl hl.1 rfl (Nat.le_of_ble_eq_true rfl) dX4_dip_22 ⟨Nat.zero_le _, Nat.zero_le _⟩ (fun zv5 => ?_)
      refine lv_if_ne (tgt := 30) hx hb dX4_dip_25 (by decide) (fun c6 => ?_) (fun c6 => ?_)
      · replace hf := ifF hf c6
        refine lv_iload_n hx hb dX4_dip_30 rfl (lv_at hl 2 rfl) ?_
        refine lv_iload_n hx hb dX4_dip_31 rfl (lv_at hl 3 rfl) ?_
        refine lv_iload_n hx hb dX4_dip_32 rfl (lv_at hl 1 rfl) ?_
        refine lv_iconst (v := 1) hx hb dX4_dip_33 (by decide) ?_
        refine lv_isub hx hb dX4_dip_34 ?_
        refine lv_imul hx hb dX4_dip_35 ?_
        refine lv_iadd hx hb dX4_dip_36 ?_
        obtain ⟨v7, hv7, hf⟩ := bnd hf
        refine xcallRS (As := [.int (x2 + (x3 * (x1 - 1)))]) (rest := []) (wc := []) ⟨hx, hb, hml, hown, hts⟩ (c_X4_isThickness k (x2 + (x3 * (x1 - 1))) v7 hv7) (va_cwS 1 hts gX4_dip_X4_isThickness rfl rfl rfl (by decide +kernel) ⟨Nat.le_of_ble_eq_true rfl, Nat.le_of_ble_eq_true rfl⟩) hX (va_P0 _ _ _) rfl hl.1 rfl (Nat.le_of_ble_eq_true rfl) dX4_dip_37 ⟨Nat.zero_le _, Nat.zero_le _⟩ (fun zv7 => ?_)
        refine lv_if_ne (tgt := 45) hx hb dX4_dip_40 (by decide) (fun c8 => ?_) (fun c8 => ?_)
        · replace hf := ifF hf c8
          refine lv_aload_n hx hb dX4_dip_45 rfl (lv_at hl 0 rfl) ?_
          refine va_get (v := .ref h.1) (C := RX4) (T := TX4) (N := 4) hx hb hts hiX4 hown hK hP 0 rfl rfl 2 (by decide) hk22 (fun _ h9 => h9) rfl dX4_dip_46 ?_
          refine lv_aload_n hx hb dX4_dip_49 rfl (lv_at hl 0 rfl) ?_
          refine va_get (v := .ref a.1) (C := RX4) (T := TX4) (N := 4) hx hb hts hiX4 hown hK hP 0 rfl rfl 0 (by decide) hk10 (fun _ h9 => h9) rfl dX4_dip_50 ?_
          obtain ⟨A9, z10, S11, hA9, hf⟩ := bnd3 hf
          refine xcallV (As := [.ref a.1]) (rest := []) (wc := (wH ks h qA qz qS ++ wF ks a F)) (w1 := (wH ks h A9 z10 S11 ++ wF ks a F)) (wr := ((wS o a b h t))) (wn := (wS o a b h t ++ wF ks a F ++ wH ks h A9 z10 S11)) ⟨hx, hb, hml, hown, hts⟩ (c_X2_keep k h a qA qz qS F A9 z10 S11 hA9) (cwV 1 hts gX4_dip_X2_keep rfl rfl rfl (by decide +kernel) ⟨Nat.le_of_ble_eq_true rfl, Nat.le_of_ble_eq_true rfl⟩) hX hP hD hS hA [5, 6, 7, 8, 9, 10, 11, 12, 13, 14, 15, 16, 17, 18, 19, 20, 21, 22, 23, 24, 25, 26, 1, 2, 3, 4] [0] [0, 23, 24, 25, 26, 1, 2, 3, 4, 5, 6, 7, 8, 9, 10, 11, 12, 13, 14, 15, 16, 17, 18, 19, 20, 21, 22] rfl rfl rfl ⟨by decide, by decide, by decide⟩ (by decide) (ci := 2) (q0 := 0) rfl rfl rfl hl.1 rfl (Nat.le_of_ble_eq_true rfl) dX4_dip_53 ⟨Nat.zero_le _, Nat.zero_le _⟩ (fun H locs hP hD hS => ?_)
          refine lv_aload_n hx hb dX4_dip_56 rfl (lv_at hl 0 rfl) ?_
          refine va_get (v := .ref a.1) (C := RX4) (T := TX4) (N := 4) hx hb hts hiX4 hown hK hP 0 rfl rfl 0 (by decide) hk10 (fun _ h9 => h9) rfl dX4_dip_57 ?_
          obtain ⟨F12, hF12, hf⟩ := bnd hf
          refine xcallV (As := []) (rest := []) (wc := (wF ks a F)) (w1 := (wF ks a F12)) (wr := ((wS o a b h t ++ wH ks h A9 z10 S11))) (wn := (wS o a b h t ++ wF ks a F12 ++ wH ks h A9 z10 S11)) ⟨hx, hb, hml, hown, hts⟩ (c_X0_takeAway k a F F12 hF12) (cwV 0 hts gX4_dip_X0_takeAway rfl rfl rfl (by decide +kernel) ⟨Nat.le_of_ble_eq_true rfl, Nat.le_of_ble_eq_true rfl⟩) hX hP hD hS hA [1, 2, 3, 4] [0, 5, 6, 7, 8, 9, 10, 11, 12, 13, 14, 15, 16, 17, 18, 19, 20, 21, 22, 23, 24, 25, 26] [0, 23, 24, 25, 26, 1, 2, 3, 4, 5, 6, 7, 8, 9, 10, 11, 12, 13, 14, 15, 16, 17, 18, 19, 20, 21, 22] rfl rfl rfl ⟨by decide, by decide, by decide⟩ (by decide) (ci := 0) (q0 := 0) rfl rfl rfl hl.1 rfl (Nat.le_of_ble_eq_true rfl) dX4_dip_60 ⟨Nat.zero_le _, Nat.zero_le _⟩ (fun H locs hP hD hS => ?_)
          refine lv_iconst (v := 0) hx hb dX4_dip_63 (by decide) ?_
          refine lv_istore (lv' := [(4, .int 0), (0, .ref o), (1, .int x1), (2, .int x2), (3, .int x3)]) hx hb dX4_dip_64 hl (by decide) rfl (fun ls hl => ?_)
          have L66 : ∀ (n : Nat) (Fq66 : FD) (x4q66 : Int32) (H : Heap) (locs : List Loc) (ls : Array Slot), p_X4_dip_L66 k A9 z10 S11 x1 x2 x3 n Fq66 x4q66 = some (r, rF, rA, rz, rS) → va_P D vwCl (wS o a b h t ++ wF ks a Fq66 ++ wH ks h A9 z10 S11) H → va_D A (wS o a b h t ++ wF ks a Fq66 ++ wH ks h A9 z10 S11) → va_S A s.heap H locs → lv_has ls 5 [(0, .ref o), (1, .int x1), (2, .int x2), (3, .int x3), (4, .int x4q66)] → W p l e { frames := 3, cells := 0, slots := 0, locals := 68 } s m ([.ref o, .int x1, .int x2, .int x3] : List Value).toArray below meth c H locs 0 0 Q (F0 m 66 ls []) := by
            intro n
            induction n with
            | zero => intro Fq66 x4q66 H locs ls hf; cases hf
            | succ n ih66 =>
              intro Fq66 x4q66 H locs ls hf hP hD hS hl
              rw [p_X4_dip_L66] at hf
              refine lv_iload hx hb dX4_dip_66 (lv_at hl 4 rfl) ?_
              refine lv_iload_n hx hb dX4_dip_68 rfl (lv_at hl 1 rfl) ?_
              refine lv_icmp_ge (tgt := 91) hx hb dX4_dip_69 (by decide) (fun c13 => ?_) (fun c13 => ?_)
              · replace hf := ifT hf c13
                refine lv_aload_n hx hb dX4_dip_91 rfl (lv_at hl 0 rfl) ?_
                refine va_get (v := .ref a.1) (C := RX4) (T := TX4) (N := 4) hx hb hts hiX4 hown hK hP 0 rfl rfl 0 (by decide) hk10 (fun _ h9 => h9) rfl dX4_dip_92 ?_
                refine va_get (v := .ref a.2.2.2) (C := RX0) (T := TX0) (N := 10) hx hb hts hiX0 hown hK hP 1 rfl rfl 2 (by decide) hk62 (fun _ h9 => h9) rfl dX4_dip_95 ?_
                refine lv_iconst (v := 1) hx hb dX4_dip_98 (by decide) ?_
                obtain ⟨v14, hv14, hf⟩ := bnd hf
                refine xa_iald hx hb hK hP hv14 4 0 rfl rfl dX4_dip_99 ?_
                obtain ⟨rfl, rfl, rfl, rfl, rfl⟩ := inj5 hf
                exact hret trivial _ _ _ _ dX4_dip_100 (fun ty h => by cases h; rfl) hP hD hS
              · replace hf := ifF hf c13
                refine lv_aload_n hx hb dX4_dip_72 rfl (lv_at hl 0 rfl) ?_
                refine va_get (v := .ref a.1) (C := RX4) (T := TX4) (N := 4) hx hb hts hiX4 hown hK hP 0 rfl rfl 0 (by decide) hk10 (fun _ h9 => h9) rfl dX4_dip_73 ?_
                refine lv_iload_n hx hb dX4_dip_76 rfl (lv_at hl 2 rfl) ?_
                refine lv_iload_n hx hb dX4_dip_77 rfl (lv_at hl 3 rfl) ?_
                refine lv_iload hx hb dX4_dip_78 (lv_at hl 4 rfl) ?_
                refine lv_imul hx hb dX4_dip_80 ?_
                refine lv_iadd hx hb dX4_dip_81 ?_
                obtain ⟨F15, hF15, hf⟩ := bnd hf
                refine xcallV (As := [.int (x2 + (x3 * x4q66))]) (rest := []) (wc := (wF ks a Fq66)) (w1 := (wF ks a F15)) (wr := ((wS o a b h t ++ wH ks h A9 z10 S11))) (wn := (wS o a b h t ++ wF ks a F15 ++ wH ks h A9 z10 S11)) ⟨hx, hb, hml, hown, hts⟩ (c_X0_appendRow k a Fq66 (x2 + (x3 * x4q66)) F15 hF15) (cwV 1 hts gX4_dip_X0_appendRow rfl rfl rfl (by decide +kernel) ⟨Nat.le_of_ble_eq_true rfl, Nat.le_of_ble_eq_true rfl⟩) hX hP hD hS hA [1, 2, 3, 4] [0, 5, 6, 7, 8, 9, 10, 11, 12, 13, 14, 15, 16, 17, 18, 19, 20, 21, 22, 23, 24, 25, 26] [0, 23, 24, 25, 26, 1, 2, 3, 4, 5, 6, 7, 8, 9, 10, 11, 12, 13, 14, 15, 16, 17, 18, 19, 20, 21, 22] rfl rfl rfl ⟨by decide, by decide, by decide⟩ (by decide) (ci := 0) (q0 := 0) rfl rfl rfl hl.1 rfl (Nat.le_of_ble_eq_true rfl) dX4_dip_82 ⟨Nat.zero_le _, Nat.zero_le _⟩ (fun H locs hP hD hS => ?_)
                refine lv_iinc (v := (x4q66 + 1)) (lv' := [(4, .int (x4q66 + 1)), (0, .ref o), (1, .int x1), (2, .int x2), (3, .int x3)]) hx hb dX4_dip_85 hl (k := 4) rfl rfl (by decide) rfl (fun ls hl => ?_)
                refine lv_goto (tgt := 66) hx hb dX4_dip_88 (by decide) ?_
                exact ih66 _ _  _ _ _ hf hP hD hS (lv_sub hl [1, 2, 3, 4, 0] rfl)
          exact L66 k _ _ _ _ _ hf hP hD hS (lv_sub hl [1, 2, 3, 4, 0] rfl)
        · replace hf := ifT hf c8
          refine lv_iconst (v := (-1)) hx hb dX4_dip_43 (by decide) ?_
          obtain ⟨rfl, rfl, rfl, rfl, rfl⟩ := inj5 hf
          exact hret trivial _ _ _ _ dX4_dip_44 (fun ty h => by cases h; rfl) hP hD hS
      · replace hf := ifT hf c6
        refine lv_iconst (v := (-1)) hx hb dX4_dip_28 (by decide) ?_
        obtain ⟨rfl, rfl, rfl, rfl, rfl⟩ := inj5 hf
        exact hret trivial _ _ _ _ dX4_dip_29 (fun ty h => by cases h; rfl) hP hD hS

/-! ===== X4_pour ===== -/
def p_X4_pour (k : Nat) (F : FD) (qA : Nat → AF) (qz : Int32) (qS : Nat → FD) (x1 : Int32) (x2 : Int32) : Option (Int32 × FD × (Nat → AF) × Int32 × (Nat → FD)) :=
  (p_X0_hasRow k F x1).bind fun v1 => if v1 = 0 then (some ((-1), F, qA, qz, qS)) else ((p_X4_isBetween k x2 1 5000).bind fun v3 => if v3 = 0 then (some ((-1), F, qA, qz, qS)) else ((ald (FD.th F) 24 x1).bind fun v5 => (p_X4_isThickness k (v5 + x2)).bind fun v6 => if v6 = 0 then (some ((-3), F, qA, qz, qS)) else (bind3 (p_X2_keep k qA qz qS F) fun A8 z9 S10 => (ald (FD.th F) 24 x1).bind fun v11 => (ast (FD.th F) 24 x1 (v11 + x2)).bind fun f12 => (p_X0_bring k (mkFD f12 (FD.st F) (FD.ac F) (FD.rows F) (FD.ticks F) (FD.drops F) (FD.bursts F) (FD.burstReason F) (FD.burstNumber F) (FD.ticksBeforeBurst F)) x2).bind fun F13 => (ald (FD.th F13) 24 x1).bind fun v14 => some (v14, F13, A8, z9, S10))))

set_option maxHeartbeats 4000000 in
set_option maxRecDepth 100000 in
theorem c_X4_pour {l : Launch} {D : va_G} {ks : K3} (k : Nat) (o : Nat) (a b : AF) (h : AH) (t : AT) (F : FD) (qA : Nat → AF) (qz : Int32) (qS : Nat → FD) (x1 : Int32) (x2 : Int32) (r : Int32) (rF : FD) (rA : Nat → AF) (rz : Int32) (rS : Nat → FD) (hf : p_X4_pour k F qA qz qS x1 x2 = some (r, rF, rA, rz, rS)) : MetI l yX4_pour wsX4_pour { frames := 3, cells := 0, slots := 0, locals := 68 } D ks [.ref o, .int x1, .int x2] (wS o a b h t ++ wF ks a F ++ wH ks h qA qz qS) (wS o a b h t ++ wF ks a rF ++ wH ks h rA rz rS) r True := by
  refine MetI.of (cc := cX4_pour) (maxL := 3) (ret := (some .int)) (by decide +kernel) rfl (Nat.le_of_ble_eq_true rfl) ?_ ⟨_, rfl⟩
  intro p e s m below meth c Q A hx hb hml hts hown hP hX hD hA hret ls hl
  have hK := hX.1
  replace hl : lv_has ls 3 [(0, .ref o), (1, .int x1), (2, .int x2)] := hl
  have hS : va_S A s.heap s.heap [] := va_S.rf
  have hiX0 : ∀ w ∈ wsX00, w ∈ wsX4_pour := by decide +kernel
  have hiX4 : ∀ w ∈ wsX40, w ∈ wsX4_pour := by decide +kernel
  have hk10 := hts (.fieldLink RX4 10 "SoapFilm" "film" "LSoapFilm$Film;") (by decide +kernel)
  have hk68 := hts (.fieldLink RX4 68 "SoapFilm$Film" "thickness" "[I") (by decide +kernel)
  have hk22 := hts (.fieldLink RX4 22 "SoapFilm" "history" "LSoapFilm$History;") (by decide +kernel)
  unfold p_X4_pour at hf
  refine lv_aload_n hx hb dX4_pour_0 rfl (lv_at hl 0 rfl) ?_
  refine va_get (v := .ref a.1) (C := RX4) (T := TX4) (N := 4) hx hb hts hiX4 hown hK hP 0 rfl rfl 0 (by decide) hk10 (fun _ h9 => h9) rfl dX4_pour_1 ?_
  refine lv_iload_n hx hb dX4_pour_4 rfl (lv_at hl 1 rfl) ?_
  obtain ⟨v1, hv1, hf⟩ := bnd hf
  refine xcallRV (As := [.int x1]) (rest := []) (wc := (wF ks a F)) ⟨hx, hb, hml, hown, hts⟩ (c_X0_hasRow k a F x1 v1 hv1) (cwV 1 hts gX4_pour_X0_hasRow rfl rfl rfl (by decide +kernel) ⟨Nat.le_of_ble_eq_true rfl, Nat.le_of_ble_eq_true rfl⟩) hX (hP.sub (ws' := (wF ks a F)) [1, 2, 3, 4] rfl) (ci := 0) (q0 := 0) rfl rfl rfl hl.1 rfl (Nat.le_of_ble_eq_true rfl) dX4_pour_5 ⟨Nat.zero_le _, Nat.zero_le _⟩ (fun zv1 => ?_)
  refine lv_if_eq (tgt := 22) hx hb dX4_pour_8 (by decide) (fun c2 => ?_) (fun c2 => ?_)
  · replace hf := ifT hf c2
    refine lv_iconst (v := (-1)) hx hb dX4_pour_22 (by decide) ?_
    obtain ⟨rfl, rfl, rfl, rfl, rfl⟩ := inj5 hf
    exact hret trivial _ _ _ _ dX4_pour_23 (fun ty h => by cases h; rfl) hP hD hS
  · replace hf := ifF hf c2
    refine lv_iload_n hx hb dX4_pour_11 rfl (lv_at hl 2 rfl) ?_
    refine lv_iconst (v := 1) hx hb dX4_pour_12 (by decide) ?_
    refine lv_sipush (v := 5000) hx hb dX4_pour_13 (by decide) ?_
    obtain ⟨v3, hv3, hf⟩ := bnd hf
    refine xcallRS (As := [.int x2, .int 1, .int 5000]) (rest := []) (wc := []) ⟨hx, hb, hml, hown, hts⟩ (c_X4_isBetween k x2 1 5000 v3 hv3) (va_cwS 3 hts gX4_pour_X4_isBetween rfl rfl rfl (by decide +kernel) ⟨Nat.le_of_ble_eq_true rfl, Nat.le_of_ble_eq_true rfl⟩) hX (va_P0 _ _ _) rfl hl.1 rfl (Nat.le_of_ble_eq_true rfl) dX4_pour_16 ⟨Nat.zero_le _, Nat.zero_le _⟩ (fun zv3 => ?_)
    refine lv_if_ne (tgt := 24) hx hb dX4_pour_19 (by decide) (fun c4 => ?_) (fun c4 => ?_)
    · replace hf := ifF hf c4
      refine lv_aload_n hx hb dX4_pour_24 rfl (lv_at hl 0 rfl) ?_
      refine va_get (v := .ref a.1) (C := RX4) (T := TX4) (N := 4) hx hb hts hiX4 hown hK hP 0 rfl rfl 0 (by decide) hk10 (fun _ h9 => h9) rfl dX4_pour_25 ?_
      refine va_get (v := .ref a.2.1) (C := RX0) (T := TX0) (N := 10) hx hb hts hiX0 hown hK hP 1 rfl rfl 0 (by decide) hk68 (fun _ h9 => h9) rfl dX4_pour_28 ?_
      refine lv_iload_n hx hb dX4_pour_31 rfl (lv_at hl 1 rfl) ?_
      obtain ⟨v5, hv5, hf⟩ := bnd hf
      refine xa_iald hx hb hK hP hv5 2 0 rfl rfl dX4_pour_32 ?_
      refine lv_iload_n hx hb dX4_pour_33 rfl (lv_at hl 2 rfl) ?_
      refine lv_iadd hx hb dX4_pour_34 ?_
      obtain ⟨v6, hv6, hf⟩ := bnd hf
      refine xcallRS (As := [.int (v5 + x2)]) (rest := []) (wc := []) ⟨hx, hb, hml, hown, hts⟩ (c_X4_isThickness k (v5 + x2) v6 hv6) (va_cwS 1 hts gX4_pour_X4_isThickness rfl rfl rfl (by decide +kernel) ⟨Nat.le_of_ble_eq_true rfl, Nat.le_of_ble_eq_true rfl⟩) hX (va_P0 _ _ _) rfl hl.1 rfl (Nat.le_of_ble_eq_true rfl) dX4_pour_35 ⟨Nat.zero_le _, Nat.zero_le _⟩ (fun zv6 => ?_)
      refine lv_if_ne (tgt := 44) hx hb dX4_pour_38 (by decide) (fun c7 => ?_) (fun c7 => ?_)
      · replace hf := ifF hf c7
        refine lv_aload_n hx hb dX4_pour_44 rfl (lv_at hl 0 rfl) ?_
        refine va_get (v := .ref h.1) (C := RX4) (T := TX4) (N := 4) hx hb hts hiX4 hown hK hP 0 rfl rfl 2 (by decide) hk22 (fun _ h9 => h9) rfl dX4_pour_45 ?_
        refine lv_aload_n hx hb dX4_pour_48 rfl (lv_at hl 0 rfl) ?_
        refine va_get (v := .ref a.1) (C := RX4) (T := TX4) (N := 4) hx hb hts hiX4 hown hK hP 0 rfl rfl 0 (by decide) hk10 (fun _ h9 => h9) rfl dX4_pour_49 ?_
        obtain ⟨A8, z9, S10, hA8, hf⟩ := bnd3 hf
        refine xcallV (As := [.ref a.1]) (rest := []) (wc := (wH ks h qA qz qS ++ wF ks a F)) (w1 := (wH ks h A8 z9 S10 ++ wF ks a F)) (wr := ((wS o a b h t))) (wn := (wS o a b h t ++ wF ks a F ++ wH ks h A8 z9 S10)) ⟨hx, hb, hml, hown, hts⟩ (c_X2_keep k h a qA qz qS F A8 z9 S10 hA8) (cwV 1 hts gX4_pour_X2_keep rfl rfl rfl (by decide +kernel) ⟨Nat.le_of_ble_eq_true rfl, Nat.le_of_ble_eq_true rfl⟩) hX hP hD hS hA [5, 6, 7, 8, 9, 10, 11, 12, 13, 14, 15, 16, 17, 18, 19, 20, 21, 22, 23, 24, 25, 26, 1, 2, 3, 4] [0] [0, 23, 24, 25, 26, 1, 2, 3, 4, 5, 6, 7, 8, 9, 10, 11, 12, 13, 14, 15, 16, 17, 18, 19, 20, 21, 22] rfl rfl rfl ⟨by decide, by decide, by decide⟩ (by decide) (ci := 2) (q0 := 0) rfl rfl rfl hl.1 rfl (Nat.le_of_ble_eq_true rfl) dX4_pour_52 ⟨Nat.zero_le _, Nat.zero_le _⟩ (fun H locs hP hD hS => ?_)
        refine lv_aload_n hx hb dX4_pour_55 rfl (lv_at hl 0 rfl) ?_
        refine va_get (v := .ref a.1) (C := RX4) (T := TX4) (N := 4) hx hb hts hiX4 hown hK hP 0 rfl rfl 0 (by decide) hk10 (fun _ h9 => h9) rfl dX4_pour_56 ?_
        refine va_get (v := .ref a.2.1) (C := RX0) (T := TX0) (N := 10) hx hb hts hiX0 hown hK hP 1 rfl rfl 0 (by decide) hk68 (fun _ h9 => h9) rfl dX4_pour_59 ?_
        refine lv_iload_n hx hb dX4_pour_62 rfl (lv_at hl 1 rfl) ?_
        refine lv_dup2_11 hx hb dX4_pour_63 rfl rfl ?_
        obtain ⟨v11, hv11, hf⟩ := bnd hf
        refine xa_iald hx hb hK hP hv11 2 0 rfl rfl dX4_pour_64 ?_
        refine lv_iload_n hx hb dX4_pour_65 rfl (lv_at hl 2 rfl) ?_
        refine lv_iadd hx hb dX4_pour_66 ?_
        obtain ⟨f12, hf12, hf⟩ := bnd hf
        refine xa_iast (wn := (wS o a b h t ++ wF ks a (mkFD f12 (FD.st F) (FD.ac F) (FD.rows F) (FD.ticks F) (FD.drops F) (FD.bursts F) (FD.burstReason F) (FD.burstNumber F) (FD.ticksBeforeBurst F)) ++ wH ks h A8 z9 S10)) hx hb hK hP hD hS hf12 2 0 rfl rfl dX4_pour_67 rfl (fun H locs hP hD hS => ?_)
        refine lv_aload_n hx hb dX4_pour_68 rfl (lv_at hl 0 rfl) ?_
        refine va_get (v := .ref a.1) (C := RX4) (T := TX4) (N := 4) hx hb hts hiX4 hown hK hP 0 rfl rfl 0 (by decide) hk10 (fun _ h9 => h9) rfl dX4_pour_69 ?_
        refine lv_iload_n hx hb dX4_pour_72 rfl (lv_at hl 2 rfl) ?_
        obtain ⟨F13, hF13, hf⟩ := bnd hf
        refine xcallV (As := [.int x2]) (rest := []) (wc := (wF ks a (mkFD f12 (FD.st F) (FD.ac F) (FD.rows F) (FD.ticks F) (FD.drops F) (FD.bursts F) (FD.burstReason F) (FD.burstNumber F) (FD.ticksBeforeBurst F)))) (w1 := (wF ks a F13)) (wr := ((wS o a b h t ++ wH ks h A8 z9 S10))) (wn := (wS o a b h t ++ wF ks a F13 ++ wH ks h A8 z9 S10)) ⟨hx, hb, hml, hown, hts⟩ (c_X0_bring k a (mkFD f12 (FD.st F) (FD.ac F) (FD.rows F) (FD.ticks F) (FD.drops F) (FD.bursts F) (FD.burstReason F) (FD.burstNumber F) (FD.ticksBeforeBurst F)) x2 F13 hF13) (cwV 1 hts gX4_pour_X0_bring rfl rfl rfl (by decide +kernel) ⟨Nat.le_of_ble_eq_true rfl, Nat.le_of_ble_eq_true rfl⟩) hX hP hD hS hA [1, 2, 3, 4] [0, 5, 6, 7, 8, 9, 10, 11, 12, 13, 14, 15, 16, 17, 18, 19, 20, 21, 22, 23, 24, 25, 26] [0, 23, 24, 25, 26, 1, 2, 3, 4, 5, 6, 7, 8, 9, 10, 11, 12, 13, 14, 15, 16, 17, 18, 19, 20, 21, 22] rfl rfl rfl ⟨by decide, by decide, by decide⟩ (by decide) (ci := 0) (q0 := 0) rfl rfl rfl hl.1 rfl (Nat.le_of_ble_eq_true rfl) dX4_pour_73 ⟨Nat.zero_le _, Nat.zero_le _⟩ (fun H locs hP hD hS => ?_)
        refine lv_aload_n hx hb dX4_pour_76 rfl (lv_at hl 0 rfl) ?_
        refine va_get (v := .ref a.1) (C := RX4) (T := TX4) (N := 4) hx hb hts hiX4 hown hK hP 0 rfl rfl 0 (by decide) hk10 (fun _ h9 => h9) rfl dX4_pour_77 ?_
        refine va_get (v := .ref a.2.1) (C := RX0) (T := TX0) (N := 10) hx hb hts hiX0 hown hK hP 1 rfl rfl 0 (by decide) hk68 (fun _ h9 => h9) rfl dX4_pour_80 ?_
        refine lv_iload_n hx hb dX4_pour_83 rfl (lv_at hl 1 rfl) ?_
        obtain ⟨v14, hv14, hf⟩ := bnd hf
        refine xa_iald hx hb hK hP hv14 2 0 rfl rfl dX4_pour_84 ?_
        obtain ⟨rfl, rfl, rfl, rfl, rfl⟩ := inj5 hf
        exact hret trivial _ _ _ _ dX4_pour_85 (fun ty h => by cases h; rfl) hP hD hS
      · replace hf := ifT hf c7
        refine lv_bipush (v := (-3)) hx hb dX4_pour_41 (by decide) ?_
        obtain ⟨rfl, rfl, rfl, rfl, rfl⟩ := inj5 hf
        exact hret trivial _ _ _ _ dX4_pour_43 (fun ty h => by cases h; rfl) hP hD hS
    · replace hf := ifT hf c4
      refine lv_iconst (v := (-1)) hx hb dX4_pour_22 (by decide) ?_
      obtain ⟨rfl, rfl, rfl, rfl, rfl⟩ := inj5 hf
      exact hret trivial _ _ _ _ dX4_pour_23 (fun ty h => by cases h; rfl) hP hD hS

/-! ===== X4_add ===== -/
def p_X4_add (k : Nat) (F : FD) (qA : Nat → AF) (qz : Int32) (qS : Nat → FD) (x1 : Int32) : Option (Int32 × FD × (Nat → AF) × Int32 × (Nat → FD)) :=
  (p_X4_isThickness k x1).bind fun v1 => if v1 = 0 then (some ((-1), F, qA, qz, qS)) else (if (FD.rows F) = 0 then (some ((-2), F, qA, qz, qS)) else (if (FD.rows F) = 24 then (some ((-3), F, qA, qz, qS)) else (bind3 (p_X2_keep k qA qz qS F) fun A5 z6 S7 => (p_X0_appendRow k F x1).bind fun F8 => some ((FD.rows F8), F8, A5, z6, S7))))

set_option maxHeartbeats 4000000 in
set_option maxRecDepth 100000 in
theorem c_X4_add {l : Launch} {D : va_G} {ks : K3} (k : Nat) (o : Nat) (a b : AF) (h : AH) (t : AT) (F : FD) (qA : Nat → AF) (qz : Int32) (qS : Nat → FD) (x1 : Int32) (r : Int32) (rF : FD) (rA : Nat → AF) (rz : Int32) (rS : Nat → FD) (hf : p_X4_add k F qA qz qS x1 = some (r, rF, rA, rz, rS)) : MetI l yX4_add wsX4_add { frames := 3, cells := 0, slots := 0, locals := 68 } D ks [.ref o, .int x1] (wS o a b h t ++ wF ks a F ++ wH ks h qA qz qS) (wS o a b h t ++ wF ks a rF ++ wH ks h rA rz rS) r True := by
  refine MetI.of (cc := cX4_add) (maxL := 2) (ret := (some .int)) (by decide +kernel) rfl (Nat.le_of_ble_eq_true rfl) ?_ ⟨_, rfl⟩
  intro p e s m below meth c Q A hx hb hml hts hown hP hX hD hA hret ls hl
  have hK := hX.1
  replace hl : lv_has ls 2 [(0, .ref o), (1, .int x1)] := hl
  have hS : va_S A s.heap s.heap [] := va_S.rf
  have hiX0 : ∀ w ∈ wsX00, w ∈ wsX4_add := by decide +kernel
  have hiX4 : ∀ w ∈ wsX40, w ∈ wsX4_add := by decide +kernel
  have hk10 := hts (.fieldLink RX4 10 "SoapFilm" "film" "LSoapFilm$Film;") (by decide +kernel)
  have hk74 := hts (.fieldLink RX4 74 "SoapFilm$Film" "rows" "I") (by decide +kernel)
  have hk22 := hts (.fieldLink RX4 22 "SoapFilm" "history" "LSoapFilm$History;") (by decide +kernel)
  unfold p_X4_add at hf
  refine lv_iload_n hx hb dX4_add_0 rfl (lv_at hl 1 rfl) ?_
  obtain ⟨v1, hv1, hf⟩ := bnd hf
  refine xcallRS (As := [.int x1]) (rest := []) (wc := []) ⟨hx, hb, hml, hown, hts⟩ (c_X4_isThickness k x1 v1 hv1) (va_cwS 1 hts gX4_add_X4_isThickness rfl rfl rfl (by decide +kernel) ⟨Nat.le_of_ble_eq_true rfl, Nat.le_of_ble_eq_true rfl⟩) hX (va_P0 _ _ _) rfl hl.1 rfl (Nat.le_of_ble_eq_true rfl) dX4_add_1 ⟨Nat.zero_le _, Nat.zero_le _⟩ (fun zv1 => ?_)
  refine lv_if_ne (tgt := 9) hx hb dX4_add_4 (by decide) (fun c2 => ?_) (fun c2 => ?_)
  · replace hf := ifF hf c2
    refine lv_aload_n hx hb dX4_add_9 rfl (lv_at hl 0 rfl) ?_
    refine va_get (v := .ref a.1) (C := RX4) (T := TX4) (N := 4) hx hb hts hiX4 hown hK hP 0 rfl rfl 0 (by decide) hk10 (fun _ h9 => h9) rfl dX4_add_10 ?_
    refine va_get (v := .int (FD.rows F)) (C := RX0) (T := TX0) (N := 10) hx hb hts hiX0 hown hK hP 1 rfl rfl 3 (by decide) hk74 (fun _ h9 => h9) rfl dX4_add_13 ?_
    refine lv_if_ne (tgt := 22) hx hb dX4_add_16 (by decide) (fun c3 => ?_) (fun c3 => ?_)
    · replace hf := ifF hf c3
      refine lv_aload_n hx hb dX4_add_22 rfl (lv_at hl 0 rfl) ?_
      refine va_get (v := .ref a.1) (C := RX4) (T := TX4) (N := 4) hx hb hts hiX4 hown hK hP 0 rfl rfl 0 (by decide) hk10 (fun _ h9 => h9) rfl dX4_add_23 ?_
      refine va_get (v := .int (FD.rows F)) (C := RX0) (T := TX0) (N := 10) hx hb hts hiX0 hown hK hP 1 rfl rfl 3 (by decide) hk74 (fun _ h9 => h9) rfl dX4_add_26 ?_
      refine lv_bipush (v := 24) hx hb dX4_add_29 (by decide) ?_
      refine lv_icmp_ne (tgt := 37) hx hb dX4_add_31 (by decide) (fun c4 => ?_) (fun c4 => ?_)
      · replace hf := ifF hf c4
        refine lv_aload_n hx hb dX4_add_37 rfl (lv_at hl 0 rfl) ?_
        refine va_get (v := .ref h.1) (C := RX4) (T := TX4) (N := 4) hx hb hts hiX4 hown hK hP 0 rfl rfl 2 (by decide) hk22 (fun _ h9 => h9) rfl dX4_add_38 ?_
        refine lv_aload_n hx hb dX4_add_41 rfl (lv_at hl 0 rfl) ?_
        refine va_get (v := .ref a.1) (C := RX4) (T := TX4) (N := 4) hx hb hts hiX4 hown hK hP 0 rfl rfl 0 (by decide) hk10 (fun _ h9 => h9) rfl dX4_add_42 ?_
        obtain ⟨A5, z6, S7, hA5, hf⟩ := bnd3 hf
        refine xcallV (As := [.ref a.1]) (rest := []) (wc := (wH ks h qA qz qS ++ wF ks a F)) (w1 := (wH ks h A5 z6 S7 ++ wF ks a F)) (wr := ((wS o a b h t))) (wn := (wS o a b h t ++ wF ks a F ++ wH ks h A5 z6 S7)) ⟨hx, hb, hml, hown, hts⟩ (c_X2_keep k h a qA qz qS F A5 z6 S7 hA5) (cwV 1 hts gX4_add_X2_keep rfl rfl rfl (by decide +kernel) ⟨Nat.le_of_ble_eq_true rfl, Nat.le_of_ble_eq_true rfl⟩) hX hP hD hS hA [5, 6, 7, 8, 9, 10, 11, 12, 13, 14, 15, 16, 17, 18, 19, 20, 21, 22, 23, 24, 25, 26, 1, 2, 3, 4] [0] [0, 23, 24, 25, 26, 1, 2, 3, 4, 5, 6, 7, 8, 9, 10, 11, 12, 13, 14, 15, 16, 17, 18, 19, 20, 21, 22] rfl rfl rfl ⟨by decide, by decide, by decide⟩ (by decide) (ci := 2) (q0 := 0) rfl rfl rfl hl.1 rfl (Nat.le_of_ble_eq_true rfl) dX4_add_45 ⟨Nat.zero_le _, Nat.zero_le _⟩ (fun H locs hP hD hS => ?_)
        refine lv_aload_n hx hb dX4_add_48 rfl (lv_at hl 0 rfl) ?_
        refine va_get (v := .ref a.1) (C := RX4) (T := TX4) (N := 4) hx hb hts hiX4 hown hK hP 0 rfl rfl 0 (by decide) hk10 (fun _ h9 => h9) rfl dX4_add_49 ?_
        refine lv_iload_n hx hb dX4_add_52 rfl (lv_at hl 1 rfl) ?_
        obtain ⟨F8, hF8, hf⟩ := bnd hf
        refine xcallV (As := [.int x1]) (rest := []) (wc := (wF ks a F)) (w1 := (wF ks a F8)) (wr := ((wS o a b h t ++ wH ks h A5 z6 S7))) (wn := (wS o a b h t ++ wF ks a F8 ++ wH ks h A5 z6 S7)) ⟨hx, hb, hml, hown, hts⟩ (c_X0_appendRow k a F x1 F8 hF8) (cwV 1 hts gX4_add_X0_appendRow rfl rfl rfl (by decide +kernel) ⟨Nat.le_of_ble_eq_true rfl, Nat.le_of_ble_eq_true rfl⟩) hX hP hD hS hA [1, 2, 3, 4] [0, 5, 6, 7, 8, 9, 10, 11, 12, 13, 14, 15, 16, 17, 18, 19, 20, 21, 22, 23, 24, 25, 26] [0, 23, 24, 25, 26, 1, 2, 3, 4, 5, 6, 7, 8, 9, 10, 11, 12, 13, 14, 15, 16, 17, 18, 19, 20, 21, 22] rfl rfl rfl ⟨by decide, by decide, by decide⟩ (by decide) (ci := 0) (q0 := 0) rfl rfl rfl hl.1 rfl (Nat.le_of_ble_eq_true rfl) dX4_add_53 ⟨Nat.zero_le _, Nat.zero_le _⟩ (fun H locs hP hD hS => ?_)
        refine lv_aload_n hx hb dX4_add_56 rfl (lv_at hl 0 rfl) ?_
        refine va_get (v := .ref a.1) (C := RX4) (T := TX4) (N := 4) hx hb hts hiX4 hown hK hP 0 rfl rfl 0 (by decide) hk10 (fun _ h9 => h9) rfl dX4_add_57 ?_
        refine va_get (v := .int (FD.rows F8)) (C := RX0) (T := TX0) (N := 10) hx hb hts hiX0 hown hK hP 1 rfl rfl 3 (by decide) hk74 (fun _ h9 => h9) rfl dX4_add_60 ?_
        obtain ⟨rfl, rfl, rfl, rfl, rfl⟩ := inj5 hf
        exact hret trivial _ _ _ _ dX4_add_63 (fun ty h => by cases h; rfl) hP hD hS
      · replace hf := ifT hf c4
        refine lv_bipush (v := (-3)) hx hb dX4_add_34 (by decide) ?_
        obtain ⟨rfl, rfl, rfl, rfl, rfl⟩ := inj5 hf
        exact hret trivial _ _ _ _ dX4_add_36 (fun ty h => by cases h; rfl) hP hD hS
    · replace hf := ifT hf c3
      refine lv_bipush (v := (-2)) hx hb dX4_add_19 (by decide) ?_
      obtain ⟨rfl, rfl, rfl, rfl, rfl⟩ := inj5 hf
      exact hret trivial _ _ _ _ dX4_add_21 (fun ty h => by cases h; rfl) hP hD hS
  · replace hf := ifT hf c2
    refine lv_iconst (v := (-1)) hx hb dX4_add_7 (by decide) ?_
    obtain ⟨rfl, rfl, rfl, rfl, rfl⟩ := inj5 hf
    exact hret trivial _ _ _ _ dX4_add_8 (fun ty h => by cases h; rfl) hP hD hS

/-! ===== X4_thin ===== -/
def p_X4_thin (k : Nat) (F : FD) (qA : Nat → AF) (qz : Int32) (qS : Nat → FD) (x1 : Int32) (x2 : Int32) : Option (Int32 × FD × (Nat → AF) × Int32 × (Nat → FD)) :=
  (p_X0_hasRow k F x1).bind fun v1 => if v1 = 0 then (some ((-1), F, qA, qz, qS)) else ((p_X4_isBetween k x2 1 5000).bind fun v3 => if v3 = 0 then (some ((-1), F, qA, qz, qS)) else (bind3 (p_X2_keep k qA qz qS F) fun A5 z6 S7 => bind2 (p_X0_loseFrom k F x1 x2 6) fun v8 F9 => some (v8, F9, A5, z6, S7)))

set_option maxHeartbeats 4000000 in
set_option maxRecDepth 100000 in
theorem c_X4_thin {l : Launch} {D : va_G} {ks : K3} (k : Nat) (o : Nat) (a b : AF) (h : AH) (t : AT) (F : FD) (qA : Nat → AF) (qz : Int32) (qS : Nat → FD) (x1 : Int32) (x2 : Int32) (r : Int32) (rF : FD) (rA : Nat → AF) (rz : Int32) (rS : Nat → FD) (hf : p_X4_thin k F qA qz qS x1 x2 = some (r, rF, rA, rz, rS)) : MetI l yX4_thin wsX4_thin { frames := 3, cells := 0, slots := 0, locals := 68 } D ks [.ref o, .int x1, .int x2] (wS o a b h t ++ wF ks a F ++ wH ks h qA qz qS) (wS o a b h t ++ wF ks a rF ++ wH ks h rA rz rS) r True := by
  refine MetI.of (cc := cX4_thin) (maxL := 3) (ret := (some .int)) (by decide +kernel) rfl (Nat.le_of_ble_eq_true rfl) ?_ ⟨_, rfl⟩
  intro p e s m below meth c Q A hx hb hml hts hown hP hX hD hA hret ls hl
  have hK := hX.1
  replace hl : lv_has ls 3 [(0, .ref o), (1, .int x1), (2, .int x2)] := hl
  have hS : va_S A s.heap s.heap [] := va_S.rf
  have hiX4 : ∀ w ∈ wsX40, w ∈ wsX4_thin := by decide +kernel
  have hk10 := hts (.fieldLink RX4 10 "SoapFilm" "film" "LSoapFilm$Film;") (by decide +kernel)
  have hk22 := hts (.fieldLink RX4 22 "SoapFilm" "history" "LSoapFilm$History;") (by decide +kernel)
  unfold p_X4_thin at hf
  refine lv_aload_n hx hb dX4_thin_0 rfl (lv_at hl 0 rfl) ?_
  refine va_get (v := .ref a.1) (C := RX4) (T := TX4) (N := 4) hx hb hts hiX4 hown hK hP 0 rfl rfl 0 (by decide) hk10 (fun _ h9 => h9) rfl dX4_thin_1 ?_
  refine lv_iload_n hx hb dX4_thin_4 rfl (lv_at hl 1 rfl) ?_
  obtain ⟨v1, hv1, hf⟩ := bnd hf
  refine xcallRV (As := [.int x1]) (rest := []) (wc := (wF ks a F)) ⟨hx, hb, hml, hown, hts⟩ (c_X0_hasRow k a F x1 v1 hv1) (cwV 1 hts gX4_thin_X0_hasRow rfl rfl rfl (by decide +kernel) ⟨Nat.le_of_ble_eq_true rfl, Nat.le_of_ble_eq_true rfl⟩) hX (hP.sub (ws' := (wF ks a F)) [1, 2, 3, 4] rfl) (ci := 0) (q0 := 0) rfl rfl rfl hl.1 rfl (Nat.le_of_ble_eq_true rfl) dX4_thin_5 ⟨Nat.zero_le _, Nat.zero_le _⟩ (fun zv1 => ?_)
  refine lv_if_eq (tgt := 22) hx hb dX4_thin_8 (by decide) (fun c2 => ?_) (fun c2 => ?_)
  · replace hf := ifT hf c2
    refine lv_iconst (v := (-1)) hx hb dX4_thin_22 (by decide) ?_
    obtain ⟨rfl, rfl, rfl, rfl, rfl⟩ := inj5 hf
    exact hret trivial _ _ _ _ dX4_thin_23 (fun ty h => by cases h; rfl) hP hD hS
  · replace hf := ifF hf c2
    refine lv_iload_n hx hb dX4_thin_11 rfl (lv_at hl 2 rfl) ?_
    refine lv_iconst (v := 1) hx hb dX4_thin_12 (by decide) ?_
    refine lv_sipush (v := 5000) hx hb dX4_thin_13 (by decide) ?_
    obtain ⟨v3, hv3, hf⟩ := bnd hf
    refine xcallRS (As := [.int x2, .int 1, .int 5000]) (rest := []) (wc := []) ⟨hx, hb, hml, hown, hts⟩ (c_X4_isBetween k x2 1 5000 v3 hv3) (va_cwS 3 hts gX4_thin_X4_isBetween rfl rfl rfl (by decide +kernel) ⟨Nat.le_of_ble_eq_true rfl, Nat.le_of_ble_eq_true rfl⟩) hX (va_P0 _ _ _) rfl hl.1 rfl (Nat.le_of_ble_eq_true rfl) dX4_thin_16 ⟨Nat.zero_le _, Nat.zero_le _⟩ (fun zv3 => ?_)
    refine lv_if_ne (tgt := 24) hx hb dX4_thin_19 (by decide) (fun c4 => ?_) (fun c4 => ?_)
    · replace hf := ifF hf c4
      refine lv_aload_n hx hb dX4_thin_24 rfl (lv_at hl 0 rfl) ?_
      refine va_get (v := .ref h.1) (C := RX4) (T := TX4) (N := 4) hx hb hts hiX4 hown hK hP 0 rfl rfl 2 (by decide) hk22 (fun _ h9 => h9) rfl dX4_thin_25 ?_
      refine lv_aload_n hx hb dX4_thin_28 rfl (lv_at hl 0 rfl) ?_
      refine va_get (v := .ref a.1) (C := RX4) (T := TX4) (N := 4) hx hb hts hiX4 hown hK hP 0 rfl rfl 0 (by decide) hk10 (fun _ h9 => h9) rfl dX4_thin_29 ?_
      obtain ⟨A5, z6, S7, hA5, hf⟩ := bnd3 hf
      refine xcallV (As := [.ref a.1]) (rest := []) (wc := (wH ks h qA qz qS ++ wF ks a F)) (w1 := (wH ks h A5 z6 S7 ++ wF ks a F)) (wr := ((wS o a b h t))) (wn := (wS o a b h t ++ wF ks a F ++ wH ks h A5 z6 S7)) ⟨hx, hb, hml, hown, hts⟩ (c_X2_keep k h a qA qz qS F A5 z6 S7 hA5) (cwV 1 hts gX4_thin_X2_keep rfl rfl rfl (by decide +kernel) ⟨Nat.le_of_ble_eq_true rfl, Nat.le_of_ble_eq_true rfl⟩) hX hP hD hS hA [5, 6, 7, 8, 9, 10, 11, 12, 13, 14, 15, 16, 17, 18, 19, 20, 21, 22, 23, 24, 25, 26, 1, 2, 3, 4] [0] [0, 23, 24, 25, 26, 1, 2, 3, 4, 5, 6, 7, 8, 9, 10, 11, 12, 13, 14, 15, 16, 17, 18, 19, 20, 21, 22] rfl rfl rfl ⟨by decide, by decide, by decide⟩ (by decide) (ci := 2) (q0 := 0) rfl rfl rfl hl.1 rfl (Nat.le_of_ble_eq_true rfl) dX4_thin_32 ⟨Nat.zero_le _, Nat.zero_le _⟩ (fun H locs hP hD hS => ?_)
      refine lv_aload_n hx hb dX4_thin_35 rfl (lv_at hl 0 rfl) ?_
      refine va_get (v := .ref a.1) (C := RX4) (T := TX4) (N := 4) hx hb hts hiX4 hown hK hP 0 rfl rfl 0 (by decide) hk10 (fun _ h9 => h9) rfl dX4_thin_36 ?_
      refine lv_iload_n hx hb dX4_thin_39 rfl (lv_at hl 1 rfl) ?_
      refine lv_iload_n hx hb dX4_thin_40 rfl (lv_at hl 2 rfl) ?_
      refine lv_bipush (v := 6) hx hb dX4_thin_41 (by decide) ?_
      obtain ⟨v8, F9, hv8, hf⟩ := bnd2 hf
      refine xcallI (As := [.int x1, .int x2, .int 6]) (rest := []) (wc := (wF ks a F)) (w1 := (wF ks a F9)) (wr := ((wS o a b h t ++ wH ks h A5 z6 S7))) (wn := (wS o a b h t ++ wF ks a F9 ++ wH ks h A5 z6 S7)) ⟨hx, hb, hml, hown, hts⟩ (c_X0_loseFrom k a F x1 x2 6 v8 F9 hv8) (cwV 3 hts gX4_thin_X0_loseFrom rfl rfl rfl (by decide +kernel) ⟨Nat.le_of_ble_eq_true rfl, Nat.le_of_ble_eq_true rfl⟩) hX hP hD hS hA [1, 2, 3, 4] [0, 5, 6, 7, 8, 9, 10, 11, 12, 13, 14, 15, 16, 17, 18, 19, 20, 21, 22, 23, 24, 25, 26] [0, 23, 24, 25, 26, 1, 2, 3, 4, 5, 6, 7, 8, 9, 10, 11, 12, 13, 14, 15, 16, 17, 18, 19, 20, 21, 22] rfl rfl rfl ⟨by decide, by decide, by decide⟩ (by decide) (ci := 0) (q0 := 0) rfl rfl rfl hl.1 rfl (Nat.le_of_ble_eq_true rfl) dX4_thin_43 ⟨Nat.zero_le _, Nat.zero_le _⟩ (fun zv8 H locs hP hD hS => ?_)
      obtain ⟨rfl, rfl, rfl, rfl, rfl⟩ := inj5 hf
      exact hret trivial _ _ _ _ dX4_thin_46 (fun ty h => by cases h; rfl) hP hD hS
    · replace hf := ifT hf c4
      refine lv_iconst (v := (-1)) hx hb dX4_thin_22 (by decide) ?_
      obtain ⟨rfl, rfl, rfl, rfl, rfl⟩ := inj5 hf
      exact hret trivial _ _ _ _ dX4_thin_23 (fun ty h => by cases h; rfl) hP hD hS

/-! ===== X4_cut ===== -/
def p_X4_cut (k : Nat) (F : FD) (qA : Nat → AF) (qz : Int32) (qS : Nat → FD) : Option (Int32 × FD × (Nat → AF) × Int32 × (Nat → FD)) :=
  if 2 ≤ (FD.rows F) then (bind3 (p_X2_keep k qA qz qS F) fun A2 z3 S4 => bind2 (p_X0_loseFrom k F ((FD.rows F) - 1) 5000 6) fun v5 F6 => some (v5, (mkFD (FD.th F6) (FD.st F6) (FD.ac F6) ((FD.rows F6) - 1) (FD.ticks F6) (FD.drops F6) (FD.bursts F6) (FD.burstReason F6) (FD.burstNumber F6) (FD.ticksBeforeBurst F6)), A2, z3, S4)) else (some ((-2), F, qA, qz, qS))

set_option maxHeartbeats 4000000 in
set_option maxRecDepth 100000 in
theorem c_X4_cut {l : Launch} {D : va_G} {ks : K3} (k : Nat) (o : Nat) (a b : AF) (h : AH) (t : AT) (F : FD) (qA : Nat → AF) (qz : Int32) (qS : Nat → FD) (r : Int32) (rF : FD) (rA : Nat → AF) (rz : Int32) (rS : Nat → FD) (hf : p_X4_cut k F qA qz qS = some (r, rF, rA, rz, rS)) : MetI l yX4_cut wsX4_cut { frames := 3, cells := 0, slots := 0, locals := 68 } D ks [.ref o] (wS o a b h t ++ wF ks a F ++ wH ks h qA qz qS) (wS o a b h t ++ wF ks a rF ++ wH ks h rA rz rS) r True := by
  refine MetI.of (cc := cX4_cut) (maxL := 2) (ret := (some .int)) (by decide +kernel) rfl (Nat.le_of_ble_eq_true rfl) ?_ ⟨_, rfl⟩
  intro p e s m below meth c Q A hx hb hml hts hown hP hX hD hA hret ls hl
  have hK := hX.1
  replace hl : lv_has ls 2 [(0, .ref o)] := hl
  have hS : va_S A s.heap s.heap [] := va_S.rf
  have hiX0 : ∀ w ∈ wsX00, w ∈ wsX4_cut := by decide +kernel
  have hiX4 : ∀ w ∈ wsX40, w ∈ wsX4_cut := by decide +kernel
  have hk10 := hts (.fieldLink RX4 10 "SoapFilm" "film" "LSoapFilm$Film;") (by decide +kernel)
  have hk74 := hts (.fieldLink RX4 74 "SoapFilm$Film" "rows" "I") (by decide +kernel)
  have hk22 := hts (.fieldLink RX4 22 "SoapFilm" "history" "LSoapFilm$History;") (by decide +kernel)
  unfold p_X4_cut at hf
  refine lv_aload_n hx hb dX4_cut_0 rfl (lv_at hl 0 rfl) ?_
  refine va_get (v := .ref a.1) (C := RX4) (T := TX4) (N := 4) hx hb hts hiX4 hown hK hP 0 rfl rfl 0 (by decide) hk10 (fun _ h9 => h9) rfl dX4_cut_1 ?_
  refine va_get (v := .int (FD.rows F)) (C := RX0) (T := TX0) (N := 10) hx hb hts hiX0 hown hK hP 1 rfl rfl 3 (by decide) hk74 (fun _ h9 => h9) rfl dX4_cut_4 ?_
  refine lv_iconst (v := 2) hx hb dX4_cut_7 (by decide) ?_
  refine lv_icmp_ge (tgt := 14) hx hb dX4_cut_8 (by decide) (fun c1 => ?_) (fun c1 => ?_)
  · replace hf := ifT hf c1
    refine lv_aload_n hx hb dX4_cut_14 rfl (lv_at hl 0 rfl) ?_
    refine va_get (v := .ref h.1) (C := RX4) (T := TX4) (N := 4) hx hb hts hiX4 hown hK hP 0 rfl rfl 2 (by decide) hk22 (fun _ h9 => h9) rfl dX4_cut_15 ?_
    refine lv_aload_n hx hb dX4_cut_18 rfl (lv_at hl 0 rfl) ?_
    refine va_get (v := .ref a.1) (C := RX4) (T := TX4) (N := 4) hx hb hts hiX4 hown hK hP 0 rfl rfl 0 (by decide) hk10 (fun _ h9 => h9) rfl dX4_cut_19 ?_
    obtain ⟨A2, z3, S4, hA2, hf⟩ := bnd3 hf
    refine xcallV (As := [.ref a.1]) (rest := []) (wc := (wH ks h qA qz qS ++ wF ks a F)) (w1 := (wH ks h A2 z3 S4 ++ wF ks a F)) (wr := ((wS o a b h t))) (wn := (wS o a b h t ++ wF ks a F ++ wH ks h A2 z3 S4)) ⟨hx, hb, hml, hown, hts⟩ (c_X2_keep k h a qA qz qS F A2 z3 S4 hA2) (cwV 1 hts gX4_cut_X2_keep rfl rfl rfl (by decide +kernel) ⟨Nat.le_of_ble_eq_true rfl, Nat.le_of_ble_eq_true rfl⟩) hX hP hD hS hA [5, 6, 7, 8, 9, 10, 11, 12, 13, 14, 15, 16, 17, 18, 19, 20, 21, 22, 23, 24, 25, 26, 1, 2, 3, 4] [0] [0, 23, 24, 25, 26, 1, 2, 3, 4, 5, 6, 7, 8, 9, 10, 11, 12, 13, 14, 15, 16, 17, 18, 19, 20, 21, 22] rfl rfl rfl ⟨by decide, by decide, by decide⟩ (by decide) (ci := 2) (q0 := 0) rfl rfl rfl hl.1 rfl (Nat.le_of_ble_eq_true rfl) dX4_cut_22 ⟨Nat.zero_le _, Nat.zero_le _⟩ (fun H locs hP hD hS => ?_)
    refine lv_aload_n hx hb dX4_cut_25 rfl (lv_at hl 0 rfl) ?_
    refine va_get (v := .ref a.1) (C := RX4) (T := TX4) (N := 4) hx hb hts hiX4 hown hK hP 0 rfl rfl 0 (by decide) hk10 (fun _ h9 => h9) rfl dX4_cut_26 ?_
    refine lv_aload_n hx hb dX4_cut_29 rfl (lv_at hl 0 rfl) ?_
    refine va_get (v := .ref a.1) (C := RX4) (T := TX4) (N := 4) hx hb hts hiX4 hown hK hP 0 rfl rfl 0 (by decide) hk10 (fun _ h9 => h9) rfl dX4_cut_30 ?_
    refine va_get (v := .int (FD.rows F)) (C := RX0) (T := TX0) (N := 10) hx hb hts hiX0 hown hK hP 1 rfl rfl 3 (by decide) hk74 (fun _ h9 => h9) rfl dX4_cut_33 ?_
    refine lv_iconst (v := 1) hx hb dX4_cut_36 (by decide) ?_
    refine lv_isub hx hb dX4_cut_37 ?_
    refine lv_sipush (v := 5000) hx hb dX4_cut_38 (by decide) ?_
    refine lv_bipush (v := 6) hx hb dX4_cut_41 (by decide) ?_
    obtain ⟨v5, F6, hv5, hf⟩ := bnd2 hf
    refine xcallI (As := [.int ((FD.rows F) - 1), .int 5000, .int 6]) (rest := []) (wc := (wF ks a F)) (w1 := (wF ks a F6)) (wr := ((wS o a b h t ++ wH ks h A2 z3 S4))) (wn := (wS o a b h t ++ wF ks a F6 ++ wH ks h A2 z3 S4)) ⟨hx, hb, hml, hown, hts⟩ (c_X0_loseFrom k a F ((FD.rows F) - 1) 5000 6 v5 F6 hv5) (cwV 3 hts gX4_cut_X0_loseFrom rfl rfl rfl (by decide +kernel) ⟨Nat.le_of_ble_eq_true rfl, Nat.le_of_ble_eq_true rfl⟩) hX hP hD hS hA [1, 2, 3, 4] [0, 5, 6, 7, 8, 9, 10, 11, 12, 13, 14, 15, 16, 17, 18, 19, 20, 21, 22, 23, 24, 25, 26] [0, 23, 24, 25, 26, 1, 2, 3, 4, 5, 6, 7, 8, 9, 10, 11, 12, 13, 14, 15, 16, 17, 18, 19, 20, 21, 22] rfl rfl rfl ⟨by decide, by decide, by decide⟩ (by decide) (ci := 0) (q0 := 0) rfl rfl rfl hl.1 rfl (Nat.le_of_ble_eq_true rfl) dX4_cut_43 ⟨Nat.zero_le _, Nat.zero_le _⟩ (fun zv5 H locs hP hD hS => ?_)
    refine lv_istore_n (lv' := [(1, .int v5), (0, .ref o)]) hx hb dX4_cut_46 rfl hl (by decide) rfl (fun ls hl => ?_)
    refine lv_aload_n hx hb dX4_cut_47 rfl (lv_at hl 1 rfl) ?_
    refine va_get (v := .ref a.1) (C := RX4) (T := TX4) (N := 4) hx hb hts hiX4 hown hK hP 0 rfl rfl 0 (by decide) hk10 (fun _ h9 => h9) rfl dX4_cut_48 ?_
    refine lv_dup hx hb dX4_cut_51 rfl ?_
    refine va_get (v := .int (FD.rows F6)) (C := RX0) (T := TX0) (N := 10) hx hb hts hiX0 hown hK hP 1 rfl rfl 3 (by decide) hk74 (fun _ h9 => h9) rfl dX4_cut_52 ?_
    refine lv_iconst (v := 1) hx hb dX4_cut_55 (by decide) ?_
    refine lv_isub hx hb dX4_cut_56 ?_
    refine xputI (wn := (wS o a b h t ++ wF ks a (mkFD (FD.th F6) (FD.st F6) (FD.ac F6) ((FD.rows F6) - 1) (FD.ticks F6) (FD.drops F6) (FD.bursts F6) (FD.burstReason F6) (FD.burstNumber F6) (FD.ticksBeforeBurst F6)) ++ wH ks h A2 z3 S4)) (C := RX0) (T := TX0) (N := 10) hx hb hts hiX0 tyX0 tyX0_ok nmX0 hown hK hP hD hS 1 rfl rfl 3 (by decide) hk74 (fun _ h9 => h9) rfl (by decide +kernel) (Nat.le_of_ble_eq_true rfl) dX4_cut_57 rfl (fun H locs hP hD hS => ?_)
    refine lv_iload_n hx hb dX4_cut_60 rfl (lv_at hl 0 rfl) ?_
    obtain ⟨rfl, rfl, rfl, rfl, rfl⟩ := inj5 hf
    exact hret trivial _ _ _ _ dX4_cut_61 (fun ty h => by cases h; rfl) hP hD hS
  · replace hf := ifF hf c1
    refine lv_bipush (v := (-2)) hx hb dX4_cut_11 (by decide) ?_
    obtain ⟨rfl, rfl, rfl, rfl, rfl⟩ := inj5 hf
    exact hret trivial _ _ _ _ dX4_cut_13 (fun ty h => by cases h; rfl) hP hD hS

/-! ===== X4_go ===== -/
def p_X4_go_L45 (k : Nat) (qA : Nat → AF) (qz : Int32) (qS : Nat → FD) (y1 : Int32) : Nat → (FD) → (Int32) → (Int32) → Option (Int32 × FD × (Nat → AF) × Int32 × (Nat → FD))
  | 0, _, _, _ => none
  | n + 1, F, x2, x3 =>
    if y1 ≤ x3 then (some (x2, F, qA, qz, qS)) else (if (FD.rows F) ≤ 0 then ((p_X0_tick k F).bind fun F3 => p_X4_go_L45 k qA qz qS y1 n F3 x2 (x3 + 1)) else ((p_X0_tick k F).bind fun F4 => p_X4_go_L45 k qA qz qS y1 n F4 (x2 + 1) (x3 + 1)))

def p_X4_go (k : Nat) (F : FD) (qA : Nat → AF) (qz : Int32) (qS : Nat → FD) (x1 : Int32) : Option (Int32 × FD × (Nat → AF) × Int32 × (Nat → FD)) :=
  (p_X4_isBetween k x1 1 1000).bind fun v1 => if v1 = 0 then (some ((-1), F, qA, qz, qS)) else (if ((FD.ticks F) + x1) ≤ 100000 then (bind3 (p_X2_keep k qA qz qS F) fun A4 z5 S6 => p_X4_go_L45 k A4 z5 S6 x1 k F 0 0) else (some ((-3), F, qA, qz, qS)))

set_option maxHeartbeats 4000000 in
set_option maxRecDepth 100000 in
theorem c_X4_go {l : Launch} {D : va_G} {ks : K3} (k : Nat) (o : Nat) (a b : AF) (h : AH) (t : AT) (F : FD) (qA : Nat → AF) (qz : Int32) (qS : Nat → FD) (x1 : Int32) (r : Int32) (rF : FD) (rA : Nat → AF) (rz : Int32) (rS : Nat → FD) (hf : p_X4_go k F qA qz qS x1 = some (r, rF, rA, rz, rS)) : MetI l yX4_go wsX4_go { frames := 5, cells := 0, slots := 0, locals := 115 } D ks [.ref o, .int x1] (wS o a b h t ++ wF ks a F ++ wH ks h qA qz qS) (wS o a b h t ++ wF ks a rF ++ wH ks h rA rz rS) r True := by
  refine MetI.of (cc := cX4_go) (maxL := 4) (ret := (some .int)) (by decide +kernel) rfl (Nat.le_of_ble_eq_true rfl) ?_ ⟨_, rfl⟩
  intro p e s m below meth c Q A hx hb hml hts hown hP hX hD hA hret ls hl
  have hK := hX.1
  replace hl : lv_has ls 4 [(0, .ref o), (1, .int x1)] := hl
  have hS : va_S A s.heap s.heap [] := va_S.rf
  have hiX0 : ∀ w ∈ wsX00, w ∈ wsX4_go := by decide +kernel
  have hiX4 : ∀ w ∈ wsX40, w ∈ wsX4_go := by decide +kernel
  have hk10 := hts (.fieldLink RX4 10 "SoapFilm" "film" "LSoapFilm$Film;") (by decide +kernel)
  have hk82 := hts (.fieldLink RX4 82 "SoapFilm$Film" "ticks" "I") (by decide +kernel)
  have hc85 := hts (.constant RX4 85 (100000)) (by decide +kernel)
  have hk22 := hts (.fieldLink RX4 22 "SoapFilm" "history" "LSoapFilm$History;") (by decide +kernel)
  have hk74 := hts (.fieldLink RX4 74 "SoapFilm$Film" "rows" "I") (by decide +kernel)
  unfold p_X4_go at hf
  refine lv_iload_n hx hb dX4_go_0 rfl (lv_at hl 1 rfl) ?_
  refine lv_iconst (v := 1) hx hb dX4_go_1 (by decide) ?_
  refine lv_sipush (v := 1000) hx hb dX4_go_2 (by decide) ?_
  obtain ⟨v1, hv1, hf⟩ := bnd hf
  refine xcallRS (As := [.int x1, .int 1, .int 1000]) (rest := []) (wc := []) ⟨hx, hb, hml, hown, hts⟩ (c_X4_isBetween k x1 1 1000 v1 hv1) (va_cwS 3 hts gX4_go_X4_isBetween rfl rfl rfl (by decide +kernel) ⟨Nat.le_of_ble_eq_true rfl, Nat.le_of_ble_eq_true rfl⟩) hX (va_P0 _ _ _) rfl hl.1 rfl (Nat.le_of_ble_eq_true rfl) dX4_go_5 ⟨Nat.zero_le _, Nat.zero_le _⟩ (fun zv1 => ?_)
  refine lv_if_ne (tgt := 13) hx hb dX4_go_8 (by decide) (fun c2 => ?_) (fun c2 => ?_)
  · replace hf := ifF hf c2
    refine lv_aload_n hx hb dX4_go_13 rfl (lv_at hl 0 rfl) ?_
    refine va_get (v := .ref a.1) (C := RX4) (T := TX4) (N := 4) hx hb hts hiX4 hown hK hP 0 rfl rfl 0 (by decide) hk10 (fun _ h9 => h9) rfl dX4_go_14 ?_
    refine va_get (v := .int (FD.ticks F)) (C := RX0) (T := TX0) (N := 10) hx hb hts hiX0 hown hK hP 1 rfl rfl 4 (by decide) hk82 (fun _ h9 => h9) rfl dX4_go_17 ?_
    refine lv_iload_n hx hb dX4_go_20 rfl (lv_at hl 1 rfl) ?_
    refine lv_iadd hx hb dX4_go_21 ?_
    refine lv_ldc (v := 100000) hx hb hown hc85 dX4_go_22 ?_
    refine lv_icmp_le (tgt := 30) hx hb dX4_go_24 (by decide) (fun c3 => ?_) (fun c3 => ?_)
    · replace hf := ifT hf c3
      refine lv_aload_n hx hb dX4_go_30 rfl (lv_at hl 0 rfl) ?_
      refine va_get (v := .ref h.1) (C := RX4) (T := TX4) (N := 4) hx hb hts hiX4 hown hK hP 0 rfl rfl 2 (by decide) hk22 (fun _ h9 => h9) rfl dX4_go_31 ?_
      refine lv_aload_n hx hb dX4_go_34 rfl (lv_at hl 0 rfl) ?_
      refine va_get (v := .ref a.1) (C := RX4) (T := TX4) (N := 4) hx hb hts hiX4 hown hK hP 0 rfl rfl 0 (by decide) hk10 (fun _ h9 => h9) rfl dX4_go_35 ?_
      obtain ⟨A4, z5, S6, hA4, hf⟩ := bnd3 hf
      refine xcallV (As := [.ref a.1]) (rest := []) (wc := (wH ks h qA qz qS ++ wF ks a F)) (w1 := (wH ks h A4 z5 S6 ++ wF ks a F)) (wr := ((wS o a b h t))) (wn := (wS o a b h t ++ wF ks a F ++ wH ks h A4 z5 S6)) ⟨hx, hb, hml, hown, hts⟩ (c_X2_keep k h a qA qz qS F A4 z5 S6 hA4) (cwV 1 hts gX4_go_X2_keep rfl rfl rfl (by decide +kernel) ⟨Nat.le_of_ble_eq_true rfl, Nat.le_of_ble_eq_true rfl⟩) hX hP hD hS hA [5, 6, 7, 8, 9, 10, 11, 12, 13, 14, 15, 16, 17, 18, 19, 20, 21, 22, 23, 24, 25, 26, 1, 2, 3, 4] [0] [0, 23, 24, 25, 26, 1, 2, 3, 4, 5, 6, 7, 8, 9, 10, 11, 12, 13, 14, 15, 16, 17, 18, 19, 20, 21, 22] rfl rfl rfl ⟨by decide, by decide, by decide⟩ (by decide) (ci := 2) (q0 := 0) rfl rfl rfl hl.1 rfl (Nat.le_of_ble_eq_true rfl) dX4_go_38 ⟨Nat.zero_le _, Nat.zero_le _⟩ (fun H locs hP hD hS => ?_)
      refine lv_iconst (v := 0) hx hb dX4_go_41 (by decide) ?_
      refine lv_istore_n (lv' := [(2, .int 0), (0, .ref o), (1, .int x1)]) hx hb dX4_go_42 rfl hl (by decide) rfl (fun ls hl => ?_)
      refine lv_iconst (v := 0) hx hb dX4_go_43 (by decide) ?_
      refine lv_istore_n (lv' := [(3, .int 0), (2, .int 0), (0, .ref o), (1, .int x1)]) hx hb dX4_go_44 rfl hl (by decide) rfl (fun ls hl => ?_)
      have L45 : ∀ (n : Nat) (Fq45 : FD) (x2q45 : Int32) (x3q45 : Int32) (H : Heap) (locs : List Loc) (ls : Array Slot), p_X4_go_L45 k A4 z5 S6 x1 n Fq45 x2q45 x3q45 = some (r, rF, rA, rz, rS) → va_P D vwCl (wS o a b h t ++ wF ks a Fq45 ++ wH ks h A4 z5 S6) H → va_D A (wS o a b h t ++ wF ks a Fq45 ++ wH ks h A4 z5 S6) → va_S A s.heap H locs → lv_has ls 4 [(0, .ref o), (1, .int x1), (2, .int x2q45), (3, .int x3q45)] → W p l e { frames := 5, cells := 0, slots := 0, locals := 115 } s m ([.ref o, .int x1] : List Value).toArray below meth c H locs 0 0 Q (F0 m 45 ls []) := by
        intro n
        induction n with
        | zero => intro Fq45 x2q45 x3q45 H locs ls hf; cases hf
        | succ n ih45 =>
          intro Fq45 x2q45 x3q45 H locs ls hf hP hD hS hl
          rw [p_X4_go_L45] at hf
          refine lv_iload_n hx hb dX4_go_45 rfl (lv_at hl 3 rfl) ?_
          refine lv_iload_n hx hb dX4_go_46 rfl (lv_at hl 1 rfl) ?_
          refine lv_icmp_ge (tgt := 76) hx hb dX4_go_47 (by decide) (fun c7 => ?_) (fun c7 => ?_)
          · replace hf := ifT hf c7
            refine lv_iload_n hx hb dX4_go_76 rfl (lv_at hl 2 rfl) ?_
            obtain ⟨rfl, rfl, rfl, rfl, rfl⟩ := inj5 hf
            exact hret trivial _ _ _ _ dX4_go_77 (fun ty h => by cases h; rfl) hP hD hS
          · replace hf := ifF hf c7
            refine lv_aload_n hx hb dX4_go_50 rfl (lv_at hl 0 rfl) ?_
            refine va_get (v := .ref a.1) (C := RX4) (T := TX4) (N := 4) hx hb hts hiX4 hown hK hP 0 rfl rfl 0 (by decide) hk10 (fun _ h9 => h9) rfl dX4_go_51 ?_
            refine va_get (v := .int (FD.rows Fq45)) (C := RX0) (T := TX0) (N := 10) hx hb hts hiX0 hown hK hP 1 rfl rfl 3 (by decide) hk74 (fun _ h9 => h9) rfl dX4_go_54 ?_
            refine lv_if_le (tgt := 63) hx hb dX4_go_57 (by decide) (fun c8 => ?_) (fun c8 => ?_)
            · replace hf := ifT hf c8
              refine lv_aload_n hx hb dX4_go_63 rfl (lv_at hl 0 rfl) ?_
              refine va_get (v := .ref a.1) (C := RX4) (T := TX4) (N := 4) hx hb hts hiX4 hown hK hP 0 rfl rfl 0 (by decide) hk10 (fun _ h9 => h9) rfl dX4_go_64 ?_
              obtain ⟨F9, hF9, hf⟩ := bnd hf
              refine xcallV (As := []) (rest := []) (wc := (wF ks a Fq45)) (w1 := (wF ks a F9)) (wr := ((wS o a b h t ++ wH ks h A4 z5 S6))) (wn := (wS o a b h t ++ wF ks a F9 ++ wH ks h A4 z5 S6)) ⟨hx, hb, hml, hown, hts⟩ (c_X0_tick k a Fq45 F9 hF9) (cwV 0 hts gX4_go_X0_tick rfl rfl rfl (by decide +kernel) ⟨Nat.le_of_ble_eq_true rfl, Nat.le_of_ble_eq_true rfl⟩) hX hP hD hS hA [1, 2, 3, 4] [0, 5, 6, 7, 8, 9, 10, 11, 12, 13, 14, 15, 16, 17, 18, 19, 20, 21, 22, 23, 24, 25, 26] [0, 23, 24, 25, 26, 1, 2, 3, 4, 5, 6, 7, 8, 9, 10, 11, 12, 13, 14, 15, 16, 17, 18, 19, 20, 21, 22] rfl rfl rfl ⟨by decide, by decide, by decide⟩ (by decide) (ci := 0) (q0 := 0) rfl rfl rfl hl.1 rfl (Nat.le_of_ble_eq_true rfl) dX4_go_67 ⟨Nat.zero_le _, Nat.zero_le _⟩ (fun H locs hP hD hS => ?_)
              refine lv_iinc (v := (x3q45 + 1)) (lv' := [(3, .int (x3q45 + 1)), (0, .ref o), (1, .int x1), (2, .int x2q45)]) hx hb dX4_go_70 hl (k := 3) rfl rfl (by decide) rfl (fun ls hl => ?_)
              refine lv_goto (tgt := 45) hx hb dX4_go_73 (by decide) ?_
              exact ih45 _ _ _  _ _ _ hf hP hD hS (lv_sub hl [1, 2, 3, 0] rfl)
            · replace hf := ifF hf c8
              refine lv_iinc (v := (x2q45 + 1)) (lv' := [(2, .int (x2q45 + 1)), (0, .ref o), (1, .int x1), (3, .int x3q45)]) hx hb dX4_go_60 hl (k := 2) rfl rfl (by decide) rfl (fun ls hl => ?_)
              refine lv_aload_n hx hb dX4_go_63 rfl (lv_at hl 1 rfl) ?_
              refine va_get (v := .ref a.1) (C := RX4) (T := TX4) (N := 4) hx hb hts hiX4 hown hK hP 0 rfl rfl 0 (by decide) hk10 (fun _ h9 => h9) rfl dX4_go_64 ?_
              obtain ⟨F10, hF10, hf⟩ := bnd hf
              refine xcallV (As := []) (rest := []) (wc := (wF ks a Fq45)) (w1 := (wF ks a F10)) (wr := ((wS o a b h t ++ wH ks h A4 z5 S6))) (wn := (wS o a b h t ++ wF ks a F10 ++ wH ks h A4 z5 S6)) ⟨hx, hb, hml, hown, hts⟩ (c_X0_tick k a Fq45 F10 hF10) (cwV 0 hts gX4_go_X0_tick rfl rfl rfl (by decide +kernel) ⟨Nat.le_of_ble_eq_true rfl, Nat.le_of_ble_eq_true rfl⟩) hX hP hD hS hA [1, 2, 3, 4] [0, 5, 6, 7, 8, 9, 10, 11, 12, 13, 14, 15, 16, 17, 18, 19, 20, 21, 22, 23, 24, 25, 26] [0, 23, 24, 25, 26, 1, 2, 3, 4, 5, 6, 7, 8, 9, 10, 11, 12, 13, 14, 15, 16, 17, 18, 19, 20, 21, 22] rfl rfl rfl ⟨by decide, by decide, by decide⟩ (by decide) (ci := 0) (q0 := 0) rfl rfl rfl hl.1 rfl (Nat.le_of_ble_eq_true rfl) dX4_go_67 ⟨Nat.zero_le _, Nat.zero_le _⟩ (fun H locs hP hD hS => ?_)
              refine lv_iinc (v := (x3q45 + 1)) (lv' := [(3, .int (x3q45 + 1)), (2, .int (x2q45 + 1)), (0, .ref o), (1, .int x1)]) hx hb dX4_go_70 hl (k := 3) rfl rfl (by decide) rfl (fun ls hl => ?_)
              refine lv_goto (tgt := 45) hx hb dX4_go_73 (by decide) ?_
              exact ih45 _ _ _  _ _ _ hf hP hD hS (lv_sub hl [2, 3, 1, 0] rfl)
      exact L45 k _ _ _ _ _ _ hf hP hD hS (lv_sub hl [2, 3, 1, 0] rfl)
    · replace hf := ifF hf c3
      refine lv_bipush (v := (-3)) hx hb dX4_go_27 (by decide) ?_
      obtain ⟨rfl, rfl, rfl, rfl, rfl⟩ := inj5 hf
      exact hret trivial _ _ _ _ dX4_go_29 (fun ty h => by cases h; rfl) hP hD hS
  · replace hf := ifT hf c2
    refine lv_iconst (v := (-1)) hx hb dX4_go_11 (by decide) ?_
    obtain ⟨rfl, rfl, rfl, rfl, rfl⟩ := inj5 hf
    exact hret trivial _ _ _ _ dX4_go_12 (fun ty h => by cases h; rfl) hP hD hS

/-! ===== X4_undo ===== -/
def p_X4_undo (k : Nat) (F : FD) (qA : Nat → AF) (qz : Int32) (qS : Nat → FD) : Option (Int32 × FD × (Nat → AF) × Int32 × (Nat → FD)) :=
  if qz = 0 then (some ((-2), F, qA, qz, qS)) else (bind4 (p_X2_restore k qA qz qS F) fun A2 z3 S4 F5 => some (z3, F5, A2, z3, S4))

set_option maxHeartbeats 4000000 in
set_option maxRecDepth 100000 in
theorem c_X4_undo {l : Launch} {D : va_G} {ks : K3} (k : Nat) (o : Nat) (a b : AF) (h : AH) (t : AT) (F : FD) (qA : Nat → AF) (qz : Int32) (qS : Nat → FD) (r : Int32) (rF : FD) (rA : Nat → AF) (rz : Int32) (rS : Nat → FD) (hf : p_X4_undo k F qA qz qS = some (r, rF, rA, rz, rS)) : MetI l yX4_undo wsX4_undo { frames := 3, cells := 0, slots := 0, locals := 68 } D ks [.ref o] (wS o a b h t ++ wF ks a F ++ wH ks h qA qz qS) (wS o a b h t ++ wF ks a rF ++ wH ks h rA rz rS) r True := by
  refine MetI.of (cc := cX4_undo) (maxL := 1) (ret := (some .int)) (by decide +kernel) rfl (Nat.le_of_ble_eq_true rfl) ?_ ⟨_, rfl⟩
  intro p e s m below meth c Q A hx hb hml hts hown hP hX hD hA hret ls hl
  have hK := hX.1
  replace hl : lv_has ls 1 [(0, .ref o)] := hl
  have hS : va_S A s.heap s.heap [] := va_S.rf
  have hiX2 : ∀ w ∈ wsX20, w ∈ wsX4_undo := by decide +kernel
  have hiX4 : ∀ w ∈ wsX40, w ∈ wsX4_undo := by decide +kernel
  have hk22 := hts (.fieldLink RX4 22 "SoapFilm" "history" "LSoapFilm$History;") (by decide +kernel)
  have hk89 := hts (.fieldLink RX4 89 "SoapFilm$History" "size" "I") (by decide +kernel)
  have hk10 := hts (.fieldLink RX4 10 "SoapFilm" "film" "LSoapFilm$Film;") (by decide +kernel)
  unfold p_X4_undo at hf
  refine lv_aload_n hx hb dX4_undo_0 rfl (lv_at hl 0 rfl) ?_
  refine va_get (v := .ref h.1) (C := RX4) (T := TX4) (N := 4) hx hb hts hiX4 hown hK hP 0 rfl rfl 2 (by decide) hk22 (fun _ h9 => h9) rfl dX4_undo_1 ?_
  refine va_get (v := .int qz) (C := RX2) (T := TX2) (N := 2) hx hb hts hiX2 hown hK hP 5 rfl rfl 1 (by decide) hk89 (fun _ h9 => h9) rfl dX4_undo_4 ?_
  refine lv_if_ne (tgt := 13) hx hb dX4_undo_7 (by decide) (fun c1 => ?_) (fun c1 => ?_)
  · replace hf := ifF hf c1
    refine lv_aload_n hx hb dX4_undo_13 rfl (lv_at hl 0 rfl) ?_
    refine va_get (v := .ref h.1) (C := RX4) (T := TX4) (N := 4) hx hb hts hiX4 hown hK hP 0 rfl rfl 2 (by decide) hk22 (fun _ h9 => h9) rfl dX4_undo_14 ?_
    refine lv_aload_n hx hb dX4_undo_17 rfl (lv_at hl 0 rfl) ?_
    refine va_get (v := .ref a.1) (C := RX4) (T := TX4) (N := 4) hx hb hts hiX4 hown hK hP 0 rfl rfl 0 (by decide) hk10 (fun _ h9 => h9) rfl dX4_undo_18 ?_
    obtain ⟨A2, z3, S4, F5, hA2, hf⟩ := bnd4 hf
    refine xcallV (As := [.ref a.1]) (rest := []) (wc := (wH ks h qA qz qS ++ wF ks a F)) (w1 := (wH ks h A2 z3 S4 ++ wF ks a F5)) (wr := ((wS o a b h t))) (wn := (wS o a b h t ++ wF ks a F5 ++ wH ks h A2 z3 S4)) ⟨hx, hb, hml, hown, hts⟩ (c_X2_restore k h a qA qz qS F A2 z3 S4 F5 hA2) (cwV 1 hts gX4_undo_X2_restore rfl rfl rfl (by decide +kernel) ⟨Nat.le_of_ble_eq_true rfl, Nat.le_of_ble_eq_true rfl⟩) hX hP hD hS hA [5, 6, 7, 8, 9, 10, 11, 12, 13, 14, 15, 16, 17, 18, 19, 20, 21, 22, 23, 24, 25, 26, 1, 2, 3, 4] [0] [0, 23, 24, 25, 26, 1, 2, 3, 4, 5, 6, 7, 8, 9, 10, 11, 12, 13, 14, 15, 16, 17, 18, 19, 20, 21, 22] rfl rfl rfl ⟨by decide, by decide, by decide⟩ (by decide) (ci := 2) (q0 := 0) rfl rfl rfl hl.1 rfl (Nat.le_of_ble_eq_true rfl) dX4_undo_21 ⟨Nat.zero_le _, Nat.zero_le _⟩ (fun H locs hP hD hS => ?_)
    refine lv_aload_n hx hb dX4_undo_24 rfl (lv_at hl 0 rfl) ?_
    refine va_get (v := .ref h.1) (C := RX4) (T := TX4) (N := 4) hx hb hts hiX4 hown hK hP 0 rfl rfl 2 (by decide) hk22 (fun _ h9 => h9) rfl dX4_undo_25 ?_
    refine va_get (v := .int z3) (C := RX2) (T := TX2) (N := 2) hx hb hts hiX2 hown hK hP 5 rfl rfl 1 (by decide) hk89 (fun _ h9 => h9) rfl dX4_undo_28 ?_
    obtain ⟨rfl, rfl, rfl, rfl, rfl⟩ := inj5 hf
    exact hret trivial _ _ _ _ dX4_undo_31 (fun ty h => by cases h; rfl) hP hD hS
  · replace hf := ifT hf c1
    refine lv_bipush (v := (-2)) hx hb dX4_undo_10 (by decide) ?_
    obtain ⟨rfl, rfl, rfl, rfl, rfl⟩ := inj5 hf
    exact hret trivial _ _ _ _ dX4_undo_12 (fun ty h => by cases h; rfl) hP hD hS
