/-! THE LAW: its twenty kinds of step. -/
section LAWO
variable {p : Program} {l : Launch} {e : Env} {s : State} {m : MethodId} {below : List Frame} {meth : Method} {c : Code} {H : Heap} {locs : List Loc} {Q : State → Prop} {ls : Array Slot} {D : va_G} {ks : K3} {b0 L k : Nat} {xs : Nat → Int32} {I : Int32} {o : Nat} {a b : AF} {h : AH} {t : AT} {u : AM} {F G : FD} {qA : Nat → AF} {qz : Int32} {qS : Nat → FD} {T : TD} {M : MD}
set_option maxHeartbeats 4000000 in
set_option maxRecDepth 100000 in
theorem op_set (hk : 6000 ≤ k) (hx : p.tables.exec = Jvm.exec) (hb : c.code = cL_law) (hml : c.maxLocals = 4) (hts : ∀ w ∈ wsL_law, w.before #[Value.ref b0] s = true) (hown : s.vm.findClass RL = some m.cls) (hX : xK D ks s) (hE : xEset (lA s) s s.heap) (hX0 : va_X b0 L xs s s.heap) (hbl : b0 < s.heap.size) (i1 : vp_in (I + 1) L) (i2 : vp_in (I + 2) L) (i3 : vp_in (I + 3) L) (hR : RS F qz qS T M) (hP : va_P D vwCl (wL ks o a b h t u F G qA qz qS T M) H) (hD : va_D (lA s) (wL ks o a b h t u F G qA qz qS T M)) (hS : va_S (lA s) s.heap H locs) (hl : lv_has ls 4 [(3, .int I), (2, .ref u.1), (1, .ref o), (0, .ref b0)])
    (kk : ∀ (F1 G1 : FD) (A1 : Nat → AF) (z1 : Int32) (S1 : Nat → FD) (T1 : TD) (M1 : MD) (H1 : Heap) (locs1 : List Loc), RS F1 z1 S1 T1 M1 → va_P D vwCl (wL ks o a b h t u F1 G1 A1 z1 S1 T1 M1) H1 → va_D (lA s) (wL ks o a b h t u F1 G1 A1 z1 S1 T1 M1) → va_S (lA s) s.heap H1 locs1 → W p l e room_1 s m #[Value.ref b0] below meth c H1 locs1 39 895 Q (F0 m 648 ls [])) : W p l e room_1 s m #[Value.ref b0] below meth c H locs 39 895 Q (F0 m 128 ls []) := by
  have hA : ∀ q : Nat, s.heap.size ≤ q → lA s q := fun _ h => h
  have hbA : ¬ lA s b0 := Nat.not_le.mpr hbl
  obtain ⟨r, F1, A1, z1, S1, M1, e1, e2, hR1⟩ := setR (k := k) (qA := qA) (by omega) hR (xs (I + 1).toNatClampNeg) (xs (I + 2).toNatClampNeg)
  refine lv_aload_n hx hb dL_law_128 rfl (lv_at hl 2 rfl) ?_
  refine lv_aload_n hx hb dL_law_129 rfl (lv_at hl 3 rfl) ?_
  refine lv_iload_n hx hb dL_law_130 rfl (lv_at hl 0 rfl) ?_
  refine lv_iconst (v := 1) hx hb dL_law_131 (by decide) ?_
  refine lv_iadd hx hb dL_law_132 ?_
  refine va_sld hx hb hX0 hbl hbA hS i1 dL_law_133 ?_
  refine lv_aload_n hx hb dL_law_134 rfl (lv_at hl 3 rfl) ?_
  refine lv_iload_n hx hb dL_law_135 rfl (lv_at hl 0 rfl) ?_
  refine lv_iconst (v := 2) hx hb dL_law_136 (by decide) ?_
  refine lv_iadd hx hb dL_law_137 ?_
  refine va_sld hx hb hX0 hbl hbA hS i2 dL_law_138 ?_
  refine xcallIE (As := [.int (xs (I + 1).toNatClampNeg), .int (xs (I + 2).toNatClampNeg)]) (rest := []) (wc := (wS o a b h t ++ wF ks a F ++ wH ks h qA qz qS)) (w1 := (wS o a b h t ++ wF ks a F1 ++ wH ks h A1 z1 S1)) (wr := (wF ks b G ++ wT ks t T ++ wM ks u M)) (wn := wL ks o a b h t u F1 G A1 z1 S1 T M) ⟨hx, hb, hml, hown, hts⟩ (c_X4_set k o a b h t F qA qz qS (xs (I + 1).toNatClampNeg) (xs (I + 2).toNatClampNeg) r F1 A1 z1 S1 e1) (cwV 2 hts gL_law_X4_set rfl rfl rfl (by decide +kernel) ⟨Nat.le_of_ble_eq_true rfl, Nat.le_of_ble_eq_true rfl⟩) hX hP hD hS hA [0, 1, 2, 3, 4, 9, 10, 11, 12, 13, 14, 15, 16, 17, 18, 19, 20, 21, 22, 23, 24, 25, 26, 27, 28, 29, 30] [5, 6, 7, 8, 31, 32, 33, 34, 35, 36, 37, 38] [12, 13, 14, 15, 16, 0, 1, 2, 3, 17, 18, 19, 20, 21, 22, 23, 24, 25, 26, 27, 28, 29, 30, 31, 32, 33, 34, 35, 36, 37, 38, 4, 5, 6, 7, 8, 9, 10, 11] rfl rfl rfl ⟨by decide, by decide, by decide⟩ (by decide) hE ok_xEset (ci := 3) (q0 := 0) rfl rfl rfl hl.1 rfl (Nat.le_of_ble_eq_true rfl) dL_law_139 ⟨Nat.le_of_ble_eq_true rfl, Nat.le_of_ble_eq_true rfl⟩ (fun _ H locs hP hD hS => ?_)
  refine lv_aload_n hx hb dL_law_142 rfl (lv_at hl 1 rfl) ?_
  refine lv_aload_n hx hb dL_law_143 rfl (lv_at hl 3 rfl) ?_
  refine lv_iload_n hx hb dL_law_144 rfl (lv_at hl 0 rfl) ?_
  refine lv_iconst (v := 1) hx hb dL_law_145 (by decide) ?_
  refine lv_iadd hx hb dL_law_146 ?_
  refine va_sld hx hb hX0 hbl hbA hS i1 dL_law_147 ?_
  refine lv_aload_n hx hb dL_law_148 rfl (lv_at hl 3 rfl) ?_
  refine lv_iload_n hx hb dL_law_149 rfl (lv_at hl 0 rfl) ?_
  refine lv_iconst (v := 2) hx hb dL_law_150 (by decide) ?_
  refine lv_iadd hx hb dL_law_151 ?_
  refine va_sld hx hb hX0 hbl hbA hS i2 dL_law_152 ?_
  refine xcallI (As := [.int (xs (I + 1).toNatClampNeg), .int (xs (I + 2).toNatClampNeg)]) (rest := [.int r]) (wc := (wM ks u M)) (w1 := (wM ks u M1)) (wr := (wS o a b h t ++ wF ks a F1 ++ wF ks b G ++ wH ks h A1 z1 S1 ++ wT ks t T)) (wn := wL ks o a b h t u F1 G A1 z1 S1 T M1) ⟨hx, hb, hml, hown, hts⟩ (c_X5_set k u M (xs (I + 1).toNatClampNeg) (xs (I + 2).toNatClampNeg) r M1 e2) (cwV 2 hts gL_law_X5_set rfl rfl rfl (by decide +kernel) ⟨Nat.le_of_ble_eq_true rfl, Nat.le_of_ble_eq_true rfl⟩) hX hP hD hS hA [34, 35, 36, 37, 38] [0, 1, 2, 3, 4, 5, 6, 7, 8, 9, 10, 11, 12, 13, 14, 15, 16, 17, 18, 19, 20, 21, 22, 23, 24, 25, 26, 27, 28, 29, 30, 31, 32, 33] [0, 1, 2, 3, 4, 5, 6, 7, 8, 9, 10, 11, 12, 13, 14, 15, 16, 17, 18, 19, 20, 21, 22, 23, 24, 25, 26, 27, 28, 29, 30, 31, 32, 33, 34, 35, 36, 37, 38] rfl rfl rfl ⟨by decide, by decide, by decide⟩ (by decide) (ci := 4) (q0 := 0) rfl rfl rfl hl.1 rfl (Nat.le_of_ble_eq_true rfl) dL_law_153 ⟨Nat.le_of_ble_eq_true rfl, Nat.le_of_ble_eq_true rfl⟩ (fun _ H locs hP hD hS => ?_)
  exact lv_icmp_eq (tgt := 648) hx hb dL_law_156 (by decide) (fun _ => kk _ _ _ _ _ _ _ _ _ hR1 hP hD hS) (fun w => absurd rfl w)
set_option maxHeartbeats 4000000 in
set_option maxRecDepth 100000 in
theorem op_dip (hk : 6000 ≤ k) (hx : p.tables.exec = Jvm.exec) (hb : c.code = cL_law) (hml : c.maxLocals = 4) (hts : ∀ w ∈ wsL_law, w.before #[Value.ref b0] s = true) (hown : s.vm.findClass RL = some m.cls) (hX : xK D ks s) (hE : xEset (lA s) s s.heap) (hX0 : va_X b0 L xs s s.heap) (hbl : b0 < s.heap.size) (i1 : vp_in (I + 1) L) (i2 : vp_in (I + 2) L) (i3 : vp_in (I + 3) L) (hR : RS F qz qS T M) (hP : va_P D vwCl (wL ks o a b h t u F G qA qz qS T M) H) (hD : va_D (lA s) (wL ks o a b h t u F G qA qz qS T M)) (hS : va_S (lA s) s.heap H locs) (hl : lv_has ls 4 [(3, .int I), (2, .ref u.1), (1, .ref o), (0, .ref b0)])
    (kk : ∀ (F1 G1 : FD) (A1 : Nat → AF) (z1 : Int32) (S1 : Nat → FD) (T1 : TD) (M1 : MD) (H1 : Heap) (locs1 : List Loc), RS F1 z1 S1 T1 M1 → va_P D vwCl (wL ks o a b h t u F1 G1 A1 z1 S1 T1 M1) H1 → va_D (lA s) (wL ks o a b h t u F1 G1 A1 z1 S1 T1 M1) → va_S (lA s) s.heap H1 locs1 → W p l e room_1 s m #[Value.ref b0] below meth c H1 locs1 39 895 Q (F0 m 648 ls [])) : W p l e room_1 s m #[Value.ref b0] below meth c H locs 39 895 Q (F0 m 161 ls []) := by
  have hA : ∀ q : Nat, s.heap.size ≤ q → lA s q := fun _ h => h
  have hbA : ¬ lA s b0 := Nat.not_le.mpr hbl
  obtain ⟨r, F1, A1, z1, S1, M1, e1, e2, hR1⟩ := dipR (k := k) (qA := qA) (by omega) hR (xs (I + 1).toNatClampNeg) (xs (I + 2).toNatClampNeg) (xs (I + 3).toNatClampNeg)
  refine lv_aload_n hx hb dL_law_161 rfl (lv_at hl 2 rfl) ?_
  refine lv_aload_n hx hb dL_law_162 rfl (lv_at hl 3 rfl) ?_
  refine lv_iload_n hx hb dL_law_163 rfl (lv_at hl 0 rfl) ?_
  refine lv_iconst (v := 1) hx hb dL_law_164 (by decide) ?_
  refine lv_iadd hx hb dL_law_165 ?_
  refine va_sld hx hb hX0 hbl hbA hS i1 dL_law_166 ?_
  refine lv_aload_n hx hb dL_law_167 rfl (lv_at hl 3 rfl) ?_
  refine lv_iload_n hx hb dL_law_168 rfl (lv_at hl 0 rfl) ?_
  refine lv_iconst (v := 2) hx hb dL_law_169 (by decide) ?_
  refine lv_iadd hx hb dL_law_170 ?_
  refine va_sld hx hb hX0 hbl hbA hS i2 dL_law_171 ?_
  refine lv_aload_n hx hb dL_law_172 rfl (lv_at hl 3 rfl) ?_
  refine lv_iload_n hx hb dL_law_173 rfl (lv_at hl 0 rfl) ?_
  refine lv_iconst (v := 3) hx hb dL_law_174 (by decide) ?_
  refine lv_iadd hx hb dL_law_175 ?_
  refine va_sld hx hb hX0 hbl hbA hS i3 dL_law_176 ?_
  refine xcallI (As := [.int (xs (I + 1).toNatClampNeg), .int (xs (I + 2).toNatClampNeg), .int (xs (I + 3).toNatClampNeg)]) (rest := []) (wc := (wS o a b h t ++ wF ks a F ++ wH ks h qA qz qS)) (w1 := (wS o a b h t ++ wF ks a F1 ++ wH ks h A1 z1 S1)) (wr := (wF ks b G ++ wT ks t T ++ wM ks u M)) (wn := wL ks o a b h t u F1 G A1 z1 S1 T M) ⟨hx, hb, hml, hown, hts⟩ (c_X4_dip k o a b h t F qA qz qS (xs (I + 1).toNatClampNeg) (xs (I + 2).toNatClampNeg) (xs (I + 3).toNatClampNeg) r F1 A1 z1 S1 e1) (cwV 3 hts gL_law_X4_dip rfl rfl rfl (by decide +kernel) ⟨Nat.le_of_ble_eq_true rfl, Nat.le_of_ble_eq_true rfl⟩) hX hP hD hS hA [0, 1, 2, 3, 4, 9, 10, 11, 12, 13, 14, 15, 16, 17, 18, 19, 20, 21, 22, 23, 24, 25, 26, 27, 28, 29, 30] [5, 6, 7, 8, 31, 32, 33, 34, 35, 36, 37, 38] [12, 13, 14, 15, 16, 0, 1, 2, 3, 17, 18, 19, 20, 21, 22, 23, 24, 25, 26, 27, 28, 29, 30, 31, 32, 33, 34, 35, 36, 37, 38, 4, 5, 6, 7, 8, 9, 10, 11] rfl rfl rfl ⟨by decide, by decide, by decide⟩ (by decide) (ci := 3) (q0 := 0) rfl rfl rfl hl.1 rfl (Nat.le_of_ble_eq_true rfl) dL_law_177 ⟨Nat.le_of_ble_eq_true rfl, Nat.le_of_ble_eq_true rfl⟩ (fun _ H locs hP hD hS => ?_)
  refine lv_aload_n hx hb dL_law_180 rfl (lv_at hl 1 rfl) ?_
  refine lv_aload_n hx hb dL_law_181 rfl (lv_at hl 3 rfl) ?_
  refine lv_iload_n hx hb dL_law_182 rfl (lv_at hl 0 rfl) ?_
  refine lv_iconst (v := 1) hx hb dL_law_183 (by decide) ?_
  refine lv_iadd hx hb dL_law_184 ?_
  refine va_sld hx hb hX0 hbl hbA hS i1 dL_law_185 ?_
  refine lv_aload_n hx hb dL_law_186 rfl (lv_at hl 3 rfl) ?_
  refine lv_iload_n hx hb dL_law_187 rfl (lv_at hl 0 rfl) ?_
  refine lv_iconst (v := 2) hx hb dL_law_188 (by decide) ?_
  refine lv_iadd hx hb dL_law_189 ?_
  refine va_sld hx hb hX0 hbl hbA hS i2 dL_law_190 ?_
  refine lv_aload_n hx hb dL_law_191 rfl (lv_at hl 3 rfl) ?_
  refine lv_iload_n hx hb dL_law_192 rfl (lv_at hl 0 rfl) ?_
  refine lv_iconst (v := 3) hx hb dL_law_193 (by decide) ?_
  refine lv_iadd hx hb dL_law_194 ?_
  refine va_sld hx hb hX0 hbl hbA hS i3 dL_law_195 ?_
  refine xcallI (As := [.int (xs (I + 1).toNatClampNeg), .int (xs (I + 2).toNatClampNeg), .int (xs (I + 3).toNatClampNeg)]) (rest := [.int r]) (wc := (wM ks u M)) (w1 := (wM ks u M1)) (wr := (wS o a b h t ++ wF ks a F1 ++ wF ks b G ++ wH ks h A1 z1 S1 ++ wT ks t T)) (wn := wL ks o a b h t u F1 G A1 z1 S1 T M1) ⟨hx, hb, hml, hown, hts⟩ (c_X5_dip k u M (xs (I + 1).toNatClampNeg) (xs (I + 2).toNatClampNeg) (xs (I + 3).toNatClampNeg) r M1 e2) (cwV 3 hts gL_law_X5_dip rfl rfl rfl (by decide +kernel) ⟨Nat.le_of_ble_eq_true rfl, Nat.le_of_ble_eq_true rfl⟩) hX hP hD hS hA [34, 35, 36, 37, 38] [0, 1, 2, 3, 4, 5, 6, 7, 8, 9, 10, 11, 12, 13, 14, 15, 16, 17, 18, 19, 20, 21, 22, 23, 24, 25, 26, 27, 28, 29, 30, 31, 32, 33] [0, 1, 2, 3, 4, 5, 6, 7, 8, 9, 10, 11, 12, 13, 14, 15, 16, 17, 18, 19, 20, 21, 22, 23, 24, 25, 26, 27, 28, 29, 30, 31, 32, 33, 34, 35, 36, 37, 38] rfl rfl rfl ⟨by decide, by decide, by decide⟩ (by decide) (ci := 4) (q0 := 0) rfl rfl rfl hl.1 rfl (Nat.le_of_ble_eq_true rfl) dL_law_196 ⟨Nat.le_of_ble_eq_true rfl, Nat.le_of_ble_eq_true rfl⟩ (fun _ H locs hP hD hS => ?_)
  exact lv_icmp_eq (tgt := 648) hx hb dL_law_199 (by decide) (fun _ => kk _ _ _ _ _ _ _ _ _ hR1 hP hD hS) (fun w => absurd rfl w)
set_option maxHeartbeats 4000000 in
set_option maxRecDepth 100000 in
theorem op_pour (hk : 6000 ≤ k) (hx : p.tables.exec = Jvm.exec) (hb : c.code = cL_law) (hml : c.maxLocals = 4) (hts : ∀ w ∈ wsL_law, w.before #[Value.ref b0] s = true) (hown : s.vm.findClass RL = some m.cls) (hX : xK D ks s) (hE : xEset (lA s) s s.heap) (hX0 : va_X b0 L xs s s.heap) (hbl : b0 < s.heap.size) (i1 : vp_in (I + 1) L) (i2 : vp_in (I + 2) L) (i3 : vp_in (I + 3) L) (hR : RS F qz qS T M) (hP : va_P D vwCl (wL ks o a b h t u F G qA qz qS T M) H) (hD : va_D (lA s) (wL ks o a b h t u F G qA qz qS T M)) (hS : va_S (lA s) s.heap H locs) (hl : lv_has ls 4 [(3, .int I), (2, .ref u.1), (1, .ref o), (0, .ref b0)])
    (kk : ∀ (F1 G1 : FD) (A1 : Nat → AF) (z1 : Int32) (S1 : Nat → FD) (T1 : TD) (M1 : MD) (H1 : Heap) (locs1 : List Loc), RS F1 z1 S1 T1 M1 → va_P D vwCl (wL ks o a b h t u F1 G1 A1 z1 S1 T1 M1) H1 → va_D (lA s) (wL ks o a b h t u F1 G1 A1 z1 S1 T1 M1) → va_S (lA s) s.heap H1 locs1 → W p l e room_1 s m #[Value.ref b0] below meth c H1 locs1 39 895 Q (F0 m 648 ls [])) : W p l e room_1 s m #[Value.ref b0] below meth c H locs 39 895 Q (F0 m 204 ls []) := by
  have hA : ∀ q : Nat, s.heap.size ≤ q → lA s q := fun _ h => h
  have hbA : ¬ lA s b0 := Nat.not_le.mpr hbl
  obtain ⟨r, F1, A1, z1, S1, M1, e1, e2, hR1⟩ := pourR (k := k) (qA := qA) (by omega) hR (xs (I + 1).toNatClampNeg) (xs (I + 2).toNatClampNeg)
  refine lv_aload_n hx hb dL_law_204 rfl (lv_at hl 2 rfl) ?_
  refine lv_aload_n hx hb dL_law_205 rfl (lv_at hl 3 rfl) ?_
  refine lv_iload_n hx hb dL_law_206 rfl (lv_at hl 0 rfl) ?_
  refine lv_iconst (v := 1) hx hb dL_law_207 (by decide) ?_
  refine lv_iadd hx hb dL_law_208 ?_
  refine va_sld hx hb hX0 hbl hbA hS i1 dL_law_209 ?_
  refine lv_aload_n hx hb dL_law_210 rfl (lv_at hl 3 rfl) ?_
  refine lv_iload_n hx hb dL_law_211 rfl (lv_at hl 0 rfl) ?_
  refine lv_iconst (v := 2) hx hb dL_law_212 (by decide) ?_
  refine lv_iadd hx hb dL_law_213 ?_
  refine va_sld hx hb hX0 hbl hbA hS i2 dL_law_214 ?_
  refine xcallI (As := [.int (xs (I + 1).toNatClampNeg), .int (xs (I + 2).toNatClampNeg)]) (rest := []) (wc := (wS o a b h t ++ wF ks a F ++ wH ks h qA qz qS)) (w1 := (wS o a b h t ++ wF ks a F1 ++ wH ks h A1 z1 S1)) (wr := (wF ks b G ++ wT ks t T ++ wM ks u M)) (wn := wL ks o a b h t u F1 G A1 z1 S1 T M) ⟨hx, hb, hml, hown, hts⟩ (c_X4_pour k o a b h t F qA qz qS (xs (I + 1).toNatClampNeg) (xs (I + 2).toNatClampNeg) r F1 A1 z1 S1 e1) (cwV 2 hts gL_law_X4_pour rfl rfl rfl (by decide +kernel) ⟨Nat.le_of_ble_eq_true rfl, Nat.le_of_ble_eq_true rfl⟩) hX hP hD hS hA [0, 1, 2, 3, 4, 9, 10, 11, 12, 13, 14, 15, 16, 17, 18, 19, 20, 21, 22, 23, 24, 25, 26, 27, 28, 29, 30] [5, 6, 7, 8, 31, 32, 33, 34, 35, 36, 37, 38] [12, 13, 14, 15, 16, 0, 1, 2, 3, 17, 18, 19, 20, 21, 22, 23, 24, 25, 26, 27, 28, 29, 30, 31, 32, 33, 34, 35, 36, 37, 38, 4, 5, 6, 7, 8, 9, 10, 11] rfl rfl rfl ⟨by decide, by decide, by decide⟩ (by decide) (ci := 3) (q0 := 0) rfl rfl rfl hl.1 rfl (Nat.le_of_ble_eq_true rfl) dL_law_215 ⟨Nat.le_of_ble_eq_true rfl, Nat.le_of_ble_eq_true rfl⟩ (fun _ H locs hP hD hS => ?_)
  refine lv_aload_n hx hb dL_law_218 rfl (lv_at hl 1 rfl) ?_
  refine lv_aload_n hx hb dL_law_219 rfl (lv_at hl 3 rfl) ?_
  refine lv_iload_n hx hb dL_law_220 rfl (lv_at hl 0 rfl) ?_
  refine lv_iconst (v := 1) hx hb dL_law_221 (by decide) ?_
  refine lv_iadd hx hb dL_law_222 ?_
  refine va_sld hx hb hX0 hbl hbA hS i1 dL_law_223 ?_
  refine lv_aload_n hx hb dL_law_224 rfl (lv_at hl 3 rfl) ?_
  refine lv_iload_n hx hb dL_law_225 rfl (lv_at hl 0 rfl) ?_
  refine lv_iconst (v := 2) hx hb dL_law_226 (by decide) ?_
  refine lv_iadd hx hb dL_law_227 ?_
  refine va_sld hx hb hX0 hbl hbA hS i2 dL_law_228 ?_
  refine xcallI (As := [.int (xs (I + 1).toNatClampNeg), .int (xs (I + 2).toNatClampNeg)]) (rest := [.int r]) (wc := (wM ks u M)) (w1 := (wM ks u M1)) (wr := (wS o a b h t ++ wF ks a F1 ++ wF ks b G ++ wH ks h A1 z1 S1 ++ wT ks t T)) (wn := wL ks o a b h t u F1 G A1 z1 S1 T M1) ⟨hx, hb, hml, hown, hts⟩ (c_X5_pour k u M (xs (I + 1).toNatClampNeg) (xs (I + 2).toNatClampNeg) r M1 e2) (cwV 2 hts gL_law_X5_pour rfl rfl rfl (by decide +kernel) ⟨Nat.le_of_ble_eq_true rfl, Nat.le_of_ble_eq_true rfl⟩) hX hP hD hS hA [34, 35, 36, 37, 38] [0, 1, 2, 3, 4, 5, 6, 7, 8, 9, 10, 11, 12, 13, 14, 15, 16, 17, 18, 19, 20, 21, 22, 23, 24, 25, 26, 27, 28, 29, 30, 31, 32, 33] [0, 1, 2, 3, 4, 5, 6, 7, 8, 9, 10, 11, 12, 13, 14, 15, 16, 17, 18, 19, 20, 21, 22, 23, 24, 25, 26, 27, 28, 29, 30, 31, 32, 33, 34, 35, 36, 37, 38] rfl rfl rfl ⟨by decide, by decide, by decide⟩ (by decide) (ci := 4) (q0 := 0) rfl rfl rfl hl.1 rfl (Nat.le_of_ble_eq_true rfl) dL_law_229 ⟨Nat.le_of_ble_eq_true rfl, Nat.le_of_ble_eq_true rfl⟩ (fun _ H locs hP hD hS => ?_)
  exact lv_icmp_eq (tgt := 648) hx hb dL_law_232 (by decide) (fun _ => kk _ _ _ _ _ _ _ _ _ hR1 hP hD hS) (fun w => absurd rfl w)
set_option maxHeartbeats 4000000 in
set_option maxRecDepth 100000 in
theorem op_add (hk : 6000 ≤ k) (hx : p.tables.exec = Jvm.exec) (hb : c.code = cL_law) (hml : c.maxLocals = 4) (hts : ∀ w ∈ wsL_law, w.before #[Value.ref b0] s = true) (hown : s.vm.findClass RL = some m.cls) (hX : xK D ks s) (hE : xEset (lA s) s s.heap) (hX0 : va_X b0 L xs s s.heap) (hbl : b0 < s.heap.size) (i1 : vp_in (I + 1) L) (i2 : vp_in (I + 2) L) (i3 : vp_in (I + 3) L) (hR : RS F qz qS T M) (hP : va_P D vwCl (wL ks o a b h t u F G qA qz qS T M) H) (hD : va_D (lA s) (wL ks o a b h t u F G qA qz qS T M)) (hS : va_S (lA s) s.heap H locs) (hl : lv_has ls 4 [(3, .int I), (2, .ref u.1), (1, .ref o), (0, .ref b0)])
    (kk : ∀ (F1 G1 : FD) (A1 : Nat → AF) (z1 : Int32) (S1 : Nat → FD) (T1 : TD) (M1 : MD) (H1 : Heap) (locs1 : List Loc), RS F1 z1 S1 T1 M1 → va_P D vwCl (wL ks o a b h t u F1 G1 A1 z1 S1 T1 M1) H1 → va_D (lA s) (wL ks o a b h t u F1 G1 A1 z1 S1 T1 M1) → va_S (lA s) s.heap H1 locs1 → W p l e room_1 s m #[Value.ref b0] below meth c H1 locs1 39 895 Q (F0 m 648 ls [])) : W p l e room_1 s m #[Value.ref b0] below meth c H locs 39 895 Q (F0 m 237 ls []) := by
  have hA : ∀ q : Nat, s.heap.size ≤ q → lA s q := fun _ h => h
  have hbA : ¬ lA s b0 := Nat.not_le.mpr hbl
  obtain ⟨r, F1, A1, z1, S1, M1, e1, e2, hR1⟩ := addR (k := k) (qA := qA) (by omega) hR (xs (I + 1).toNatClampNeg)
  refine lv_aload_n hx hb dL_law_237 rfl (lv_at hl 2 rfl) ?_
  refine lv_aload_n hx hb dL_law_238 rfl (lv_at hl 3 rfl) ?_
  refine lv_iload_n hx hb dL_law_239 rfl (lv_at hl 0 rfl) ?_
  refine lv_iconst (v := 1) hx hb dL_law_240 (by decide) ?_
  refine lv_iadd hx hb dL_law_241 ?_
  refine va_sld hx hb hX0 hbl hbA hS i1 dL_law_242 ?_
  refine xcallI (As := [.int (xs (I + 1).toNatClampNeg)]) (rest := []) (wc := (wS o a b h t ++ wF ks a F ++ wH ks h qA qz qS)) (w1 := (wS o a b h t ++ wF ks a F1 ++ wH ks h A1 z1 S1)) (wr := (wF ks b G ++ wT ks t T ++ wM ks u M)) (wn := wL ks o a b h t u F1 G A1 z1 S1 T M) ⟨hx, hb, hml, hown, hts⟩ (c_X4_add k o a b h t F qA qz qS (xs (I + 1).toNatClampNeg) r F1 A1 z1 S1 e1) (cwV 1 hts gL_law_X4_add rfl rfl rfl (by decide +kernel) ⟨Nat.le_of_ble_eq_true rfl, Nat.le_of_ble_eq_true rfl⟩) hX hP hD hS hA [0, 1, 2, 3, 4, 9, 10, 11, 12, 13, 14, 15, 16, 17, 18, 19, 20, 21, 22, 23, 24, 25, 26, 27, 28, 29, 30] [5, 6, 7, 8, 31, 32, 33, 34, 35, 36, 37, 38] [12, 13, 14, 15, 16, 0, 1, 2, 3, 17, 18, 19, 20, 21, 22, 23, 24, 25, 26, 27, 28, 29, 30, 31, 32, 33, 34, 35, 36, 37, 38, 4, 5, 6, 7, 8, 9, 10, 11] rfl rfl rfl ⟨by decide, by decide, by decide⟩ (by decide) (ci := 3) (q0 := 0) rfl rfl rfl hl.1 rfl (Nat.le_of_ble_eq_true rfl) dL_law_243 ⟨Nat.le_of_ble_eq_true rfl, Nat.le_of_ble_eq_true rfl⟩ (fun _ H locs hP hD hS => ?_)
  refine lv_aload_n hx hb dL_law_246 rfl (lv_at hl 1 rfl) ?_
  refine lv_aload_n hx hb dL_law_247 rfl (lv_at hl 3 rfl) ?_
  refine lv_iload_n hx hb dL_law_248 rfl (lv_at hl 0 rfl) ?_
  refine lv_iconst (v := 1) hx hb dL_law_249 (by decide) ?_
  refine lv_iadd hx hb dL_law_250 ?_
  refine va_sld hx hb hX0 hbl hbA hS i1 dL_law_251 ?_
  refine xcallI (As := [.int (xs (I + 1).toNatClampNeg)]) (rest := [.int r]) (wc := (wM ks u M)) (w1 := (wM ks u M1)) (wr := (wS o a b h t ++ wF ks a F1 ++ wF ks b G ++ wH ks h A1 z1 S1 ++ wT ks t T)) (wn := wL ks o a b h t u F1 G A1 z1 S1 T M1) ⟨hx, hb, hml, hown, hts⟩ (c_X5_add k u M (xs (I + 1).toNatClampNeg) r M1 e2) (cwV 1 hts gL_law_X5_add rfl rfl rfl (by decide +kernel) ⟨Nat.le_of_ble_eq_true rfl, Nat.le_of_ble_eq_true rfl⟩) hX hP hD hS hA [34, 35, 36, 37, 38] [0, 1, 2, 3, 4, 5, 6, 7, 8, 9, 10, 11, 12, 13, 14, 15, 16, 17, 18, 19, 20, 21, 22, 23, 24, 25, 26, 27, 28, 29, 30, 31, 32, 33] [0, 1, 2, 3, 4, 5, 6, 7, 8, 9, 10, 11, 12, 13, 14, 15, 16, 17, 18, 19, 20, 21, 22, 23, 24, 25, 26, 27, 28, 29, 30, 31, 32, 33, 34, 35, 36, 37, 38] rfl rfl rfl ⟨by decide, by decide, by decide⟩ (by decide) (ci := 4) (q0 := 0) rfl rfl rfl hl.1 rfl (Nat.le_of_ble_eq_true rfl) dL_law_252 ⟨Nat.le_of_ble_eq_true rfl, Nat.le_of_ble_eq_true rfl⟩ (fun _ H locs hP hD hS => ?_)
  exact lv_icmp_eq (tgt := 648) hx hb dL_law_255 (by decide) (fun _ => kk _ _ _ _ _ _ _ _ _ hR1 hP hD hS) (fun w => absurd rfl w)
set_option maxHeartbeats 4000000 in
set_option maxRecDepth 100000 in
theorem op_thin (hk : 6000 ≤ k) (hx : p.tables.exec = Jvm.exec) (hb : c.code = cL_law) (hml : c.maxLocals = 4) (hts : ∀ w ∈ wsL_law, w.before #[Value.ref b0] s = true) (hown : s.vm.findClass RL = some m.cls) (hX : xK D ks s) (hE : xEset (lA s) s s.heap) (hX0 : va_X b0 L xs s s.heap) (hbl : b0 < s.heap.size) (i1 : vp_in (I + 1) L) (i2 : vp_in (I + 2) L) (i3 : vp_in (I + 3) L) (hR : RS F qz qS T M) (hP : va_P D vwCl (wL ks o a b h t u F G qA qz qS T M) H) (hD : va_D (lA s) (wL ks o a b h t u F G qA qz qS T M)) (hS : va_S (lA s) s.heap H locs) (hl : lv_has ls 4 [(3, .int I), (2, .ref u.1), (1, .ref o), (0, .ref b0)])
    (kk : ∀ (F1 G1 : FD) (A1 : Nat → AF) (z1 : Int32) (S1 : Nat → FD) (T1 : TD) (M1 : MD) (H1 : Heap) (locs1 : List Loc), RS F1 z1 S1 T1 M1 → va_P D vwCl (wL ks o a b h t u F1 G1 A1 z1 S1 T1 M1) H1 → va_D (lA s) (wL ks o a b h t u F1 G1 A1 z1 S1 T1 M1) → va_S (lA s) s.heap H1 locs1 → W p l e room_1 s m #[Value.ref b0] below meth c H1 locs1 39 895 Q (F0 m 648 ls [])) : W p l e room_1 s m #[Value.ref b0] below meth c H locs 39 895 Q (F0 m 260 ls []) := by
  have hA : ∀ q : Nat, s.heap.size ≤ q → lA s q := fun _ h => h
  have hbA : ¬ lA s b0 := Nat.not_le.mpr hbl
  obtain ⟨r, F1, A1, z1, S1, M1, e1, e2, hR1⟩ := thinR (k := k) (qA := qA) (by omega) hR (xs (I + 1).toNatClampNeg) (xs (I + 2).toNatClampNeg)
  refine lv_aload_n hx hb dL_law_260 rfl (lv_at hl 2 rfl) ?_
  refine lv_aload_n hx hb dL_law_261 rfl (lv_at hl 3 rfl) ?_
  refine lv_iload_n hx hb dL_law_262 rfl (lv_at hl 0 rfl) ?_
  refine lv_iconst (v := 1) hx hb dL_law_263 (by decide) ?_
  refine lv_iadd hx hb dL_law_264 ?_
  refine va_sld hx hb hX0 hbl hbA hS i1 dL_law_265 ?_
  refine lv_aload_n hx hb dL_law_266 rfl (lv_at hl 3 rfl) ?_
  refine lv_iload_n hx hb dL_law_267 rfl (lv_at hl 0 rfl) ?_
  refine lv_iconst (v := 2) hx hb dL_law_268 (by decide) ?_
  refine lv_iadd hx hb dL_law_269 ?_
  refine va_sld hx hb hX0 hbl hbA hS i2 dL_law_270 ?_
  refine xcallI (As := [.int (xs (I + 1).toNatClampNeg), .int (xs (I + 2).toNatClampNeg)]) (rest := []) (wc := (wS o a b h t ++ wF ks a F ++ wH ks h qA qz qS)) (w1 := (wS o a b h t ++ wF ks a F1 ++ wH ks h A1 z1 S1)) (wr := (wF ks b G ++ wT ks t T ++ wM ks u M)) (wn := wL ks o a b h t u F1 G A1 z1 S1 T M) ⟨hx, hb, hml, hown, hts⟩ (c_X4_thin k o a b h t F qA qz qS (xs (I + 1).toNatClampNeg) (xs (I + 2).toNatClampNeg) r F1 A1 z1 S1 e1) (cwV 2 hts gL_law_X4_thin rfl rfl rfl (by decide +kernel) ⟨Nat.le_of_ble_eq_true rfl, Nat.le_of_ble_eq_true rfl⟩) hX hP hD hS hA [0, 1, 2, 3, 4, 9, 10, 11, 12, 13, 14, 15, 16, 17, 18, 19, 20, 21, 22, 23, 24, 25, 26, 27, 28, 29, 30] [5, 6, 7, 8, 31, 32, 33, 34, 35, 36, 37, 38] [12, 13, 14, 15, 16, 0, 1, 2, 3, 17, 18, 19, 20, 21, 22, 23, 24, 25, 26, 27, 28, 29, 30, 31, 32, 33, 34, 35, 36, 37, 38, 4, 5, 6, 7, 8, 9, 10, 11] rfl rfl rfl ⟨by decide, by decide, by decide⟩ (by decide) (ci := 3) (q0 := 0) rfl rfl rfl hl.1 rfl (Nat.le_of_ble_eq_true rfl) dL_law_271 ⟨Nat.le_of_ble_eq_true rfl, Nat.le_of_ble_eq_true rfl⟩ (fun _ H locs hP hD hS => ?_)
  refine lv_aload_n hx hb dL_law_274 rfl (lv_at hl 1 rfl) ?_
  refine lv_aload_n hx hb dL_law_275 rfl (lv_at hl 3 rfl) ?_
  refine lv_iload_n hx hb dL_law_276 rfl (lv_at hl 0 rfl) ?_
  refine lv_iconst (v := 1) hx hb dL_law_277 (by decide) ?_
  refine lv_iadd hx hb dL_law_278 ?_
  refine va_sld hx hb hX0 hbl hbA hS i1 dL_law_279 ?_
  refine lv_aload_n hx hb dL_law_280 rfl (lv_at hl 3 rfl) ?_
  refine lv_iload_n hx hb dL_law_281 rfl (lv_at hl 0 rfl) ?_
  refine lv_iconst (v := 2) hx hb dL_law_282 (by decide) ?_
  refine lv_iadd hx hb dL_law_283 ?_
  refine va_sld hx hb hX0 hbl hbA hS i2 dL_law_284 ?_
  refine xcallI (As := [.int (xs (I + 1).toNatClampNeg), .int (xs (I + 2).toNatClampNeg)]) (rest := [.int r]) (wc := (wM ks u M)) (w1 := (wM ks u M1)) (wr := (wS o a b h t ++ wF ks a F1 ++ wF ks b G ++ wH ks h A1 z1 S1 ++ wT ks t T)) (wn := wL ks o a b h t u F1 G A1 z1 S1 T M1) ⟨hx, hb, hml, hown, hts⟩ (c_X5_thin k u M (xs (I + 1).toNatClampNeg) (xs (I + 2).toNatClampNeg) r M1 e2) (cwV 2 hts gL_law_X5_thin rfl rfl rfl (by decide +kernel) ⟨Nat.le_of_ble_eq_true rfl, Nat.le_of_ble_eq_true rfl⟩) hX hP hD hS hA [34, 35, 36, 37, 38] [0, 1, 2, 3, 4, 5, 6, 7, 8, 9, 10, 11, 12, 13, 14, 15, 16, 17, 18, 19, 20, 21, 22, 23, 24, 25, 26, 27, 28, 29, 30, 31, 32, 33] [0, 1, 2, 3, 4, 5, 6, 7, 8, 9, 10, 11, 12, 13, 14, 15, 16, 17, 18, 19, 20, 21, 22, 23, 24, 25, 26, 27, 28, 29, 30, 31, 32, 33, 34, 35, 36, 37, 38] rfl rfl rfl ⟨by decide, by decide, by decide⟩ (by decide) (ci := 4) (q0 := 0) rfl rfl rfl hl.1 rfl (Nat.le_of_ble_eq_true rfl) dL_law_285 ⟨Nat.le_of_ble_eq_true rfl, Nat.le_of_ble_eq_true rfl⟩ (fun _ H locs hP hD hS => ?_)
  exact lv_icmp_eq (tgt := 648) hx hb dL_law_288 (by decide) (fun _ => kk _ _ _ _ _ _ _ _ _ hR1 hP hD hS) (fun w => absurd rfl w)
set_option maxHeartbeats 4000000 in
set_option maxRecDepth 100000 in
theorem op_cut (hk : 6000 ≤ k) (hx : p.tables.exec = Jvm.exec) (hb : c.code = cL_law) (hml : c.maxLocals = 4) (hts : ∀ w ∈ wsL_law, w.before #[Value.ref b0] s = true) (hown : s.vm.findClass RL = some m.cls) (hX : xK D ks s) (hE : xEset (lA s) s s.heap) (hX0 : va_X b0 L xs s s.heap) (hbl : b0 < s.heap.size) (i1 : vp_in (I + 1) L) (i2 : vp_in (I + 2) L) (i3 : vp_in (I + 3) L) (hR : RS F qz qS T M) (hP : va_P D vwCl (wL ks o a b h t u F G qA qz qS T M) H) (hD : va_D (lA s) (wL ks o a b h t u F G qA qz qS T M)) (hS : va_S (lA s) s.heap H locs) (hl : lv_has ls 4 [(3, .int I), (2, .ref u.1), (1, .ref o), (0, .ref b0)])
    (kk : ∀ (F1 G1 : FD) (A1 : Nat → AF) (z1 : Int32) (S1 : Nat → FD) (T1 : TD) (M1 : MD) (H1 : Heap) (locs1 : List Loc), RS F1 z1 S1 T1 M1 → va_P D vwCl (wL ks o a b h t u F1 G1 A1 z1 S1 T1 M1) H1 → va_D (lA s) (wL ks o a b h t u F1 G1 A1 z1 S1 T1 M1) → va_S (lA s) s.heap H1 locs1 → W p l e room_1 s m #[Value.ref b0] below meth c H1 locs1 39 895 Q (F0 m 648 ls [])) : W p l e room_1 s m #[Value.ref b0] below meth c H locs 39 895 Q (F0 m 293 ls []) := by
  have hA : ∀ q : Nat, s.heap.size ≤ q → lA s q := fun _ h => h
  have hbA : ¬ lA s b0 := Nat.not_le.mpr hbl
  obtain ⟨r, F1, A1, z1, S1, M1, e1, e2, hR1⟩ := cutR (k := k) (qA := qA) (by omega) hR 
  refine lv_aload_n hx hb dL_law_293 rfl (lv_at hl 2 rfl) ?_
  refine xcallI (As := []) (rest := []) (wc := (wS o a b h t ++ wF ks a F ++ wH ks h qA qz qS)) (w1 := (wS o a b h t ++ wF ks a F1 ++ wH ks h A1 z1 S1)) (wr := (wF ks b G ++ wT ks t T ++ wM ks u M)) (wn := wL ks o a b h t u F1 G A1 z1 S1 T M) ⟨hx, hb, hml, hown, hts⟩ (c_X4_cut k o a b h t F qA qz qS  r F1 A1 z1 S1 e1) (cwV 0 hts gL_law_X4_cut rfl rfl rfl (by decide +kernel) ⟨Nat.le_of_ble_eq_true rfl, Nat.le_of_ble_eq_true rfl⟩) hX hP hD hS hA [0, 1, 2, 3, 4, 9, 10, 11, 12, 13, 14, 15, 16, 17, 18, 19, 20, 21, 22, 23, 24, 25, 26, 27, 28, 29, 30] [5, 6, 7, 8, 31, 32, 33, 34, 35, 36, 37, 38] [12, 13, 14, 15, 16, 0, 1, 2, 3, 17, 18, 19, 20, 21, 22, 23, 24, 25, 26, 27, 28, 29, 30, 31, 32, 33, 34, 35, 36, 37, 38, 4, 5, 6, 7, 8, 9, 10, 11] rfl rfl rfl ⟨by decide, by decide, by decide⟩ (by decide) (ci := 3) (q0 := 0) rfl rfl rfl hl.1 rfl (Nat.le_of_ble_eq_true rfl) dL_law_294 ⟨Nat.le_of_ble_eq_true rfl, Nat.le_of_ble_eq_true rfl⟩ (fun _ H locs hP hD hS => ?_)
  refine lv_aload_n hx hb dL_law_297 rfl (lv_at hl 1 rfl) ?_
  refine xcallI (As := []) (rest := [.int r]) (wc := (wM ks u M)) (w1 := (wM ks u M1)) (wr := (wS o a b h t ++ wF ks a F1 ++ wF ks b G ++ wH ks h A1 z1 S1 ++ wT ks t T)) (wn := wL ks o a b h t u F1 G A1 z1 S1 T M1) ⟨hx, hb, hml, hown, hts⟩ (c_X5_cut k u M  r M1 e2) (cwV 0 hts gL_law_X5_cut rfl rfl rfl (by decide +kernel) ⟨Nat.le_of_ble_eq_true rfl, Nat.le_of_ble_eq_true rfl⟩) hX hP hD hS hA [34, 35, 36, 37, 38] [0, 1, 2, 3, 4, 5, 6, 7, 8, 9, 10, 11, 12, 13, 14, 15, 16, 17, 18, 19, 20, 21, 22, 23, 24, 25, 26, 27, 28, 29, 30, 31, 32, 33] [0, 1, 2, 3, 4, 5, 6, 7, 8, 9, 10, 11, 12, 13, 14, 15, 16, 17, 18, 19, 20, 21, 22, 23, 24, 25, 26, 27, 28, 29, 30, 31, 32, 33, 34, 35, 36, 37, 38] rfl rfl rfl ⟨by decide, by decide, by decide⟩ (by decide) (ci := 4) (q0 := 0) rfl rfl rfl hl.1 rfl (Nat.le_of_ble_eq_true rfl) dL_law_298 ⟨Nat.le_of_ble_eq_true rfl, Nat.le_of_ble_eq_true rfl⟩ (fun _ H locs hP hD hS => ?_)
  exact lv_icmp_eq (tgt := 648) hx hb dL_law_301 (by decide) (fun _ => kk _ _ _ _ _ _ _ _ _ hR1 hP hD hS) (fun w => absurd rfl w)
set_option maxHeartbeats 4000000 in
set_option maxRecDepth 100000 in
theorem op_go (hk : 6000 ≤ k) (hx : p.tables.exec = Jvm.exec) (hb : c.code = cL_law) (hml : c.maxLocals = 4) (hts : ∀ w ∈ wsL_law, w.before #[Value.ref b0] s = true) (hown : s.vm.findClass RL = some m.cls) (hX : xK D ks s) (hE : xEset (lA s) s s.heap) (hX0 : va_X b0 L xs s s.heap) (hbl : b0 < s.heap.size) (i1 : vp_in (I + 1) L) (i2 : vp_in (I + 2) L) (i3 : vp_in (I + 3) L) (hR : RS F qz qS T M) (hP : va_P D vwCl (wL ks o a b h t u F G qA qz qS T M) H) (hD : va_D (lA s) (wL ks o a b h t u F G qA qz qS T M)) (hS : va_S (lA s) s.heap H locs) (hl : lv_has ls 4 [(3, .int I), (2, .ref u.1), (1, .ref o), (0, .ref b0)])
    (kk : ∀ (F1 G1 : FD) (A1 : Nat → AF) (z1 : Int32) (S1 : Nat → FD) (T1 : TD) (M1 : MD) (H1 : Heap) (locs1 : List Loc), RS F1 z1 S1 T1 M1 → va_P D vwCl (wL ks o a b h t u F1 G1 A1 z1 S1 T1 M1) H1 → va_D (lA s) (wL ks o a b h t u F1 G1 A1 z1 S1 T1 M1) → va_S (lA s) s.heap H1 locs1 → W p l e room_1 s m #[Value.ref b0] below meth c H1 locs1 39 895 Q (F0 m 648 ls [])) : W p l e room_1 s m #[Value.ref b0] below meth c H locs 39 895 Q (F0 m 306 ls []) := by
  have hA : ∀ q : Nat, s.heap.size ≤ q → lA s q := fun _ h => h
  have hbA : ¬ lA s b0 := Nat.not_le.mpr hbl
  obtain ⟨r, F1, A1, z1, S1, M1, e1, e2, hR1⟩ := goR (k := k) (qA := qA) (by omega) hR (xs (I + 1).toNatClampNeg)
  refine lv_aload_n hx hb dL_law_306 rfl (lv_at hl 2 rfl) ?_
  refine lv_aload_n hx hb dL_law_307 rfl (lv_at hl 3 rfl) ?_
  refine lv_iload_n hx hb dL_law_308 rfl (lv_at hl 0 rfl) ?_
  refine lv_iconst (v := 1) hx hb dL_law_309 (by decide) ?_
  refine lv_iadd hx hb dL_law_310 ?_
  refine va_sld hx hb hX0 hbl hbA hS i1 dL_law_311 ?_
  refine xcallI (As := [.int (xs (I + 1).toNatClampNeg)]) (rest := []) (wc := (wS o a b h t ++ wF ks a F ++ wH ks h qA qz qS)) (w1 := (wS o a b h t ++ wF ks a F1 ++ wH ks h A1 z1 S1)) (wr := (wF ks b G ++ wT ks t T ++ wM ks u M)) (wn := wL ks o a b h t u F1 G A1 z1 S1 T M) ⟨hx, hb, hml, hown, hts⟩ (c_X4_go k o a b h t F qA qz qS (xs (I + 1).toNatClampNeg) r F1 A1 z1 S1 e1) (cwV 1 hts gL_law_X4_go rfl rfl rfl (by decide +kernel) ⟨Nat.le_of_ble_eq_true rfl, Nat.le_of_ble_eq_true rfl⟩) hX hP hD hS hA [0, 1, 2, 3, 4, 9, 10, 11, 12, 13, 14, 15, 16, 17, 18, 19, 20, 21, 22, 23, 24, 25, 26, 27, 28, 29, 30] [5, 6, 7, 8, 31, 32, 33, 34, 35, 36, 37, 38] [12, 13, 14, 15, 16, 0, 1, 2, 3, 17, 18, 19, 20, 21, 22, 23, 24, 25, 26, 27, 28, 29, 30, 31, 32, 33, 34, 35, 36, 37, 38, 4, 5, 6, 7, 8, 9, 10, 11] rfl rfl rfl ⟨by decide, by decide, by decide⟩ (by decide) (ci := 3) (q0 := 0) rfl rfl rfl hl.1 rfl (Nat.le_of_ble_eq_true rfl) dL_law_312 ⟨Nat.le_of_ble_eq_true rfl, Nat.le_of_ble_eq_true rfl⟩ (fun _ H locs hP hD hS => ?_)
  refine lv_aload_n hx hb dL_law_315 rfl (lv_at hl 1 rfl) ?_
  refine lv_aload_n hx hb dL_law_316 rfl (lv_at hl 3 rfl) ?_
  refine lv_iload_n hx hb dL_law_317 rfl (lv_at hl 0 rfl) ?_
  refine lv_iconst (v := 1) hx hb dL_law_318 (by decide) ?_
  refine lv_iadd hx hb dL_law_319 ?_
  refine va_sld hx hb hX0 hbl hbA hS i1 dL_law_320 ?_
  refine xcallI (As := [.int (xs (I + 1).toNatClampNeg)]) (rest := [.int r]) (wc := (wM ks u M)) (w1 := (wM ks u M1)) (wr := (wS o a b h t ++ wF ks a F1 ++ wF ks b G ++ wH ks h A1 z1 S1 ++ wT ks t T)) (wn := wL ks o a b h t u F1 G A1 z1 S1 T M1) ⟨hx, hb, hml, hown, hts⟩ (c_X5_go k u M (xs (I + 1).toNatClampNeg) r M1 e2) (cwV 1 hts gL_law_X5_go rfl rfl rfl (by decide +kernel) ⟨Nat.le_of_ble_eq_true rfl, Nat.le_of_ble_eq_true rfl⟩) hX hP hD hS hA [34, 35, 36, 37, 38] [0, 1, 2, 3, 4, 5, 6, 7, 8, 9, 10, 11, 12, 13, 14, 15, 16, 17, 18, 19, 20, 21, 22, 23, 24, 25, 26, 27, 28, 29, 30, 31, 32, 33] [0, 1, 2, 3, 4, 5, 6, 7, 8, 9, 10, 11, 12, 13, 14, 15, 16, 17, 18, 19, 20, 21, 22, 23, 24, 25, 26, 27, 28, 29, 30, 31, 32, 33, 34, 35, 36, 37, 38] rfl rfl rfl ⟨by decide, by decide, by decide⟩ (by decide) (ci := 4) (q0 := 0) rfl rfl rfl hl.1 rfl (Nat.le_of_ble_eq_true rfl) dL_law_321 ⟨Nat.le_of_ble_eq_true rfl, Nat.le_of_ble_eq_true rfl⟩ (fun _ H locs hP hD hS => ?_)
  exact lv_icmp_eq (tgt := 648) hx hb dL_law_324 (by decide) (fun _ => kk _ _ _ _ _ _ _ _ _ hR1 hP hD hS) (fun w => absurd rfl w)
set_option maxHeartbeats 4000000 in
set_option maxRecDepth 100000 in
theorem op_undo (hk : 6000 ≤ k) (hx : p.tables.exec = Jvm.exec) (hb : c.code = cL_law) (hml : c.maxLocals = 4) (hts : ∀ w ∈ wsL_law, w.before #[Value.ref b0] s = true) (hown : s.vm.findClass RL = some m.cls) (hX : xK D ks s) (hE : xEset (lA s) s s.heap) (hX0 : va_X b0 L xs s s.heap) (hbl : b0 < s.heap.size) (i1 : vp_in (I + 1) L) (i2 : vp_in (I + 2) L) (i3 : vp_in (I + 3) L) (hR : RS F qz qS T M) (hP : va_P D vwCl (wL ks o a b h t u F G qA qz qS T M) H) (hD : va_D (lA s) (wL ks o a b h t u F G qA qz qS T M)) (hS : va_S (lA s) s.heap H locs) (hl : lv_has ls 4 [(3, .int I), (2, .ref u.1), (1, .ref o), (0, .ref b0)])
    (kk : ∀ (F1 G1 : FD) (A1 : Nat → AF) (z1 : Int32) (S1 : Nat → FD) (T1 : TD) (M1 : MD) (H1 : Heap) (locs1 : List Loc), RS F1 z1 S1 T1 M1 → va_P D vwCl (wL ks o a b h t u F1 G1 A1 z1 S1 T1 M1) H1 → va_D (lA s) (wL ks o a b h t u F1 G1 A1 z1 S1 T1 M1) → va_S (lA s) s.heap H1 locs1 → W p l e room_1 s m #[Value.ref b0] below meth c H1 locs1 39 895 Q (F0 m 648 ls [])) : W p l e room_1 s m #[Value.ref b0] below meth c H locs 39 895 Q (F0 m 329 ls []) := by
  have hA : ∀ q : Nat, s.heap.size ≤ q → lA s q := fun _ h => h
  have hbA : ¬ lA s b0 := Nat.not_le.mpr hbl
  obtain ⟨r, F1, A1, z1, S1, M1, e1, e2, hR1⟩ := undoR (k := k) (qA := qA) (by omega) hR 
  refine lv_aload_n hx hb dL_law_329 rfl (lv_at hl 2 rfl) ?_
  refine xcallI (As := []) (rest := []) (wc := (wS o a b h t ++ wF ks a F ++ wH ks h qA qz qS)) (w1 := (wS o a b h t ++ wF ks a F1 ++ wH ks h A1 z1 S1)) (wr := (wF ks b G ++ wT ks t T ++ wM ks u M)) (wn := wL ks o a b h t u F1 G A1 z1 S1 T M) ⟨hx, hb, hml, hown, hts⟩ (c_X4_undo k o a b h t F qA qz qS  r F1 A1 z1 S1 e1) (cwV 0 hts gL_law_X4_undo rfl rfl rfl (by decide +kernel) ⟨Nat.le_of_ble_eq_true rfl, Nat.le_of_ble_eq_true rfl⟩) hX hP hD hS hA [0, 1, 2, 3, 4, 9, 10, 11, 12, 13, 14, 15, 16, 17, 18, 19, 20, 21, 22, 23, 24, 25, 26, 27, 28, 29, 30] [5, 6, 7, 8, 31, 32, 33, 34, 35, 36, 37, 38] [12, 13, 14, 15, 16, 0, 1, 2, 3, 17, 18, 19, 20, 21, 22, 23, 24, 25, 26, 27, 28, 29, 30, 31, 32, 33, 34, 35, 36, 37, 38, 4, 5, 6, 7, 8, 9, 10, 11] rfl rfl rfl ⟨by decide, by decide, by decide⟩ (by decide) (ci := 3) (q0 := 0) rfl rfl rfl hl.1 rfl (Nat.le_of_ble_eq_true rfl) dL_law_330 ⟨Nat.le_of_ble_eq_true rfl, Nat.le_of_ble_eq_true rfl⟩ (fun _ H locs hP hD hS => ?_)
  refine lv_aload_n hx hb dL_law_333 rfl (lv_at hl 1 rfl) ?_
  refine xcallI (As := []) (rest := [.int r]) (wc := (wM ks u M)) (w1 := (wM ks u M1)) (wr := (wS o a b h t ++ wF ks a F1 ++ wF ks b G ++ wH ks h A1 z1 S1 ++ wT ks t T)) (wn := wL ks o a b h t u F1 G A1 z1 S1 T M1) ⟨hx, hb, hml, hown, hts⟩ (c_X5_undo k u M  r M1 e2) (cwV 0 hts gL_law_X5_undo rfl rfl rfl (by decide +kernel) ⟨Nat.le_of_ble_eq_true rfl, Nat.le_of_ble_eq_true rfl⟩) hX hP hD hS hA [34, 35, 36, 37, 38] [0, 1, 2, 3, 4, 5, 6, 7, 8, 9, 10, 11, 12, 13, 14, 15, 16, 17, 18, 19, 20, 21, 22, 23, 24, 25, 26, 27, 28, 29, 30, 31, 32, 33] [0, 1, 2, 3, 4, 5, 6, 7, 8, 9, 10, 11, 12, 13, 14, 15, 16, 17, 18, 19, 20, 21, 22, 23, 24, 25, 26, 27, 28, 29, 30, 31, 32, 33, 34, 35, 36, 37, 38] rfl rfl rfl ⟨by decide, by decide, by decide⟩ (by decide) (ci := 4) (q0 := 0) rfl rfl rfl hl.1 rfl (Nat.le_of_ble_eq_true rfl) dL_law_334 ⟨Nat.le_of_ble_eq_true rfl, Nat.le_of_ble_eq_true rfl⟩ (fun _ H locs hP hD hS => ?_)
  exact lv_icmp_eq (tgt := 648) hx hb dL_law_337 (by decide) (fun _ => kk _ _ _ _ _ _ _ _ _ hR1 hP hD hS) (fun w => absurd rfl w)
set_option maxHeartbeats 4000000 in
set_option maxRecDepth 100000 in
theorem op_row (hk : 6000 ≤ k) (hx : p.tables.exec = Jvm.exec) (hb : c.code = cL_law) (hml : c.maxLocals = 4) (hts : ∀ w ∈ wsL_law, w.before #[Value.ref b0] s = true) (hown : s.vm.findClass RL = some m.cls) (hX : xK D ks s) (hE : xEset (lA s) s s.heap) (hX0 : va_X b0 L xs s s.heap) (hbl : b0 < s.heap.size) (i1 : vp_in (I + 1) L) (i2 : vp_in (I + 2) L) (i3 : vp_in (I + 3) L) (hR : RS F qz qS T M) (hP : va_P D vwCl (wL ks o a b h t u F G qA qz qS T M) H) (hD : va_D (lA s) (wL ks o a b h t u F G qA qz qS T M)) (hS : va_S (lA s) s.heap H locs) (hl : lv_has ls 4 [(3, .int I), (2, .ref u.1), (1, .ref o), (0, .ref b0)])
    (kk : ∀ (F1 G1 : FD) (A1 : Nat → AF) (z1 : Int32) (S1 : Nat → FD) (T1 : TD) (M1 : MD) (H1 : Heap) (locs1 : List Loc), RS F1 z1 S1 T1 M1 → va_P D vwCl (wL ks o a b h t u F1 G1 A1 z1 S1 T1 M1) H1 → va_D (lA s) (wL ks o a b h t u F1 G1 A1 z1 S1 T1 M1) → va_S (lA s) s.heap H1 locs1 → W p l e room_1 s m #[Value.ref b0] below meth c H1 locs1 39 895 Q (F0 m 648 ls [])) : W p l e room_1 s m #[Value.ref b0] below meth c H locs 39 895 Q (F0 m 342 ls []) := by
  have hA : ∀ q : Nat, s.heap.size ≤ q → lA s q := fun _ h => h
  have hbA : ¬ lA s b0 := Nat.not_le.mpr hbl
  obtain ⟨⟨nn, tt, uu, hf⟩, ⟨hh, -, hz1, hz2, -⟩, ⟨LL, cc, -, hl1, hl2, -⟩⟩ := id hR
  obtain ⟨r, e1, e2⟩ := rowR (k := k) hf (xs (I + 1).toNatClampNeg) (xs (I + 2).toNatClampNeg)
  have hR1 := hR
  refine lv_aload_n hx hb dL_law_342 rfl (lv_at hl 2 rfl) ?_
  refine lv_aload_n hx hb dL_law_343 rfl (lv_at hl 3 rfl) ?_
  refine lv_iload_n hx hb dL_law_344 rfl (lv_at hl 0 rfl) ?_
  refine lv_iconst (v := 1) hx hb dL_law_345 (by decide) ?_
  refine lv_iadd hx hb dL_law_346 ?_
  refine va_sld hx hb hX0 hbl hbA hS i1 dL_law_347 ?_
  refine lv_aload_n hx hb dL_law_348 rfl (lv_at hl 3 rfl) ?_
  refine lv_iload_n hx hb dL_law_349 rfl (lv_at hl 0 rfl) ?_
  refine lv_iconst (v := 2) hx hb dL_law_350 (by decide) ?_
  refine lv_iadd hx hb dL_law_351 ?_
  refine va_sld hx hb hX0 hbl hbA hS i2 dL_law_352 ?_
  refine xcallRV (As := [.int (xs (I + 1).toNatClampNeg), .int (xs (I + 2).toNatClampNeg)]) (rest := []) (wc := (wS o a b h t ++ wF ks a F)) ⟨hx, hb, hml, hown, hts⟩ (c_X4_row k o a b h t F (xs (I + 1).toNatClampNeg) (xs (I + 2).toNatClampNeg) r e1) (cwV 2 hts gL_law_X4_row rfl rfl rfl (by decide +kernel) ⟨Nat.le_of_ble_eq_true rfl, Nat.le_of_ble_eq_true rfl⟩) hX (hP.sub (ws' := (wS o a b h t ++ wF ks a F)) [0, 1, 2, 3, 4] rfl) (ci := 3) (q0 := 0) rfl rfl rfl hl.1 rfl (Nat.le_of_ble_eq_true rfl) dL_law_353 ⟨Nat.le_of_ble_eq_true rfl, Nat.le_of_ble_eq_true rfl⟩ (fun _ => ?_)
  refine lv_aload_n hx hb dL_law_356 rfl (lv_at hl 1 rfl) ?_
  refine lv_aload_n hx hb dL_law_357 rfl (lv_at hl 3 rfl) ?_
  refine lv_iload_n hx hb dL_law_358 rfl (lv_at hl 0 rfl) ?_
  refine lv_iconst (v := 1) hx hb dL_law_359 (by decide) ?_
  refine lv_iadd hx hb dL_law_360 ?_
  refine va_sld hx hb hX0 hbl hbA hS i1 dL_law_361 ?_
  refine lv_aload_n hx hb dL_law_362 rfl (lv_at hl 3 rfl) ?_
  refine lv_iload_n hx hb dL_law_363 rfl (lv_at hl 0 rfl) ?_
  refine lv_iconst (v := 2) hx hb dL_law_364 (by decide) ?_
  refine lv_iadd hx hb dL_law_365 ?_
  refine va_sld hx hb hX0 hbl hbA hS i2 dL_law_366 ?_
  refine xcallRV (As := [.int (xs (I + 1).toNatClampNeg), .int (xs (I + 2).toNatClampNeg)]) (rest := [.int r]) (wc := (wM ks u M)) ⟨hx, hb, hml, hown, hts⟩ (c_X5_row k u M (xs (I + 1).toNatClampNeg) (xs (I + 2).toNatClampNeg) r e2) (cwV 2 hts gL_law_X5_row rfl rfl rfl (by decide +kernel) ⟨Nat.le_of_ble_eq_true rfl, Nat.le_of_ble_eq_true rfl⟩) hX (hP.sub (ws' := (wM ks u M)) [34, 35, 36, 37, 38] rfl) (ci := 4) (q0 := 0) rfl rfl rfl hl.1 rfl (Nat.le_of_ble_eq_true rfl) dL_law_367 ⟨Nat.le_of_ble_eq_true rfl, Nat.le_of_ble_eq_true rfl⟩ (fun _ => ?_)
  exact lv_icmp_eq (tgt := 648) hx hb dL_law_370 (by decide) (fun _ => kk _ _ _ _ _ _ _ _ _ hR1 hP hD hS) (fun w => absurd rfl w)
set_option maxHeartbeats 4000000 in
set_option maxRecDepth 100000 in
theorem op_count (hk : 6000 ≤ k) (hx : p.tables.exec = Jvm.exec) (hb : c.code = cL_law) (hml : c.maxLocals = 4) (hts : ∀ w ∈ wsL_law, w.before #[Value.ref b0] s = true) (hown : s.vm.findClass RL = some m.cls) (hX : xK D ks s) (hE : xEset (lA s) s s.heap) (hX0 : va_X b0 L xs s s.heap) (hbl : b0 < s.heap.size) (i1 : vp_in (I + 1) L) (i2 : vp_in (I + 2) L) (i3 : vp_in (I + 3) L) (hR : RS F qz qS T M) (hP : va_P D vwCl (wL ks o a b h t u F G qA qz qS T M) H) (hD : va_D (lA s) (wL ks o a b h t u F G qA qz qS T M)) (hS : va_S (lA s) s.heap H locs) (hl : lv_has ls 4 [(3, .int I), (2, .ref u.1), (1, .ref o), (0, .ref b0)])
    (kk : ∀ (F1 G1 : FD) (A1 : Nat → AF) (z1 : Int32) (S1 : Nat → FD) (T1 : TD) (M1 : MD) (H1 : Heap) (locs1 : List Loc), RS F1 z1 S1 T1 M1 → va_P D vwCl (wL ks o a b h t u F1 G1 A1 z1 S1 T1 M1) H1 → va_D (lA s) (wL ks o a b h t u F1 G1 A1 z1 S1 T1 M1) → va_S (lA s) s.heap H1 locs1 → W p l e room_1 s m #[Value.ref b0] below meth c H1 locs1 39 895 Q (F0 m 648 ls [])) : W p l e room_1 s m #[Value.ref b0] below meth c H locs 39 895 Q (F0 m 375 ls []) := by
  have hA : ∀ q : Nat, s.heap.size ≤ q → lA s q := fun _ h => h
  have hbA : ¬ lA s b0 := Nat.not_le.mpr hbl
  obtain ⟨⟨nn, tt, uu, hf⟩, ⟨hh, -, hz1, hz2, -⟩, ⟨LL, cc, -, hl1, hl2, -⟩⟩ := id hR
  obtain ⟨r, e1, e2⟩ := cntR (k := k) (qA := qA) (qz := qz) (qS := qS) (T := T) (by omega) hf (hz1.trans hz2.symm) (hl1.trans hl2.symm) (xs (I + 1).toNatClampNeg)
  have hR1 := hR
  refine lv_aload_n hx hb dL_law_375 rfl (lv_at hl 2 rfl) ?_
  refine lv_aload_n hx hb dL_law_376 rfl (lv_at hl 3 rfl) ?_
  refine lv_iload_n hx hb dL_law_377 rfl (lv_at hl 0 rfl) ?_
  refine lv_iconst (v := 1) hx hb dL_law_378 (by decide) ?_
  refine lv_iadd hx hb dL_law_379 ?_
  refine va_sld hx hb hX0 hbl hbA hS i1 dL_law_380 ?_
  refine xcallRV (As := [.int (xs (I + 1).toNatClampNeg)]) (rest := []) (wc := (wS o a b h t ++ wF ks a F ++ wH ks h qA qz qS ++ wT ks t T)) ⟨hx, hb, hml, hown, hts⟩ (c_X4_count k o a b h t F qA qz qS T (xs (I + 1).toNatClampNeg) r e1) (cwV 1 hts gL_law_X4_count rfl rfl rfl (by decide +kernel) ⟨Nat.le_of_ble_eq_true rfl, Nat.le_of_ble_eq_true rfl⟩) hX (hP.sub (ws' := (wS o a b h t ++ wF ks a F ++ wH ks h qA qz qS ++ wT ks t T)) [0, 1, 2, 3, 4, 9, 10, 11, 12, 13, 14, 15, 16, 17, 18, 19, 20, 21, 22, 23, 24, 25, 26, 27, 28, 29, 30, 31, 32, 33] rfl) (ci := 3) (q0 := 0) rfl rfl rfl hl.1 rfl (Nat.le_of_ble_eq_true rfl) dL_law_381 ⟨Nat.le_of_ble_eq_true rfl, Nat.le_of_ble_eq_true rfl⟩ (fun _ => ?_)
  refine lv_aload_n hx hb dL_law_384 rfl (lv_at hl 1 rfl) ?_
  refine lv_aload_n hx hb dL_law_385 rfl (lv_at hl 3 rfl) ?_
  refine lv_iload_n hx hb dL_law_386 rfl (lv_at hl 0 rfl) ?_
  refine lv_iconst (v := 1) hx hb dL_law_387 (by decide) ?_
  refine lv_iadd hx hb dL_law_388 ?_
  refine va_sld hx hb hX0 hbl hbA hS i1 dL_law_389 ?_
  refine xcallRV (As := [.int (xs (I + 1).toNatClampNeg)]) (rest := [.int r]) (wc := (wM ks u M)) ⟨hx, hb, hml, hown, hts⟩ (c_X5_count k u M (xs (I + 1).toNatClampNeg) r e2) (cwV 1 hts gL_law_X5_count rfl rfl rfl (by decide +kernel) ⟨Nat.le_of_ble_eq_true rfl, Nat.le_of_ble_eq_true rfl⟩) hX (hP.sub (ws' := (wM ks u M)) [34, 35, 36, 37, 38] rfl) (ci := 4) (q0 := 0) rfl rfl rfl hl.1 rfl (Nat.le_of_ble_eq_true rfl) dL_law_390 ⟨Nat.le_of_ble_eq_true rfl, Nat.le_of_ble_eq_true rfl⟩ (fun _ => ?_)
  exact lv_icmp_eq (tgt := 648) hx hb dL_law_393 (by decide) (fun _ => kk _ _ _ _ _ _ _ _ _ hR1 hP hD hS) (fun w => absurd rfl w)
set_option maxHeartbeats 4000000 in
set_option maxRecDepth 100000 in
theorem op_ladder (hk : 6000 ≤ k) (hx : p.tables.exec = Jvm.exec) (hb : c.code = cL_law) (hml : c.maxLocals = 4) (hts : ∀ w ∈ wsL_law, w.before #[Value.ref b0] s = true) (hown : s.vm.findClass RL = some m.cls) (hX : xK D ks s) (hE : xEset (lA s) s s.heap) (hX0 : va_X b0 L xs s s.heap) (hbl : b0 < s.heap.size) (i1 : vp_in (I + 1) L) (i2 : vp_in (I + 2) L) (i3 : vp_in (I + 3) L) (hR : RS F qz qS T M) (hP : va_P D vwCl (wL ks o a b h t u F G qA qz qS T M) H) (hD : va_D (lA s) (wL ks o a b h t u F G qA qz qS T M)) (hS : va_S (lA s) s.heap H locs) (hl : lv_has ls 4 [(3, .int I), (2, .ref u.1), (1, .ref o), (0, .ref b0)])
    (kk : ∀ (F1 G1 : FD) (A1 : Nat → AF) (z1 : Int32) (S1 : Nat → FD) (T1 : TD) (M1 : MD) (H1 : Heap) (locs1 : List Loc), RS F1 z1 S1 T1 M1 → va_P D vwCl (wL ks o a b h t u F1 G1 A1 z1 S1 T1 M1) H1 → va_D (lA s) (wL ks o a b h t u F1 G1 A1 z1 S1 T1 M1) → va_S (lA s) s.heap H1 locs1 → W p l e room_1 s m #[Value.ref b0] below meth c H1 locs1 39 895 Q (F0 m 648 ls [])) : W p l e room_1 s m #[Value.ref b0] below meth c H locs 39 895 Q (F0 m 398 ls []) := by
  have hA : ∀ q : Nat, s.heap.size ≤ q → lA s q := fun _ h => h
  have hbA : ¬ lA s b0 := Nat.not_le.mpr hbl
  obtain ⟨⟨nn, tt, uu, hf⟩, ⟨hh, -, hz1, hz2, -⟩, ⟨LL, cc, -, hl1, hl2, -⟩⟩ := id hR
  obtain ⟨r, e1, e2⟩ := ladR (k := k) (by omega) hf (xs (I + 1).toNatClampNeg)
  have hR1 := hR
  refine lv_aload_n hx hb dL_law_398 rfl (lv_at hl 2 rfl) ?_
  refine lv_aload_n hx hb dL_law_399 rfl (lv_at hl 3 rfl) ?_
  refine lv_iload_n hx hb dL_law_400 rfl (lv_at hl 0 rfl) ?_
  refine lv_iconst (v := 1) hx hb dL_law_401 (by decide) ?_
  refine lv_iadd hx hb dL_law_402 ?_
  refine va_sld hx hb hX0 hbl hbA hS i1 dL_law_403 ?_
  refine xcallRV (As := [.int (xs (I + 1).toNatClampNeg)]) (rest := []) (wc := (wS o a b h t ++ wF ks a F)) ⟨hx, hb, hml, hown, hts⟩ (c_X4_ladder k o a b h t F (xs (I + 1).toNatClampNeg) r e1) (cwV 1 hts gL_law_X4_ladder rfl rfl rfl (by decide +kernel) ⟨Nat.le_of_ble_eq_true rfl, Nat.le_of_ble_eq_true rfl⟩) hX (hP.sub (ws' := (wS o a b h t ++ wF ks a F)) [0, 1, 2, 3, 4] rfl) (ci := 3) (q0 := 0) rfl rfl rfl hl.1 rfl (Nat.le_of_ble_eq_true rfl) dL_law_404 ⟨Nat.le_of_ble_eq_true rfl, Nat.le_of_ble_eq_true rfl⟩ (fun _ => ?_)
  refine lv_aload_n hx hb dL_law_407 rfl (lv_at hl 1 rfl) ?_
  refine lv_aload_n hx hb dL_law_408 rfl (lv_at hl 3 rfl) ?_
  refine lv_iload_n hx hb dL_law_409 rfl (lv_at hl 0 rfl) ?_
  refine lv_iconst (v := 1) hx hb dL_law_410 (by decide) ?_
  refine lv_iadd hx hb dL_law_411 ?_
  refine va_sld hx hb hX0 hbl hbA hS i1 dL_law_412 ?_
  refine xcallRV (As := [.int (xs (I + 1).toNatClampNeg)]) (rest := [.int r]) (wc := (wM ks u M)) ⟨hx, hb, hml, hown, hts⟩ (c_X5_ladder k u M (xs (I + 1).toNatClampNeg) r e2) (cwV 1 hts gL_law_X5_ladder rfl rfl rfl (by decide +kernel) ⟨Nat.le_of_ble_eq_true rfl, Nat.le_of_ble_eq_true rfl⟩) hX (hP.sub (ws' := (wM ks u M)) [34, 35, 36, 37, 38] rfl) (ci := 4) (q0 := 0) rfl rfl rfl hl.1 rfl (Nat.le_of_ble_eq_true rfl) dL_law_413 ⟨Nat.le_of_ble_eq_true rfl, Nat.le_of_ble_eq_true rfl⟩ (fun _ => ?_)
  exact lv_icmp_eq (tgt := 648) hx hb dL_law_416 (by decide) (fun _ => kk _ _ _ _ _ _ _ _ _ hR1 hP hD hS) (fun w => absurd rfl w)
set_option maxHeartbeats 4000000 in
set_option maxRecDepth 100000 in
theorem op_find (hk : 6000 ≤ k) (hx : p.tables.exec = Jvm.exec) (hb : c.code = cL_law) (hml : c.maxLocals = 4) (hts : ∀ w ∈ wsL_law, w.before #[Value.ref b0] s = true) (hown : s.vm.findClass RL = some m.cls) (hX : xK D ks s) (hE : xEset (lA s) s s.heap) (hX0 : va_X b0 L xs s s.heap) (hbl : b0 < s.heap.size) (i1 : vp_in (I + 1) L) (i2 : vp_in (I + 2) L) (i3 : vp_in (I + 3) L) (hR : RS F qz qS T M) (hP : va_P D vwCl (wL ks o a b h t u F G qA qz qS T M) H) (hD : va_D (lA s) (wL ks o a b h t u F G qA qz qS T M)) (hS : va_S (lA s) s.heap H locs) (hl : lv_has ls 4 [(3, .int I), (2, .ref u.1), (1, .ref o), (0, .ref b0)])
    (kk : ∀ (F1 G1 : FD) (A1 : Nat → AF) (z1 : Int32) (S1 : Nat → FD) (T1 : TD) (M1 : MD) (H1 : Heap) (locs1 : List Loc), RS F1 z1 S1 T1 M1 → va_P D vwCl (wL ks o a b h t u F1 G1 A1 z1 S1 T1 M1) H1 → va_D (lA s) (wL ks o a b h t u F1 G1 A1 z1 S1 T1 M1) → va_S (lA s) s.heap H1 locs1 → W p l e room_1 s m #[Value.ref b0] below meth c H1 locs1 39 895 Q (F0 m 648 ls [])) : W p l e room_1 s m #[Value.ref b0] below meth c H locs 39 895 Q (F0 m 421 ls []) := by
  have hA : ∀ q : Nat, s.heap.size ≤ q → lA s q := fun _ h => h
  have hbA : ¬ lA s b0 := Nat.not_le.mpr hbl
  obtain ⟨⟨nn, tt, uu, hf⟩, ⟨hh, -, hz1, hz2, -⟩, ⟨LL, cc, -, hl1, hl2, -⟩⟩ := id hR
  obtain ⟨r, e1, e2⟩ := findR (k := k) (by omega) hf (xs (I + 1).toNatClampNeg) (xs (I + 2).toNatClampNeg)
  have hR1 := hR
  refine lv_aload_n hx hb dL_law_421 rfl (lv_at hl 2 rfl) ?_
  refine lv_aload_n hx hb dL_law_422 rfl (lv_at hl 3 rfl) ?_
  refine lv_iload_n hx hb dL_law_423 rfl (lv_at hl 0 rfl) ?_
  refine lv_iconst (v := 1) hx hb dL_law_424 (by decide) ?_
  refine lv_iadd hx hb dL_law_425 ?_
  refine va_sld hx hb hX0 hbl hbA hS i1 dL_law_426 ?_
  refine lv_aload_n hx hb dL_law_427 rfl (lv_at hl 3 rfl) ?_
  refine lv_iload_n hx hb dL_law_428 rfl (lv_at hl 0 rfl) ?_
  refine lv_iconst (v := 2) hx hb dL_law_429 (by decide) ?_
  refine lv_iadd hx hb dL_law_430 ?_
  refine va_sld hx hb hX0 hbl hbA hS i2 dL_law_431 ?_
  refine xcallRV (As := [.int (xs (I + 1).toNatClampNeg), .int (xs (I + 2).toNatClampNeg)]) (rest := []) (wc := (wS o a b h t ++ wF ks a F)) ⟨hx, hb, hml, hown, hts⟩ (c_X4_find k o a b h t F (xs (I + 1).toNatClampNeg) (xs (I + 2).toNatClampNeg) r e1) (cwV 2 hts gL_law_X4_find rfl rfl rfl (by decide +kernel) ⟨Nat.le_of_ble_eq_true rfl, Nat.le_of_ble_eq_true rfl⟩) hX (hP.sub (ws' := (wS o a b h t ++ wF ks a F)) [0, 1, 2, 3, 4] rfl) (ci := 3) (q0 := 0) rfl rfl rfl hl.1 rfl (Nat.le_of_ble_eq_true rfl) dL_law_432 ⟨Nat.le_of_ble_eq_true rfl, Nat.le_of_ble_eq_true rfl⟩ (fun _ => ?_)
  refine lv_aload_n hx hb dL_law_435 rfl (lv_at hl 1 rfl) ?_
  refine lv_aload_n hx hb dL_law_436 rfl (lv_at hl 3 rfl) ?_
  refine lv_iload_n hx hb dL_law_437 rfl (lv_at hl 0 rfl) ?_
  refine lv_iconst (v := 1) hx hb dL_law_438 (by decide) ?_
  refine lv_iadd hx hb dL_law_439 ?_
  refine va_sld hx hb hX0 hbl hbA hS i1 dL_law_440 ?_
  refine lv_aload_n hx hb dL_law_441 rfl (lv_at hl 3 rfl) ?_
  refine lv_iload_n hx hb dL_law_442 rfl (lv_at hl 0 rfl) ?_
  refine lv_iconst (v := 2) hx hb dL_law_443 (by decide) ?_
  refine lv_iadd hx hb dL_law_444 ?_
  refine va_sld hx hb hX0 hbl hbA hS i2 dL_law_445 ?_
  refine xcallRV (As := [.int (xs (I + 1).toNatClampNeg), .int (xs (I + 2).toNatClampNeg)]) (rest := [.int r]) (wc := (wM ks u M)) ⟨hx, hb, hml, hown, hts⟩ (c_X5_find k u M (xs (I + 1).toNatClampNeg) (xs (I + 2).toNatClampNeg) r e2) (cwV 2 hts gL_law_X5_find rfl rfl rfl (by decide +kernel) ⟨Nat.le_of_ble_eq_true rfl, Nat.le_of_ble_eq_true rfl⟩) hX (hP.sub (ws' := (wM ks u M)) [34, 35, 36, 37, 38] rfl) (ci := 4) (q0 := 0) rfl rfl rfl hl.1 rfl (Nat.le_of_ble_eq_true rfl) dL_law_446 ⟨Nat.le_of_ble_eq_true rfl, Nat.le_of_ble_eq_true rfl⟩ (fun _ => ?_)
  exact lv_icmp_eq (tgt := 648) hx hb dL_law_449 (by decide) (fun _ => kk _ _ _ _ _ _ _ _ _ hR1 hP hD hS) (fun w => absurd rfl w)
set_option maxHeartbeats 4000000 in
set_option maxRecDepth 100000 in
theorem op_colourOf (hk : 6000 ≤ k) (hx : p.tables.exec = Jvm.exec) (hb : c.code = cL_law) (hml : c.maxLocals = 4) (hts : ∀ w ∈ wsL_law, w.before #[Value.ref b0] s = true) (hown : s.vm.findClass RL = some m.cls) (hX : xK D ks s) (hE : xEset (lA s) s s.heap) (hX0 : va_X b0 L xs s s.heap) (hbl : b0 < s.heap.size) (i1 : vp_in (I + 1) L) (i2 : vp_in (I + 2) L) (i3 : vp_in (I + 3) L) (hR : RS F qz qS T M) (hP : va_P D vwCl (wL ks o a b h t u F G qA qz qS T M) H) (hD : va_D (lA s) (wL ks o a b h t u F G qA qz qS T M)) (hS : va_S (lA s) s.heap H locs) (hl : lv_has ls 4 [(3, .int I), (2, .ref u.1), (1, .ref o), (0, .ref b0)])
    (kk : ∀ (F1 G1 : FD) (A1 : Nat → AF) (z1 : Int32) (S1 : Nat → FD) (T1 : TD) (M1 : MD) (H1 : Heap) (locs1 : List Loc), RS F1 z1 S1 T1 M1 → va_P D vwCl (wL ks o a b h t u F1 G1 A1 z1 S1 T1 M1) H1 → va_D (lA s) (wL ks o a b h t u F1 G1 A1 z1 S1 T1 M1) → va_S (lA s) s.heap H1 locs1 → W p l e room_1 s m #[Value.ref b0] below meth c H1 locs1 39 895 Q (F0 m 648 ls [])) : W p l e room_1 s m #[Value.ref b0] below meth c H locs 39 895 Q (F0 m 454 ls []) := by
  have hA : ∀ q : Nat, s.heap.size ≤ q → lA s q := fun _ h => h
  have hbA : ¬ lA s b0 := Nat.not_le.mpr hbl
  obtain ⟨⟨nn, tt, uu, hf⟩, ⟨hh, -, hz1, hz2, -⟩, ⟨LL, cc, -, hl1, hl2, -⟩⟩ := id hR
  obtain ⟨r, e1, e2⟩ := colourOfR (k := k) hf (xs (I + 1).toNatClampNeg)
  have hR1 := hR
  refine lv_aload_n hx hb dL_law_454 rfl (lv_at hl 2 rfl) ?_
  refine lv_aload_n hx hb dL_law_455 rfl (lv_at hl 3 rfl) ?_
  refine lv_iload_n hx hb dL_law_456 rfl (lv_at hl 0 rfl) ?_
  refine lv_iconst (v := 1) hx hb dL_law_457 (by decide) ?_
  refine lv_iadd hx hb dL_law_458 ?_
  refine va_sld hx hb hX0 hbl hbA hS i1 dL_law_459 ?_
  refine xcallRV (As := [.int (xs (I + 1).toNatClampNeg)]) (rest := []) (wc := (wS o a b h t ++ wF ks a F)) ⟨hx, hb, hml, hown, hts⟩ (c_X4_colourOf k o a b h t F (xs (I + 1).toNatClampNeg) r e1) (cwV 1 hts gL_law_X4_colourOf rfl rfl rfl (by decide +kernel) ⟨Nat.le_of_ble_eq_true rfl, Nat.le_of_ble_eq_true rfl⟩) hX (hP.sub (ws' := (wS o a b h t ++ wF ks a F)) [0, 1, 2, 3, 4] rfl) (ci := 3) (q0 := 0) rfl rfl rfl hl.1 rfl (Nat.le_of_ble_eq_true rfl) dL_law_460 ⟨Nat.le_of_ble_eq_true rfl, Nat.le_of_ble_eq_true rfl⟩ (fun _ => ?_)
  refine lv_aload_n hx hb dL_law_463 rfl (lv_at hl 1 rfl) ?_
  refine lv_aload_n hx hb dL_law_464 rfl (lv_at hl 3 rfl) ?_
  refine lv_iload_n hx hb dL_law_465 rfl (lv_at hl 0 rfl) ?_
  refine lv_iconst (v := 1) hx hb dL_law_466 (by decide) ?_
  refine lv_iadd hx hb dL_law_467 ?_
  refine va_sld hx hb hX0 hbl hbA hS i1 dL_law_468 ?_
  refine xcallRV (As := [.int (xs (I + 1).toNatClampNeg)]) (rest := [.int r]) (wc := (wM ks u M)) ⟨hx, hb, hml, hown, hts⟩ (c_X5_colourOf k u M (xs (I + 1).toNatClampNeg) r e2) (cwV 1 hts gL_law_X5_colourOf rfl rfl rfl (by decide +kernel) ⟨Nat.le_of_ble_eq_true rfl, Nat.le_of_ble_eq_true rfl⟩) hX (hP.sub (ws' := (wM ks u M)) [34, 35, 36, 37, 38] rfl) (ci := 4) (q0 := 0) rfl rfl rfl hl.1 rfl (Nat.le_of_ble_eq_true rfl) dL_law_469 ⟨Nat.le_of_ble_eq_true rfl, Nat.le_of_ble_eq_true rfl⟩ (fun _ => ?_)
  exact lv_icmp_eq (tgt := 648) hx hb dL_law_472 (by decide) (fun _ => kk _ _ _ _ _ _ _ _ _ hR1 hP hD hS) (fun w => absurd rfl w)
set_option maxHeartbeats 4000000 in
set_option maxRecDepth 100000 in
theorem op_thicknessFor (hk : 6000 ≤ k) (hx : p.tables.exec = Jvm.exec) (hb : c.code = cL_law) (hml : c.maxLocals = 4) (hts : ∀ w ∈ wsL_law, w.before #[Value.ref b0] s = true) (hown : s.vm.findClass RL = some m.cls) (hX : xK D ks s) (hE : xEset (lA s) s s.heap) (hX0 : va_X b0 L xs s s.heap) (hbl : b0 < s.heap.size) (i1 : vp_in (I + 1) L) (i2 : vp_in (I + 2) L) (i3 : vp_in (I + 3) L) (hR : RS F qz qS T M) (hP : va_P D vwCl (wL ks o a b h t u F G qA qz qS T M) H) (hD : va_D (lA s) (wL ks o a b h t u F G qA qz qS T M)) (hS : va_S (lA s) s.heap H locs) (hl : lv_has ls 4 [(3, .int I), (2, .ref u.1), (1, .ref o), (0, .ref b0)])
    (kk : ∀ (F1 G1 : FD) (A1 : Nat → AF) (z1 : Int32) (S1 : Nat → FD) (T1 : TD) (M1 : MD) (H1 : Heap) (locs1 : List Loc), RS F1 z1 S1 T1 M1 → va_P D vwCl (wL ks o a b h t u F1 G1 A1 z1 S1 T1 M1) H1 → va_D (lA s) (wL ks o a b h t u F1 G1 A1 z1 S1 T1 M1) → va_S (lA s) s.heap H1 locs1 → W p l e room_1 s m #[Value.ref b0] below meth c H1 locs1 39 895 Q (F0 m 648 ls [])) : W p l e room_1 s m #[Value.ref b0] below meth c H locs 39 895 Q (F0 m 477 ls []) := by
  have hA : ∀ q : Nat, s.heap.size ≤ q → lA s q := fun _ h => h
  have hbA : ¬ lA s b0 := Nat.not_le.mpr hbl
  obtain ⟨⟨nn, tt, uu, hf⟩, ⟨hh, -, hz1, hz2, -⟩, ⟨LL, cc, -, hl1, hl2, -⟩⟩ := id hR
  obtain ⟨r, e1, e2⟩ := thickR (k := k) (by omega) hf (xs (I + 1).toNatClampNeg) (xs (I + 2).toNatClampNeg)
  have hR1 := hR
  refine lv_aload_n hx hb dL_law_477 rfl (lv_at hl 2 rfl) ?_
  refine lv_aload_n hx hb dL_law_478 rfl (lv_at hl 3 rfl) ?_
  refine lv_iload_n hx hb dL_law_479 rfl (lv_at hl 0 rfl) ?_
  refine lv_iconst (v := 1) hx hb dL_law_480 (by decide) ?_
  refine lv_iadd hx hb dL_law_481 ?_
  refine va_sld hx hb hX0 hbl hbA hS i1 dL_law_482 ?_
  refine lv_aload_n hx hb dL_law_483 rfl (lv_at hl 3 rfl) ?_
  refine lv_iload_n hx hb dL_law_484 rfl (lv_at hl 0 rfl) ?_
  refine lv_iconst (v := 2) hx hb dL_law_485 (by decide) ?_
  refine lv_iadd hx hb dL_law_486 ?_
  refine va_sld hx hb hX0 hbl hbA hS i2 dL_law_487 ?_
  refine xcallRV (As := [.int (xs (I + 1).toNatClampNeg), .int (xs (I + 2).toNatClampNeg)]) (rest := []) (wc := (wS o a b h t ++ wF ks a F)) ⟨hx, hb, hml, hown, hts⟩ (c_X4_thicknessFor k o a b h t F (xs (I + 1).toNatClampNeg) (xs (I + 2).toNatClampNeg) r e1) (cwV 2 hts gL_law_X4_thicknessFor rfl rfl rfl (by decide +kernel) ⟨Nat.le_of_ble_eq_true rfl, Nat.le_of_ble_eq_true rfl⟩) hX (hP.sub (ws' := (wS o a b h t ++ wF ks a F)) [0, 1, 2, 3, 4] rfl) (ci := 3) (q0 := 0) rfl rfl rfl hl.1 rfl (Nat.le_of_ble_eq_true rfl) dL_law_488 ⟨Nat.le_of_ble_eq_true rfl, Nat.le_of_ble_eq_true rfl⟩ (fun _ => ?_)
  refine lv_aload_n hx hb dL_law_491 rfl (lv_at hl 1 rfl) ?_
  refine lv_aload_n hx hb dL_law_492 rfl (lv_at hl 3 rfl) ?_
  refine lv_iload_n hx hb dL_law_493 rfl (lv_at hl 0 rfl) ?_
  refine lv_iconst (v := 1) hx hb dL_law_494 (by decide) ?_
  refine lv_iadd hx hb dL_law_495 ?_
  refine va_sld hx hb hX0 hbl hbA hS i1 dL_law_496 ?_
  refine lv_aload_n hx hb dL_law_497 rfl (lv_at hl 3 rfl) ?_
  refine lv_iload_n hx hb dL_law_498 rfl (lv_at hl 0 rfl) ?_
  refine lv_iconst (v := 2) hx hb dL_law_499 (by decide) ?_
  refine lv_iadd hx hb dL_law_500 ?_
  refine va_sld hx hb hX0 hbl hbA hS i2 dL_law_501 ?_
  refine xcallRV (As := [.int (xs (I + 1).toNatClampNeg), .int (xs (I + 2).toNatClampNeg)]) (rest := [.int r]) (wc := (wM ks u M)) ⟨hx, hb, hml, hown, hts⟩ (c_X5_thicknessFor k u M (xs (I + 1).toNatClampNeg) (xs (I + 2).toNatClampNeg) r e2) (cwV 2 hts gL_law_X5_thicknessFor rfl rfl rfl (by decide +kernel) ⟨Nat.le_of_ble_eq_true rfl, Nat.le_of_ble_eq_true rfl⟩) hX (hP.sub (ws' := (wM ks u M)) [34, 35, 36, 37, 38] rfl) (ci := 4) (q0 := 0) rfl rfl rfl hl.1 rfl (Nat.le_of_ble_eq_true rfl) dL_law_502 ⟨Nat.le_of_ble_eq_true rfl, Nat.le_of_ble_eq_true rfl⟩ (fun _ => ?_)
  exact lv_icmp_eq (tgt := 648) hx hb dL_law_505 (by decide) (fun _ => kk _ _ _ _ _ _ _ _ _ hR1 hP hD hS) (fun w => absurd rfl w)
set_option maxHeartbeats 4000000 in
set_option maxRecDepth 100000 in
theorem op_until (hk : 6000 ≤ k) (hx : p.tables.exec = Jvm.exec) (hb : c.code = cL_law) (hml : c.maxLocals = 4) (hts : ∀ w ∈ wsL_law, w.before #[Value.ref b0] s = true) (hown : s.vm.findClass RL = some m.cls) (hX : xK D ks s) (hE : xEset (lA s) s s.heap) (hX0 : va_X b0 L xs s s.heap) (hbl : b0 < s.heap.size) (i1 : vp_in (I + 1) L) (i2 : vp_in (I + 2) L) (i3 : vp_in (I + 3) L) (hR : RS F qz qS T M) (hP : va_P D vwCl (wL ks o a b h t u F G qA qz qS T M) H) (hD : va_D (lA s) (wL ks o a b h t u F G qA qz qS T M)) (hS : va_S (lA s) s.heap H locs) (hl : lv_has ls 4 [(3, .int I), (2, .ref u.1), (1, .ref o), (0, .ref b0)])
    (kk : ∀ (F1 G1 : FD) (A1 : Nat → AF) (z1 : Int32) (S1 : Nat → FD) (T1 : TD) (M1 : MD) (H1 : Heap) (locs1 : List Loc), RS F1 z1 S1 T1 M1 → va_P D vwCl (wL ks o a b h t u F1 G1 A1 z1 S1 T1 M1) H1 → va_D (lA s) (wL ks o a b h t u F1 G1 A1 z1 S1 T1 M1) → va_S (lA s) s.heap H1 locs1 → W p l e room_1 s m #[Value.ref b0] below meth c H1 locs1 39 895 Q (F0 m 648 ls [])) : W p l e room_1 s m #[Value.ref b0] below meth c H locs 39 895 Q (F0 m 510 ls []) := by
  have hA : ∀ q : Nat, s.heap.size ≤ q → lA s q := fun _ h => h
  have hbA : ¬ lA s b0 := Nat.not_le.mpr hbl
  obtain ⟨r, G1, M1, e1, e2, hR1⟩ := untilR (k := k) (G := G) (by omega) hR (xs (I + 1).toNatClampNeg) (xs (I + 2).toNatClampNeg)
  refine lv_aload_n hx hb dL_law_510 rfl (lv_at hl 2 rfl) ?_
  refine lv_aload_n hx hb dL_law_511 rfl (lv_at hl 3 rfl) ?_
  refine lv_iload_n hx hb dL_law_512 rfl (lv_at hl 0 rfl) ?_
  refine lv_iconst (v := 1) hx hb dL_law_513 (by decide) ?_
  refine lv_iadd hx hb dL_law_514 ?_
  refine va_sld hx hb hX0 hbl hbA hS i1 dL_law_515 ?_
  refine lv_aload_n hx hb dL_law_516 rfl (lv_at hl 3 rfl) ?_
  refine lv_iload_n hx hb dL_law_517 rfl (lv_at hl 0 rfl) ?_
  refine lv_iconst (v := 2) hx hb dL_law_518 (by decide) ?_
  refine lv_iadd hx hb dL_law_519 ?_
  refine va_sld hx hb hX0 hbl hbA hS i2 dL_law_520 ?_
  refine xcallI (As := [.int (xs (I + 1).toNatClampNeg), .int (xs (I + 2).toNatClampNeg)]) (rest := []) (wc := (wS o a b h t ++ wF ks a F ++ wF ks b G)) (w1 := (wS o a b h t ++ wF ks a F ++ wF ks b G1)) (wr := (wH ks h qA qz qS ++ wT ks t T ++ wM ks u M)) (wn := wL ks o a b h t u F G1 qA qz qS T M) ⟨hx, hb, hml, hown, hts⟩ (c_X4_until k o a b h t F G (xs (I + 1).toNatClampNeg) (xs (I + 2).toNatClampNeg) r G1 e1) (cwV 2 hts gL_law_X4_until rfl rfl rfl (by decide +kernel) ⟨Nat.le_of_ble_eq_true rfl, Nat.le_of_ble_eq_true rfl⟩) hX hP hD hS hA [0, 1, 2, 3, 4, 5, 6, 7, 8] [9, 10, 11, 12, 13, 14, 15, 16, 17, 18, 19, 20, 21, 22, 23, 24, 25, 26, 27, 28, 29, 30, 31, 32, 33, 34, 35, 36, 37, 38] [30, 31, 32, 33, 34, 35, 36, 37, 38, 0, 1, 2, 3, 4, 5, 6, 7, 8, 9, 10, 11, 12, 13, 14, 15, 16, 17, 18, 19, 20, 21, 22, 23, 24, 25, 26, 27, 28, 29] rfl rfl rfl ⟨by decide, by decide, by decide⟩ (by decide) (ci := 3) (q0 := 0) rfl rfl rfl hl.1 rfl (Nat.le_of_ble_eq_true rfl) dL_law_521 ⟨Nat.le_of_ble_eq_true rfl, Nat.le_of_ble_eq_true rfl⟩ (fun _ H locs hP hD hS => ?_)
  refine lv_aload_n hx hb dL_law_524 rfl (lv_at hl 1 rfl) ?_
  refine lv_aload_n hx hb dL_law_525 rfl (lv_at hl 3 rfl) ?_
  refine lv_iload_n hx hb dL_law_526 rfl (lv_at hl 0 rfl) ?_
  refine lv_iconst (v := 1) hx hb dL_law_527 (by decide) ?_
  refine lv_iadd hx hb dL_law_528 ?_
  refine va_sld hx hb hX0 hbl hbA hS i1 dL_law_529 ?_
  refine lv_aload_n hx hb dL_law_530 rfl (lv_at hl 3 rfl) ?_
  refine lv_iload_n hx hb dL_law_531 rfl (lv_at hl 0 rfl) ?_
  refine lv_iconst (v := 2) hx hb dL_law_532 (by decide) ?_
  refine lv_iadd hx hb dL_law_533 ?_
  refine va_sld hx hb hX0 hbl hbA hS i2 dL_law_534 ?_
  refine xcallI (As := [.int (xs (I + 1).toNatClampNeg), .int (xs (I + 2).toNatClampNeg)]) (rest := [.int r]) (wc := (wM ks u M)) (w1 := (wM ks u M1)) (wr := (wS o a b h t ++ wF ks a F ++ wF ks b G1 ++ wH ks h qA qz qS ++ wT ks t T)) (wn := wL ks o a b h t u F G1 qA qz qS T M1) ⟨hx, hb, hml, hown, hts⟩ (c_X5_until k u M (xs (I + 1).toNatClampNeg) (xs (I + 2).toNatClampNeg) r M1 e2) (cwV 2 hts gL_law_X5_until rfl rfl rfl (by decide +kernel) ⟨Nat.le_of_ble_eq_true rfl, Nat.le_of_ble_eq_true rfl⟩) hX hP hD hS hA [34, 35, 36, 37, 38] [0, 1, 2, 3, 4, 5, 6, 7, 8, 9, 10, 11, 12, 13, 14, 15, 16, 17, 18, 19, 20, 21, 22, 23, 24, 25, 26, 27, 28, 29, 30, 31, 32, 33] [0, 1, 2, 3, 4, 5, 6, 7, 8, 9, 10, 11, 12, 13, 14, 15, 16, 17, 18, 19, 20, 21, 22, 23, 24, 25, 26, 27, 28, 29, 30, 31, 32, 33, 34, 35, 36, 37, 38] rfl rfl rfl ⟨by decide, by decide, by decide⟩ (by decide) (ci := 4) (q0 := 0) rfl rfl rfl hl.1 rfl (Nat.le_of_ble_eq_true rfl) dL_law_535 ⟨Nat.le_of_ble_eq_true rfl, Nat.le_of_ble_eq_true rfl⟩ (fun _ H locs hP hD hS => ?_)
  exact lv_icmp_eq (tgt := 648) hx hb dL_law_538 (by decide) (fun _ => kk _ _ _ _ _ _ _ _ _ hR1 hP hD hS) (fun w => absurd rfl w)
set_option maxHeartbeats 4000000 in
set_option maxRecDepth 100000 in
theorem op_ifGo (hk : 6000 ≤ k) (hx : p.tables.exec = Jvm.exec) (hb : c.code = cL_law) (hml : c.maxLocals = 4) (hts : ∀ w ∈ wsL_law, w.before #[Value.ref b0] s = true) (hown : s.vm.findClass RL = some m.cls) (hX : xK D ks s) (hE : xEset (lA s) s s.heap) (hX0 : va_X b0 L xs s s.heap) (hbl : b0 < s.heap.size) (i1 : vp_in (I + 1) L) (i2 : vp_in (I + 2) L) (i3 : vp_in (I + 3) L) (hR : RS F qz qS T M) (hP : va_P D vwCl (wL ks o a b h t u F G qA qz qS T M) H) (hD : va_D (lA s) (wL ks o a b h t u F G qA qz qS T M)) (hS : va_S (lA s) s.heap H locs) (hl : lv_has ls 4 [(3, .int I), (2, .ref u.1), (1, .ref o), (0, .ref b0)])
    (kk : ∀ (F1 G1 : FD) (A1 : Nat → AF) (z1 : Int32) (S1 : Nat → FD) (T1 : TD) (M1 : MD) (H1 : Heap) (locs1 : List Loc), RS F1 z1 S1 T1 M1 → va_P D vwCl (wL ks o a b h t u F1 G1 A1 z1 S1 T1 M1) H1 → va_D (lA s) (wL ks o a b h t u F1 G1 A1 z1 S1 T1 M1) → va_S (lA s) s.heap H1 locs1 → W p l e room_1 s m #[Value.ref b0] below meth c H1 locs1 39 895 Q (F0 m 648 ls [])) : W p l e room_1 s m #[Value.ref b0] below meth c H locs 39 895 Q (F0 m 543 ls []) := by
  have hA : ∀ q : Nat, s.heap.size ≤ q → lA s q := fun _ h => h
  have hbA : ¬ lA s b0 := Nat.not_le.mpr hbl
  obtain ⟨r, G1, M1, e1, e2, hR1⟩ := ifR (k := k) (G := G) (by omega) hR (xs (I + 1).toNatClampNeg) (xs (I + 2).toNatClampNeg)
  refine lv_aload_n hx hb dL_law_543 rfl (lv_at hl 2 rfl) ?_
  refine lv_aload_n hx hb dL_law_544 rfl (lv_at hl 3 rfl) ?_
  refine lv_iload_n hx hb dL_law_545 rfl (lv_at hl 0 rfl) ?_
  refine lv_iconst (v := 1) hx hb dL_law_546 (by decide) ?_
  refine lv_iadd hx hb dL_law_547 ?_
  refine va_sld hx hb hX0 hbl hbA hS i1 dL_law_548 ?_
  refine lv_aload_n hx hb dL_law_549 rfl (lv_at hl 3 rfl) ?_
  refine lv_iload_n hx hb dL_law_550 rfl (lv_at hl 0 rfl) ?_
  refine lv_iconst (v := 2) hx hb dL_law_551 (by decide) ?_
  refine lv_iadd hx hb dL_law_552 ?_
  refine va_sld hx hb hX0 hbl hbA hS i2 dL_law_553 ?_
  refine xcallI (As := [.int (xs (I + 1).toNatClampNeg), .int (xs (I + 2).toNatClampNeg)]) (rest := []) (wc := (wS o a b h t ++ wF ks a F ++ wF ks b G)) (w1 := (wS o a b h t ++ wF ks a F ++ wF ks b G1)) (wr := (wH ks h qA qz qS ++ wT ks t T ++ wM ks u M)) (wn := wL ks o a b h t u F G1 qA qz qS T M) ⟨hx, hb, hml, hown, hts⟩ (c_X4_ifGo k o a b h t F G (xs (I + 1).toNatClampNeg) (xs (I + 2).toNatClampNeg) r G1 e1) (cwV 2 hts gL_law_X4_ifGo rfl rfl rfl (by decide +kernel) ⟨Nat.le_of_ble_eq_true rfl, Nat.le_of_ble_eq_true rfl⟩) hX hP hD hS hA [0, 1, 2, 3, 4, 5, 6, 7, 8] [9, 10, 11, 12, 13, 14, 15, 16, 17, 18, 19, 20, 21, 22, 23, 24, 25, 26, 27, 28, 29, 30, 31, 32, 33, 34, 35, 36, 37, 38] [30, 31, 32, 33, 34, 35, 36, 37, 38, 0, 1, 2, 3, 4, 5, 6, 7, 8, 9, 10, 11, 12, 13, 14, 15, 16, 17, 18, 19, 20, 21, 22, 23, 24, 25, 26, 27, 28, 29] rfl rfl rfl ⟨by decide, by decide, by decide⟩ (by decide) (ci := 3) (q0 := 0) rfl rfl rfl hl.1 rfl (Nat.le_of_ble_eq_true rfl) dL_law_554 ⟨Nat.le_of_ble_eq_true rfl, Nat.le_of_ble_eq_true rfl⟩ (fun _ H locs hP hD hS => ?_)
  refine lv_aload_n hx hb dL_law_557 rfl (lv_at hl 1 rfl) ?_
  refine lv_aload_n hx hb dL_law_558 rfl (lv_at hl 3 rfl) ?_
  refine lv_iload_n hx hb dL_law_559 rfl (lv_at hl 0 rfl) ?_
  refine lv_iconst (v := 1) hx hb dL_law_560 (by decide) ?_
  refine lv_iadd hx hb dL_law_561 ?_
  refine va_sld hx hb hX0 hbl hbA hS i1 dL_law_562 ?_
  refine lv_aload_n hx hb dL_law_563 rfl (lv_at hl 3 rfl) ?_
  refine lv_iload_n hx hb dL_law_564 rfl (lv_at hl 0 rfl) ?_
  refine lv_iconst (v := 2) hx hb dL_law_565 (by decide) ?_
  refine lv_iadd hx hb dL_law_566 ?_
  refine va_sld hx hb hX0 hbl hbA hS i2 dL_law_567 ?_
  refine xcallI (As := [.int (xs (I + 1).toNatClampNeg), .int (xs (I + 2).toNatClampNeg)]) (rest := [.int r]) (wc := (wM ks u M)) (w1 := (wM ks u M1)) (wr := (wS o a b h t ++ wF ks a F ++ wF ks b G1 ++ wH ks h qA qz qS ++ wT ks t T)) (wn := wL ks o a b h t u F G1 qA qz qS T M1) ⟨hx, hb, hml, hown, hts⟩ (c_X5_ifGo k u M (xs (I + 1).toNatClampNeg) (xs (I + 2).toNatClampNeg) r M1 e2) (cwV 2 hts gL_law_X5_ifGo rfl rfl rfl (by decide +kernel) ⟨Nat.le_of_ble_eq_true rfl, Nat.le_of_ble_eq_true rfl⟩) hX hP hD hS hA [34, 35, 36, 37, 38] [0, 1, 2, 3, 4, 5, 6, 7, 8, 9, 10, 11, 12, 13, 14, 15, 16, 17, 18, 19, 20, 21, 22, 23, 24, 25, 26, 27, 28, 29, 30, 31, 32, 33] [0, 1, 2, 3, 4, 5, 6, 7, 8, 9, 10, 11, 12, 13, 14, 15, 16, 17, 18, 19, 20, 21, 22, 23, 24, 25, 26, 27, 28, 29, 30, 31, 32, 33, 34, 35, 36, 37, 38] rfl rfl rfl ⟨by decide, by decide, by decide⟩ (by decide) (ci := 4) (q0 := 0) rfl rfl rfl hl.1 rfl (Nat.le_of_ble_eq_true rfl) dL_law_568 ⟨Nat.le_of_ble_eq_true rfl, Nat.le_of_ble_eq_true rfl⟩ (fun _ H locs hP hD hS => ?_)
  exact lv_icmp_eq (tgt := 648) hx hb dL_law_571 (by decide) (fun _ => kk _ _ _ _ _ _ _ _ _ hR1 hP hD hS) (fun w => absurd rfl w)
set_option maxHeartbeats 4000000 in
set_option maxRecDepth 100000 in
theorem op_type (hk : 6000 ≤ k) (hx : p.tables.exec = Jvm.exec) (hb : c.code = cL_law) (hml : c.maxLocals = 4) (hts : ∀ w ∈ wsL_law, w.before #[Value.ref b0] s = true) (hown : s.vm.findClass RL = some m.cls) (hX : xK D ks s) (hE : xEset (lA s) s s.heap) (hX0 : va_X b0 L xs s s.heap) (hbl : b0 < s.heap.size) (i1 : vp_in (I + 1) L) (i2 : vp_in (I + 2) L) (i3 : vp_in (I + 3) L) (hR : RS F qz qS T M) (hP : va_P D vwCl (wL ks o a b h t u F G qA qz qS T M) H) (hD : va_D (lA s) (wL ks o a b h t u F G qA qz qS T M)) (hS : va_S (lA s) s.heap H locs) (hl : lv_has ls 4 [(3, .int I), (2, .ref u.1), (1, .ref o), (0, .ref b0)])
    (kk : ∀ (F1 G1 : FD) (A1 : Nat → AF) (z1 : Int32) (S1 : Nat → FD) (T1 : TD) (M1 : MD) (H1 : Heap) (locs1 : List Loc), RS F1 z1 S1 T1 M1 → va_P D vwCl (wL ks o a b h t u F1 G1 A1 z1 S1 T1 M1) H1 → va_D (lA s) (wL ks o a b h t u F1 G1 A1 z1 S1 T1 M1) → va_S (lA s) s.heap H1 locs1 → W p l e room_1 s m #[Value.ref b0] below meth c H1 locs1 39 895 Q (F0 m 648 ls [])) : W p l e room_1 s m #[Value.ref b0] below meth c H locs 39 895 Q (F0 m 576 ls []) := by
  have hA : ∀ q : Nat, s.heap.size ≤ q → lA s q := fun _ h => h
  have hbA : ¬ lA s b0 := Nat.not_le.mpr hbl
  obtain ⟨r, T1, M1, e1, e2, hR1⟩ := typeR (k := k) hR (xs (I + 1).toNatClampNeg)
  refine lv_aload_n hx hb dL_law_576 rfl (lv_at hl 2 rfl) ?_
  refine lv_aload_n hx hb dL_law_577 rfl (lv_at hl 3 rfl) ?_
  refine lv_iload_n hx hb dL_law_578 rfl (lv_at hl 0 rfl) ?_
  refine lv_iconst (v := 1) hx hb dL_law_579 (by decide) ?_
  refine lv_iadd hx hb dL_law_580 ?_
  refine va_sld hx hb hX0 hbl hbA hS i1 dL_law_581 ?_
  refine xcallI (As := [.int (xs (I + 1).toNatClampNeg)]) (rest := []) (wc := (wS o a b h t ++ wT ks t T)) (w1 := (wS o a b h t ++ wT ks t T1)) (wr := (wF ks a F ++ wF ks b G ++ wH ks h qA qz qS ++ wM ks u M)) (wn := wL ks o a b h t u F G qA qz qS T1 M) ⟨hx, hb, hml, hown, hts⟩ (c_X4_type k o a b h t T (xs (I + 1).toNatClampNeg) r T1 e1) (cwV 1 hts gL_law_X4_type rfl rfl rfl (by decide +kernel) ⟨Nat.le_of_ble_eq_true rfl, Nat.le_of_ble_eq_true rfl⟩) hX hP hD hS hA [0, 31, 32, 33] [1, 2, 3, 4, 5, 6, 7, 8, 9, 10, 11, 12, 13, 14, 15, 16, 17, 18, 19, 20, 21, 22, 23, 24, 25, 26, 27, 28, 29, 30, 34, 35, 36, 37, 38] [35, 0, 1, 2, 3, 4, 5, 6, 7, 8, 9, 10, 11, 12, 13, 14, 15, 16, 17, 18, 19, 20, 21, 22, 23, 24, 25, 26, 27, 28, 29, 36, 37, 38, 30, 31, 32, 33, 34] rfl rfl rfl ⟨by decide, by decide, by decide⟩ (by decide) (ci := 3) (q0 := 0) rfl rfl rfl hl.1 rfl (Nat.le_of_ble_eq_true rfl) dL_law_582 ⟨Nat.le_of_ble_eq_true rfl, Nat.le_of_ble_eq_true rfl⟩ (fun _ H locs hP hD hS => ?_)
  refine lv_aload_n hx hb dL_law_585 rfl (lv_at hl 1 rfl) ?_
  refine lv_aload_n hx hb dL_law_586 rfl (lv_at hl 3 rfl) ?_
  refine lv_iload_n hx hb dL_law_587 rfl (lv_at hl 0 rfl) ?_
  refine lv_iconst (v := 1) hx hb dL_law_588 (by decide) ?_
  refine lv_iadd hx hb dL_law_589 ?_
  refine va_sld hx hb hX0 hbl hbA hS i1 dL_law_590 ?_
  refine xcallI (As := [.int (xs (I + 1).toNatClampNeg)]) (rest := [.int r]) (wc := (wM ks u M)) (w1 := (wM ks u M1)) (wr := (wS o a b h t ++ wF ks a F ++ wF ks b G ++ wH ks h qA qz qS ++ wT ks t T1)) (wn := wL ks o a b h t u F G qA qz qS T1 M1) ⟨hx, hb, hml, hown, hts⟩ (c_X5_type k u M (xs (I + 1).toNatClampNeg) r M1 e2) (cwV 1 hts gL_law_X5_type rfl rfl rfl (by decide +kernel) ⟨Nat.le_of_ble_eq_true rfl, Nat.le_of_ble_eq_true rfl⟩) hX hP hD hS hA [34, 35, 36, 37, 38] [0, 1, 2, 3, 4, 5, 6, 7, 8, 9, 10, 11, 12, 13, 14, 15, 16, 17, 18, 19, 20, 21, 22, 23, 24, 25, 26, 27, 28, 29, 30, 31, 32, 33] [0, 1, 2, 3, 4, 5, 6, 7, 8, 9, 10, 11, 12, 13, 14, 15, 16, 17, 18, 19, 20, 21, 22, 23, 24, 25, 26, 27, 28, 29, 30, 31, 32, 33, 34, 35, 36, 37, 38] rfl rfl rfl ⟨by decide, by decide, by decide⟩ (by decide) (ci := 4) (q0 := 0) rfl rfl rfl hl.1 rfl (Nat.le_of_ble_eq_true rfl) dL_law_591 ⟨Nat.le_of_ble_eq_true rfl, Nat.le_of_ble_eq_true rfl⟩ (fun _ H locs hP hD hS => ?_)
  exact lv_icmp_eq (tgt := 648) hx hb dL_law_594 (by decide) (fun _ => kk _ _ _ _ _ _ _ _ _ hR1 hP hD hS) (fun w => absurd rfl w)
set_option maxHeartbeats 4000000 in
set_option maxRecDepth 100000 in
theorem op_clearText (hk : 6000 ≤ k) (hx : p.tables.exec = Jvm.exec) (hb : c.code = cL_law) (hml : c.maxLocals = 4) (hts : ∀ w ∈ wsL_law, w.before #[Value.ref b0] s = true) (hown : s.vm.findClass RL = some m.cls) (hX : xK D ks s) (hE : xEset (lA s) s s.heap) (hX0 : va_X b0 L xs s s.heap) (hbl : b0 < s.heap.size) (i1 : vp_in (I + 1) L) (i2 : vp_in (I + 2) L) (i3 : vp_in (I + 3) L) (hR : RS F qz qS T M) (hP : va_P D vwCl (wL ks o a b h t u F G qA qz qS T M) H) (hD : va_D (lA s) (wL ks o a b h t u F G qA qz qS T M)) (hS : va_S (lA s) s.heap H locs) (hl : lv_has ls 4 [(3, .int I), (2, .ref u.1), (1, .ref o), (0, .ref b0)])
    (kk : ∀ (F1 G1 : FD) (A1 : Nat → AF) (z1 : Int32) (S1 : Nat → FD) (T1 : TD) (M1 : MD) (H1 : Heap) (locs1 : List Loc), RS F1 z1 S1 T1 M1 → va_P D vwCl (wL ks o a b h t u F1 G1 A1 z1 S1 T1 M1) H1 → va_D (lA s) (wL ks o a b h t u F1 G1 A1 z1 S1 T1 M1) → va_S (lA s) s.heap H1 locs1 → W p l e room_1 s m #[Value.ref b0] below meth c H1 locs1 39 895 Q (F0 m 648 ls [])) : W p l e room_1 s m #[Value.ref b0] below meth c H locs 39 895 Q (F0 m 599 ls []) := by
  have hA : ∀ q : Nat, s.heap.size ≤ q → lA s q := fun _ h => h
  have hbA : ¬ lA s b0 := Nat.not_le.mpr hbl
  obtain ⟨r, T1, M1, e1, e2, hR1⟩ := clearR (k := k) hR 
  refine lv_aload_n hx hb dL_law_599 rfl (lv_at hl 2 rfl) ?_
  refine xcallI (As := []) (rest := []) (wc := (wS o a b h t ++ wT ks t T)) (w1 := (wS o a b h t ++ wT ks t T1)) (wr := (wF ks a F ++ wF ks b G ++ wH ks h qA qz qS ++ wM ks u M)) (wn := wL ks o a b h t u F G qA qz qS T1 M) ⟨hx, hb, hml, hown, hts⟩ (c_X4_clearText k o a b h t T  r T1 e1) (cwV 0 hts gL_law_X4_clearText rfl rfl rfl (by decide +kernel) ⟨Nat.le_of_ble_eq_true rfl, Nat.le_of_ble_eq_true rfl⟩) hX hP hD hS hA [0, 31, 32, 33] [1, 2, 3, 4, 5, 6, 7, 8, 9, 10, 11, 12, 13, 14, 15, 16, 17, 18, 19, 20, 21, 22, 23, 24, 25, 26, 27, 28, 29, 30, 34, 35, 36, 37, 38] [35, 0, 1, 2, 3, 4, 5, 6, 7, 8, 9, 10, 11, 12, 13, 14, 15, 16, 17, 18, 19, 20, 21, 22, 23, 24, 25, 26, 27, 28, 29, 36, 37, 38, 30, 31, 32, 33, 34] rfl rfl rfl ⟨by decide, by decide, by decide⟩ (by decide) (ci := 3) (q0 := 0) rfl rfl rfl hl.1 rfl (Nat.le_of_ble_eq_true rfl) dL_law_600 ⟨Nat.le_of_ble_eq_true rfl, Nat.le_of_ble_eq_true rfl⟩ (fun _ H locs hP hD hS => ?_)
  refine lv_aload_n hx hb dL_law_603 rfl (lv_at hl 1 rfl) ?_
  refine xcallI (As := []) (rest := [.int r]) (wc := (wM ks u M)) (w1 := (wM ks u M1)) (wr := (wS o a b h t ++ wF ks a F ++ wF ks b G ++ wH ks h qA qz qS ++ wT ks t T1)) (wn := wL ks o a b h t u F G qA qz qS T1 M1) ⟨hx, hb, hml, hown, hts⟩ (c_X5_clearText k u M  r M1 e2) (cwV 0 hts gL_law_X5_clearText rfl rfl rfl (by decide +kernel) ⟨Nat.le_of_ble_eq_true rfl, Nat.le_of_ble_eq_true rfl⟩) hX hP hD hS hA [34, 35, 36, 37, 38] [0, 1, 2, 3, 4, 5, 6, 7, 8, 9, 10, 11, 12, 13, 14, 15, 16, 17, 18, 19, 20, 21, 22, 23, 24, 25, 26, 27, 28, 29, 30, 31, 32, 33] [0, 1, 2, 3, 4, 5, 6, 7, 8, 9, 10, 11, 12, 13, 14, 15, 16, 17, 18, 19, 20, 21, 22, 23, 24, 25, 26, 27, 28, 29, 30, 31, 32, 33, 34, 35, 36, 37, 38] rfl rfl rfl ⟨by decide, by decide, by decide⟩ (by decide) (ci := 4) (q0 := 0) rfl rfl rfl hl.1 rfl (Nat.le_of_ble_eq_true rfl) dL_law_604 ⟨Nat.le_of_ble_eq_true rfl, Nat.le_of_ble_eq_true rfl⟩ (fun _ H locs hP hD hS => ?_)
  exact lv_icmp_eq (tgt := 648) hx hb dL_law_607 (by decide) (fun _ => kk _ _ _ _ _ _ _ _ _ hR1 hP hD hS) (fun w => absurd rfl w)
set_option maxHeartbeats 4000000 in
set_option maxRecDepth 100000 in
theorem op_fault (hk : 6000 ≤ k) (hx : p.tables.exec = Jvm.exec) (hb : c.code = cL_law) (hml : c.maxLocals = 4) (hts : ∀ w ∈ wsL_law, w.before #[Value.ref b0] s = true) (hown : s.vm.findClass RL = some m.cls) (hX : xK D ks s) (hE : xEset (lA s) s s.heap) (hX0 : va_X b0 L xs s s.heap) (hbl : b0 < s.heap.size) (i1 : vp_in (I + 1) L) (i2 : vp_in (I + 2) L) (i3 : vp_in (I + 3) L) (hR : RS F qz qS T M) (hP : va_P D vwCl (wL ks o a b h t u F G qA qz qS T M) H) (hD : va_D (lA s) (wL ks o a b h t u F G qA qz qS T M)) (hS : va_S (lA s) s.heap H locs) (hl : lv_has ls 4 [(3, .int I), (2, .ref u.1), (1, .ref o), (0, .ref b0)])
    (kk : ∀ (F1 G1 : FD) (A1 : Nat → AF) (z1 : Int32) (S1 : Nat → FD) (T1 : TD) (M1 : MD) (H1 : Heap) (locs1 : List Loc), RS F1 z1 S1 T1 M1 → va_P D vwCl (wL ks o a b h t u F1 G1 A1 z1 S1 T1 M1) H1 → va_D (lA s) (wL ks o a b h t u F1 G1 A1 z1 S1 T1 M1) → va_S (lA s) s.heap H1 locs1 → W p l e room_1 s m #[Value.ref b0] below meth c H1 locs1 39 895 Q (F0 m 648 ls [])) : W p l e room_1 s m #[Value.ref b0] below meth c H locs 39 895 Q (F0 m 612 ls []) := by
  have hA : ∀ q : Nat, s.heap.size ≤ q → lA s q := fun _ h => h
  have hbA : ¬ lA s b0 := Nat.not_le.mpr hbl
  obtain ⟨r, T1, M1, e1, e2, hR1⟩ := faultR (k := k) (by omega) hR (xs (I + 1).toNatClampNeg)
  refine lv_aload_n hx hb dL_law_612 rfl (lv_at hl 2 rfl) ?_
  refine lv_aload_n hx hb dL_law_613 rfl (lv_at hl 3 rfl) ?_
  refine lv_iload_n hx hb dL_law_614 rfl (lv_at hl 0 rfl) ?_
  refine lv_iconst (v := 1) hx hb dL_law_615 (by decide) ?_
  refine lv_iadd hx hb dL_law_616 ?_
  refine va_sld hx hb hX0 hbl hbA hS i1 dL_law_617 ?_
  refine xcallI (As := [.int (xs (I + 1).toNatClampNeg)]) (rest := []) (wc := (wS o a b h t ++ wT ks t T)) (w1 := (wS o a b h t ++ wT ks t T1)) (wr := (wF ks a F ++ wF ks b G ++ wH ks h qA qz qS ++ wM ks u M)) (wn := wL ks o a b h t u F G qA qz qS T1 M) ⟨hx, hb, hml, hown, hts⟩ (c_X4_fault k o a b h t T (xs (I + 1).toNatClampNeg) r T1 e1) (cwV 1 hts gL_law_X4_fault rfl rfl rfl (by decide +kernel) ⟨Nat.le_of_ble_eq_true rfl, Nat.le_of_ble_eq_true rfl⟩) hX hP hD hS hA [0, 31, 32, 33] [1, 2, 3, 4, 5, 6, 7, 8, 9, 10, 11, 12, 13, 14, 15, 16, 17, 18, 19, 20, 21, 22, 23, 24, 25, 26, 27, 28, 29, 30, 34, 35, 36, 37, 38] [35, 0, 1, 2, 3, 4, 5, 6, 7, 8, 9, 10, 11, 12, 13, 14, 15, 16, 17, 18, 19, 20, 21, 22, 23, 24, 25, 26, 27, 28, 29, 36, 37, 38, 30, 31, 32, 33, 34] rfl rfl rfl ⟨by decide, by decide, by decide⟩ (by decide) (ci := 3) (q0 := 0) rfl rfl rfl hl.1 rfl (Nat.le_of_ble_eq_true rfl) dL_law_618 ⟨Nat.le_of_ble_eq_true rfl, Nat.le_of_ble_eq_true rfl⟩ (fun _ H locs hP hD hS => ?_)
  refine lv_aload_n hx hb dL_law_621 rfl (lv_at hl 1 rfl) ?_
  refine lv_aload_n hx hb dL_law_622 rfl (lv_at hl 3 rfl) ?_
  refine lv_iload_n hx hb dL_law_623 rfl (lv_at hl 0 rfl) ?_
  refine lv_iconst (v := 1) hx hb dL_law_624 (by decide) ?_
  refine lv_iadd hx hb dL_law_625 ?_
  refine va_sld hx hb hX0 hbl hbA hS i1 dL_law_626 ?_
  refine xcallI (As := [.int (xs (I + 1).toNatClampNeg)]) (rest := [.int r]) (wc := (wM ks u M)) (w1 := (wM ks u M1)) (wr := (wS o a b h t ++ wF ks a F ++ wF ks b G ++ wH ks h qA qz qS ++ wT ks t T1)) (wn := wL ks o a b h t u F G qA qz qS T1 M1) ⟨hx, hb, hml, hown, hts⟩ (c_X5_fault k u M (xs (I + 1).toNatClampNeg) r M1 e2) (cwV 1 hts gL_law_X5_fault rfl rfl rfl (by decide +kernel) ⟨Nat.le_of_ble_eq_true rfl, Nat.le_of_ble_eq_true rfl⟩) hX hP hD hS hA [34, 35, 36, 37, 38] [0, 1, 2, 3, 4, 5, 6, 7, 8, 9, 10, 11, 12, 13, 14, 15, 16, 17, 18, 19, 20, 21, 22, 23, 24, 25, 26, 27, 28, 29, 30, 31, 32, 33] [0, 1, 2, 3, 4, 5, 6, 7, 8, 9, 10, 11, 12, 13, 14, 15, 16, 17, 18, 19, 20, 21, 22, 23, 24, 25, 26, 27, 28, 29, 30, 31, 32, 33, 34, 35, 36, 37, 38] rfl rfl rfl ⟨by decide, by decide, by decide⟩ (by decide) (ci := 4) (q0 := 0) rfl rfl rfl hl.1 rfl (Nat.le_of_ble_eq_true rfl) dL_law_627 ⟨Nat.le_of_ble_eq_true rfl, Nat.le_of_ble_eq_true rfl⟩ (fun _ H locs hP hD hS => ?_)
  exact lv_icmp_eq (tgt := 648) hx hb dL_law_630 (by decide) (fun _ => kk _ _ _ _ _ _ _ _ _ hR1 hP hD hS) (fun w => absurd rfl w)
set_option maxHeartbeats 4000000 in
set_option maxRecDepth 100000 in
theorem op_read (hk : 6000 ≤ k) (hx : p.tables.exec = Jvm.exec) (hb : c.code = cL_law) (hml : c.maxLocals = 4) (hts : ∀ w ∈ wsL_law, w.before #[Value.ref b0] s = true) (hown : s.vm.findClass RL = some m.cls) (hX : xK D ks s) (hE : xEset (lA s) s s.heap) (hX0 : va_X b0 L xs s s.heap) (hbl : b0 < s.heap.size) (i1 : vp_in (I + 1) L) (i2 : vp_in (I + 2) L) (i3 : vp_in (I + 3) L) (hR : RS F qz qS T M) (hP : va_P D vwCl (wL ks o a b h t u F G qA qz qS T M) H) (hD : va_D (lA s) (wL ks o a b h t u F G qA qz qS T M)) (hS : va_S (lA s) s.heap H locs) (hl : lv_has ls 4 [(3, .int I), (2, .ref u.1), (1, .ref o), (0, .ref b0)])
    (kk : ∀ (F1 G1 : FD) (A1 : Nat → AF) (z1 : Int32) (S1 : Nat → FD) (T1 : TD) (M1 : MD) (H1 : Heap) (locs1 : List Loc), RS F1 z1 S1 T1 M1 → va_P D vwCl (wL ks o a b h t u F1 G1 A1 z1 S1 T1 M1) H1 → va_D (lA s) (wL ks o a b h t u F1 G1 A1 z1 S1 T1 M1) → va_S (lA s) s.heap H1 locs1 → W p l e room_1 s m #[Value.ref b0] below meth c H1 locs1 39 895 Q (F0 m 648 ls [])) : W p l e room_1 s m #[Value.ref b0] below meth c H locs 39 895 Q (F0 m 635 ls []) := by
  have hA : ∀ q : Nat, s.heap.size ≤ q → lA s q := fun _ h => h
  have hbA : ¬ lA s b0 := Nat.not_le.mpr hbl
  obtain ⟨r, F1, A1, z1, S1, T1, M1, e1, e2, hR1⟩ := readR (k := k) (qA := qA) (by omega) hR
  refine lv_aload_n hx hb dL_law_635 rfl (lv_at hl 2 rfl) ?_
  refine xcallI (As := []) (rest := []) (wc := (wS o a b h t ++ wF ks a F ++ wH ks h qA qz qS ++ wT ks t T)) (w1 := (wS o a b h t ++ wF ks a F1 ++ wH ks h A1 z1 S1 ++ wT ks t T1)) (wr := (wF ks b G ++ wM ks u M)) (wn := wL ks o a b h t u F1 G A1 z1 S1 T1 M) ⟨hx, hb, hml, hown, hts⟩ (c_X4_read k o a b h t F qA qz qS T r F1 A1 z1 S1 T1 e1) (cwV 0 hts gL_law_X4_read rfl rfl rfl (by decide +kernel) ⟨Nat.le_of_ble_eq_true rfl, Nat.le_of_ble_eq_true rfl⟩) hX hP hD hS hA [0, 1, 2, 3, 4, 9, 10, 11, 12, 13, 14, 15, 16, 17, 18, 19, 20, 21, 22, 23, 24, 25, 26, 27, 28, 29, 30, 31, 32, 33] [5, 6, 7, 8, 34, 35, 36, 37, 38] [9, 10, 11, 12, 13, 0, 1, 2, 3, 14, 15, 16, 17, 18, 19, 20, 21, 22, 23, 24, 25, 26, 27, 28, 29, 30, 31, 32, 33, 34, 35, 36, 37, 38, 4, 5, 6, 7, 8] rfl rfl rfl ⟨by decide, by decide, by decide⟩ (by decide) (ci := 3) (q0 := 0) rfl rfl rfl hl.1 rfl (Nat.le_of_ble_eq_true rfl) dL_law_636 ⟨Nat.le_of_ble_eq_true rfl, Nat.le_of_ble_eq_true rfl⟩ (fun _ H locs hP hD hS => ?_)
  refine lv_aload_n hx hb dL_law_639 rfl (lv_at hl 1 rfl) ?_
  refine xcallI (As := []) (rest := [.int r]) (wc := (wM ks u M)) (w1 := (wM ks u M1)) (wr := (wS o a b h t ++ wF ks a F1 ++ wF ks b G ++ wH ks h A1 z1 S1 ++ wT ks t T1)) (wn := wL ks o a b h t u F1 G A1 z1 S1 T1 M1) ⟨hx, hb, hml, hown, hts⟩ (c_X5_read k u M  r M1 e2) (cwV 0 hts gL_law_X5_read rfl rfl rfl (by decide +kernel) ⟨Nat.le_of_ble_eq_true rfl, Nat.le_of_ble_eq_true rfl⟩) hX hP hD hS hA [34, 35, 36, 37, 38] [0, 1, 2, 3, 4, 5, 6, 7, 8, 9, 10, 11, 12, 13, 14, 15, 16, 17, 18, 19, 20, 21, 22, 23, 24, 25, 26, 27, 28, 29, 30, 31, 32, 33] [0, 1, 2, 3, 4, 5, 6, 7, 8, 9, 10, 11, 12, 13, 14, 15, 16, 17, 18, 19, 20, 21, 22, 23, 24, 25, 26, 27, 28, 29, 30, 31, 32, 33, 34, 35, 36, 37, 38] rfl rfl rfl ⟨by decide, by decide, by decide⟩ (by decide) (ci := 4) (q0 := 0) rfl rfl rfl hl.1 rfl (Nat.le_of_ble_eq_true rfl) dL_law_640 ⟨Nat.le_of_ble_eq_true rfl, Nat.le_of_ble_eq_true rfl⟩ (fun _ H locs hP hD hS => ?_)
  exact lv_icmp_eq (tgt := 648) hx hb dL_law_643 (by decide) (fun _ => kk _ _ _ _ _ _ _ _ _ hR1 hP hD hS) (fun w => absurd rfl w)
end LAWO
