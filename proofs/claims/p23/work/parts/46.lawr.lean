/-! p23: rows for the law's own steps: the script, parts of its numbers, the row of digests. -/
set_option maxHeartbeats 4000000 in
set_option maxRecDepth 100000 in
theorem c_L_take {l : Launch} {b0 L : Nat} {xs : Nat → Int32} {j : Nat} (hL : L ≤ 2048) (hj : j < 1000) : Met l yL_take wsL_take { frames := 0, cells := 0, slots := 0, locals := 0 } (va_Pc [.ref b0, .int (nI j)] (fun U => va_X b0 L xs U U.heap ∧ b0 < U.heap.size)) (vp_Si (fun _ => True)) 0 0 (fun _ => False) := by
  refine Met.ofW (cc := cL_take) (maxL := 2) (ret := some .int) (by decide +kernel) rfl ?_
  intro p e s m args below meth c s₁ B hml hv
  obtain ⟨rfl, hX0, hbl⟩ := hv
  have hlocks := B.notSynchronized
  rw [lg_entry_eq]
  have hx := B.exec
  have hb := B.bytes
  have hts := atoms_spec (ws := wsL_take) B.pre
  have hown := findClass_of_methodNamed B.named
  have hl := lv_entry [.ref b0, .int (nI j)] (n := 2) (Nat.le_of_ble_eq_true rfl)
  generalize (lg_sl ([.ref b0, .int (nI j)]) ++ List.replicate (2 - (lg_sl ([.ref b0, .int (nI j)])).length) Slot.unset).toArray = ls at hl ⊢
  have hl : lv_has ls 2 [(0, .ref b0), (1, .int (nI j))] := hl
  have hS : va_S (fun _ => False) s.heap s.heap [] := va_S.rf
  have fin : ∀ (v : Int32) (ls : Array Slot), W p l e { frames := 0, cells := 0, slots := 0, locals := 0 } s m ([.ref b0, .int (nI j)] : List Value).toArray below meth c s.heap [] 0 0 (MQ below (vp_Si fun _ => True) ([.ref b0, .int (nI j)] : List Value).toArray s 0 0 fun _ => False) (F0 m 39 ls [.int v]) := fun v ls => W.zret (v := v) (ty := .int) B.exec B.bytes B.returns rfl (fun t ht hW => ⟨v, rfl, trivial, ht⟩) (fun q hq => by cases hq) dL_take_39
  refine lv_aload_n hx hb dL_take_0 rfl (lv_at hl 0 rfl) ?_
  refine va_slen hx hb hX0 hbl (fun h => h) hS dL_take_1 ?_
  refine lv_if_ne (tgt := 15) hx hb dL_take_2 (by decide) (fun h0 => ?_) (fun _ => ?_)
  · have h0 : ¬ nI L = 0 := h0
    have hL0 : 0 < L := Nat.pos_of_ne_zero (fun w => h0 (by rw [w]; rfl))
    have hin : vp_in (nI j - nI j / nI L * nI L) L := by
      rw [pk_rem (by omega) hL0 (by omega)]
      exact nI_in (Nat.mod_lt j hL0) (by omega)
    refine lv_aload_n hx hb dL_take_15 rfl (lv_at hl 0 rfl) ?_
    refine lv_iload_n hx hb dL_take_16 rfl (lv_at hl 1 rfl) ?_
    refine lv_aload_n hx hb dL_take_17 rfl (lv_at hl 0 rfl) ?_
    refine va_slen hx hb hX0 hbl (fun h => h) hS dL_take_18 ?_
    refine lv_irem hx hb dL_take_19 h0 ?_
    refine va_sld hx hb hX0 hbl (fun h => h) hS hin dL_take_20 ?_
    refine lv_iload_n hx hb dL_take_21 rfl (lv_at hl 1 rfl) ?_
    refine lv_bipush (v := 7) hx hb dL_take_22 (by decide) ?_
    refine lv_irem hx hb dL_take_24 (by decide) ?_
    refine xx_ishr hx hb dL_take_25 ?_
    refine lv_iload_n hx hb dL_take_26 rfl (lv_at hl 1 rfl) ?_
    refine lv_aload_n hx hb dL_take_27 rfl (lv_at hl 0 rfl) ?_
    refine va_slen hx hb hX0 hbl (fun h => h) hS dL_take_28 ?_
    refine lv_idiv hx hb dL_take_29 h0 ?_
    refine lv_bipush (v := 31) hx hb dL_take_30 (by decide) ?_
    refine lv_imul hx hb dL_take_32 ?_
    refine lv_ixor hx hb dL_take_33 ?_
    refine lv_iload_n hx hb dL_take_34 rfl (lv_at hl 1 rfl) ?_
    refine lv_ldc (v := 2654435) hx hb hown (hts (.constant RL 8 (2654435)) (by decide +kernel)) dL_take_35 ?_
    refine lv_imul hx hb dL_take_37 ?_
    refine lv_ixor hx hb dL_take_38 ?_
    exact fin _ ls
  · refine lv_sipush (v := 7919) hx hb dL_take_5 (by decide) ?_
    refine lv_iload_n hx hb dL_take_8 rfl (lv_at hl 1 rfl) ?_
    refine lv_imul hx hb dL_take_9 ?_
    refine lv_iconst (v := 3) hx hb dL_take_10 (by decide) ?_
    refine lv_iadd hx hb dL_take_11 ?_
    refine lv_goto (tgt := 39) hx hb dL_take_12 (by decide) ?_
    exact fin _ ls
section LAWR
variable {p : Program} {l : Launch} {e : Env} {R : Room} {s : State} {m : MethodId} {args : Array Value} {below : List Frame} {meth : Method} {c : Code} {H H0 : Heap} {locs : List Loc} {cells slots : Nat} {Q : State → Prop} {pc : Nat} {ls : Array Slot} {rest st0 As : List Value} {A : Nat → Prop} {cc bytes : ByteArray} {nL maxL n index : Nat} {own C : String} {y : MethodName} {ret : Option FieldType} {ws Ts : List Cond} {rm : Room} {D : va_G} {ks : K3} {o : Nat} {a b : AF} {h : AH} {t : AT} {F G : FD} {qA : Nat → AF} {qz : Int32} {qS : Nat → FD} {T : TD} {b0 L wq cn j : Nat} {xs : Nat → Int32} {cL : ClassId} {w : Nat → Int64} {x : Int64}
/-- a call of take: some number -/
theorem xtake (S : CallFix p m c cc nL s args Ts own) (cw : CallB R s args own index yL_take cL_take 2 (some .int) wsL_take { frames := 0, cells := 0, slots := 0, locals := 0 } 0 0 2 ∧ (Cond.static yL_take).before args s = true) (hX0 : va_X b0 L xs s s.heap) (hbl : b0 < s.heap.size) (hbA : ¬ A b0) (hS : va_S A s.heap H locs) (hL : L ≤ 2048) (hj : j < 1000) (hsize : ls.size = nL) (hW : (rest.map fun v => v.category).sum ≤ 8) (hdg : decode cc pc = .ok (.invokestatic index, 3)) (hf : cells ≤ R.cells ∧ slots ≤ R.slots)
    (kk : ∀ r : Int32, W p l e R s m args below meth c H locs cells slots Q (F0 m (pc + 3) ls (.int r :: rest))) : W p l e R s m args below meth c H locs cells slots Q (F0 m pc ls (.int (nI j) :: .ref b0 :: rest)) := by
  have hXH : va_X b0 L xs s H := hX0.kept (hS.2.1 b0 hbl hbA)
  have hbH : b0 < H.size := Nat.lt_of_lt_of_le hbl hS.1
  refine vp_callSi (W.runS S (c_L_take hL hj) cw ⟨fun a U g mk q => ?_, fun U hU hW => ⟨rfl, by rw [hU]; exact va_X.moved hW.alike hXH, by rw [hU]; exact hbH⟩⟩ (As := [.ref b0, .int (nI j)]) rfl rfl hsize rfl (lv_room hW) hdg hf) (fun z hzz => kk z)
  obtain ⟨q0, q1, q2⟩ := q
  exact ⟨q0, va_X.moved (u := U) (U := U.calling g mk a) (Vm.Alike.refl U.vm) q1, q2⟩
/-- a call of part: a number below n -/
theorem xpart {v : Int32} {k : Nat} (S : CallFix p m c cc nL s args Ts own) (cw : CallB R s args own index yL_part cL_part 2 (some .int) wsL_part { frames := 0, cells := 0, slots := 0, locals := 0 } 0 0 2 ∧ (Cond.static yL_part).before args s = true) (hX : xK D ks s) {z : Int32} (hz : z = nI k) (h0 : 0 < k) (hk : k < 2 ^ 30) (hsize : ls.size = nL) (hW : (rest.map fun v => v.category).sum ≤ 8) (hdg : decode cc pc = .ok (.invokestatic index, 3)) (hf : cells ≤ R.cells ∧ slots ≤ R.slots)
    (kk : ∀ i : Nat, i < k → W p l e R s m args below meth c H locs cells slots Q (F0 m (pc + 3) ls (.int (nI i) :: rest))) : W p l e R s m args below meth c H locs cells slots Q (F0 m pc ls (.int z :: .int v :: rest)) := by
  obtain ⟨i, hi, e1⟩ := prtR 1 v k hz h0 (by omega)
  exact xcallRS (As := [.int v, .int z]) (rest := rest) (wc := []) S (c_L_part 1 v z (fun q => nI_ne0 (n := k) (by omega) (by omega) (hz.symm.trans q)) (nI i) e1) cw hX (va_P0 _ _ _) rfl hsize rfl hW hdg hf (fun _ => kk i hi)
theorem xlast (hx : p.tables.exec = Jvm.exec) (hb : c.code = cc) (hKL : va_K D vwCl (tyK ks ++ [(cL, .long)]) s) (hP : va_P D vwCl (wO ks o a b h t F G qA qz qS T ++ [(wq, .inl (cL, 32, .inr (.inl w)))]) H) (hD : va_D A (wO ks o a b h t F G qA qz qS T ++ [(wq, .inl (cL, 32, .inr (.inl w)))])) (hS : va_S A H0 H locs) (hc : cn < 32) (hdg : decode cc pc = .ok (.lastore, 1))
    (kk : ∀ (H1 : Heap) (locs1 : List Loc), va_P D vwCl (wO ks o a b h t F G qA qz qS T ++ [(wq, .inl (cL, 32, .inr (.inl (vp_updL w cn x))))]) H1 → va_D A (wO ks o a b h t F G qA qz qS T ++ [(wq, .inl (cL, 32, .inr (.inl (vp_updL w cn x))))]) → va_S A H0 H1 locs1 → W p l e R s m args below meth c H1 locs1 cells slots Q (F0 m (pc + 1) ls rest)) : W p l e R s m args below meth c H locs cells slots Q (F0 m pc ls (.long x :: .int (nI cn) :: .ref wq :: rest)) := by
  refine va_last hx hb hKL hP hD hS 34 3 rfl rfl (nI_in hc (by decide)) hdg (fun H1 locs1 hP1 hD1 hS1 => ?_)
  rw [nI_clamp (by omega)] at hP1 hD1
  exact kk H1 locs1 hP1 hD1 hS1
theorem xlald (hx : p.tables.exec = Jvm.exec) (hb : c.code = cc) (hKL : va_K D vwCl (tyK ks ++ [(cL, .long)]) s) (hP : va_P D vwCl (wO ks o a b h t F G qA qz qS T ++ [(wq, .inl (cL, 32, .inr (.inl w)))]) H) (hc : cn < 32) (hdg : decode cc pc = .ok (.laload, 1))
    (kk : W p l e R s m args below meth c H locs cells slots Q (F0 m (pc + 1) ls (.long (w cn) :: rest))) : W p l e R s m args below meth c H locs cells slots Q (F0 m pc ls (.int (nI cn) :: .ref wq :: rest)) := by
  refine va_lald hx hb hKL hP 34 3 rfl rfl (nI_in hc (by decide)) hdg ?_
  rw [nI_clamp (by omega)]
  exact kk
theorem xnewL (hx : p.tables.exec = Jvm.exec) (hb : c.code = cc) (harr : (Cond.arrayClass .long).before args s = true) (hX : xK D ks s) (hP : va_P D vwCl (wO ks o a b h t F G qA qz qS T) H) (hD : va_D A (wO ks o a b h t F G qA qz qS T)) (hS : va_S A H0 H locs) (hA : ∀ q, H0.size ≤ q → A q) (hcells : cells + 1 ≤ R.cells) (hslots : slots + 32 ≤ R.slots) (hdg : decode cc pc = .ok (.newarray .long, 2))
    (kk : ∀ (wq : Nat) (cL : ClassId) (w : Nat → Int64) (H1 : Heap), va_K D vwCl (tyK ks ++ [(cL, .long)]) s → va_P D vwCl (wO ks o a b h t F G qA qz qS T ++ [(wq, .inl (cL, 32, .inr (.inl w)))]) H1 → va_D A (wO ks o a b h t F G qA qz qS T ++ [(wq, .inl (cL, 32, .inr (.inl w)))]) → va_S A H0 H1 locs → W p l e R s m args below meth c H1 locs (cells + 1) (slots + 32) Q (F0 m (pc + 2) ls (.ref wq :: rest))) : W p l e R s m args below meth c H locs cells slots Q (F0 m pc ls (.int 32 :: rest)) := by
  refine va_newa (atype := .long) (ty := .long) (a0 := (32, .inr (.inl (fun _ => 0)))) hx hb harr rfl hX.1 hP hD hS hA (fun cA => rfl) (by decide) (by decide) (by decide) hcells hslots hdg (fun q cA H1 hK1 hP1 hD1 hS1 => ?_)
  exact kk q cA (fun _ => 0) H1 hK1 hP1 hD1 hS1
end LAWR
