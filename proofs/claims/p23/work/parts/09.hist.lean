def rot {α : Type} (f : Nat → α) : Nat → α := fun i => match i with
  | 0 => f 1
  | 1 => f 2
  | 2 => f 3
  | 3 => f 4
  | _ => f 0
def gq (qA : Nat → AF) (a0 a1 a2 a3 a4 : Nat) : Nat → Option Nat := fun i => match i with
  | 0 => some (qA a0).1
  | 1 => some (qA a1).1
  | 2 => some (qA a2).1
  | 3 => some (qA a3).1
  | _ => some (qA a4).1
section HIST
variable {p : Program} {l : Launch} {e : Env} {R : Room} {s : State} {m : MethodId} {args : Array Value} {below : List Frame} {meth : Method} {c : Code} {H H0 : Heap} {locs : List Loc} {cells slots : Nat} {Q : State → Prop} {pc : Nat} {ls : Array Slot} {rest : List Value} {A : Nat → Prop} {cc : ByteArray} {D : va_G} {tys : List (ClassId × FieldType)} {w wn : va_W} {nA : Nat} {i : Int32} {cA : ClassId} {a q : Nat} {f g : Nat → Option Nat}
theorem qcong (h : ∀ j, j < nA → f j = g j) : vp_cell cA (nA, .inr (.inr (.inr (.inr f)))) = vp_cell cA (nA, .inr (.inr (.inr (.inr g)))) := by
  rw [vp_cell_q, vp_cell_q]
  unfold arrV
  have e : (fun j : Fin nA => va_rf (f j.val)) = fun j => va_rf (g j.val) := funext fun j => by rw [h j.val j.isLt]
  rw [e]
theorem qset {q0 : Nat} (hP : va_P D vwCl w H) (ha : w[q0]? = some (a, .inl (cA, nA, .inr (.inr (.inr (.inr f)))))) (h : ∀ j, j < nA → f j = g j) : va_P D vwCl (w.set q0 (a, .inl (cA, nA, .inr (.inr (.inr (.inr g)))))) H := by
  have hl := (List.getElem?_eq_some_iff.mp ha).1
  intro k x hk
  by_cases hkq : k = q0
  · subst hkq
    rw [List.getElem?_set_self hl] at hk
    cases hk
    have h1 : H[a]? = some (vp_cell cA (nA, .inr (.inr (.inr (.inr f))))) := hP k _ ha
    show H[a]? = some (vp_cell cA (nA, .inr (.inr (.inr (.inr g)))))
    rw [h1, qcong h]
  · rw [List.getElem?_set_ne (Ne.symm hkq)] at hk
    exact hP k x hk
theorem xa_aldq {C : String} (hx : p.tables.exec = Jvm.exec) (hb : c.code = cc) (hK : va_K D vwCl tys s) (hP : va_P D vwCl w H) (q0 t0 : Nat) (ha : w[q0]? = some (a, .inl (cA, nA, .inr (.inr (.inr (.inr f)))))) (ht : tys[t0]? = some (cA, .object C)) (hin : vp_in i nA) (hv : f i.toNatClampNeg = some q) (hdg : decode cc pc = .ok (.aaload, 1))
    (kk : W p l e R s m args below meth c H locs cells slots Q (F0 m (pc + 1) ls (.ref q :: rest))) : W p l e R s m args below meth c H locs cells slots Q (F0 m pc ls (.int i :: .ref a :: rest)) := by
  refine va_aldq hx hb hK hP q0 t0 ha ht hin hdg ?_
  rw [hv]
  exact kk
theorem xa_astq {r : vw_C} {vs : List Value} (hx : p.tables.exec = Jvm.exec) (hb : c.code = cc) (hK : va_K D vwCl tys s) (hP : va_P D vwCl w H) (hD : va_D A w) (hS : va_S A H0 H locs) (q0 t0 qk ci : Nat) (ha : w[q0]? = some (a, .inl (cA, nA, .inr (.inr (.inr (.inr f)))))) (ht : tys[t0]? = some (cA, .object r.1)) (hv : w[qk]? = some (q, .inr (ci, vs))) (hc : vwCl[ci]? = some r) (hin : vp_in i nA) (hg : ∀ j, j < nA → va_up f i.toNatClampNeg (some q) j = g j) (hdg : decode cc pc = .ok (.aastore, 1)) (hw : w.set q0 (a, .inl (cA, nA, .inr (.inr (.inr (.inr g))))) = wn)
    (kk : ∀ (H1 : Heap) (locs1 : List Loc), va_P D vwCl wn H1 → va_D A wn → va_S A H0 H1 locs1 → W p l e R s m args below meth c H1 locs1 cells slots Q (F0 m (pc + 1) ls rest)) : W p l e R s m args below meth c H locs cells slots Q (F0 m pc ls (.ref q :: .int i :: .ref a :: rest)) := by
  subst hw
  refine va_astq hx hb hK hP hD hS q0 t0 qk ci ha ht hv hc hin hdg (fun H1 locs1 hP1 hD1 hS1 => ?_)
  have hl := (List.getElem?_eq_some_iff.mp ha).1
  have h1 := qset (q0 := q0) (g := g) hP1 (List.getElem?_set_self hl) hg
  rw [List.set_set] at h1
  have h2 := hD1.set (e := .inl (cA, nA, .inr (.inr (.inr (.inr g))))) (List.getElem?_set_self hl)
  rw [List.set_set] at h2
  exact kk H1 locs1 h1 h2 hS1
end HIST
theorem five {P : Nat → Prop} (h0 : P 0) (h1 : P 1) (h2 : P 2) (h3 : P 3) (h4 : P 4) : ∀ j, j < 5 → P j := by
  intro j hj
  rcases (show j = 0 ∨ j = 1 ∨ j = 2 ∨ j = 3 ∨ j = 4 by omega) with rfl | rfl | rfl | rfl | rfl <;> assumption

set_option maxHeartbeats 4000000 in
set_option maxRecDepth 100000 in
theorem c_X2_dropOldest {l : Launch} {D : va_G} {ks : K3} (h : AH) (qA : Nat → AF) (qz : Int32) (qS : Nat → FD) : MetV l yX2_dropOldest wsX2_dropOldest { frames := 0, cells := 0, slots := 0, locals := 0 } D ks [.ref h.1] (wH ks h qA qz qS) (wH ks h (rot qA) (qz - 1) (rot qS)) := by
  refine MetV.of (cc := cX2_dropOldest) (maxL := 3) (by decide +kernel) rfl (Nat.le_of_ble_eq_true rfl) ?_
  intro p e s m below meth c Q A hx hb hml hts hown hP hX hD hA hret ls hl
  have hK := hX.1
  replace hl : lv_has ls 3 [(0, .ref h.1)] := hl
  have hS : va_S A s.heap s.heap [] := va_S.rf
  have hi : ∀ w ∈ wsX20, w ∈ wsX2_dropOldest := by decide +kernel
  have hkstates := hts (.fieldLink RX2 11 "SoapFilm$History" "states" "[LSoapFilm$Film;") (by decide +kernel)
  have hksize := hts (.fieldLink RX2 16 "SoapFilm$History" "size" "I") (by decide +kernel)
  have hP : va_P D vwCl ([(h.1, .inr (2, [.ref h.2, .int qz])), (h.2, .inl (ks.2.2, 5, .inr (.inr (.inr (.inr (gq qA 0 1 2 3 4))))))] ++ (wF ks (qA 0) (qS 0) ++ (wF ks (qA 1) (qS 1) ++ (wF ks (qA 2) (qS 2) ++ (wF ks (qA 3) (qS 3) ++ (wF ks (qA 4) (qS 4))))))) s.heap := qset (q0 := 1) (g := gq qA 0 1 2 3 4) hP rfl (five rfl rfl rfl rfl rfl)
  have hD : va_D A ([(h.1, .inr (2, [.ref h.2, .int qz])), (h.2, .inl (ks.2.2, 5, .inr (.inr (.inr (.inr (gq qA 0 1 2 3 4))))))] ++ (wF ks (qA 0) (qS 0) ++ (wF ks (qA 1) (qS 1) ++ (wF ks (qA 2) (qS 2) ++ (wF ks (qA 3) (qS 3) ++ (wF ks (qA 4) (qS 4))))))) := hD.set (p := 1) (e := .inl (ks.2.2, 5, .inr (.inr (.inr (.inr (gq qA 0 1 2 3 4)))))) rfl
  refine lv_aload_n hx hb dX2_dropOldest_0 rfl (lv_at hl 0 rfl) ?_
  refine va_get (v := .ref h.2) (C := RX2) (T := TX2) (N := 2) hx hb hts hi hown hK hP 0 rfl rfl 0 (by decide) hkstates (fun _ h9 => h9) rfl dX2_dropOldest_1 ?_
  refine lv_iconst (v := 0) hx hb dX2_dropOldest_4 (by decide) ?_
  refine xa_aldq (q := (qA 0).1) hx hb hK hP 1 2 rfl rfl (by unfold vp_in; decide) rfl dX2_dropOldest_5 ?_
  refine lv_astore_n (lv' := [(1, .ref (qA 0).1), (0, .ref h.1)]) hx hb dX2_dropOldest_6 rfl hl (by decide) rfl (fun ls hl => ?_)
  refine lv_iconst (v := 1) hx hb dX2_dropOldest_7 (by decide) ?_
  refine lv_istore_n (lv' := [(2, .int 1), (1, .ref (qA 0).1), (0, .ref h.1)]) hx hb dX2_dropOldest_8 rfl hl (by decide) rfl (fun ls hl => ?_)
  refine lv_iload_n hx hb dX2_dropOldest_9 rfl (lv_at hl 0 rfl) ?_
  refine lv_iconst (v := 5) hx hb dX2_dropOldest_10 (by decide) ?_
  refine lv_icmp_ge (tgt := 34) hx hb dX2_dropOldest_11 (by decide) (fun c => absurd c (by decide)) (fun _ => ?_)
  refine lv_aload_n hx hb dX2_dropOldest_14 rfl (lv_at hl 2 rfl) ?_
  refine va_get (v := .ref h.2) (C := RX2) (T := TX2) (N := 2) hx hb hts hi hown hK hP 0 rfl rfl 0 (by decide) hkstates (fun _ h9 => h9) rfl dX2_dropOldest_15 ?_
  refine lv_iload_n hx hb dX2_dropOldest_18 rfl (lv_at hl 0 rfl) ?_
  refine lv_iconst (v := 1) hx hb dX2_dropOldest_19 (by decide) ?_
  refine lv_isub hx hb dX2_dropOldest_20 ?_
  rw [show ((1 : Int32) - 1) = 0 from by decide]
  refine lv_aload_n hx hb dX2_dropOldest_21 rfl (lv_at hl 2 rfl) ?_
  refine va_get (v := .ref h.2) (C := RX2) (T := TX2) (N := 2) hx hb hts hi hown hK hP 0 rfl rfl 0 (by decide) hkstates (fun _ h9 => h9) rfl dX2_dropOldest_22 ?_
  refine lv_iload_n hx hb dX2_dropOldest_25 rfl (lv_at hl 0 rfl) ?_
  refine xa_aldq (q := (qA 1).1) hx hb hK hP 1 2 rfl rfl (by unfold vp_in; decide) rfl dX2_dropOldest_26 ?_
  refine xa_astq (g := gq qA 1 1 2 3 4) (wn := ([(h.1, .inr (2, [.ref h.2, .int qz])), (h.2, .inl (ks.2.2, 5, .inr (.inr (.inr (.inr (gq qA 1 1 2 3 4))))))] ++ (wF ks (qA 0) (qS 0) ++ (wF ks (qA 1) (qS 1) ++ (wF ks (qA 2) (qS 2) ++ (wF ks (qA 3) (qS 3) ++ (wF ks (qA 4) (qS 4)))))))) hx hb hK hP hD hS 1 2 6 0 rfl rfl rfl rfl (by unfold vp_in; decide) (five rfl rfl rfl rfl rfl) dX2_dropOldest_27 rfl (fun H locs hP hD hS => ?_)
  refine lv_iinc (v := 2) (lv' := [(2, .int 2), (1, .ref (qA 0).1), (0, .ref h.1)]) hx hb dX2_dropOldest_28 hl (k := 0) rfl (by decide) (by decide) rfl (fun ls hl => ?_)
  refine lv_goto (tgt := 9) hx hb dX2_dropOldest_31 (by decide) ?_
  refine lv_iload_n hx hb dX2_dropOldest_9 rfl (lv_at hl 0 rfl) ?_
  refine lv_iconst (v := 5) hx hb dX2_dropOldest_10 (by decide) ?_
  refine lv_icmp_ge (tgt := 34) hx hb dX2_dropOldest_11 (by decide) (fun c => absurd c (by decide)) (fun _ => ?_)
  refine lv_aload_n hx hb dX2_dropOldest_14 rfl (lv_at hl 2 rfl) ?_
  refine va_get (v := .ref h.2) (C := RX2) (T := TX2) (N := 2) hx hb hts hi hown hK hP 0 rfl rfl 0 (by decide) hkstates (fun _ h9 => h9) rfl dX2_dropOldest_15 ?_
  refine lv_iload_n hx hb dX2_dropOldest_18 rfl (lv_at hl 0 rfl) ?_
  refine lv_iconst (v := 1) hx hb dX2_dropOldest_19 (by decide) ?_
  refine lv_isub hx hb dX2_dropOldest_20 ?_
  rw [show ((2 : Int32) - 1) = 1 from by decide]
  refine lv_aload_n hx hb dX2_dropOldest_21 rfl (lv_at hl 2 rfl) ?_
  refine va_get (v := .ref h.2) (C := RX2) (T := TX2) (N := 2) hx hb hts hi hown hK hP 0 rfl rfl 0 (by decide) hkstates (fun _ h9 => h9) rfl dX2_dropOldest_22 ?_
  refine lv_iload_n hx hb dX2_dropOldest_25 rfl (lv_at hl 0 rfl) ?_
  refine xa_aldq (q := (qA 2).1) hx hb hK hP 1 2 rfl rfl (by unfold vp_in; decide) rfl dX2_dropOldest_26 ?_
  refine xa_astq (g := gq qA 1 2 2 3 4) (wn := ([(h.1, .inr (2, [.ref h.2, .int qz])), (h.2, .inl (ks.2.2, 5, .inr (.inr (.inr (.inr (gq qA 1 2 2 3 4))))))] ++ (wF ks (qA 0) (qS 0) ++ (wF ks (qA 1) (qS 1) ++ (wF ks (qA 2) (qS 2) ++ (wF ks (qA 3) (qS 3) ++ (wF ks (qA 4) (qS 4)))))))) hx hb hK hP hD hS 1 2 10 0 rfl rfl rfl rfl (by unfold vp_in; decide) (five rfl rfl rfl rfl rfl) dX2_dropOldest_27 rfl (fun H locs hP hD hS => ?_)
  refine lv_iinc (v := 3) (lv' := [(2, .int 3), (1, .ref (qA 0).1), (0, .ref h.1)]) hx hb dX2_dropOldest_28 hl (k := 0) rfl (by decide) (by decide) rfl (fun ls hl => ?_)
  refine lv_goto (tgt := 9) hx hb dX2_dropOldest_31 (by decide) ?_
  refine lv_iload_n hx hb dX2_dropOldest_9 rfl (lv_at hl 0 rfl) ?_
  refine lv_iconst (v := 5) hx hb dX2_dropOldest_10 (by decide) ?_
  refine lv_icmp_ge (tgt := 34) hx hb dX2_dropOldest_11 (by decide) (fun c => absurd c (by decide)) (fun _ => ?_)
  refine lv_aload_n hx hb dX2_dropOldest_14 rfl (lv_at hl 2 rfl) ?_
  refine va_get (v := .ref h.2) (C := RX2) (T := TX2) (N := 2) hx hb hts hi hown hK hP 0 rfl rfl 0 (by decide) hkstates (fun _ h9 => h9) rfl dX2_dropOldest_15 ?_
  refine lv_iload_n hx hb dX2_dropOldest_18 rfl (lv_at hl 0 rfl) ?_
  refine lv_iconst (v := 1) hx hb dX2_dropOldest_19 (by decide) ?_
  refine lv_isub hx hb dX2_dropOldest_20 ?_
  rw [show ((3 : Int32) - 1) = 2 from by decide]
  refine lv_aload_n hx hb dX2_dropOldest_21 rfl (lv_at hl 2 rfl) ?_
  refine va_get (v := .ref h.2) (C := RX2) (T := TX2) (N := 2) hx hb hts hi hown hK hP 0 rfl rfl 0 (by decide) hkstates (fun _ h9 => h9) rfl dX2_dropOldest_22 ?_
  refine lv_iload_n hx hb dX2_dropOldest_25 rfl (lv_at hl 0 rfl) ?_
  refine xa_aldq (q := (qA 3).1) hx hb hK hP 1 2 rfl rfl (by unfold vp_in; decide) rfl dX2_dropOldest_26 ?_
  refine xa_astq (g := gq qA 1 2 3 3 4) (wn := ([(h.1, .inr (2, [.ref h.2, .int qz])), (h.2, .inl (ks.2.2, 5, .inr (.inr (.inr (.inr (gq qA 1 2 3 3 4))))))] ++ (wF ks (qA 0) (qS 0) ++ (wF ks (qA 1) (qS 1) ++ (wF ks (qA 2) (qS 2) ++ (wF ks (qA 3) (qS 3) ++ (wF ks (qA 4) (qS 4)))))))) hx hb hK hP hD hS 1 2 14 0 rfl rfl rfl rfl (by unfold vp_in; decide) (five rfl rfl rfl rfl rfl) dX2_dropOldest_27 rfl (fun H locs hP hD hS => ?_)
  refine lv_iinc (v := 4) (lv' := [(2, .int 4), (1, .ref (qA 0).1), (0, .ref h.1)]) hx hb dX2_dropOldest_28 hl (k := 0) rfl (by decide) (by decide) rfl (fun ls hl => ?_)
  refine lv_goto (tgt := 9) hx hb dX2_dropOldest_31 (by decide) ?_
  refine lv_iload_n hx hb dX2_dropOldest_9 rfl (lv_at hl 0 rfl) ?_
  refine lv_iconst (v := 5) hx hb dX2_dropOldest_10 (by decide) ?_
  refine lv_icmp_ge (tgt := 34) hx hb dX2_dropOldest_11 (by decide) (fun c => absurd c (by decide)) (fun _ => ?_)
  refine lv_aload_n hx hb dX2_dropOldest_14 rfl (lv_at hl 2 rfl) ?_
  refine va_get (v := .ref h.2) (C := RX2) (T := TX2) (N := 2) hx hb hts hi hown hK hP 0 rfl rfl 0 (by decide) hkstates (fun _ h9 => h9) rfl dX2_dropOldest_15 ?_
  refine lv_iload_n hx hb dX2_dropOldest_18 rfl (lv_at hl 0 rfl) ?_
  refine lv_iconst (v := 1) hx hb dX2_dropOldest_19 (by decide) ?_
  refine lv_isub hx hb dX2_dropOldest_20 ?_
  rw [show ((4 : Int32) - 1) = 3 from by decide]
  refine lv_aload_n hx hb dX2_dropOldest_21 rfl (lv_at hl 2 rfl) ?_
  refine va_get (v := .ref h.2) (C := RX2) (T := TX2) (N := 2) hx hb hts hi hown hK hP 0 rfl rfl 0 (by decide) hkstates (fun _ h9 => h9) rfl dX2_dropOldest_22 ?_
  refine lv_iload_n hx hb dX2_dropOldest_25 rfl (lv_at hl 0 rfl) ?_
  refine xa_aldq (q := (qA 4).1) hx hb hK hP 1 2 rfl rfl (by unfold vp_in; decide) rfl dX2_dropOldest_26 ?_
  refine xa_astq (g := gq qA 1 2 3 4 4) (wn := ([(h.1, .inr (2, [.ref h.2, .int qz])), (h.2, .inl (ks.2.2, 5, .inr (.inr (.inr (.inr (gq qA 1 2 3 4 4))))))] ++ (wF ks (qA 0) (qS 0) ++ (wF ks (qA 1) (qS 1) ++ (wF ks (qA 2) (qS 2) ++ (wF ks (qA 3) (qS 3) ++ (wF ks (qA 4) (qS 4)))))))) hx hb hK hP hD hS 1 2 18 0 rfl rfl rfl rfl (by unfold vp_in; decide) (five rfl rfl rfl rfl rfl) dX2_dropOldest_27 rfl (fun H locs hP hD hS => ?_)
  refine lv_iinc (v := 5) (lv' := [(2, .int 5), (1, .ref (qA 0).1), (0, .ref h.1)]) hx hb dX2_dropOldest_28 hl (k := 0) rfl (by decide) (by decide) rfl (fun ls hl => ?_)
  refine lv_goto (tgt := 9) hx hb dX2_dropOldest_31 (by decide) ?_
  refine lv_iload_n hx hb dX2_dropOldest_9 rfl (lv_at hl 0 rfl) ?_
  refine lv_iconst (v := 5) hx hb dX2_dropOldest_10 (by decide) ?_
  refine lv_icmp_ge (tgt := 34) hx hb dX2_dropOldest_11 (by decide) (fun _ => ?_) (fun c => absurd (by decide) c)
  refine lv_aload_n hx hb dX2_dropOldest_34 rfl (lv_at hl 2 rfl) ?_
  refine va_get (v := .ref h.2) (C := RX2) (T := TX2) (N := 2) hx hb hts hi hown hK hP 0 rfl rfl 0 (by decide) hkstates (fun _ h9 => h9) rfl dX2_dropOldest_35 ?_
  refine lv_iconst (v := 4) hx hb dX2_dropOldest_38 (by decide) ?_
  refine lv_aload_n hx hb dX2_dropOldest_39 rfl (lv_at hl 1 rfl) ?_
  refine xa_astq (g := gq qA 1 2 3 4 0) (wn := ([(h.1, .inr (2, [.ref h.2, .int qz])), (h.2, .inl (ks.2.2, 5, .inr (.inr (.inr (.inr (gq qA 1 2 3 4 0))))))] ++ (wF ks (qA 0) (qS 0) ++ (wF ks (qA 1) (qS 1) ++ (wF ks (qA 2) (qS 2) ++ (wF ks (qA 3) (qS 3) ++ (wF ks (qA 4) (qS 4)))))))) hx hb hK hP hD hS 1 2 2 0 rfl rfl rfl rfl (by unfold vp_in; decide) (five rfl rfl rfl rfl rfl) dX2_dropOldest_40 rfl (fun H locs hP hD hS => ?_)
  refine lv_aload_n hx hb dX2_dropOldest_41 rfl (lv_at hl 2 rfl) ?_
  refine lv_dup hx hb dX2_dropOldest_42 rfl ?_
  refine va_get (v := .int qz) (C := RX2) (T := TX2) (N := 2) hx hb hts hi hown hK hP 0 rfl rfl 1 (by decide) hksize (fun _ h9 => h9) rfl dX2_dropOldest_43 ?_
  refine lv_iconst (v := 1) hx hb dX2_dropOldest_46 (by decide) ?_
  refine lv_isub hx hb dX2_dropOldest_47 ?_
  refine xputI (wn := ([(h.1, .inr (2, [.ref h.2, .int (qz - 1)])), (h.2, .inl (ks.2.2, 5, .inr (.inr (.inr (.inr (gq qA 1 2 3 4 0))))))] ++ (wF ks (qA 0) (qS 0) ++ (wF ks (qA 1) (qS 1) ++ (wF ks (qA 2) (qS 2) ++ (wF ks (qA 3) (qS 3) ++ (wF ks (qA 4) (qS 4)))))))) (C := RX2) (T := TX2) (N := 2) hx hb hts hi tyX2 tyX2_ok nmX2 hown hK hP hD hS 0 rfl rfl 1 (by decide) hksize (fun _ h9 => h9) rfl (by decide +kernel) (Nat.le_of_ble_eq_true rfl) dX2_dropOldest_48 rfl (fun H locs hP hD hS => ?_)
  have hP := qset (q0 := 1) (g := fun i => some (rot qA i).1) hP rfl (five rfl rfl rfl rfl rfl)
  have hD := hD.set (p := 1) (e := .inl (ks.2.2, 5, .inr (.inr (.inr (.inr (fun i => some (rot qA i).1)))))) rfl
  exact hret _ _ _ _ dX2_dropOldest_51 (hP.sub (ws' := wH ks h (rot qA) (qz - 1) (rot qS)) [0, 1, 6, 7, 8, 9, 10, 11, 12, 13, 14, 15, 16, 17, 18, 19, 20, 21, 2, 3, 4, 5] rfl) (hD.sub (ws' := wH ks h (rot qA) (qz - 1) (rot qS)) [0, 1, 6, 7, 8, 9, 10, 11, 12, 13, 14, 15, 16, 17, 18, 19, 20, 21, 2, 3, 4, 5] (by decide) rfl) hS
def p_X2_keep (k : Nat) (qA : Nat → AF) (qz : Int32) (qS : Nat → FD) (F : FD) : Option ((Nat → AF) × Int32 × (Nat → FD)) :=
  if qz = 5 then some (rot qA, 5, va_up (rot qS) 4 F) else if qz = 0 then some (qA, 1, va_up qS 0 F) else if qz = 1 then some (qA, 2, va_up qS 1 F) else if qz = 2 then some (qA, 3, va_up qS 2 F) else if qz = 3 then some (qA, 4, va_up qS 3 F) else if qz = 4 then some (qA, 5, va_up qS 4 F) else none

set_option maxHeartbeats 4000000 in
set_option maxRecDepth 100000 in
theorem c_X2_keep {l : Launch} {D : va_G} {ks : K3} (k : Nat) (h : AH) (a : AF) (qA : Nat → AF) (qz : Int32) (qS : Nat → FD) (F : FD) (rA : Nat → AF) (rz : Int32) (rS : Nat → FD) (hf : p_X2_keep k qA qz qS F = some (rA, rz, rS)) : MetV l yX2_keep wsX2_keep { frames := 2, cells := 0, slots := 0, locals := 47 } D ks [.ref h.1, .ref a.1] (wH ks h qA qz qS ++ wF ks a F) (wH ks h rA rz rS ++ wF ks a F) := by
  refine MetV.of (cc := cX2_keep) (maxL := 2) (by decide +kernel) rfl (Nat.le_of_ble_eq_true rfl) ?_
  intro p e s m below meth c Q A hx hb hml hts hown hP hX hD hA hret ls hl
  have hK := hX.1
  replace hl : lv_has ls 2 [(0, .ref h.1), (1, .ref a.1)] := hl
  have hS : va_S A s.heap s.heap [] := va_S.rf
  have hi : ∀ w ∈ wsX20, w ∈ wsX2_keep := by decide +kernel
  have hksize := hts (.fieldLink RX2 16 "SoapFilm$History" "size" "I") (by decide +kernel)
  have hkstates := hts (.fieldLink RX2 11 "SoapFilm$History" "states" "[LSoapFilm$Film;") (by decide +kernel)
  unfold p_X2_keep at hf
  by_cases c5 : qz = 5
  · replace hf := ifT hf c5
    obtain ⟨rfl, rfl, rfl⟩ := inj3 hf
    subst c5
    refine lv_aload_n hx hb dX2_keep_0 rfl (lv_at hl 0 rfl) ?_
    refine va_get (v := .int 5) (C := RX2) (T := TX2) (N := 2) hx hb hts hi hown hK hP 0 rfl rfl 1 (by decide) hksize (fun _ h9 => h9) rfl dX2_keep_1 ?_
    refine lv_iconst (v := 5) hx hb dX2_keep_4 (by decide) ?_
    refine lv_icmp_ne (tgt := 12) hx hb dX2_keep_5 (by decide) (fun c => absurd rfl c) (fun _ => ?_)
    refine lv_aload_n hx hb dX2_keep_8 rfl (lv_at hl 0 rfl) ?_
    refine xcallV (As := []) (rest := []) (wc := (wH ks h qA 5 qS)) (w1 := (wH ks h (rot qA) (5 - 1) (rot qS))) (wr := (wF ks a F)) (wn := (wH ks h (rot qA) (5 - 1) (rot qS) ++ wF ks a F)) ⟨hx, hb, hml, hown, hts⟩ (c_X2_dropOldest h qA 5 qS) (cwV 0 hts gX2_keep_X2_dropOldest rfl rfl rfl (by decide +kernel) ⟨Nat.le_of_ble_eq_true rfl, Nat.le_of_ble_eq_true rfl⟩) hX hP hD hS hA [0, 1, 2, 3, 4, 5, 6, 7, 8, 9, 10, 11, 12, 13, 14, 15, 16, 17, 18, 19, 20, 21] [22, 23, 24, 25] [4, 5, 6, 7, 8, 9, 10, 11, 12, 13, 14, 15, 16, 17, 18, 19, 20, 21, 22, 23, 24, 25, 0, 1, 2, 3] rfl rfl rfl ⟨by decide, by decide, by decide⟩ (by decide) (ci := 2) (q0 := 0) rfl rfl rfl hl.1 rfl (Nat.le_of_ble_eq_true rfl) dX2_keep_9 ⟨Nat.zero_le _, Nat.zero_le _⟩ (fun H locs hP hD hS => ?_)
    rw [show ((5 : Int32) - 1) = 4 from by decide] at hP hD
    refine lv_aload_n hx hb dX2_keep_12 rfl (lv_at hl 0 rfl) ?_
    refine va_get (v := .ref h.2) (C := RX2) (T := TX2) (N := 2) hx hb hts hi hown hK hP 0 rfl rfl 0 (by decide) hkstates (fun _ h9 => h9) rfl dX2_keep_13 ?_
    refine lv_aload_n hx hb dX2_keep_16 rfl (lv_at hl 0 rfl) ?_
    refine va_get (v := .int 4) (C := RX2) (T := TX2) (N := 2) hx hb hts hi hown hK hP 0 rfl rfl 1 (by decide) hksize (fun _ h9 => h9) rfl dX2_keep_17 ?_
    refine xa_aldq (q := ((rot qA) 4).1) hx hb hK hP 1 2 rfl rfl (by unfold vp_in; decide) rfl dX2_keep_20 ?_
    refine lv_aload_n hx hb dX2_keep_21 rfl (lv_at hl 1 rfl) ?_
    refine xcallV (As := [.ref a.1]) (rest := []) (wc := (wF ks ((rot qA) 4) ((rot qS) 4) ++ wF ks a F)) (w1 := (wF ks ((rot qA) 4) F ++ wF ks a F)) (wr := ([(h.1, .inr (2, [.ref h.2, .int 4])), (h.2, .inl (ks.2.2, 5, .inr (.inr (.inr (.inr (fun i => some ((rot qA) i).1))))))] ++ (wF ks ((rot qA) 0) ((rot qS) 0) ++ (wF ks ((rot qA) 1) ((rot qS) 1) ++ (wF ks ((rot qA) 2) ((rot qS) 2) ++ (wF ks ((rot qA) 3) ((rot qS) 3))))))) (wn := (wH ks h (rot qA) 4 (va_up (rot qS) 4 F) ++ wF ks a F)) ⟨hx, hb, hml, hown, hts⟩ (c_X0_copyFrom k ((rot qA) 4) a ((rot qS) 4) F F rfl) (cwV 1 hts gX2_keep_X0_copyFrom rfl rfl rfl (by decide +kernel) ⟨Nat.le_of_ble_eq_true rfl, Nat.le_of_ble_eq_true rfl⟩) hX hP hD hS hA [18, 19, 20, 21, 22, 23, 24, 25] [0, 1, 2, 3, 4, 5, 6, 7, 8, 9, 10, 11, 12, 13, 14, 15, 16, 17] [0, 1, 2, 3, 4, 5, 6, 7, 8, 9, 10, 11, 12, 13, 14, 15, 16, 17, 18, 19, 20, 21, 22, 23, 24, 25] rfl rfl rfl ⟨by decide, by decide, by decide⟩ (by decide) (ci := 0) (q0 := 0) rfl rfl rfl hl.1 rfl (Nat.le_of_ble_eq_true rfl) dX2_keep_22 ⟨Nat.zero_le _, Nat.zero_le _⟩ (fun H locs hP hD hS => ?_)
    refine lv_aload_n hx hb dX2_keep_25 rfl (lv_at hl 0 rfl) ?_
    refine lv_dup hx hb dX2_keep_26 rfl ?_
    refine va_get (v := .int 4) (C := RX2) (T := TX2) (N := 2) hx hb hts hi hown hK hP 0 rfl rfl 1 (by decide) hksize (fun _ h9 => h9) rfl dX2_keep_27 ?_
    refine lv_iconst (v := 1) hx hb dX2_keep_30 (by decide) ?_
    refine lv_iadd hx hb dX2_keep_31 ?_
    rw [show ((4 : Int32) + 1) = 5 from by decide]
    refine xputI (wn := (wH ks h (rot qA) 5 (va_up (rot qS) 4 F) ++ wF ks a F)) (C := RX2) (T := TX2) (N := 2) hx hb hts hi tyX2 tyX2_ok nmX2 hown hK hP hD hS 0 rfl rfl 1 (by decide) hksize (fun _ h9 => h9) rfl (by decide +kernel) (Nat.le_of_ble_eq_true rfl) dX2_keep_32 rfl (fun H locs hP hD hS => ?_)
    exact hret _ _ _ _ dX2_keep_35 hP hD hS
  replace hf := ifF hf c5
  by_cases c0 : qz = 0
  · replace hf := ifT hf c0
    obtain ⟨rfl, rfl, rfl⟩ := inj3 hf
    subst c0
    refine lv_aload_n hx hb dX2_keep_0 rfl (lv_at hl 0 rfl) ?_
    refine va_get (v := .int 0) (C := RX2) (T := TX2) (N := 2) hx hb hts hi hown hK hP 0 rfl rfl 1 (by decide) hksize (fun _ h9 => h9) rfl dX2_keep_1 ?_
    refine lv_iconst (v := 5) hx hb dX2_keep_4 (by decide) ?_
    refine lv_icmp_ne (tgt := 12) hx hb dX2_keep_5 (by decide) (fun _ => ?_) (fun c => absurd c (by decide))
    refine lv_aload_n hx hb dX2_keep_12 rfl (lv_at hl 0 rfl) ?_
    refine va_get (v := .ref h.2) (C := RX2) (T := TX2) (N := 2) hx hb hts hi hown hK hP 0 rfl rfl 0 (by decide) hkstates (fun _ h9 => h9) rfl dX2_keep_13 ?_
    refine lv_aload_n hx hb dX2_keep_16 rfl (lv_at hl 0 rfl) ?_
    refine va_get (v := .int 0) (C := RX2) (T := TX2) (N := 2) hx hb hts hi hown hK hP 0 rfl rfl 1 (by decide) hksize (fun _ h9 => h9) rfl dX2_keep_17 ?_
    refine xa_aldq (q := (qA 0).1) hx hb hK hP 1 2 rfl rfl (by unfold vp_in; decide) rfl dX2_keep_20 ?_
    refine lv_aload_n hx hb dX2_keep_21 rfl (lv_at hl 1 rfl) ?_
    refine xcallV (As := [.ref a.1]) (rest := []) (wc := (wF ks (qA 0) (qS 0) ++ wF ks a F)) (w1 := (wF ks (qA 0) F ++ wF ks a F)) (wr := ([(h.1, .inr (2, [.ref h.2, .int 0])), (h.2, .inl (ks.2.2, 5, .inr (.inr (.inr (.inr (fun i => some (qA i).1))))))] ++ (wF ks (qA 1) (qS 1) ++ (wF ks (qA 2) (qS 2) ++ (wF ks (qA 3) (qS 3) ++ (wF ks (qA 4) (qS 4))))))) (wn := (wH ks h qA 0 (va_up qS 0 F) ++ wF ks a F)) ⟨hx, hb, hml, hown, hts⟩ (c_X0_copyFrom k (qA 0) a (qS 0) F F rfl) (cwV 1 hts gX2_keep_X0_copyFrom rfl rfl rfl (by decide +kernel) ⟨Nat.le_of_ble_eq_true rfl, Nat.le_of_ble_eq_true rfl⟩) hX hP hD hS hA [2, 3, 4, 5, 22, 23, 24, 25] [0, 1, 6, 7, 8, 9, 10, 11, 12, 13, 14, 15, 16, 17, 18, 19, 20, 21] [0, 1, 18, 19, 20, 21, 2, 3, 4, 5, 6, 7, 8, 9, 10, 11, 12, 13, 14, 15, 16, 17, 22, 23, 24, 25] rfl rfl rfl ⟨by decide, by decide, by decide⟩ (by decide) (ci := 0) (q0 := 0) rfl rfl rfl hl.1 rfl (Nat.le_of_ble_eq_true rfl) dX2_keep_22 ⟨Nat.zero_le _, Nat.zero_le _⟩ (fun H locs hP hD hS => ?_)
    refine lv_aload_n hx hb dX2_keep_25 rfl (lv_at hl 0 rfl) ?_
    refine lv_dup hx hb dX2_keep_26 rfl ?_
    refine va_get (v := .int 0) (C := RX2) (T := TX2) (N := 2) hx hb hts hi hown hK hP 0 rfl rfl 1 (by decide) hksize (fun _ h9 => h9) rfl dX2_keep_27 ?_
    refine lv_iconst (v := 1) hx hb dX2_keep_30 (by decide) ?_
    refine lv_iadd hx hb dX2_keep_31 ?_
    rw [show ((0 : Int32) + 1) = 1 from by decide]
    refine xputI (wn := (wH ks h qA 1 (va_up qS 0 F) ++ wF ks a F)) (C := RX2) (T := TX2) (N := 2) hx hb hts hi tyX2 tyX2_ok nmX2 hown hK hP hD hS 0 rfl rfl 1 (by decide) hksize (fun _ h9 => h9) rfl (by decide +kernel) (Nat.le_of_ble_eq_true rfl) dX2_keep_32 rfl (fun H locs hP hD hS => ?_)
    exact hret _ _ _ _ dX2_keep_35 hP hD hS
  replace hf := ifF hf c0
  by_cases c1 : qz = 1
  · replace hf := ifT hf c1
    obtain ⟨rfl, rfl, rfl⟩ := inj3 hf
    subst c1
    refine lv_aload_n hx hb dX2_keep_0 rfl (lv_at hl 0 rfl) ?_
    refine va_get (v := .int 1) (C := RX2) (T := TX2) (N := 2) hx hb hts hi hown hK hP 0 rfl rfl 1 (by decide) hksize (fun _ h9 => h9) rfl dX2_keep_1 ?_
    refine lv_iconst (v := 5) hx hb dX2_keep_4 (by decide) ?_
    refine lv_icmp_ne (tgt := 12) hx hb dX2_keep_5 (by decide) (fun _ => ?_) (fun c => absurd c (by decide))
    refine lv_aload_n hx hb dX2_keep_12 rfl (lv_at hl 0 rfl) ?_
    refine va_get (v := .ref h.2) (C := RX2) (T := TX2) (N := 2) hx hb hts hi hown hK hP 0 rfl rfl 0 (by decide) hkstates (fun _ h9 => h9) rfl dX2_keep_13 ?_
    refine lv_aload_n hx hb dX2_keep_16 rfl (lv_at hl 0 rfl) ?_
    refine va_get (v := .int 1) (C := RX2) (T := TX2) (N := 2) hx hb hts hi hown hK hP 0 rfl rfl 1 (by decide) hksize (fun _ h9 => h9) rfl dX2_keep_17 ?_
    refine xa_aldq (q := (qA 1).1) hx hb hK hP 1 2 rfl rfl (by unfold vp_in; decide) rfl dX2_keep_20 ?_
    refine lv_aload_n hx hb dX2_keep_21 rfl (lv_at hl 1 rfl) ?_
    refine xcallV (As := [.ref a.1]) (rest := []) (wc := (wF ks (qA 1) (qS 1) ++ wF ks a F)) (w1 := (wF ks (qA 1) F ++ wF ks a F)) (wr := ([(h.1, .inr (2, [.ref h.2, .int 1])), (h.2, .inl (ks.2.2, 5, .inr (.inr (.inr (.inr (fun i => some (qA i).1))))))] ++ (wF ks (qA 0) (qS 0) ++ (wF ks (qA 2) (qS 2) ++ (wF ks (qA 3) (qS 3) ++ (wF ks (qA 4) (qS 4))))))) (wn := (wH ks h qA 1 (va_up qS 1 F) ++ wF ks a F)) ⟨hx, hb, hml, hown, hts⟩ (c_X0_copyFrom k (qA 1) a (qS 1) F F rfl) (cwV 1 hts gX2_keep_X0_copyFrom rfl rfl rfl (by decide +kernel) ⟨Nat.le_of_ble_eq_true rfl, Nat.le_of_ble_eq_true rfl⟩) hX hP hD hS hA [6, 7, 8, 9, 22, 23, 24, 25] [0, 1, 2, 3, 4, 5, 10, 11, 12, 13, 14, 15, 16, 17, 18, 19, 20, 21] [0, 1, 2, 3, 4, 5, 18, 19, 20, 21, 6, 7, 8, 9, 10, 11, 12, 13, 14, 15, 16, 17, 22, 23, 24, 25] rfl rfl rfl ⟨by decide, by decide, by decide⟩ (by decide) (ci := 0) (q0 := 0) rfl rfl rfl hl.1 rfl (Nat.le_of_ble_eq_true rfl) dX2_keep_22 ⟨Nat.zero_le _, Nat.zero_le _⟩ (fun H locs hP hD hS => ?_)
    refine lv_aload_n hx hb dX2_keep_25 rfl (lv_at hl 0 rfl) ?_
    refine lv_dup hx hb dX2_keep_26 rfl ?_
    refine va_get (v := .int 1) (C := RX2) (T := TX2) (N := 2) hx hb hts hi hown hK hP 0 rfl rfl 1 (by decide) hksize (fun _ h9 => h9) rfl dX2_keep_27 ?_
    refine lv_iconst (v := 1) hx hb dX2_keep_30 (by decide) ?_
    refine lv_iadd hx hb dX2_keep_31 ?_
    rw [show ((1 : Int32) + 1) = 2 from by decide]
    refine xputI (wn := (wH ks h qA 2 (va_up qS 1 F) ++ wF ks a F)) (C := RX2) (T := TX2) (N := 2) hx hb hts hi tyX2 tyX2_ok nmX2 hown hK hP hD hS 0 rfl rfl 1 (by decide) hksize (fun _ h9 => h9) rfl (by decide +kernel) (Nat.le_of_ble_eq_true rfl) dX2_keep_32 rfl (fun H locs hP hD hS => ?_)
    exact hret _ _ _ _ dX2_keep_35 hP hD hS
  replace hf := ifF hf c1
  by_cases c2 : qz = 2
  · replace hf := ifT hf c2
    obtain ⟨rfl, rfl, rfl⟩ := inj3 hf
    subst c2
    refine lv_aload_n hx hb dX2_keep_0 rfl (lv_at hl 0 rfl) ?_
    refine va_get (v := .int 2) (C := RX2) (T := TX2) (N := 2) hx hb hts hi hown hK hP 0 rfl rfl 1 (by decide) hksize (fun _ h9 => h9) rfl dX2_keep_1 ?_
    refine lv_iconst (v := 5) hx hb dX2_keep_4 (by decide) ?_
    refine lv_icmp_ne (tgt := 12) hx hb dX2_keep_5 (by decide) (fun _ => ?_) (fun c => absurd c (by decide))
    refine lv_aload_n hx hb dX2_keep_12 rfl (lv_at hl 0 rfl) ?_
    refine va_get (v := .ref h.2) (C := RX2) (T := TX2) (N := 2) hx hb hts hi hown hK hP 0 rfl rfl 0 (by decide) hkstates (fun _ h9 => h9) rfl dX2_keep_13 ?_
    refine lv_aload_n hx hb dX2_keep_16 rfl (lv_at hl 0 rfl) ?_
    refine va_get (v := .int 2) (C := RX2) (T := TX2) (N := 2) hx hb hts hi hown hK hP 0 rfl rfl 1 (by decide) hksize (fun _ h9 => h9) rfl dX2_keep_17 ?_
    refine xa_aldq (q := (qA 2).1) hx hb hK hP 1 2 rfl rfl (by unfold vp_in; decide) rfl dX2_keep_20 ?_
    refine lv_aload_n hx hb dX2_keep_21 rfl (lv_at hl 1 rfl) ?_
    refine xcallV (As := [.ref a.1]) (rest := []) (wc := (wF ks (qA 2) (qS 2) ++ wF ks a F)) (w1 := (wF ks (qA 2) F ++ wF ks a F)) (wr := ([(h.1, .inr (2, [.ref h.2, .int 2])), (h.2, .inl (ks.2.2, 5, .inr (.inr (.inr (.inr (fun i => some (qA i).1))))))] ++ (wF ks (qA 0) (qS 0) ++ (wF ks (qA 1) (qS 1) ++ (wF ks (qA 3) (qS 3) ++ (wF ks (qA 4) (qS 4))))))) (wn := (wH ks h qA 2 (va_up qS 2 F) ++ wF ks a F)) ⟨hx, hb, hml, hown, hts⟩ (c_X0_copyFrom k (qA 2) a (qS 2) F F rfl) (cwV 1 hts gX2_keep_X0_copyFrom rfl rfl rfl (by decide +kernel) ⟨Nat.le_of_ble_eq_true rfl, Nat.le_of_ble_eq_true rfl⟩) hX hP hD hS hA [10, 11, 12, 13, 22, 23, 24, 25] [0, 1, 2, 3, 4, 5, 6, 7, 8, 9, 14, 15, 16, 17, 18, 19, 20, 21] [0, 1, 2, 3, 4, 5, 6, 7, 8, 9, 18, 19, 20, 21, 10, 11, 12, 13, 14, 15, 16, 17, 22, 23, 24, 25] rfl rfl rfl ⟨by decide, by decide, by decide⟩ (by decide) (ci := 0) (q0 := 0) rfl rfl rfl hl.1 rfl (Nat.le_of_ble_eq_true rfl) dX2_keep_22 ⟨Nat.zero_le _, Nat.zero_le _⟩ (fun H locs hP hD hS => ?_)
    refine lv_aload_n hx hb dX2_keep_25 rfl (lv_at hl 0 rfl) ?_
    refine lv_dup hx hb dX2_keep_26 rfl ?_
    refine va_get (v := .int 2) (C := RX2) (T := TX2) (N := 2) hx hb hts hi hown hK hP 0 rfl rfl 1 (by decide) hksize (fun _ h9 => h9) rfl dX2_keep_27 ?_
    refine lv_iconst (v := 1) hx hb dX2_keep_30 (by decide) ?_
    refine lv_iadd hx hb dX2_keep_31 ?_
    rw [show ((2 : Int32) + 1) = 3 from by decide]
    refine xputI (wn := (wH ks h qA 3 (va_up qS 2 F) ++ wF ks a F)) (C := RX2) (T := TX2) (N := 2) hx hb hts hi tyX2 tyX2_ok nmX2 hown hK hP hD hS 0 rfl rfl 1 (by decide) hksize (fun _ h9 => h9) rfl (by decide +kernel) (Nat.le_of_ble_eq_true rfl) dX2_keep_32 rfl (fun H locs hP hD hS => ?_)
    exact hret _ _ _ _ dX2_keep_35 hP hD hS
  replace hf := ifF hf c2
  by_cases c3 : qz = 3
  · replace hf := ifT hf c3
    obtain ⟨rfl, rfl, rfl⟩ := inj3 hf
    subst c3
    refine lv_aload_n hx hb dX2_keep_0 rfl (lv_at hl 0 rfl) ?_
    refine va_get (v := .int 3) (C := RX2) (T := TX2) (N := 2) hx hb hts hi hown hK hP 0 rfl rfl 1 (by decide) hksize (fun _ h9 => h9) rfl dX2_keep_1 ?_
    refine lv_iconst (v := 5) hx hb dX2_keep_4 (by decide) ?_
    refine lv_icmp_ne (tgt := 12) hx hb dX2_keep_5 (by decide) (fun _ => ?_) (fun c => absurd c (by decide))
    refine lv_aload_n hx hb dX2_keep_12 rfl (lv_at hl 0 rfl) ?_
    refine va_get (v := .ref h.2) (C := RX2) (T := TX2) (N := 2) hx hb hts hi hown hK hP 0 rfl rfl 0 (by decide) hkstates (fun _ h9 => h9) rfl dX2_keep_13 ?_
    refine lv_aload_n hx hb dX2_keep_16 rfl (lv_at hl 0 rfl) ?_
    refine va_get (v := .int 3) (C := RX2) (T := TX2) (N := 2) hx hb hts hi hown hK hP 0 rfl rfl 1 (by decide) hksize (fun _ h9 => h9) rfl dX2_keep_17 ?_
    refine xa_aldq (q := (qA 3).1) hx hb hK hP 1 2 rfl rfl (by unfold vp_in; decide) rfl dX2_keep_20 ?_
    refine lv_aload_n hx hb dX2_keep_21 rfl (lv_at hl 1 rfl) ?_
    refine xcallV (As := [.ref a.1]) (rest := []) (wc := (wF ks (qA 3) (qS 3) ++ wF ks a F)) (w1 := (wF ks (qA 3) F ++ wF ks a F)) (wr := ([(h.1, .inr (2, [.ref h.2, .int 3])), (h.2, .inl (ks.2.2, 5, .inr (.inr (.inr (.inr (fun i => some (qA i).1))))))] ++ (wF ks (qA 0) (qS 0) ++ (wF ks (qA 1) (qS 1) ++ (wF ks (qA 2) (qS 2) ++ (wF ks (qA 4) (qS 4))))))) (wn := (wH ks h qA 3 (va_up qS 3 F) ++ wF ks a F)) ⟨hx, hb, hml, hown, hts⟩ (c_X0_copyFrom k (qA 3) a (qS 3) F F rfl) (cwV 1 hts gX2_keep_X0_copyFrom rfl rfl rfl (by decide +kernel) ⟨Nat.le_of_ble_eq_true rfl, Nat.le_of_ble_eq_true rfl⟩) hX hP hD hS hA [14, 15, 16, 17, 22, 23, 24, 25] [0, 1, 2, 3, 4, 5, 6, 7, 8, 9, 10, 11, 12, 13, 18, 19, 20, 21] [0, 1, 2, 3, 4, 5, 6, 7, 8, 9, 10, 11, 12, 13, 18, 19, 20, 21, 14, 15, 16, 17, 22, 23, 24, 25] rfl rfl rfl ⟨by decide, by decide, by decide⟩ (by decide) (ci := 0) (q0 := 0) rfl rfl rfl hl.1 rfl (Nat.le_of_ble_eq_true rfl) dX2_keep_22 ⟨Nat.zero_le _, Nat.zero_le _⟩ (fun H locs hP hD hS => ?_)
    refine lv_aload_n hx hb dX2_keep_25 rfl (lv_at hl 0 rfl) ?_
    refine lv_dup hx hb dX2_keep_26 rfl ?_
    refine va_get (v := .int 3) (C := RX2) (T := TX2) (N := 2) hx hb hts hi hown hK hP 0 rfl rfl 1 (by decide) hksize (fun _ h9 => h9) rfl dX2_keep_27 ?_
    refine lv_iconst (v := 1) hx hb dX2_keep_30 (by decide) ?_
    refine lv_iadd hx hb dX2_keep_31 ?_
    rw [show ((3 : Int32) + 1) = 4 from by decide]
    refine xputI (wn := (wH ks h qA 4 (va_up qS 3 F) ++ wF ks a F)) (C := RX2) (T := TX2) (N := 2) hx hb hts hi tyX2 tyX2_ok nmX2 hown hK hP hD hS 0 rfl rfl 1 (by decide) hksize (fun _ h9 => h9) rfl (by decide +kernel) (Nat.le_of_ble_eq_true rfl) dX2_keep_32 rfl (fun H locs hP hD hS => ?_)
    exact hret _ _ _ _ dX2_keep_35 hP hD hS
  replace hf := ifF hf c3
  by_cases c4 : qz = 4
  · replace hf := ifT hf c4
    obtain ⟨rfl, rfl, rfl⟩ := inj3 hf
    subst c4
    refine lv_aload_n hx hb dX2_keep_0 rfl (lv_at hl 0 rfl) ?_
    refine va_get (v := .int 4) (C := RX2) (T := TX2) (N := 2) hx hb hts hi hown hK hP 0 rfl rfl 1 (by decide) hksize (fun _ h9 => h9) rfl dX2_keep_1 ?_
    refine lv_iconst (v := 5) hx hb dX2_keep_4 (by decide) ?_
    refine lv_icmp_ne (tgt := 12) hx hb dX2_keep_5 (by decide) (fun _ => ?_) (fun c => absurd c (by decide))
    refine lv_aload_n hx hb dX2_keep_12 rfl (lv_at hl 0 rfl) ?_
    refine va_get (v := .ref h.2) (C := RX2) (T := TX2) (N := 2) hx hb hts hi hown hK hP 0 rfl rfl 0 (by decide) hkstates (fun _ h9 => h9) rfl dX2_keep_13 ?_
    refine lv_aload_n hx hb dX2_keep_16 rfl (lv_at hl 0 rfl) ?_
    refine va_get (v := .int 4) (C := RX2) (T := TX2) (N := 2) hx hb hts hi hown hK hP 0 rfl rfl 1 (by decide) hksize (fun _ h9 => h9) rfl dX2_keep_17 ?_
    refine xa_aldq (q := (qA 4).1) hx hb hK hP 1 2 rfl rfl (by unfold vp_in; decide) rfl dX2_keep_20 ?_
    refine lv_aload_n hx hb dX2_keep_21 rfl (lv_at hl 1 rfl) ?_
    refine xcallV (As := [.ref a.1]) (rest := []) (wc := (wF ks (qA 4) (qS 4) ++ wF ks a F)) (w1 := (wF ks (qA 4) F ++ wF ks a F)) (wr := ([(h.1, .inr (2, [.ref h.2, .int 4])), (h.2, .inl (ks.2.2, 5, .inr (.inr (.inr (.inr (fun i => some (qA i).1))))))] ++ (wF ks (qA 0) (qS 0) ++ (wF ks (qA 1) (qS 1) ++ (wF ks (qA 2) (qS 2) ++ (wF ks (qA 3) (qS 3))))))) (wn := (wH ks h qA 4 (va_up qS 4 F) ++ wF ks a F)) ⟨hx, hb, hml, hown, hts⟩ (c_X0_copyFrom k (qA 4) a (qS 4) F F rfl) (cwV 1 hts gX2_keep_X0_copyFrom rfl rfl rfl (by decide +kernel) ⟨Nat.le_of_ble_eq_true rfl, Nat.le_of_ble_eq_true rfl⟩) hX hP hD hS hA [18, 19, 20, 21, 22, 23, 24, 25] [0, 1, 2, 3, 4, 5, 6, 7, 8, 9, 10, 11, 12, 13, 14, 15, 16, 17] [0, 1, 2, 3, 4, 5, 6, 7, 8, 9, 10, 11, 12, 13, 14, 15, 16, 17, 18, 19, 20, 21, 22, 23, 24, 25] rfl rfl rfl ⟨by decide, by decide, by decide⟩ (by decide) (ci := 0) (q0 := 0) rfl rfl rfl hl.1 rfl (Nat.le_of_ble_eq_true rfl) dX2_keep_22 ⟨Nat.zero_le _, Nat.zero_le _⟩ (fun H locs hP hD hS => ?_)
    refine lv_aload_n hx hb dX2_keep_25 rfl (lv_at hl 0 rfl) ?_
    refine lv_dup hx hb dX2_keep_26 rfl ?_
    refine va_get (v := .int 4) (C := RX2) (T := TX2) (N := 2) hx hb hts hi hown hK hP 0 rfl rfl 1 (by decide) hksize (fun _ h9 => h9) rfl dX2_keep_27 ?_
    refine lv_iconst (v := 1) hx hb dX2_keep_30 (by decide) ?_
    refine lv_iadd hx hb dX2_keep_31 ?_
    rw [show ((4 : Int32) + 1) = 5 from by decide]
    refine xputI (wn := (wH ks h qA 5 (va_up qS 4 F) ++ wF ks a F)) (C := RX2) (T := TX2) (N := 2) hx hb hts hi tyX2 tyX2_ok nmX2 hown hK hP hD hS 0 rfl rfl 1 (by decide) hksize (fun _ h9 => h9) rfl (by decide +kernel) (Nat.le_of_ble_eq_true rfl) dX2_keep_32 rfl (fun H locs hP hD hS => ?_)
    exact hret _ _ _ _ dX2_keep_35 hP hD hS
  replace hf := ifF hf c4
  cases hf
def p_X2_restore (k : Nat) (qA : Nat → AF) (qz : Int32) (qS : Nat → FD) (F : FD) : Option ((Nat → AF) × Int32 × (Nat → FD) × FD) :=
  if qz ≤ 0 then some (qA, qz, qS, F) else if qz = 1 then some (qA, 0, qS, qS 0) else if qz = 2 then some (qA, 1, qS, qS 1) else if qz = 3 then some (qA, 2, qS, qS 2) else if qz = 4 then some (qA, 3, qS, qS 3) else if qz = 5 then some (qA, 4, qS, qS 4) else none

set_option maxHeartbeats 4000000 in
set_option maxRecDepth 100000 in
theorem c_X2_restore {l : Launch} {D : va_G} {ks : K3} (k : Nat) (h : AH) (a : AF) (qA : Nat → AF) (qz : Int32) (qS : Nat → FD) (F : FD) (rA : Nat → AF) (rz : Int32) (rS : Nat → FD) (rF : FD) (hf : p_X2_restore k qA qz qS F = some (rA, rz, rS, rF)) : MetV l yX2_restore wsX2_restore { frames := 2, cells := 0, slots := 0, locals := 47 } D ks [.ref h.1, .ref a.1] (wH ks h qA qz qS ++ wF ks a F) (wH ks h rA rz rS ++ wF ks a rF) := by
  refine MetV.of (cc := cX2_restore) (maxL := 2) (by decide +kernel) rfl (Nat.le_of_ble_eq_true rfl) ?_
  intro p e s m below meth c Q A hx hb hml hts hown hP hX hD hA hret ls hl
  have hK := hX.1
  replace hl : lv_has ls 2 [(0, .ref h.1), (1, .ref a.1)] := hl
  have hS : va_S A s.heap s.heap [] := va_S.rf
  have hi : ∀ w ∈ wsX20, w ∈ wsX2_restore := by decide +kernel
  have hksize := hts (.fieldLink RX2 16 "SoapFilm$History" "size" "I") (by decide +kernel)
  have hkstates := hts (.fieldLink RX2 11 "SoapFilm$History" "states" "[LSoapFilm$Film;") (by decide +kernel)
  unfold p_X2_restore at hf
  by_cases c0 : qz ≤ 0
  · replace hf := ifT hf c0
    obtain ⟨rfl, rfl, rfl, rfl⟩ := inj4 hf
    refine lv_aload_n hx hb dX2_restore_0 rfl (lv_at hl 0 rfl) ?_
    refine va_get (v := .int qz) (C := RX2) (T := TX2) (N := 2) hx hb hts hi hown hK hP 0 rfl rfl 1 (by decide) hksize (fun _ h9 => h9) rfl dX2_restore_1 ?_
    refine lv_if_le (tgt := 30) hx hb dX2_restore_4 (by decide) (fun _ => ?_) (fun c => absurd c0 c)
    exact hret _ _ _ _ dX2_restore_30 hP hD hS
  replace hf := ifF hf c0
  by_cases c1 : qz = 1
  · replace hf := ifT hf c1
    obtain ⟨rfl, rfl, rfl, rfl⟩ := inj4 hf
    subst c1
    refine lv_aload_n hx hb dX2_restore_0 rfl (lv_at hl 0 rfl) ?_
    refine va_get (v := .int 1) (C := RX2) (T := TX2) (N := 2) hx hb hts hi hown hK hP 0 rfl rfl 1 (by decide) hksize (fun _ h9 => h9) rfl dX2_restore_1 ?_
    refine lv_if_le (tgt := 30) hx hb dX2_restore_4 (by decide) (fun c => absurd c c0) (fun _ => ?_)
    refine lv_aload_n hx hb dX2_restore_7 rfl (lv_at hl 0 rfl) ?_
    refine lv_dup hx hb dX2_restore_8 rfl ?_
    refine va_get (v := .int 1) (C := RX2) (T := TX2) (N := 2) hx hb hts hi hown hK hP 0 rfl rfl 1 (by decide) hksize (fun _ h9 => h9) rfl dX2_restore_9 ?_
    refine lv_iconst (v := 1) hx hb dX2_restore_12 (by decide) ?_
    refine lv_isub hx hb dX2_restore_13 ?_
    rw [show ((1 : Int32) - 1) = 0 from by decide]
    refine xputI (wn := (wH ks h qA 0 qS ++ wF ks a F)) (C := RX2) (T := TX2) (N := 2) hx hb hts hi tyX2 tyX2_ok nmX2 hown hK hP hD hS 0 rfl rfl 1 (by decide) hksize (fun _ h9 => h9) rfl (by decide +kernel) (Nat.le_of_ble_eq_true rfl) dX2_restore_14 rfl (fun H locs hP hD hS => ?_)
    refine lv_aload_n hx hb dX2_restore_17 rfl (lv_at hl 1 rfl) ?_
    refine lv_aload_n hx hb dX2_restore_18 rfl (lv_at hl 0 rfl) ?_
    refine va_get (v := .ref h.2) (C := RX2) (T := TX2) (N := 2) hx hb hts hi hown hK hP 0 rfl rfl 0 (by decide) hkstates (fun _ h9 => h9) rfl dX2_restore_19 ?_
    refine lv_aload_n hx hb dX2_restore_22 rfl (lv_at hl 0 rfl) ?_
    refine va_get (v := .int 0) (C := RX2) (T := TX2) (N := 2) hx hb hts hi hown hK hP 0 rfl rfl 1 (by decide) hksize (fun _ h9 => h9) rfl dX2_restore_23 ?_
    refine xa_aldq (q := (qA 0).1) hx hb hK hP 1 2 rfl rfl (by unfold vp_in; decide) rfl dX2_restore_26 ?_
    refine xcallV (As := [.ref (qA 0).1]) (rest := []) (wc := (wF ks a F ++ wF ks (qA 0) (qS 0))) (w1 := (wF ks a (qS 0) ++ wF ks (qA 0) (qS 0))) (wr := ([(h.1, .inr (2, [.ref h.2, .int 0])), (h.2, .inl (ks.2.2, 5, .inr (.inr (.inr (.inr (fun i => some (qA i).1))))))] ++ (wF ks (qA 1) (qS 1) ++ (wF ks (qA 2) (qS 2) ++ (wF ks (qA 3) (qS 3) ++ (wF ks (qA 4) (qS 4))))))) (wn := (wH ks h qA 0 qS ++ wF ks a (qS 0))) ⟨hx, hb, hml, hown, hts⟩ (c_X0_copyFrom k a (qA 0) F (qS 0) (qS 0) rfl) (cwV 1 hts gX2_restore_X0_copyFrom rfl rfl rfl (by decide +kernel) ⟨Nat.le_of_ble_eq_true rfl, Nat.le_of_ble_eq_true rfl⟩) hX hP hD hS hA [22, 23, 24, 25, 2, 3, 4, 5] [0, 1, 6, 7, 8, 9, 10, 11, 12, 13, 14, 15, 16, 17, 18, 19, 20, 21] [0, 1, 22, 23, 24, 25, 2, 3, 4, 5, 6, 7, 8, 9, 10, 11, 12, 13, 14, 15, 16, 17, 18, 19, 20, 21] rfl rfl rfl ⟨by decide, by decide, by decide⟩ (by decide) (ci := 0) (q0 := 0) rfl rfl rfl hl.1 rfl (Nat.le_of_ble_eq_true rfl) dX2_restore_27 ⟨Nat.zero_le _, Nat.zero_le _⟩ (fun H locs hP hD hS => ?_)
    exact hret _ _ _ _ dX2_restore_30 hP hD hS
  replace hf := ifF hf c1
  by_cases c2 : qz = 2
  · replace hf := ifT hf c2
    obtain ⟨rfl, rfl, rfl, rfl⟩ := inj4 hf
    subst c2
    refine lv_aload_n hx hb dX2_restore_0 rfl (lv_at hl 0 rfl) ?_
    refine va_get (v := .int 2) (C := RX2) (T := TX2) (N := 2) hx hb hts hi hown hK hP 0 rfl rfl 1 (by decide) hksize (fun _ h9 => h9) rfl dX2_restore_1 ?_
    refine lv_if_le (tgt := 30) hx hb dX2_restore_4 (by decide) (fun c => absurd c c0) (fun _ => ?_)
    refine lv_aload_n hx hb dX2_restore_7 rfl (lv_at hl 0 rfl) ?_
    refine lv_dup hx hb dX2_restore_8 rfl ?_
    refine va_get (v := .int 2) (C := RX2) (T := TX2) (N := 2) hx hb hts hi hown hK hP 0 rfl rfl 1 (by decide) hksize (fun _ h9 => h9) rfl dX2_restore_9 ?_
    refine lv_iconst (v := 1) hx hb dX2_restore_12 (by decide) ?_
    refine lv_isub hx hb dX2_restore_13 ?_
    rw [show ((2 : Int32) - 1) = 1 from by decide]
    refine xputI (wn := (wH ks h qA 1 qS ++ wF ks a F)) (C := RX2) (T := TX2) (N := 2) hx hb hts hi tyX2 tyX2_ok nmX2 hown hK hP hD hS 0 rfl rfl 1 (by decide) hksize (fun _ h9 => h9) rfl (by decide +kernel) (Nat.le_of_ble_eq_true rfl) dX2_restore_14 rfl (fun H locs hP hD hS => ?_)
    refine lv_aload_n hx hb dX2_restore_17 rfl (lv_at hl 1 rfl) ?_
    refine lv_aload_n hx hb dX2_restore_18 rfl (lv_at hl 0 rfl) ?_
    refine va_get (v := .ref h.2) (C := RX2) (T := TX2) (N := 2) hx hb hts hi hown hK hP 0 rfl rfl 0 (by decide) hkstates (fun _ h9 => h9) rfl dX2_restore_19 ?_
    refine lv_aload_n hx hb dX2_restore_22 rfl (lv_at hl 0 rfl) ?_
    refine va_get (v := .int 1) (C := RX2) (T := TX2) (N := 2) hx hb hts hi hown hK hP 0 rfl rfl 1 (by decide) hksize (fun _ h9 => h9) rfl dX2_restore_23 ?_
    refine xa_aldq (q := (qA 1).1) hx hb hK hP 1 2 rfl rfl (by unfold vp_in; decide) rfl dX2_restore_26 ?_
    refine xcallV (As := [.ref (qA 1).1]) (rest := []) (wc := (wF ks a F ++ wF ks (qA 1) (qS 1))) (w1 := (wF ks a (qS 1) ++ wF ks (qA 1) (qS 1))) (wr := ([(h.1, .inr (2, [.ref h.2, .int 1])), (h.2, .inl (ks.2.2, 5, .inr (.inr (.inr (.inr (fun i => some (qA i).1))))))] ++ (wF ks (qA 0) (qS 0) ++ (wF ks (qA 2) (qS 2) ++ (wF ks (qA 3) (qS 3) ++ (wF ks (qA 4) (qS 4))))))) (wn := (wH ks h qA 1 qS ++ wF ks a (qS 1))) ⟨hx, hb, hml, hown, hts⟩ (c_X0_copyFrom k a (qA 1) F (qS 1) (qS 1) rfl) (cwV 1 hts gX2_restore_X0_copyFrom rfl rfl rfl (by decide +kernel) ⟨Nat.le_of_ble_eq_true rfl, Nat.le_of_ble_eq_true rfl⟩) hX hP hD hS hA [22, 23, 24, 25, 6, 7, 8, 9] [0, 1, 2, 3, 4, 5, 10, 11, 12, 13, 14, 15, 16, 17, 18, 19, 20, 21] [0, 1, 2, 3, 4, 5, 22, 23, 24, 25, 6, 7, 8, 9, 10, 11, 12, 13, 14, 15, 16, 17, 18, 19, 20, 21] rfl rfl rfl ⟨by decide, by decide, by decide⟩ (by decide) (ci := 0) (q0 := 0) rfl rfl rfl hl.1 rfl (Nat.le_of_ble_eq_true rfl) dX2_restore_27 ⟨Nat.zero_le _, Nat.zero_le _⟩ (fun H locs hP hD hS => ?_)
    exact hret _ _ _ _ dX2_restore_30 hP hD hS
  replace hf := ifF hf c2
  by_cases c3 : qz = 3
  · replace hf := ifT hf c3
    obtain ⟨rfl, rfl, rfl, rfl⟩ := inj4 hf
    subst c3
    refine lv_aload_n hx hb dX2_restore_0 rfl (lv_at hl 0 rfl) ?_
    refine va_get (v := .int 3) (C := RX2) (T := TX2) (N := 2) hx hb hts hi hown hK hP 0 rfl rfl 1 (by decide) hksize (fun _ h9 => h9) rfl dX2_restore_1 ?_
    refine lv_if_le (tgt := 30) hx hb dX2_restore_4 (by decide) (fun c => absurd c c0) (fun _ => ?_)
    refine lv_aload_n hx hb dX2_restore_7 rfl (lv_at hl 0 rfl) ?_
    refine lv_dup hx hb dX2_restore_8 rfl ?_
    refine va_get (v := .int 3) (C := RX2) (T := TX2) (N := 2) hx hb hts hi hown hK hP 0 rfl rfl 1 (by decide) hksize (fun _ h9 => h9) rfl dX2_restore_9 ?_
    refine lv_iconst (v := 1) hx hb dX2_restore_12 (by decide) ?_
    refine lv_isub hx hb dX2_restore_13 ?_
    rw [show ((3 : Int32) - 1) = 2 from by decide]
    refine xputI (wn := (wH ks h qA 2 qS ++ wF ks a F)) (C := RX2) (T := TX2) (N := 2) hx hb hts hi tyX2 tyX2_ok nmX2 hown hK hP hD hS 0 rfl rfl 1 (by decide) hksize (fun _ h9 => h9) rfl (by decide +kernel) (Nat.le_of_ble_eq_true rfl) dX2_restore_14 rfl (fun H locs hP hD hS => ?_)
    refine lv_aload_n hx hb dX2_restore_17 rfl (lv_at hl 1 rfl) ?_
    refine lv_aload_n hx hb dX2_restore_18 rfl (lv_at hl 0 rfl) ?_
    refine va_get (v := .ref h.2) (C := RX2) (T := TX2) (N := 2) hx hb hts hi hown hK hP 0 rfl rfl 0 (by decide) hkstates (fun _ h9 => h9) rfl dX2_restore_19 ?_
    refine lv_aload_n hx hb dX2_restore_22 rfl (lv_at hl 0 rfl) ?_
    refine va_get (v := .int 2) (C := RX2) (T := TX2) (N := 2) hx hb hts hi hown hK hP 0 rfl rfl 1 (by decide) hksize (fun _ h9 => h9) rfl dX2_restore_23 ?_
    refine xa_aldq (q := (qA 2).1) hx hb hK hP 1 2 rfl rfl (by unfold vp_in; decide) rfl dX2_restore_26 ?_
    refine xcallV (As := [.ref (qA 2).1]) (rest := []) (wc := (wF ks a F ++ wF ks (qA 2) (qS 2))) (w1 := (wF ks a (qS 2) ++ wF ks (qA 2) (qS 2))) (wr := ([(h.1, .inr (2, [.ref h.2, .int 2])), (h.2, .inl (ks.2.2, 5, .inr (.inr (.inr (.inr (fun i => some (qA i).1))))))] ++ (wF ks (qA 0) (qS 0) ++ (wF ks (qA 1) (qS 1) ++ (wF ks (qA 3) (qS 3) ++ (wF ks (qA 4) (qS 4))))))) (wn := (wH ks h qA 2 qS ++ wF ks a (qS 2))) ⟨hx, hb, hml, hown, hts⟩ (c_X0_copyFrom k a (qA 2) F (qS 2) (qS 2) rfl) (cwV 1 hts gX2_restore_X0_copyFrom rfl rfl rfl (by decide +kernel) ⟨Nat.le_of_ble_eq_true rfl, Nat.le_of_ble_eq_true rfl⟩) hX hP hD hS hA [22, 23, 24, 25, 10, 11, 12, 13] [0, 1, 2, 3, 4, 5, 6, 7, 8, 9, 14, 15, 16, 17, 18, 19, 20, 21] [0, 1, 2, 3, 4, 5, 6, 7, 8, 9, 22, 23, 24, 25, 10, 11, 12, 13, 14, 15, 16, 17, 18, 19, 20, 21] rfl rfl rfl ⟨by decide, by decide, by decide⟩ (by decide) (ci := 0) (q0 := 0) rfl rfl rfl hl.1 rfl (Nat.le_of_ble_eq_true rfl) dX2_restore_27 ⟨Nat.zero_le _, Nat.zero_le _⟩ (fun H locs hP hD hS => ?_)
    exact hret _ _ _ _ dX2_restore_30 hP hD hS
  replace hf := ifF hf c3
  by_cases c4 : qz = 4
  · replace hf := ifT hf c4
    obtain ⟨rfl, rfl, rfl, rfl⟩ := inj4 hf
    subst c4
    refine lv_aload_n hx hb dX2_restore_0 rfl (lv_at hl 0 rfl) ?_
    refine va_get (v := .int 4) (C := RX2) (T := TX2) (N := 2) hx hb hts hi hown hK hP 0 rfl rfl 1 (by decide) hksize (fun _ h9 => h9) rfl dX2_restore_1 ?_
    refine lv_if_le (tgt := 30) hx hb dX2_restore_4 (by decide) (fun c => absurd c c0) (fun _ => ?_)
    refine lv_aload_n hx hb dX2_restore_7 rfl (lv_at hl 0 rfl) ?_
    refine lv_dup hx hb dX2_restore_8 rfl ?_
    refine va_get (v := .int 4) (C := RX2) (T := TX2) (N := 2) hx hb hts hi hown hK hP 0 rfl rfl 1 (by decide) hksize (fun _ h9 => h9) rfl dX2_restore_9 ?_
    refine lv_iconst (v := 1) hx hb dX2_restore_12 (by decide) ?_
    refine lv_isub hx hb dX2_restore_13 ?_
    rw [show ((4 : Int32) - 1) = 3 from by decide]
    refine xputI (wn := (wH ks h qA 3 qS ++ wF ks a F)) (C := RX2) (T := TX2) (N := 2) hx hb hts hi tyX2 tyX2_ok nmX2 hown hK hP hD hS 0 rfl rfl 1 (by decide) hksize (fun _ h9 => h9) rfl (by decide +kernel) (Nat.le_of_ble_eq_true rfl) dX2_restore_14 rfl (fun H locs hP hD hS => ?_)
    refine lv_aload_n hx hb dX2_restore_17 rfl (lv_at hl 1 rfl) ?_
    refine lv_aload_n hx hb dX2_restore_18 rfl (lv_at hl 0 rfl) ?_
    refine va_get (v := .ref h.2) (C := RX2) (T := TX2) (N := 2) hx hb hts hi hown hK hP 0 rfl rfl 0 (by decide) hkstates (fun _ h9 => h9) rfl dX2_restore_19 ?_
    refine lv_aload_n hx hb dX2_restore_22 rfl (lv_at hl 0 rfl) ?_
    refine va_get (v := .int 3) (C := RX2) (T := TX2) (N := 2) hx hb hts hi hown hK hP 0 rfl rfl 1 (by decide) hksize (fun _ h9 => h9) rfl dX2_restore_23 ?_
    refine xa_aldq (q := (qA 3).1) hx hb hK hP 1 2 rfl rfl (by unfold vp_in; decide) rfl dX2_restore_26 ?_
    refine xcallV (As := [.ref (qA 3).1]) (rest := []) (wc := (wF ks a F ++ wF ks (qA 3) (qS 3))) (w1 := (wF ks a (qS 3) ++ wF ks (qA 3) (qS 3))) (wr := ([(h.1, .inr (2, [.ref h.2, .int 3])), (h.2, .inl (ks.2.2, 5, .inr (.inr (.inr (.inr (fun i => some (qA i).1))))))] ++ (wF ks (qA 0) (qS 0) ++ (wF ks (qA 1) (qS 1) ++ (wF ks (qA 2) (qS 2) ++ (wF ks (qA 4) (qS 4))))))) (wn := (wH ks h qA 3 qS ++ wF ks a (qS 3))) ⟨hx, hb, hml, hown, hts⟩ (c_X0_copyFrom k a (qA 3) F (qS 3) (qS 3) rfl) (cwV 1 hts gX2_restore_X0_copyFrom rfl rfl rfl (by decide +kernel) ⟨Nat.le_of_ble_eq_true rfl, Nat.le_of_ble_eq_true rfl⟩) hX hP hD hS hA [22, 23, 24, 25, 14, 15, 16, 17] [0, 1, 2, 3, 4, 5, 6, 7, 8, 9, 10, 11, 12, 13, 18, 19, 20, 21] [0, 1, 2, 3, 4, 5, 6, 7, 8, 9, 10, 11, 12, 13, 22, 23, 24, 25, 14, 15, 16, 17, 18, 19, 20, 21] rfl rfl rfl ⟨by decide, by decide, by decide⟩ (by decide) (ci := 0) (q0 := 0) rfl rfl rfl hl.1 rfl (Nat.le_of_ble_eq_true rfl) dX2_restore_27 ⟨Nat.zero_le _, Nat.zero_le _⟩ (fun H locs hP hD hS => ?_)
    exact hret _ _ _ _ dX2_restore_30 hP hD hS
  replace hf := ifF hf c4
  by_cases c5 : qz = 5
  · replace hf := ifT hf c5
    obtain ⟨rfl, rfl, rfl, rfl⟩ := inj4 hf
    subst c5
    refine lv_aload_n hx hb dX2_restore_0 rfl (lv_at hl 0 rfl) ?_
    refine va_get (v := .int 5) (C := RX2) (T := TX2) (N := 2) hx hb hts hi hown hK hP 0 rfl rfl 1 (by decide) hksize (fun _ h9 => h9) rfl dX2_restore_1 ?_
    refine lv_if_le (tgt := 30) hx hb dX2_restore_4 (by decide) (fun c => absurd c c0) (fun _ => ?_)
    refine lv_aload_n hx hb dX2_restore_7 rfl (lv_at hl 0 rfl) ?_
    refine lv_dup hx hb dX2_restore_8 rfl ?_
    refine va_get (v := .int 5) (C := RX2) (T := TX2) (N := 2) hx hb hts hi hown hK hP 0 rfl rfl 1 (by decide) hksize (fun _ h9 => h9) rfl dX2_restore_9 ?_
    refine lv_iconst (v := 1) hx hb dX2_restore_12 (by decide) ?_
    refine lv_isub hx hb dX2_restore_13 ?_
    rw [show ((5 : Int32) - 1) = 4 from by decide]
    refine xputI (wn := (wH ks h qA 4 qS ++ wF ks a F)) (C := RX2) (T := TX2) (N := 2) hx hb hts hi tyX2 tyX2_ok nmX2 hown hK hP hD hS 0 rfl rfl 1 (by decide) hksize (fun _ h9 => h9) rfl (by decide +kernel) (Nat.le_of_ble_eq_true rfl) dX2_restore_14 rfl (fun H locs hP hD hS => ?_)
    refine lv_aload_n hx hb dX2_restore_17 rfl (lv_at hl 1 rfl) ?_
    refine lv_aload_n hx hb dX2_restore_18 rfl (lv_at hl 0 rfl) ?_
    refine va_get (v := .ref h.2) (C := RX2) (T := TX2) (N := 2) hx hb hts hi hown hK hP 0 rfl rfl 0 (by decide) hkstates (fun _ h9 => h9) rfl dX2_restore_19 ?_
    refine lv_aload_n hx hb dX2_restore_22 rfl (lv_at hl 0 rfl) ?_
    refine va_get (v := .int 4) (C := RX2) (T := TX2) (N := 2) hx hb hts hi hown hK hP 0 rfl rfl 1 (by decide) hksize (fun _ h9 => h9) rfl dX2_restore_23 ?_
    refine xa_aldq (q := (qA 4).1) hx hb hK hP 1 2 rfl rfl (by unfold vp_in; decide) rfl dX2_restore_26 ?_
    refine xcallV (As := [.ref (qA 4).1]) (rest := []) (wc := (wF ks a F ++ wF ks (qA 4) (qS 4))) (w1 := (wF ks a (qS 4) ++ wF ks (qA 4) (qS 4))) (wr := ([(h.1, .inr (2, [.ref h.2, .int 4])), (h.2, .inl (ks.2.2, 5, .inr (.inr (.inr (.inr (fun i => some (qA i).1))))))] ++ (wF ks (qA 0) (qS 0) ++ (wF ks (qA 1) (qS 1) ++ (wF ks (qA 2) (qS 2) ++ (wF ks (qA 3) (qS 3))))))) (wn := (wH ks h qA 4 qS ++ wF ks a (qS 4))) ⟨hx, hb, hml, hown, hts⟩ (c_X0_copyFrom k a (qA 4) F (qS 4) (qS 4) rfl) (cwV 1 hts gX2_restore_X0_copyFrom rfl rfl rfl (by decide +kernel) ⟨Nat.le_of_ble_eq_true rfl, Nat.le_of_ble_eq_true rfl⟩) hX hP hD hS hA [22, 23, 24, 25, 18, 19, 20, 21] [0, 1, 2, 3, 4, 5, 6, 7, 8, 9, 10, 11, 12, 13, 14, 15, 16, 17] [0, 1, 2, 3, 4, 5, 6, 7, 8, 9, 10, 11, 12, 13, 14, 15, 16, 17, 22, 23, 24, 25, 18, 19, 20, 21] rfl rfl rfl ⟨by decide, by decide, by decide⟩ (by decide) (ci := 0) (q0 := 0) rfl rfl rfl hl.1 rfl (Nat.le_of_ble_eq_true rfl) dX2_restore_27 ⟨Nat.zero_le _, Nat.zero_le _⟩ (fun H locs hP hD hS => ?_)
    exact hret _ _ _ _ dX2_restore_30 hP hD hS
  replace hf := ifF hf c5
  cases hf
