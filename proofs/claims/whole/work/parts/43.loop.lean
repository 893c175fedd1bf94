/-! THE LAW: its loop. -/
section LAWL
variable {p : Program} {l : Launch} {e : Env} {s : State} {m : MethodId} {below : List Frame} {meth : Method} {c : Code} {H : Heap} {locs : List Loc} {ls : Array Slot} {D : va_G} {ks : K3} {b0 L k : Nat} {xs : Nat → Int32} {o : Nat} {a b : AF} {h : AH} {t : AT} {u : AM} {F G : FD} {qA : Nat → AF} {qz : Int32} {qS : Nat → FD} {T : TD} {M : MD}
theorem lt4 {L j : Nat} (hL : L ≤ 2048) (hj : j ≤ 4096) (h : ¬ nI L - 4 < nI j) : j + 4 ≤ L := by
  rw [Int32.lt_iff_toInt_lt, show nI L - 4 = nI L - nI 4 from rfl, pk_sub_toInt (by omega) (by decide), nI_toInt (by omega)] at h
  omega
set_option maxHeartbeats 4000000 in
set_option maxRecDepth 100000 in
theorem law_step (hk : 6000 ≤ k) (C0 : lw_At p s m meth c b0 L xs) (hX : xK D ks s) (hE : xEset (lA s) s s.heap) (hL : L ≤ 2048) {i : Nat} (hi : 4 * i ≤ 4096) (hR : RS F qz qS T M) (hP : va_P D vwCl (wL ks o a b h t u F G qA qz qS T M) H) (hD : va_D (lA s) (wL ks o a b h t u F G qA qz qS T M)) (hS : va_S (lA s) s.heap H locs) (hl : lv_has ls 4 [(3, .int (nI (4 * i))), (2, .ref u.1), (1, .ref o), (0, .ref b0)])
    (ih : 4 * i + 4 ≤ L → ∀ (F1 G1 : FD) (A1 : Nat → AF) (z1 : Int32) (S1 : Nat → FD) (T1 : TD) (M1 : MD) (H1 : Heap) (locs1 : List Loc) (ls1 : Array Slot), RS F1 z1 S1 T1 M1 → va_P D vwCl (wL ks o a b h t u F1 G1 A1 z1 S1 T1 M1) H1 → va_D (lA s) (wL ks o a b h t u F1 G1 A1 z1 S1 T1 M1) → va_S (lA s) s.heap H1 locs1 → lv_has ls1 4 [(3, .int (nI (4 * (i + 1)))), (2, .ref u.1), (1, .ref o), (0, .ref b0)] → W p l e room_1 s m #[Value.ref b0] below meth c H1 locs1 39 895 (lw_Z below #[Value.ref b0] s) (F0 m 18 ls1 [])) :
    W p l e room_1 s m #[Value.ref b0] below meth c H locs 39 895 (lw_Z below #[Value.ref b0] s) (F0 m 18 ls []) := by
  obtain ⟨hx, hb, hr, hml, hown, hts, hX0, hbl, hlocks, hgv⟩ := id C0
  have hts := fun w h => hts w (wsL_law_in w h)
  have hA : ∀ q : Nat, s.heap.size ≤ q → lA s q := fun _ h => h
  have hbA : ¬ lA s b0 := Nat.not_le.mpr hbl
  refine lv_iload_n hx hb dL_law_18 rfl (lv_at hl 0 rfl) ?_
  refine lv_aload_n hx hb dL_law_19 rfl (lv_at hl 3 rfl) ?_
  refine va_slen hx hb hX0 hbl hbA hS dL_law_20 ?_
  refine lv_iconst (v := 4) hx hb dL_law_21 (by decide) ?_
  refine lv_isub hx hb dL_law_22 ?_
  refine lv_icmp_gt (tgt := 654) hx hb dL_law_23 (by decide) (fun _ => ?_) (fun g => ?_)
  · refine W.widen (k := 600000) (n := 7302250) (Nat.le_of_ble_eq_true rfl) (Nat.le_of_ble_eq_true rfl) ?_
    refine lv_iconst (v := 1) hx hb dL_law_654 (by decide) ?_
    refine va_forget (fun q hq => hS.2.2 q hq) ?_
    exact lw_ret hx hb hr hlocks dL_law_655
  · have h4 : 4 * i + 4 ≤ L := lt4 hL hi g
    have i0 : vp_in (nI (4 * i)) L := nI_in (by omega) (by omega)
    have i1 : vp_in (nI (4 * i) + 1) L := by
      rw [nI_1]
      exact nI_in (by omega) (by omega)
    have i2 : vp_in (nI (4 * i) + 2) L := by
      show vp_in (nI (4 * i) + nI 2) L
      rw [nI_add]
      exact nI_in (by omega) (by omega)
    have i3 : vp_in (nI (4 * i) + 3) L := by
      show vp_in (nI (4 * i) + nI 3) L
      rw [nI_add]
      exact nI_in (by omega) (by omega)
    have back : ∀ (F1 G1 : FD) (A1 : Nat → AF) (z1 : Int32) (S1 : Nat → FD) (T1 : TD) (M1 : MD) (H1 : Heap) (locs1 : List Loc), RS F1 z1 S1 T1 M1 → va_P D vwCl (wL ks o a b h t u F1 G1 A1 z1 S1 T1 M1) H1 → va_D (lA s) (wL ks o a b h t u F1 G1 A1 z1 S1 T1 M1) → va_S (lA s) s.heap H1 locs1 → W p l e room_1 s m #[Value.ref b0] below meth c H1 locs1 39 895 (lw_Z below #[Value.ref b0] s) (F0 m 648 ls []) := by
      intro F1 G1 A1 z1 S1 T1 M1 H1 locs1 hR1 hP1 hD1 hS1
      refine lv_iinc (v := nI (4 * (i + 1))) (lv' := [(3, .int (nI (4 * (i + 1)))), (2, .ref u.1), (1, .ref o), (0, .ref b0)]) hx hb dL_law_648 hl (k := 0) rfl (nI_add (4 * i) 4) (by decide) rfl (fun ls hl => ?_)
      refine lv_goto (tgt := 18) hx hb dL_law_651 (by decide) ?_
      exact ih h4 F1 G1 A1 z1 S1 T1 M1 H1 locs1 ls hR1 hP1 hD1 hS1 hl
    refine lv_aload_n hx hb dL_law_26 rfl (lv_at hl 3 rfl) ?_
    refine lv_iload_n hx hb dL_law_27 rfl (lv_at hl 0 rfl) ?_
    refine va_sld hx hb hX0 hbl hbA hS i0 dL_law_28 ?_
    refine lv_bipush (v := 31) hx hb dL_law_29 (by decide) ?_
    refine lv_iand hx hb dL_law_31 ?_
    obtain ⟨v, hv, ev⟩ := pk_andE (xs (nI (4 * i)).toNatClampNeg) (m := 31) 5 (by decide)
    refine lv_name (w := nI v) ev.symm ?_
    by_cases c20 : v < 20
    · have hc : v = 0 ∨ v = 1 ∨ v = 2 ∨ v = 3 ∨ v = 4 ∨ v = 5 ∨ v = 6 ∨ v = 7 ∨ v = 8 ∨ v = 9 ∨ v = 10 ∨ v = 11 ∨ v = 12 ∨ v = 13 ∨ v = 14 ∨ v = 15 ∨ v = 16 ∨ v = 17 ∨ v = 18 ∨ v = 19 := by omega
      rcases hc with rfl | rfl | rfl | rfl | rfl | rfl | rfl | rfl | rfl | rfl | rfl | rfl | rfl | rfl | rfl | rfl | rfl | rfl | rfl | rfl
      · exact lv_tableIn (off := 96) (tgt := 128) hx hb dL_law_32 (by decide) (by decide) rfl (by decide) (op_set (k := k) hk hx hb hml hts hown hX hE hX0 hbl i1 i2 i3 hR hP hD hS hl back)
      · exact lv_tableIn (off := 129) (tgt := 161) hx hb dL_law_32 (by decide) (by decide) rfl (by decide) (op_dip (k := k) hk hx hb hml hts hown hX hE hX0 hbl i1 i2 i3 hR hP hD hS hl back)
      · exact lv_tableIn (off := 172) (tgt := 204) hx hb dL_law_32 (by decide) (by decide) rfl (by decide) (op_pour (k := k) hk hx hb hml hts hown hX hE hX0 hbl i1 i2 i3 hR hP hD hS hl back)
      · exact lv_tableIn (off := 205) (tgt := 237) hx hb dL_law_32 (by decide) (by decide) rfl (by decide) (op_add (k := k) hk hx hb hml hts hown hX hE hX0 hbl i1 i2 i3 hR hP hD hS hl back)
      · exact lv_tableIn (off := 228) (tgt := 260) hx hb dL_law_32 (by decide) (by decide) rfl (by decide) (op_thin (k := k) hk hx hb hml hts hown hX hE hX0 hbl i1 i2 i3 hR hP hD hS hl back)
      · exact lv_tableIn (off := 261) (tgt := 293) hx hb dL_law_32 (by decide) (by decide) rfl (by decide) (op_cut (k := k) hk hx hb hml hts hown hX hE hX0 hbl i1 i2 i3 hR hP hD hS hl back)
      · exact lv_tableIn (off := 274) (tgt := 306) hx hb dL_law_32 (by decide) (by decide) rfl (by decide) (op_go (k := k) hk hx hb hml hts hown hX hE hX0 hbl i1 i2 i3 hR hP hD hS hl back)
      · exact lv_tableIn (off := 297) (tgt := 329) hx hb dL_law_32 (by decide) (by decide) rfl (by decide) (op_undo (k := k) hk hx hb hml hts hown hX hE hX0 hbl i1 i2 i3 hR hP hD hS hl back)
      · exact lv_tableIn (off := 310) (tgt := 342) hx hb dL_law_32 (by decide) (by decide) rfl (by decide) (op_row (k := k) hk hx hb hml hts hown hX hE hX0 hbl i1 i2 i3 hR hP hD hS hl back)
      · exact lv_tableIn (off := 343) (tgt := 375) hx hb dL_law_32 (by decide) (by decide) rfl (by decide) (op_count (k := k) hk hx hb hml hts hown hX hE hX0 hbl i1 i2 i3 hR hP hD hS hl back)
      · exact lv_tableIn (off := 366) (tgt := 398) hx hb dL_law_32 (by decide) (by decide) rfl (by decide) (op_ladder (k := k) hk hx hb hml hts hown hX hE hX0 hbl i1 i2 i3 hR hP hD hS hl back)
      · exact lv_tableIn (off := 389) (tgt := 421) hx hb dL_law_32 (by decide) (by decide) rfl (by decide) (op_find (k := k) hk hx hb hml hts hown hX hE hX0 hbl i1 i2 i3 hR hP hD hS hl back)
      · exact lv_tableIn (off := 422) (tgt := 454) hx hb dL_law_32 (by decide) (by decide) rfl (by decide) (op_colourOf (k := k) hk hx hb hml hts hown hX hE hX0 hbl i1 i2 i3 hR hP hD hS hl back)
      · exact lv_tableIn (off := 445) (tgt := 477) hx hb dL_law_32 (by decide) (by decide) rfl (by decide) (op_thicknessFor (k := k) hk hx hb hml hts hown hX hE hX0 hbl i1 i2 i3 hR hP hD hS hl back)
      · exact lv_tableIn (off := 478) (tgt := 510) hx hb dL_law_32 (by decide) (by decide) rfl (by decide) (op_until (k := k) hk hx hb hml hts hown hX hE hX0 hbl i1 i2 i3 hR hP hD hS hl back)
      · exact lv_tableIn (off := 511) (tgt := 543) hx hb dL_law_32 (by decide) (by decide) rfl (by decide) (op_ifGo (k := k) hk hx hb hml hts hown hX hE hX0 hbl i1 i2 i3 hR hP hD hS hl back)
      · exact lv_tableIn (off := 544) (tgt := 576) hx hb dL_law_32 (by decide) (by decide) rfl (by decide) (op_type (k := k) hk hx hb hml hts hown hX hE hX0 hbl i1 i2 i3 hR hP hD hS hl back)
      · exact lv_tableIn (off := 567) (tgt := 599) hx hb dL_law_32 (by decide) (by decide) rfl (by decide) (op_clearText (k := k) hk hx hb hml hts hown hX hE hX0 hbl i1 i2 i3 hR hP hD hS hl back)
      · exact lv_tableIn (off := 580) (tgt := 612) hx hb dL_law_32 (by decide) (by decide) rfl (by decide) (op_fault (k := k) hk hx hb hml hts hown hX hE hX0 hbl i1 i2 i3 hR hP hD hS hl back)
      · exact lv_tableIn (off := 603) (tgt := 635) hx hb dL_law_32 (by decide) (by decide) rfl (by decide) (op_read (k := k) hk hx hb hml hts hown hX hE hX0 hbl i1 i2 i3 hR hP hD hS hl back)
    · refine lv_tableOut (tgt := 648) hx hb dL_law_32 (Or.inr ?_) (by decide) (back F G qA qz qS T M H locs hR hP hD hS)
      rw [nI_toInt (by omega)]
      omega
theorem law_loop (hk : 6000 ≤ k) (C0 : lw_At p s m meth c b0 L xs) (hX : xK D ks s) (hE : xEset (lA s) s s.heap) (hL : L ≤ 2048) : ∀ (d i : Nat) (F G : FD) (qA : Nat → AF) (qz : Int32) (qS : Nat → FD) (T : TD) (M : MD) (H : Heap) (locs : List Loc) (ls : Array Slot), L < 4 * i + 4 * d + 4 → 4 * i ≤ L + 4 → RS F qz qS T M → va_P D vwCl (wL ks o a b h t u F G qA qz qS T M) H → va_D (lA s) (wL ks o a b h t u F G qA qz qS T M) → va_S (lA s) s.heap H locs → lv_has ls 4 [(3, .int (nI (4 * i))), (2, .ref u.1), (1, .ref o), (0, .ref b0)] →
    W p l e room_1 s m #[Value.ref b0] below meth c H locs 39 895 (lw_Z below #[Value.ref b0] s) (F0 m 18 ls [])
  | 0, i, F, G, qA, qz, qS, T, M, H, locs, ls, hd, hi, hR, hP, hD, hS, hl => law_step hk C0 hX hE hL (by omega) hR hP hD hS hl (fun w => absurd w (by omega))
  | d + 1, i, F, G, qA, qz, qS, T, M, H, locs, ls, hd, hi, hR, hP, hD, hS, hl => law_step hk C0 hX hE hL (by omega) hR hP hD hS hl (fun w F1 G1 A1 z1 S1 T1 M1 H1 locs1 ls1 hR1 hP1 hD1 hS1 hl1 => law_loop hk C0 hX hE hL d (i + 1) F1 G1 A1 z1 S1 T1 M1 H1 locs1 ls1 (by omega) (by omega) hR1 hP1 hD1 hS1 hl1)
end LAWL
