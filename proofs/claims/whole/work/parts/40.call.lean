/-! THE LAW: a call that needs more of the start. -/
section LAWC
variable {p : Program} {l : Launch} {e : Env} {R : Room} {s : State} {m : MethodId} {args : Array Value} {below : List Frame} {meth : Method} {c : Code} {H H0 : Heap} {locs : List Loc} {cells slots : Nat} {Q : State → Prop} {pc : Nat} {ls : Array Slot} {rest st0 As : List Value} {A : Nat → Prop} {cc bytes : ByteArray} {nL maxL n index : Nat} {own C : String} {y : MethodName} {ret : Option FieldType} {ws Ts : List Cond} {rm : Room} {D : va_G} {ks : K3} {b : Nat} {wc w1 wr w wn : va_W} {r : Int32} {hz : Prop} {E : (Nat → Prop) → State → Heap → Prop}
theorem xcallIE (S : CallFix p m c cc nL s args Ts own) (hM : MetIE l y ws rm D ks (.ref b :: As) wc w1 r hz E) (cw : CallW R s args own C index y bytes maxL ret ws rm 0 0 n) (hX : xK D ks s) (hP : va_P D vwCl w H) (hD : va_D A w) (hS : va_S A s.heap H locs) (hA : ∀ q, s.heap.size ≤ q → A q)
    (isC isR isN : List Nat) (hC : isC.map (fun i => w[i]?) = wc.map some) (hR : isR.map (fun i => w[i]?) = wr.map some) (hN : isN.map (fun i => (wr ++ w1)[i]?) = wn.map some) (hnd : va_nd isC = true ∧ va_nd isR = true ∧ va_nd isN = true) (hdis : ∀ i ∈ isR, i ∉ isC) (hE : E A s s.heap) (hEO : EOK E)
    {ci q0 : Nat} {T : u_T} {N : Nat} {fs : List Value} (hc : vwCl[ci]? = some (C, T, N)) (he : wc[q0]? = some (b, .inr (ci, fs)))
    (hn : As.length = n) (hsize : ls.size = nL) (hst : st0 = As.reverse ++ .ref b :: rest) (hW : (rest.map fun v => v.category).sum ≤ 8) (hdg : decode cc pc = .ok (.invokevirtual index, 3)) (hf : cells ≤ R.cells ∧ slots ≤ R.slots)
    (kk : hz → ∀ (H1 : Heap) (locs1 : List Loc), va_P D vwCl wn H1 → va_D A wn → va_S A s.heap H1 locs1 → W p l e R s m args below meth c H1 locs1 cells slots Q (F0 m (pc + 3) ls (.int r :: rest))) : W p l e R s m args below meth c H locs cells slots Q (F0 m pc ls st0) := by
  have hDc := hD.sub isC hnd.1 hC
  have hPc : va_P D vwCl wc H := fun k q hk => by
    have h1 : (isC.map (fun i => w[i]?))[k]? = some (some q) := by rw [hC, List.getElem?_map, hk]; rfl
    rw [List.getElem?_map] at h1
    cases hi : isC[k]? with
    | none => rw [hi] at h1; cases h1
    | some i => rw [hi] at h1; exact hP i q (Option.some.inj h1)
  have hFc := va_free hD hS hA isC hC
  refine va_calli (va_runV S (hM H.size) cw ⟨fun a U g mk q => ?_, va_recv hX.1 hPc hc he, fun U hU hW => ⟨rfl, by rw [hU], by rw [hU]; exact hPc, xK.moved hW hX, hDc.weaken (fun _ _ _ _ => trivial), by rw [hU]; exact hEO _ _ _ _ _ _ hE hW.alike (fun a h1 h2 => hS.2.1 a h1 h2) hFc⟩⟩ rfl hn hsize hst (lv_room hW) hdg hf) hS (fun q _ h => hFc q h) hFc (fun r1 u t H1 locs1 ht hvm hw hB hz1 hk1 hS1 => ?_)
  · obtain ⟨q0, q1, qP, qK, qD, qE⟩ := q
    exact ⟨q0, q1, qP, qK.calling, qD, hEO _ _ U _ _ _ qE (Vm.Alike.refl U.vm) (fun _ _ _ => rfl) (fun _ h => h)⟩
  · obtain ⟨hP1, hD1⟩ := hB
    rw [ht] at hP1
    obtain ⟨hP2, hD2⟩ := va_join hP hD isC isR hC hR hnd.2.1 hdis hk1 hFc hP1 hD1
    obtain ⟨rfl, hz2⟩ := hw
    refine kk hz2 H1 locs1 (fun k q hk => ?_) (hD2.sub isN hnd.2.2 hN) hS1
    have h1 : (isN.map (fun i => (wr ++ w1)[i]?))[k]? = some (some q) := by rw [hN, List.getElem?_map, hk]; rfl
    rw [List.getElem?_map] at h1
    cases hi : isN[k]? with
    | none => rw [hi] at h1; cases h1
    | some i => rw [hi] at h1; exact hP2 i q (Option.some.inj h1)
end LAWC
/-- the law's world: the film, its trial, its past, its text, the reference -/
abbrev wL (ks : K3) (o : Nat) (a b : AF) (h : AH) (t : AT) (u : AM) (F G : FD) (qA : Nat → AF) (qz : Int32) (qS : Nat → FD) (T : TD) (M : MD) : va_W := wS o a b h t ++ (wF ks a F ++ (wF ks b G ++ (wH ks h qA qz qS ++ (wT ks t T ++ wM ks u M))))
abbrev lA (s : State) : Nat → Prop := fun q => s.heap.size ≤ q
