/-! p23: static methods of the law that make an object of their own and answer true. -/
def xE2 (A : Nat → Prop) (U : State) (H : Heap) : Prop := xEF A U H ∧ xEset A U H
theorem ok_xE2 : EOK xE2 := fun A B u U H H1 h hvm hq hAB => ⟨ok_xEF A B u U H H1 h.1 hvm hq hAB, ok_xEset A B u U H H1 h.2 hvm hq hAB⟩
/-- no argument, nothing of the heap that was there is touched, mc cells of ms slots come, the answer is 1 -/
def MetN (l : Launch) (y : MethodName) (ws : List Cond) (rm : Room) (D : va_G) (ks : K3) (mc ms : Nat) (E : (Nat → Prop) → State → Heap → Prop) : Prop :=
  ∀ sz : Nat, Met l y ws rm (va_Pc [] (fun U => U.heap.size = sz ∧ va_P D vwCl [] U.heap ∧ xK D ks U ∧ va_D (fun _ => True) [] ∧ E (va_A [] sz) U U.heap)) (va_Qi (fun (z : Int32) (_ : Unit) => z = 1) (fun _ t => va_P D vwCl [] t.heap ∧ va_D (va_A [] sz) []) (va_A [] sz)) mc ms (va_A [] sz)
theorem va_P00 (D : va_G) (cl : List vw_C) (H : Heap) : va_P D cl [] H := fun k q h => by simp at h
theorem va_D00 (A : Nat → Prop) : va_D A [] := ⟨fun i j p q h => by simp at h, fun k q h => by simp at h⟩
theorem MetN.of {l : Launch} {y : MethodName} {ws ws' : List Cond} {rm : Room} {D : va_G} {ks : K3} {mc ms : Nat} {E : (Nat → Prop) → State → Heap → Prop} {cc : ByteArray} {maxL : Nat} {ret : Option FieldType} (hy : plainName y.cls = true) (hw : ws = Cond.code y cc maxL ret :: ws')
    (body : ∀ (p : Program) (e : Env) (s : State) (m : MethodId) (below : List Frame) (meth : Method) (c : Code) (Q : State → Prop) (A : Nat → Prop),
      p.tables.exec = Jvm.exec → c.code = cc → c.maxLocals = maxL → (∀ w ∈ ws, w.before ([] : List Value).toArray s = true) → s.vm.findClass y.cls = some m.cls →
      xK D ks s → (∀ q, s.heap.size ≤ q → A q) → E A s s.heap →
      (∀ (H : Heap) (locs : List Loc) (pc : Nat) (ls : Array Slot), decode cc pc = .ok (.ireturn, 1) → (∀ ty, ret = some ty → narrow ty (.int 1) = .int 1) → va_S A s.heap H locs → W p l e rm s m ([] : List Value).toArray below meth c H locs mc ms Q (F0 m pc ls [.int 1])) →
      ∀ (ls : Array Slot), lv_has ls maxL [] → W p l e rm s m ([] : List Value).toArray below meth c s.heap [] 0 0 Q (F0 m 0 ls [])) (hret : ∃ ty, ret = some ty) : MetN l y ws rm D ks mc ms E := by
  intro sz
  obtain ⟨ty, rfl⟩ := hret
  refine Met.ofW (cc := cc) (maxL := maxL) (ret := some ty) hy hw ?_
  intro p e s m args below meth c s₁ B hml hv
  obtain ⟨rfl, hsz, hP, hK, hD, hE⟩ := hv
  have hlocks := B.notSynchronized
  rw [lg_entry_eq]
  subst hsz
  refine body p e s m below meth c _ (va_A [] s.heap.size) B.exec B.bytes hml (atoms_spec (ws := ws) B.pre) (findClass_of_methodNamed B.named) hK (fun q h => Or.inr h) hE (fun H locs pc ls hd hna hS1 => ?_) _ (lv_entry [] (Nat.zero_le _))
  exact W.zret (v := 1) (ty := ty) B.exec B.bytes B.returns (hna ty rfl) (fun t ht hW => ⟨⟨1, (), rfl, rfl, va_P00 _ _ _, va_D00 _⟩, hS1.F ht⟩) hS1.2.2 hd
section MADE
variable {p : Program} {l : Launch} {e : Env} {R : Room} {s : State} {m : MethodId} {args : Array Value} {below : List Frame} {meth : Method} {c : Code} {H H0 : Heap} {locs : List Loc} {cells slots : Nat} {Q : State → Prop} {pc : Nat} {ls : Array Slot} {rest st0 As : List Value} {A : Nat → Prop} {cc bytes : ByteArray} {nL maxL n index mc ms : Nat} {own C : String} {y : MethodName} {ret : Option FieldType} {ws Ts : List Cond} {rm : Room} {D : va_G} {ks : K3} {E : (Nat → Prop) → State → Heap → Prop}
theorem xcallN (S : CallFix p m c cc nL s args Ts own) (hM : MetN l y ws rm D ks mc ms E) (cw : CallB R s args own index y bytes maxL ret ws rm mc ms 0 ∧ (Cond.static y).before args s = true) (hX : xK D ks s) (hS : va_S A s.heap H locs) (hA : ∀ q, s.heap.size ≤ q → A q) (hE : E A s s.heap) (hEO : EOK E)
    (hsize : ls.size = nL) (hW : (rest.map fun v => v.category).sum ≤ 8) (hdg : decode cc pc = .ok (.invokestatic index, 3)) (hf : cells + mc ≤ R.cells ∧ slots + ms ≤ R.slots)
    (kk : ∀ (H1 : Heap) (locs1 : List Loc), va_S A s.heap H1 locs1 → W p l e R s m args below meth c H1 locs1 (cells + mc) (slots + ms) Q (F0 m (pc + 3) ls (.int 1 :: rest))) : W p l e R s m args below meth c H locs cells slots Q (F0 m pc ls rest) := by
  have hD : va_D A [] := va_D00 A
  have hFc : ∀ q, va_A [] H.size q → A q := va_free hD hS hA [] rfl
  refine va_calli (va_runS S (hM H.size) cw ⟨fun a U g mk q => ?_, fun U hU hW => ⟨rfl, by rw [hU], va_P00 _ _ _, xK.moved hW hX, va_D00 _, by rw [hU]; exact hEO _ _ _ _ _ _ hE hW.alike (fun a h1 h2 => hS.2.1 a h1 h2) hFc⟩⟩ rfl rfl hsize rfl (lv_room hW) hdg hf) hS (fun q _ h => hFc q h) hFc (fun r1 u t H1 locs1 ht hvm hw hB hz1 hk1 hS1 => ?_)
  · obtain ⟨q0, q1, qP, qK, qD, qE⟩ := q
    exact ⟨q0, q1, qP, qK.calling, qD, hEO _ _ U _ _ _ qE (Vm.Alike.refl U.vm) (fun _ _ _ => rfl) (fun _ h => h)⟩
  · have hw : r1 = 1 := hw
    subst hw
    exact kk H1 locs1 hS1
end MADE
