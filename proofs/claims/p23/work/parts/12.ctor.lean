/-- more of the start that stays on the way to a callee -/
def EOK (E : (Nat → Prop) → State → Heap → Prop) : Prop := ∀ (A B : Nat → Prop) (u U : State) (H H1 : Heap), E A u H → u.vm.Alike U.vm → (∀ a : Nat, a < H.size → ¬ A a → H1[a]? = H[a]?) → (∀ q, B q → A q) → E B U H1
def E0 (_ : Nat → Prop) (_ : State) (_ : Heap) : Prop := True
abbrev xEF : (Nat → Prop) → State → Heap → Prop := xE1 "FIRST_SETTING" tb_FIRST_SETTING
theorem ok_E0 : EOK E0 := fun _ _ _ _ _ _ _ _ _ _ => trivial
theorem ok_xEF : EOK xEF := fun _ _ _ _ _ _ h hvm hq hAB => h.go hvm hq hAB
theorem ok_xEset : EOK xEset := fun _ _ _ _ _ _ h hvm hq hAB => h.go hvm hq hAB
/-- a constructor: its world wc becomes w1 u for some u; mc cells of ms slots come -/
def MetC {S : Type} (l : Launch) (y : MethodName) (ws : List Cond) (rm : Room) (D : va_G) (ks : K3) (av : List Value) (wc : va_W) (w1 : S → va_W) (post : S → Prop) (mc ms : Nat) (E : (Nat → Prop) → State → Heap → Prop) : Prop :=
  ∀ sz : Nat, Met l y ws rm (va_Pc av (fun U => U.heap.size = sz ∧ va_P D vwCl wc U.heap ∧ xK D ks U ∧ va_D (fun _ => True) wc ∧ E (va_A wc sz) U U.heap)) (va_Qv post (fun u t => va_P D vwCl (w1 u) t.heap ∧ va_D (va_A wc sz) (w1 u)) (va_A wc sz)) mc ms (va_A wc sz)
theorem MetC.of {S : Type} {l : Launch} {y : MethodName} {ws ws' : List Cond} {rm : Room} {D : va_G} {ks : K3} {av : List Value} {wc : va_W} {w1 : S → va_W} {post : S → Prop} {mc ms : Nat} {E : (Nat → Prop) → State → Heap → Prop} {cc : ByteArray} {maxL : Nat} (hy : plainName y.cls = true) (hw : ws = Cond.code y cc maxL none :: ws') (hn : (lg_sl av).length ≤ maxL)
    (body : ∀ (p : Program) (e : Env) (s : State) (m : MethodId) (below : List Frame) (meth : Method) (c : Code) (Q : State → Prop) (A : Nat → Prop),
      p.tables.exec = Jvm.exec → c.code = cc → c.maxLocals = maxL → (∀ w ∈ ws, w.before av.toArray s = true) → s.vm.findClass y.cls = some m.cls → meth.name = y.name →
      va_P D vwCl wc s.heap → xK D ks s → va_D A wc → (∀ q, s.heap.size ≤ q → A q) → E A s s.heap →
      (∀ (u : S) (H : Heap) (locs : List Loc) (pc : Nat) (ls : Array Slot), post u → decode cc pc = .ok (.return_, 1) → va_P D vwCl (w1 u) H → va_D A (w1 u) → va_S A s.heap H locs → W p l e rm s m av.toArray below meth c H locs mc ms Q (F0 m pc ls [])) →
      ∀ (ls : Array Slot), lv_has ls maxL (lv_args 0 av) → W p l e rm s m av.toArray below meth c s.heap [] 0 0 Q (F0 m 0 ls [])) : MetC l y ws rm D ks av wc w1 post mc ms E := by
  intro sz
  refine Met.ofW (cc := cc) (maxL := maxL) (ret := none) hy hw ?_
  intro p e s m args below meth c s₁ B hml hv
  obtain ⟨rfl, hsz, hP, hK, hD, hE⟩ := hv
  have hlocks := B.notSynchronized
  rw [lg_entry_eq]
  subst hsz
  refine body p e s m below meth c _ (va_A wc s.heap.size) B.exec B.bytes hml (atoms_spec (ws := ws) B.pre) (findClass_of_methodNamed B.named) (name_of_methodNamed B.named B.method).1 hP hK hD.self (fun q h => Or.inr h) hE (fun u H locs pc ls hpost hd hP1 hD1 hS1 => ?_) _ (lv_entry av hn)
  exact W.vret B.exec B.bytes B.returns (fun t ht hW => ⟨⟨u, rfl, hpost, by rw [ht]; exact hP1, hD1⟩, hS1.F ht⟩) hS1.2.2 hd
section CTOR
variable {p : Program} {l : Launch} {e : Env} {R : Room} {s : State} {m : MethodId} {args : Array Value} {below : List Frame} {meth : Method} {c : Code} {H H0 : Heap} {locs : List Loc} {cells slots : Nat} {Q : State → Prop} {pc : Nat} {ls : Array Slot} {rest st0 As : List Value} {A : Nat → Prop} {cc bytes : ByteArray} {nL maxL n index mc ms : Nat} {own C : String} {y : MethodName} {ret : Option FieldType} {ws Ts : List Cond} {rm : Room} {D : va_G} {ks : K3} {b : Nat} {wc wr w wn : va_W} {gA : Nat → Int32} {cA : ClassId} {a N' : Nat} {i : Int32}
theorem xnewI (hx : p.tables.exec = Jvm.exec) (hb : c.code = cc) (harr : (Cond.arrayClass .int).before args s = true) (hK : va_K D vwCl (tyK ks) s) (hP : va_P D vwCl w H) (hD : va_D A w) (hS : va_S A H0 H locs) (hA : ∀ q, H0.size ≤ q → A q) (hn : ¬ i < 0) (hN : i.toNatClampNeg = N') (hbytes : N' * componentBytes .int ≤ 536870912) (hcells : cells + 1 ≤ R.cells) (hslots : slots + N' ≤ R.slots) (hdg : decode cc pc = .ok (.newarray .int, 2))
    (kk : ∀ (q : Nat) (H1 : Heap), va_P D vwCl (w ++ [(q, .inl (ks.1, N', .inl (fun _ => 0)))]) H1 → va_D A (w ++ [(q, .inl (ks.1, N', .inl (fun _ => 0)))]) → va_S A H0 H1 locs → W p l e R s m args below meth c H1 locs (cells + 1) (slots + N') Q (F0 m (pc + 2) ls (.ref q :: rest))) : W p l e R s m args below meth c H locs cells slots Q (F0 m pc ls (.int i :: rest)) := by
  refine va_newa (atype := .int) (ty := .int) (a0 := (N', .inl (fun _ => 0))) hx hb harr rfl hK hP hD hS hA (fun cA => rfl) hn hN hbytes hcells hslots hdg (fun q cA H1 hK1 hP1 hD1 hS1 => ?_)
  have e1 : s.vm.findClass ("[" ++ FieldType.int.toString) = some cA := (hK1.2 3 _ rfl).2
  have e2 : s.vm.findClass ("[" ++ FieldType.int.toString) = some ks.1 := (hK1.2 0 _ rfl).2
  obtain rfl := Option.some.inj (e1.symm.trans e2)
  exact kk q H1 hP1 hD1 hS1
theorem xnewC (hx : p.tables.exec = Jvm.exec) (hb : c.code = cc) (harr : (Cond.arrayClass .char).before args s = true) (hK : va_K D vwCl (tyK ks) s) (hP : va_P D vwCl w H) (hD : va_D A w) (hS : va_S A H0 H locs) (hA : ∀ q, H0.size ≤ q → A q) (hn : ¬ i < 0) (hN : i.toNatClampNeg = N') (hbytes : N' * componentBytes .char ≤ 536870912) (hcells : cells + 1 ≤ R.cells) (hslots : slots + N' ≤ R.slots) (hdg : decode cc pc = .ok (.newarray .char, 2))
    (kk : ∀ (q : Nat) (H1 : Heap), va_P D vwCl (w ++ [(q, .inl (ks.2.1, N', .inl (fun _ => 0)))]) H1 → va_D A (w ++ [(q, .inl (ks.2.1, N', .inl (fun _ => 0)))]) → va_S A H0 H1 locs → W p l e R s m args below meth c H1 locs (cells + 1) (slots + N') Q (F0 m (pc + 2) ls (.ref q :: rest))) : W p l e R s m args below meth c H locs cells slots Q (F0 m pc ls (.int i :: rest)) := by
  refine va_newa (atype := .char) (ty := .char) (a0 := (N', .inl (fun _ => 0))) hx hb harr rfl hK hP hD hS hA (fun cA => rfl) hn hN hbytes hcells hslots hdg (fun q cA H1 hK1 hP1 hD1 hS1 => ?_)
  have e1 : s.vm.findClass ("[" ++ FieldType.char.toString) = some cA := (hK1.2 3 _ rfl).2
  have e2 : s.vm.findClass ("[" ++ FieldType.char.toString) = some ks.2.1 := (hK1.2 1 _ rfl).2
  obtain rfl := Option.some.inj (e1.symm.trans e2)
  exact kk q H1 hP1 hD1 hS1
theorem xnewQ (hx : p.tables.exec = Jvm.exec) (hb : c.code = cc) (hown : s.vm.findClass own = some m.cls) (hclink : (Cond.classLink own index "SoapFilm$Film").before args s = true) (hX : xK D ks s) (hP : va_P D vwCl w H) (hD : va_D A w) (hS : va_S A H0 H locs) (hA : ∀ q, H0.size ≤ q → A q) (hn : ¬ i < 0) (hN : i.toNatClampNeg = N') (hbytes : N' * 4 ≤ 536870912) (hcells : cells + 1 ≤ R.cells) (hslots : slots + N' ≤ R.slots) (hdg : decode cc pc = .ok (.anewarray index, 3))
    (kk : ∀ (q : Nat) (H1 : Heap), va_P D vwCl (w ++ [(q, .inl (ks.2.2, N', .inr (.inr (.inr (.inr (fun _ => none))))))]) H1 → va_D A (w ++ [(q, .inl (ks.2.2, N', .inr (.inr (.inr (.inr (fun _ => none))))))]) → va_S A H0 H1 locs → W p l e R s m args below meth c H1 locs (cells + 1) (slots + N') Q (F0 m (pc + 3) ls (.ref q :: rest))) : W p l e R s m args below meth c H locs cells slots Q (F0 m pc ls (.int i :: rest)) := by
  refine va_newq (C := "SoapFilm$Film") hx hb hown hclink hX.2.2.2.2.2 hX.1 hP hD hS hA hn hN hbytes hcells hslots hdg (fun q cA H1 hK1 hP1 hD1 hS1 => ?_)
  obtain ⟨_, _, -, -, -, e1⟩ := (hK1.2 3 _ rfl).2
  obtain ⟨_, _, -, -, -, e2⟩ := (hK1.2 2 _ rfl).2
  obtain rfl := Option.some.inj (e1.symm.trans e2)
  exact kk q H1 hP1 hD1 hS1
/-- a call of a constructor of ours, on an object just made -/
theorem xcallC {S : Type} {w1 : S → va_W} {post : S → Prop} {E : (Nat → Prop) → State → Heap → Prop} (S0 : CallFix p m c cc nL s args Ts own) (hM : MetC l y ws rm D ks (.ref b :: As) wc w1 post mc ms E) (cw : CallB R s args own index y bytes maxL none ws rm mc ms n ∧ y.name = "<init>" ∧ (Cond.instanceMethod y).before args s = true) (hX : xK D ks s) (hP : va_P D vwCl w H) (hD : va_D A w) (hS : va_S A s.heap H locs) (hA : ∀ q, s.heap.size ≤ q → A q)
    (isC isR : List Nat) (hC : isC.map (fun i => w[i]?) = wc.map some) (hR : isR.map (fun i => w[i]?) = wr.map some) (hnd : va_nd isC = true ∧ va_nd isR = true) (hdis : ∀ i ∈ isR, i ∉ isC) (hE : E A s s.heap) (hEO : EOK E)
    (hn : As.length = n) (hsize : ls.size = nL) (hst : st0 = As.reverse ++ .ref b :: rest) (hW : (rest.map fun v => v.category).sum ≤ 8) (hdg : decode cc pc = .ok (.invokespecial index, 3)) (hf : cells + mc ≤ R.cells ∧ slots + ms ≤ R.slots)
    (kk : ∀ (u : S) (H1 : Heap) (locs1 : List Loc), post u → va_P D vwCl (wr ++ w1 u) H1 → va_D A (wr ++ w1 u) → va_S A s.heap H1 locs1 → W p l e R s m args below meth c H1 locs1 (cells + mc) (slots + ms) Q (F0 m (pc + 3) ls rest)) : W p l e R s m args below meth c H locs cells slots Q (F0 m pc ls st0) := by
  have hDc := hD.sub isC hnd.1 hC
  have hPc : va_P D vwCl wc H := fun k q hk => by
    have h1 : (isC.map (fun i => w[i]?))[k]? = some (some q) := by rw [hC, List.getElem?_map, hk]; rfl
    rw [List.getElem?_map] at h1
    cases hi : isC[k]? with
    | none => rw [hi] at h1; cases h1
    | some i => rw [hi] at h1; exact hP i q (Option.some.inj h1)
  have hFc := va_free hD hS hA isC hC
  refine va_callv (va_runI S0 (hM H.size) cw ⟨fun a U g mk q => ?_, fun U hU hW => ⟨rfl, by rw [hU], by rw [hU]; exact hPc, xK.moved hW hX, hDc.weaken (fun _ _ _ _ => trivial), by rw [hU]; exact hEO _ _ _ _ _ _ hE hW.alike (fun a h1 h2 => hS.2.1 a h1 h2) hFc⟩⟩ rfl hn hsize hst (lv_room hW) hdg hf) hS (fun q _ h => hFc q h) hFc (fun u t H1 locs1 ht hvm hw hB hz1 hk1 hS1 => ?_)
  · obtain ⟨q0, q1, qP, qK, qD, qE⟩ := q
    exact ⟨q0, q1, qP, qK.calling, qD, hEO _ _ U _ _ _ qE (Vm.Alike.refl U.vm) (fun _ _ _ => rfl) (fun _ h => h)⟩
  · obtain ⟨hP1, hD1⟩ := hB
    rw [ht] at hP1
    obtain ⟨hP2, hD2⟩ := va_join hP hD isC isR hC hR hnd.2 hdis hk1 hFc hP1 hD1
    exact kk u H1 locs1 hw hP2 hD2 hS1
/-- a whole row is copied out of a table that nobody writes -/
theorem xcopyT {t n0 : Nat} {f : Nat → Int32} (hx : p.tables.exec = Jvm.exec) (hb : c.code = cc) (hml : c.maxLocals = nL) (hsize : ls.size = nL) (hown : s.vm.findClass own = some m.cls) (hlink : (Cond.methodLink own index arraycopyName).before args s = true) (hnat : (Cond.native arraycopyName).before args s = true) (hstat : (Cond.static arraycopyName).before args s = true) (hini : (Cond.initialized "java/lang/System").before args s = true)
    (hK : va_K D vwCl (tyK ks) s) (hP : va_P D vwCl w H) (hD : va_D A w) (hS : va_S A s.heap H locs) (hT : va_T .int t n0 (fun j => .int (f j)) A s s.heap) (q1 : Nat) (ha1 : w[q1]? = some (a, .inl (ks.1, n0, .inl gA))) {N : Int32} (h3 : ¬ N < 0) (h4 : N.toNatClampNeg = n0)
    (hframes : 1 ≤ R.frames) (hlocals : (rest.map fun v => v.category).sum + (nativeFrameWords "java/lang/System" "arraycopy" 5 + 11) ≤ R.locals) (hdg : decode cc pc = .ok (.invokestatic index, 3)) (hw : w.set q1 (a, .inl (ks.1, n0, .inl f)) = wn)
    (kk : ∀ (H1 : Heap) (locs1 : List Loc), va_P D vwCl wn H1 → va_D A wn → va_S A s.heap H1 locs1 → W p l e R s m args below meth c H1 locs1 cells slots Q (F0 m (pc + 3) ls rest)) : W p l e R s m args below meth c H locs cells slots Q (F0 m pc ls (.int N :: .int 0 :: .ref a :: .int 0 :: .ref t :: rest)) := by
  subst hw
  have nn : ∀ z : Int32, ¬ z < 0 → z.toInt = (z.toNatClampNeg : Int) := by
    intro z hz
    have hz0 : (0 : Int) ≤ z.toInt := by
      have := Int32.not_lt.mp hz
      simpa using Int32.le_iff_toInt_le.mp this
    show z.toInt = ((z.toInt.toNat : Nat) : Int)
    omega
  intro T hT0 X
  obtain ⟨scr, g1, g2, g3, g4, g5, g6, g7⟩ := hT
  have hbl : t < s.heap.size := (Array.getElem?_eq_some_iff.mp g1).1
  have hc0 : H[t]? = some scr := by rw [hS.2.1 t hbl g7]; exact g1
  have hc1 : H[a]? = some (vp_cell ks.1 (n0, .inl gA)) := hP q1 _ ha1
  obtain ⟨hs6, k0, hk0, cm0, hkk0⟩ := g2
  obtain ⟨-, k1, hk1, cm1, hkk1⟩ := (hK.2 0 _ rfl).1 n0 (fun j => .int (gA j))
  have z0 : (0 : Int32).toInt = 0 := by decide
  obtain ⟨vm', X', step⟩ := X.arraycopy hx hown hlink hnat hstat hini (src := t) (dst := a) (cs := scr) (cd := vp_cell ks.1 (n0, .inl gA)) (srcPos := 0) (destPos := 0) (n := N) (by rw [hT0]; exact hc0) (by rw [hT0]; exact hc1)
    hs6 (fun _ h => by cases h) g3 (fun h => by cases h) hk0 hk1 hkk0 hkk1 (by simp [refKind]) (by decide) (by decide) h3
    (by rw [z0, nn N h3, h4]; omega)
    (by rw [z0, nn N h3, h4]; show ¬ _ > ((arrV ks.1 n0 (fun j => .int (gA j))).slots.size : Int); rw [arrV_size]; omega)
    (fun vm₁ _ i hi => by
      have e : scr.slots.getD ((0 : Int32).toNatClampNeg + i) .null = .int (f i) := by
        rw [Array.getD_eq_getD_getElem?, show (0 : Int32).toNatClampNeg + i = i from by rw [show (0 : Int32).toNatClampNeg = 0 from rfl]; omega, g6 _ (by omega)]
        rfl
      refine ⟨?_, ?_⟩
      · rw [e]
        rfl
      · rw [e]
        exact trivial)
    (g := F0 m pc ls (.int N :: .int 0 :: .ref a :: .int 0 :: .ref t :: rest)) rfl (by rw [hml, hsize]) (rest := rest) rfl (by rw [hb]; exact hdg) hframes (by show 2 * 0 + _ + _ ≤ _; omega)
  have e1 : copied scr (vp_cell ks.1 (n0, .inl gA)) 0 0 N = vp_cell ks.1 (n0, .inl (va_cpy f gA 0 0 N.toNatClampNeg)) := va_copiedX (fun z => .int z) scr ks.1 (n0 := n0) (n1 := n0) (sp := 0) (dp := 0) (n := N.toNatClampNeg) f gA g6 (by omega)
  have e2 : vp_cell ks.1 (n0, .inl (va_cpy f gA 0 0 N.toNatClampNeg)) = vp_cell ks.1 (n0, .inl f) := vcong (fun j hj => sb_cpy0 (by omega))
  rw [e1, e2] at X' step
  have hl : a < H.size := (Array.getElem?_eq_some_iff.mp hc1).1
  have hheap : ((T.setVm vm').setCell a (vp_cell ks.1 (n0, .inl f))).heap = H.setIfInBounds a (vp_cell ks.1 (n0, .inl f)) := by rw [← hT0]; rfl
  have oq : ∀ q : Nat, q ≠ a → (H.setIfInBounds a (vp_cell ks.1 (n0, .inl f)))[q]? = H[q]? := fun q hq => by simp [Array.getElem?_setIfInBounds, Ne.symm hq]
  obtain ⟨t1, a1, b1⟩ := kk _ _ (hP.set hD ha1 (show (H.setIfInBounds a _)[a]? = some _ by simp [Array.getElem?_setIfInBounds, hl]) oq) (hD.set ha1) ⟨by simp; exact hS.1, fun q g1 g2 => by
      rw [oq q (fun e => g2 (by rw [e]; exact hD.2 q1 _ ha1))]
      exact hS.2.1 q g1 g2, fun q hq => by
      rcases List.mem_append.mp hq with h | h
      · exact hS.2.2 q h
      · obtain ⟨z, -, hz⟩ := List.mem_map.mp h
        rw [← hz]
        exact hD.2 q1 _ ha1⟩ _ hheap X'
  exact ⟨t1, step t1 a1, b1⟩
end CTOR
def fd0 : FD := mkFD (fun _ => 0) tb_FIRST_SETTING (fun _ => 0) 0 0 0 0 0 0 0
def td0 : TD := mkTD (fun _ => 0) (fun _ => 0) 0 0 0 0
def st0M : Nat → Int32 := upd (upd (upd (upd (upd (upd (upd (fun _ => 0) 13 20) 14 1) 15 10) 16 30) 17 5) 18 12) 19 3000
def md0 : MD := mkMD st0M (fun _ => 0) (fun _ => 0) (fun _ => 0) 0 0 0 0 0 0
def gf5 (x0 x1 x2 x3 x4 : Option Nat) : Nat → Option Nat := fun i => match i with
  | 0 => x0
  | 1 => x1
  | 2 => x2
  | 3 => x3
  | _ => x4
def af5 (x0 x1 x2 x3 x4 : AF) : Nat → AF := fun i => match i with
  | 0 => x0
  | 1 => x1
  | 2 => x2
  | 3 => x3
  | _ => x4

theorem xcallCN {p : Program} {l : Launch} {e : Env} {R : Room} {s : State} {m : MethodId} {args : Array Value} {below : List Frame} {meth : Method} {c : Code} {H : Heap} {locs : List Loc} {cells slots : Nat} {Q : State → Prop} {pc : Nat} {ls : Array Slot} {rest st0 As : List Value} {A : Nat → Prop} {cc bytes : ByteArray} {nL maxL n index mc ms : Nat} {own host : String} {y : MethodName} {ws Ts : List Cond} {rm : Room} {D : va_G} {ks : K3} {b : Nat} {wc wr w : va_W} {S : Type} {w1 : S → va_W} {post : S → Prop} {E : (Nat → Prop) → State → Heap → Prop} (S0 : CallFix p m c cc nL s args Ts own) (hM : MetC l y ws rm D ks (.ref b :: As) wc w1 post mc ms E) (cw : va_CN R s args own index y host bytes maxL none ws rm mc ms n ∧ y.name = "<init>" ∧ (Cond.instanceMethod y).before args s = true) (hX : xK D ks s) (hP : va_P D vwCl w H) (hD : va_D A w) (hS : va_S A s.heap H locs) (hA : ∀ q, s.heap.size ≤ q → A q)
    (isC isR : List Nat) (hC : isC.map (fun i => w[i]?) = wc.map some) (hR : isR.map (fun i => w[i]?) = wr.map some) (hnd : va_nd isC = true ∧ va_nd isR = true) (hdis : ∀ i ∈ isR, i ∉ isC) (hE : E A s s.heap) (hEO : EOK E)
    (hn : As.length = n) (hsize : ls.size = nL) (hst : st0 = As.reverse ++ .ref b :: rest) (hW : (rest.map fun v => v.category).sum ≤ 8) (hdg : decode cc pc = .ok (.invokespecial index, 3)) (hf : cells + mc ≤ R.cells ∧ slots + ms ≤ R.slots)
    (kk : ∀ (u : S) (H1 : Heap) (locs1 : List Loc), post u → va_P D vwCl (wr ++ w1 u) H1 → va_D A (wr ++ w1 u) → va_S A s.heap H1 locs1 → W p l e R s m args below meth c H1 locs1 (cells + mc) (slots + ms) Q (F0 m (pc + 3) ls rest)) : W p l e R s m args below meth c H locs cells slots Q (F0 m pc ls st0) := by
  have hDc := hD.sub isC hnd.1 hC
  have hPc : va_P D vwCl wc H := fun k q hk => by
    have h1 : (isC.map (fun i => w[i]?))[k]? = some (some q) := by rw [hC, List.getElem?_map, hk]; rfl
    rw [List.getElem?_map] at h1
    cases hi : isC[k]? with
    | none => rw [hi] at h1; cases h1
    | some i => rw [hi] at h1; exact hP i q (Option.some.inj h1)
  have hFc := va_free hD hS hA isC hC
  refine va_callv (va_runIN S0 (hM H.size) cw ⟨fun a U g mk q => ?_, fun U hU hW => ⟨rfl, by rw [hU], by rw [hU]; exact hPc, xK.moved hW hX, hDc.weaken (fun _ _ _ _ => trivial), by rw [hU]; exact hEO _ _ _ _ _ _ hE hW.alike (fun a h1 h2 => hS.2.1 a h1 h2) hFc⟩⟩ rfl hn hsize hst (lv_room hW) hdg hf) hS (fun q _ h => hFc q h) hFc (fun u t H1 locs1 ht hvm hw hB hz1 hk1 hS1 => ?_)
  · obtain ⟨q0, q1, qP, qK, qD, qE⟩ := q
    exact ⟨q0, q1, qP, qK.calling, qD, hEO _ _ U _ _ _ qE (Vm.Alike.refl U.vm) (fun _ _ _ => rfl) (fun _ h => h)⟩
  · obtain ⟨hP1, hD1⟩ := hB
    rw [ht] at hP1
    obtain ⟨hP2, hD2⟩ := va_join hP hD isC isR hC hR hnd.2 hdis hk1 hFc hP1 hD1
    exact kk u H1 locs1 hw hP2 hD2 hS1

set_option maxHeartbeats 4000000 in
set_option maxRecDepth 100000 in
theorem c_X0_init {l : Launch} {D : va_G} {ks : K3} (q : Nat) : MetC l yX0_init wsX0_init { frames := 1, cells := 3, slots := 38, locals := 26 } D ks [.ref q] [(q, .inr (0, [.null, .null, .null, .int 0, .int 0, .int 0, .int 0, .int 0, .int 0, .int 0]))] (fun u : AF => wF ks u fd0) (fun u : AF => u.1 = q) 3 38 xEF := by
  refine MetC.of (cc := cX0_init) (maxL := 1) (by decide +kernel) rfl (Nat.le_of_ble_eq_true rfl) ?_
  intro p e s m below meth c Q A hx hb hml hts hown hin hP hX hD hA hE hret ls hl
  have hK := hX.1
  replace hl : lv_has ls 1 [(0, .ref q)] := hl
  have hS : va_S A s.heap s.heap [] := va_S.rf
  have hiX0 : ∀ w ∈ wsX00, w ∈ wsX0_init := by decide +kernel
  obtain ⟨t, hZ, hT⟩ := hE
  refine lv_aload_n hx hb dX0_init_0 rfl (lv_at hl 0 rfl) ?_
  refine W.objInit hx hb hown (hts (.methodLink RX0 3 objectInit) (by decide +kernel)) (hts (.instanceMethod objectInit) (by decide +kernel)) (hts (.code objectInit ⟨#[0xb1]⟩ 1 none) (by decide +kernel)) rfl (by rw [hml]; exact hl.1) rfl dX0_init_1 (Nat.le_of_ble_eq_true rfl) (Nat.le_of_ble_eq_true rfl) ?_
  refine W.eq (g2 := F0 m 4 ls []) rfl ?_
  refine lv_aload_n hx hb dX0_init_4 rfl (lv_at hl 0 rfl) ?_
  refine lv_bipush (v := 24) hx hb dX0_init_5 (by decide) ?_
  refine xnewI hx hb (hts (.arrayClass .int) (by decide +kernel)) hK hP hD hS hA (by decide) (N' := 24) rfl (Nat.le_of_ble_eq_true rfl) (Nat.le_of_ble_eq_true rfl) (Nat.le_of_ble_eq_true rfl) dX0_init_7 (fun q7 H hP hD hS => ?_)
  replace hP : va_P D vwCl ([(q, .inr (0, [.null, .null, .null, .int 0, .int 0, .int 0, .int 0, .int 0, .int 0, .int 0])), (q7, .inl (ks.1, 24, .inl (fun _ => 0)))]) H := hP
  replace hD : va_D A ([(q, .inr (0, [.null, .null, .null, .int 0, .int 0, .int 0, .int 0, .int 0, .int 0, .int 0])), (q7, .inl (ks.1, 24, .inl (fun _ => 0)))]) := hD
  refine va_putF (D := D) (ci := 0) (v := .ref q7) (ty := .array .int) (C := RX0) (T := TX0) (N := 10) hx hb hts hiX0 tyX0 tyX0_ok nmX0 hown hK hP hD hS 0 rfl rfl 0 (by decide) (hts (.fieldLink RX0 9 "SoapFilm$Film" "thickness" "[I") (by decide +kernel)) (fun _ h9 => h9) rfl hin rfl (by decide +kernel) rfl rfl (Nat.le_of_ble_eq_true rfl) dX0_init_9 (fun H locs hP hD hS => ?_)
  replace hP : va_P D vwCl ([(q, .inr (0, [.ref q7, .null, .null, .int 0, .int 0, .int 0, .int 0, .int 0, .int 0, .int 0])), (q7, .inl (ks.1, 24, .inl (fun _ => 0)))]) H := hP
  replace hD : va_D A ([(q, .inr (0, [.ref q7, .null, .null, .int 0, .int 0, .int 0, .int 0, .int 0, .int 0, .int 0])), (q7, .inl (ks.1, 24, .inl (fun _ => 0)))]) := hD
  refine lv_aload_n hx hb dX0_init_12 rfl (lv_at hl 0 rfl) ?_
  refine lv_bipush (v := 7) hx hb dX0_init_13 (by decide) ?_
  refine xnewI hx hb (hts (.arrayClass .int) (by decide +kernel)) hK hP hD hS hA (by decide) (N' := 7) rfl (Nat.le_of_ble_eq_true rfl) (Nat.le_of_ble_eq_true rfl) (Nat.le_of_ble_eq_true rfl) dX0_init_15 (fun q15 H hP hD hS => ?_)
  replace hP : va_P D vwCl ([(q, .inr (0, [.ref q7, .null, .null, .int 0, .int 0, .int 0, .int 0, .int 0, .int 0, .int 0])), (q7, .inl (ks.1, 24, .inl (fun _ => 0))), (q15, .inl (ks.1, 7, .inl (fun _ => 0)))]) H := hP
  replace hD : va_D A ([(q, .inr (0, [.ref q7, .null, .null, .int 0, .int 0, .int 0, .int 0, .int 0, .int 0, .int 0])), (q7, .inl (ks.1, 24, .inl (fun _ => 0))), (q15, .inl (ks.1, 7, .inl (fun _ => 0)))]) := hD
  refine va_putF (D := D) (ci := 0) (v := .ref q15) (ty := .array .int) (C := RX0) (T := TX0) (N := 10) hx hb hts hiX0 tyX0 tyX0_ok nmX0 hown hK hP hD hS 0 rfl rfl 1 (by decide) (hts (.fieldLink RX0 15 "SoapFilm$Film" "settings" "[I") (by decide +kernel)) (fun _ h9 => h9) rfl hin rfl (by decide +kernel) rfl rfl (Nat.le_of_ble_eq_true rfl) dX0_init_17 (fun H locs hP hD hS => ?_)
  replace hP : va_P D vwCl ([(q, .inr (0, [.ref q7, .ref q15, .null, .int 0, .int 0, .int 0, .int 0, .int 0, .int 0, .int 0])), (q7, .inl (ks.1, 24, .inl (fun _ => 0))), (q15, .inl (ks.1, 7, .inl (fun _ => 0)))]) H := hP
  replace hD : va_D A ([(q, .inr (0, [.ref q7, .ref q15, .null, .int 0, .int 0, .int 0, .int 0, .int 0, .int 0, .int 0])), (q7, .inl (ks.1, 24, .inl (fun _ => 0))), (q15, .inl (ks.1, 7, .inl (fun _ => 0)))]) := hD
  refine lv_aload_n hx hb dX0_init_20 rfl (lv_at hl 0 rfl) ?_
  refine lv_bipush (v := 7) hx hb dX0_init_21 (by decide) ?_
  refine xnewI hx hb (hts (.arrayClass .int) (by decide +kernel)) hK hP hD hS hA (by decide) (N' := 7) rfl (Nat.le_of_ble_eq_true rfl) (Nat.le_of_ble_eq_true rfl) (Nat.le_of_ble_eq_true rfl) dX0_init_23 (fun q23 H hP hD hS => ?_)
  replace hP : va_P D vwCl ([(q, .inr (0, [.ref q7, .ref q15, .null, .int 0, .int 0, .int 0, .int 0, .int 0, .int 0, .int 0])), (q7, .inl (ks.1, 24, .inl (fun _ => 0))), (q15, .inl (ks.1, 7, .inl (fun _ => 0))), (q23, .inl (ks.1, 7, .inl (fun _ => 0)))]) H := hP
  replace hD : va_D A ([(q, .inr (0, [.ref q7, .ref q15, .null, .int 0, .int 0, .int 0, .int 0, .int 0, .int 0, .int 0])), (q7, .inl (ks.1, 24, .inl (fun _ => 0))), (q15, .inl (ks.1, 7, .inl (fun _ => 0))), (q23, .inl (ks.1, 7, .inl (fun _ => 0)))]) := hD
  refine va_putF (D := D) (ci := 0) (v := .ref q23) (ty := .array .int) (C := RX0) (T := TX0) (N := 10) hx hb hts hiX0 tyX0 tyX0_ok nmX0 hown hK hP hD hS 0 rfl rfl 2 (by decide) (hts (.fieldLink RX0 18 "SoapFilm$Film" "accounts" "[I") (by decide +kernel)) (fun _ h9 => h9) rfl hin rfl (by decide +kernel) rfl rfl (Nat.le_of_ble_eq_true rfl) dX0_init_25 (fun H locs hP hD hS => ?_)
  replace hP : va_P D vwCl ([(q, .inr (0, [.ref q7, .ref q15, .ref q23, .int 0, .int 0, .int 0, .int 0, .int 0, .int 0, .int 0])), (q7, .inl (ks.1, 24, .inl (fun _ => 0))), (q15, .inl (ks.1, 7, .inl (fun _ => 0))), (q23, .inl (ks.1, 7, .inl (fun _ => 0)))]) H := hP
  replace hD : va_D A ([(q, .inr (0, [.ref q7, .ref q15, .ref q23, .int 0, .int 0, .int 0, .int 0, .int 0, .int 0, .int 0])), (q7, .inl (ks.1, 24, .inl (fun _ => 0))), (q15, .inl (ks.1, 7, .inl (fun _ => 0))), (q23, .inl (ks.1, 7, .inl (fun _ => 0)))]) := hD
  refine va_getsN hx hb hZ hS hown (va_Nw.use rfl hX.2.2.2.2.1) (fun _ h9 => h9) dX0_init_28 ?_
  refine lv_iconst (v := 0) hx hb dX0_init_31 (by decide) ?_
  refine lv_aload_n hx hb dX0_init_32 rfl (lv_at hl 0 rfl) ?_
  refine va_get (v := .ref q15) (C := RX0) (T := TX0) (N := 10) hx hb hts hiX0 hown hK hP 0 rfl rfl 1 (by decide) (hts (.fieldLink RX0 15 "SoapFilm$Film" "settings" "[I") (by decide +kernel)) (fun _ h9 => h9) rfl dX0_init_33 ?_
  refine lv_iconst (v := 0) hx hb dX0_init_36 (by decide) ?_
  refine lv_bipush (v := 7) hx hb dX0_init_37 (by decide) ?_
  refine xcopyT (wn := ([(q, .inr (0, [.ref q7, .ref q15, .ref q23, .int 0, .int 0, .int 0, .int 0, .int 0, .int 0, .int 0])), (q7, .inl (ks.1, 24, .inl (fun _ => 0))), (q15, .inl (ks.1, 7, .inl tb_FIRST_SETTING)), (q23, .inl (ks.1, 7, .inl (fun _ => 0)))])) hx hb hml hl.1 hown (hts (.methodLink RX0 24 arraycopyName) (by decide +kernel)) (hts (.native arraycopyName) (by decide +kernel)) (hts (.static arraycopyName) (by decide +kernel)) (hts (.initialized "java/lang/System") (by decide +kernel)) hK hP hD hS hT 2 rfl (by decide) rfl (Nat.le_of_ble_eq_true rfl) (Nat.le_of_ble_eq_true rfl) dX0_init_39 rfl (fun H locs hP hD hS => ?_)
  refine W.widen (k := 3) (n := 38) (Nat.le_of_ble_eq_true rfl) (Nat.le_of_ble_eq_true rfl) ?_
  exact hret (q, q7, q15, q23) _ _ _ _ rfl dX0_init_42 hP hD hS
set_option maxHeartbeats 4000000 in
set_option maxRecDepth 100000 in
theorem c_X1_init {l : Launch} {D : va_G} {ks : K3} (q : Nat) : MetC l yX1_init wsX1_init { frames := 1, cells := 2, slots := 124, locals := 20 } D ks [.ref q] [(q, .inr (1, [.null, .int 0, .null, .int 0, .int 0, .int 0]))] (fun u : AT => wT ks u td0) (fun u : AT => u.1 = q) 2 124 E0 := by
  refine MetC.of (cc := cX1_init) (maxL := 1) (by decide +kernel) rfl (Nat.le_of_ble_eq_true rfl) ?_
  intro p e s m below meth c Q A hx hb hml hts hown hin hP hX hD hA hE hret ls hl
  have hK := hX.1
  replace hl : lv_has ls 1 [(0, .ref q)] := hl
  have hS : va_S A s.heap s.heap [] := va_S.rf
  have hiX1 : ∀ w ∈ wsX10, w ∈ wsX1_init := by decide +kernel
  refine lv_aload_n hx hb dX1_init_0 rfl (lv_at hl 0 rfl) ?_
  refine W.objInit hx hb hown (hts (.methodLink RX1 3 objectInit) (by decide +kernel)) (hts (.instanceMethod objectInit) (by decide +kernel)) (hts (.code objectInit ⟨#[0xb1]⟩ 1 none) (by decide +kernel)) rfl (by rw [hml]; exact hl.1) rfl dX1_init_1 (Nat.le_of_ble_eq_true rfl) (Nat.le_of_ble_eq_true rfl) ?_
  refine W.eq (g2 := F0 m 4 ls []) rfl ?_
  refine lv_aload_n hx hb dX1_init_4 rfl (lv_at hl 0 rfl) ?_
  refine lv_bipush (v := 100) hx hb dX1_init_5 (by decide) ?_
  refine xnewC hx hb (hts (.arrayClass .char) (by decide +kernel)) hK hP hD hS hA (by decide) (N' := 100) rfl (Nat.le_of_ble_eq_true rfl) (Nat.le_of_ble_eq_true rfl) (Nat.le_of_ble_eq_true rfl) dX1_init_7 (fun q7 H hP hD hS => ?_)
  replace hP : va_P D vwCl ([(q, .inr (1, [.null, .int 0, .null, .int 0, .int 0, .int 0])), (q7, .inl (ks.2.1, 100, .inl (fun _ => 0)))]) H := hP
  replace hD : va_D A ([(q, .inr (1, [.null, .int 0, .null, .int 0, .int 0, .int 0])), (q7, .inl (ks.2.1, 100, .inl (fun _ => 0)))]) := hD
  refine va_putF (D := D) (ci := 1) (v := .ref q7) (ty := .array .char) (C := RX1) (T := TX1) (N := 6) hx hb hts hiX1 tyX1 tyX1_ok nmX1 hown hK hP hD hS 0 rfl rfl 0 (by decide) (hts (.fieldLink RX1 11 "SoapFilm$FilmText" "signs" "[C") (by decide +kernel)) (fun _ h9 => h9) rfl hin rfl (by decide +kernel) rfl rfl (Nat.le_of_ble_eq_true rfl) dX1_init_9 (fun H locs hP hD hS => ?_)
  replace hP : va_P D vwCl ([(q, .inr (1, [.ref q7, .int 0, .null, .int 0, .int 0, .int 0])), (q7, .inl (ks.2.1, 100, .inl (fun _ => 0)))]) H := hP
  replace hD : va_D A ([(q, .inr (1, [.ref q7, .int 0, .null, .int 0, .int 0, .int 0])), (q7, .inl (ks.2.1, 100, .inl (fun _ => 0)))]) := hD
  refine lv_aload_n hx hb dX1_init_12 rfl (lv_at hl 0 rfl) ?_
  refine lv_bipush (v := 24) hx hb dX1_init_13 (by decide) ?_
  refine xnewI hx hb (hts (.arrayClass .int) (by decide +kernel)) hK hP hD hS hA (by decide) (N' := 24) rfl (Nat.le_of_ble_eq_true rfl) (Nat.le_of_ble_eq_true rfl) (Nat.le_of_ble_eq_true rfl) dX1_init_15 (fun q15 H hP hD hS => ?_)
  replace hP : va_P D vwCl ([(q, .inr (1, [.ref q7, .int 0, .null, .int 0, .int 0, .int 0])), (q7, .inl (ks.2.1, 100, .inl (fun _ => 0))), (q15, .inl (ks.1, 24, .inl (fun _ => 0)))]) H := hP
  replace hD : va_D A ([(q, .inr (1, [.ref q7, .int 0, .null, .int 0, .int 0, .int 0])), (q7, .inl (ks.2.1, 100, .inl (fun _ => 0))), (q15, .inl (ks.1, 24, .inl (fun _ => 0)))]) := hD
  refine va_putF (D := D) (ci := 1) (v := .ref q15) (ty := .array .int) (C := RX1) (T := TX1) (N := 6) hx hb hts hiX1 tyX1 tyX1_ok nmX1 hown hK hP hD hS 0 rfl rfl 2 (by decide) (hts (.fieldLink RX1 15 "SoapFilm$FilmText" "thickness" "[I") (by decide +kernel)) (fun _ h9 => h9) rfl hin rfl (by decide +kernel) rfl rfl (Nat.le_of_ble_eq_true rfl) dX1_init_17 (fun H locs hP hD hS => ?_)
  replace hP : va_P D vwCl ([(q, .inr (1, [.ref q7, .int 0, .ref q15, .int 0, .int 0, .int 0])), (q7, .inl (ks.2.1, 100, .inl (fun _ => 0))), (q15, .inl (ks.1, 24, .inl (fun _ => 0)))]) H := hP
  replace hD : va_D A ([(q, .inr (1, [.ref q7, .int 0, .ref q15, .int 0, .int 0, .int 0])), (q7, .inl (ks.2.1, 100, .inl (fun _ => 0))), (q15, .inl (ks.1, 24, .inl (fun _ => 0)))]) := hD
  refine W.widen (k := 2) (n := 124) (Nat.le_of_ble_eq_true rfl) (Nat.le_of_ble_eq_true rfl) ?_
  exact hret (q, q7, q15) _ _ _ _ rfl dX1_init_20 hP hD hS
set_option maxHeartbeats 4000000 in
set_option maxRecDepth 100000 in
theorem c_X2_init {l : Launch} {D : va_G} {ks : K3} (q : Nat) : MetC l yX2_init wsX2_init { frames := 2, cells := 21, slots := 245, locals := 46 } D ks [.ref q] [(q, .inr (2, [.null, .int 0]))] (fun u : Nat × (Nat → AF) => wH ks (q, u.1) u.2 0 (fun _ => fd0)) (fun _ : Nat × (Nat → AF) => True) 21 245 xEF := by
  refine MetC.of (cc := cX2_init) (maxL := 2) (by decide +kernel) rfl (Nat.le_of_ble_eq_true rfl) ?_
  intro p e s m below meth c Q A hx hb hml hts hown hin hP hX hD hA hE hret ls hl
  have hK := hX.1
  replace hl : lv_has ls 2 [(0, .ref q)] := hl
  have hS : va_S A s.heap s.heap [] := va_S.rf
  have hiX2 : ∀ w ∈ wsX20, w ∈ wsX2_init := by decide +kernel
  refine lv_aload_n hx hb dX2_init_0 rfl (lv_at hl 0 rfl) ?_
  refine W.objInit hx hb hown (hts (.methodLink RX2 1 objectInit) (by decide +kernel)) (hts (.instanceMethod objectInit) (by decide +kernel)) (hts (.code objectInit ⟨#[0xb1]⟩ 1 none) (by decide +kernel)) rfl (by rw [hml]; exact hl.1) rfl dX2_init_1 (Nat.le_of_ble_eq_true rfl) (Nat.le_of_ble_eq_true rfl) ?_
  refine W.eq (g2 := F0 m 4 ls []) rfl ?_
  refine lv_aload_n hx hb dX2_init_4 rfl (lv_at hl 0 rfl) ?_
  refine lv_iconst (v := 5) hx hb dX2_init_5 (by decide) ?_
  refine xnewQ hx hb hown (hts (.classLink RX2 9 RX0) (by decide +kernel)) hX hP hD hS hA (by decide) (N' := 5) rfl (Nat.le_of_ble_eq_true rfl) (Nat.le_of_ble_eq_true rfl) (Nat.le_of_ble_eq_true rfl) dX2_init_6 (fun q6 H hP hD hS => ?_)
  replace hP : va_P D vwCl ([(q, .inr (2, [.null, .int 0])), (q6, .inl (ks.2.2, 5, .inr (.inr (.inr (.inr (fun _ => none))))))]) H := hP
  replace hD : va_D A ([(q, .inr (2, [.null, .int 0])), (q6, .inl (ks.2.2, 5, .inr (.inr (.inr (.inr (fun _ => none))))))]) := hD
  refine va_putF (D := D) (ci := 2) (v := .ref q6) (ty := .array (.object "SoapFilm$Film")) (C := RX2) (T := TX2) (N := 2) hx hb hts hiX2 tyX2 tyX2_ok nmX2 hown hK hP hD hS 0 rfl rfl 0 (by decide) (hts (.fieldLink RX2 11 "SoapFilm$History" "states" "[LSoapFilm$Film;") (by decide +kernel)) (fun _ h9 => h9) rfl hin rfl (by decide +kernel) rfl rfl (Nat.le_of_ble_eq_true rfl) dX2_init_9 (fun H locs hP hD hS => ?_)
  replace hP : va_P D vwCl ([(q, .inr (2, [.ref q6, .int 0])), (q6, .inl (ks.2.2, 5, .inr (.inr (.inr (.inr (fun _ => none))))))]) H := hP
  replace hD : va_D A ([(q, .inr (2, [.ref q6, .int 0])), (q6, .inl (ks.2.2, 5, .inr (.inr (.inr (.inr (fun _ => none))))))]) := hD
  refine lv_iconst (v := 0) hx hb dX2_init_12 (by decide) ?_
  refine lv_istore_n (lv' := [(1, .int 0), (0, .ref q)]) hx hb dX2_init_13 rfl hl (by decide) rfl (fun ls hl => ?_)
  refine lv_iload_n hx hb dX2_init_14 rfl (lv_at hl 0 rfl) ?_
  refine lv_iconst (v := 5) hx hb dX2_init_15 (by decide) ?_
  refine lv_icmp_ge (tgt := 38) hx hb dX2_init_16 (by decide) (fun c => absurd c (by decide)) (fun _ => ?_)
  refine lv_aload_n hx hb dX2_init_19 rfl (lv_at hl 1 rfl) ?_
  refine va_get (v := .ref q6) (C := RX2) (T := TX2) (N := 2) hx hb hts hiX2 hown hK hP 0 rfl rfl 0 (by decide) (hts (.fieldLink RX2 11 "SoapFilm$History" "states" "[LSoapFilm$Film;") (by decide +kernel)) (fun _ h9 => h9) rfl dX2_init_20 ?_
  refine lv_iload_n hx hb dX2_init_23 rfl (lv_at hl 0 rfl) ?_
  refine va_new (ci := 0) (fs := [.null, .null, .null, .int 0, .int 0, .int 0, .int 0, .int 0, .int 0, .int 0]) (C := RX0) (T := TX0) (N := 10) hx hb hts (by decide +kernel) tyX0 tyX0_ok hown (hts (.classLink RX2 9 RX0) (by decide +kernel)) (hts (.instantiable RX0 10) (by decide +kernel)) (hts (.initialized RX0) (by decide +kernel)) hK hP hD hS hA rfl (fun j hj => by rcases (show j = 0 ∨ j = 1 ∨ j = 2 ∨ j = 3 ∨ j = 4 ∨ j = 5 ∨ j = 6 ∨ j = 7 ∨ j = 8 ∨ j = 9 by omega) with rfl | rfl | rfl | rfl | rfl | rfl | rfl | rfl | rfl | rfl <;> rfl) (Nat.le_of_ble_eq_true rfl) (Nat.le_of_ble_eq_true rfl) dX2_init_24 (fun q24_0 H hP hD hS => ?_)
  replace hP : va_P D vwCl ([(q, .inr (2, [.ref q6, .int 0])), (q6, .inl (ks.2.2, 5, .inr (.inr (.inr (.inr (fun _ => none)))))), (q24_0, .inr (0, [.null, .null, .null, .int 0, .int 0, .int 0, .int 0, .int 0, .int 0, .int 0]))]) H := hP
  replace hD : va_D A ([(q, .inr (2, [.ref q6, .int 0])), (q6, .inl (ks.2.2, 5, .inr (.inr (.inr (.inr (fun _ => none)))))), (q24_0, .inr (0, [.null, .null, .null, .int 0, .int 0, .int 0, .int 0, .int 0, .int 0, .int 0]))]) := hD
  refine lv_dup hx hb dX2_init_27 rfl ?_
  refine xcallC (As := []) (rest := [.ref q24_0, .int 0, .ref q6]) (wc := [(q24_0, .inr (0, [.null, .null, .null, .int 0, .int 0, .int 0, .int 0, .int 0, .int 0, .int 0]))]) (wr := ([(q, .inr (2, [.ref q6, .int 0])), (q6, .inl (ks.2.2, 5, .inr (.inr (.inr (.inr (fun _ => none))))))])) ⟨hx, hb, hml, hown, hts⟩ (c_X0_init q24_0) (cwI 0 hts gX2_init_X0_init rfl rfl rfl (hts (.initialized RX0) (by decide +kernel)) (hts (.methodLink RX2 15 yX0_init) (by decide +kernel)) (hts (.instanceMethod yX0_init) (by decide +kernel)) rfl (by decide +kernel) ⟨Nat.le_of_ble_eq_true rfl, Nat.le_of_ble_eq_true rfl⟩) hX hP hD hS hA [2] [0, 1] rfl rfl ⟨by decide, by decide⟩ (by decide) hE ok_xEF rfl hl.1 rfl (Nat.le_of_ble_eq_true rfl) dX2_init_28 ⟨Nat.le_of_ble_eq_true rfl, Nat.le_of_ble_eq_true rfl⟩ (fun u28_1 H locs hu hP2 hD2 hS => ?_)
  try dsimp only at hu
  subst hu
  have hP : va_P D vwCl ([(q, .inr (2, [.ref q6, .int 0])), (q6, .inl (ks.2.2, 5, .inr (.inr (.inr (.inr (fun _ => none))))))] ++ wF ks u28_1 fd0) H := hP2
  have hD : va_D A ([(q, .inr (2, [.ref q6, .int 0])), (q6, .inl (ks.2.2, 5, .inr (.inr (.inr (.inr (fun _ => none))))))] ++ wF ks u28_1 fd0) := hD2
  clear hP2 hD2
  refine xa_astq (g := (gf5 (some u28_1.1) none none none none)) (wn := ([(q, .inr (2, [.ref q6, .int 0])), (q6, .inl (ks.2.2, 5, .inr (.inr (.inr (.inr (gf5 (some u28_1.1) none none none none))))))] ++ wF ks u28_1 fd0)) hx hb hK hP hD hS 1 2 2 0 rfl rfl rfl rfl (by unfold vp_in; decide) (five rfl rfl rfl rfl rfl) dX2_init_31 rfl (fun H locs hP hD hS => ?_)
  refine lv_iinc (v := 1) (lv' := [(1, .int 1), (0, .ref q)]) hx hb dX2_init_32 hl (k := 0) rfl (by decide) (by decide) rfl (fun ls hl => ?_)
  refine lv_goto (tgt := 14) hx hb dX2_init_35 (by decide) ?_
  refine lv_iload_n hx hb dX2_init_14 rfl (lv_at hl 0 rfl) ?_
  refine lv_iconst (v := 5) hx hb dX2_init_15 (by decide) ?_
  refine lv_icmp_ge (tgt := 38) hx hb dX2_init_16 (by decide) (fun c => absurd c (by decide)) (fun _ => ?_)
  refine lv_aload_n hx hb dX2_init_19 rfl (lv_at hl 1 rfl) ?_
  refine va_get (v := .ref q6) (C := RX2) (T := TX2) (N := 2) hx hb hts hiX2 hown hK hP 0 rfl rfl 0 (by decide) (hts (.fieldLink RX2 11 "SoapFilm$History" "states" "[LSoapFilm$Film;") (by decide +kernel)) (fun _ h9 => h9) rfl dX2_init_20 ?_
  refine lv_iload_n hx hb dX2_init_23 rfl (lv_at hl 0 rfl) ?_
  refine va_new (ci := 0) (fs := [.null, .null, .null, .int 0, .int 0, .int 0, .int 0, .int 0, .int 0, .int 0]) (C := RX0) (T := TX0) (N := 10) hx hb hts (by decide +kernel) tyX0 tyX0_ok hown (hts (.classLink RX2 9 RX0) (by decide +kernel)) (hts (.instantiable RX0 10) (by decide +kernel)) (hts (.initialized RX0) (by decide +kernel)) hK hP hD hS hA rfl (fun j hj => by rcases (show j = 0 ∨ j = 1 ∨ j = 2 ∨ j = 3 ∨ j = 4 ∨ j = 5 ∨ j = 6 ∨ j = 7 ∨ j = 8 ∨ j = 9 by omega) with rfl | rfl | rfl | rfl | rfl | rfl | rfl | rfl | rfl | rfl <;> rfl) (Nat.le_of_ble_eq_true rfl) (Nat.le_of_ble_eq_true rfl) dX2_init_24 (fun q24_2 H hP hD hS => ?_)
  replace hP : va_P D vwCl ([(q, .inr (2, [.ref q6, .int 0])), (q6, .inl (ks.2.2, 5, .inr (.inr (.inr (.inr (gf5 (some u28_1.1) none none none none))))))] ++ wF ks u28_1 fd0 ++ [(q24_2, .inr (0, [.null, .null, .null, .int 0, .int 0, .int 0, .int 0, .int 0, .int 0, .int 0]))]) H := hP
  replace hD : va_D A ([(q, .inr (2, [.ref q6, .int 0])), (q6, .inl (ks.2.2, 5, .inr (.inr (.inr (.inr (gf5 (some u28_1.1) none none none none))))))] ++ wF ks u28_1 fd0 ++ [(q24_2, .inr (0, [.null, .null, .null, .int 0, .int 0, .int 0, .int 0, .int 0, .int 0, .int 0]))]) := hD
  refine lv_dup hx hb dX2_init_27 rfl ?_
  refine xcallC (As := []) (rest := [.ref q24_2, .int 1, .ref q6]) (wc := [(q24_2, .inr (0, [.null, .null, .null, .int 0, .int 0, .int 0, .int 0, .int 0, .int 0, .int 0]))]) (wr := ([(q, .inr (2, [.ref q6, .int 0])), (q6, .inl (ks.2.2, 5, .inr (.inr (.inr (.inr (gf5 (some u28_1.1) none none none none))))))] ++ wF ks u28_1 fd0)) ⟨hx, hb, hml, hown, hts⟩ (c_X0_init q24_2) (cwI 0 hts gX2_init_X0_init rfl rfl rfl (hts (.initialized RX0) (by decide +kernel)) (hts (.methodLink RX2 15 yX0_init) (by decide +kernel)) (hts (.instanceMethod yX0_init) (by decide +kernel)) rfl (by decide +kernel) ⟨Nat.le_of_ble_eq_true rfl, Nat.le_of_ble_eq_true rfl⟩) hX hP hD hS hA [6] [0, 1, 2, 3, 4, 5] rfl rfl ⟨by decide, by decide⟩ (by decide) hE ok_xEF rfl hl.1 rfl (Nat.le_of_ble_eq_true rfl) dX2_init_28 ⟨Nat.le_of_ble_eq_true rfl, Nat.le_of_ble_eq_true rfl⟩ (fun u28_3 H locs hu hP2 hD2 hS => ?_)
  try dsimp only at hu
  subst hu
  have hP : va_P D vwCl ([(q, .inr (2, [.ref q6, .int 0])), (q6, .inl (ks.2.2, 5, .inr (.inr (.inr (.inr (gf5 (some u28_1.1) none none none none))))))] ++ wF ks u28_1 fd0 ++ wF ks u28_3 fd0) H := hP2
  have hD : va_D A ([(q, .inr (2, [.ref q6, .int 0])), (q6, .inl (ks.2.2, 5, .inr (.inr (.inr (.inr (gf5 (some u28_1.1) none none none none))))))] ++ wF ks u28_1 fd0 ++ wF ks u28_3 fd0) := hD2
  clear hP2 hD2
  refine xa_astq (g := (gf5 (some u28_1.1) (some u28_3.1) none none none)) (wn := ([(q, .inr (2, [.ref q6, .int 0])), (q6, .inl (ks.2.2, 5, .inr (.inr (.inr (.inr (gf5 (some u28_1.1) (some u28_3.1) none none none))))))] ++ wF ks u28_1 fd0 ++ wF ks u28_3 fd0)) hx hb hK hP hD hS 1 2 6 0 rfl rfl rfl rfl (by unfold vp_in; decide) (five rfl rfl rfl rfl rfl) dX2_init_31 rfl (fun H locs hP hD hS => ?_)
  refine lv_iinc (v := 2) (lv' := [(1, .int 2), (0, .ref q)]) hx hb dX2_init_32 hl (k := 0) rfl (by decide) (by decide) rfl (fun ls hl => ?_)
  refine lv_goto (tgt := 14) hx hb dX2_init_35 (by decide) ?_
  refine lv_iload_n hx hb dX2_init_14 rfl (lv_at hl 0 rfl) ?_
  refine lv_iconst (v := 5) hx hb dX2_init_15 (by decide) ?_
  refine lv_icmp_ge (tgt := 38) hx hb dX2_init_16 (by decide) (fun c => absurd c (by decide)) (fun _ => ?_)
  refine lv_aload_n hx hb dX2_init_19 rfl (lv_at hl 1 rfl) ?_
  refine va_get (v := .ref q6) (C := RX2) (T := TX2) (N := 2) hx hb hts hiX2 hown hK hP 0 rfl rfl 0 (by decide) (hts (.fieldLink RX2 11 "SoapFilm$History" "states" "[LSoapFilm$Film;") (by decide +kernel)) (fun _ h9 => h9) rfl dX2_init_20 ?_
  refine lv_iload_n hx hb dX2_init_23 rfl (lv_at hl 0 rfl) ?_
  refine va_new (ci := 0) (fs := [.null, .null, .null, .int 0, .int 0, .int 0, .int 0, .int 0, .int 0, .int 0]) (C := RX0) (T := TX0) (N := 10) hx hb hts (by decide +kernel) tyX0 tyX0_ok hown (hts (.classLink RX2 9 RX0) (by decide +kernel)) (hts (.instantiable RX0 10) (by decide +kernel)) (hts (.initialized RX0) (by decide +kernel)) hK hP hD hS hA rfl (fun j hj => by rcases (show j = 0 ∨ j = 1 ∨ j = 2 ∨ j = 3 ∨ j = 4 ∨ j = 5 ∨ j = 6 ∨ j = 7 ∨ j = 8 ∨ j = 9 by omega) with rfl | rfl | rfl | rfl | rfl | rfl | rfl | rfl | rfl | rfl <;> rfl) (Nat.le_of_ble_eq_true rfl) (Nat.le_of_ble_eq_true rfl) dX2_init_24 (fun q24_4 H hP hD hS => ?_)
  replace hP : va_P D vwCl ([(q, .inr (2, [.ref q6, .int 0])), (q6, .inl (ks.2.2, 5, .inr (.inr (.inr (.inr (gf5 (some u28_1.1) (some u28_3.1) none none none))))))] ++ wF ks u28_1 fd0 ++ wF ks u28_3 fd0 ++ [(q24_4, .inr (0, [.null, .null, .null, .int 0, .int 0, .int 0, .int 0, .int 0, .int 0, .int 0]))]) H := hP
  replace hD : va_D A ([(q, .inr (2, [.ref q6, .int 0])), (q6, .inl (ks.2.2, 5, .inr (.inr (.inr (.inr (gf5 (some u28_1.1) (some u28_3.1) none none none))))))] ++ wF ks u28_1 fd0 ++ wF ks u28_3 fd0 ++ [(q24_4, .inr (0, [.null, .null, .null, .int 0, .int 0, .int 0, .int 0, .int 0, .int 0, .int 0]))]) := hD
  refine lv_dup hx hb dX2_init_27 rfl ?_
  refine xcallC (As := []) (rest := [.ref q24_4, .int 2, .ref q6]) (wc := [(q24_4, .inr (0, [.null, .null, .null, .int 0, .int 0, .int 0, .int 0, .int 0, .int 0, .int 0]))]) (wr := ([(q, .inr (2, [.ref q6, .int 0])), (q6, .inl (ks.2.2, 5, .inr (.inr (.inr (.inr (gf5 (some u28_1.1) (some u28_3.1) none none none))))))] ++ wF ks u28_1 fd0 ++ wF ks u28_3 fd0)) ⟨hx, hb, hml, hown, hts⟩ (c_X0_init q24_4) (cwI 0 hts gX2_init_X0_init rfl rfl rfl (hts (.initialized RX0) (by decide +kernel)) (hts (.methodLink RX2 15 yX0_init) (by decide +kernel)) (hts (.instanceMethod yX0_init) (by decide +kernel)) rfl (by decide +kernel) ⟨Nat.le_of_ble_eq_true rfl, Nat.le_of_ble_eq_true rfl⟩) hX hP hD hS hA [10] [0, 1, 2, 3, 4, 5, 6, 7, 8, 9] rfl rfl ⟨by decide, by decide⟩ (by decide) hE ok_xEF rfl hl.1 rfl (Nat.le_of_ble_eq_true rfl) dX2_init_28 ⟨Nat.le_of_ble_eq_true rfl, Nat.le_of_ble_eq_true rfl⟩ (fun u28_5 H locs hu hP2 hD2 hS => ?_)
  try dsimp only at hu
  subst hu
  have hP : va_P D vwCl ([(q, .inr (2, [.ref q6, .int 0])), (q6, .inl (ks.2.2, 5, .inr (.inr (.inr (.inr (gf5 (some u28_1.1) (some u28_3.1) none none none))))))] ++ wF ks u28_1 fd0 ++ wF ks u28_3 fd0 ++ wF ks u28_5 fd0) H := hP2
  have hD : va_D A ([(q, .inr (2, [.ref q6, .int 0])), (q6, .inl (ks.2.2, 5, .inr (.inr (.inr (.inr (gf5 (some u28_1.1) (some u28_3.1) none none none))))))] ++ wF ks u28_1 fd0 ++ wF ks u28_3 fd0 ++ wF ks u28_5 fd0) := hD2
  clear hP2 hD2
  refine xa_astq (g := (gf5 (some u28_1.1) (some u28_3.1) (some u28_5.1) none none)) (wn := ([(q, .inr (2, [.ref q6, .int 0])), (q6, .inl (ks.2.2, 5, .inr (.inr (.inr (.inr (gf5 (some u28_1.1) (some u28_3.1) (some u28_5.1) none none))))))] ++ wF ks u28_1 fd0 ++ wF ks u28_3 fd0 ++ wF ks u28_5 fd0)) hx hb hK hP hD hS 1 2 10 0 rfl rfl rfl rfl (by unfold vp_in; decide) (five rfl rfl rfl rfl rfl) dX2_init_31 rfl (fun H locs hP hD hS => ?_)
  refine lv_iinc (v := 3) (lv' := [(1, .int 3), (0, .ref q)]) hx hb dX2_init_32 hl (k := 0) rfl (by decide) (by decide) rfl (fun ls hl => ?_)
  refine lv_goto (tgt := 14) hx hb dX2_init_35 (by decide) ?_
  refine lv_iload_n hx hb dX2_init_14 rfl (lv_at hl 0 rfl) ?_
  refine lv_iconst (v := 5) hx hb dX2_init_15 (by decide) ?_
  refine lv_icmp_ge (tgt := 38) hx hb dX2_init_16 (by decide) (fun c => absurd c (by decide)) (fun _ => ?_)
  refine lv_aload_n hx hb dX2_init_19 rfl (lv_at hl 1 rfl) ?_
  refine va_get (v := .ref q6) (C := RX2) (T := TX2) (N := 2) hx hb hts hiX2 hown hK hP 0 rfl rfl 0 (by decide) (hts (.fieldLink RX2 11 "SoapFilm$History" "states" "[LSoapFilm$Film;") (by decide +kernel)) (fun _ h9 => h9) rfl dX2_init_20 ?_
  refine lv_iload_n hx hb dX2_init_23 rfl (lv_at hl 0 rfl) ?_
  refine va_new (ci := 0) (fs := [.null, .null, .null, .int 0, .int 0, .int 0, .int 0, .int 0, .int 0, .int 0]) (C := RX0) (T := TX0) (N := 10) hx hb hts (by decide +kernel) tyX0 tyX0_ok hown (hts (.classLink RX2 9 RX0) (by decide +kernel)) (hts (.instantiable RX0 10) (by decide +kernel)) (hts (.initialized RX0) (by decide +kernel)) hK hP hD hS hA rfl (fun j hj => by rcases (show j = 0 ∨ j = 1 ∨ j = 2 ∨ j = 3 ∨ j = 4 ∨ j = 5 ∨ j = 6 ∨ j = 7 ∨ j = 8 ∨ j = 9 by omega) with rfl | rfl | rfl | rfl | rfl | rfl | rfl | rfl | rfl | rfl <;> rfl) (Nat.le_of_ble_eq_true rfl) (Nat.le_of_ble_eq_true rfl) dX2_init_24 (fun q24_6 H hP hD hS => ?_)
  replace hP : va_P D vwCl ([(q, .inr (2, [.ref q6, .int 0])), (q6, .inl (ks.2.2, 5, .inr (.inr (.inr (.inr (gf5 (some u28_1.1) (some u28_3.1) (some u28_5.1) none none))))))] ++ wF ks u28_1 fd0 ++ wF ks u28_3 fd0 ++ wF ks u28_5 fd0 ++ [(q24_6, .inr (0, [.null, .null, .null, .int 0, .int 0, .int 0, .int 0, .int 0, .int 0, .int 0]))]) H := hP
  replace hD : va_D A ([(q, .inr (2, [.ref q6, .int 0])), (q6, .inl (ks.2.2, 5, .inr (.inr (.inr (.inr (gf5 (some u28_1.1) (some u28_3.1) (some u28_5.1) none none))))))] ++ wF ks u28_1 fd0 ++ wF ks u28_3 fd0 ++ wF ks u28_5 fd0 ++ [(q24_6, .inr (0, [.null, .null, .null, .int 0, .int 0, .int 0, .int 0, .int 0, .int 0, .int 0]))]) := hD
  refine lv_dup hx hb dX2_init_27 rfl ?_
  refine xcallC (As := []) (rest := [.ref q24_6, .int 3, .ref q6]) (wc := [(q24_6, .inr (0, [.null, .null, .null, .int 0, .int 0, .int 0, .int 0, .int 0, .int 0, .int 0]))]) (wr := ([(q, .inr (2, [.ref q6, .int 0])), (q6, .inl (ks.2.2, 5, .inr (.inr (.inr (.inr (gf5 (some u28_1.1) (some u28_3.1) (some u28_5.1) none none))))))] ++ wF ks u28_1 fd0 ++ wF ks u28_3 fd0 ++ wF ks u28_5 fd0)) ⟨hx, hb, hml, hown, hts⟩ (c_X0_init q24_6) (cwI 0 hts gX2_init_X0_init rfl rfl rfl (hts (.initialized RX0) (by decide +kernel)) (hts (.methodLink RX2 15 yX0_init) (by decide +kernel)) (hts (.instanceMethod yX0_init) (by decide +kernel)) rfl (by decide +kernel) ⟨Nat.le_of_ble_eq_true rfl, Nat.le_of_ble_eq_true rfl⟩) hX hP hD hS hA [14] [0, 1, 2, 3, 4, 5, 6, 7, 8, 9, 10, 11, 12, 13] rfl rfl ⟨by decide, by decide⟩ (by decide) hE ok_xEF rfl hl.1 rfl (Nat.le_of_ble_eq_true rfl) dX2_init_28 ⟨Nat.le_of_ble_eq_true rfl, Nat.le_of_ble_eq_true rfl⟩ (fun u28_7 H locs hu hP2 hD2 hS => ?_)
  try dsimp only at hu
  subst hu
  have hP : va_P D vwCl ([(q, .inr (2, [.ref q6, .int 0])), (q6, .inl (ks.2.2, 5, .inr (.inr (.inr (.inr (gf5 (some u28_1.1) (some u28_3.1) (some u28_5.1) none none))))))] ++ wF ks u28_1 fd0 ++ wF ks u28_3 fd0 ++ wF ks u28_5 fd0 ++ wF ks u28_7 fd0) H := hP2
  have hD : va_D A ([(q, .inr (2, [.ref q6, .int 0])), (q6, .inl (ks.2.2, 5, .inr (.inr (.inr (.inr (gf5 (some u28_1.1) (some u28_3.1) (some u28_5.1) none none))))))] ++ wF ks u28_1 fd0 ++ wF ks u28_3 fd0 ++ wF ks u28_5 fd0 ++ wF ks u28_7 fd0) := hD2
  clear hP2 hD2
  refine xa_astq (g := (gf5 (some u28_1.1) (some u28_3.1) (some u28_5.1) (some u28_7.1) none)) (wn := ([(q, .inr (2, [.ref q6, .int 0])), (q6, .inl (ks.2.2, 5, .inr (.inr (.inr (.inr (gf5 (some u28_1.1) (some u28_3.1) (some u28_5.1) (some u28_7.1) none))))))] ++ wF ks u28_1 fd0 ++ wF ks u28_3 fd0 ++ wF ks u28_5 fd0 ++ wF ks u28_7 fd0)) hx hb hK hP hD hS 1 2 14 0 rfl rfl rfl rfl (by unfold vp_in; decide) (five rfl rfl rfl rfl rfl) dX2_init_31 rfl (fun H locs hP hD hS => ?_)
  refine lv_iinc (v := 4) (lv' := [(1, .int 4), (0, .ref q)]) hx hb dX2_init_32 hl (k := 0) rfl (by decide) (by decide) rfl (fun ls hl => ?_)
  refine lv_goto (tgt := 14) hx hb dX2_init_35 (by decide) ?_
  refine lv_iload_n hx hb dX2_init_14 rfl (lv_at hl 0 rfl) ?_
  refine lv_iconst (v := 5) hx hb dX2_init_15 (by decide) ?_
  refine lv_icmp_ge (tgt := 38) hx hb dX2_init_16 (by decide) (fun c => absurd c (by decide)) (fun _ => ?_)
  refine lv_aload_n hx hb dX2_init_19 rfl (lv_at hl 1 rfl) ?_
  refine va_get (v := .ref q6) (C := RX2) (T := TX2) (N := 2) hx hb hts hiX2 hown hK hP 0 rfl rfl 0 (by decide) (hts (.fieldLink RX2 11 "SoapFilm$History" "states" "[LSoapFilm$Film;") (by decide +kernel)) (fun _ h9 => h9) rfl dX2_init_20 ?_
  refine lv_iload_n hx hb dX2_init_23 rfl (lv_at hl 0 rfl) ?_
  refine va_new (ci := 0) (fs := [.null, .null, .null, .int 0, .int 0, .int 0, .int 0, .int 0, .int 0, .int 0]) (C := RX0) (T := TX0) (N := 10) hx hb hts (by decide +kernel) tyX0 tyX0_ok hown (hts (.classLink RX2 9 RX0) (by decide +kernel)) (hts (.instantiable RX0 10) (by decide +kernel)) (hts (.initialized RX0) (by decide +kernel)) hK hP hD hS hA rfl (fun j hj => by rcases (show j = 0 ∨ j = 1 ∨ j = 2 ∨ j = 3 ∨ j = 4 ∨ j = 5 ∨ j = 6 ∨ j = 7 ∨ j = 8 ∨ j = 9 by omega) with rfl | rfl | rfl | rfl | rfl | rfl | rfl | rfl | rfl | rfl <;> rfl) (Nat.le_of_ble_eq_true rfl) (Nat.le_of_ble_eq_true rfl) dX2_init_24 (fun q24_8 H hP hD hS => ?_)
  replace hP : va_P D vwCl ([(q, .inr (2, [.ref q6, .int 0])), (q6, .inl (ks.2.2, 5, .inr (.inr (.inr (.inr (gf5 (some u28_1.1) (some u28_3.1) (some u28_5.1) (some u28_7.1) none))))))] ++ wF ks u28_1 fd0 ++ wF ks u28_3 fd0 ++ wF ks u28_5 fd0 ++ wF ks u28_7 fd0 ++ [(q24_8, .inr (0, [.null, .null, .null, .int 0, .int 0, .int 0, .int 0, .int 0, .int 0, .int 0]))]) H := hP
  replace hD : va_D A ([(q, .inr (2, [.ref q6, .int 0])), (q6, .inl (ks.2.2, 5, .inr (.inr (.inr (.inr (gf5 (some u28_1.1) (some u28_3.1) (some u28_5.1) (some u28_7.1) none))))))] ++ wF ks u28_1 fd0 ++ wF ks u28_3 fd0 ++ wF ks u28_5 fd0 ++ wF ks u28_7 fd0 ++ [(q24_8, .inr (0, [.null, .null, .null, .int 0, .int 0, .int 0, .int 0, .int 0, .int 0, .int 0]))]) := hD
  refine lv_dup hx hb dX2_init_27 rfl ?_
  refine xcallC (As := []) (rest := [.ref q24_8, .int 4, .ref q6]) (wc := [(q24_8, .inr (0, [.null, .null, .null, .int 0, .int 0, .int 0, .int 0, .int 0, .int 0, .int 0]))]) (wr := ([(q, .inr (2, [.ref q6, .int 0])), (q6, .inl (ks.2.2, 5, .inr (.inr (.inr (.inr (gf5 (some u28_1.1) (some u28_3.1) (some u28_5.1) (some u28_7.1) none))))))] ++ wF ks u28_1 fd0 ++ wF ks u28_3 fd0 ++ wF ks u28_5 fd0 ++ wF ks u28_7 fd0)) ⟨hx, hb, hml, hown, hts⟩ (c_X0_init q24_8) (cwI 0 hts gX2_init_X0_init rfl rfl rfl (hts (.initialized RX0) (by decide +kernel)) (hts (.methodLink RX2 15 yX0_init) (by decide +kernel)) (hts (.instanceMethod yX0_init) (by decide +kernel)) rfl (by decide +kernel) ⟨Nat.le_of_ble_eq_true rfl, Nat.le_of_ble_eq_true rfl⟩) hX hP hD hS hA [18] [0, 1, 2, 3, 4, 5, 6, 7, 8, 9, 10, 11, 12, 13, 14, 15, 16, 17] rfl rfl ⟨by decide, by decide⟩ (by decide) hE ok_xEF rfl hl.1 rfl (Nat.le_of_ble_eq_true rfl) dX2_init_28 ⟨Nat.le_of_ble_eq_true rfl, Nat.le_of_ble_eq_true rfl⟩ (fun u28_9 H locs hu hP2 hD2 hS => ?_)
  try dsimp only at hu
  subst hu
  have hP : va_P D vwCl ([(q, .inr (2, [.ref q6, .int 0])), (q6, .inl (ks.2.2, 5, .inr (.inr (.inr (.inr (gf5 (some u28_1.1) (some u28_3.1) (some u28_5.1) (some u28_7.1) none))))))] ++ wF ks u28_1 fd0 ++ wF ks u28_3 fd0 ++ wF ks u28_5 fd0 ++ wF ks u28_7 fd0 ++ wF ks u28_9 fd0) H := hP2
  have hD : va_D A ([(q, .inr (2, [.ref q6, .int 0])), (q6, .inl (ks.2.2, 5, .inr (.inr (.inr (.inr (gf5 (some u28_1.1) (some u28_3.1) (some u28_5.1) (some u28_7.1) none))))))] ++ wF ks u28_1 fd0 ++ wF ks u28_3 fd0 ++ wF ks u28_5 fd0 ++ wF ks u28_7 fd0 ++ wF ks u28_9 fd0) := hD2
  clear hP2 hD2
  refine xa_astq (g := (gf5 (some u28_1.1) (some u28_3.1) (some u28_5.1) (some u28_7.1) (some u28_9.1))) (wn := ([(q, .inr (2, [.ref q6, .int 0])), (q6, .inl (ks.2.2, 5, .inr (.inr (.inr (.inr (gf5 (some u28_1.1) (some u28_3.1) (some u28_5.1) (some u28_7.1) (some u28_9.1)))))))] ++ wF ks u28_1 fd0 ++ wF ks u28_3 fd0 ++ wF ks u28_5 fd0 ++ wF ks u28_7 fd0 ++ wF ks u28_9 fd0)) hx hb hK hP hD hS 1 2 18 0 rfl rfl rfl rfl (by unfold vp_in; decide) (five rfl rfl rfl rfl rfl) dX2_init_31 rfl (fun H locs hP hD hS => ?_)
  refine lv_iinc (v := 5) (lv' := [(1, .int 5), (0, .ref q)]) hx hb dX2_init_32 hl (k := 0) rfl (by decide) (by decide) rfl (fun ls hl => ?_)
  refine lv_goto (tgt := 14) hx hb dX2_init_35 (by decide) ?_
  refine lv_iload_n hx hb dX2_init_14 rfl (lv_at hl 0 rfl) ?_
  refine lv_iconst (v := 5) hx hb dX2_init_15 (by decide) ?_
  refine lv_icmp_ge (tgt := 38) hx hb dX2_init_16 (by decide) (fun _ => ?_) (fun c => absurd (by decide) c)
  refine W.widen (k := 21) (n := 245) (Nat.le_of_ble_eq_true rfl) (Nat.le_of_ble_eq_true rfl) ?_
  have hP := qset (q0 := 1) (g := fun i => some ((af5 u28_1 u28_3 u28_5 u28_7 u28_9) i).1) hP rfl (five rfl rfl rfl rfl rfl)
  have hD := hD.set (p := 1) (e := .inl (ks.2.2, 5, .inr (.inr (.inr (.inr (fun i => some ((af5 u28_1 u28_3 u28_5 u28_7 u28_9) i).1)))))) rfl
  exact hret (q6, (af5 u28_1 u28_3 u28_5 u28_7 u28_9)) _ _ _ _ trivial dX2_init_38 hP hD hS
set_option maxHeartbeats 4000000 in
set_option maxRecDepth 100000 in
theorem c_X4_init {l : Launch} {D : va_G} {ks : K3} (o : Nat) : MetC l yX4_init wsX4_init { frames := 3, cells := 33, slots := 473, locals := 67 } D ks [.ref o] [(o, .inr (3, [.null, .null, .null, .null]))] (fun u : AF × AF × AH × (Nat → AF) × AT => wS o u.1 u.2.1 u.2.2.1 u.2.2.2.2 ++ (wF ks u.1 fd0 ++ (wF ks u.2.1 fd0 ++ (wH ks u.2.2.1 u.2.2.2.1 0 (fun _ => fd0) ++ wT ks u.2.2.2.2 td0)))) (fun _ : AF × AF × AH × (Nat → AF) × AT => True) 33 473 xEF := by
  refine MetC.of (cc := cX4_init) (maxL := 1) (by decide +kernel) rfl (Nat.le_of_ble_eq_true rfl) ?_
  intro p e s m below meth c Q A hx hb hml hts hown hin hP hX hD hA hE hret ls hl
  have hK := hX.1
  replace hl : lv_has ls 1 [(0, .ref o)] := hl
  have hS : va_S A s.heap s.heap [] := va_S.rf
  have hiX4 : ∀ w ∈ wsX40, w ∈ wsX4_init := by decide +kernel
  refine lv_aload_n hx hb dX4_init_0 rfl (lv_at hl 0 rfl) ?_
  refine W.objInit hx hb hown (hts (.methodLink RX4 1 objectInit) (by decide +kernel)) (hts (.instanceMethod objectInit) (by decide +kernel)) (hts (.code objectInit ⟨#[0xb1]⟩ 1 none) (by decide +kernel)) rfl (by rw [hml]; exact hl.1) rfl dX4_init_1 (Nat.le_of_ble_eq_true rfl) (Nat.le_of_ble_eq_true rfl) ?_
  refine W.eq (g2 := F0 m 4 ls []) rfl ?_
  refine lv_aload_n hx hb dX4_init_4 rfl (lv_at hl 0 rfl) ?_
  refine va_new (ci := 0) (fs := [.null, .null, .null, .int 0, .int 0, .int 0, .int 0, .int 0, .int 0, .int 0]) (C := RX0) (T := TX0) (N := 10) hx hb hts (by decide +kernel) tyX0 tyX0_ok hown (hts (.classLink RX4 7 RX0) (by decide +kernel)) (hts (.instantiable RX0 10) (by decide +kernel)) (hts (.initialized RX0) (by decide +kernel)) hK hP hD hS hA rfl (fun j hj => by rcases (show j = 0 ∨ j = 1 ∨ j = 2 ∨ j = 3 ∨ j = 4 ∨ j = 5 ∨ j = 6 ∨ j = 7 ∨ j = 8 ∨ j = 9 by omega) with rfl | rfl | rfl | rfl | rfl | rfl | rfl | rfl | rfl | rfl <;> rfl) (Nat.le_of_ble_eq_true rfl) (Nat.le_of_ble_eq_true rfl) dX4_init_5 (fun q5_0 H hP hD hS => ?_)
  replace hP : va_P D vwCl ([(o, .inr (3, [.null, .null, .null, .null])), (q5_0, .inr (0, [.null, .null, .null, .int 0, .int 0, .int 0, .int 0, .int 0, .int 0, .int 0]))]) H := hP
  replace hD : va_D A ([(o, .inr (3, [.null, .null, .null, .null])), (q5_0, .inr (0, [.null, .null, .null, .int 0, .int 0, .int 0, .int 0, .int 0, .int 0, .int 0]))]) := hD
  refine lv_dup hx hb dX4_init_8 rfl ?_
  refine xcallC (As := []) (rest := [.ref q5_0, .ref o]) (wc := [(q5_0, .inr (0, [.null, .null, .null, .int 0, .int 0, .int 0, .int 0, .int 0, .int 0, .int 0]))]) (wr := ([(o, .inr (3, [.null, .null, .null, .null]))])) ⟨hx, hb, hml, hown, hts⟩ (c_X0_init q5_0) (cwI 0 hts gX4_init_X0_init rfl rfl rfl (hts (.initialized RX0) (by decide +kernel)) (hts (.methodLink RX4 9 yX0_init) (by decide +kernel)) (hts (.instanceMethod yX0_init) (by decide +kernel)) rfl (by decide +kernel) ⟨Nat.le_of_ble_eq_true rfl, Nat.le_of_ble_eq_true rfl⟩) hX hP hD hS hA [1] [0] rfl rfl ⟨by decide, by decide⟩ (by decide) hE ok_xEF rfl hl.1 rfl (Nat.le_of_ble_eq_true rfl) dX4_init_9 ⟨Nat.le_of_ble_eq_true rfl, Nat.le_of_ble_eq_true rfl⟩ (fun u9_1 H locs hu hP2 hD2 hS => ?_)
  try dsimp only at hu
  subst hu
  have hP : va_P D vwCl ([(o, .inr (3, [.null, .null, .null, .null]))] ++ wF ks u9_1 fd0) H := hP2
  have hD : va_D A ([(o, .inr (3, [.null, .null, .null, .null]))] ++ wF ks u9_1 fd0) := hD2
  clear hP2 hD2
  refine va_putF (D := D) (ci := 3) (v := .ref u9_1.1) (ty := .object "SoapFilm$Film") (C := RX4) (T := TX4) (N := 4) hx hb hts hiX4 tyX4 tyX4_ok nmX4 hown hK hP hD hS 0 rfl rfl 0 (by decide) (hts (.fieldLink RX4 10 "SoapFilm" "film" "LSoapFilm$Film;") (by decide +kernel)) (fun _ h9 => h9) rfl hin rfl (by decide +kernel) rfl rfl (Nat.le_of_ble_eq_true rfl) dX4_init_12 (fun H locs hP hD hS => ?_)
  replace hP : va_P D vwCl ([(o, .inr (3, [.ref u9_1.1, .null, .null, .null]))] ++ wF ks u9_1 fd0) H := hP
  replace hD : va_D A ([(o, .inr (3, [.ref u9_1.1, .null, .null, .null]))] ++ wF ks u9_1 fd0) := hD
  refine lv_aload_n hx hb dX4_init_15 rfl (lv_at hl 0 rfl) ?_
  refine va_new (ci := 0) (fs := [.null, .null, .null, .int 0, .int 0, .int 0, .int 0, .int 0, .int 0, .int 0]) (C := RX0) (T := TX0) (N := 10) hx hb hts (by decide +kernel) tyX0 tyX0_ok hown (hts (.classLink RX4 7 RX0) (by decide +kernel)) (hts (.instantiable RX0 10) (by decide +kernel)) (hts (.initialized RX0) (by decide +kernel)) hK hP hD hS hA rfl (fun j hj => by rcases (show j = 0 ∨ j = 1 ∨ j = 2 ∨ j = 3 ∨ j = 4 ∨ j = 5 ∨ j = 6 ∨ j = 7 ∨ j = 8 ∨ j = 9 by omega) with rfl | rfl | rfl | rfl | rfl | rfl | rfl | rfl | rfl | rfl <;> rfl) (Nat.le_of_ble_eq_true rfl) (Nat.le_of_ble_eq_true rfl) dX4_init_16 (fun q16_2 H hP hD hS => ?_)
  replace hP : va_P D vwCl ([(o, .inr (3, [.ref u9_1.1, .null, .null, .null]))] ++ wF ks u9_1 fd0 ++ [(q16_2, .inr (0, [.null, .null, .null, .int 0, .int 0, .int 0, .int 0, .int 0, .int 0, .int 0]))]) H := hP
  replace hD : va_D A ([(o, .inr (3, [.ref u9_1.1, .null, .null, .null]))] ++ wF ks u9_1 fd0 ++ [(q16_2, .inr (0, [.null, .null, .null, .int 0, .int 0, .int 0, .int 0, .int 0, .int 0, .int 0]))]) := hD
  refine lv_dup hx hb dX4_init_19 rfl ?_
  refine xcallC (As := []) (rest := [.ref q16_2, .ref o]) (wc := [(q16_2, .inr (0, [.null, .null, .null, .int 0, .int 0, .int 0, .int 0, .int 0, .int 0, .int 0]))]) (wr := ([(o, .inr (3, [.ref u9_1.1, .null, .null, .null]))] ++ wF ks u9_1 fd0)) ⟨hx, hb, hml, hown, hts⟩ (c_X0_init q16_2) (cwI 0 hts gX4_init_X0_init rfl rfl rfl (hts (.initialized RX0) (by decide +kernel)) (hts (.methodLink RX4 9 yX0_init) (by decide +kernel)) (hts (.instanceMethod yX0_init) (by decide +kernel)) rfl (by decide +kernel) ⟨Nat.le_of_ble_eq_true rfl, Nat.le_of_ble_eq_true rfl⟩) hX hP hD hS hA [5] [0, 1, 2, 3, 4] rfl rfl ⟨by decide, by decide⟩ (by decide) hE ok_xEF rfl hl.1 rfl (Nat.le_of_ble_eq_true rfl) dX4_init_20 ⟨Nat.le_of_ble_eq_true rfl, Nat.le_of_ble_eq_true rfl⟩ (fun u20_3 H locs hu hP2 hD2 hS => ?_)
  try dsimp only at hu
  subst hu
  have hP : va_P D vwCl ([(o, .inr (3, [.ref u9_1.1, .null, .null, .null]))] ++ wF ks u9_1 fd0 ++ wF ks u20_3 fd0) H := hP2
  have hD : va_D A ([(o, .inr (3, [.ref u9_1.1, .null, .null, .null]))] ++ wF ks u9_1 fd0 ++ wF ks u20_3 fd0) := hD2
  clear hP2 hD2
  refine va_putF (D := D) (ci := 3) (v := .ref u20_3.1) (ty := .object "SoapFilm$Film") (C := RX4) (T := TX4) (N := 4) hx hb hts hiX4 tyX4 tyX4_ok nmX4 hown hK hP hD hS 0 rfl rfl 1 (by decide) (hts (.fieldLink RX4 16 "SoapFilm" "trial" "LSoapFilm$Film;") (by decide +kernel)) (fun _ h9 => h9) rfl hin rfl (by decide +kernel) rfl rfl (Nat.le_of_ble_eq_true rfl) dX4_init_23 (fun H locs hP hD hS => ?_)
  replace hP : va_P D vwCl ([(o, .inr (3, [.ref u9_1.1, .ref u20_3.1, .null, .null]))] ++ wF ks u9_1 fd0 ++ wF ks u20_3 fd0) H := hP
  replace hD : va_D A ([(o, .inr (3, [.ref u9_1.1, .ref u20_3.1, .null, .null]))] ++ wF ks u9_1 fd0 ++ wF ks u20_3 fd0) := hD
  refine lv_aload_n hx hb dX4_init_26 rfl (lv_at hl 0 rfl) ?_
  refine va_new (ci := 2) (fs := [.null, .int 0]) (C := RX2) (T := TX2) (N := 2) hx hb hts (by decide +kernel) tyX2 tyX2_ok hown (hts (.classLink RX4 19 RX2) (by decide +kernel)) (hts (.instantiable RX2 2) (by decide +kernel)) (hts (.initialized RX2) (by decide +kernel)) hK hP hD hS hA rfl (fun j hj => by rcases (show j = 0 ∨ j = 1 by omega) with rfl | rfl <;> rfl) (Nat.le_of_ble_eq_true rfl) (Nat.le_of_ble_eq_true rfl) dX4_init_27 (fun q27_4 H hP hD hS => ?_)
  replace hP : va_P D vwCl ([(o, .inr (3, [.ref u9_1.1, .ref u20_3.1, .null, .null]))] ++ wF ks u9_1 fd0 ++ wF ks u20_3 fd0 ++ [(q27_4, .inr (2, [.null, .int 0]))]) H := hP
  replace hD : va_D A ([(o, .inr (3, [.ref u9_1.1, .ref u20_3.1, .null, .null]))] ++ wF ks u9_1 fd0 ++ wF ks u20_3 fd0 ++ [(q27_4, .inr (2, [.null, .int 0]))]) := hD
  refine lv_dup hx hb dX4_init_30 rfl ?_
  refine xcallC (As := []) (rest := [.ref q27_4, .ref o]) (wc := [(q27_4, .inr (2, [.null, .int 0]))]) (wr := ([(o, .inr (3, [.ref u9_1.1, .ref u20_3.1, .null, .null]))] ++ wF ks u9_1 fd0 ++ wF ks u20_3 fd0)) ⟨hx, hb, hml, hown, hts⟩ (c_X2_init q27_4) (cwI 0 hts gX4_init_X2_init rfl rfl rfl (hts (.initialized RX2) (by decide +kernel)) (hts (.methodLink RX4 21 yX2_init) (by decide +kernel)) (hts (.instanceMethod yX2_init) (by decide +kernel)) rfl (by decide +kernel) ⟨Nat.le_of_ble_eq_true rfl, Nat.le_of_ble_eq_true rfl⟩) hX hP hD hS hA [9] [0, 1, 2, 3, 4, 5, 6, 7, 8] rfl rfl ⟨by decide, by decide⟩ (by decide) hE ok_xEF rfl hl.1 rfl (Nat.le_of_ble_eq_true rfl) dX4_init_31 ⟨Nat.le_of_ble_eq_true rfl, Nat.le_of_ble_eq_true rfl⟩ (fun u31_5 H locs hu hP2 hD2 hS => ?_)
  try dsimp only at hu
  skip
  have hP : va_P D vwCl ([(o, .inr (3, [.ref u9_1.1, .ref u20_3.1, .null, .null]))] ++ wF ks u9_1 fd0 ++ wF ks u20_3 fd0 ++ wH ks (q27_4, u31_5.1) u31_5.2 0 (fun _ => fd0)) H := hP2
  have hD : va_D A ([(o, .inr (3, [.ref u9_1.1, .ref u20_3.1, .null, .null]))] ++ wF ks u9_1 fd0 ++ wF ks u20_3 fd0 ++ wH ks (q27_4, u31_5.1) u31_5.2 0 (fun _ => fd0)) := hD2
  clear hP2 hD2
  refine va_putF (D := D) (ci := 3) (v := .ref q27_4) (ty := .object "SoapFilm$History") (C := RX4) (T := TX4) (N := 4) hx hb hts hiX4 tyX4 tyX4_ok nmX4 hown hK hP hD hS 0 rfl rfl 2 (by decide) (hts (.fieldLink RX4 22 "SoapFilm" "history" "LSoapFilm$History;") (by decide +kernel)) (fun _ h9 => h9) rfl hin rfl (by decide +kernel) rfl rfl (Nat.le_of_ble_eq_true rfl) dX4_init_34 (fun H locs hP hD hS => ?_)
  replace hP : va_P D vwCl ([(o, .inr (3, [.ref u9_1.1, .ref u20_3.1, .ref q27_4, .null]))] ++ wF ks u9_1 fd0 ++ wF ks u20_3 fd0 ++ wH ks (q27_4, u31_5.1) u31_5.2 0 (fun _ => fd0)) H := hP
  replace hD : va_D A ([(o, .inr (3, [.ref u9_1.1, .ref u20_3.1, .ref q27_4, .null]))] ++ wF ks u9_1 fd0 ++ wF ks u20_3 fd0 ++ wH ks (q27_4, u31_5.1) u31_5.2 0 (fun _ => fd0)) := hD
  refine lv_aload_n hx hb dX4_init_37 rfl (lv_at hl 0 rfl) ?_
  refine va_new (ci := 1) (fs := [.null, .int 0, .null, .int 0, .int 0, .int 0]) (C := RX1) (T := TX1) (N := 6) hx hb hts (by decide +kernel) tyX1 tyX1_ok hown (hts (.classLink RX4 26 RX1) (by decide +kernel)) (hts (.instantiable RX1 6) (by decide +kernel)) (hts (.initialized RX1) (by decide +kernel)) hK hP hD hS hA rfl (fun j hj => by rcases (show j = 0 ∨ j = 1 ∨ j = 2 ∨ j = 3 ∨ j = 4 ∨ j = 5 by omega) with rfl | rfl | rfl | rfl | rfl | rfl <;> rfl) (Nat.le_of_ble_eq_true rfl) (Nat.le_of_ble_eq_true rfl) dX4_init_38 (fun q38_6 H hP hD hS => ?_)
  replace hP : va_P D vwCl ([(o, .inr (3, [.ref u9_1.1, .ref u20_3.1, .ref q27_4, .null]))] ++ wF ks u9_1 fd0 ++ wF ks u20_3 fd0 ++ wH ks (q27_4, u31_5.1) u31_5.2 0 (fun _ => fd0) ++ [(q38_6, .inr (1, [.null, .int 0, .null, .int 0, .int 0, .int 0]))]) H := hP
  replace hD : va_D A ([(o, .inr (3, [.ref u9_1.1, .ref u20_3.1, .ref q27_4, .null]))] ++ wF ks u9_1 fd0 ++ wF ks u20_3 fd0 ++ wH ks (q27_4, u31_5.1) u31_5.2 0 (fun _ => fd0) ++ [(q38_6, .inr (1, [.null, .int 0, .null, .int 0, .int 0, .int 0]))]) := hD
  refine lv_dup hx hb dX4_init_41 rfl ?_
  refine xcallCN (As := []) (rest := [.ref q38_6, .ref o]) (wc := [(q38_6, .inr (1, [.null, .int 0, .null, .int 0, .int 0, .int 0]))]) (wr := ([(o, .inr (3, [.ref u9_1.1, .ref u20_3.1, .ref q27_4, .null]))] ++ wF ks u9_1 fd0 ++ wF ks u20_3 fd0 ++ wH ks (q27_4, u31_5.1) u31_5.2 0 (fun _ => fd0))) ⟨hx, hb, hml, hown, hts⟩ (c_X1_init q38_6) ⟨va_cnB 0 hts gX4_init_X1_init_n28 rfl rfl rfl hX.2.2.2.1 (hts (.initialized RX1) (by decide +kernel)) (by decide +kernel) ⟨Nat.le_of_ble_eq_true rfl, Nat.le_of_ble_eq_true rfl⟩, rfl, hts (.instanceMethod yX1_init) (by decide +kernel)⟩ hX hP hD hS hA [31] [0, 1, 2, 3, 4, 5, 6, 7, 8, 9, 10, 11, 12, 13, 14, 15, 16, 17, 18, 19, 20, 21, 22, 23, 24, 25, 26, 27, 28, 29, 30] rfl rfl ⟨by decide, by decide⟩ (by decide) trivial ok_E0 rfl hl.1 rfl (Nat.le_of_ble_eq_true rfl) dX4_init_42 ⟨Nat.le_of_ble_eq_true rfl, Nat.le_of_ble_eq_true rfl⟩ (fun u42_7 H locs hu hP2 hD2 hS => ?_)
  try dsimp only at hu
  subst hu
  have hP : va_P D vwCl ([(o, .inr (3, [.ref u9_1.1, .ref u20_3.1, .ref q27_4, .null]))] ++ wF ks u9_1 fd0 ++ wF ks u20_3 fd0 ++ wH ks (q27_4, u31_5.1) u31_5.2 0 (fun _ => fd0) ++ wT ks u42_7 td0) H := hP2
  have hD : va_D A ([(o, .inr (3, [.ref u9_1.1, .ref u20_3.1, .ref q27_4, .null]))] ++ wF ks u9_1 fd0 ++ wF ks u20_3 fd0 ++ wH ks (q27_4, u31_5.1) u31_5.2 0 (fun _ => fd0) ++ wT ks u42_7 td0) := hD2
  clear hP2 hD2
  refine va_putF (D := D) (ci := 3) (v := .ref u42_7.1) (ty := .object "SoapFilm$FilmText") (C := RX4) (T := TX4) (N := 4) hx hb hts hiX4 tyX4 tyX4_ok nmX4 hown hK hP hD hS 0 rfl rfl 3 (by decide) (hts (.fieldLink RX4 29 "SoapFilm" "text" "LSoapFilm$FilmText;") (by decide +kernel)) (fun _ h9 => h9) rfl hin rfl (by decide +kernel) rfl rfl (Nat.le_of_ble_eq_true rfl) dX4_init_45 (fun H locs hP hD hS => ?_)
  replace hP : va_P D vwCl ([(o, .inr (3, [.ref u9_1.1, .ref u20_3.1, .ref q27_4, .ref u42_7.1]))] ++ wF ks u9_1 fd0 ++ wF ks u20_3 fd0 ++ wH ks (q27_4, u31_5.1) u31_5.2 0 (fun _ => fd0) ++ wT ks u42_7 td0) H := hP
  replace hD : va_D A ([(o, .inr (3, [.ref u9_1.1, .ref u20_3.1, .ref q27_4, .ref u42_7.1]))] ++ wF ks u9_1 fd0 ++ wF ks u20_3 fd0 ++ wH ks (q27_4, u31_5.1) u31_5.2 0 (fun _ => fd0) ++ wT ks u42_7 td0) := hD
  refine W.widen (k := 33) (n := 473) (Nat.le_of_ble_eq_true rfl) (Nat.le_of_ble_eq_true rfl) ?_
  exact hret (u9_1, u20_3, (q27_4, u31_5.1), u31_5.2, u42_7) _ _ _ _ trivial dX4_init_48 hP hD hS
