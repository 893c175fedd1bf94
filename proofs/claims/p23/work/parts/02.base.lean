/-! OUR OWN BASE ROWS: options as the class's own steps, standard contracts, calls by them. -/
theorem bnd {α β : Type} {o : Option α} {f : α → Option β} {r : β} (h : o.bind f = some r) : ∃ a, o = some a ∧ f a = some r := by
  cases o with
  | none => cases h
  | some a => exact ⟨a, rfl, h⟩
def bind2 {α β γ : Type} (o : Option (α × β)) (f : α → β → Option γ) : Option γ := o.bind fun q => f q.1 q.2
theorem bnd2 {α β γ : Type} {o : Option (α × β)} {f : α → β → Option γ} {r : γ} (h : bind2 o f = some r) : ∃ a b, o = some (a, b) ∧ f a b = some r := by
  cases o with
  | none => cases h
  | some q => exact ⟨q.1, q.2, rfl, h⟩
def ald (f : Nat → Int32) (n : Nat) (i : Int32) : Option Int32 := if i < 0 ∨ n ≤ i.toNatClampNeg then none else some (f i.toNatClampNeg)
def ast (f : Nat → Int32) (n : Nat) (i x : Int32) : Option (Nat → Int32) := if i < 0 ∨ n ≤ i.toNatClampNeg then none else some (upd f i.toNatClampNeg x)
def cst (f : Nat → Int32) (n : Nat) (i x : Int32) : Option (Nat → Int32) := if i < 0 ∨ n ≤ i.toNatClampNeg then none else some (upd f i.toNatClampNeg (vp_nar .char x))
def imin (x y : Int32) : Int32 := if y < x then y else x
def imax (x y : Int32) : Int32 := if x < y then y else x
theorem ald_in {f : Nat → Int32} {n : Nat} {i v : Int32} (h : ald f n i = some v) : vp_in i n ∧ f i.toNatClampNeg = v := by
  unfold ald at h
  by_cases c : i < 0 ∨ n ≤ i.toNatClampNeg
  · rw [if_pos c] at h; cases h
  · rw [if_neg c] at h; exact ⟨c, Option.some.inj h⟩
theorem ast_in {f g : Nat → Int32} {n : Nat} {i x : Int32} (h : ast f n i x = some g) : vp_in i n ∧ upd f i.toNatClampNeg x = g := by
  unfold ast at h
  by_cases c : i < 0 ∨ n ≤ i.toNatClampNeg
  · rw [if_pos c] at h; cases h
  · rw [if_neg c] at h; exact ⟨c, Option.some.inj h⟩
theorem cst_in {f g : Nat → Int32} {n : Nat} {i x : Int32} (h : cst f n i x = some g) : vp_in i n ∧ upd f i.toNatClampNeg (vp_nar .char x) = g := by
  unfold cst at h
  by_cases c : i < 0 ∨ n ≤ i.toNatClampNeg
  · rw [if_pos c] at h; cases h
  · rw [if_neg c] at h; exact ⟨c, Option.some.inj h⟩
abbrev FD : Type := (Nat → Int32) × (Nat → Int32) × (Nat → Int32) × Int32 × Int32 × Int32 × Int32 × Int32 × Int32 × Int32
def FD.th (F : FD) : (Nat → Int32) := F.1
def FD.st (F : FD) : (Nat → Int32) := F.2.1
def FD.ac (F : FD) : (Nat → Int32) := F.2.2.1
def FD.rows (F : FD) : Int32 := F.2.2.2.1
def FD.ticks (F : FD) : Int32 := F.2.2.2.2.1
def FD.drops (F : FD) : Int32 := F.2.2.2.2.2.1
def FD.bursts (F : FD) : Int32 := F.2.2.2.2.2.2.1
def FD.burstReason (F : FD) : Int32 := F.2.2.2.2.2.2.2.1
def FD.burstNumber (F : FD) : Int32 := F.2.2.2.2.2.2.2.2.1
def FD.ticksBeforeBurst (F : FD) : Int32 := F.2.2.2.2.2.2.2.2.2
abbrev TD : Type := (Nat → Int32) × (Nat → Int32) × Int32 × Int32 × Int32 × Int32
def TD.sg (F : TD) : (Nat → Int32) := F.1
def TD.th (F : TD) : (Nat → Int32) := F.2.1
def TD.length (F : TD) : Int32 := F.2.2.1
def TD.rows (F : TD) : Int32 := F.2.2.2.1
def TD.position (F : TD) : Int32 := F.2.2.2.2.1
def TD.reason (F : TD) : Int32 := F.2.2.2.2.2
abbrev MD : Type := (Nat → Int32) × (Nat → Int32) × (Nat → Int32) × (Nat → Int32) × Int32 × Int32 × Int32 × Int32 × Int32 × Int32
def MD.st (F : MD) : (Nat → Int32) := F.1
def MD.past (F : MD) : (Nat → Int32) := F.2.1
def MD.aside (F : MD) : (Nat → Int32) := F.2.2.1
def MD.text (F : MD) : (Nat → Int32) := F.2.2.2.1
def MD.pasts (F : MD) : Int32 := F.2.2.2.2.1
def MD.length (F : MD) : Int32 := F.2.2.2.2.2.1
def MD.spot (F : MD) : Int32 := F.2.2.2.2.2.2.1
def MD.itsThickness (F : MD) : Int32 := F.2.2.2.2.2.2.2.1
def MD.itsRows (F : MD) : Int32 := F.2.2.2.2.2.2.2.2.1
def MD.from_ (F : MD) : Int32 := F.2.2.2.2.2.2.2.2.2
def mkFD (th : Nat → Int32) (st : Nat → Int32) (ac : Nat → Int32) (rows : Int32) (ticks : Int32) (drops : Int32) (bursts : Int32) (burstReason : Int32) (burstNumber : Int32) (ticksBeforeBurst : Int32) : FD := (th, st, ac, rows, ticks, drops, bursts, burstReason, burstNumber, ticksBeforeBurst)
def mkTD (sg : Nat → Int32) (th : Nat → Int32) (length : Int32) (rows : Int32) (position : Int32) (reason : Int32) : TD := (sg, th, length, rows, position, reason)
def mkMD (st : Nat → Int32) (past : Nat → Int32) (aside : Nat → Int32) (text : Nat → Int32) (pasts : Int32) (length : Int32) (spot : Int32) (itsThickness : Int32) (itsRows : Int32) (from_ : Int32) : MD := (st, past, aside, text, pasts, length, spot, itsThickness, itsRows, from_)
abbrev AF : Type := Nat × Nat × Nat × Nat
abbrev AT : Type := Nat × Nat × Nat
abbrev AM : Type := Nat × Nat × Nat × Nat × Nat
abbrev AH : Type := Nat × Nat
abbrev K3 : Type := ClassId × ClassId × ClassId
abbrev tyK (q : K3) : List (ClassId × FieldType) := [(q.1, .int), (q.2.1, .char), (q.2.2, .object "SoapFilm$Film")]
abbrev wF (ks : K3) (a : AF) (F : FD) : va_W := [(a.1, .inr (0, [.ref a.2.1, .ref a.2.2.1, .ref a.2.2.2, .int F.rows, .int F.ticks, .int F.drops, .int F.bursts, .int F.burstReason, .int F.burstNumber, .int F.ticksBeforeBurst])), (a.2.1, .inl (ks.1, 24, .inl F.th)), (a.2.2.1, .inl (ks.1, 7, .inl F.st)), (a.2.2.2, .inl (ks.1, 7, .inl F.ac))]
abbrev wT (ks : K3) (t : AT) (X : TD) : va_W := [(t.1, .inr (1, [.ref t.2.1, .int X.length, .ref t.2.2, .int X.rows, .int X.position, .int X.reason])), (t.2.1, .inl (ks.2.1, 100, .inl X.sg)), (t.2.2, .inl (ks.1, 24, .inl X.th))]
abbrev wM (ks : K3) (g : AM) (M : MD) : va_W := [(g.1, .inr (4, [.ref g.2.1, .ref g.2.2.1, .ref g.2.2.2.1, .int M.pasts, .ref g.2.2.2.2, .int M.length, .int M.spot, .int M.itsThickness, .int M.itsRows, .int M.from_])), (g.2.1, .inl (ks.1, 44, .inl M.st)), (g.2.2.1, .inl (ks.1, 220, .inl M.past)), (g.2.2.2.1, .inl (ks.1, 44, .inl M.aside)), (g.2.2.2.2, .inl (ks.1, 100, .inl M.text))]
abbrev wS (o : Nat) (a b : AF) (h : AH) (t : AT) : va_W := [(o, .inr (3, [.ref a.1, .ref b.1, .ref h.1, .ref t.1]))]
abbrev wH (ks : K3) (h : AH) (hA : Nat → AF) (hz : Int32) (hS : Nat → FD) : va_W := [(h.1, .inr (2, [.ref h.2, .int hz])), (h.2, .inl (ks.2.2, 5, .inr (.inr (.inr (.inr (fun i => some (hA i).1)))))) ] ++ (wF ks (hA 0) (hS 0) ++ (wF ks (hA 1) (hS 1) ++ (wF ks (hA 2) (hS 2) ++ (wF ks (hA 3) (hS 3) ++ wF ks (hA 4) (hS 4)))))
/-- what the tables say: the classes, the arrays, the private members of nest mates -/
def xK (D : va_G) (ks : K3) (U : State) : Prop := va_K D vwCl (tyK ks) U ∧ va_Nw (.methodLinkNest RX1 43 yX4_isThickness "SoapFilm") U ∧ va_Nw (.methodLinkNest RX1 47 yX4_isBetween "SoapFilm") U ∧ va_Nw (.methodLinkNest RX4 28 yX1_init "SoapFilm") U ∧ va_Nw (.fieldLinkNest RX0 21 "SoapFilm" "FIRST_SETTING" "[I" "SoapFilm") U ∧ va_AO "SoapFilm$Film" U
theorem xK.moved {D : va_G} {ks : K3} {u U : State} (hW : u.WarmedH U.vm) (h : xK D ks u) : xK D ks U := ⟨va_K.moved hW.alike h.1, va_Nw.warmM hW h.2.1, va_Nw.warmM hW h.2.2.1, va_Nw.warmM hW h.2.2.2.1, va_Nw.warmF hW h.2.2.2.2.1, va_AO.moved hW.alike h.2.2.2.2.2⟩
theorem xK.calling {D : va_G} {ks : K3} {U : State} {g : JFrame} {mk : MethodId} {a : Array Value} (h : xK D ks U) : xK D ks (U.calling g mk a) := ⟨va_K.moved (u := U) (U := U.calling g mk a) (Vm.Alike.refl U.vm) h.1, va_Nw.same rfl rfl h.2.1, va_Nw.same rfl rfl h.2.2.1, va_Nw.same rfl rfl h.2.2.2.1, va_Nw.same rfl rfl h.2.2.2.2.1, va_AO.moved (u := U) (U := U.calling g mk a) (Vm.Alike.refl U.vm) h.2.2.2.2.2⟩
theorem va_P0 (D : va_G) (cl : List vw_C) (H : Heap) : va_P D cl [] H := fun k q h => by simp at h
theorem ifT {α : Type} {c : Prop} [Decidable c] {a b : Option α} {r : Option α} (h : (if c then a else b) = r) (hc : c) : a = r := by rw [if_pos hc] at h; exact h
theorem ifF {α : Type} {c : Prop} [Decidable c] {a b : Option α} {r : Option α} (h : (if c then a else b) = r) (hc : ¬ c) : b = r := by rw [if_neg hc] at h; exact h
theorem inj2 {α β : Type} {a a' : α} {b b' : β} (h : some (a, b) = some (a', b')) : a = a' ∧ b = b' := by cases h; exact ⟨rfl, rfl⟩
theorem inj3 {α β γ : Type} {a a' : α} {b b' : β} {c c' : γ} (h : some (a, b, c) = some (a', b', c')) : a = a' ∧ b = b' ∧ c = c' := by cases h; exact ⟨rfl, rfl, rfl⟩
theorem inj4 {α β γ δ : Type} {a a' : α} {b b' : β} {c c' : γ} {d d' : δ} (h : some (a, b, c, d) = some (a', b', c', d')) : a = a' ∧ b = b' ∧ c = c' ∧ d = d' := by cases h; exact ⟨rfl, rfl, rfl, rfl⟩
theorem inj5 {α β γ δ ε : Type} {a a' : α} {b b' : β} {c c' : γ} {d d' : δ} {e e' : ε} (h : some (a, b, c, d, e) = some (a', b', c', d', e')) : a = a' ∧ b = b' ∧ c = c' ∧ d = d' ∧ e = e' := by cases h; exact ⟨rfl, rfl, rfl, rfl, rfl⟩
theorem inj6 {α β γ δ ε ζ : Type} {a a' : α} {b b' : β} {c c' : γ} {d d' : δ} {e e' : ε} {f f' : ζ} (h : some (a, b, c, d, e, f) = some (a', b', c', d', e', f')) : a = a' ∧ b = b' ∧ c = c' ∧ d = d' ∧ e = e' ∧ f = f' := by cases h; exact ⟨rfl, rfl, rfl, rfl, rfl, rfl⟩
def bind3 {α β γ δ : Type} (o : Option (α × β × γ)) (f : α → β → γ → Option δ) : Option δ := o.bind fun q => f q.1 q.2.1 q.2.2
theorem bnd3 {α β γ δ : Type} {o : Option (α × β × γ)} {f : α → β → γ → Option δ} {r : δ} (h : bind3 o f = some r) : ∃ a b c, o = some (a, b, c) ∧ f a b c = some r := by
  cases o with
  | none => cases h
  | some q => exact ⟨q.1, q.2.1, q.2.2, rfl, h⟩
def bind4 {α β γ δ ε : Type} (o : Option (α × β × γ × δ)) (f : α → β → γ → δ → Option ε) : Option ε := o.bind fun q => f q.1 q.2.1 q.2.2.1 q.2.2.2
theorem bnd4 {α β γ δ ε : Type} {o : Option (α × β × γ × δ)} {f : α → β → γ → δ → Option ε} {r : ε} (h : bind4 o f = some r) : ∃ a b c d, o = some (a, b, c, d) ∧ f a b c d = some r := by
  cases o with
  | none => cases h
  | some q => exact ⟨q.1, q.2.1, q.2.2.1, q.2.2.2, rfl, h⟩
def jshl (x y : Int32) : Int32 := x <<< (y &&& 31)
def jshr (x y : Int32) : Int32 := x >>> (y &&& 31)
def iushr (x y : Int32) : Int32 := (x.toUInt32 >>> (y.toUInt32 &&& Int32.toUInt32 31)).toInt32
def nm {β : Type} (x : Int32) (f : Int32 → Option β) : Option β := f x
theorem nmd {β : Type} {x : Int32} {f : Int32 → Option β} {r : β} (h : nm x f = some r) : ∃ w, w = x ∧ f w = some r := ⟨x, rfl, h⟩
def i2c (x : Int32) : Int32 := (x.toUInt32 % 65536).toInt32
def tb_LEAST_SETTING : Nat → Int32 := fun j => match j with
  | 3 => 1
  | 5 => 1
  | 6 => 1
  | _ => 0
def tb_GREATEST_SETTING : Nat → Int32 := fun j => match j with
  | 0 => 100
  | 1 => 50
  | 2 => 500
  | 3 => 200
  | 4 => 100
  | 5 => 24
  | _ => 100000
def tb_FIRST_SETTING : Nat → Int32 := fun j => match j with
  | 0 => 20
  | 1 => 1
  | 2 => 10
  | 3 => 30
  | 4 => 5
  | 5 => 12
  | _ => 3000
/-- what set needs of the tables that nobody writes -/
def xE1 (n : String) (f : Nat → Int32) (A : Nat → Prop) (U : State) (H : Heap) : Prop := ∃ t : Nat, va_Z "SoapFilm" n "[I" (.ref t) A U H ∧ va_T .int t 7 (fun j => .int (f j)) A U H
def xEset (A : Nat → Prop) (U : State) (H : Heap) : Prop := xE1 "LEAST_SETTING" tb_LEAST_SETTING A U H ∧ xE1 "GREATEST_SETTING" tb_GREATEST_SETTING A U H
theorem xE1.go {n : String} {f : Nat → Int32} {A B : Nat → Prop} {u U : State} {H H1 : Heap} (h : xE1 n f A u H) (hvm : u.vm.Alike U.vm) (hq : ∀ a : Nat, a < H.size → ¬ A a → H1[a]? = H[a]?) (hAB : ∀ q, B q → A q) : xE1 n f B U H1 := by
  obtain ⟨t, h1, h2⟩ := h
  exact ⟨t, ((h1.moved hvm).kept hq).narrow hAB, ((h2.moved hvm).kept hq).narrow hAB⟩
theorem xEset.go {A B : Nat → Prop} {u U : State} {H H1 : Heap} (h : xEset A u H) (hvm : u.vm.Alike U.vm) (hq : ∀ a : Nat, a < H.size → ¬ A a → H1[a]? = H[a]?) (hAB : ∀ q, B q → A q) : xEset B U H1 := ⟨h.1.go hvm hq hAB, h.2.go hvm hq hAB⟩
/-- a method that only reads: its answer is r, the heap stays -/
def MetR (l : Launch) (y : MethodName) (ws : List Cond) (rm : Room) (D : va_G) (ks : K3) (av : List Value) (wc : va_W) (r : Int32) (hz : Prop) : Prop :=
  Met l y ws rm (va_Pc av (fun U => va_P D vwCl wc U.heap ∧ xK D ks U)) (vp_Si (fun z => z = r ∧ hz)) 0 0 (fun _ => False)
/-- a method without an answer: its world wc becomes w1, no cell is made -/
def MetV (l : Launch) (y : MethodName) (ws : List Cond) (rm : Room) (D : va_G) (ks : K3) (av : List Value) (wc w1 : va_W) : Prop :=
  ∀ sz : Nat, Met l y ws rm (va_Pc av (fun U => U.heap.size = sz ∧ va_P D vwCl wc U.heap ∧ xK D ks U ∧ va_D (fun _ => True) wc)) (va_Qv (fun _ : Unit => True) (fun _ t => va_P D vwCl w1 t.heap ∧ va_D (va_A wc sz) w1) (va_A wc sz)) 0 0 (va_A wc sz)
/-- a method with an int as its answer: r; its world wc becomes w1, no cell is made -/
def MetI (l : Launch) (y : MethodName) (ws : List Cond) (rm : Room) (D : va_G) (ks : K3) (av : List Value) (wc w1 : va_W) (r : Int32) (hz : Prop) : Prop :=
  ∀ sz : Nat, Met l y ws rm (va_Pc av (fun U => U.heap.size = sz ∧ va_P D vwCl wc U.heap ∧ xK D ks U ∧ va_D (fun _ => True) wc)) (va_Qi (fun (z : Int32) (_ : Unit) => z = r ∧ hz) (fun _ t => va_P D vwCl w1 t.heap ∧ va_D (va_A wc sz) w1) (va_A wc sz)) 0 0 (va_A wc sz)
section OWN
variable {l : Launch} {y : MethodName} {ws ws' : List Cond} {rm : Room} {D : va_G} {ks : K3} {av : List Value} {wc w1 : va_W} {r : Int32} {hz : Prop} {cc : ByteArray} {maxL : Nat} {ret : Option FieldType}
theorem MetR.of (hy : plainName y.cls = true) (hw : ws = Cond.code y cc maxL ret :: ws') (hn : (lg_sl av).length ≤ maxL)
    (body : ∀ (p : Program) (e : Env) (s : State) (m : MethodId) (below : List Frame) (meth : Method) (c : Code) (Q : State → Prop),
      p.tables.exec = Jvm.exec → c.code = cc → c.maxLocals = maxL → (∀ w ∈ ws, w.before av.toArray s = true) → s.vm.findClass y.cls = some m.cls →
      va_P D vwCl wc s.heap → xK D ks s →
      (hz → ∀ (pc : Nat) (ls : Array Slot), decode cc pc = .ok (.ireturn, 1) → (∀ ty, ret = some ty → narrow ty (.int r) = .int r) → W p l e rm s m av.toArray below meth c s.heap [] 0 0 Q (F0 m pc ls [.int r])) →
      ∀ (ls : Array Slot), lv_has ls maxL (lv_args 0 av) → W p l e rm s m av.toArray below meth c s.heap [] 0 0 Q (F0 m 0 ls [])) (hret : ∃ ty, ret = some ty) : MetR l y ws rm D ks av wc r hz := by
  obtain ⟨ty, rfl⟩ := hret
  refine Met.ofW (cc := cc) (maxL := maxL) (ret := some ty) hy hw ?_
  intro p e s m args below meth c s₁ B hml hv
  obtain ⟨rfl, hP, hK⟩ := hv
  have hlocks := B.notSynchronized
  rw [lg_entry_eq]
  refine body p e s m below meth c _ B.exec B.bytes hml (atoms_spec (ws := ws) B.pre) (findClass_of_methodNamed B.named) hP hK (fun h pc ls hd hna => ?_) _ (lv_entry av hn)
  exact W.zret (v := r) (ty := ty) B.exec B.bytes B.returns (hna ty rfl) (fun t ht hW => ⟨r, rfl, ⟨rfl, h⟩, ht⟩) (fun q hq => by cases hq) hd
theorem MetV.of (hy : plainName y.cls = true) (hw : ws = Cond.code y cc maxL none :: ws') (hn : (lg_sl av).length ≤ maxL)
    (body : ∀ (p : Program) (e : Env) (s : State) (m : MethodId) (below : List Frame) (meth : Method) (c : Code) (Q : State → Prop) (A : Nat → Prop),
      p.tables.exec = Jvm.exec → c.code = cc → c.maxLocals = maxL → (∀ w ∈ ws, w.before av.toArray s = true) → s.vm.findClass y.cls = some m.cls →
      va_P D vwCl wc s.heap → xK D ks s → va_D A wc → (∀ q, s.heap.size ≤ q → A q) →
      (∀ (H : Heap) (locs : List Loc) (pc : Nat) (ls : Array Slot), decode cc pc = .ok (.return_, 1) → va_P D vwCl w1 H → va_D A w1 → va_S A s.heap H locs → W p l e rm s m av.toArray below meth c H locs 0 0 Q (F0 m pc ls [])) →
      ∀ (ls : Array Slot), lv_has ls maxL (lv_args 0 av) → W p l e rm s m av.toArray below meth c s.heap [] 0 0 Q (F0 m 0 ls [])) : MetV l y ws rm D ks av wc w1 := by
  intro sz
  refine Met.ofW (cc := cc) (maxL := maxL) (ret := none) hy hw ?_
  intro p e s m args below meth c s₁ B hml hv
  obtain ⟨rfl, hsz, hP, hK, hD⟩ := hv
  have hlocks := B.notSynchronized
  rw [lg_entry_eq]
  subst hsz
  refine body p e s m below meth c _ (va_A wc s.heap.size) B.exec B.bytes hml (atoms_spec (ws := ws) B.pre) (findClass_of_methodNamed B.named) hP hK hD.self (fun q h => Or.inr h) (fun H locs pc ls hd hP1 hD1 hS1 => ?_) _ (lv_entry av hn)
  exact W.vret B.exec B.bytes B.returns (fun t ht hW => ⟨⟨(), rfl, trivial, by rw [ht]; exact hP1, hD1⟩, hS1.F ht⟩) hS1.2.2 hd
theorem MetI.of (hy : plainName y.cls = true) (hw : ws = Cond.code y cc maxL ret :: ws') (hn : (lg_sl av).length ≤ maxL)
    (body : ∀ (p : Program) (e : Env) (s : State) (m : MethodId) (below : List Frame) (meth : Method) (c : Code) (Q : State → Prop) (A : Nat → Prop),
      p.tables.exec = Jvm.exec → c.code = cc → c.maxLocals = maxL → (∀ w ∈ ws, w.before av.toArray s = true) → s.vm.findClass y.cls = some m.cls →
      va_P D vwCl wc s.heap → xK D ks s → va_D A wc → (∀ q, s.heap.size ≤ q → A q) →
      (hz → ∀ (H : Heap) (locs : List Loc) (pc : Nat) (ls : Array Slot), decode cc pc = .ok (.ireturn, 1) → (∀ ty, ret = some ty → narrow ty (.int r) = .int r) → va_P D vwCl w1 H → va_D A w1 → va_S A s.heap H locs → W p l e rm s m av.toArray below meth c H locs 0 0 Q (F0 m pc ls [.int r])) →
      ∀ (ls : Array Slot), lv_has ls maxL (lv_args 0 av) → W p l e rm s m av.toArray below meth c s.heap [] 0 0 Q (F0 m 0 ls [])) (hret : ∃ ty, ret = some ty) : MetI l y ws rm D ks av wc w1 r hz := by
  intro sz
  obtain ⟨ty, rfl⟩ := hret
  refine Met.ofW (cc := cc) (maxL := maxL) (ret := some ty) hy hw ?_
  intro p e s m args below meth c s₁ B hml hv
  obtain ⟨rfl, hsz, hP, hK, hD⟩ := hv
  have hlocks := B.notSynchronized
  rw [lg_entry_eq]
  subst hsz
  refine body p e s m below meth c _ (va_A wc s.heap.size) B.exec B.bytes hml (atoms_spec (ws := ws) B.pre) (findClass_of_methodNamed B.named) hP hK hD.self (fun q h => Or.inr h) (fun h H locs pc ls hd hna hP1 hD1 hS1 => ?_) _ (lv_entry av hn)
  exact W.zret (v := r) (ty := ty) B.exec B.bytes B.returns (hna ty rfl) (fun t ht hW => ⟨⟨r, (), rfl, ⟨rfl, h⟩, by rw [ht]; exact hP1, hD1⟩, hS1.F ht⟩) hS1.2.2 hd
end OWN
section OWNC
variable {p : Program} {l : Launch} {e : Env} {R : Room} {s : State} {m : MethodId} {args : Array Value} {below : List Frame} {meth : Method} {c : Code} {H H0 : Heap} {locs : List Loc} {cells slots : Nat} {Q : State → Prop} {pc : Nat} {ls : Array Slot} {rest st0 As : List Value} {A : Nat → Prop} {cc bytes : ByteArray} {nL maxL n index : Nat} {own C : String} {y : MethodName} {ret : Option FieldType} {ws Ts : List Cond} {rm : Room} {D : va_G} {ks : K3} {tys : List (ClassId × FieldType)} {b : Nat} {wc w1 wr w wn : va_W} {r : Int32} {hz : Prop} {fA : Nat → Int32} {gA : Nat → Int32} {nA : Nat} {i x v : Int32} {cA : ClassId} {a : Nat}
theorem xa_iald (hx : p.tables.exec = Jvm.exec) (hb : c.code = cc) (hK : va_K D vwCl tys s) (hP : va_P D vwCl w H) (hv : ald fA nA i = some v) (q0 t0 : Nat) (ha : w[q0]? = some (a, .inl (cA, nA, .inl fA))) (ht : tys[t0]? = some (cA, .int)) (hdg : decode cc pc = .ok (.iaload, 1))
    (kk : W p l e R s m args below meth c H locs cells slots Q (F0 m (pc + 1) ls (.int v :: rest))) : W p l e R s m args below meth c H locs cells slots Q (F0 m pc ls (.int i :: .ref a :: rest)) := by
  obtain ⟨h1, h2⟩ := ald_in hv
  subst h2
  exact va_iald hx hb hK hP q0 t0 ha ht h1 hdg kk
theorem xa_cald (hx : p.tables.exec = Jvm.exec) (hb : c.code = cc) (hK : va_K D vwCl tys s) (hP : va_P D vwCl w H) (hv : ald fA nA i = some v) (q0 t0 : Nat) (ha : w[q0]? = some (a, .inl (cA, nA, .inl fA))) (ht : tys[t0]? = some (cA, .char)) (hdg : decode cc pc = .ok (.caload, 1))
    (kk : W p l e R s m args below meth c H locs cells slots Q (F0 m (pc + 1) ls (.int v :: rest))) : W p l e R s m args below meth c H locs cells slots Q (F0 m pc ls (.int i :: .ref a :: rest)) := by
  obtain ⟨h1, h2⟩ := ald_in hv
  subst h2
  exact va_cald hx hb hK hP q0 t0 ha ht h1 hdg kk
theorem xa_iast (hx : p.tables.exec = Jvm.exec) (hb : c.code = cc) (hK : va_K D vwCl tys s) (hP : va_P D vwCl w H) (hD : va_D A w) (hS : va_S A H0 H locs) (hv : ast fA nA i x = some gA) (q0 t0 : Nat) (ha : w[q0]? = some (a, .inl (cA, nA, .inl fA))) (ht : tys[t0]? = some (cA, .int)) (hdg : decode cc pc = .ok (.iastore, 1)) (hw : w.set q0 (a, .inl (cA, nA, .inl gA)) = wn)
    (kk : ∀ (H1 : Heap) (locs1 : List Loc), va_P D vwCl wn H1 → va_D A wn → va_S A H0 H1 locs1 → W p l e R s m args below meth c H1 locs1 cells slots Q (F0 m (pc + 1) ls rest)) : W p l e R s m args below meth c H locs cells slots Q (F0 m pc ls (.int x :: .int i :: .ref a :: rest)) := by
  obtain ⟨h1, h2⟩ := ast_in hv
  subst h2; subst hw
  exact va_iast hx hb hK hP hD hS q0 t0 ha ht h1 hdg kk
theorem xa_cast (hx : p.tables.exec = Jvm.exec) (hb : c.code = cc) (hK : va_K D vwCl tys s) (hP : va_P D vwCl w H) (hD : va_D A w) (hS : va_S A H0 H locs) (hv : cst fA nA i x = some gA) (q0 t0 : Nat) (ha : w[q0]? = some (a, .inl (cA, nA, .inl fA))) (ht : tys[t0]? = some (cA, .char)) (hdg : decode cc pc = .ok (.castore, 1)) (hw : w.set q0 (a, .inl (cA, nA, .inl gA)) = wn)
    (kk : ∀ (H1 : Heap) (locs1 : List Loc), va_P D vwCl wn H1 → va_D A wn → va_S A H0 H1 locs1 → W p l e R s m args below meth c H1 locs1 cells slots Q (F0 m (pc + 1) ls rest)) : W p l e R s m args below meth c H locs cells slots Q (F0 m pc ls (.int x :: .int i :: .ref a :: rest)) := by
  obtain ⟨h1, h2⟩ := cst_in hv
  subst h2; subst hw
  exact va_cast hx hb hK hP hD hS q0 t0 ha ht h1 hdg kk
theorem xputI {own ref C : String} {T : u_T} {N ci index : Nat} (hx : p.tables.exec = Jvm.exec) (hb : c.code = cc) (hts : ∀ w ∈ Ts, w.before args s = true) (hin : ∀ w ∈ u_ws C T N, w ∈ Ts) (ty0 : Nat → FieldType) (hty : ∀ k, k < N → parseFieldDescriptor (T k).2.2.1 = some (ty0 k)) (hnm : ∀ a, a < N → ∀ b, b < N → a ≠ b → (T a).2.1 ≠ (T b).2.1) (hown : s.vm.findClass own = some m.cls) (hK : va_K D vwCl tys s) (hP : va_P D vwCl w H) (hD : va_D A w) (hS : va_S A H0 H locs) (q0 : Nat) {fs : List Value} (he : w[q0]? = some (a, .inr (ci, fs))) (hc : vwCl[ci]? = some (C, T, N)) (k : Nat) (hk : k < N) (hlink : (Cond.fieldLink own index ref (T k).2.1 (T k).2.2.1).before args s = true) (hsame : ∀ x, s.fieldFound? (T k).1 (T k).2.1 (T k).2.2.1 = some x → s.fieldFound? ref (T k).2.1 (T k).2.2.1 = some x) (hfin : (T k).2.2.2 = false) (hd : parseFieldDescriptor (T k).2.2.1 = some .int) (hl : k < fs.length)
    (hdg : decode cc pc = .ok (.putfield index, 3)) (hw : w.set q0 (a, .inr (ci, fs.set k (.int v))) = wn) (kk : ∀ (H1 : Heap) (locs1 : List Loc), va_P D vwCl wn H1 → va_D A wn → va_S A H0 H1 locs1 → W p l e R s m args below meth c H1 locs1 cells slots Q (F0 m (pc + 3) ls rest)) : W p l e R s m args below meth c H locs cells slots Q (F0 m pc ls (.int v :: .ref a :: rest)) := by
  subst hw
  exact va_put hx hb hts hin ty0 hty hnm hown hK hP hD hS q0 he hc k hk hlink hsame hfin hd rfl rfl hl hdg kk
theorem xblR {av : List Value} {wc : va_W} : FrameBlind (va_Pc av (fun U => va_P D vwCl wc U.heap ∧ xK D ks U)) := fun a U g mk q => by
  obtain ⟨q0, qP, qK⟩ := q
  exact ⟨q0, qP, qK.calling⟩
theorem xblV {av : List Value} {wc : va_W} {sz : Nat} : FrameBlind (va_Pc av (fun U => U.heap.size = sz ∧ va_P D vwCl wc U.heap ∧ xK D ks U ∧ va_D (fun _ => True) wc)) := fun a U g mk q => by
  obtain ⟨q0, q1, qP, qK, qD⟩ := q
  exact ⟨q0, q1, qP, qK.calling, qD⟩
/-- a call of a reading method of an object of ours -/
theorem xcallRV (S : CallFix p m c cc nL s args Ts own) (hM : MetR l y ws rm D ks (.ref b :: As) wc r hz) (cw : CallW R s args own C index y bytes maxL ret ws rm 0 0 n) (hX : xK D ks s) (hP : va_P D vwCl wc H) {ci q0 : Nat} {T : u_T} {N : Nat} {fs : List Value} (hc : vwCl[ci]? = some (C, T, N)) (he : wc[q0]? = some (b, .inr (ci, fs)))
    (hn : As.length = n) (hsize : ls.size = nL) (hst : st0 = As.reverse ++ .ref b :: rest) (hW : (rest.map fun v => v.category).sum ≤ 8) (hdg : decode cc pc = .ok (.invokevirtual index, 3)) (hf : cells ≤ R.cells ∧ slots ≤ R.slots)
    (kk : hz → W p l e R s m args below meth c H locs cells slots Q (F0 m (pc + 3) ls (.int r :: rest))) : W p l e R s m args below meth c H locs cells slots Q (F0 m pc ls st0) := by
  refine vp_callSi (W.runV S hM cw ⟨xblR, ?_, fun U hU hW => ⟨rfl, by rw [hU]; exact hP, xK.moved hW hX⟩⟩ rfl hn hsize hst (lv_room hW) hdg hf) (fun z hzz => ?_)
  · exact va_recv hX.1 hP hc he
  · obtain ⟨rfl, h⟩ := hzz
    exact kk h
/-- a call of a reading static method -/
theorem xcallRS (S : CallFix p m c cc nL s args Ts own) (hM : MetR l y ws rm D ks As wc r hz) (cw : CallB R s args own index y bytes maxL ret ws rm 0 0 n ∧ (Cond.static y).before args s = true) (hX : xK D ks s) (hP : va_P D vwCl wc H)
    (hn : As.length = n) (hsize : ls.size = nL) (hst : st0 = As.reverse ++ rest) (hW : (rest.map fun v => v.category).sum ≤ 8) (hdg : decode cc pc = .ok (.invokestatic index, 3)) (hf : cells ≤ R.cells ∧ slots ≤ R.slots)
    (kk : hz → W p l e R s m args below meth c H locs cells slots Q (F0 m (pc + 3) ls (.int r :: rest))) : W p l e R s m args below meth c H locs cells slots Q (F0 m pc ls st0) := by
  refine vp_callSi (W.runS S hM cw ⟨xblR, fun U hU hW => ⟨rfl, by rw [hU]; exact hP, xK.moved hW hX⟩⟩ rfl hn hsize hst (lv_room hW) hdg hf) (fun z hzz => ?_)
  obtain ⟨rfl, h⟩ := hzz
  exact kk h
/-- a call of a writing method of an object of ours, without an answer -/
theorem xcallV (S : CallFix p m c cc nL s args Ts own) (hM : MetV l y ws rm D ks (.ref b :: As) wc w1) (cw : CallW R s args own C index y bytes maxL ret ws rm 0 0 n) (hX : xK D ks s) (hP : va_P D vwCl w H) (hD : va_D A w) (hS : va_S A H0 H locs) (hA : ∀ q, H0.size ≤ q → A q)
    (isC isR isN : List Nat) (hC : isC.map (fun i => w[i]?) = wc.map some) (hR : isR.map (fun i => w[i]?) = wr.map some) (hN : isN.map (fun i => (wr ++ w1)[i]?) = wn.map some) (hnd : va_nd isC = true ∧ va_nd isR = true ∧ va_nd isN = true) (hdis : ∀ i ∈ isR, i ∉ isC)
    {ci q0 : Nat} {T : u_T} {N : Nat} {fs : List Value} (hc : vwCl[ci]? = some (C, T, N)) (he : wc[q0]? = some (b, .inr (ci, fs)))
    (hn : As.length = n) (hsize : ls.size = nL) (hst : st0 = As.reverse ++ .ref b :: rest) (hW : (rest.map fun v => v.category).sum ≤ 8) (hdg : decode cc pc = .ok (.invokevirtual index, 3)) (hf : cells ≤ R.cells ∧ slots ≤ R.slots)
    (kk : ∀ (H1 : Heap) (locs1 : List Loc), va_P D vwCl wn H1 → va_D A wn → va_S A H0 H1 locs1 → W p l e R s m args below meth c H1 locs1 cells slots Q (F0 m (pc + 3) ls rest)) : W p l e R s m args below meth c H locs cells slots Q (F0 m pc ls st0) := by
  have hDc := hD.sub isC hnd.1 hC
  have hPc : va_P D vwCl wc H := fun k q hk => by
    have h1 : (isC.map (fun i => w[i]?))[k]? = some (some q) := by rw [hC, List.getElem?_map, hk]; rfl
    rw [List.getElem?_map] at h1
    cases hi : isC[k]? with
    | none => rw [hi] at h1; cases h1
    | some i => rw [hi] at h1; exact hP i q (Option.some.inj h1)
  have hFc := va_free hD hS hA isC hC
  refine va_callv (va_runV S (hM H.size) cw ⟨xblV, va_recv hX.1 hPc hc he, fun U hU hW => ⟨rfl, by rw [hU], by rw [hU]; exact hPc, xK.moved hW hX, hDc.weaken (fun _ _ _ _ => trivial)⟩⟩ rfl hn hsize hst (lv_room hW) hdg hf) hS (fun q _ h => hFc q h) hFc (fun u t H1 locs1 ht hvm hw hB hz1 hk1 hS1 => ?_)
  obtain ⟨hP1, hD1⟩ := hB
  rw [ht] at hP1
  obtain ⟨hP2, hD2⟩ := va_join hP hD isC isR hC hR hnd.2.1 hdis hk1 hFc hP1 hD1
  refine kk H1 locs1 (fun k q hk => ?_) (hD2.sub isN hnd.2.2 hN) hS1
  have h1 : (isN.map (fun i => (wr ++ w1)[i]?))[k]? = some (some q) := by rw [hN, List.getElem?_map, hk]; rfl
  rw [List.getElem?_map] at h1
  cases hi : isN[k]? with
  | none => rw [hi] at h1; cases h1
  | some i => rw [hi] at h1; exact hP2 i q (Option.some.inj h1)
/-- the same, with an int as its answer -/
theorem xcallI (S : CallFix p m c cc nL s args Ts own) (hM : MetI l y ws rm D ks (.ref b :: As) wc w1 r hz) (cw : CallW R s args own C index y bytes maxL ret ws rm 0 0 n) (hX : xK D ks s) (hP : va_P D vwCl w H) (hD : va_D A w) (hS : va_S A H0 H locs) (hA : ∀ q, H0.size ≤ q → A q)
    (isC isR isN : List Nat) (hC : isC.map (fun i => w[i]?) = wc.map some) (hR : isR.map (fun i => w[i]?) = wr.map some) (hN : isN.map (fun i => (wr ++ w1)[i]?) = wn.map some) (hnd : va_nd isC = true ∧ va_nd isR = true ∧ va_nd isN = true) (hdis : ∀ i ∈ isR, i ∉ isC)
    {ci q0 : Nat} {T : u_T} {N : Nat} {fs : List Value} (hc : vwCl[ci]? = some (C, T, N)) (he : wc[q0]? = some (b, .inr (ci, fs)))
    (hn : As.length = n) (hsize : ls.size = nL) (hst : st0 = As.reverse ++ .ref b :: rest) (hW : (rest.map fun v => v.category).sum ≤ 8) (hdg : decode cc pc = .ok (.invokevirtual index, 3)) (hf : cells ≤ R.cells ∧ slots ≤ R.slots)
    (kk : hz → ∀ (H1 : Heap) (locs1 : List Loc), va_P D vwCl wn H1 → va_D A wn → va_S A H0 H1 locs1 → W p l e R s m args below meth c H1 locs1 cells slots Q (F0 m (pc + 3) ls (.int r :: rest))) : W p l e R s m args below meth c H locs cells slots Q (F0 m pc ls st0) := by
  have hDc := hD.sub isC hnd.1 hC
  have hPc : va_P D vwCl wc H := fun k q hk => by
    have h1 : (isC.map (fun i => w[i]?))[k]? = some (some q) := by rw [hC, List.getElem?_map, hk]; rfl
    rw [List.getElem?_map] at h1
    cases hi : isC[k]? with
    | none => rw [hi] at h1; cases h1
    | some i => rw [hi] at h1; exact hP i q (Option.some.inj h1)
  have hFc := va_free hD hS hA isC hC
  refine va_calli (va_runV S (hM H.size) cw ⟨xblV, va_recv hX.1 hPc hc he, fun U hU hW => ⟨rfl, by rw [hU], by rw [hU]; exact hPc, xK.moved hW hX, hDc.weaken (fun _ _ _ _ => trivial)⟩⟩ rfl hn hsize hst (lv_room hW) hdg hf) hS (fun q _ h => hFc q h) hFc (fun r1 u t H1 locs1 ht hvm hw hB hz1 hk1 hS1 => ?_)
  obtain ⟨hP1, hD1⟩ := hB
  rw [ht] at hP1
  obtain ⟨hP2, hD2⟩ := va_join hP hD isC isR hC hR hnd.2.1 hdis hk1 hFc hP1 hD1
  obtain ⟨rfl, hz2⟩ := hw
  refine kk hz2 H1 locs1 (fun k q hk => ?_) (hD2.sub isN hnd.2.2 hN) hS1
  have h1 : (isN.map (fun i => (wr ++ w1)[i]?))[k]? = some (some q) := by rw [hN, List.getElem?_map, hk]; rfl
  rw [List.getElem?_map] at h1
  cases hi : isN[k]? with
  | none => rw [hi] at h1; cases h1
  | some i => rw [hi] at h1; exact hP2 i q (Option.some.inj h1)
theorem xmmin (hx : p.tables.exec = Jvm.exec) (hb : c.code = cc) (hml : c.maxLocals = nL) (hsize : ls.size = nL) (hown : s.vm.findClass own = some m.cls) (hlink : (Cond.methodLink own index Lib.Math.min.name).before args s = true) (hstat : (Cond.static Lib.Math.min.name).before args s = true) (hini : (Cond.initialized "java/lang/Math").before args s = true) (hcode : (Cond.code Lib.Math.min.name Lib.Math.min.code 2 (some .int)).before args s = true)
    (hframes : 1 ≤ R.frames) (hlocals : (rest.map fun v => v.category).sum + 13 ≤ R.locals) (hc : cells ≤ R.cells) (hs : slots ≤ R.slots) {x y : Int32} (hdg : decode cc pc = .ok (.invokestatic index, 3))
    (kk : W p l e R s m args below meth c H locs cells slots Q (F0 m (pc + 3) ls (.int (imin x y) :: rest))) : W p l e R s m args below meth c H locs cells slots Q (F0 m pc ls (.int y :: .int x :: rest)) :=
  va_mmin hx hb (by rw [hml, hsize]) hown hlink hstat hini hcode hframes hlocals hc hs hdg kk
theorem xmmax (hx : p.tables.exec = Jvm.exec) (hb : c.code = cc) (hml : c.maxLocals = nL) (hsize : ls.size = nL) (hown : s.vm.findClass own = some m.cls) (hlink : (Cond.methodLink own index Lib.Math.max.name).before args s = true) (hstat : (Cond.static Lib.Math.max.name).before args s = true) (hini : (Cond.initialized "java/lang/Math").before args s = true) (hcode : (Cond.code Lib.Math.max.name Lib.Math.max.code 2 (some .int)).before args s = true)
    (hframes : 1 ≤ R.frames) (hlocals : (rest.map fun v => v.category).sum + 13 ≤ R.locals) (hc : cells ≤ R.cells) (hs : slots ≤ R.slots) {x y : Int32} (hdg : decode cc pc = .ok (.invokestatic index, 3))
    (kk : W p l e R s m args below meth c H locs cells slots Q (F0 m (pc + 3) ls (.int (imax x y) :: rest))) : W p l e R s m args below meth c H locs cells slots Q (F0 m pc ls (.int y :: .int x :: rest)) :=
  va_mmax hx hb (by rw [hml, hsize]) hown hlink hstat hini hcode hframes hlocals hc hs hdg kk

theorem xx_ishl (hx : p.tables.exec = Jvm.exec) (hb : c.code = cc) {x y : Int32} (hdg : decode cc pc = .ok (.ishl, 1)) (k : W p l e R s m args below meth c H locs cells slots Q (F0 m (pc + 1) ls (.int (jshl x y) :: rest))) : W p l e R s m args below meth c H locs cells slots Q (F0 m pc ls (.int y :: .int x :: rest)) := lv_ishl hx hb hdg k
theorem xx_ishr (hx : p.tables.exec = Jvm.exec) (hb : c.code = cc) {x y : Int32} (hdg : decode cc pc = .ok (.ishr, 1)) (k : W p l e R s m args below meth c H locs cells slots Q (F0 m (pc + 1) ls (.int (jshr x y) :: rest))) : W p l e R s m args below meth c H locs cells slots Q (F0 m pc ls (.int y :: .int x :: rest)) := lv_ishr hx hb hdg k
theorem lv_name {x w : Int32} (ew : w = x) (k : W p l e R s m args below meth c H locs cells slots Q (F0 m pc ls (.int w :: rest))) : W p l e R s m args below meth c H locs cells slots Q (F0 m pc ls (.int x :: rest)) := by
  subst ew
  exact k
/-- a call of a reading static method of a nest mate -/
theorem xcallRSN {host : String} (S : CallFix p m c cc nL s args Ts own) (hM : MetR l y ws rm D ks As wc r hz) (cw : va_CN R s args own index y host bytes maxL ret ws rm 0 0 n ∧ (Cond.static y).before args s = true ∧ True) (hX : xK D ks s) (hP : va_P D vwCl wc H)
    (hn : As.length = n) (hsize : ls.size = nL) (hst : st0 = As.reverse ++ rest) (hW : (rest.map fun v => v.category).sum ≤ 8) (hdg : decode cc pc = .ok (.invokestatic index, 3)) (hf : cells ≤ R.cells ∧ slots ≤ R.slots)
    (kk : hz → W p l e R s m args below meth c H locs cells slots Q (F0 m (pc + 3) ls (.int r :: rest))) : W p l e R s m args below meth c H locs cells slots Q (F0 m pc ls st0) := by
  refine vp_callSi ((va_runSN S hM cw ⟨xblR, fun U hU hW => ⟨rfl, by rw [hU]; exact hP, xK.moved hW hX⟩⟩ rfl hn hsize hst (lv_room hW) hdg hf).run) (fun z hzz => ?_)
  obtain ⟨rfl, h⟩ := hzz
  exact kk h
theorem vcong {cA : ClassId} {N : Nat} {f g : Nat → Int32} (h : ∀ j, j < N → f j = g j) : vp_cell cA (N, .inl f) = vp_cell cA (N, .inl g) := by
  rw [vp_cell_i, vp_cell_i]
  unfold arrV
  have e : (fun j : Fin N => Value.int (f j.val)) = fun j => Value.int (g j.val) := funext fun j => by rw [h j.val j.isLt]
  rw [e]
/-- a whole row is copied -/
theorem xcopy (hx : p.tables.exec = Jvm.exec) (hb : c.code = cc) (hml : c.maxLocals = nL) (hsize : ls.size = nL) (hown : s.vm.findClass own = some m.cls) (hlink : (Cond.methodLink own index arraycopyName).before args s = true) (hnat : (Cond.native arraycopyName).before args s = true) (hstat : (Cond.static arraycopyName).before args s = true) (hini : (Cond.initialized "java/lang/System").before args s = true)
    (hK : va_K D vwCl tys s) (hP : va_P D vwCl w H) (hD : va_D A w) (hS : va_S A H0 H locs) (q0 q1 t0 : Nat) {a0 : Nat} (ha0 : w[q0]? = some (a0, .inl (cA, nA, .inl fA))) (ha1 : w[q1]? = some (a, .inl (cA, nA, .inl gA))) (ht0 : tys[t0]? = some (cA, .int)) {N : Int32} (h3 : ¬ N < 0) (h4 : N.toNatClampNeg = nA)
    (hframes : 1 ≤ R.frames) (hlocals : (rest.map fun v => v.category).sum + (nativeFrameWords "java/lang/System" "arraycopy" 5 + 11) ≤ R.locals) (hdg : decode cc pc = .ok (.invokestatic index, 3)) (hw : w.set q1 (a, .inl (cA, nA, .inl fA)) = wn)
    (kk : ∀ (H1 : Heap) (locs1 : List Loc), va_P D vwCl wn H1 → va_D A wn → va_S A H0 H1 locs1 → W p l e R s m args below meth c H1 locs1 cells slots Q (F0 m (pc + 3) ls rest)) : W p l e R s m args below meth c H locs cells slots Q (F0 m pc ls (.int N :: .int 0 :: .ref a :: .int 0 :: .ref a0 :: rest)) := by
  subst hw
  refine va_copyi hx hb (by rw [hml, hsize]) hown hlink hnat hstat hini hK hP hD hS q0 q1 t0 t0 ha0 ha1 ht0 ht0 rfl (by decide) (by decide) h3 (by rw [h4]; exact Nat.le_of_eq (Nat.zero_add _)) (by rw [h4]; exact Nat.le_of_eq (Nat.zero_add _)) (fun i hi => rfl) hframes hlocals hdg (fun H1 locs1 hP1 hD1 hS1 => ?_)
  have hl := (List.getElem?_eq_some_iff.mp ha1).1
  refine kk H1 locs1 (fun k q hk => ?_) ⟨fun i j x y hi hj hxy => ?_, fun k q hk => ?_⟩ hS1
  · by_cases hkq : k = q1
    · subst hkq
      rw [List.getElem?_set_self hl] at hk
      cases hk
      have h9 := hP1 k (a, .inl (cA, nA, .inl (va_cpy fA gA (0 : Int32).toNatClampNeg (0 : Int32).toNatClampNeg N.toNatClampNeg))) (by rw [List.getElem?_set_self hl])
      show H1[a]? = some (vp_cell cA (nA, .inl fA))
      have h8 : H1[a]? = some (vp_cell cA (nA, .inl (va_cpy fA gA (0 : Int32).toNatClampNeg (0 : Int32).toNatClampNeg N.toNatClampNeg))) := h9
      rw [h8]
      congr 1
      refine vcong (fun j hj => ?_)
      show va_cpy fA gA 0 0 N.toNatClampNeg j = fA j
      rw [h4, sb_cpy0 hj]
    · rw [List.getElem?_set_ne (Ne.symm hkq)] at hk
      exact hP1 k q (by rw [List.getElem?_set_ne (Ne.symm hkq)]; exact hk)
  · have key : ∀ (k : Nat) (q : Nat × va_E), (w.set q1 (a, .inl (cA, nA, .inl fA)))[k]? = some q → ∃ q', (w.set q1 (a, .inl (cA, nA, .inl (va_cpy fA gA (0 : Int32).toNatClampNeg (0 : Int32).toNatClampNeg N.toNatClampNeg))))[k]? = some q' ∧ q'.1 = q.1 := by
      intro k q hk
      by_cases hkq : k = q1
      · subst hkq
        rw [List.getElem?_set_self hl] at hk
        cases hk
        exact ⟨(a, .inl (cA, nA, .inl (va_cpy fA gA (0 : Int32).toNatClampNeg (0 : Int32).toNatClampNeg N.toNatClampNeg))), List.getElem?_set_self hl, rfl⟩
      · rw [List.getElem?_set_ne (Ne.symm hkq)] at hk
        exact ⟨q, by rw [List.getElem?_set_ne (Ne.symm hkq)]; exact hk, rfl⟩
    obtain ⟨x', h1, h2⟩ := key i x hi
    obtain ⟨y', h5, h6⟩ := key j y hj
    exact hD1.1 i j x' y' h1 h5 (by rw [h2, h6, hxy])
  · by_cases hkq : k = q1
    · subst hkq
      rw [List.getElem?_set_self hl] at hk
      cases hk
      exact hD.2 k (a, .inl (cA, nA, .inl gA)) ha1
    · rw [List.getElem?_set_ne (Ne.symm hkq)] at hk
      exact hD.2 k q hk
theorem xa_tald (hx : p.tables.exec = Jvm.exec) (hb : c.code = cc) {t N : Nat} {f : Nat → Int32} (hT : va_T .int t N (fun j => .int (f j)) A s s.heap) (hS : va_S A s.heap H locs) (hv : ald f N i = some v) (hdg : decode cc pc = .ok (.iaload, 1))
    (kk : W p l e R s m args below meth c H locs cells slots Q (F0 m (pc + 1) ls (.int v :: rest))) : W p l e R s m args below meth c H locs cells slots Q (F0 m pc ls (.int i :: .ref t :: rest)) := by
  obtain ⟨h1, h2⟩ := ald_in hv
  subst h2
  exact va_ti hx hb hT hS h1 rfl hdg kk
end OWNC
/-- a method as MetI, which needs more of the start -/
def MetIE (l : Launch) (y : MethodName) (ws : List Cond) (rm : Room) (D : va_G) (ks : K3) (av : List Value) (wc w1 : va_W) (r : Int32) (hz : Prop) (E : (Nat → Prop) → State → Heap → Prop) : Prop :=
  ∀ sz : Nat, Met l y ws rm (va_Pc av (fun U => U.heap.size = sz ∧ va_P D vwCl wc U.heap ∧ xK D ks U ∧ va_D (fun _ => True) wc ∧ E (va_A wc sz) U U.heap)) (va_Qi (fun (z : Int32) (_ : Unit) => z = r ∧ hz) (fun _ t => va_P D vwCl w1 t.heap ∧ va_D (va_A wc sz) w1) (va_A wc sz)) 0 0 (va_A wc sz)
theorem MetIE.of {l : Launch} {y : MethodName} {ws ws' : List Cond} {rm : Room} {D : va_G} {ks : K3} {av : List Value} {wc w1 : va_W} {r : Int32} {hz : Prop} {E : (Nat → Prop) → State → Heap → Prop} {cc : ByteArray} {maxL : Nat} {ret : Option FieldType} (hy : plainName y.cls = true) (hw : ws = Cond.code y cc maxL ret :: ws') (hn : (lg_sl av).length ≤ maxL)
    (body : ∀ (p : Program) (e : Env) (s : State) (m : MethodId) (below : List Frame) (meth : Method) (c : Code) (Q : State → Prop) (A : Nat → Prop),
      p.tables.exec = Jvm.exec → c.code = cc → c.maxLocals = maxL → (∀ w ∈ ws, w.before av.toArray s = true) → s.vm.findClass y.cls = some m.cls →
      va_P D vwCl wc s.heap → xK D ks s → va_D A wc → (∀ q, s.heap.size ≤ q → A q) → E A s s.heap →
      (hz → ∀ (H : Heap) (locs : List Loc) (pc : Nat) (ls : Array Slot), decode cc pc = .ok (.ireturn, 1) → (∀ ty, ret = some ty → narrow ty (.int r) = .int r) → va_P D vwCl w1 H → va_D A w1 → va_S A s.heap H locs → W p l e rm s m av.toArray below meth c H locs 0 0 Q (F0 m pc ls [.int r])) →
      ∀ (ls : Array Slot), lv_has ls maxL (lv_args 0 av) → W p l e rm s m av.toArray below meth c s.heap [] 0 0 Q (F0 m 0 ls [])) (hret : ∃ ty, ret = some ty) : MetIE l y ws rm D ks av wc w1 r hz E := by
  intro sz
  obtain ⟨ty, rfl⟩ := hret
  refine Met.ofW (cc := cc) (maxL := maxL) (ret := some ty) hy hw ?_
  intro p e s m args below meth c s₁ B hml hv
  obtain ⟨rfl, hsz, hP, hK, hD, hE⟩ := hv
  have hlocks := B.notSynchronized
  rw [lg_entry_eq]
  subst hsz
  refine body p e s m below meth c _ (va_A wc s.heap.size) B.exec B.bytes hml (atoms_spec (ws := ws) B.pre) (findClass_of_methodNamed B.named) hP hK hD.self (fun q h => Or.inr h) hE (fun h H locs pc ls hd hna hP1 hD1 hS1 => ?_) _ (lv_entry av hn)
  exact W.zret (v := r) (ty := ty) B.exec B.bytes B.returns (hna ty rfl) (fun t ht hW => ⟨⟨r, (), rfl, ⟨rfl, h⟩, by rw [ht]; exact hP1, hD1⟩, hS1.F ht⟩) hS1.2.2 hd
