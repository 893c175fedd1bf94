section
-- ===== PART A: goes FIRST, ahead of the names: the tables' words, and 'selects' of the private methods out of them =====
/-- a private method of a class that the tables say can be made, by its rows of tables_1 -/
def lw_okq (q : MethodName × Nat) : Prop := (q.1.cls ≠ "java/lang/invoke/MethodHandle" ∧ q.1.cls ≠ "java/lang/invoke/VarHandle") ∧ Cond.instantiable q.1.cls q.2 ∈ tables_1 ∧ Cond.privateMethod q.1 ∈ tables_1 ∧ Cond.instanceMethod q.1 ∈ tables_1
theorem lw_p0 : lw_okq (⟨"SoapFilm$History", "dropOldest", "()V"⟩, 2) := ⟨⟨by decide +kernel, by decide +kernel⟩, List.mem_of_getElem? (i := 71) (by decide +kernel), List.mem_of_getElem? (i := 147) (by decide +kernel), List.mem_of_getElem? (i := 148) (by decide +kernel)⟩
theorem lw_p1 : lw_okq (⟨"SoapFilm$Film", "endFilm", "(I)V"⟩, 10) := ⟨⟨by decide +kernel, by decide +kernel⟩, List.mem_of_getElem? (i := 18) (by decide +kernel), List.mem_of_getElem? (i := 166) (by decide +kernel), List.mem_of_getElem? (i := 167) (by decide +kernel)⟩
theorem lw_p2 : lw_okq (⟨"SoapFilm$Film", "move", "(III)V"⟩, 10) := ⟨⟨by decide +kernel, by decide +kernel⟩, List.mem_of_getElem? (i := 18) (by decide +kernel), List.mem_of_getElem? (i := 170) (by decide +kernel), List.mem_of_getElem? (i := 171) (by decide +kernel)⟩
theorem lw_p3 : lw_okq (⟨"SoapFilm$Film", "drain", "()V"⟩, 10) := ⟨⟨by decide +kernel, by decide +kernel⟩, List.mem_of_getElem? (i := 18) (by decide +kernel), List.mem_of_getElem? (i := 219) (by decide +kernel), List.mem_of_getElem? (i := 220) (by decide +kernel)⟩
theorem lw_p4 : lw_okq (⟨"SoapFilm$Film", "giveDown", "(II)V"⟩, 10) := ⟨⟨by decide +kernel, by decide +kernel⟩, List.mem_of_getElem? (i := 18) (by decide +kernel), List.mem_of_getElem? (i := 224) (by decide +kernel), List.mem_of_getElem? (i := 225) (by decide +kernel)⟩
theorem lw_p5 : lw_okq (⟨"SoapFilm$Film", "runEdges", "()V"⟩, 10) := ⟨⟨by decide +kernel, by decide +kernel⟩, List.mem_of_getElem? (i := 18) (by decide +kernel), List.mem_of_getElem? (i := 229) (by decide +kernel), List.mem_of_getElem? (i := 230) (by decide +kernel)⟩
theorem lw_p6 : lw_okq (⟨"SoapFilm$Film", "dry", "()V"⟩, 10) := ⟨⟨by decide +kernel, by decide +kernel⟩, List.mem_of_getElem? (i := 18) (by decide +kernel), List.mem_of_getElem? (i := 237) (by decide +kernel), List.mem_of_getElem? (i := 238) (by decide +kernel)⟩
theorem lw_p7 : lw_okq (⟨"SoapFilm$Film", "letDropFall", "()V"⟩, 10) := ⟨⟨by decide +kernel, by decide +kernel⟩, List.mem_of_getElem? (i := 18) (by decide +kernel), List.mem_of_getElem? (i := 241) (by decide +kernel), List.mem_of_getElem? (i := 242) (by decide +kernel)⟩
theorem lw_p8 : lw_okq (⟨"SoapFilm$Film", "burstIfDue", "()V"⟩, 10) := ⟨⟨by decide +kernel, by decide +kernel⟩, List.mem_of_getElem? (i := 18) (by decide +kernel), List.mem_of_getElem? (i := 245) (by decide +kernel), List.mem_of_getElem? (i := 246) (by decide +kernel)⟩
theorem lw_p9 : lw_okq (⟨"SoapFilm$Film", "firstTooThin", "()I"⟩, 10) := ⟨⟨by decide +kernel, by decide +kernel⟩, List.mem_of_getElem? (i := 18) (by decide +kernel), List.mem_of_getElem? (i := 249) (by decide +kernel), List.mem_of_getElem? (i := 250) (by decide +kernel)⟩
theorem lw_p10 : lw_okq (⟨"SoapFilm$Film", "burst", "(II)V"⟩, 10) := ⟨⟨by decide +kernel, by decide +kernel⟩, List.mem_of_getElem? (i := 18) (by decide +kernel), List.mem_of_getElem? (i := 257) (by decide +kernel), List.mem_of_getElem? (i := 258) (by decide +kernel)⟩
theorem lw_p11 : lw_okq (⟨"SoapFilm", "isSo", "(II)Z"⟩, 4) := ⟨⟨by decide +kernel, by decide +kernel⟩, List.mem_of_getElem? (i := 10) (by decide +kernel), List.mem_of_getElem? (i := 389) (by decide +kernel), List.mem_of_getElem? (i := 390) (by decide +kernel)⟩
theorem lw_p12 : lw_okq (⟨"SoapFilm$FilmText", "takePart", "(II)I"⟩, 6) := ⟨⟨by decide +kernel, by decide +kernel⟩, List.mem_of_getElem? (i := 88) (by decide +kernel), List.mem_of_getElem? (i := 409) (by decide +kernel), List.mem_of_getElem? (i := 410) (by decide +kernel)⟩
theorem lw_p13 : lw_okq (⟨"SoapFilm$FilmText", "findCross", "(II)I"⟩, 6) := ⟨⟨by decide +kernel, by decide +kernel⟩, List.mem_of_getElem? (i := 88) (by decide +kernel), List.mem_of_getElem? (i := 413) (by decide +kernel), List.mem_of_getElem? (i := 414) (by decide +kernel)⟩
theorem lw_p14 : lw_okq (⟨"SoapFilm$FilmText", "number", "(III)I"⟩, 6) := ⟨⟨by decide +kernel, by decide +kernel⟩, List.mem_of_getElem? (i := 88) (by decide +kernel), List.mem_of_getElem? (i := 417) (by decide +kernel), List.mem_of_getElem? (i := 418) (by decide +kernel)⟩
def lw_privs_1 : List (MethodName × Nat) := [(⟨"SoapFilm$History", "dropOldest", "()V"⟩, 2), (⟨"SoapFilm$Film", "endFilm", "(I)V"⟩, 10), (⟨"SoapFilm$Film", "move", "(III)V"⟩, 10), (⟨"SoapFilm$Film", "drain", "()V"⟩, 10), (⟨"SoapFilm$Film", "giveDown", "(II)V"⟩, 10), (⟨"SoapFilm$Film", "runEdges", "()V"⟩, 10), (⟨"SoapFilm$Film", "dry", "()V"⟩, 10), (⟨"SoapFilm$Film", "letDropFall", "()V"⟩, 10), (⟨"SoapFilm$Film", "burstIfDue", "()V"⟩, 10), (⟨"SoapFilm$Film", "firstTooThin", "()I"⟩, 10), (⟨"SoapFilm$Film", "burst", "(II)V"⟩, 10), (⟨"SoapFilm", "isSo", "(II)Z"⟩, 4), (⟨"SoapFilm$FilmText", "takePart", "(II)I"⟩, 6), (⟨"SoapFilm$FilmText", "findCross", "(II)I"⟩, 6), (⟨"SoapFilm$FilmText", "number", "(III)I"⟩, 6)]
theorem lw_r1 : ∀ q ∈ lw_privs_1, lw_okq q := List.forall_mem_cons.mpr ⟨lw_p0, List.forall_mem_cons.mpr ⟨lw_p1, List.forall_mem_cons.mpr ⟨lw_p2, List.forall_mem_cons.mpr ⟨lw_p3, List.forall_mem_cons.mpr ⟨lw_p4, List.forall_mem_cons.mpr ⟨lw_p5, List.forall_mem_cons.mpr ⟨lw_p6, List.forall_mem_cons.mpr ⟨lw_p7, List.forall_mem_cons.mpr ⟨lw_p8, List.forall_mem_cons.mpr ⟨lw_p9, List.forall_mem_cons.mpr ⟨lw_p10, List.forall_mem_cons.mpr ⟨lw_p11, List.forall_mem_cons.mpr ⟨lw_p12, List.forall_mem_cons.mpr ⟨lw_p13, List.forall_mem_cons.mpr ⟨lw_p14, fun _ h => absurd h List.not_mem_nil⟩⟩⟩⟩⟩⟩⟩⟩⟩⟩⟩⟩⟩⟩⟩
def lw_privs : List (MethodName × Nat) := lw_privs_1
def lw_tbl : List Cond := k2_sels lw_privs ++ tables_1
theorem lw_privs_ok : ∀ q ∈ lw_privs, lw_okq q := lw_r1
/-! ===== BEGIN words of one list among another's, by their places ===== -/
theorem goodIn_r {big : List Cond} (ws : List Cond) (ps : List Nat) (hp : ws = ps.filterMap (fun i => big[i]?)) (h : ws.all goodWord = true) : GoodIn big ws := by
  intro w hw
  have h1 := List.all_eq_true.mp h w hw
  rw [hp] at hw
  obtain ⟨i, -, hi⟩ := List.mem_filterMap.mp hw
  have hm : w ∈ big := by first | exact List.mem_of_getElem? hi | exact List.getElem?_mem hi
  exact ⟨hm, good_of_word h1⟩
theorem goodIn_app {big a b : List Cond} (ha : GoodIn big a) (hb : GoodIn big b) : GoodIn big (a ++ b) := fun w h => (List.mem_append.mp h).elim (ha w) (hb w)
theorem goodIn_ca {big a b : List Cond} {c : Cond} (ha : GoodIn big (c :: a)) (hb : GoodIn big b) : GoodIn big (c :: (a ++ b)) := fun w h => (List.mem_cons.mp h).elim (fun e => ha w (List.mem_cons.mpr (Or.inl e))) (fun h => (List.mem_append.mp h).elim (fun h => ha w (List.mem_cons.mpr (Or.inr h))) (hb w))
theorem goodIn_sub {big ws : List Cond} (hm : ∀ w ∈ ws, w ∈ big) (h : ws.all goodWord = true) : GoodIn big ws := fun w hw => ⟨hm w hw, good_of_word (List.all_eq_true.mp h w hw)⟩
/-! ===== END ===== -/

/-! ===== BEGIN printed: names, fields, word lists, decode rows ===== -/
def RX0 : String := "SoapFilm$Film"
def TX0 : u_T := fun k => match k with
  | 0 => ("SoapFilm$Film", "thickness", "[I", true)
  | 1 => ("SoapFilm$Film", "settings", "[I", true)
  | 2 => ("SoapFilm$Film", "accounts", "[I", true)
  | 3 => ("SoapFilm$Film", "rows", "I", false)
  | 4 => ("SoapFilm$Film", "ticks", "I", false)
  | 5 => ("SoapFilm$Film", "drops", "I", false)
  | 6 => ("SoapFilm$Film", "bursts", "I", false)
  | 7 => ("SoapFilm$Film", "burstReason", "I", false)
  | 8 => ("SoapFilm$Film", "burstNumber", "I", false)
  | _ => ("SoapFilm$Film", "ticksBeforeBurst", "I", false)
def tyX0 : Nat → FieldType := fun k => match k with
  | 0 => .array .int
  | 1 => .array .int
  | 2 => .array .int
  | 3 => .int
  | 4 => .int
  | 5 => .int
  | 6 => .int
  | 7 => .int
  | 8 => .int
  | _ => .int
abbrev wsX00 : List Cond := u_ws RX0 TX0 10
theorem nmX0 : ∀ a, a < 10 → ∀ b, b < 10 → a ≠ b → (TX0 a).2.1 ≠ (TX0 b).2.1 := by decide +kernel
theorem tyX0_ok : ∀ k, k < 10 → parseFieldDescriptor (TX0 k).2.2.1 = some (tyX0 k) := by decide +kernel
abbrev cX0_init : ByteArray := prog_2_method_1_code
def yX0_init : MethodName := ⟨RX0, "<init>", "()V"⟩
abbrev cX0_copyFrom : ByteArray := prog_2_method_2_code
def yX0_copyFrom : MethodName := ⟨RX0, "copyFrom", "(LSoapFilm$Film;)V"⟩
abbrev cX0_hasRow : ByteArray := prog_2_method_3_code
def yX0_hasRow : MethodName := ⟨RX0, "hasRow", "(I)Z"⟩
abbrev cX0_bring : ByteArray := prog_2_method_4_code
def yX0_bring : MethodName := ⟨RX0, "bring", "(I)V"⟩
abbrev cX0_move : ByteArray := prog_2_method_5_code
def yX0_move : MethodName := ⟨RX0, "move", "(III)V"⟩
abbrev cX0_appendRow : ByteArray := prog_2_method_6_code
def yX0_appendRow : MethodName := ⟨RX0, "appendRow", "(I)V"⟩
abbrev cX0_takeAway : ByteArray := prog_2_method_7_code
def yX0_takeAway : MethodName := ⟨RX0, "takeAway", "()V"⟩
abbrev cX0_endFilm : ByteArray := prog_2_method_8_code
def yX0_endFilm : MethodName := ⟨RX0, "endFilm", "(I)V"⟩
abbrev cX0_loseFrom : ByteArray := prog_2_method_9_code
def yX0_loseFrom : MethodName := ⟨RX0, "loseFrom", "(III)I"⟩
abbrev cX0_colourAt : ByteArray := prog_2_method_10_code
def yX0_colourAt : MethodName := ⟨RX0, "colourAt", "(I)I"⟩
abbrev cX0_isBlack : ByteArray := prog_2_method_11_code
def yX0_isBlack : MethodName := ⟨RX0, "isBlack", "(I)Z"⟩
abbrev cX0_startsColour : ByteArray := prog_2_method_12_code
def yX0_startsColour : MethodName := ⟨RX0, "startsColour", "(I)Z"⟩
abbrev cX0_blackRows : ByteArray := prog_2_method_13_code
def yX0_blackRows : MethodName := ⟨RX0, "blackRows", "()I"⟩
abbrev cX0_fringes : ByteArray := prog_2_method_14_code
def yX0_fringes : MethodName := ⟨RX0, "fringes", "()I"⟩
abbrev cX0_differentColours : ByteArray := prog_2_method_15_code
def yX0_differentColours : MethodName := ⟨RX0, "differentColours", "()I"⟩
abbrev cX0_greatestOrder : ByteArray := prog_2_method_16_code
def yX0_greatestOrder : MethodName := ⟨RX0, "greatestOrder", "()I"⟩
abbrev cX0_tick : ByteArray := prog_2_method_17_code
def yX0_tick : MethodName := ⟨RX0, "tick", "()V"⟩
abbrev cX0_drain : ByteArray := prog_2_method_18_code
def yX0_drain : MethodName := ⟨RX0, "drain", "()V"⟩
abbrev cX0_runEdges : ByteArray := prog_2_method_19_code
def yX0_runEdges : MethodName := ⟨RX0, "runEdges", "()V"⟩
abbrev cX0_giveDown : ByteArray := prog_2_method_20_code
def yX0_giveDown : MethodName := ⟨RX0, "giveDown", "(II)V"⟩
abbrev cX0_dry : ByteArray := prog_2_method_21_code
def yX0_dry : MethodName := ⟨RX0, "dry", "()V"⟩
abbrev cX0_letDropFall : ByteArray := prog_2_method_22_code
def yX0_letDropFall : MethodName := ⟨RX0, "letDropFall", "()V"⟩
abbrev cX0_burstIfDue : ByteArray := prog_2_method_23_code
def yX0_burstIfDue : MethodName := ⟨RX0, "burstIfDue", "()V"⟩
abbrev cX0_firstTooThin : ByteArray := prog_2_method_24_code
def yX0_firstTooThin : MethodName := ⟨RX0, "firstTooThin", "()I"⟩
abbrev cX0_burst : ByteArray := prog_2_method_25_code
def yX0_burst : MethodName := ⟨RX0, "burst", "(II)V"⟩
def RX1 : String := "SoapFilm$FilmText"
def TX1 : u_T := fun k => match k with
  | 0 => ("SoapFilm$FilmText", "signs", "[C", true)
  | 1 => ("SoapFilm$FilmText", "length", "I", false)
  | 2 => ("SoapFilm$FilmText", "thickness", "[I", true)
  | 3 => ("SoapFilm$FilmText", "rows", "I", false)
  | 4 => ("SoapFilm$FilmText", "position", "I", false)
  | _ => ("SoapFilm$FilmText", "reason", "I", false)
def tyX1 : Nat → FieldType := fun k => match k with
  | 0 => .array .char
  | 1 => .int
  | 2 => .array .int
  | 3 => .int
  | 4 => .int
  | _ => .int
abbrev wsX10 : List Cond := u_ws RX1 TX1 6
theorem nmX1 : ∀ a, a < 6 → ∀ b, b < 6 → a ≠ b → (TX1 a).2.1 ≠ (TX1 b).2.1 := by decide +kernel
theorem tyX1_ok : ∀ k, k < 6 → parseFieldDescriptor (TX1 k).2.2.1 = some (tyX1 k) := by decide +kernel
abbrev cX1_init : ByteArray := prog_3_method_1_code
def yX1_init : MethodName := ⟨RX1, "<init>", "()V"⟩
abbrev cX1_append : ByteArray := prog_3_method_2_code
def yX1_append : MethodName := ⟨RX1, "append", "(C)V"⟩
abbrev cX1_parse : ByteArray := prog_3_method_3_code
def yX1_parse : MethodName := ⟨RX1, "parse", "()V"⟩
abbrev cX1_takePart : ByteArray := prog_3_method_4_code
def yX1_takePart : MethodName := ⟨RX1, "takePart", "(II)I"⟩
abbrev cX1_findCross : ByteArray := prog_3_method_5_code
def yX1_findCross : MethodName := ⟨RX1, "findCross", "(II)I"⟩
abbrev cX1_number : ByteArray := prog_3_method_6_code
def yX1_number : MethodName := ⟨RX1, "number", "(III)I"⟩
def RX2 : String := "SoapFilm$History"
def TX2 : u_T := fun k => match k with
  | 0 => ("SoapFilm$History", "states", "[LSoapFilm$Film;", true)
  | _ => ("SoapFilm$History", "size", "I", false)
def tyX2 : Nat → FieldType := fun k => match k with
  | 0 => .array (.object "SoapFilm$Film")
  | _ => .int
abbrev wsX20 : List Cond := u_ws RX2 TX2 2
theorem nmX2 : ∀ a, a < 2 → ∀ b, b < 2 → a ≠ b → (TX2 a).2.1 ≠ (TX2 b).2.1 := by decide +kernel
theorem tyX2_ok : ∀ k, k < 2 → parseFieldDescriptor (TX2 k).2.2.1 = some (tyX2 k) := by decide +kernel
abbrev cX2_init : ByteArray := prog_4_method_1_code
def yX2_init : MethodName := ⟨RX2, "<init>", "()V"⟩
abbrev cX2_keep : ByteArray := prog_4_method_2_code
def yX2_keep : MethodName := ⟨RX2, "keep", "(LSoapFilm$Film;)V"⟩
abbrev cX2_restore : ByteArray := prog_4_method_3_code
def yX2_restore : MethodName := ⟨RX2, "restore", "(LSoapFilm$Film;)V"⟩
abbrev cX2_dropOldest : ByteArray := prog_4_method_4_code
def yX2_dropOldest : MethodName := ⟨RX2, "dropOldest", "()V"⟩
def RX3 : String := "SoapFilm$Light"
def TX3 : u_T := fun k => match k with
  | _ => ("", "", "", false)
def tyX3 : Nat → FieldType := fun k => match k with
  | _ => .int
abbrev wsX30 : List Cond := u_ws RX3 TX3 0
theorem nmX3 : ∀ a, a < 0 → ∀ b, b < 0 → a ≠ b → (TX3 a).2.1 ≠ (TX3 b).2.1 := by decide +kernel
theorem tyX3_ok : ∀ k, k < 0 → parseFieldDescriptor (TX3 k).2.2.1 = some (tyX3 k) := by decide +kernel
abbrev cX3_path : ByteArray := prog_5_method_2_code
def yX3_path : MethodName := ⟨RX3, "path", "(I)I"⟩
abbrev cX3_red : ByteArray := prog_5_method_3_code
def yX3_red : MethodName := ⟨RX3, "red", "(I)I"⟩
abbrev cX3_green : ByteArray := prog_5_method_4_code
def yX3_green : MethodName := ⟨RX3, "green", "(I)I"⟩
abbrev cX3_blue : ByteArray := prog_5_method_5_code
def yX3_blue : MethodName := ⟨RX3, "blue", "(I)I"⟩
abbrev cX3_order : ByteArray := prog_5_method_6_code
def yX3_order : MethodName := ⟨RX3, "order", "(I)I"⟩
abbrev cX3_colour : ByteArray := prog_5_method_7_code
def yX3_colour : MethodName := ⟨RX3, "colour", "(II)I"⟩
abbrev cX3_brightness : ByteArray := prog_5_method_8_code
def yX3_brightness : MethodName := ⟨RX3, "brightness", "(I)I"⟩
def RX4 : String := "SoapFilm"
def TX4 : u_T := fun k => match k with
  | 0 => ("SoapFilm", "film", "LSoapFilm$Film;", true)
  | 1 => ("SoapFilm", "trial", "LSoapFilm$Film;", true)
  | 2 => ("SoapFilm", "history", "LSoapFilm$History;", true)
  | _ => ("SoapFilm", "text", "LSoapFilm$FilmText;", true)
def tyX4 : Nat → FieldType := fun k => match k with
  | 0 => .object "SoapFilm$Film"
  | 1 => .object "SoapFilm$Film"
  | 2 => .object "SoapFilm$History"
  | _ => .object "SoapFilm$FilmText"
abbrev wsX40 : List Cond := u_ws RX4 TX4 4
theorem nmX4 : ∀ a, a < 4 → ∀ b, b < 4 → a ≠ b → (TX4 a).2.1 ≠ (TX4 b).2.1 := by decide +kernel
theorem tyX4_ok : ∀ k, k < 4 → parseFieldDescriptor (TX4 k).2.2.1 = some (tyX4 k) := by decide +kernel
abbrev cX4_init : ByteArray := prog_1_method_1_code
def yX4_init : MethodName := ⟨RX4, "<init>", "()V"⟩
abbrev cX4_set : ByteArray := prog_1_method_2_code
def yX4_set : MethodName := ⟨RX4, "set", "(II)I"⟩
abbrev cX4_dip : ByteArray := prog_1_method_3_code
def yX4_dip : MethodName := ⟨RX4, "dip", "(III)I"⟩
abbrev cX4_pour : ByteArray := prog_1_method_4_code
def yX4_pour : MethodName := ⟨RX4, "pour", "(II)I"⟩
abbrev cX4_add : ByteArray := prog_1_method_5_code
def yX4_add : MethodName := ⟨RX4, "add", "(I)I"⟩
abbrev cX4_thin : ByteArray := prog_1_method_6_code
def yX4_thin : MethodName := ⟨RX4, "thin", "(II)I"⟩
abbrev cX4_cut : ByteArray := prog_1_method_7_code
def yX4_cut : MethodName := ⟨RX4, "cut", "()I"⟩
abbrev cX4_go : ByteArray := prog_1_method_8_code
def yX4_go : MethodName := ⟨RX4, "go", "(I)I"⟩
abbrev cX4_undo : ByteArray := prog_1_method_9_code
def yX4_undo : MethodName := ⟨RX4, "undo", "()I"⟩
abbrev cX4_row : ByteArray := prog_1_method_10_code
def yX4_row : MethodName := ⟨RX4, "row", "(II)I"⟩
abbrev cX4_count : ByteArray := prog_1_method_11_code
def yX4_count : MethodName := ⟨RX4, "count", "(I)I"⟩
abbrev cX4_ladder : ByteArray := prog_1_method_12_code
def yX4_ladder : MethodName := ⟨RX4, "ladder", "(I)I"⟩
abbrev cX4_find : ByteArray := prog_1_method_13_code
def yX4_find : MethodName := ⟨RX4, "find", "(II)I"⟩
abbrev cX4_colourOf : ByteArray := prog_1_method_14_code
def yX4_colourOf : MethodName := ⟨RX4, "colourOf", "(I)I"⟩
abbrev cX4_thicknessFor : ByteArray := prog_1_method_15_code
def yX4_thicknessFor : MethodName := ⟨RX4, "thicknessFor", "(II)I"⟩
abbrev cX4_until : ByteArray := prog_1_method_16_code
def yX4_until : MethodName := ⟨RX4, "until", "(II)I"⟩
abbrev cX4_ifGo : ByteArray := prog_1_method_17_code
def yX4_ifGo : MethodName := ⟨RX4, "ifGo", "(II)I"⟩
abbrev cX4_type : ByteArray := prog_1_method_18_code
def yX4_type : MethodName := ⟨RX4, "type", "(I)I"⟩
abbrev cX4_clearText : ByteArray := prog_1_method_19_code
def yX4_clearText : MethodName := ⟨RX4, "clearText", "()I"⟩
abbrev cX4_fault : ByteArray := prog_1_method_20_code
def yX4_fault : MethodName := ⟨RX4, "fault", "(I)I"⟩
abbrev cX4_read : ByteArray := prog_1_method_21_code
def yX4_read : MethodName := ⟨RX4, "read", "()I"⟩
abbrev cX4_isBetween : ByteArray := prog_1_method_22_code
def yX4_isBetween : MethodName := ⟨RX4, "isBetween", "(III)Z"⟩
abbrev cX4_isThickness : ByteArray := prog_1_method_23_code
def yX4_isThickness : MethodName := ⟨RX4, "isThickness", "(I)Z"⟩
abbrev cX4_isColour : ByteArray := prog_1_method_24_code
def yX4_isColour : MethodName := ⟨RX4, "isColour", "(I)Z"⟩
abbrev cX4_isQuestion : ByteArray := prog_1_method_25_code
def yX4_isQuestion : MethodName := ⟨RX4, "isQuestion", "(II)Z"⟩
abbrev cX4_isSo : ByteArray := prog_1_method_26_code
def yX4_isSo : MethodName := ⟨RX4, "isSo", "(II)Z"⟩
def RX5 : String := "SoapFilmModel"
def TX5 : u_T := fun k => match k with
  | _ => ("", "", "", false)
def tyX5 : Nat → FieldType := fun k => match k with
  | _ => .int
abbrev wsX50 : List Cond := u_ws RX5 TX5 0
theorem nmX5 : ∀ a, a < 0 → ∀ b, b < 0 → a ≠ b → (TX5 a).2.1 ≠ (TX5 b).2.1 := by decide +kernel
theorem tyX5_ok : ∀ k, k < 0 → parseFieldDescriptor (TX5 k).2.2.1 = some (tyX5 k) := by decide +kernel
def RJ6 : String := "java/lang/Integer"
def TJ6 : u_T := fun k => match k with
  | _ => ("", "", "", false)
def tyJ6 : Nat → FieldType := fun k => match k with
  | _ => .int
abbrev wsJ60 : List Cond := u_ws RJ6 TJ6 0
theorem nmJ6 : ∀ a, a < 0 → ∀ b, b < 0 → a ≠ b → (TJ6 a).2.1 ≠ (TJ6 b).2.1 := by decide +kernel
theorem tyJ6_ok : ∀ k, k < 0 → parseFieldDescriptor (TJ6 k).2.2.1 = some (tyJ6 k) := by decide +kernel
abbrev cJ6_bitCount_0f7a4 : ByteArray := prog_8_method_49_code
def yJ6_bitCount_0f7a4 : MethodName := ⟨RJ6, "bitCount", "(I)I"⟩
def RJ9 : String := "java/lang/Math"
def TJ9 : u_T := fun k => match k with
  | _ => ("", "", "", false)
def tyJ9 : Nat → FieldType := fun k => match k with
  | _ => .int
abbrev wsJ90 : List Cond := u_ws RJ9 TJ9 0
theorem nmJ9 : ∀ a, a < 0 → ∀ b, b < 0 → a ≠ b → (TJ9 a).2.1 ≠ (TJ9 b).2.1 := by decide +kernel
theorem tyJ9_ok : ∀ k, k < 0 → parseFieldDescriptor (TJ9 k).2.2.1 = some (tyJ9 k) := by decide +kernel
abbrev cJ9_max_7cf53 : ByteArray := prog_9_method_65_code
def yJ9_max_7cf53 : MethodName := ⟨RJ9, "max", "(II)I"⟩
abbrev cJ9_min_7cf53 : ByteArray := prog_9_method_69_code
def yJ9_min_7cf53 : MethodName := ⟨RJ9, "min", "(II)I"⟩
def RJ10 : String := "java/lang/System"
def TJ10 : u_T := fun k => match k with
  | _ => ("", "", "", false)
def tyJ10 : Nat → FieldType := fun k => match k with
  | _ => .int
abbrev wsJ100 : List Cond := u_ws RJ10 TJ10 0
theorem nmJ10 : ∀ a, a < 0 → ∀ b, b < 0 → a ≠ b → (TJ10 a).2.1 ≠ (TJ10 b).2.1 := by decide +kernel
theorem tyJ10_ok : ∀ k, k < 0 → parseFieldDescriptor (TJ10 k).2.2.1 = some (tyJ10 k) := by decide +kernel
def RL : String := "SoapFilmLaw"
abbrev cL_part : ByteArray := method_2_code
def yL_part : MethodName := ⟨RL, "part", "(II)I"⟩
abbrev cL_take : ByteArray := method_3_code
def yL_take : MethodName := ⟨RL, "take", "([II)I"⟩
abbrev cL_mixed : ByteArray := method_4_code
def yL_mixed : MethodName := ⟨RL, "mixed", "(JJ)J"⟩
abbrev cL_state : ByteArray := method_5_code
def yL_state : MethodName := ⟨RL, "state", "(LSoapFilm;)J"⟩
abbrev cL_refused : ByteArray := method_6_code
def yL_refused : MethodName := ⟨RL, "refused", "(LSoapFilm;)Z"⟩
abbrev cL_types : ByteArray := method_7_code
def yL_types : MethodName := ⟨RL, "types", "(LSoapFilm;J)V"⟩
abbrev cL_isFault : ByteArray := method_8_code
def yL_isFault : MethodName := ⟨RL, "isFault", "(LSoapFilm;JJII)Z"⟩
abbrev cL_texts : ByteArray := method_9_code
def yL_texts : MethodName := ⟨RL, "texts", "()Z"⟩
abbrev cL_known : ByteArray := method_10_code
def yL_known : MethodName := ⟨RL, "known", "()Z"⟩
abbrev cL_law : ByteArray := code
def yL_law : MethodName := ⟨RL, "law", "([I)Z"⟩
def wsX0_init : List Cond := .code yX0_init cX0_init 1 none :: ([.methodLink RX0 3 objectInit, .instanceMethod objectInit, .code objectInit ⟨#[0xb1]⟩ 1 none, .arrayClass .int, .fieldLink RX0 9 "SoapFilm$Film" "thickness" "[I", .fieldLink RX0 15 "SoapFilm$Film" "settings" "[I", .fieldLink RX0 18 "SoapFilm$Film" "accounts" "[I", .methodLink RX0 24 arraycopyName, .native arraycopyName, .static arraycopyName, .initialized "java/lang/System"] ++ wsX00)
def wsX0_copyFrom : List Cond := .code yX0_copyFrom cX0_copyFrom 2 none :: ([.fieldLink RX0 9 "SoapFilm$Film" "thickness" "[I", .methodLink RX0 24 arraycopyName, .native arraycopyName, .static arraycopyName, .initialized "java/lang/System", .fieldLink RX0 15 "SoapFilm$Film" "settings" "[I", .fieldLink RX0 18 "SoapFilm$Film" "accounts" "[I", .fieldLink RX0 30 "SoapFilm$Film" "rows" "I", .fieldLink RX0 34 "SoapFilm$Film" "ticks" "I", .fieldLink RX0 37 "SoapFilm$Film" "drops" "I", .fieldLink RX0 40 "SoapFilm$Film" "bursts" "I", .fieldLink RX0 43 "SoapFilm$Film" "burstReason" "I", .fieldLink RX0 46 "SoapFilm$Film" "burstNumber" "I", .fieldLink RX0 49 "SoapFilm$Film" "ticksBeforeBurst" "I"] ++ wsX00)
def wsX0_hasRow : List Cond := .code yX0_hasRow cX0_hasRow 2 (some .boolean) :: ([.fieldLink RX0 30 "SoapFilm$Film" "rows" "I"] ++ wsX00)
def wsX0_bring : List Cond := .code yX0_bring cX0_bring 2 none :: ([.fieldLink RX0 18 "SoapFilm$Film" "accounts" "[I"] ++ wsX00)
def wsX0_move : List Cond := .code yX0_move cX0_move 4 none :: ([.fieldLink RX0 18 "SoapFilm$Film" "accounts" "[I"] ++ wsX00)
def wsX0_appendRow : List Cond := .code yX0_appendRow cX0_appendRow 2 none :: ([.fieldLink RX0 30 "SoapFilm$Film" "rows" "I", .fieldLink RX0 9 "SoapFilm$Film" "thickness" "[I", .methodLink RX0 52 yX0_bring, .instanceMethod yX0_bring, .selects RX0 yX0_bring yX0_bring, .initialized RX0, .code yX0_bring cX0_bring 2 none, .fieldLink RX0 18 "SoapFilm$Film" "accounts" "[I"] ++ wsX00)
def wsX0_endFilm : List Cond := .code yX0_endFilm cX0_endFilm 2 none :: ([.fieldLink RX0 18 "SoapFilm$Film" "accounts" "[I", .fieldLink RX0 30 "SoapFilm$Film" "rows" "I", .methodLink RX0 59 yX0_move, .instanceMethod yX0_move, .selects RX0 yX0_move yX0_move, .initialized RX0, .code yX0_move cX0_move 4 none] ++ wsX00)
def wsX0_takeAway : List Cond := .code yX0_takeAway cX0_takeAway 1 none :: ([.methodLink RX0 56 yX0_endFilm, .instanceMethod yX0_endFilm, .selects RX0 yX0_endFilm yX0_endFilm, .initialized RX0, .code yX0_endFilm cX0_endFilm 2 none, .fieldLink RX0 18 "SoapFilm$Film" "accounts" "[I", .fieldLink RX0 30 "SoapFilm$Film" "rows" "I", .methodLink RX0 59 yX0_move, .instanceMethod yX0_move, .selects RX0 yX0_move yX0_move, .code yX0_move cX0_move 4 none] ++ wsX00)
def wsX0_loseFrom : List Cond := .code yX0_loseFrom cX0_loseFrom 5 (some .int) :: ([.fieldLink RX0 9 "SoapFilm$Film" "thickness" "[I", .methodLink RX0 63 Lib.Math.min.name, .static Lib.Math.min.name, .initialized "java/lang/Math", .code Lib.Math.min.name Lib.Math.min.code 2 (some .int), .methodLink RX0 59 yX0_move, .instanceMethod yX0_move, .selects RX0 yX0_move yX0_move, .initialized RX0, .code yX0_move cX0_move 4 none, .fieldLink RX0 18 "SoapFilm$Film" "accounts" "[I"] ++ wsX00)
def wsX3_path : List Cond := .code yX3_path cX3_path 1 (some .int) :: ([])
def wsX3_brightness : List Cond := .code yX3_brightness cX3_brightness 2 (some .int) :: ([])
def wsX3_red : List Cond := .code yX3_red cX3_red 1 (some .int) :: ([.methodLink RX3 9 yX3_brightness, .static yX3_brightness, .initialized RX3, .code yX3_brightness cX3_brightness 2 (some .int)])
def wsX3_green : List Cond := .code yX3_green cX3_green 1 (some .int) :: ([.methodLink RX3 9 yX3_brightness, .static yX3_brightness, .initialized RX3, .code yX3_brightness cX3_brightness 2 (some .int)])
def wsX3_blue : List Cond := .code yX3_blue cX3_blue 1 (some .int) :: ([.methodLink RX3 9 yX3_brightness, .static yX3_brightness, .initialized RX3, .code yX3_brightness cX3_brightness 2 (some .int)])
def wsX3_colour : List Cond := .code yX3_colour cX3_colour 4 (some .int) :: ([.methodLink RX3 13 yX3_path, .static yX3_path, .initialized RX3, .code yX3_path cX3_path 1 (some .int), .methodLink RX3 16 yX3_red, .static yX3_red, .code yX3_red cX3_red 1 (some .int), .methodLink RX3 9 yX3_brightness, .static yX3_brightness, .code yX3_brightness cX3_brightness 2 (some .int), .methodLink RX3 19 yX3_green, .static yX3_green, .code yX3_green cX3_green 1 (some .int), .methodLink RX3 22 yX3_blue, .static yX3_blue, .code yX3_blue cX3_blue 1 (some .int)])
def wsX0_colourAt : List Cond := .code yX0_colourAt cX0_colourAt 2 (some .int) :: ([.fieldLink RX0 9 "SoapFilm$Film" "thickness" "[I", .fieldLink RX0 15 "SoapFilm$Film" "settings" "[I", .methodLink RX0 69 yX3_colour, .static yX3_colour, .initialized RX3, .code yX3_colour cX3_colour 4 (some .int), .methodLink RX3 13 yX3_path, .static yX3_path, .code yX3_path cX3_path 1 (some .int), .methodLink RX3 16 yX3_red, .static yX3_red, .code yX3_red cX3_red 1 (some .int), .methodLink RX3 9 yX3_brightness, .static yX3_brightness, .code yX3_brightness cX3_brightness 2 (some .int), .methodLink RX3 19 yX3_green, .static yX3_green, .code yX3_green cX3_green 1 (some .int), .methodLink RX3 22 yX3_blue, .static yX3_blue, .code yX3_blue cX3_blue 1 (some .int)] ++ wsX00)
def wsX0_isBlack : List Cond := .code yX0_isBlack cX0_isBlack 2 (some .boolean) :: ([.fieldLink RX0 9 "SoapFilm$Film" "thickness" "[I", .fieldLink RX0 15 "SoapFilm$Film" "settings" "[I"] ++ wsX00)
def wsX0_startsColour_r1 : List Cond := [Cond.methodLink RX0 74 yX0_colourAt, Cond.instanceMethod yX0_colourAt, Cond.selects RX0 yX0_colourAt yX0_colourAt, Cond.initialized RX0, Cond.code yX0_colourAt cX0_colourAt 2 (some .int), Cond.fieldLink RX0 9 "SoapFilm$Film" "thickness" "[I", Cond.fieldLink RX0 15 "SoapFilm$Film" "settings" "[I", Cond.methodLink RX0 69 yX3_colour, Cond.static yX3_colour, Cond.initialized RX3, Cond.code yX3_colour cX3_colour 4 (some .int), Cond.methodLink RX3 13 yX3_path, Cond.static yX3_path, Cond.code yX3_path cX3_path 1 (some .int), Cond.methodLink RX3 16 yX3_red, Cond.static yX3_red, Cond.code yX3_red cX3_red 1 (some .int), Cond.methodLink RX3 9 yX3_brightness, Cond.static yX3_brightness, Cond.code yX3_brightness cX3_brightness 2 (some .int), Cond.methodLink RX3 19 yX3_green, Cond.static yX3_green, Cond.code yX3_green cX3_green 1 (some .int), Cond.methodLink RX3 22 yX3_blue]
def wsX0_startsColour_r2 : List Cond := [Cond.static yX3_blue, Cond.code yX3_blue cX3_blue 1 (some .int)]
def wsX0_startsColour : List Cond := .code yX0_startsColour cX0_startsColour 2 (some .boolean) :: ((wsX0_startsColour_r1 ++ wsX0_startsColour_r2) ++ wsX00)
def wsX0_blackRows : List Cond := .code yX0_blackRows cX0_blackRows 3 (some .int) :: ([.fieldLink RX0 30 "SoapFilm$Film" "rows" "I", .methodLink RX0 78 yX0_isBlack, .instanceMethod yX0_isBlack, .selects RX0 yX0_isBlack yX0_isBlack, .initialized RX0, .code yX0_isBlack cX0_isBlack 2 (some .boolean), .fieldLink RX0 9 "SoapFilm$Film" "thickness" "[I", .fieldLink RX0 15 "SoapFilm$Film" "settings" "[I"] ++ wsX00)
def wsX0_fringes_r1 : List Cond := [Cond.fieldLink RX0 30 "SoapFilm$Film" "rows" "I", Cond.methodLink RX0 82 yX0_startsColour, Cond.instanceMethod yX0_startsColour, Cond.selects RX0 yX0_startsColour yX0_startsColour, Cond.initialized RX0, Cond.code yX0_startsColour cX0_startsColour 2 (some .boolean), Cond.methodLink RX0 74 yX0_colourAt, Cond.instanceMethod yX0_colourAt, Cond.selects RX0 yX0_colourAt yX0_colourAt, Cond.code yX0_colourAt cX0_colourAt 2 (some .int), Cond.fieldLink RX0 9 "SoapFilm$Film" "thickness" "[I", Cond.fieldLink RX0 15 "SoapFilm$Film" "settings" "[I", Cond.methodLink RX0 69 yX3_colour, Cond.static yX3_colour, Cond.initialized RX3, Cond.code yX3_colour cX3_colour 4 (some .int), Cond.methodLink RX3 13 yX3_path, Cond.static yX3_path, Cond.code yX3_path cX3_path 1 (some .int), Cond.methodLink RX3 16 yX3_red, Cond.static yX3_red, Cond.code yX3_red cX3_red 1 (some .int), Cond.methodLink RX3 9 yX3_brightness, Cond.static yX3_brightness]
def wsX0_fringes_r2 : List Cond := [Cond.code yX3_brightness cX3_brightness 2 (some .int), Cond.methodLink RX3 19 yX3_green, Cond.static yX3_green, Cond.code yX3_green cX3_green 1 (some .int), Cond.methodLink RX3 22 yX3_blue, Cond.static yX3_blue, Cond.code yX3_blue cX3_blue 1 (some .int)]
def wsX0_fringes : List Cond := .code yX0_fringes cX0_fringes 3 (some .int) :: ((wsX0_fringes_r1 ++ wsX0_fringes_r2) ++ wsX00)
def wsJ6_bitCount_0f7a4 : List Cond := .code yJ6_bitCount_0f7a4 cJ6_bitCount_0f7a4 1 (some .int) :: ([.constant RJ6 265 (1431655765), .constant RJ6 266 (858993459), .constant RJ6 267 (252645135)])
def wsX0_differentColours_r1 : List Cond := [Cond.fieldLink RX0 30 "SoapFilm$Film" "rows" "I", Cond.methodLink RX0 74 yX0_colourAt, Cond.instanceMethod yX0_colourAt, Cond.selects RX0 yX0_colourAt yX0_colourAt, Cond.initialized RX0, Cond.code yX0_colourAt cX0_colourAt 2 (some .int), Cond.fieldLink RX0 9 "SoapFilm$Film" "thickness" "[I", Cond.fieldLink RX0 15 "SoapFilm$Film" "settings" "[I", Cond.methodLink RX0 69 yX3_colour, Cond.static yX3_colour, Cond.initialized RX3, Cond.code yX3_colour cX3_colour 4 (some .int), Cond.methodLink RX3 13 yX3_path, Cond.static yX3_path, Cond.code yX3_path cX3_path 1 (some .int), Cond.methodLink RX3 16 yX3_red, Cond.static yX3_red, Cond.code yX3_red cX3_red 1 (some .int), Cond.methodLink RX3 9 yX3_brightness, Cond.static yX3_brightness, Cond.code yX3_brightness cX3_brightness 2 (some .int), Cond.methodLink RX3 19 yX3_green, Cond.static yX3_green, Cond.code yX3_green cX3_green 1 (some .int)]
def wsX0_differentColours_r2 : List Cond := [Cond.methodLink RX3 22 yX3_blue, Cond.static yX3_blue, Cond.code yX3_blue cX3_blue 1 (some .int), Cond.methodLink RX0 85 yJ6_bitCount_0f7a4, Cond.static yJ6_bitCount_0f7a4, Cond.initialized RJ6, Cond.code yJ6_bitCount_0f7a4 cJ6_bitCount_0f7a4 1 (some .int), Cond.constant RJ6 265 (1431655765), Cond.constant RJ6 266 (858993459), Cond.constant RJ6 267 (252645135)]
def wsX0_differentColours : List Cond := .code yX0_differentColours cX0_differentColours 3 (some .int) :: ((wsX0_differentColours_r1 ++ wsX0_differentColours_r2) ++ wsX00)
def wsX3_order : List Cond := .code yX3_order cX3_order 1 (some .int) :: ([])
def wsX0_greatestOrder : List Cond := .code yX0_greatestOrder cX0_greatestOrder 3 (some .int) :: ([.fieldLink RX0 30 "SoapFilm$Film" "rows" "I", .fieldLink RX0 9 "SoapFilm$Film" "thickness" "[I", .methodLink RX0 96 Lib.Math.max.name, .static Lib.Math.max.name, .initialized "java/lang/Math", .code Lib.Math.max.name Lib.Math.max.code 2 (some .int), .methodLink RX0 90 yX3_path, .static yX3_path, .initialized RX3, .code yX3_path cX3_path 1 (some .int), .methodLink RX0 93 yX3_order, .static yX3_order, .code yX3_order cX3_order 1 (some .int)] ++ wsX00)
def wsX0_giveDown : List Cond := .code yX0_giveDown cX0_giveDown 5 none :: ([.fieldLink RX0 30 "SoapFilm$Film" "rows" "I", .fieldLink RX0 9 "SoapFilm$Film" "thickness" "[I", .methodLink RX0 63 Lib.Math.min.name, .static Lib.Math.min.name, .initialized "java/lang/Math", .code Lib.Math.min.name Lib.Math.min.code 2 (some .int), .methodLink RX0 120 yX0_loseFrom, .instanceMethod yX0_loseFrom, .selects RX0 yX0_loseFrom yX0_loseFrom, .initialized RX0, .code yX0_loseFrom cX0_loseFrom 5 (some .int), .methodLink RX0 59 yX0_move, .instanceMethod yX0_move, .selects RX0 yX0_move yX0_move, .code yX0_move cX0_move 4 none, .fieldLink RX0 18 "SoapFilm$Film" "accounts" "[I"] ++ wsX00)
def wsX0_drain : List Cond := .code yX0_drain cX0_drain 4 none :: ([.fieldLink RX0 30 "SoapFilm$Film" "rows" "I", .fieldLink RX0 9 "SoapFilm$Film" "thickness" "[I", .fieldLink RX0 15 "SoapFilm$Film" "settings" "[I", .constantLong RX0 114 (1000000), .methodLink RX0 116 yX0_giveDown, .instanceMethod yX0_giveDown, .selects RX0 yX0_giveDown yX0_giveDown, .initialized RX0, .code yX0_giveDown cX0_giveDown 5 none, .methodLink RX0 63 Lib.Math.min.name, .static Lib.Math.min.name, .initialized "java/lang/Math", .code Lib.Math.min.name Lib.Math.min.code 2 (some .int), .methodLink RX0 120 yX0_loseFrom, .instanceMethod yX0_loseFrom, .selects RX0 yX0_loseFrom yX0_loseFrom, .code yX0_loseFrom cX0_loseFrom 5 (some .int), .methodLink RX0 59 yX0_move, .instanceMethod yX0_move, .selects RX0 yX0_move yX0_move, .code yX0_move cX0_move 4 none, .fieldLink RX0 18 "SoapFilm$Film" "accounts" "[I"] ++ wsX00)
def wsX0_runEdges_r1 : List Cond := [Cond.fieldLink RX0 30 "SoapFilm$Film" "rows" "I", Cond.fieldLink RX0 15 "SoapFilm$Film" "settings" "[I", Cond.methodLink RX0 78 yX0_isBlack, Cond.instanceMethod yX0_isBlack, Cond.selects RX0 yX0_isBlack yX0_isBlack, Cond.initialized RX0, Cond.code yX0_isBlack cX0_isBlack 2 (some .boolean), Cond.fieldLink RX0 9 "SoapFilm$Film" "thickness" "[I", Cond.methodLink RX0 116 yX0_giveDown, Cond.instanceMethod yX0_giveDown, Cond.selects RX0 yX0_giveDown yX0_giveDown, Cond.code yX0_giveDown cX0_giveDown 5 none, Cond.methodLink RX0 63 Lib.Math.min.name, Cond.static Lib.Math.min.name, Cond.initialized "java/lang/Math", Cond.code Lib.Math.min.name Lib.Math.min.code 2 (some .int), Cond.methodLink RX0 120 yX0_loseFrom, Cond.instanceMethod yX0_loseFrom, Cond.selects RX0 yX0_loseFrom yX0_loseFrom, Cond.code yX0_loseFrom cX0_loseFrom 5 (some .int), Cond.methodLink RX0 59 yX0_move, Cond.instanceMethod yX0_move, Cond.selects RX0 yX0_move yX0_move, Cond.code yX0_move cX0_move 4 none]
def wsX0_runEdges_r2 : List Cond := [Cond.fieldLink RX0 18 "SoapFilm$Film" "accounts" "[I"]
def wsX0_runEdges : List Cond := .code yX0_runEdges cX0_runEdges 5 none :: ((wsX0_runEdges_r1 ++ wsX0_runEdges_r2) ++ wsX00)
def wsX0_dry : List Cond := .code yX0_dry cX0_dry 2 none :: ([.fieldLink RX0 30 "SoapFilm$Film" "rows" "I", .fieldLink RX0 15 "SoapFilm$Film" "settings" "[I", .methodLink RX0 120 yX0_loseFrom, .instanceMethod yX0_loseFrom, .selects RX0 yX0_loseFrom yX0_loseFrom, .initialized RX0, .code yX0_loseFrom cX0_loseFrom 5 (some .int), .fieldLink RX0 9 "SoapFilm$Film" "thickness" "[I", .methodLink RX0 63 Lib.Math.min.name, .static Lib.Math.min.name, .initialized "java/lang/Math", .code Lib.Math.min.name Lib.Math.min.code 2 (some .int), .methodLink RX0 59 yX0_move, .instanceMethod yX0_move, .selects RX0 yX0_move yX0_move, .code yX0_move cX0_move 4 none, .fieldLink RX0 18 "SoapFilm$Film" "accounts" "[I"] ++ wsX00)
def wsX0_letDropFall : List Cond := .code yX0_letDropFall cX0_letDropFall 1 none :: ([.fieldLink RX0 18 "SoapFilm$Film" "accounts" "[I", .fieldLink RX0 15 "SoapFilm$Film" "settings" "[I", .fieldLink RX0 37 "SoapFilm$Film" "drops" "I", .methodLink RX0 59 yX0_move, .instanceMethod yX0_move, .selects RX0 yX0_move yX0_move, .initialized RX0, .code yX0_move cX0_move 4 none] ++ wsX00)
def wsX0_firstTooThin : List Cond := .code yX0_firstTooThin cX0_firstTooThin 2 (some .int) :: ([.fieldLink RX0 30 "SoapFilm$Film" "rows" "I", .fieldLink RX0 9 "SoapFilm$Film" "thickness" "[I", .fieldLink RX0 15 "SoapFilm$Film" "settings" "[I"] ++ wsX00)
def wsX0_burst : List Cond := .code yX0_burst cX0_burst 3 none :: ([.fieldLink RX0 40 "SoapFilm$Film" "bursts" "I", .fieldLink RX0 43 "SoapFilm$Film" "burstReason" "I", .fieldLink RX0 46 "SoapFilm$Film" "burstNumber" "I", .fieldLink RX0 34 "SoapFilm$Film" "ticks" "I", .fieldLink RX0 49 "SoapFilm$Film" "ticksBeforeBurst" "I", .methodLink RX0 56 yX0_endFilm, .instanceMethod yX0_endFilm, .selects RX0 yX0_endFilm yX0_endFilm, .initialized RX0, .code yX0_endFilm cX0_endFilm 2 none, .fieldLink RX0 18 "SoapFilm$Film" "accounts" "[I", .fieldLink RX0 30 "SoapFilm$Film" "rows" "I", .methodLink RX0 59 yX0_move, .instanceMethod yX0_move, .selects RX0 yX0_move yX0_move, .code yX0_move cX0_move 4 none] ++ wsX00)
def wsX0_burstIfDue_r1 : List Cond := [Cond.fieldLink RX0 15 "SoapFilm$Film" "settings" "[I", Cond.methodLink RX0 124 yX0_firstTooThin, Cond.instanceMethod yX0_firstTooThin, Cond.selects RX0 yX0_firstTooThin yX0_firstTooThin, Cond.initialized RX0, Cond.code yX0_firstTooThin cX0_firstTooThin 2 (some .int), Cond.fieldLink RX0 30 "SoapFilm$Film" "rows" "I", Cond.fieldLink RX0 9 "SoapFilm$Film" "thickness" "[I", Cond.methodLink RX0 128 yX0_blackRows, Cond.instanceMethod yX0_blackRows, Cond.selects RX0 yX0_blackRows yX0_blackRows, Cond.code yX0_blackRows cX0_blackRows 3 (some .int), Cond.methodLink RX0 78 yX0_isBlack, Cond.instanceMethod yX0_isBlack, Cond.selects RX0 yX0_isBlack yX0_isBlack, Cond.code yX0_isBlack cX0_isBlack 2 (some .boolean), Cond.methodLink RX0 131 yX0_burst, Cond.instanceMethod yX0_burst, Cond.selects RX0 yX0_burst yX0_burst, Cond.code yX0_burst cX0_burst 3 none, Cond.fieldLink RX0 40 "SoapFilm$Film" "bursts" "I", Cond.fieldLink RX0 43 "SoapFilm$Film" "burstReason" "I", Cond.fieldLink RX0 46 "SoapFilm$Film" "burstNumber" "I", Cond.fieldLink RX0 34 "SoapFilm$Film" "ticks" "I"]
def wsX0_burstIfDue_r2 : List Cond := [Cond.fieldLink RX0 49 "SoapFilm$Film" "ticksBeforeBurst" "I", Cond.methodLink RX0 56 yX0_endFilm, Cond.instanceMethod yX0_endFilm, Cond.selects RX0 yX0_endFilm yX0_endFilm, Cond.code yX0_endFilm cX0_endFilm 2 none, Cond.fieldLink RX0 18 "SoapFilm$Film" "accounts" "[I", Cond.methodLink RX0 59 yX0_move, Cond.instanceMethod yX0_move, Cond.selects RX0 yX0_move yX0_move, Cond.code yX0_move cX0_move 4 none]
def wsX0_burstIfDue : List Cond := .code yX0_burstIfDue cX0_burstIfDue 3 none :: ((wsX0_burstIfDue_r1 ++ wsX0_burstIfDue_r2) ++ wsX00)
def wsX0_tick_r1 : List Cond := [Cond.fieldLink RX0 30 "SoapFilm$Film" "rows" "I", Cond.fieldLink RX0 34 "SoapFilm$Film" "ticks" "I", Cond.methodLink RX0 99 yX0_drain, Cond.instanceMethod yX0_drain, Cond.selects RX0 yX0_drain yX0_drain, Cond.initialized RX0, Cond.code yX0_drain cX0_drain 4 none, Cond.fieldLink RX0 9 "SoapFilm$Film" "thickness" "[I", Cond.fieldLink RX0 15 "SoapFilm$Film" "settings" "[I", Cond.constantLong RX0 114 (1000000), Cond.methodLink RX0 116 yX0_giveDown, Cond.instanceMethod yX0_giveDown, Cond.selects RX0 yX0_giveDown yX0_giveDown, Cond.code yX0_giveDown cX0_giveDown 5 none, Cond.methodLink RX0 63 Lib.Math.min.name, Cond.static Lib.Math.min.name, Cond.initialized "java/lang/Math", Cond.code Lib.Math.min.name Lib.Math.min.code 2 (some .int), Cond.methodLink RX0 120 yX0_loseFrom, Cond.instanceMethod yX0_loseFrom, Cond.selects RX0 yX0_loseFrom yX0_loseFrom, Cond.code yX0_loseFrom cX0_loseFrom 5 (some .int), Cond.methodLink RX0 59 yX0_move, Cond.instanceMethod yX0_move]
def wsX0_tick_r2 : List Cond := [Cond.selects RX0 yX0_move yX0_move, Cond.code yX0_move cX0_move 4 none, Cond.fieldLink RX0 18 "SoapFilm$Film" "accounts" "[I", Cond.methodLink RX0 102 yX0_runEdges, Cond.instanceMethod yX0_runEdges, Cond.selects RX0 yX0_runEdges yX0_runEdges, Cond.code yX0_runEdges cX0_runEdges 5 none, Cond.methodLink RX0 78 yX0_isBlack, Cond.instanceMethod yX0_isBlack, Cond.selects RX0 yX0_isBlack yX0_isBlack, Cond.code yX0_isBlack cX0_isBlack 2 (some .boolean), Cond.methodLink RX0 105 yX0_dry, Cond.instanceMethod yX0_dry, Cond.selects RX0 yX0_dry yX0_dry, Cond.code yX0_dry cX0_dry 2 none, Cond.methodLink RX0 108 yX0_letDropFall, Cond.instanceMethod yX0_letDropFall, Cond.selects RX0 yX0_letDropFall yX0_letDropFall, Cond.code yX0_letDropFall cX0_letDropFall 1 none, Cond.fieldLink RX0 37 "SoapFilm$Film" "drops" "I", Cond.methodLink RX0 111 yX0_burstIfDue, Cond.instanceMethod yX0_burstIfDue, Cond.selects RX0 yX0_burstIfDue yX0_burstIfDue, Cond.code yX0_burstIfDue cX0_burstIfDue 3 none]
def wsX0_tick_r3 : List Cond := [Cond.methodLink RX0 124 yX0_firstTooThin, Cond.instanceMethod yX0_firstTooThin, Cond.selects RX0 yX0_firstTooThin yX0_firstTooThin, Cond.code yX0_firstTooThin cX0_firstTooThin 2 (some .int), Cond.methodLink RX0 128 yX0_blackRows, Cond.instanceMethod yX0_blackRows, Cond.selects RX0 yX0_blackRows yX0_blackRows, Cond.code yX0_blackRows cX0_blackRows 3 (some .int), Cond.methodLink RX0 131 yX0_burst, Cond.instanceMethod yX0_burst, Cond.selects RX0 yX0_burst yX0_burst, Cond.code yX0_burst cX0_burst 3 none, Cond.fieldLink RX0 40 "SoapFilm$Film" "bursts" "I", Cond.fieldLink RX0 43 "SoapFilm$Film" "burstReason" "I", Cond.fieldLink RX0 46 "SoapFilm$Film" "burstNumber" "I", Cond.fieldLink RX0 49 "SoapFilm$Film" "ticksBeforeBurst" "I", Cond.methodLink RX0 56 yX0_endFilm, Cond.instanceMethod yX0_endFilm, Cond.selects RX0 yX0_endFilm yX0_endFilm, Cond.code yX0_endFilm cX0_endFilm 2 none]
def wsX0_tick : List Cond := .code yX0_tick cX0_tick 1 none :: ((wsX0_tick_r1 ++ (wsX0_tick_r2 ++ wsX0_tick_r3)) ++ wsX00)
def wsX1_init : List Cond := .code yX1_init cX1_init 1 none :: ([.methodLink RX1 3 objectInit, .instanceMethod objectInit, .code objectInit ⟨#[0xb1]⟩ 1 none, .arrayClass .char, .fieldLink RX1 11 "SoapFilm$FilmText" "signs" "[C", .arrayClass .int, .fieldLink RX1 15 "SoapFilm$FilmText" "thickness" "[I"] ++ wsX10)
def wsX1_append : List Cond := .code yX1_append cX1_append 2 none :: ([.fieldLink RX1 19 "SoapFilm$FilmText" "length" "I", .fieldLink RX1 11 "SoapFilm$FilmText" "signs" "[C"] ++ wsX10)
def wsX1_findCross : List Cond := .code yX1_findCross cX1_findCross 4 (some .int) :: ([.fieldLink RX1 11 "SoapFilm$FilmText" "signs" "[C"] ++ wsX10)
def wsX1_number : List Cond := .code yX1_number cX1_number 6 (some .int) :: ([.fieldLink RX1 11 "SoapFilm$FilmText" "signs" "[C"] ++ wsX10)
def wsX4_isBetween : List Cond := .code yX4_isBetween cX4_isBetween 3 (some .boolean) :: ([])
def wsX4_isThickness : List Cond := .code yX4_isThickness cX4_isThickness 1 (some .boolean) :: ([.methodLink RX4 40 yX4_isBetween, .static yX4_isBetween, .initialized RX4, .code yX4_isBetween cX4_isBetween 3 (some .boolean)])
def wsX1_takePart : List Cond := .code yX1_takePart cX1_takePart 7 (some .int) :: ([.fieldLink RX1 23 "SoapFilm$FilmText" "rows" "I", .fieldLink RX1 15 "SoapFilm$FilmText" "thickness" "[I", .methodLink RX1 36 yX1_findCross, .instanceMethod yX1_findCross, .selects RX1 yX1_findCross yX1_findCross, .initialized RX1, .code yX1_findCross cX1_findCross 4 (some .int), .fieldLink RX1 11 "SoapFilm$FilmText" "signs" "[C", .methodLink RX1 39 yX1_number, .instanceMethod yX1_number, .selects RX1 yX1_number yX1_number, .code yX1_number cX1_number 6 (some .int), .static yX4_isThickness, .initialized RX4, .code yX4_isThickness cX4_isThickness 1 (some .boolean), .methodLink RX4 40 yX4_isBetween, .static yX4_isBetween, .code yX4_isBetween cX4_isBetween 3 (some .boolean)] ++ wsX10)
def wsX1_parse_r1 : List Cond := [Cond.fieldLink RX1 23 "SoapFilm$FilmText" "rows" "I", Cond.fieldLink RX1 26 "SoapFilm$FilmText" "reason" "I", Cond.fieldLink RX1 19 "SoapFilm$FilmText" "length" "I", Cond.fieldLink RX1 11 "SoapFilm$FilmText" "signs" "[C", Cond.fieldLink RX1 29 "SoapFilm$FilmText" "position" "I", Cond.methodLink RX1 32 yX1_takePart, Cond.instanceMethod yX1_takePart, Cond.selects RX1 yX1_takePart yX1_takePart, Cond.initialized RX1, Cond.code yX1_takePart cX1_takePart 7 (some .int), Cond.fieldLink RX1 15 "SoapFilm$FilmText" "thickness" "[I", Cond.methodLink RX1 36 yX1_findCross, Cond.instanceMethod yX1_findCross, Cond.selects RX1 yX1_findCross yX1_findCross, Cond.code yX1_findCross cX1_findCross 4 (some .int), Cond.methodLink RX1 39 yX1_number, Cond.instanceMethod yX1_number, Cond.selects RX1 yX1_number yX1_number, Cond.code yX1_number cX1_number 6 (some .int), Cond.static yX4_isThickness, Cond.initialized RX4, Cond.code yX4_isThickness cX4_isThickness 1 (some .boolean), Cond.methodLink RX4 40 yX4_isBetween, Cond.static yX4_isBetween]
def wsX1_parse_r2 : List Cond := [Cond.code yX4_isBetween cX4_isBetween 3 (some .boolean)]
def wsX1_parse : List Cond := .code yX1_parse cX1_parse 3 none :: ((wsX1_parse_r1 ++ wsX1_parse_r2) ++ wsX10)
def wsX2_init : List Cond := .code yX2_init cX2_init 2 none :: ([.methodLink RX2 1 objectInit, .instanceMethod objectInit, .code objectInit ⟨#[0xb1]⟩ 1 none, .classLink RX2 9 RX0, .fieldLink RX2 11 "SoapFilm$History" "states" "[LSoapFilm$Film;", .instantiable RX0 10, .initialized RX0, .methodLink RX2 15 yX0_init, .instanceMethod yX0_init, .code yX0_init cX0_init 1 none, .methodLink RX0 3 objectInit, .arrayClass .int, .fieldLink RX0 9 "SoapFilm$Film" "thickness" "[I", .fieldLink RX0 15 "SoapFilm$Film" "settings" "[I", .fieldLink RX0 18 "SoapFilm$Film" "accounts" "[I", .methodLink RX0 24 arraycopyName, .native arraycopyName, .static arraycopyName, .initialized "java/lang/System"] ++ wsX20 ++ wsX00)
def wsX2_dropOldest : List Cond := .code yX2_dropOldest cX2_dropOldest 3 none :: ([.fieldLink RX2 11 "SoapFilm$History" "states" "[LSoapFilm$Film;", .fieldLink RX2 16 "SoapFilm$History" "size" "I"] ++ wsX20)
def wsX2_keep_r1 : List Cond := [Cond.fieldLink RX2 16 "SoapFilm$History" "size" "I", Cond.fieldLink RX2 11 "SoapFilm$History" "states" "[LSoapFilm$Film;", Cond.methodLink RX2 20 yX2_dropOldest, Cond.instanceMethod yX2_dropOldest, Cond.selects RX2 yX2_dropOldest yX2_dropOldest, Cond.initialized RX2, Cond.code yX2_dropOldest cX2_dropOldest 3 none, Cond.methodLink RX2 23 yX0_copyFrom, Cond.instanceMethod yX0_copyFrom, Cond.selects RX0 yX0_copyFrom yX0_copyFrom, Cond.initialized RX0, Cond.code yX0_copyFrom cX0_copyFrom 2 none, Cond.fieldLink RX0 9 "SoapFilm$Film" "thickness" "[I", Cond.methodLink RX0 24 arraycopyName, Cond.native arraycopyName, Cond.static arraycopyName, Cond.initialized "java/lang/System", Cond.fieldLink RX0 15 "SoapFilm$Film" "settings" "[I", Cond.fieldLink RX0 18 "SoapFilm$Film" "accounts" "[I", Cond.fieldLink RX0 30 "SoapFilm$Film" "rows" "I", Cond.fieldLink RX0 34 "SoapFilm$Film" "ticks" "I", Cond.fieldLink RX0 37 "SoapFilm$Film" "drops" "I", Cond.fieldLink RX0 40 "SoapFilm$Film" "bursts" "I", Cond.fieldLink RX0 43 "SoapFilm$Film" "burstReason" "I"]
def wsX2_keep_r2 : List Cond := [Cond.fieldLink RX0 46 "SoapFilm$Film" "burstNumber" "I", Cond.fieldLink RX0 49 "SoapFilm$Film" "ticksBeforeBurst" "I"]
def wsX2_keep : List Cond := .code yX2_keep cX2_keep 2 none :: ((wsX2_keep_r1 ++ wsX2_keep_r2) ++ wsX20 ++ wsX00)
def wsX2_restore : List Cond := .code yX2_restore cX2_restore 2 none :: ([.fieldLink RX2 16 "SoapFilm$History" "size" "I", .fieldLink RX2 11 "SoapFilm$History" "states" "[LSoapFilm$Film;", .methodLink RX2 23 yX0_copyFrom, .instanceMethod yX0_copyFrom, .selects RX0 yX0_copyFrom yX0_copyFrom, .initialized RX0, .code yX0_copyFrom cX0_copyFrom 2 none, .fieldLink RX0 9 "SoapFilm$Film" "thickness" "[I", .methodLink RX0 24 arraycopyName, .native arraycopyName, .static arraycopyName, .initialized "java/lang/System", .fieldLink RX0 15 "SoapFilm$Film" "settings" "[I", .fieldLink RX0 18 "SoapFilm$Film" "accounts" "[I", .fieldLink RX0 30 "SoapFilm$Film" "rows" "I", .fieldLink RX0 34 "SoapFilm$Film" "ticks" "I", .fieldLink RX0 37 "SoapFilm$Film" "drops" "I", .fieldLink RX0 40 "SoapFilm$Film" "bursts" "I", .fieldLink RX0 43 "SoapFilm$Film" "burstReason" "I", .fieldLink RX0 46 "SoapFilm$Film" "burstNumber" "I", .fieldLink RX0 49 "SoapFilm$Film" "ticksBeforeBurst" "I"] ++ wsX20 ++ wsX00)
def wsX4_init_r1 : List Cond := [Cond.methodLink RX4 1 objectInit, Cond.instanceMethod objectInit, Cond.code objectInit ⟨#[0xb1]⟩ 1 none, Cond.classLink RX4 7 RX0, Cond.instantiable RX0 10, Cond.initialized RX0, Cond.fieldLink RX4 10 "SoapFilm" "film" "LSoapFilm$Film;", Cond.fieldLink RX4 16 "SoapFilm" "trial" "LSoapFilm$Film;", Cond.classLink RX4 19 RX2, Cond.instantiable RX2 2, Cond.initialized RX2, Cond.fieldLink RX4 22 "SoapFilm" "history" "LSoapFilm$History;", Cond.classLink RX4 26 RX1, Cond.instantiable RX1 6, Cond.initialized RX1, Cond.fieldLink RX4 29 "SoapFilm" "text" "LSoapFilm$FilmText;", Cond.methodLink RX4 9 yX0_init, Cond.instanceMethod yX0_init, Cond.code yX0_init cX0_init 1 none, Cond.methodLink RX0 3 objectInit, Cond.arrayClass .int, Cond.fieldLink RX0 9 "SoapFilm$Film" "thickness" "[I", Cond.fieldLink RX0 15 "SoapFilm$Film" "settings" "[I", Cond.fieldLink RX0 18 "SoapFilm$Film" "accounts" "[I"]
def wsX4_init_r2 : List Cond := [Cond.methodLink RX0 24 arraycopyName, Cond.native arraycopyName, Cond.static arraycopyName, Cond.initialized "java/lang/System", Cond.methodLink RX4 21 yX2_init, Cond.instanceMethod yX2_init, Cond.code yX2_init cX2_init 2 none, Cond.methodLink RX2 1 objectInit, Cond.classLink RX2 9 RX0, Cond.fieldLink RX2 11 "SoapFilm$History" "states" "[LSoapFilm$Film;", Cond.methodLink RX2 15 yX0_init, Cond.instanceMethod yX1_init, Cond.code yX1_init cX1_init 1 none, Cond.methodLink RX1 3 objectInit, Cond.arrayClass .char, Cond.fieldLink RX1 11 "SoapFilm$FilmText" "signs" "[C", Cond.fieldLink RX1 15 "SoapFilm$FilmText" "thickness" "[I"]
def wsX4_init : List Cond := .code yX4_init cX4_init 1 none :: ((wsX4_init_r1 ++ wsX4_init_r2) ++ wsX00 ++ wsX40 ++ wsX20 ++ wsX10)
def wsX4_set_r1 : List Cond := [Cond.fieldLink RX4 33 "SoapFilm" "LEAST_SETTING" "[I", Cond.fieldLink RX4 37 "SoapFilm" "GREATEST_SETTING" "[I", Cond.fieldLink RX4 22 "SoapFilm" "history" "LSoapFilm$History;", Cond.fieldLink RX4 10 "SoapFilm" "film" "LSoapFilm$Film;", Cond.fieldLink RX4 48 "SoapFilm$Film" "settings" "[I", Cond.methodLink RX4 40 yX4_isBetween, Cond.static yX4_isBetween, Cond.initialized RX4, Cond.code yX4_isBetween cX4_isBetween 3 (some .boolean), Cond.methodLink RX4 44 yX2_keep, Cond.instanceMethod yX2_keep, Cond.selects RX2 yX2_keep yX2_keep, Cond.initialized RX2, Cond.code yX2_keep cX2_keep 2 none, Cond.fieldLink RX2 16 "SoapFilm$History" "size" "I", Cond.fieldLink RX2 11 "SoapFilm$History" "states" "[LSoapFilm$Film;", Cond.methodLink RX2 20 yX2_dropOldest, Cond.instanceMethod yX2_dropOldest, Cond.selects RX2 yX2_dropOldest yX2_dropOldest, Cond.code yX2_dropOldest cX2_dropOldest 3 none, Cond.methodLink RX2 23 yX0_copyFrom, Cond.instanceMethod yX0_copyFrom, Cond.selects RX0 yX0_copyFrom yX0_copyFrom, Cond.initialized RX0]
def wsX4_set_r2 : List Cond := [Cond.code yX0_copyFrom cX0_copyFrom 2 none, Cond.fieldLink RX0 9 "SoapFilm$Film" "thickness" "[I", Cond.methodLink RX0 24 arraycopyName, Cond.native arraycopyName, Cond.static arraycopyName, Cond.initialized "java/lang/System", Cond.fieldLink RX0 15 "SoapFilm$Film" "settings" "[I", Cond.fieldLink RX0 18 "SoapFilm$Film" "accounts" "[I", Cond.fieldLink RX0 30 "SoapFilm$Film" "rows" "I", Cond.fieldLink RX0 34 "SoapFilm$Film" "ticks" "I", Cond.fieldLink RX0 37 "SoapFilm$Film" "drops" "I", Cond.fieldLink RX0 40 "SoapFilm$Film" "bursts" "I", Cond.fieldLink RX0 43 "SoapFilm$Film" "burstReason" "I", Cond.fieldLink RX0 46 "SoapFilm$Film" "burstNumber" "I", Cond.fieldLink RX0 49 "SoapFilm$Film" "ticksBeforeBurst" "I"]
def wsX4_set : List Cond := .code yX4_set cX4_set 4 (some .int) :: ((wsX4_set_r1 ++ wsX4_set_r2) ++ wsX40 ++ wsX00 ++ wsX20)
def wsX4_dip_r1 : List Cond := [Cond.fieldLink RX4 22 "SoapFilm" "history" "LSoapFilm$History;", Cond.fieldLink RX4 10 "SoapFilm" "film" "LSoapFilm$Film;", Cond.fieldLink RX4 62 "SoapFilm$Film" "accounts" "[I", Cond.methodLink RX4 40 yX4_isBetween, Cond.static yX4_isBetween, Cond.initialized RX4, Cond.code yX4_isBetween cX4_isBetween 3 (some .boolean), Cond.methodLink RX4 51 yX4_isThickness, Cond.static yX4_isThickness, Cond.code yX4_isThickness cX4_isThickness 1 (some .boolean), Cond.methodLink RX4 44 yX2_keep, Cond.instanceMethod yX2_keep, Cond.selects RX2 yX2_keep yX2_keep, Cond.initialized RX2, Cond.code yX2_keep cX2_keep 2 none, Cond.fieldLink RX2 16 "SoapFilm$History" "size" "I", Cond.fieldLink RX2 11 "SoapFilm$History" "states" "[LSoapFilm$Film;", Cond.methodLink RX2 20 yX2_dropOldest, Cond.instanceMethod yX2_dropOldest, Cond.selects RX2 yX2_dropOldest yX2_dropOldest, Cond.code yX2_dropOldest cX2_dropOldest 3 none, Cond.methodLink RX2 23 yX0_copyFrom, Cond.instanceMethod yX0_copyFrom, Cond.selects RX0 yX0_copyFrom yX0_copyFrom]
def wsX4_dip_r2 : List Cond := [Cond.initialized RX0, Cond.code yX0_copyFrom cX0_copyFrom 2 none, Cond.fieldLink RX0 9 "SoapFilm$Film" "thickness" "[I", Cond.methodLink RX0 24 arraycopyName, Cond.native arraycopyName, Cond.static arraycopyName, Cond.initialized "java/lang/System", Cond.fieldLink RX0 15 "SoapFilm$Film" "settings" "[I", Cond.fieldLink RX0 18 "SoapFilm$Film" "accounts" "[I", Cond.fieldLink RX0 30 "SoapFilm$Film" "rows" "I", Cond.fieldLink RX0 34 "SoapFilm$Film" "ticks" "I", Cond.fieldLink RX0 37 "SoapFilm$Film" "drops" "I", Cond.fieldLink RX0 40 "SoapFilm$Film" "bursts" "I", Cond.fieldLink RX0 43 "SoapFilm$Film" "burstReason" "I", Cond.fieldLink RX0 46 "SoapFilm$Film" "burstNumber" "I", Cond.fieldLink RX0 49 "SoapFilm$Film" "ticksBeforeBurst" "I", Cond.methodLink RX4 55 yX0_takeAway, Cond.instanceMethod yX0_takeAway, Cond.selects RX0 yX0_takeAway yX0_takeAway, Cond.code yX0_takeAway cX0_takeAway 1 none, Cond.methodLink RX0 56 yX0_endFilm, Cond.instanceMethod yX0_endFilm, Cond.selects RX0 yX0_endFilm yX0_endFilm, Cond.code yX0_endFilm cX0_endFilm 2 none]
def wsX4_dip_r3 : List Cond := [Cond.methodLink RX0 59 yX0_move, Cond.instanceMethod yX0_move, Cond.selects RX0 yX0_move yX0_move, Cond.code yX0_move cX0_move 4 none, Cond.methodLink RX4 58 yX0_appendRow, Cond.instanceMethod yX0_appendRow, Cond.selects RX0 yX0_appendRow yX0_appendRow, Cond.code yX0_appendRow cX0_appendRow 2 none, Cond.methodLink RX0 52 yX0_bring, Cond.instanceMethod yX0_bring, Cond.selects RX0 yX0_bring yX0_bring, Cond.code yX0_bring cX0_bring 2 none]
def wsX4_dip : List Cond := .code yX4_dip cX4_dip 5 (some .int) :: ((wsX4_dip_r1 ++ (wsX4_dip_r2 ++ wsX4_dip_r3)) ++ wsX40 ++ wsX00 ++ wsX20)
def wsX4_pour_r1 : List Cond := [Cond.fieldLink RX4 10 "SoapFilm" "film" "LSoapFilm$Film;", Cond.fieldLink RX4 68 "SoapFilm$Film" "thickness" "[I", Cond.fieldLink RX4 22 "SoapFilm" "history" "LSoapFilm$History;", Cond.methodLink RX4 65 yX0_hasRow, Cond.instanceMethod yX0_hasRow, Cond.selects RX0 yX0_hasRow yX0_hasRow, Cond.initialized RX0, Cond.code yX0_hasRow cX0_hasRow 2 (some .boolean), Cond.fieldLink RX0 30 "SoapFilm$Film" "rows" "I", Cond.methodLink RX4 40 yX4_isBetween, Cond.static yX4_isBetween, Cond.initialized RX4, Cond.code yX4_isBetween cX4_isBetween 3 (some .boolean), Cond.methodLink RX4 51 yX4_isThickness, Cond.static yX4_isThickness, Cond.code yX4_isThickness cX4_isThickness 1 (some .boolean), Cond.methodLink RX4 44 yX2_keep, Cond.instanceMethod yX2_keep, Cond.selects RX2 yX2_keep yX2_keep, Cond.initialized RX2, Cond.code yX2_keep cX2_keep 2 none, Cond.fieldLink RX2 16 "SoapFilm$History" "size" "I", Cond.fieldLink RX2 11 "SoapFilm$History" "states" "[LSoapFilm$Film;", Cond.methodLink RX2 20 yX2_dropOldest]
def wsX4_pour_r2 : List Cond := [Cond.instanceMethod yX2_dropOldest, Cond.selects RX2 yX2_dropOldest yX2_dropOldest, Cond.code yX2_dropOldest cX2_dropOldest 3 none, Cond.methodLink RX2 23 yX0_copyFrom, Cond.instanceMethod yX0_copyFrom, Cond.selects RX0 yX0_copyFrom yX0_copyFrom, Cond.code yX0_copyFrom cX0_copyFrom 2 none, Cond.fieldLink RX0 9 "SoapFilm$Film" "thickness" "[I", Cond.methodLink RX0 24 arraycopyName, Cond.native arraycopyName, Cond.static arraycopyName, Cond.initialized "java/lang/System", Cond.fieldLink RX0 15 "SoapFilm$Film" "settings" "[I", Cond.fieldLink RX0 18 "SoapFilm$Film" "accounts" "[I", Cond.fieldLink RX0 34 "SoapFilm$Film" "ticks" "I", Cond.fieldLink RX0 37 "SoapFilm$Film" "drops" "I", Cond.fieldLink RX0 40 "SoapFilm$Film" "bursts" "I", Cond.fieldLink RX0 43 "SoapFilm$Film" "burstReason" "I", Cond.fieldLink RX0 46 "SoapFilm$Film" "burstNumber" "I", Cond.fieldLink RX0 49 "SoapFilm$Film" "ticksBeforeBurst" "I", Cond.methodLink RX4 71 yX0_bring, Cond.instanceMethod yX0_bring, Cond.selects RX0 yX0_bring yX0_bring, Cond.code yX0_bring cX0_bring 2 none]
def wsX4_pour : List Cond := .code yX4_pour cX4_pour 3 (some .int) :: ((wsX4_pour_r1 ++ wsX4_pour_r2) ++ wsX40 ++ wsX00 ++ wsX20)
def wsX4_add_r1 : List Cond := [Cond.fieldLink RX4 10 "SoapFilm" "film" "LSoapFilm$Film;", Cond.fieldLink RX4 74 "SoapFilm$Film" "rows" "I", Cond.fieldLink RX4 22 "SoapFilm" "history" "LSoapFilm$History;", Cond.methodLink RX4 51 yX4_isThickness, Cond.static yX4_isThickness, Cond.initialized RX4, Cond.code yX4_isThickness cX4_isThickness 1 (some .boolean), Cond.methodLink RX4 40 yX4_isBetween, Cond.static yX4_isBetween, Cond.code yX4_isBetween cX4_isBetween 3 (some .boolean), Cond.methodLink RX4 44 yX2_keep, Cond.instanceMethod yX2_keep, Cond.selects RX2 yX2_keep yX2_keep, Cond.initialized RX2, Cond.code yX2_keep cX2_keep 2 none, Cond.fieldLink RX2 16 "SoapFilm$History" "size" "I", Cond.fieldLink RX2 11 "SoapFilm$History" "states" "[LSoapFilm$Film;", Cond.methodLink RX2 20 yX2_dropOldest, Cond.instanceMethod yX2_dropOldest, Cond.selects RX2 yX2_dropOldest yX2_dropOldest, Cond.code yX2_dropOldest cX2_dropOldest 3 none, Cond.methodLink RX2 23 yX0_copyFrom, Cond.instanceMethod yX0_copyFrom, Cond.selects RX0 yX0_copyFrom yX0_copyFrom]
def wsX4_add_r2 : List Cond := [Cond.initialized RX0, Cond.code yX0_copyFrom cX0_copyFrom 2 none, Cond.fieldLink RX0 9 "SoapFilm$Film" "thickness" "[I", Cond.methodLink RX0 24 arraycopyName, Cond.native arraycopyName, Cond.static arraycopyName, Cond.initialized "java/lang/System", Cond.fieldLink RX0 15 "SoapFilm$Film" "settings" "[I", Cond.fieldLink RX0 18 "SoapFilm$Film" "accounts" "[I", Cond.fieldLink RX0 30 "SoapFilm$Film" "rows" "I", Cond.fieldLink RX0 34 "SoapFilm$Film" "ticks" "I", Cond.fieldLink RX0 37 "SoapFilm$Film" "drops" "I", Cond.fieldLink RX0 40 "SoapFilm$Film" "bursts" "I", Cond.fieldLink RX0 43 "SoapFilm$Film" "burstReason" "I", Cond.fieldLink RX0 46 "SoapFilm$Film" "burstNumber" "I", Cond.fieldLink RX0 49 "SoapFilm$Film" "ticksBeforeBurst" "I", Cond.methodLink RX4 58 yX0_appendRow, Cond.instanceMethod yX0_appendRow, Cond.selects RX0 yX0_appendRow yX0_appendRow, Cond.code yX0_appendRow cX0_appendRow 2 none, Cond.methodLink RX0 52 yX0_bring, Cond.instanceMethod yX0_bring, Cond.selects RX0 yX0_bring yX0_bring, Cond.code yX0_bring cX0_bring 2 none]
def wsX4_add : List Cond := .code yX4_add cX4_add 2 (some .int) :: ((wsX4_add_r1 ++ wsX4_add_r2) ++ wsX40 ++ wsX00 ++ wsX20)
def wsX4_thin_r1 : List Cond := [Cond.fieldLink RX4 10 "SoapFilm" "film" "LSoapFilm$Film;", Cond.fieldLink RX4 22 "SoapFilm" "history" "LSoapFilm$History;", Cond.methodLink RX4 65 yX0_hasRow, Cond.instanceMethod yX0_hasRow, Cond.selects RX0 yX0_hasRow yX0_hasRow, Cond.initialized RX0, Cond.code yX0_hasRow cX0_hasRow 2 (some .boolean), Cond.fieldLink RX0 30 "SoapFilm$Film" "rows" "I", Cond.methodLink RX4 40 yX4_isBetween, Cond.static yX4_isBetween, Cond.initialized RX4, Cond.code yX4_isBetween cX4_isBetween 3 (some .boolean), Cond.methodLink RX4 44 yX2_keep, Cond.instanceMethod yX2_keep, Cond.selects RX2 yX2_keep yX2_keep, Cond.initialized RX2, Cond.code yX2_keep cX2_keep 2 none, Cond.fieldLink RX2 16 "SoapFilm$History" "size" "I", Cond.fieldLink RX2 11 "SoapFilm$History" "states" "[LSoapFilm$Film;", Cond.methodLink RX2 20 yX2_dropOldest, Cond.instanceMethod yX2_dropOldest, Cond.selects RX2 yX2_dropOldest yX2_dropOldest, Cond.code yX2_dropOldest cX2_dropOldest 3 none, Cond.methodLink RX2 23 yX0_copyFrom]
def wsX4_thin_r2 : List Cond := [Cond.instanceMethod yX0_copyFrom, Cond.selects RX0 yX0_copyFrom yX0_copyFrom, Cond.code yX0_copyFrom cX0_copyFrom 2 none, Cond.fieldLink RX0 9 "SoapFilm$Film" "thickness" "[I", Cond.methodLink RX0 24 arraycopyName, Cond.native arraycopyName, Cond.static arraycopyName, Cond.initialized "java/lang/System", Cond.fieldLink RX0 15 "SoapFilm$Film" "settings" "[I", Cond.fieldLink RX0 18 "SoapFilm$Film" "accounts" "[I", Cond.fieldLink RX0 34 "SoapFilm$Film" "ticks" "I", Cond.fieldLink RX0 37 "SoapFilm$Film" "drops" "I", Cond.fieldLink RX0 40 "SoapFilm$Film" "bursts" "I", Cond.fieldLink RX0 43 "SoapFilm$Film" "burstReason" "I", Cond.fieldLink RX0 46 "SoapFilm$Film" "burstNumber" "I", Cond.fieldLink RX0 49 "SoapFilm$Film" "ticksBeforeBurst" "I", Cond.methodLink RX4 78 yX0_loseFrom, Cond.instanceMethod yX0_loseFrom, Cond.selects RX0 yX0_loseFrom yX0_loseFrom, Cond.code yX0_loseFrom cX0_loseFrom 5 (some .int), Cond.methodLink RX0 63 Lib.Math.min.name, Cond.static Lib.Math.min.name, Cond.initialized "java/lang/Math", Cond.code Lib.Math.min.name Lib.Math.min.code 2 (some .int)]
def wsX4_thin_r3 : List Cond := [Cond.methodLink RX0 59 yX0_move, Cond.instanceMethod yX0_move, Cond.selects RX0 yX0_move yX0_move, Cond.code yX0_move cX0_move 4 none]
def wsX4_thin : List Cond := .code yX4_thin cX4_thin 3 (some .int) :: ((wsX4_thin_r1 ++ (wsX4_thin_r2 ++ wsX4_thin_r3)) ++ wsX40 ++ wsX00 ++ wsX20)
def wsX4_cut_r1 : List Cond := [Cond.fieldLink RX4 10 "SoapFilm" "film" "LSoapFilm$Film;", Cond.fieldLink RX4 74 "SoapFilm$Film" "rows" "I", Cond.fieldLink RX4 22 "SoapFilm" "history" "LSoapFilm$History;", Cond.methodLink RX4 44 yX2_keep, Cond.instanceMethod yX2_keep, Cond.selects RX2 yX2_keep yX2_keep, Cond.initialized RX2, Cond.code yX2_keep cX2_keep 2 none, Cond.fieldLink RX2 16 "SoapFilm$History" "size" "I", Cond.fieldLink RX2 11 "SoapFilm$History" "states" "[LSoapFilm$Film;", Cond.methodLink RX2 20 yX2_dropOldest, Cond.instanceMethod yX2_dropOldest, Cond.selects RX2 yX2_dropOldest yX2_dropOldest, Cond.code yX2_dropOldest cX2_dropOldest 3 none, Cond.methodLink RX2 23 yX0_copyFrom, Cond.instanceMethod yX0_copyFrom, Cond.selects RX0 yX0_copyFrom yX0_copyFrom, Cond.initialized RX0, Cond.code yX0_copyFrom cX0_copyFrom 2 none, Cond.fieldLink RX0 9 "SoapFilm$Film" "thickness" "[I", Cond.methodLink RX0 24 arraycopyName, Cond.native arraycopyName, Cond.static arraycopyName, Cond.initialized "java/lang/System"]
def wsX4_cut_r2 : List Cond := [Cond.fieldLink RX0 15 "SoapFilm$Film" "settings" "[I", Cond.fieldLink RX0 18 "SoapFilm$Film" "accounts" "[I", Cond.fieldLink RX0 30 "SoapFilm$Film" "rows" "I", Cond.fieldLink RX0 34 "SoapFilm$Film" "ticks" "I", Cond.fieldLink RX0 37 "SoapFilm$Film" "drops" "I", Cond.fieldLink RX0 40 "SoapFilm$Film" "bursts" "I", Cond.fieldLink RX0 43 "SoapFilm$Film" "burstReason" "I", Cond.fieldLink RX0 46 "SoapFilm$Film" "burstNumber" "I", Cond.fieldLink RX0 49 "SoapFilm$Film" "ticksBeforeBurst" "I", Cond.methodLink RX4 78 yX0_loseFrom, Cond.instanceMethod yX0_loseFrom, Cond.selects RX0 yX0_loseFrom yX0_loseFrom, Cond.code yX0_loseFrom cX0_loseFrom 5 (some .int), Cond.methodLink RX0 63 Lib.Math.min.name, Cond.static Lib.Math.min.name, Cond.initialized "java/lang/Math", Cond.code Lib.Math.min.name Lib.Math.min.code 2 (some .int), Cond.methodLink RX0 59 yX0_move, Cond.instanceMethod yX0_move, Cond.selects RX0 yX0_move yX0_move, Cond.code yX0_move cX0_move 4 none]
def wsX4_cut : List Cond := .code yX4_cut cX4_cut 2 (some .int) :: ((wsX4_cut_r1 ++ wsX4_cut_r2) ++ wsX40 ++ wsX00 ++ wsX20)
def wsX4_go_r1 : List Cond := [Cond.fieldLink RX4 10 "SoapFilm" "film" "LSoapFilm$Film;", Cond.fieldLink RX4 82 "SoapFilm$Film" "ticks" "I", Cond.constant RX4 85 (100000), Cond.fieldLink RX4 22 "SoapFilm" "history" "LSoapFilm$History;", Cond.fieldLink RX4 74 "SoapFilm$Film" "rows" "I", Cond.methodLink RX4 40 yX4_isBetween, Cond.static yX4_isBetween, Cond.initialized RX4, Cond.code yX4_isBetween cX4_isBetween 3 (some .boolean), Cond.methodLink RX4 44 yX2_keep, Cond.instanceMethod yX2_keep, Cond.selects RX2 yX2_keep yX2_keep, Cond.initialized RX2, Cond.code yX2_keep cX2_keep 2 none, Cond.fieldLink RX2 16 "SoapFilm$History" "size" "I", Cond.fieldLink RX2 11 "SoapFilm$History" "states" "[LSoapFilm$Film;", Cond.methodLink RX2 20 yX2_dropOldest, Cond.instanceMethod yX2_dropOldest, Cond.selects RX2 yX2_dropOldest yX2_dropOldest, Cond.code yX2_dropOldest cX2_dropOldest 3 none, Cond.methodLink RX2 23 yX0_copyFrom, Cond.instanceMethod yX0_copyFrom, Cond.selects RX0 yX0_copyFrom yX0_copyFrom, Cond.initialized RX0]
def wsX4_go_r2 : List Cond := [Cond.code yX0_copyFrom cX0_copyFrom 2 none, Cond.fieldLink RX0 9 "SoapFilm$Film" "thickness" "[I", Cond.methodLink RX0 24 arraycopyName, Cond.native arraycopyName, Cond.static arraycopyName, Cond.initialized "java/lang/System", Cond.fieldLink RX0 15 "SoapFilm$Film" "settings" "[I", Cond.fieldLink RX0 18 "SoapFilm$Film" "accounts" "[I", Cond.fieldLink RX0 30 "SoapFilm$Film" "rows" "I", Cond.fieldLink RX0 34 "SoapFilm$Film" "ticks" "I", Cond.fieldLink RX0 37 "SoapFilm$Film" "drops" "I", Cond.fieldLink RX0 40 "SoapFilm$Film" "bursts" "I", Cond.fieldLink RX0 43 "SoapFilm$Film" "burstReason" "I", Cond.fieldLink RX0 46 "SoapFilm$Film" "burstNumber" "I", Cond.fieldLink RX0 49 "SoapFilm$Film" "ticksBeforeBurst" "I", Cond.methodLink RX4 86 yX0_tick, Cond.instanceMethod yX0_tick, Cond.selects RX0 yX0_tick yX0_tick, Cond.code yX0_tick cX0_tick 1 none, Cond.methodLink RX0 99 yX0_drain, Cond.instanceMethod yX0_drain, Cond.selects RX0 yX0_drain yX0_drain, Cond.code yX0_drain cX0_drain 4 none, Cond.constantLong RX0 114 (1000000)]
def wsX4_go_r3 : List Cond := [Cond.methodLink RX0 116 yX0_giveDown, Cond.instanceMethod yX0_giveDown, Cond.selects RX0 yX0_giveDown yX0_giveDown, Cond.code yX0_giveDown cX0_giveDown 5 none, Cond.methodLink RX0 63 Lib.Math.min.name, Cond.static Lib.Math.min.name, Cond.initialized "java/lang/Math", Cond.code Lib.Math.min.name Lib.Math.min.code 2 (some .int), Cond.methodLink RX0 120 yX0_loseFrom, Cond.instanceMethod yX0_loseFrom, Cond.selects RX0 yX0_loseFrom yX0_loseFrom, Cond.code yX0_loseFrom cX0_loseFrom 5 (some .int), Cond.methodLink RX0 59 yX0_move, Cond.instanceMethod yX0_move, Cond.selects RX0 yX0_move yX0_move, Cond.code yX0_move cX0_move 4 none, Cond.methodLink RX0 102 yX0_runEdges, Cond.instanceMethod yX0_runEdges, Cond.selects RX0 yX0_runEdges yX0_runEdges, Cond.code yX0_runEdges cX0_runEdges 5 none, Cond.methodLink RX0 78 yX0_isBlack, Cond.instanceMethod yX0_isBlack, Cond.selects RX0 yX0_isBlack yX0_isBlack, Cond.code yX0_isBlack cX0_isBlack 2 (some .boolean)]
def wsX4_go_r4 : List Cond := [Cond.methodLink RX0 105 yX0_dry, Cond.instanceMethod yX0_dry, Cond.selects RX0 yX0_dry yX0_dry, Cond.code yX0_dry cX0_dry 2 none, Cond.methodLink RX0 108 yX0_letDropFall, Cond.instanceMethod yX0_letDropFall, Cond.selects RX0 yX0_letDropFall yX0_letDropFall, Cond.code yX0_letDropFall cX0_letDropFall 1 none, Cond.methodLink RX0 111 yX0_burstIfDue, Cond.instanceMethod yX0_burstIfDue, Cond.selects RX0 yX0_burstIfDue yX0_burstIfDue, Cond.code yX0_burstIfDue cX0_burstIfDue 3 none, Cond.methodLink RX0 124 yX0_firstTooThin, Cond.instanceMethod yX0_firstTooThin, Cond.selects RX0 yX0_firstTooThin yX0_firstTooThin, Cond.code yX0_firstTooThin cX0_firstTooThin 2 (some .int), Cond.methodLink RX0 128 yX0_blackRows, Cond.instanceMethod yX0_blackRows, Cond.selects RX0 yX0_blackRows yX0_blackRows, Cond.code yX0_blackRows cX0_blackRows 3 (some .int), Cond.methodLink RX0 131 yX0_burst, Cond.instanceMethod yX0_burst, Cond.selects RX0 yX0_burst yX0_burst, Cond.code yX0_burst cX0_burst 3 none]
def wsX4_go_r5 : List Cond := [Cond.methodLink RX0 56 yX0_endFilm, Cond.instanceMethod yX0_endFilm, Cond.selects RX0 yX0_endFilm yX0_endFilm, Cond.code yX0_endFilm cX0_endFilm 2 none]
def wsX4_go : List Cond := .code yX4_go cX4_go 4 (some .int) :: ((wsX4_go_r1 ++ (wsX4_go_r2 ++ (wsX4_go_r3 ++ (wsX4_go_r4 ++ wsX4_go_r5)))) ++ wsX40 ++ wsX00 ++ wsX20)
def wsX4_undo_r1 : List Cond := [Cond.fieldLink RX4 22 "SoapFilm" "history" "LSoapFilm$History;", Cond.fieldLink RX4 89 "SoapFilm$History" "size" "I", Cond.fieldLink RX4 10 "SoapFilm" "film" "LSoapFilm$Film;", Cond.methodLink RX4 92 yX2_restore, Cond.instanceMethod yX2_restore, Cond.selects RX2 yX2_restore yX2_restore, Cond.initialized RX2, Cond.code yX2_restore cX2_restore 2 none, Cond.fieldLink RX2 16 "SoapFilm$History" "size" "I", Cond.fieldLink RX2 11 "SoapFilm$History" "states" "[LSoapFilm$Film;", Cond.methodLink RX2 23 yX0_copyFrom, Cond.instanceMethod yX0_copyFrom, Cond.selects RX0 yX0_copyFrom yX0_copyFrom, Cond.initialized RX0, Cond.code yX0_copyFrom cX0_copyFrom 2 none, Cond.fieldLink RX0 9 "SoapFilm$Film" "thickness" "[I", Cond.methodLink RX0 24 arraycopyName, Cond.native arraycopyName, Cond.static arraycopyName, Cond.initialized "java/lang/System", Cond.fieldLink RX0 15 "SoapFilm$Film" "settings" "[I", Cond.fieldLink RX0 18 "SoapFilm$Film" "accounts" "[I", Cond.fieldLink RX0 30 "SoapFilm$Film" "rows" "I", Cond.fieldLink RX0 34 "SoapFilm$Film" "ticks" "I"]
def wsX4_undo_r2 : List Cond := [Cond.fieldLink RX0 37 "SoapFilm$Film" "drops" "I", Cond.fieldLink RX0 40 "SoapFilm$Film" "bursts" "I", Cond.fieldLink RX0 43 "SoapFilm$Film" "burstReason" "I", Cond.fieldLink RX0 46 "SoapFilm$Film" "burstNumber" "I", Cond.fieldLink RX0 49 "SoapFilm$Film" "ticksBeforeBurst" "I"]
def wsX4_undo : List Cond := .code yX4_undo cX4_undo 1 (some .int) :: ((wsX4_undo_r1 ++ wsX4_undo_r2) ++ wsX40 ++ wsX20 ++ wsX00)
def wsX4_row_r1 : List Cond := [Cond.fieldLink RX4 10 "SoapFilm" "film" "LSoapFilm$Film;", Cond.fieldLink RX4 68 "SoapFilm$Film" "thickness" "[I", Cond.methodLink RX4 65 yX0_hasRow, Cond.instanceMethod yX0_hasRow, Cond.selects RX0 yX0_hasRow yX0_hasRow, Cond.initialized RX0, Cond.code yX0_hasRow cX0_hasRow 2 (some .boolean), Cond.fieldLink RX0 30 "SoapFilm$Film" "rows" "I", Cond.methodLink RX4 95 yX3_path, Cond.static yX3_path, Cond.initialized RX3, Cond.code yX3_path cX3_path 1 (some .int), Cond.methodLink RX4 101 yX3_red, Cond.static yX3_red, Cond.code yX3_red cX3_red 1 (some .int), Cond.methodLink RX3 9 yX3_brightness, Cond.static yX3_brightness, Cond.code yX3_brightness cX3_brightness 2 (some .int), Cond.methodLink RX4 104 yX3_green, Cond.static yX3_green, Cond.code yX3_green cX3_green 1 (some .int), Cond.methodLink RX4 107 yX3_blue, Cond.static yX3_blue, Cond.code yX3_blue cX3_blue 1 (some .int)]
def wsX4_row_r2 : List Cond := [Cond.methodLink RX4 110 yX0_colourAt, Cond.instanceMethod yX0_colourAt, Cond.selects RX0 yX0_colourAt yX0_colourAt, Cond.code yX0_colourAt cX0_colourAt 2 (some .int), Cond.fieldLink RX0 9 "SoapFilm$Film" "thickness" "[I", Cond.fieldLink RX0 15 "SoapFilm$Film" "settings" "[I", Cond.methodLink RX0 69 yX3_colour, Cond.static yX3_colour, Cond.code yX3_colour cX3_colour 4 (some .int), Cond.methodLink RX3 13 yX3_path, Cond.methodLink RX3 16 yX3_red, Cond.methodLink RX3 19 yX3_green, Cond.methodLink RX3 22 yX3_blue, Cond.methodLink RX4 113 yX3_order, Cond.static yX3_order, Cond.code yX3_order cX3_order 1 (some .int), Cond.methodLink RX4 116 yX0_isBlack, Cond.instanceMethod yX0_isBlack, Cond.selects RX0 yX0_isBlack yX0_isBlack, Cond.code yX0_isBlack cX0_isBlack 2 (some .boolean)]
def wsX4_row : List Cond := .code yX4_row cX4_row 5 (some .int) :: ((wsX4_row_r1 ++ wsX4_row_r2) ++ wsX40 ++ wsX00)
def wsX4_count_r1 : List Cond := [Cond.fieldLink RX4 10 "SoapFilm" "film" "LSoapFilm$Film;", Cond.fieldLink RX4 62 "SoapFilm$Film" "accounts" "[I", Cond.fieldLink RX4 48 "SoapFilm$Film" "settings" "[I", Cond.fieldLink RX4 74 "SoapFilm$Film" "rows" "I", Cond.fieldLink RX4 82 "SoapFilm$Film" "ticks" "I", Cond.fieldLink RX4 132 "SoapFilm$Film" "burstReason" "I", Cond.fieldLink RX4 135 "SoapFilm$Film" "bursts" "I", Cond.fieldLink RX4 138 "SoapFilm$Film" "burstNumber" "I", Cond.fieldLink RX4 141 "SoapFilm$Film" "ticksBeforeBurst" "I", Cond.fieldLink RX4 144 "SoapFilm$Film" "drops" "I", Cond.fieldLink RX4 22 "SoapFilm" "history" "LSoapFilm$History;", Cond.fieldLink RX4 89 "SoapFilm$History" "size" "I", Cond.fieldLink RX4 29 "SoapFilm" "text" "LSoapFilm$FilmText;", Cond.fieldLink RX4 147 "SoapFilm$FilmText" "length" "I", Cond.methodLink RX4 40 yX4_isBetween, Cond.static yX4_isBetween, Cond.initialized RX4, Cond.code yX4_isBetween cX4_isBetween 3 (some .boolean), Cond.methodLink RX4 119 yX0_blackRows, Cond.instanceMethod yX0_blackRows, Cond.selects RX0 yX0_blackRows yX0_blackRows, Cond.initialized RX0, Cond.code yX0_blackRows cX0_blackRows 3 (some .int), Cond.fieldLink RX0 30 "SoapFilm$Film" "rows" "I"]
def wsX4_count_r2 : List Cond := [Cond.methodLink RX0 78 yX0_isBlack, Cond.instanceMethod yX0_isBlack, Cond.selects RX0 yX0_isBlack yX0_isBlack, Cond.code yX0_isBlack cX0_isBlack 2 (some .boolean), Cond.fieldLink RX0 9 "SoapFilm$Film" "thickness" "[I", Cond.fieldLink RX0 15 "SoapFilm$Film" "settings" "[I", Cond.methodLink RX4 123 yX0_fringes, Cond.instanceMethod yX0_fringes, Cond.selects RX0 yX0_fringes yX0_fringes, Cond.code yX0_fringes cX0_fringes 3 (some .int), Cond.methodLink RX0 82 yX0_startsColour, Cond.instanceMethod yX0_startsColour, Cond.selects RX0 yX0_startsColour yX0_startsColour, Cond.code yX0_startsColour cX0_startsColour 2 (some .boolean), Cond.methodLink RX0 74 yX0_colourAt, Cond.instanceMethod yX0_colourAt, Cond.selects RX0 yX0_colourAt yX0_colourAt, Cond.code yX0_colourAt cX0_colourAt 2 (some .int), Cond.methodLink RX0 69 yX3_colour, Cond.static yX3_colour, Cond.initialized RX3, Cond.code yX3_colour cX3_colour 4 (some .int), Cond.methodLink RX3 13 yX3_path, Cond.static yX3_path]
def wsX4_count_r3 : List Cond := [Cond.code yX3_path cX3_path 1 (some .int), Cond.methodLink RX3 16 yX3_red, Cond.static yX3_red, Cond.code yX3_red cX3_red 1 (some .int), Cond.methodLink RX3 9 yX3_brightness, Cond.static yX3_brightness, Cond.code yX3_brightness cX3_brightness 2 (some .int), Cond.methodLink RX3 19 yX3_green, Cond.static yX3_green, Cond.code yX3_green cX3_green 1 (some .int), Cond.methodLink RX3 22 yX3_blue, Cond.static yX3_blue, Cond.code yX3_blue cX3_blue 1 (some .int), Cond.methodLink RX4 126 yX0_differentColours, Cond.instanceMethod yX0_differentColours, Cond.selects RX0 yX0_differentColours yX0_differentColours, Cond.code yX0_differentColours cX0_differentColours 3 (some .int), Cond.methodLink RX0 85 yJ6_bitCount_0f7a4, Cond.static yJ6_bitCount_0f7a4, Cond.initialized RJ6, Cond.code yJ6_bitCount_0f7a4 cJ6_bitCount_0f7a4 1 (some .int), Cond.constant RJ6 265 (1431655765), Cond.constant RJ6 266 (858993459), Cond.constant RJ6 267 (252645135)]
def wsX4_count_r4 : List Cond := [Cond.methodLink RX4 129 yX0_greatestOrder, Cond.instanceMethod yX0_greatestOrder, Cond.selects RX0 yX0_greatestOrder yX0_greatestOrder, Cond.code yX0_greatestOrder cX0_greatestOrder 3 (some .int), Cond.methodLink RX0 96 Lib.Math.max.name, Cond.static Lib.Math.max.name, Cond.initialized "java/lang/Math", Cond.code Lib.Math.max.name Lib.Math.max.code 2 (some .int), Cond.methodLink RX0 90 yX3_path, Cond.methodLink RX0 93 yX3_order, Cond.static yX3_order, Cond.code yX3_order cX3_order 1 (some .int)]
def wsX4_count : List Cond := .code yX4_count cX4_count 2 (some .int) :: ((wsX4_count_r1 ++ (wsX4_count_r2 ++ (wsX4_count_r3 ++ wsX4_count_r4))) ++ wsX40 ++ wsX00 ++ wsX20 ++ wsX10)
def wsX4_ladder_r1 : List Cond := [Cond.fieldLink RX4 10 "SoapFilm" "film" "LSoapFilm$Film;", Cond.fieldLink RX4 74 "SoapFilm$Film" "rows" "I", Cond.methodLink RX4 150 yX0_startsColour, Cond.instanceMethod yX0_startsColour, Cond.selects RX0 yX0_startsColour yX0_startsColour, Cond.initialized RX0, Cond.code yX0_startsColour cX0_startsColour 2 (some .boolean), Cond.methodLink RX0 74 yX0_colourAt, Cond.instanceMethod yX0_colourAt, Cond.selects RX0 yX0_colourAt yX0_colourAt, Cond.code yX0_colourAt cX0_colourAt 2 (some .int), Cond.fieldLink RX0 9 "SoapFilm$Film" "thickness" "[I", Cond.fieldLink RX0 15 "SoapFilm$Film" "settings" "[I", Cond.methodLink RX0 69 yX3_colour, Cond.static yX3_colour, Cond.initialized RX3, Cond.code yX3_colour cX3_colour 4 (some .int), Cond.methodLink RX3 13 yX3_path, Cond.static yX3_path, Cond.code yX3_path cX3_path 1 (some .int), Cond.methodLink RX3 16 yX3_red, Cond.static yX3_red, Cond.code yX3_red cX3_red 1 (some .int), Cond.methodLink RX3 9 yX3_brightness]
def wsX4_ladder_r2 : List Cond := [Cond.static yX3_brightness, Cond.code yX3_brightness cX3_brightness 2 (some .int), Cond.methodLink RX3 19 yX3_green, Cond.static yX3_green, Cond.code yX3_green cX3_green 1 (some .int), Cond.methodLink RX3 22 yX3_blue, Cond.static yX3_blue, Cond.code yX3_blue cX3_blue 1 (some .int), Cond.methodLink RX4 110 yX0_colourAt]
def wsX4_ladder : List Cond := .code yX4_ladder cX4_ladder 4 (some .int) :: ((wsX4_ladder_r1 ++ wsX4_ladder_r2) ++ wsX40 ++ wsX00)
def wsX4_isColour : List Cond := .code yX4_isColour cX4_isColour 1 (some .boolean) :: ([.methodLink RX4 40 yX4_isBetween, .static yX4_isBetween, .initialized RX4, .code yX4_isBetween cX4_isBetween 3 (some .boolean)])
def wsX4_find_r1 : List Cond := [Cond.fieldLink RX4 10 "SoapFilm" "film" "LSoapFilm$Film;", Cond.fieldLink RX4 74 "SoapFilm$Film" "rows" "I", Cond.methodLink RX4 153 yX4_isColour, Cond.static yX4_isColour, Cond.initialized RX4, Cond.code yX4_isColour cX4_isColour 1 (some .boolean), Cond.methodLink RX4 40 yX4_isBetween, Cond.static yX4_isBetween, Cond.code yX4_isBetween cX4_isBetween 3 (some .boolean), Cond.methodLink RX4 110 yX0_colourAt, Cond.instanceMethod yX0_colourAt, Cond.selects RX0 yX0_colourAt yX0_colourAt, Cond.initialized RX0, Cond.code yX0_colourAt cX0_colourAt 2 (some .int), Cond.fieldLink RX0 9 "SoapFilm$Film" "thickness" "[I", Cond.fieldLink RX0 15 "SoapFilm$Film" "settings" "[I", Cond.methodLink RX0 69 yX3_colour, Cond.static yX3_colour, Cond.initialized RX3, Cond.code yX3_colour cX3_colour 4 (some .int), Cond.methodLink RX3 13 yX3_path, Cond.static yX3_path, Cond.code yX3_path cX3_path 1 (some .int), Cond.methodLink RX3 16 yX3_red]
def wsX4_find_r2 : List Cond := [Cond.static yX3_red, Cond.code yX3_red cX3_red 1 (some .int), Cond.methodLink RX3 9 yX3_brightness, Cond.static yX3_brightness, Cond.code yX3_brightness cX3_brightness 2 (some .int), Cond.methodLink RX3 19 yX3_green, Cond.static yX3_green, Cond.code yX3_green cX3_green 1 (some .int), Cond.methodLink RX3 22 yX3_blue, Cond.static yX3_blue, Cond.code yX3_blue cX3_blue 1 (some .int)]
def wsX4_find : List Cond := .code yX4_find cX4_find 4 (some .int) :: ((wsX4_find_r1 ++ wsX4_find_r2) ++ wsX40 ++ wsX00)
def wsX4_colourOf_r1 : List Cond := [Cond.fieldLink RX4 10 "SoapFilm" "film" "LSoapFilm$Film;", Cond.fieldLink RX4 48 "SoapFilm$Film" "settings" "[I", Cond.methodLink RX4 51 yX4_isThickness, Cond.static yX4_isThickness, Cond.initialized RX4, Cond.code yX4_isThickness cX4_isThickness 1 (some .boolean), Cond.methodLink RX4 40 yX4_isBetween, Cond.static yX4_isBetween, Cond.code yX4_isBetween cX4_isBetween 3 (some .boolean), Cond.methodLink RX4 156 yX3_colour, Cond.static yX3_colour, Cond.initialized RX3, Cond.code yX3_colour cX3_colour 4 (some .int), Cond.methodLink RX3 13 yX3_path, Cond.static yX3_path, Cond.code yX3_path cX3_path 1 (some .int), Cond.methodLink RX3 16 yX3_red, Cond.static yX3_red, Cond.code yX3_red cX3_red 1 (some .int), Cond.methodLink RX3 9 yX3_brightness, Cond.static yX3_brightness, Cond.code yX3_brightness cX3_brightness 2 (some .int), Cond.methodLink RX3 19 yX3_green, Cond.static yX3_green]
def wsX4_colourOf_r2 : List Cond := [Cond.code yX3_green cX3_green 1 (some .int), Cond.methodLink RX3 22 yX3_blue, Cond.static yX3_blue, Cond.code yX3_blue cX3_blue 1 (some .int)]
def wsX4_colourOf : List Cond := .code yX4_colourOf cX4_colourOf 2 (some .int) :: ((wsX4_colourOf_r1 ++ wsX4_colourOf_r2) ++ wsX40 ++ wsX00)
def wsX4_thicknessFor_r1 : List Cond := [Cond.fieldLink RX4 10 "SoapFilm" "film" "LSoapFilm$Film;", Cond.fieldLink RX4 48 "SoapFilm$Film" "settings" "[I", Cond.methodLink RX4 153 yX4_isColour, Cond.static yX4_isColour, Cond.initialized RX4, Cond.code yX4_isColour cX4_isColour 1 (some .boolean), Cond.methodLink RX4 40 yX4_isBetween, Cond.static yX4_isBetween, Cond.code yX4_isBetween cX4_isBetween 3 (some .boolean), Cond.methodLink RX4 51 yX4_isThickness, Cond.static yX4_isThickness, Cond.code yX4_isThickness cX4_isThickness 1 (some .boolean), Cond.methodLink RX4 156 yX3_colour, Cond.static yX3_colour, Cond.initialized RX3, Cond.code yX3_colour cX3_colour 4 (some .int), Cond.methodLink RX3 13 yX3_path, Cond.static yX3_path, Cond.code yX3_path cX3_path 1 (some .int), Cond.methodLink RX3 16 yX3_red, Cond.static yX3_red, Cond.code yX3_red cX3_red 1 (some .int), Cond.methodLink RX3 9 yX3_brightness, Cond.static yX3_brightness]
def wsX4_thicknessFor_r2 : List Cond := [Cond.code yX3_brightness cX3_brightness 2 (some .int), Cond.methodLink RX3 19 yX3_green, Cond.static yX3_green, Cond.code yX3_green cX3_green 1 (some .int), Cond.methodLink RX3 22 yX3_blue, Cond.static yX3_blue, Cond.code yX3_blue cX3_blue 1 (some .int)]
def wsX4_thicknessFor : List Cond := .code yX4_thicknessFor cX4_thicknessFor 4 (some .int) :: ((wsX4_thicknessFor_r1 ++ wsX4_thicknessFor_r2) ++ wsX40 ++ wsX00)
def wsX4_isQuestion : List Cond := .code yX4_isQuestion cX4_isQuestion 2 (some .boolean) :: ([.methodLink RX4 40 yX4_isBetween, .static yX4_isBetween, .initialized RX4, .code yX4_isBetween cX4_isBetween 3 (some .boolean), .methodLink RX4 153 yX4_isColour, .static yX4_isColour, .code yX4_isColour cX4_isColour 1 (some .boolean)])
def wsX4_isSo_r1 : List Cond := [Cond.fieldLink RX4 16 "SoapFilm" "trial" "LSoapFilm$Film;", Cond.fieldLink RX4 74 "SoapFilm$Film" "rows" "I", Cond.fieldLink RX4 144 "SoapFilm$Film" "drops" "I", Cond.fieldLink RX4 10 "SoapFilm" "film" "LSoapFilm$Film;", Cond.methodLink RX4 119 yX0_blackRows, Cond.instanceMethod yX0_blackRows, Cond.selects RX0 yX0_blackRows yX0_blackRows, Cond.initialized RX0, Cond.code yX0_blackRows cX0_blackRows 3 (some .int), Cond.fieldLink RX0 30 "SoapFilm$Film" "rows" "I", Cond.methodLink RX0 78 yX0_isBlack, Cond.instanceMethod yX0_isBlack, Cond.selects RX0 yX0_isBlack yX0_isBlack, Cond.code yX0_isBlack cX0_isBlack 2 (some .boolean), Cond.fieldLink RX0 9 "SoapFilm$Film" "thickness" "[I", Cond.fieldLink RX0 15 "SoapFilm$Film" "settings" "[I", Cond.methodLink RX4 110 yX0_colourAt, Cond.instanceMethod yX0_colourAt, Cond.selects RX0 yX0_colourAt yX0_colourAt, Cond.code yX0_colourAt cX0_colourAt 2 (some .int), Cond.methodLink RX0 69 yX3_colour, Cond.static yX3_colour, Cond.initialized RX3, Cond.code yX3_colour cX3_colour 4 (some .int)]
def wsX4_isSo_r2 : List Cond := [Cond.methodLink RX3 13 yX3_path, Cond.static yX3_path, Cond.code yX3_path cX3_path 1 (some .int), Cond.methodLink RX3 16 yX3_red, Cond.static yX3_red, Cond.code yX3_red cX3_red 1 (some .int), Cond.methodLink RX3 9 yX3_brightness, Cond.static yX3_brightness, Cond.code yX3_brightness cX3_brightness 2 (some .int), Cond.methodLink RX3 19 yX3_green, Cond.static yX3_green, Cond.code yX3_green cX3_green 1 (some .int), Cond.methodLink RX3 22 yX3_blue, Cond.static yX3_blue, Cond.code yX3_blue cX3_blue 1 (some .int)]
def wsX4_isSo : List Cond := .code yX4_isSo cX4_isSo 3 (some .boolean) :: ((wsX4_isSo_r1 ++ wsX4_isSo_r2) ++ wsX40 ++ wsX00)
def wsX4_until_r1 : List Cond := [Cond.fieldLink RX4 16 "SoapFilm" "trial" "LSoapFilm$Film;", Cond.fieldLink RX4 10 "SoapFilm" "film" "LSoapFilm$Film;", Cond.fieldLink RX4 74 "SoapFilm$Film" "rows" "I", Cond.methodLink RX4 160 yX4_isQuestion, Cond.static yX4_isQuestion, Cond.initialized RX4, Cond.code yX4_isQuestion cX4_isQuestion 2 (some .boolean), Cond.methodLink RX4 40 yX4_isBetween, Cond.static yX4_isBetween, Cond.code yX4_isBetween cX4_isBetween 3 (some .boolean), Cond.methodLink RX4 153 yX4_isColour, Cond.static yX4_isColour, Cond.code yX4_isColour cX4_isColour 1 (some .boolean), Cond.methodLink RX4 164 yX0_copyFrom, Cond.instanceMethod yX0_copyFrom, Cond.selects RX0 yX0_copyFrom yX0_copyFrom, Cond.initialized RX0, Cond.code yX0_copyFrom cX0_copyFrom 2 none, Cond.fieldLink RX0 9 "SoapFilm$Film" "thickness" "[I", Cond.methodLink RX0 24 arraycopyName, Cond.native arraycopyName, Cond.static arraycopyName, Cond.initialized "java/lang/System", Cond.fieldLink RX0 15 "SoapFilm$Film" "settings" "[I"]
def wsX4_until_r2 : List Cond := [Cond.fieldLink RX0 18 "SoapFilm$Film" "accounts" "[I", Cond.fieldLink RX0 30 "SoapFilm$Film" "rows" "I", Cond.fieldLink RX0 34 "SoapFilm$Film" "ticks" "I", Cond.fieldLink RX0 37 "SoapFilm$Film" "drops" "I", Cond.fieldLink RX0 40 "SoapFilm$Film" "bursts" "I", Cond.fieldLink RX0 43 "SoapFilm$Film" "burstReason" "I", Cond.fieldLink RX0 46 "SoapFilm$Film" "burstNumber" "I", Cond.fieldLink RX0 49 "SoapFilm$Film" "ticksBeforeBurst" "I", Cond.methodLink RX4 167 yX4_isSo, Cond.instanceMethod yX4_isSo, Cond.selects RX4 yX4_isSo yX4_isSo, Cond.code yX4_isSo cX4_isSo 3 (some .boolean), Cond.fieldLink RX4 144 "SoapFilm$Film" "drops" "I", Cond.methodLink RX4 119 yX0_blackRows, Cond.instanceMethod yX0_blackRows, Cond.selects RX0 yX0_blackRows yX0_blackRows, Cond.code yX0_blackRows cX0_blackRows 3 (some .int), Cond.methodLink RX0 78 yX0_isBlack, Cond.instanceMethod yX0_isBlack, Cond.selects RX0 yX0_isBlack yX0_isBlack, Cond.code yX0_isBlack cX0_isBlack 2 (some .boolean), Cond.methodLink RX4 110 yX0_colourAt, Cond.instanceMethod yX0_colourAt, Cond.selects RX0 yX0_colourAt yX0_colourAt]
def wsX4_until_r3 : List Cond := [Cond.code yX0_colourAt cX0_colourAt 2 (some .int), Cond.methodLink RX0 69 yX3_colour, Cond.static yX3_colour, Cond.initialized RX3, Cond.code yX3_colour cX3_colour 4 (some .int), Cond.methodLink RX3 13 yX3_path, Cond.static yX3_path, Cond.code yX3_path cX3_path 1 (some .int), Cond.methodLink RX3 16 yX3_red, Cond.static yX3_red, Cond.code yX3_red cX3_red 1 (some .int), Cond.methodLink RX3 9 yX3_brightness, Cond.static yX3_brightness, Cond.code yX3_brightness cX3_brightness 2 (some .int), Cond.methodLink RX3 19 yX3_green, Cond.static yX3_green, Cond.code yX3_green cX3_green 1 (some .int), Cond.methodLink RX3 22 yX3_blue, Cond.static yX3_blue, Cond.code yX3_blue cX3_blue 1 (some .int), Cond.methodLink RX4 86 yX0_tick, Cond.instanceMethod yX0_tick, Cond.selects RX0 yX0_tick yX0_tick, Cond.code yX0_tick cX0_tick 1 none]
def wsX4_until_r4 : List Cond := [Cond.methodLink RX0 99 yX0_drain, Cond.instanceMethod yX0_drain, Cond.selects RX0 yX0_drain yX0_drain, Cond.code yX0_drain cX0_drain 4 none, Cond.constantLong RX0 114 (1000000), Cond.methodLink RX0 116 yX0_giveDown, Cond.instanceMethod yX0_giveDown, Cond.selects RX0 yX0_giveDown yX0_giveDown, Cond.code yX0_giveDown cX0_giveDown 5 none, Cond.methodLink RX0 63 Lib.Math.min.name, Cond.static Lib.Math.min.name, Cond.initialized "java/lang/Math", Cond.code Lib.Math.min.name Lib.Math.min.code 2 (some .int), Cond.methodLink RX0 120 yX0_loseFrom, Cond.instanceMethod yX0_loseFrom, Cond.selects RX0 yX0_loseFrom yX0_loseFrom, Cond.code yX0_loseFrom cX0_loseFrom 5 (some .int), Cond.methodLink RX0 59 yX0_move, Cond.instanceMethod yX0_move, Cond.selects RX0 yX0_move yX0_move, Cond.code yX0_move cX0_move 4 none, Cond.methodLink RX0 102 yX0_runEdges, Cond.instanceMethod yX0_runEdges, Cond.selects RX0 yX0_runEdges yX0_runEdges]
def wsX4_until_r5 : List Cond := [Cond.code yX0_runEdges cX0_runEdges 5 none, Cond.methodLink RX0 105 yX0_dry, Cond.instanceMethod yX0_dry, Cond.selects RX0 yX0_dry yX0_dry, Cond.code yX0_dry cX0_dry 2 none, Cond.methodLink RX0 108 yX0_letDropFall, Cond.instanceMethod yX0_letDropFall, Cond.selects RX0 yX0_letDropFall yX0_letDropFall, Cond.code yX0_letDropFall cX0_letDropFall 1 none, Cond.methodLink RX0 111 yX0_burstIfDue, Cond.instanceMethod yX0_burstIfDue, Cond.selects RX0 yX0_burstIfDue yX0_burstIfDue, Cond.code yX0_burstIfDue cX0_burstIfDue 3 none, Cond.methodLink RX0 124 yX0_firstTooThin, Cond.instanceMethod yX0_firstTooThin, Cond.selects RX0 yX0_firstTooThin yX0_firstTooThin, Cond.code yX0_firstTooThin cX0_firstTooThin 2 (some .int), Cond.methodLink RX0 128 yX0_blackRows, Cond.methodLink RX0 131 yX0_burst, Cond.instanceMethod yX0_burst, Cond.selects RX0 yX0_burst yX0_burst, Cond.code yX0_burst cX0_burst 3 none, Cond.methodLink RX0 56 yX0_endFilm, Cond.instanceMethod yX0_endFilm]
def wsX4_until_r6 : List Cond := [Cond.selects RX0 yX0_endFilm yX0_endFilm, Cond.code yX0_endFilm cX0_endFilm 2 none]
def wsX4_until : List Cond := .code yX4_until cX4_until 4 (some .int) :: ((wsX4_until_r1 ++ (wsX4_until_r2 ++ (wsX4_until_r3 ++ (wsX4_until_r4 ++ (wsX4_until_r5 ++ wsX4_until_r6))))) ++ wsX40 ++ wsX00)
def wsX4_ifGo_r1 : List Cond := [Cond.fieldLink RX4 10 "SoapFilm" "film" "LSoapFilm$Film;", Cond.fieldLink RX4 16 "SoapFilm" "trial" "LSoapFilm$Film;", Cond.fieldLink RX4 74 "SoapFilm$Film" "rows" "I", Cond.fieldLink RX4 68 "SoapFilm$Film" "thickness" "[I", Cond.methodLink RX4 65 yX0_hasRow, Cond.instanceMethod yX0_hasRow, Cond.selects RX0 yX0_hasRow yX0_hasRow, Cond.initialized RX0, Cond.code yX0_hasRow cX0_hasRow 2 (some .boolean), Cond.fieldLink RX0 30 "SoapFilm$Film" "rows" "I", Cond.methodLink RX4 40 yX4_isBetween, Cond.static yX4_isBetween, Cond.initialized RX4, Cond.code yX4_isBetween cX4_isBetween 3 (some .boolean), Cond.methodLink RX4 164 yX0_copyFrom, Cond.instanceMethod yX0_copyFrom, Cond.selects RX0 yX0_copyFrom yX0_copyFrom, Cond.code yX0_copyFrom cX0_copyFrom 2 none, Cond.fieldLink RX0 9 "SoapFilm$Film" "thickness" "[I", Cond.methodLink RX0 24 arraycopyName, Cond.native arraycopyName, Cond.static arraycopyName, Cond.initialized "java/lang/System", Cond.fieldLink RX0 15 "SoapFilm$Film" "settings" "[I"]
def wsX4_ifGo_r2 : List Cond := [Cond.fieldLink RX0 18 "SoapFilm$Film" "accounts" "[I", Cond.fieldLink RX0 34 "SoapFilm$Film" "ticks" "I", Cond.fieldLink RX0 37 "SoapFilm$Film" "drops" "I", Cond.fieldLink RX0 40 "SoapFilm$Film" "bursts" "I", Cond.fieldLink RX0 43 "SoapFilm$Film" "burstReason" "I", Cond.fieldLink RX0 46 "SoapFilm$Film" "burstNumber" "I", Cond.fieldLink RX0 49 "SoapFilm$Film" "ticksBeforeBurst" "I", Cond.methodLink RX4 86 yX0_tick, Cond.instanceMethod yX0_tick, Cond.selects RX0 yX0_tick yX0_tick, Cond.code yX0_tick cX0_tick 1 none, Cond.methodLink RX0 99 yX0_drain, Cond.instanceMethod yX0_drain, Cond.selects RX0 yX0_drain yX0_drain, Cond.code yX0_drain cX0_drain 4 none, Cond.constantLong RX0 114 (1000000), Cond.methodLink RX0 116 yX0_giveDown, Cond.instanceMethod yX0_giveDown, Cond.selects RX0 yX0_giveDown yX0_giveDown, Cond.code yX0_giveDown cX0_giveDown 5 none, Cond.methodLink RX0 63 Lib.Math.min.name, Cond.static Lib.Math.min.name, Cond.initialized "java/lang/Math", Cond.code Lib.Math.min.name Lib.Math.min.code 2 (some .int)]
def wsX4_ifGo_r3 : List Cond := [Cond.methodLink RX0 120 yX0_loseFrom, Cond.instanceMethod yX0_loseFrom, Cond.selects RX0 yX0_loseFrom yX0_loseFrom, Cond.code yX0_loseFrom cX0_loseFrom 5 (some .int), Cond.methodLink RX0 59 yX0_move, Cond.instanceMethod yX0_move, Cond.selects RX0 yX0_move yX0_move, Cond.code yX0_move cX0_move 4 none, Cond.methodLink RX0 102 yX0_runEdges, Cond.instanceMethod yX0_runEdges, Cond.selects RX0 yX0_runEdges yX0_runEdges, Cond.code yX0_runEdges cX0_runEdges 5 none, Cond.methodLink RX0 78 yX0_isBlack, Cond.instanceMethod yX0_isBlack, Cond.selects RX0 yX0_isBlack yX0_isBlack, Cond.code yX0_isBlack cX0_isBlack 2 (some .boolean), Cond.methodLink RX0 105 yX0_dry, Cond.instanceMethod yX0_dry, Cond.selects RX0 yX0_dry yX0_dry, Cond.code yX0_dry cX0_dry 2 none, Cond.methodLink RX0 108 yX0_letDropFall, Cond.instanceMethod yX0_letDropFall, Cond.selects RX0 yX0_letDropFall yX0_letDropFall, Cond.code yX0_letDropFall cX0_letDropFall 1 none]
def wsX4_ifGo_r4 : List Cond := [Cond.methodLink RX0 111 yX0_burstIfDue, Cond.instanceMethod yX0_burstIfDue, Cond.selects RX0 yX0_burstIfDue yX0_burstIfDue, Cond.code yX0_burstIfDue cX0_burstIfDue 3 none, Cond.methodLink RX0 124 yX0_firstTooThin, Cond.instanceMethod yX0_firstTooThin, Cond.selects RX0 yX0_firstTooThin yX0_firstTooThin, Cond.code yX0_firstTooThin cX0_firstTooThin 2 (some .int), Cond.methodLink RX0 128 yX0_blackRows, Cond.instanceMethod yX0_blackRows, Cond.selects RX0 yX0_blackRows yX0_blackRows, Cond.code yX0_blackRows cX0_blackRows 3 (some .int), Cond.methodLink RX0 131 yX0_burst, Cond.instanceMethod yX0_burst, Cond.selects RX0 yX0_burst yX0_burst, Cond.code yX0_burst cX0_burst 3 none, Cond.methodLink RX0 56 yX0_endFilm, Cond.instanceMethod yX0_endFilm, Cond.selects RX0 yX0_endFilm yX0_endFilm, Cond.code yX0_endFilm cX0_endFilm 2 none]
def wsX4_ifGo : List Cond := .code yX4_ifGo cX4_ifGo 4 (some .int) :: ((wsX4_ifGo_r1 ++ (wsX4_ifGo_r2 ++ (wsX4_ifGo_r3 ++ wsX4_ifGo_r4))) ++ wsX40 ++ wsX00)
def wsX4_type : List Cond := .code yX4_type cX4_type 2 (some .int) :: ([.fieldLink RX4 29 "SoapFilm" "text" "LSoapFilm$FilmText;", .fieldLink RX4 147 "SoapFilm$FilmText" "length" "I", .methodLink RX4 40 yX4_isBetween, .static yX4_isBetween, .initialized RX4, .code yX4_isBetween cX4_isBetween 3 (some .boolean), .methodLink RX4 170 yX1_append, .instanceMethod yX1_append, .selects RX1 yX1_append yX1_append, .initialized RX1, .code yX1_append cX1_append 2 none, .fieldLink RX1 19 "SoapFilm$FilmText" "length" "I", .fieldLink RX1 11 "SoapFilm$FilmText" "signs" "[C"] ++ wsX40 ++ wsX10)
def wsX4_clearText : List Cond := .code yX4_clearText cX4_clearText 2 (some .int) :: ([.fieldLink RX4 29 "SoapFilm" "text" "LSoapFilm$FilmText;", .fieldLink RX4 147 "SoapFilm$FilmText" "length" "I"] ++ wsX40 ++ wsX10)
def wsX4_fault_r1 : List Cond := [Cond.fieldLink RX4 29 "SoapFilm" "text" "LSoapFilm$FilmText;", Cond.fieldLink RX4 177 "SoapFilm$FilmText" "reason" "I", Cond.fieldLink RX4 180 "SoapFilm$FilmText" "position" "I", Cond.methodLink RX4 40 yX4_isBetween, Cond.static yX4_isBetween, Cond.initialized RX4, Cond.code yX4_isBetween cX4_isBetween 3 (some .boolean), Cond.methodLink RX4 174 yX1_parse, Cond.instanceMethod yX1_parse, Cond.selects RX1 yX1_parse yX1_parse, Cond.initialized RX1, Cond.code yX1_parse cX1_parse 3 none, Cond.fieldLink RX1 23 "SoapFilm$FilmText" "rows" "I", Cond.fieldLink RX1 26 "SoapFilm$FilmText" "reason" "I", Cond.fieldLink RX1 19 "SoapFilm$FilmText" "length" "I", Cond.fieldLink RX1 11 "SoapFilm$FilmText" "signs" "[C", Cond.fieldLink RX1 29 "SoapFilm$FilmText" "position" "I", Cond.methodLink RX1 32 yX1_takePart, Cond.instanceMethod yX1_takePart, Cond.selects RX1 yX1_takePart yX1_takePart, Cond.code yX1_takePart cX1_takePart 7 (some .int), Cond.fieldLink RX1 15 "SoapFilm$FilmText" "thickness" "[I", Cond.methodLink RX1 36 yX1_findCross, Cond.instanceMethod yX1_findCross]
def wsX4_fault_r2 : List Cond := [Cond.selects RX1 yX1_findCross yX1_findCross, Cond.code yX1_findCross cX1_findCross 4 (some .int), Cond.methodLink RX1 39 yX1_number, Cond.instanceMethod yX1_number, Cond.selects RX1 yX1_number yX1_number, Cond.code yX1_number cX1_number 6 (some .int), Cond.static yX4_isThickness, Cond.code yX4_isThickness cX4_isThickness 1 (some .boolean)]
def wsX4_fault : List Cond := .code yX4_fault cX4_fault 2 (some .int) :: ((wsX4_fault_r1 ++ wsX4_fault_r2) ++ wsX40 ++ wsX10)
def wsX4_read_r1 : List Cond := [Cond.fieldLink RX4 29 "SoapFilm" "text" "LSoapFilm$FilmText;", Cond.fieldLink RX4 177 "SoapFilm$FilmText" "reason" "I", Cond.fieldLink RX4 22 "SoapFilm" "history" "LSoapFilm$History;", Cond.fieldLink RX4 10 "SoapFilm" "film" "LSoapFilm$Film;", Cond.fieldLink RX4 183 "SoapFilm$FilmText" "rows" "I", Cond.fieldLink RX4 184 "SoapFilm$FilmText" "thickness" "[I", Cond.fieldLink RX4 74 "SoapFilm$Film" "rows" "I", Cond.methodLink RX4 174 yX1_parse, Cond.instanceMethod yX1_parse, Cond.selects RX1 yX1_parse yX1_parse, Cond.initialized RX1, Cond.code yX1_parse cX1_parse 3 none, Cond.fieldLink RX1 23 "SoapFilm$FilmText" "rows" "I", Cond.fieldLink RX1 26 "SoapFilm$FilmText" "reason" "I", Cond.fieldLink RX1 19 "SoapFilm$FilmText" "length" "I", Cond.fieldLink RX1 11 "SoapFilm$FilmText" "signs" "[C", Cond.fieldLink RX1 29 "SoapFilm$FilmText" "position" "I", Cond.methodLink RX1 32 yX1_takePart, Cond.instanceMethod yX1_takePart, Cond.selects RX1 yX1_takePart yX1_takePart, Cond.code yX1_takePart cX1_takePart 7 (some .int), Cond.fieldLink RX1 15 "SoapFilm$FilmText" "thickness" "[I", Cond.methodLink RX1 36 yX1_findCross, Cond.instanceMethod yX1_findCross]
def wsX4_read_r2 : List Cond := [Cond.selects RX1 yX1_findCross yX1_findCross, Cond.code yX1_findCross cX1_findCross 4 (some .int), Cond.methodLink RX1 39 yX1_number, Cond.instanceMethod yX1_number, Cond.selects RX1 yX1_number yX1_number, Cond.code yX1_number cX1_number 6 (some .int), Cond.static yX4_isThickness, Cond.initialized RX4, Cond.code yX4_isThickness cX4_isThickness 1 (some .boolean), Cond.methodLink RX4 40 yX4_isBetween, Cond.static yX4_isBetween, Cond.code yX4_isBetween cX4_isBetween 3 (some .boolean), Cond.methodLink RX4 44 yX2_keep, Cond.instanceMethod yX2_keep, Cond.selects RX2 yX2_keep yX2_keep, Cond.initialized RX2, Cond.code yX2_keep cX2_keep 2 none, Cond.fieldLink RX2 16 "SoapFilm$History" "size" "I", Cond.fieldLink RX2 11 "SoapFilm$History" "states" "[LSoapFilm$Film;", Cond.methodLink RX2 20 yX2_dropOldest, Cond.instanceMethod yX2_dropOldest, Cond.selects RX2 yX2_dropOldest yX2_dropOldest, Cond.code yX2_dropOldest cX2_dropOldest 3 none, Cond.methodLink RX2 23 yX0_copyFrom]
def wsX4_read_r3 : List Cond := [Cond.instanceMethod yX0_copyFrom, Cond.selects RX0 yX0_copyFrom yX0_copyFrom, Cond.initialized RX0, Cond.code yX0_copyFrom cX0_copyFrom 2 none, Cond.fieldLink RX0 9 "SoapFilm$Film" "thickness" "[I", Cond.methodLink RX0 24 arraycopyName, Cond.native arraycopyName, Cond.static arraycopyName, Cond.initialized "java/lang/System", Cond.fieldLink RX0 15 "SoapFilm$Film" "settings" "[I", Cond.fieldLink RX0 18 "SoapFilm$Film" "accounts" "[I", Cond.fieldLink RX0 30 "SoapFilm$Film" "rows" "I", Cond.fieldLink RX0 34 "SoapFilm$Film" "ticks" "I", Cond.fieldLink RX0 37 "SoapFilm$Film" "drops" "I", Cond.fieldLink RX0 40 "SoapFilm$Film" "bursts" "I", Cond.fieldLink RX0 43 "SoapFilm$Film" "burstReason" "I", Cond.fieldLink RX0 46 "SoapFilm$Film" "burstNumber" "I", Cond.fieldLink RX0 49 "SoapFilm$Film" "ticksBeforeBurst" "I", Cond.methodLink RX4 55 yX0_takeAway, Cond.instanceMethod yX0_takeAway, Cond.selects RX0 yX0_takeAway yX0_takeAway, Cond.code yX0_takeAway cX0_takeAway 1 none, Cond.methodLink RX0 56 yX0_endFilm, Cond.instanceMethod yX0_endFilm]
def wsX4_read_r4 : List Cond := [Cond.selects RX0 yX0_endFilm yX0_endFilm, Cond.code yX0_endFilm cX0_endFilm 2 none, Cond.methodLink RX0 59 yX0_move, Cond.instanceMethod yX0_move, Cond.selects RX0 yX0_move yX0_move, Cond.code yX0_move cX0_move 4 none, Cond.methodLink RX4 58 yX0_appendRow, Cond.instanceMethod yX0_appendRow, Cond.selects RX0 yX0_appendRow yX0_appendRow, Cond.code yX0_appendRow cX0_appendRow 2 none, Cond.methodLink RX0 52 yX0_bring, Cond.instanceMethod yX0_bring, Cond.selects RX0 yX0_bring yX0_bring, Cond.code yX0_bring cX0_bring 2 none]
def wsX4_read : List Cond := .code yX4_read cX4_read 2 (some .int) :: ((wsX4_read_r1 ++ (wsX4_read_r2 ++ (wsX4_read_r3 ++ wsX4_read_r4))) ++ wsX40 ++ wsX10 ++ wsX00 ++ wsX20)
def wsJ9_max_7cf53 : List Cond := .code yJ9_max_7cf53 cJ9_max_7cf53 2 (some .int) :: ([])
def wsJ9_min_7cf53 : List Cond := .code yJ9_min_7cf53 cJ9_min_7cf53 2 (some .int) :: ([])
def wsL_part : List Cond := .code yL_part cL_part 2 (some .int) :: ([.constant RL 7 (2147483647)])
def wsL_take : List Cond := .code yL_take cL_take 2 (some .int) :: ([.constant RL 8 (2654435)])
def wsL_mixed : List Cond := .code yL_mixed cL_mixed 4 (some .long) :: ([.constantLong RL 9 (31)])
def wsL_law_r1 : List Cond := [Cond.classLink RL 14 RX4, Cond.instantiable RX4 4, Cond.initialized RX4, Cond.arrayClass .long, Cond.constant RL 159 (100000), Cond.methodLink RL 160 yL_texts, Cond.static yL_texts, Cond.initialized RL, Cond.code yL_texts cL_texts 2 (some .boolean), Cond.constantLong RL 91 (3223600), Cond.constantLong RL 97 (892350513), Cond.constantLong RL 99 (211295614005), Cond.constantLong RL 101 (3544385873119293560), Cond.constantLong RL 103 (51), Cond.constantLong RL 105 (54083041374773), Cond.constantLong RL 107 (211261880368), Cond.constantLong RL 109 (825241720), Cond.constantLong RL 111 (13845258591875635), Cond.constantLong RL 113 (3544385873018761264), Cond.constantLong RL 115 (825241644), Cond.constantLong RL 117 (741421104), Cond.constantLong RL 119 (13845566655310901), Cond.constantLong RL 121 (3544465063692481912), Cond.constantLong RL 123 (53)]
def wsL_law_r2 : List Cond := [Cond.constantLong RL 125 (52), Cond.constantLong RL 127 (13845258591959091), Cond.constantLong RL 129 (54083035606069), Cond.constantLong RL 131 (13563782411858484), Cond.constantLong RL 133 (3975611052144556082), Cond.constantLong RL 135 (3975611053352628345), Cond.constantLong RL 137 (3544465063692482096), Cond.constantLong RL 139 (808482873), Cond.constantLong RL 141 (14971157295411249), Cond.constantLong RL 143 (211262583344), Cond.constantLong RL 145 (54392308116600), Cond.constantLong RL 150 (3544386199536546608), Cond.methodLink RL 90 yX4_init, Cond.instanceMethod yX4_init, Cond.code yX4_init cX4_init 1 none, Cond.methodLink RX4 1 objectInit, Cond.instanceMethod objectInit, Cond.code objectInit ⟨#[0xb1]⟩ 1 none, Cond.classLink RX4 7 RX0, Cond.instantiable RX0 10, Cond.initialized RX0, Cond.fieldLink RX4 10 "SoapFilm" "film" "LSoapFilm$Film;", Cond.fieldLink RX4 16 "SoapFilm" "trial" "LSoapFilm$Film;", Cond.classLink RX4 19 RX2]
def wsL_law_r3 : List Cond := [Cond.instantiable RX2 2, Cond.initialized RX2, Cond.fieldLink RX4 22 "SoapFilm" "history" "LSoapFilm$History;", Cond.classLink RX4 26 RX1, Cond.instantiable RX1 6, Cond.initialized RX1, Cond.fieldLink RX4 29 "SoapFilm" "text" "LSoapFilm$FilmText;", Cond.methodLink RX4 9 yX0_init, Cond.instanceMethod yX0_init, Cond.code yX0_init cX0_init 1 none, Cond.methodLink RX0 3 objectInit, Cond.arrayClass .int, Cond.fieldLink RX0 9 "SoapFilm$Film" "thickness" "[I", Cond.fieldLink RX0 15 "SoapFilm$Film" "settings" "[I", Cond.fieldLink RX0 18 "SoapFilm$Film" "accounts" "[I", Cond.methodLink RX0 24 arraycopyName, Cond.native arraycopyName, Cond.static arraycopyName, Cond.initialized "java/lang/System", Cond.methodLink RX4 21 yX2_init, Cond.instanceMethod yX2_init, Cond.code yX2_init cX2_init 2 none, Cond.methodLink RX2 1 objectInit, Cond.classLink RX2 9 RX0]
def wsL_law_r4 : List Cond := [Cond.fieldLink RX2 11 "SoapFilm$History" "states" "[LSoapFilm$Film;", Cond.methodLink RX2 15 yX0_init, Cond.instanceMethod yX1_init, Cond.code yX1_init cX1_init 1 none, Cond.methodLink RX1 3 objectInit, Cond.arrayClass .char, Cond.fieldLink RX1 11 "SoapFilm$FilmText" "signs" "[C", Cond.fieldLink RX1 15 "SoapFilm$FilmText" "thickness" "[I", Cond.methodLink RL 93 yL_isFault, Cond.static yL_isFault, Cond.code yL_isFault cL_isFault 7 (some .boolean), Cond.methodLink RL 83 yX4_clearText, Cond.instanceMethod yX4_clearText, Cond.selects RX4 yX4_clearText yX4_clearText, Cond.code yX4_clearText cX4_clearText 2 (some .int), Cond.fieldLink RX4 147 "SoapFilm$FilmText" "length" "I", Cond.methodLink RL 86 yL_types, Cond.static yL_types, Cond.code yL_types cL_types 5 none, Cond.constantLong RL 81 (255), Cond.methodLink RL 71 yX4_type, Cond.instanceMethod yX4_type, Cond.selects RX4 yX4_type yX4_type, Cond.code yX4_type cX4_type 2 (some .int)]
def wsL_law_r5 : List Cond := [Cond.methodLink RX4 40 yX4_isBetween, Cond.static yX4_isBetween, Cond.code yX4_isBetween cX4_isBetween 3 (some .boolean), Cond.methodLink RX4 170 yX1_append, Cond.instanceMethod yX1_append, Cond.selects RX1 yX1_append yX1_append, Cond.code yX1_append cX1_append 2 none, Cond.fieldLink RX1 19 "SoapFilm$FilmText" "length" "I", Cond.methodLink RL 74 yX4_fault, Cond.instanceMethod yX4_fault, Cond.selects RX4 yX4_fault yX4_fault, Cond.code yX4_fault cX4_fault 2 (some .int), Cond.fieldLink RX4 177 "SoapFilm$FilmText" "reason" "I", Cond.fieldLink RX4 180 "SoapFilm$FilmText" "position" "I", Cond.methodLink RX4 174 yX1_parse, Cond.instanceMethod yX1_parse, Cond.selects RX1 yX1_parse yX1_parse, Cond.code yX1_parse cX1_parse 3 none, Cond.fieldLink RX1 23 "SoapFilm$FilmText" "rows" "I", Cond.fieldLink RX1 26 "SoapFilm$FilmText" "reason" "I", Cond.fieldLink RX1 29 "SoapFilm$FilmText" "position" "I", Cond.methodLink RX1 32 yX1_takePart, Cond.instanceMethod yX1_takePart, Cond.selects RX1 yX1_takePart yX1_takePart]
def wsL_law_r6 : List Cond := [Cond.code yX1_takePart cX1_takePart 7 (some .int), Cond.methodLink RX1 36 yX1_findCross, Cond.instanceMethod yX1_findCross, Cond.selects RX1 yX1_findCross yX1_findCross, Cond.code yX1_findCross cX1_findCross 4 (some .int), Cond.methodLink RX1 39 yX1_number, Cond.instanceMethod yX1_number, Cond.selects RX1 yX1_number yX1_number, Cond.code yX1_number cX1_number 6 (some .int), Cond.static yX4_isThickness, Cond.code yX4_isThickness cX4_isThickness 1 (some .boolean), Cond.methodLink RL 147 yX4_read, Cond.instanceMethod yX4_read, Cond.selects RX4 yX4_read yX4_read, Cond.code yX4_read cX4_read 2 (some .int), Cond.fieldLink RX4 183 "SoapFilm$FilmText" "rows" "I", Cond.fieldLink RX4 184 "SoapFilm$FilmText" "thickness" "[I", Cond.fieldLink RX4 74 "SoapFilm$Film" "rows" "I", Cond.methodLink RX4 44 yX2_keep, Cond.instanceMethod yX2_keep, Cond.selects RX2 yX2_keep yX2_keep, Cond.code yX2_keep cX2_keep 2 none, Cond.fieldLink RX2 16 "SoapFilm$History" "size" "I", Cond.methodLink RX2 20 yX2_dropOldest]
def wsL_law_r7 : List Cond := [Cond.instanceMethod yX2_dropOldest, Cond.selects RX2 yX2_dropOldest yX2_dropOldest, Cond.code yX2_dropOldest cX2_dropOldest 3 none, Cond.methodLink RX2 23 yX0_copyFrom, Cond.instanceMethod yX0_copyFrom, Cond.selects RX0 yX0_copyFrom yX0_copyFrom, Cond.code yX0_copyFrom cX0_copyFrom 2 none, Cond.fieldLink RX0 30 "SoapFilm$Film" "rows" "I", Cond.fieldLink RX0 34 "SoapFilm$Film" "ticks" "I", Cond.fieldLink RX0 37 "SoapFilm$Film" "drops" "I", Cond.fieldLink RX0 40 "SoapFilm$Film" "bursts" "I", Cond.fieldLink RX0 43 "SoapFilm$Film" "burstReason" "I", Cond.fieldLink RX0 46 "SoapFilm$Film" "burstNumber" "I", Cond.fieldLink RX0 49 "SoapFilm$Film" "ticksBeforeBurst" "I", Cond.methodLink RX4 55 yX0_takeAway, Cond.instanceMethod yX0_takeAway, Cond.selects RX0 yX0_takeAway yX0_takeAway, Cond.code yX0_takeAway cX0_takeAway 1 none, Cond.methodLink RX0 56 yX0_endFilm, Cond.instanceMethod yX0_endFilm, Cond.selects RX0 yX0_endFilm yX0_endFilm, Cond.code yX0_endFilm cX0_endFilm 2 none, Cond.methodLink RX0 59 yX0_move, Cond.instanceMethod yX0_move]
def wsL_law_r8 : List Cond := [Cond.selects RX0 yX0_move yX0_move, Cond.code yX0_move cX0_move 4 none, Cond.methodLink RX4 58 yX0_appendRow, Cond.instanceMethod yX0_appendRow, Cond.selects RX0 yX0_appendRow yX0_appendRow, Cond.code yX0_appendRow cX0_appendRow 2 none, Cond.methodLink RX0 52 yX0_bring, Cond.instanceMethod yX0_bring, Cond.selects RX0 yX0_bring yX0_bring, Cond.code yX0_bring cX0_bring 2 none, Cond.methodLink RL 13 yX4_count, Cond.instanceMethod yX4_count, Cond.selects RX4 yX4_count yX4_count, Cond.code yX4_count cX4_count 2 (some .int), Cond.fieldLink RX4 62 "SoapFilm$Film" "accounts" "[I", Cond.fieldLink RX4 48 "SoapFilm$Film" "settings" "[I", Cond.fieldLink RX4 82 "SoapFilm$Film" "ticks" "I", Cond.fieldLink RX4 132 "SoapFilm$Film" "burstReason" "I", Cond.fieldLink RX4 135 "SoapFilm$Film" "bursts" "I", Cond.fieldLink RX4 138 "SoapFilm$Film" "burstNumber" "I", Cond.fieldLink RX4 141 "SoapFilm$Film" "ticksBeforeBurst" "I", Cond.fieldLink RX4 144 "SoapFilm$Film" "drops" "I", Cond.fieldLink RX4 89 "SoapFilm$History" "size" "I", Cond.methodLink RX4 119 yX0_blackRows]
def wsL_law_r9 : List Cond := [Cond.instanceMethod yX0_blackRows, Cond.selects RX0 yX0_blackRows yX0_blackRows, Cond.code yX0_blackRows cX0_blackRows 3 (some .int), Cond.methodLink RX0 78 yX0_isBlack, Cond.instanceMethod yX0_isBlack, Cond.selects RX0 yX0_isBlack yX0_isBlack, Cond.code yX0_isBlack cX0_isBlack 2 (some .boolean), Cond.methodLink RX4 123 yX0_fringes, Cond.instanceMethod yX0_fringes, Cond.selects RX0 yX0_fringes yX0_fringes, Cond.code yX0_fringes cX0_fringes 3 (some .int), Cond.methodLink RX0 82 yX0_startsColour, Cond.instanceMethod yX0_startsColour, Cond.selects RX0 yX0_startsColour yX0_startsColour, Cond.code yX0_startsColour cX0_startsColour 2 (some .boolean), Cond.methodLink RX0 74 yX0_colourAt, Cond.instanceMethod yX0_colourAt, Cond.selects RX0 yX0_colourAt yX0_colourAt, Cond.code yX0_colourAt cX0_colourAt 2 (some .int), Cond.methodLink RX0 69 yX3_colour, Cond.static yX3_colour, Cond.initialized RX3, Cond.code yX3_colour cX3_colour 4 (some .int), Cond.methodLink RX3 13 yX3_path]
def wsL_law_r10 : List Cond := [Cond.static yX3_path, Cond.code yX3_path cX3_path 1 (some .int), Cond.methodLink RX3 16 yX3_red, Cond.static yX3_red, Cond.code yX3_red cX3_red 1 (some .int), Cond.methodLink RX3 9 yX3_brightness, Cond.static yX3_brightness, Cond.code yX3_brightness cX3_brightness 2 (some .int), Cond.methodLink RX3 19 yX3_green, Cond.static yX3_green, Cond.code yX3_green cX3_green 1 (some .int), Cond.methodLink RX3 22 yX3_blue, Cond.static yX3_blue, Cond.code yX3_blue cX3_blue 1 (some .int), Cond.methodLink RX4 126 yX0_differentColours, Cond.instanceMethod yX0_differentColours, Cond.selects RX0 yX0_differentColours yX0_differentColours, Cond.code yX0_differentColours cX0_differentColours 3 (some .int), Cond.methodLink RX0 85 yJ6_bitCount_0f7a4, Cond.static yJ6_bitCount_0f7a4, Cond.initialized RJ6, Cond.code yJ6_bitCount_0f7a4 cJ6_bitCount_0f7a4 1 (some .int), Cond.constant RJ6 265 (1431655765), Cond.constant RJ6 266 (858993459)]
def wsL_law_r11 : List Cond := [Cond.constant RJ6 267 (252645135), Cond.methodLink RX4 129 yX0_greatestOrder, Cond.instanceMethod yX0_greatestOrder, Cond.selects RX0 yX0_greatestOrder yX0_greatestOrder, Cond.code yX0_greatestOrder cX0_greatestOrder 3 (some .int), Cond.methodLink RX0 96 Lib.Math.max.name, Cond.static Lib.Math.max.name, Cond.initialized "java/lang/Math", Cond.code Lib.Math.max.name Lib.Math.max.code 2 (some .int), Cond.methodLink RX0 90 yX3_path, Cond.methodLink RX0 93 yX3_order, Cond.static yX3_order, Cond.code yX3_order cX3_order 1 (some .int), Cond.methodLink RL 25 yX4_row, Cond.instanceMethod yX4_row, Cond.selects RX4 yX4_row yX4_row, Cond.code yX4_row cX4_row 5 (some .int), Cond.fieldLink RX4 68 "SoapFilm$Film" "thickness" "[I", Cond.methodLink RX4 65 yX0_hasRow, Cond.instanceMethod yX0_hasRow, Cond.selects RX0 yX0_hasRow yX0_hasRow, Cond.code yX0_hasRow cX0_hasRow 2 (some .boolean), Cond.methodLink RX4 95 yX3_path, Cond.methodLink RX4 101 yX3_red]
def wsL_law_r12 : List Cond := [Cond.methodLink RX4 104 yX3_green, Cond.methodLink RX4 107 yX3_blue, Cond.methodLink RX4 110 yX0_colourAt, Cond.methodLink RX4 113 yX3_order, Cond.methodLink RX4 116 yX0_isBlack, Cond.methodLink RL 164 yL_known, Cond.static yL_known, Cond.code yL_known cL_known 1 (some .boolean), Cond.methodLink RL 152 yL_refused, Cond.static yL_refused, Cond.code yL_refused cL_refused 4 (some .boolean), Cond.constant RL 36 (100001), Cond.methodLink RL 29 yL_state, Cond.static yL_state, Cond.code yL_state cL_state 4 (some .long), Cond.constantLong RL 11 (9), Cond.methodLink RL 19 yL_mixed, Cond.static yL_mixed, Cond.code yL_mixed cL_mixed 4 (some .long), Cond.constantLong RL 9 (31), Cond.methodLink RL 33 yX4_set, Cond.instanceMethod yX4_set, Cond.selects RX4 yX4_set yX4_set, Cond.code yX4_set cX4_set 4 (some .int)]
def wsL_law_r13 : List Cond := [Cond.fieldLink RX4 33 "SoapFilm" "LEAST_SETTING" "[I", Cond.fieldLink RX4 37 "SoapFilm" "GREATEST_SETTING" "[I", Cond.methodLink RL 37 yX4_dip, Cond.instanceMethod yX4_dip, Cond.selects RX4 yX4_dip yX4_dip, Cond.code yX4_dip cX4_dip 5 (some .int), Cond.methodLink RX4 51 yX4_isThickness, Cond.methodLink RL 41 yX4_add, Cond.instanceMethod yX4_add, Cond.selects RX4 yX4_add yX4_add, Cond.code yX4_add cX4_add 2 (some .int), Cond.methodLink RL 44 yX4_go, Cond.instanceMethod yX4_go, Cond.selects RX4 yX4_go yX4_go, Cond.code yX4_go cX4_go 4 (some .int), Cond.constant RX4 85 (100000), Cond.methodLink RX4 86 yX0_tick, Cond.instanceMethod yX0_tick, Cond.selects RX0 yX0_tick yX0_tick, Cond.code yX0_tick cX0_tick 1 none, Cond.methodLink RX0 99 yX0_drain, Cond.instanceMethod yX0_drain, Cond.selects RX0 yX0_drain yX0_drain, Cond.code yX0_drain cX0_drain 4 none]
def wsL_law_r14 : List Cond := [Cond.constantLong RX0 114 (1000000), Cond.methodLink RX0 116 yX0_giveDown, Cond.instanceMethod yX0_giveDown, Cond.selects RX0 yX0_giveDown yX0_giveDown, Cond.code yX0_giveDown cX0_giveDown 5 none, Cond.methodLink RX0 63 Lib.Math.min.name, Cond.static Lib.Math.min.name, Cond.code Lib.Math.min.name Lib.Math.min.code 2 (some .int), Cond.methodLink RX0 120 yX0_loseFrom, Cond.instanceMethod yX0_loseFrom, Cond.selects RX0 yX0_loseFrom yX0_loseFrom, Cond.code yX0_loseFrom cX0_loseFrom 5 (some .int), Cond.methodLink RX0 102 yX0_runEdges, Cond.instanceMethod yX0_runEdges, Cond.selects RX0 yX0_runEdges yX0_runEdges, Cond.code yX0_runEdges cX0_runEdges 5 none, Cond.methodLink RX0 105 yX0_dry, Cond.instanceMethod yX0_dry, Cond.selects RX0 yX0_dry yX0_dry, Cond.code yX0_dry cX0_dry 2 none, Cond.methodLink RX0 108 yX0_letDropFall, Cond.instanceMethod yX0_letDropFall, Cond.selects RX0 yX0_letDropFall yX0_letDropFall, Cond.code yX0_letDropFall cX0_letDropFall 1 none]
def wsL_law_r15 : List Cond := [Cond.methodLink RX0 111 yX0_burstIfDue, Cond.instanceMethod yX0_burstIfDue, Cond.selects RX0 yX0_burstIfDue yX0_burstIfDue, Cond.code yX0_burstIfDue cX0_burstIfDue 3 none, Cond.methodLink RX0 124 yX0_firstTooThin, Cond.instanceMethod yX0_firstTooThin, Cond.selects RX0 yX0_firstTooThin yX0_firstTooThin, Cond.code yX0_firstTooThin cX0_firstTooThin 2 (some .int), Cond.methodLink RX0 128 yX0_blackRows, Cond.methodLink RX0 131 yX0_burst, Cond.instanceMethod yX0_burst, Cond.selects RX0 yX0_burst yX0_burst, Cond.code yX0_burst cX0_burst 3 none, Cond.methodLink RL 47 yX4_pour, Cond.instanceMethod yX4_pour, Cond.selects RX4 yX4_pour yX4_pour, Cond.code yX4_pour cX4_pour 3 (some .int), Cond.methodLink RX4 71 yX0_bring, Cond.methodLink RL 50 yX4_thin, Cond.instanceMethod yX4_thin, Cond.selects RX4 yX4_thin yX4_thin, Cond.code yX4_thin cX4_thin 3 (some .int), Cond.methodLink RX4 78 yX0_loseFrom, Cond.methodLink RL 53 yX4_ifGo]
def wsL_law_r16 : List Cond := [Cond.instanceMethod yX4_ifGo, Cond.selects RX4 yX4_ifGo yX4_ifGo, Cond.code yX4_ifGo cX4_ifGo 4 (some .int), Cond.methodLink RX4 164 yX0_copyFrom, Cond.methodLink RL 56 yX4_ladder, Cond.instanceMethod yX4_ladder, Cond.selects RX4 yX4_ladder yX4_ladder, Cond.code yX4_ladder cX4_ladder 4 (some .int), Cond.methodLink RX4 150 yX0_startsColour, Cond.methodLink RL 59 yX4_find, Cond.instanceMethod yX4_find, Cond.selects RX4 yX4_find yX4_find, Cond.code yX4_find cX4_find 4 (some .int), Cond.methodLink RX4 153 yX4_isColour, Cond.static yX4_isColour, Cond.code yX4_isColour cX4_isColour 1 (some .boolean), Cond.methodLink RL 62 yX4_colourOf, Cond.instanceMethod yX4_colourOf, Cond.selects RX4 yX4_colourOf yX4_colourOf, Cond.code yX4_colourOf cX4_colourOf 2 (some .int), Cond.methodLink RX4 156 yX3_colour, Cond.methodLink RL 65 yX4_thicknessFor, Cond.instanceMethod yX4_thicknessFor, Cond.selects RX4 yX4_thicknessFor yX4_thicknessFor]
def wsL_law_r17 : List Cond := [Cond.code yX4_thicknessFor cX4_thicknessFor 4 (some .int), Cond.methodLink RL 68 yX4_until, Cond.instanceMethod yX4_until, Cond.selects RX4 yX4_until yX4_until, Cond.code yX4_until cX4_until 4 (some .int), Cond.methodLink RX4 160 yX4_isQuestion, Cond.static yX4_isQuestion, Cond.code yX4_isQuestion cX4_isQuestion 2 (some .boolean), Cond.methodLink RX4 167 yX4_isSo, Cond.instanceMethod yX4_isSo, Cond.selects RX4 yX4_isSo yX4_isSo, Cond.code yX4_isSo cX4_isSo 3 (some .boolean), Cond.methodLink RL 77 yX4_cut, Cond.instanceMethod yX4_cut, Cond.selects RX4 yX4_cut yX4_cut, Cond.code yX4_cut cX4_cut 2 (some .int), Cond.methodLink RL 156 yX4_undo, Cond.instanceMethod yX4_undo, Cond.selects RX4 yX4_undo yX4_undo, Cond.code yX4_undo cX4_undo 1 (some .int), Cond.methodLink RX4 92 yX2_restore, Cond.instanceMethod yX2_restore, Cond.selects RX2 yX2_restore yX2_restore, Cond.code yX2_restore cX2_restore 2 none]
def wsL_law_r18 : List Cond := [Cond.methodLink RL 167 yL_take, Cond.static yL_take, Cond.code yL_take cL_take 2 (some .int), Cond.constant RL 8 (2654435), Cond.methodLink RL 171 yL_part, Cond.static yL_part, Cond.code yL_part cL_part 2 (some .int), Cond.constant RL 7 (2147483647)]
def wsL_law : List Cond := (wsL_law_r1 ++ (wsL_law_r2 ++ (wsL_law_r3 ++ (wsL_law_r4 ++ (wsL_law_r5 ++ (wsL_law_r6 ++ (wsL_law_r7 ++ (wsL_law_r8 ++ (wsL_law_r9 ++ (wsL_law_r10 ++ (wsL_law_r11 ++ (wsL_law_r12 ++ (wsL_law_r13 ++ (wsL_law_r14 ++ (wsL_law_r15 ++ (wsL_law_r16 ++ (wsL_law_r17 ++ wsL_law_r18))))))))))))))))) ++ wsX40 ++ wsX00 ++ wsX20 ++ wsX10 ++ ([] : List Cond)
end
section
theorem mem_r {big : List Cond} (ws : List Cond) (ps : List Nat) (hp : ws = ps.filterMap (fun i => big[i]?)) : ∀ w ∈ ws, w ∈ big := by
  intro w hw
  rw [hp] at hw
  obtain ⟨i, -, hi⟩ := List.mem_filterMap.mp hw
  first | exact List.mem_of_getElem? hi | exact List.getElem?_mem hi
theorem mem_app {big a b : List Cond} (ha : ∀ w ∈ a, w ∈ big) (hb : ∀ w ∈ b, w ∈ big) : ∀ w ∈ a ++ b, w ∈ big := fun w h => (List.mem_append.mp h).elim (ha w) (hb w)
set_option maxRecDepth 20000 in
theorem wsL_law_r1_in : ∀ w ∈ wsL_law_r1, w ∈ lw_tbl := mem_r wsL_law_r1 [24, 25, 16, 486, 485, 437, 438, 15, 439, 440, 452, 453, 454, 455, 456, 457, 458, 459, 460, 461, 462, 463, 464, 465] (by decide +kernel)
set_option maxRecDepth 20000 in
theorem wsL_law_r2_in : ∀ w ∈ wsL_law_r2, w ∈ lw_tbl := mem_r wsL_law_r2 [466, 467, 468, 469, 470, 471, 472, 473, 474, 475, 476, 481, 26, 27, 28, 29, 30, 31, 32, 33, 17, 133, 134, 85] (by decide +kernel)
set_option maxRecDepth 20000 in
theorem wsL_law_r3_in : ∀ w ∈ wsL_law_r3, w ∈ lw_tbl := mem_r wsL_law_r3 [86, 19, 135, 102, 103, 20, 136, 34, 35, 36, 37, 84, 43, 45, 47, 40, 42, 41, 18, 87, 88, 89, 90, 91] (by decide +kernel)
set_option maxRecDepth 20000 in
theorem wsL_law_r4_in : ∀ w ∈ wsL_law_r4, w ∈ lw_tbl := mem_r wsL_law_r4 [94, 93, 105, 106, 107, 132, 108, 111, 441, 442, 443, 444, 445, 446, 447, 110, 448, 449, 450, 451, 407, 408, 409, 410] (by decide +kernel)
set_option maxRecDepth 20000 in
theorem wsL_law_r5_in : ∀ w ∈ wsL_law_r5, w ∈ lw_tbl := mem_r wsL_law_r5 [154, 155, 156, 411, 412, 413, 414, 109, 415, 416, 417, 418, 118, 116, 419, 420, 421, 422, 113, 117, 115, 423, 425, 12] (by decide +kernel)
set_option maxRecDepth 20000 in
theorem wsL_law_r6_in : ∀ w ∈ wsL_law_r6, w ∈ lw_tbl := mem_r wsL_law_r6 [426, 427, 429, 13, 430, 431, 433, 14, 434, 174, 175, 477, 478, 479, 480, 114, 112, 50, 157, 158, 159, 160, 95, 161] (by decide +kernel)
set_option maxRecDepth 20000 in
theorem wsL_law_r7_in : ∀ w ∈ wsL_law_r7, w ∈ lw_tbl := mem_r wsL_law_r7 [163, 0, 164, 165, 166, 167, 168, 49, 51, 53, 55, 57, 59, 61, 176, 177, 178, 179, 180, 182, 1, 183, 184, 186] (by decide +kernel)
set_option maxRecDepth 20000 in
theorem wsL_law_r8_in : ∀ w ∈ wsL_law_r8, w ∈ lw_tbl := mem_r wsL_law_r8 [2, 187, 188, 189, 190, 191, 192, 193, 194, 195, 283, 284, 285, 286, 48, 46, 52, 58, 56, 60, 62, 54, 96, 287] (by decide +kernel)
set_option maxRecDepth 20000 in
theorem wsL_law_r9_in : ∀ w ∈ wsL_law_r9, w ∈ lw_tbl := mem_r wsL_law_r9 [268, 269, 270, 247, 248, 249, 250, 288, 289, 290, 291, 292, 293, 294, 295, 296, 297, 298, 299, 300, 301, 21, 302, 303] (by decide +kernel)
set_option maxRecDepth 20000 in
theorem wsL_law_r10_in : ∀ w ∈ wsL_law_r10, w ∈ lw_tbl := mem_r wsL_law_r10 [304, 305, 306, 307, 308, 309, 310, 311, 312, 313, 314, 315, 316, 317, 318, 319, 320, 321, 322, 323, 22, 324, 325, 326] (by decide +kernel)
set_option maxRecDepth 20000 in
theorem wsL_law_r11_in : ∀ w ∈ wsL_law_r11, w ∈ lw_tbl := mem_r wsL_law_r11 [327, 328, 329, 330, 331, 336, 337, 23, 338, 332, 333, 334, 335, 355, 356, 357, 358, 44, 200, 201, 202, 203, 359, 360] (by decide +kernel)
set_option maxRecDepth 20000 in
theorem law12_0 : ∀ w ∈ ([Cond.methodLink RX4 104 yX3_green, Cond.methodLink RX4 107 yX3_blue, Cond.methodLink RX4 110 yX0_colourAt, Cond.methodLink RX4 113 yX3_order, Cond.methodLink RX4 116 yX0_isBlack, Cond.methodLink RL 164 yL_known, Cond.static yL_known] : List Cond), w ∈ lw_tbl := mem_r _ [361, 362, 363, 364, 365, 482, 483] (by decide +kernel)
set_option maxRecDepth 20000 in
theorem law12_1 : ∀ w ∈ ([Cond.code yL_known cL_known 1 (some .boolean)] : List Cond), w ∈ lw_tbl := fun w hw => by
  obtain rfl := List.mem_singleton.mp hw
  exact List.mem_of_getElem? (i := 484) rfl
set_option maxRecDepth 20000 in
theorem law12_2 : ∀ w ∈ ([Cond.methodLink RL 152 yL_refused, Cond.static yL_refused] : List Cond), w ∈ lw_tbl := mem_r _ [366, 367] (by decide +kernel)
set_option maxRecDepth 20000 in
theorem law12_3 : ∀ w ∈ ([Cond.code yL_refused cL_refused 4 (some .boolean)] : List Cond), w ∈ lw_tbl := fun w hw => by
  obtain rfl := List.mem_singleton.mp hw
  exact List.mem_of_getElem? (i := 368) rfl
set_option maxRecDepth 20000 in
theorem law12_4 : ∀ w ∈ ([Cond.constant RL 36 (100001), Cond.methodLink RL 29 yL_state, Cond.static yL_state, Cond.code yL_state cL_state 4 (some .long), Cond.constantLong RL 11 (9), Cond.methodLink RL 19 yL_mixed, Cond.static yL_mixed, Cond.code yL_mixed cL_mixed 4 (some .long), Cond.constantLong RL 9 (31), Cond.methodLink RL 33 yX4_set, Cond.instanceMethod yX4_set, Cond.selects RX4 yX4_set yX4_set, Cond.code yX4_set cX4_set 4 (some .int)] : List Cond), w ∈ lw_tbl := mem_r _ [369, 347, 348, 349, 350, 351, 352, 353, 354, 146, 147, 148, 149] (by decide +kernel)
theorem wsL_law_r12_in : ∀ w ∈ wsL_law_r12, w ∈ lw_tbl := (mem_app law12_0 (mem_app law12_1 (mem_app law12_2 (mem_app law12_3 law12_4))))
set_option maxRecDepth 20000 in
theorem wsL_law_r13_in : ∀ w ∈ wsL_law_r13, w ∈ lw_tbl := mem_r wsL_law_r13 [150, 152, 169, 170, 171, 172, 173, 205, 206, 207, 208, 224, 225, 226, 227, 228, 229, 230, 231, 232, 233, 235, 3, 236] (by decide +kernel)
set_option maxRecDepth 20000 in
theorem wsL_law_r14_in : ∀ w ∈ wsL_law_r14, w ∈ lw_tbl := mem_r wsL_law_r14 [237, 238, 240, 4, 241, 217, 218, 219, 242, 214, 215, 216, 243, 245, 5, 246, 251, 253, 6, 254, 255, 257, 7, 258] (by decide +kernel)
set_option maxRecDepth 20000 in
theorem wsL_law_r15_in : ∀ w ∈ wsL_law_r15, w ∈ lw_tbl := mem_r wsL_law_r15 [259, 261, 8, 262, 263, 265, 9, 266, 267, 271, 273, 10, 274, 196, 197, 198, 199, 204, 209, 210, 211, 212, 213, 370] (by decide +kernel)
set_option maxRecDepth 20000 in
theorem wsL_law_r16_in : ∀ w ∈ wsL_law_r16, w ∈ lw_tbl := mem_r wsL_law_r16 [371, 372, 373, 374, 375, 376, 377, 378, 379, 380, 381, 382, 383, 384, 385, 386, 387, 388, 389, 390, 391, 392, 393, 394] (by decide +kernel)
set_option maxRecDepth 20000 in
theorem wsL_law_r17_in : ∀ w ∈ wsL_law_r17, w ∈ lw_tbl := mem_r wsL_law_r17 [395, 396, 397, 398, 399, 400, 401, 402, 403, 405, 11, 406, 220, 221, 222, 223, 275, 276, 277, 278, 279, 280, 281, 282] (by decide +kernel)
set_option maxRecDepth 20000 in
theorem wsL_law_r18_in : ∀ w ∈ wsL_law_r18, w ∈ lw_tbl := mem_r wsL_law_r18 [343, 344, 345, 346, 339, 340, 341, 342] (by decide +kernel)
set_option maxRecDepth 20000 in
theorem wsX40_mm : ∀ w ∈ wsX40, w ∈ lw_tbl := by decide +kernel
set_option maxRecDepth 20000 in
theorem wsX00_mm : ∀ w ∈ wsX00, w ∈ lw_tbl := by decide +kernel
set_option maxRecDepth 20000 in
theorem wsX20_mm : ∀ w ∈ wsX20, w ∈ lw_tbl := by decide +kernel
set_option maxRecDepth 20000 in
theorem wsX10_mm : ∀ w ∈ wsX10, w ∈ lw_tbl := by decide +kernel
theorem wsL_law_in : ∀ w ∈ wsL_law, w ∈ lw_tbl := mem_app (mem_app (mem_app (mem_app (mem_app (mem_app wsL_law_r1_in (mem_app wsL_law_r2_in (mem_app wsL_law_r3_in (mem_app wsL_law_r4_in (mem_app wsL_law_r5_in (mem_app wsL_law_r6_in (mem_app wsL_law_r7_in (mem_app wsL_law_r8_in (mem_app wsL_law_r9_in (mem_app wsL_law_r10_in (mem_app wsL_law_r11_in (mem_app wsL_law_r12_in (mem_app wsL_law_r13_in (mem_app wsL_law_r14_in (mem_app wsL_law_r15_in (mem_app wsL_law_r16_in (mem_app wsL_law_r17_in (wsL_law_r18_in)))))))))))))))))) wsX40_mm) wsX00_mm) wsX20_mm) wsX10_mm) (fun w h => absurd h List.not_mem_nil)
end
section
theorem inlX0 : ∀ w ∈ wsX00, w ∈ wsL_law := fun _ h => List.mem_append_left _ (List.mem_append_left _ (List.mem_append_left _ (List.mem_append_right _ h)))
theorem inX0 : ∀ w ∈ wsX00, w ∈ lw_tbl := fun w h => wsL_law_in w (inlX0 w h)
theorem inlX1 : ∀ w ∈ wsX10, w ∈ wsL_law := fun _ h => List.mem_append_left _ (List.mem_append_right _ h)
theorem inX1 : ∀ w ∈ wsX10, w ∈ lw_tbl := fun w h => wsL_law_in w (inlX1 w h)
theorem inlX2 : ∀ w ∈ wsX20, w ∈ wsL_law := fun _ h => List.mem_append_left _ (List.mem_append_left _ (List.mem_append_right _ h))
theorem inX2 : ∀ w ∈ wsX20, w ∈ lw_tbl := fun w h => wsL_law_in w (inlX2 w h)
theorem inX3 : ∀ w ∈ wsX30, w ∈ lw_tbl := by decide +kernel
theorem inlX4 : ∀ w ∈ wsX40, w ∈ wsL_law := fun _ h => List.mem_append_left _ (List.mem_append_left _ (List.mem_append_left _ (List.mem_append_left _ (List.mem_append_right _ h))))
theorem inX4 : ∀ w ∈ wsX40, w ∈ lw_tbl := fun w h => wsL_law_in w (inlX4 w h)
theorem inX5 : ∀ w ∈ wsX50, w ∈ lw_tbl := by decide +kernel
theorem inJ6 : ∀ w ∈ wsJ60, w ∈ lw_tbl := by decide +kernel
theorem inJ9 : ∀ w ∈ wsJ90, w ∈ lw_tbl := by decide +kernel
theorem inJ10 : ∀ w ∈ wsJ100, w ∈ lw_tbl := by decide +kernel
theorem dX0_init_0 : decode cX0_init 0 = .ok (.aload_n 0, 1) := by decide +kernel
theorem dX0_init_1 : decode cX0_init 1 = .ok (.invokespecial 3, 3) := by decide +kernel
theorem dX0_init_4 : decode cX0_init 4 = .ok (.aload_n 0, 1) := by decide +kernel
theorem dX0_init_5 : decode cX0_init 5 = .ok (.bipush 24, 2) := by decide +kernel
theorem dX0_init_7 : decode cX0_init 7 = .ok (.newarray .int, 2) := by decide +kernel
theorem dX0_init_9 : decode cX0_init 9 = .ok (.putfield 9, 3) := by decide +kernel
theorem dX0_init_12 : decode cX0_init 12 = .ok (.aload_n 0, 1) := by decide +kernel
theorem dX0_init_13 : decode cX0_init 13 = .ok (.bipush 7, 2) := by decide +kernel
theorem dX0_init_15 : decode cX0_init 15 = .ok (.newarray .int, 2) := by decide +kernel
theorem dX0_init_17 : decode cX0_init 17 = .ok (.putfield 15, 3) := by decide +kernel
theorem dX0_init_20 : decode cX0_init 20 = .ok (.aload_n 0, 1) := by decide +kernel
theorem dX0_init_21 : decode cX0_init 21 = .ok (.bipush 7, 2) := by decide +kernel
theorem dX0_init_23 : decode cX0_init 23 = .ok (.newarray .int, 2) := by decide +kernel
theorem dX0_init_25 : decode cX0_init 25 = .ok (.putfield 18, 3) := by decide +kernel
theorem dX0_init_28 : decode cX0_init 28 = .ok (.getstatic 21, 3) := by decide +kernel
theorem dX0_init_31 : decode cX0_init 31 = .ok (.iconst 0, 1) := by decide +kernel
theorem dX0_init_32 : decode cX0_init 32 = .ok (.aload_n 0, 1) := by decide +kernel
theorem dX0_init_33 : decode cX0_init 33 = .ok (.getfield 15, 3) := by decide +kernel
theorem dX0_init_36 : decode cX0_init 36 = .ok (.iconst 0, 1) := by decide +kernel
theorem dX0_init_37 : decode cX0_init 37 = .ok (.bipush 7, 2) := by decide +kernel
theorem dX0_init_39 : decode cX0_init 39 = .ok (.invokestatic 24, 3) := by decide +kernel
theorem dX0_init_42 : decode cX0_init 42 = .ok (.return_, 1) := by decide +kernel
theorem dX0_copyFrom_0 : decode cX0_copyFrom 0 = .ok (.aload_n 1, 1) := by decide +kernel
theorem dX0_copyFrom_1 : decode cX0_copyFrom 1 = .ok (.getfield 9, 3) := by decide +kernel
theorem dX0_copyFrom_4 : decode cX0_copyFrom 4 = .ok (.iconst 0, 1) := by decide +kernel
theorem dX0_copyFrom_5 : decode cX0_copyFrom 5 = .ok (.aload_n 0, 1) := by decide +kernel
theorem dX0_copyFrom_6 : decode cX0_copyFrom 6 = .ok (.getfield 9, 3) := by decide +kernel
theorem dX0_copyFrom_9 : decode cX0_copyFrom 9 = .ok (.iconst 0, 1) := by decide +kernel
theorem dX0_copyFrom_10 : decode cX0_copyFrom 10 = .ok (.bipush 24, 2) := by decide +kernel
theorem dX0_copyFrom_12 : decode cX0_copyFrom 12 = .ok (.invokestatic 24, 3) := by decide +kernel
theorem dX0_copyFrom_15 : decode cX0_copyFrom 15 = .ok (.aload_n 1, 1) := by decide +kernel
theorem dX0_copyFrom_16 : decode cX0_copyFrom 16 = .ok (.getfield 15, 3) := by decide +kernel
theorem dX0_copyFrom_19 : decode cX0_copyFrom 19 = .ok (.iconst 0, 1) := by decide +kernel
theorem dX0_copyFrom_20 : decode cX0_copyFrom 20 = .ok (.aload_n 0, 1) := by decide +kernel
theorem dX0_copyFrom_21 : decode cX0_copyFrom 21 = .ok (.getfield 15, 3) := by decide +kernel
theorem dX0_copyFrom_24 : decode cX0_copyFrom 24 = .ok (.iconst 0, 1) := by decide +kernel
theorem dX0_copyFrom_25 : decode cX0_copyFrom 25 = .ok (.bipush 7, 2) := by decide +kernel
theorem dX0_copyFrom_27 : decode cX0_copyFrom 27 = .ok (.invokestatic 24, 3) := by decide +kernel
theorem dX0_copyFrom_30 : decode cX0_copyFrom 30 = .ok (.aload_n 1, 1) := by decide +kernel
theorem dX0_copyFrom_31 : decode cX0_copyFrom 31 = .ok (.getfield 18, 3) := by decide +kernel
theorem dX0_copyFrom_34 : decode cX0_copyFrom 34 = .ok (.iconst 0, 1) := by decide +kernel
theorem dX0_copyFrom_35 : decode cX0_copyFrom 35 = .ok (.aload_n 0, 1) := by decide +kernel
theorem dX0_copyFrom_36 : decode cX0_copyFrom 36 = .ok (.getfield 18, 3) := by decide +kernel
theorem dX0_copyFrom_39 : decode cX0_copyFrom 39 = .ok (.iconst 0, 1) := by decide +kernel
theorem dX0_copyFrom_40 : decode cX0_copyFrom 40 = .ok (.bipush 7, 2) := by decide +kernel
theorem dX0_copyFrom_42 : decode cX0_copyFrom 42 = .ok (.invokestatic 24, 3) := by decide +kernel
theorem dX0_copyFrom_45 : decode cX0_copyFrom 45 = .ok (.aload_n 0, 1) := by decide +kernel
theorem dX0_copyFrom_46 : decode cX0_copyFrom 46 = .ok (.aload_n 1, 1) := by decide +kernel
theorem dX0_copyFrom_47 : decode cX0_copyFrom 47 = .ok (.getfield 30, 3) := by decide +kernel
theorem dX0_copyFrom_50 : decode cX0_copyFrom 50 = .ok (.putfield 30, 3) := by decide +kernel
theorem dX0_copyFrom_53 : decode cX0_copyFrom 53 = .ok (.aload_n 0, 1) := by decide +kernel
theorem dX0_copyFrom_54 : decode cX0_copyFrom 54 = .ok (.aload_n 1, 1) := by decide +kernel
theorem dX0_copyFrom_55 : decode cX0_copyFrom 55 = .ok (.getfield 34, 3) := by decide +kernel
theorem dX0_copyFrom_58 : decode cX0_copyFrom 58 = .ok (.putfield 34, 3) := by decide +kernel
theorem dX0_copyFrom_61 : decode cX0_copyFrom 61 = .ok (.aload_n 0, 1) := by decide +kernel
theorem dX0_copyFrom_62 : decode cX0_copyFrom 62 = .ok (.aload_n 1, 1) := by decide +kernel
theorem dX0_copyFrom_63 : decode cX0_copyFrom 63 = .ok (.getfield 37, 3) := by decide +kernel
theorem dX0_copyFrom_66 : decode cX0_copyFrom 66 = .ok (.putfield 37, 3) := by decide +kernel
theorem dX0_copyFrom_69 : decode cX0_copyFrom 69 = .ok (.aload_n 0, 1) := by decide +kernel
theorem dX0_copyFrom_70 : decode cX0_copyFrom 70 = .ok (.aload_n 1, 1) := by decide +kernel
theorem dX0_copyFrom_71 : decode cX0_copyFrom 71 = .ok (.getfield 40, 3) := by decide +kernel
theorem dX0_copyFrom_74 : decode cX0_copyFrom 74 = .ok (.putfield 40, 3) := by decide +kernel
theorem dX0_copyFrom_77 : decode cX0_copyFrom 77 = .ok (.aload_n 0, 1) := by decide +kernel
theorem dX0_copyFrom_78 : decode cX0_copyFrom 78 = .ok (.aload_n 1, 1) := by decide +kernel
theorem dX0_copyFrom_79 : decode cX0_copyFrom 79 = .ok (.getfield 43, 3) := by decide +kernel
theorem dX0_copyFrom_82 : decode cX0_copyFrom 82 = .ok (.putfield 43, 3) := by decide +kernel
theorem dX0_copyFrom_85 : decode cX0_copyFrom 85 = .ok (.aload_n 0, 1) := by decide +kernel
theorem dX0_copyFrom_86 : decode cX0_copyFrom 86 = .ok (.aload_n 1, 1) := by decide +kernel
theorem dX0_copyFrom_87 : decode cX0_copyFrom 87 = .ok (.getfield 46, 3) := by decide +kernel
theorem dX0_copyFrom_90 : decode cX0_copyFrom 90 = .ok (.putfield 46, 3) := by decide +kernel
theorem dX0_copyFrom_93 : decode cX0_copyFrom 93 = .ok (.aload_n 0, 1) := by decide +kernel
theorem dX0_copyFrom_94 : decode cX0_copyFrom 94 = .ok (.aload_n 1, 1) := by decide +kernel
theorem dX0_copyFrom_95 : decode cX0_copyFrom 95 = .ok (.getfield 49, 3) := by decide +kernel
theorem dX0_copyFrom_98 : decode cX0_copyFrom 98 = .ok (.putfield 49, 3) := by decide +kernel
theorem dX0_copyFrom_101 : decode cX0_copyFrom 101 = .ok (.return_, 1) := by decide +kernel
theorem dX0_hasRow_0 : decode cX0_hasRow 0 = .ok (.iload_n 1, 1) := by decide +kernel
theorem dX0_hasRow_1 : decode cX0_hasRow 1 = .ok (.ifCond .lt 15, 3) := by decide +kernel
theorem dX0_hasRow_4 : decode cX0_hasRow 4 = .ok (.iload_n 1, 1) := by decide +kernel
theorem dX0_hasRow_5 : decode cX0_hasRow 5 = .ok (.aload_n 0, 1) := by decide +kernel
theorem dX0_hasRow_6 : decode cX0_hasRow 6 = .ok (.getfield 30, 3) := by decide +kernel
theorem dX0_hasRow_9 : decode cX0_hasRow 9 = .ok (.if_icmp .ge 7, 3) := by decide +kernel
theorem dX0_hasRow_12 : decode cX0_hasRow 12 = .ok (.iconst 1, 1) := by decide +kernel
theorem dX0_hasRow_13 : decode cX0_hasRow 13 = .ok (.goto 4, 3) := by decide +kernel
theorem dX0_hasRow_16 : decode cX0_hasRow 16 = .ok (.iconst 0, 1) := by decide +kernel
theorem dX0_hasRow_17 : decode cX0_hasRow 17 = .ok (.ireturn, 1) := by decide +kernel
theorem dX0_bring_0 : decode cX0_bring 0 = .ok (.aload_n 0, 1) := by decide +kernel
theorem dX0_bring_1 : decode cX0_bring 1 = .ok (.getfield 18, 3) := by decide +kernel
theorem dX0_bring_4 : decode cX0_bring 4 = .ok (.iconst 0, 1) := by decide +kernel
theorem dX0_bring_5 : decode cX0_bring 5 = .ok (.dup2, 1) := by decide +kernel
theorem dX0_bring_6 : decode cX0_bring 6 = .ok (.iaload, 1) := by decide +kernel
theorem dX0_bring_7 : decode cX0_bring 7 = .ok (.iload_n 1, 1) := by decide +kernel
theorem dX0_bring_8 : decode cX0_bring 8 = .ok (.iadd, 1) := by decide +kernel
theorem dX0_bring_9 : decode cX0_bring 9 = .ok (.iastore, 1) := by decide +kernel
theorem dX0_bring_10 : decode cX0_bring 10 = .ok (.aload_n 0, 1) := by decide +kernel
theorem dX0_bring_11 : decode cX0_bring 11 = .ok (.getfield 18, 3) := by decide +kernel
theorem dX0_bring_14 : decode cX0_bring 14 = .ok (.iconst 1, 1) := by decide +kernel
theorem dX0_bring_15 : decode cX0_bring 15 = .ok (.dup2, 1) := by decide +kernel
theorem dX0_bring_16 : decode cX0_bring 16 = .ok (.iaload, 1) := by decide +kernel
theorem dX0_bring_17 : decode cX0_bring 17 = .ok (.iload_n 1, 1) := by decide +kernel
theorem dX0_bring_18 : decode cX0_bring 18 = .ok (.iadd, 1) := by decide +kernel
theorem dX0_bring_19 : decode cX0_bring 19 = .ok (.iastore, 1) := by decide +kernel
theorem dX0_bring_20 : decode cX0_bring 20 = .ok (.return_, 1) := by decide +kernel
theorem dX0_move_0 : decode cX0_move 0 = .ok (.aload_n 0, 1) := by decide +kernel
theorem dX0_move_1 : decode cX0_move 1 = .ok (.getfield 18, 3) := by decide +kernel
theorem dX0_move_4 : decode cX0_move 4 = .ok (.iload_n 1, 1) := by decide +kernel
theorem dX0_move_5 : decode cX0_move 5 = .ok (.dup2, 1) := by decide +kernel
theorem dX0_move_6 : decode cX0_move 6 = .ok (.iaload, 1) := by decide +kernel
theorem dX0_move_7 : decode cX0_move 7 = .ok (.iload_n 3, 1) := by decide +kernel
theorem dX0_move_8 : decode cX0_move 8 = .ok (.isub, 1) := by decide +kernel
theorem dX0_move_9 : decode cX0_move 9 = .ok (.iastore, 1) := by decide +kernel
theorem dX0_move_10 : decode cX0_move 10 = .ok (.aload_n 0, 1) := by decide +kernel
theorem dX0_move_11 : decode cX0_move 11 = .ok (.getfield 18, 3) := by decide +kernel
theorem dX0_move_14 : decode cX0_move 14 = .ok (.iload_n 2, 1) := by decide +kernel
theorem dX0_move_15 : decode cX0_move 15 = .ok (.dup2, 1) := by decide +kernel
theorem dX0_move_16 : decode cX0_move 16 = .ok (.iaload, 1) := by decide +kernel
theorem dX0_move_17 : decode cX0_move 17 = .ok (.iload_n 3, 1) := by decide +kernel
theorem dX0_move_18 : decode cX0_move 18 = .ok (.iadd, 1) := by decide +kernel
theorem dX0_move_19 : decode cX0_move 19 = .ok (.iastore, 1) := by decide +kernel
theorem dX0_move_20 : decode cX0_move 20 = .ok (.return_, 1) := by decide +kernel
set_option maxRecDepth 20000 in
theorem ggX0_appendRow_X0_bring : GoodIn wsX0_appendRow wsX0_bring := goodIn_r _ [7, 8, 9, 10, 11, 12, 13, 14, 15, 16, 17, 18] (by decide +kernel) (by decide +kernel)
set_option maxRecDepth 20000 in
theorem gX0_appendRow_X0_bring : GoodIn wsX0_appendRow (wsV RX0 52 RX0 yX0_bring wsX0_bring) := goodIn_app (goodIn_of _ (by decide +kernel)) ggX0_appendRow_X0_bring
theorem dX0_appendRow_0 : decode cX0_appendRow 0 = .ok (.aload_n 0, 1) := by decide +kernel
theorem dX0_appendRow_1 : decode cX0_appendRow 1 = .ok (.getfield 30, 3) := by decide +kernel
theorem dX0_appendRow_4 : decode cX0_appendRow 4 = .ok (.bipush 24, 2) := by decide +kernel
theorem dX0_appendRow_6 : decode cX0_appendRow 6 = .ok (.if_icmp .ge 28, 3) := by decide +kernel
theorem dX0_appendRow_9 : decode cX0_appendRow 9 = .ok (.aload_n 0, 1) := by decide +kernel
theorem dX0_appendRow_10 : decode cX0_appendRow 10 = .ok (.getfield 9, 3) := by decide +kernel
theorem dX0_appendRow_13 : decode cX0_appendRow 13 = .ok (.aload_n 0, 1) := by decide +kernel
theorem dX0_appendRow_14 : decode cX0_appendRow 14 = .ok (.getfield 30, 3) := by decide +kernel
theorem dX0_appendRow_17 : decode cX0_appendRow 17 = .ok (.iload_n 1, 1) := by decide +kernel
theorem dX0_appendRow_18 : decode cX0_appendRow 18 = .ok (.iastore, 1) := by decide +kernel
theorem dX0_appendRow_19 : decode cX0_appendRow 19 = .ok (.aload_n 0, 1) := by decide +kernel
theorem dX0_appendRow_20 : decode cX0_appendRow 20 = .ok (.dup, 1) := by decide +kernel
theorem dX0_appendRow_21 : decode cX0_appendRow 21 = .ok (.getfield 30, 3) := by decide +kernel
theorem dX0_appendRow_24 : decode cX0_appendRow 24 = .ok (.iconst 1, 1) := by decide +kernel
theorem dX0_appendRow_25 : decode cX0_appendRow 25 = .ok (.iadd, 1) := by decide +kernel
theorem dX0_appendRow_26 : decode cX0_appendRow 26 = .ok (.putfield 30, 3) := by decide +kernel
theorem dX0_appendRow_29 : decode cX0_appendRow 29 = .ok (.aload_n 0, 1) := by decide +kernel
theorem dX0_appendRow_30 : decode cX0_appendRow 30 = .ok (.iload_n 1, 1) := by decide +kernel
theorem dX0_appendRow_31 : decode cX0_appendRow 31 = .ok (.invokevirtual 52, 3) := by decide +kernel
theorem dX0_appendRow_34 : decode cX0_appendRow 34 = .ok (.return_, 1) := by decide +kernel
set_option maxRecDepth 20000 in
theorem ggX0_takeAway_X0_endFilm : GoodIn wsX0_takeAway wsX0_endFilm := goodIn_r _ [5, 6, 7, 8, 9, 10, 4, 11, 12, 13, 14, 15, 16, 17, 18, 19, 20, 21] (by decide +kernel) (by decide +kernel)
set_option maxRecDepth 20000 in
theorem gX0_takeAway_X0_endFilm : GoodIn wsX0_takeAway (wsV RX0 56 RX0 yX0_endFilm wsX0_endFilm) := goodIn_app (goodIn_of _ (by decide +kernel)) ggX0_takeAway_X0_endFilm
theorem dX0_takeAway_0 : decode cX0_takeAway 0 = .ok (.aload_n 0, 1) := by decide +kernel
theorem dX0_takeAway_1 : decode cX0_takeAway 1 = .ok (.bipush 6, 2) := by decide +kernel
theorem dX0_takeAway_3 : decode cX0_takeAway 3 = .ok (.invokevirtual 56, 3) := by decide +kernel
theorem dX0_takeAway_6 : decode cX0_takeAway 6 = .ok (.return_, 1) := by decide +kernel
set_option maxRecDepth 20000 in
theorem ggX0_endFilm_X0_move : GoodIn wsX0_endFilm wsX0_move := goodIn_r _ [7, 1, 8, 9, 10, 11, 12, 13, 14, 15, 16, 17] (by decide +kernel) (by decide +kernel)
set_option maxRecDepth 20000 in
theorem gX0_endFilm_X0_move : GoodIn wsX0_endFilm (wsV RX0 59 RX0 yX0_move wsX0_move) := goodIn_app (goodIn_of _ (by decide +kernel)) ggX0_endFilm_X0_move
theorem dX0_endFilm_0 : decode cX0_endFilm 0 = .ok (.aload_n 0, 1) := by decide +kernel
theorem dX0_endFilm_1 : decode cX0_endFilm 1 = .ok (.iconst 1, 1) := by decide +kernel
theorem dX0_endFilm_2 : decode cX0_endFilm 2 = .ok (.iload_n 1, 1) := by decide +kernel
theorem dX0_endFilm_3 : decode cX0_endFilm 3 = .ok (.aload_n 0, 1) := by decide +kernel
theorem dX0_endFilm_4 : decode cX0_endFilm 4 = .ok (.getfield 18, 3) := by decide +kernel
theorem dX0_endFilm_7 : decode cX0_endFilm 7 = .ok (.iconst 1, 1) := by decide +kernel
theorem dX0_endFilm_8 : decode cX0_endFilm 8 = .ok (.iaload, 1) := by decide +kernel
theorem dX0_endFilm_9 : decode cX0_endFilm 9 = .ok (.invokevirtual 59, 3) := by decide +kernel
theorem dX0_endFilm_12 : decode cX0_endFilm 12 = .ok (.aload_n 0, 1) := by decide +kernel
theorem dX0_endFilm_13 : decode cX0_endFilm 13 = .ok (.iconst 0, 1) := by decide +kernel
theorem dX0_endFilm_14 : decode cX0_endFilm 14 = .ok (.putfield 30, 3) := by decide +kernel
theorem dX0_endFilm_17 : decode cX0_endFilm 17 = .ok (.return_, 1) := by decide +kernel
set_option maxRecDepth 20000 in
theorem ggX0_loseFrom_X0_move : GoodIn wsX0_loseFrom wsX0_move := goodIn_r _ [10, 11, 12, 13, 14, 15, 16, 17, 18, 19, 20, 21] (by decide +kernel) (by decide +kernel)
set_option maxRecDepth 20000 in
theorem gX0_loseFrom_X0_move : GoodIn wsX0_loseFrom (wsV RX0 59 RX0 yX0_move wsX0_move) := goodIn_app (goodIn_of _ (by decide +kernel)) ggX0_loseFrom_X0_move
theorem dX0_loseFrom_0 : decode cX0_loseFrom 0 = .ok (.iload_n 2, 1) := by decide +kernel
theorem dX0_loseFrom_1 : decode cX0_loseFrom 1 = .ok (.aload_n 0, 1) := by decide +kernel
theorem dX0_loseFrom_2 : decode cX0_loseFrom 2 = .ok (.getfield 9, 3) := by decide +kernel
theorem dX0_loseFrom_5 : decode cX0_loseFrom 5 = .ok (.iload_n 1, 1) := by decide +kernel
theorem dX0_loseFrom_6 : decode cX0_loseFrom 6 = .ok (.iaload, 1) := by decide +kernel
theorem dX0_loseFrom_7 : decode cX0_loseFrom 7 = .ok (.invokestatic 63, 3) := by decide +kernel
theorem dX0_loseFrom_10 : decode cX0_loseFrom 10 = .ok (.istore 4, 2) := by decide +kernel
theorem dX0_loseFrom_12 : decode cX0_loseFrom 12 = .ok (.aload_n 0, 1) := by decide +kernel
theorem dX0_loseFrom_13 : decode cX0_loseFrom 13 = .ok (.getfield 9, 3) := by decide +kernel
theorem dX0_loseFrom_16 : decode cX0_loseFrom 16 = .ok (.iload_n 1, 1) := by decide +kernel
theorem dX0_loseFrom_17 : decode cX0_loseFrom 17 = .ok (.dup2, 1) := by decide +kernel
theorem dX0_loseFrom_18 : decode cX0_loseFrom 18 = .ok (.iaload, 1) := by decide +kernel
theorem dX0_loseFrom_19 : decode cX0_loseFrom 19 = .ok (.iload 4, 2) := by decide +kernel
theorem dX0_loseFrom_21 : decode cX0_loseFrom 21 = .ok (.isub, 1) := by decide +kernel
theorem dX0_loseFrom_22 : decode cX0_loseFrom 22 = .ok (.iastore, 1) := by decide +kernel
theorem dX0_loseFrom_23 : decode cX0_loseFrom 23 = .ok (.aload_n 0, 1) := by decide +kernel
theorem dX0_loseFrom_24 : decode cX0_loseFrom 24 = .ok (.iconst 1, 1) := by decide +kernel
theorem dX0_loseFrom_25 : decode cX0_loseFrom 25 = .ok (.iload_n 3, 1) := by decide +kernel
theorem dX0_loseFrom_26 : decode cX0_loseFrom 26 = .ok (.iload 4, 2) := by decide +kernel
theorem dX0_loseFrom_28 : decode cX0_loseFrom 28 = .ok (.invokevirtual 59, 3) := by decide +kernel
theorem dX0_loseFrom_31 : decode cX0_loseFrom 31 = .ok (.iload 4, 2) := by decide +kernel
theorem dX0_loseFrom_33 : decode cX0_loseFrom 33 = .ok (.ireturn, 1) := by decide +kernel
set_option maxRecDepth 20000 in
theorem ggX0_colourAt_X3_colour : GoodIn wsX0_colourAt wsX3_colour := goodIn_r _ [6, 7, 8, 5, 9, 10, 11, 12, 13, 14, 15, 16, 17, 18, 19, 20, 21] (by decide +kernel) (by decide +kernel)
set_option maxRecDepth 20000 in
theorem gX0_colourAt_X3_colour : GoodIn wsX0_colourAt (va_wsS RX0 69 yX3_colour wsX3_colour) := goodIn_app (goodIn_of _ (by decide +kernel)) ggX0_colourAt_X3_colour
theorem dX0_colourAt_0 : decode cX0_colourAt 0 = .ok (.aload_n 0, 1) := by decide +kernel
theorem dX0_colourAt_1 : decode cX0_colourAt 1 = .ok (.getfield 9, 3) := by decide +kernel
theorem dX0_colourAt_4 : decode cX0_colourAt 4 = .ok (.iload_n 1, 1) := by decide +kernel
theorem dX0_colourAt_5 : decode cX0_colourAt 5 = .ok (.iaload, 1) := by decide +kernel
theorem dX0_colourAt_6 : decode cX0_colourAt 6 = .ok (.aload_n 0, 1) := by decide +kernel
theorem dX0_colourAt_7 : decode cX0_colourAt 7 = .ok (.getfield 15, 3) := by decide +kernel
theorem dX0_colourAt_10 : decode cX0_colourAt 10 = .ok (.iconst 3, 1) := by decide +kernel
theorem dX0_colourAt_11 : decode cX0_colourAt 11 = .ok (.iaload, 1) := by decide +kernel
theorem dX0_colourAt_12 : decode cX0_colourAt 12 = .ok (.invokestatic 69, 3) := by decide +kernel
theorem dX0_colourAt_15 : decode cX0_colourAt 15 = .ok (.ireturn, 1) := by decide +kernel
theorem dX0_isBlack_0 : decode cX0_isBlack 0 = .ok (.aload_n 0, 1) := by decide +kernel
theorem dX0_isBlack_1 : decode cX0_isBlack 1 = .ok (.getfield 9, 3) := by decide +kernel
theorem dX0_isBlack_4 : decode cX0_isBlack 4 = .ok (.iload_n 1, 1) := by decide +kernel
theorem dX0_isBlack_5 : decode cX0_isBlack 5 = .ok (.iaload, 1) := by decide +kernel
theorem dX0_isBlack_6 : decode cX0_isBlack 6 = .ok (.aload_n 0, 1) := by decide +kernel
theorem dX0_isBlack_7 : decode cX0_isBlack 7 = .ok (.getfield 15, 3) := by decide +kernel
theorem dX0_isBlack_10 : decode cX0_isBlack 10 = .ok (.iconst 3, 1) := by decide +kernel
theorem dX0_isBlack_11 : decode cX0_isBlack 11 = .ok (.iaload, 1) := by decide +kernel
theorem dX0_isBlack_12 : decode cX0_isBlack 12 = .ok (.if_icmp .ge 7, 3) := by decide +kernel
theorem dX0_isBlack_15 : decode cX0_isBlack 15 = .ok (.iconst 1, 1) := by decide +kernel
theorem dX0_isBlack_16 : decode cX0_isBlack 16 = .ok (.goto 4, 3) := by decide +kernel
theorem dX0_isBlack_19 : decode cX0_isBlack 19 = .ok (.iconst 0, 1) := by decide +kernel
theorem dX0_isBlack_20 : decode cX0_isBlack 20 = .ok (.ireturn, 1) := by decide +kernel
set_option maxRecDepth 20000 in
theorem ggX0_startsColour_X0_colourAt : GoodIn wsX0_startsColour wsX0_colourAt := goodIn_r _ [5, 6, 7, 8, 9, 10, 11, 12, 13, 14, 15, 16, 17, 18, 19, 20, 21, 22, 23, 24, 25, 26, 27, 28, 29, 30, 31, 32, 33, 34, 35, 36] (by decide +kernel) (by decide +kernel)
set_option maxRecDepth 20000 in
theorem gX0_startsColour_X0_colourAt : GoodIn wsX0_startsColour (wsV RX0 74 RX0 yX0_colourAt wsX0_colourAt) := goodIn_app (goodIn_of _ (by decide +kernel)) ggX0_startsColour_X0_colourAt
theorem dX0_startsColour_0 : decode cX0_startsColour 0 = .ok (.iload_n 1, 1) := by decide +kernel
theorem dX0_startsColour_1 : decode cX0_startsColour 1 = .ok (.ifCond .eq 18, 3) := by decide +kernel
theorem dX0_startsColour_4 : decode cX0_startsColour 4 = .ok (.aload_n 0, 1) := by decide +kernel
theorem dX0_startsColour_5 : decode cX0_startsColour 5 = .ok (.iload_n 1, 1) := by decide +kernel
theorem dX0_startsColour_6 : decode cX0_startsColour 6 = .ok (.invokevirtual 74, 3) := by decide +kernel
theorem dX0_startsColour_9 : decode cX0_startsColour 9 = .ok (.aload_n 0, 1) := by decide +kernel
theorem dX0_startsColour_10 : decode cX0_startsColour 10 = .ok (.iload_n 1, 1) := by decide +kernel
theorem dX0_startsColour_11 : decode cX0_startsColour 11 = .ok (.iconst 1, 1) := by decide +kernel
theorem dX0_startsColour_12 : decode cX0_startsColour 12 = .ok (.isub, 1) := by decide +kernel
theorem dX0_startsColour_13 : decode cX0_startsColour 13 = .ok (.invokevirtual 74, 3) := by decide +kernel
theorem dX0_startsColour_16 : decode cX0_startsColour 16 = .ok (.if_icmp .eq 7, 3) := by decide +kernel
theorem dX0_startsColour_19 : decode cX0_startsColour 19 = .ok (.iconst 1, 1) := by decide +kernel
theorem dX0_startsColour_20 : decode cX0_startsColour 20 = .ok (.goto 4, 3) := by decide +kernel
theorem dX0_startsColour_23 : decode cX0_startsColour 23 = .ok (.iconst 0, 1) := by decide +kernel
theorem dX0_startsColour_24 : decode cX0_startsColour 24 = .ok (.ireturn, 1) := by decide +kernel
set_option maxRecDepth 20000 in
theorem ggX0_blackRows_X0_isBlack : GoodIn wsX0_blackRows wsX0_isBlack := goodIn_r _ [6, 7, 8, 9, 10, 11, 12, 13, 14, 15, 16, 17, 18] (by decide +kernel) (by decide +kernel)
set_option maxRecDepth 20000 in
theorem gX0_blackRows_X0_isBlack : GoodIn wsX0_blackRows (wsV RX0 78 RX0 yX0_isBlack wsX0_isBlack) := goodIn_app (goodIn_of _ (by decide +kernel)) ggX0_blackRows_X0_isBlack
theorem dX0_blackRows_0 : decode cX0_blackRows 0 = .ok (.iconst 0, 1) := by decide +kernel
theorem dX0_blackRows_1 : decode cX0_blackRows 1 = .ok (.istore_n 1, 1) := by decide +kernel
theorem dX0_blackRows_2 : decode cX0_blackRows 2 = .ok (.iconst 0, 1) := by decide +kernel
theorem dX0_blackRows_3 : decode cX0_blackRows 3 = .ok (.istore_n 2, 1) := by decide +kernel
theorem dX0_blackRows_4 : decode cX0_blackRows 4 = .ok (.iload_n 2, 1) := by decide +kernel
theorem dX0_blackRows_5 : decode cX0_blackRows 5 = .ok (.aload_n 0, 1) := by decide +kernel
theorem dX0_blackRows_6 : decode cX0_blackRows 6 = .ok (.getfield 30, 3) := by decide +kernel
theorem dX0_blackRows_9 : decode cX0_blackRows 9 = .ok (.if_icmp .ge 20, 3) := by decide +kernel
theorem dX0_blackRows_12 : decode cX0_blackRows 12 = .ok (.aload_n 0, 1) := by decide +kernel
theorem dX0_blackRows_13 : decode cX0_blackRows 13 = .ok (.iload_n 2, 1) := by decide +kernel
theorem dX0_blackRows_14 : decode cX0_blackRows 14 = .ok (.invokevirtual 78, 3) := by decide +kernel
theorem dX0_blackRows_17 : decode cX0_blackRows 17 = .ok (.ifCond .eq 6, 3) := by decide +kernel
theorem dX0_blackRows_20 : decode cX0_blackRows 20 = .ok (.iinc 1 1, 3) := by decide +kernel
theorem dX0_blackRows_23 : decode cX0_blackRows 23 = .ok (.iinc 2 1, 3) := by decide +kernel
theorem dX0_blackRows_26 : decode cX0_blackRows 26 = .ok (.goto (-22), 3) := by decide +kernel
theorem dX0_blackRows_29 : decode cX0_blackRows 29 = .ok (.iload_n 1, 1) := by decide +kernel
theorem dX0_blackRows_30 : decode cX0_blackRows 30 = .ok (.ireturn, 1) := by decide +kernel
set_option maxRecDepth 20000 in
theorem ggX0_fringes_X0_startsColour : GoodIn wsX0_fringes wsX0_startsColour := goodIn_r _ [6, 7, 8, 9, 5, 10, 11, 12, 13, 14, 15, 16, 17, 18, 19, 20, 21, 22, 23, 24, 25, 26, 27, 28, 29, 30, 31, 32, 33, 34, 35, 36, 37, 38, 39, 40, 41] (by decide +kernel) (by decide +kernel)
set_option maxRecDepth 20000 in
theorem gX0_fringes_X0_startsColour : GoodIn wsX0_fringes (wsV RX0 82 RX0 yX0_startsColour wsX0_startsColour) := goodIn_app (goodIn_of _ (by decide +kernel)) ggX0_fringes_X0_startsColour
theorem dX0_fringes_0 : decode cX0_fringes 0 = .ok (.iconst 0, 1) := by decide +kernel
theorem dX0_fringes_1 : decode cX0_fringes 1 = .ok (.istore_n 1, 1) := by decide +kernel
theorem dX0_fringes_2 : decode cX0_fringes 2 = .ok (.iconst 1, 1) := by decide +kernel
theorem dX0_fringes_3 : decode cX0_fringes 3 = .ok (.istore_n 2, 1) := by decide +kernel
theorem dX0_fringes_4 : decode cX0_fringes 4 = .ok (.iload_n 2, 1) := by decide +kernel
theorem dX0_fringes_5 : decode cX0_fringes 5 = .ok (.aload_n 0, 1) := by decide +kernel
theorem dX0_fringes_6 : decode cX0_fringes 6 = .ok (.getfield 30, 3) := by decide +kernel
theorem dX0_fringes_9 : decode cX0_fringes 9 = .ok (.if_icmp .ge 20, 3) := by decide +kernel
theorem dX0_fringes_12 : decode cX0_fringes 12 = .ok (.aload_n 0, 1) := by decide +kernel
theorem dX0_fringes_13 : decode cX0_fringes 13 = .ok (.iload_n 2, 1) := by decide +kernel
theorem dX0_fringes_14 : decode cX0_fringes 14 = .ok (.invokevirtual 82, 3) := by decide +kernel
theorem dX0_fringes_17 : decode cX0_fringes 17 = .ok (.ifCond .eq 6, 3) := by decide +kernel
theorem dX0_fringes_20 : decode cX0_fringes 20 = .ok (.iinc 1 1, 3) := by decide +kernel
theorem dX0_fringes_23 : decode cX0_fringes 23 = .ok (.iinc 2 1, 3) := by decide +kernel
theorem dX0_fringes_26 : decode cX0_fringes 26 = .ok (.goto (-22), 3) := by decide +kernel
theorem dX0_fringes_29 : decode cX0_fringes 29 = .ok (.iload_n 1, 1) := by decide +kernel
theorem dX0_fringes_30 : decode cX0_fringes 30 = .ok (.ireturn, 1) := by decide +kernel
set_option maxRecDepth 20000 in
theorem ggX0_differentColours_X0_colourAt : GoodIn wsX0_differentColours wsX0_colourAt := goodIn_r _ [6, 7, 8, 9, 10, 11, 12, 13, 14, 15, 16, 17, 18, 19, 20, 21, 22, 23, 24, 25, 26, 27, 35, 36, 37, 38, 39, 40, 41, 42, 43, 44] (by decide +kernel) (by decide +kernel)
set_option maxRecDepth 20000 in
theorem gX0_differentColours_X0_colourAt : GoodIn wsX0_differentColours (wsV RX0 74 RX0 yX0_colourAt wsX0_colourAt) := goodIn_app (goodIn_of _ (by decide +kernel)) ggX0_differentColours_X0_colourAt
set_option maxRecDepth 20000 in
theorem ggX0_differentColours_J6_bitCount_0f7a4 : GoodIn wsX0_differentColours wsJ6_bitCount_0f7a4 := goodIn_r _ [31, 32, 33, 34] (by decide +kernel) (by decide +kernel)
set_option maxRecDepth 20000 in
theorem gX0_differentColours_J6_bitCount_0f7a4 : GoodIn wsX0_differentColours (va_wsS RX0 85 yJ6_bitCount_0f7a4 wsJ6_bitCount_0f7a4) := goodIn_app (goodIn_of _ (by decide +kernel)) ggX0_differentColours_J6_bitCount_0f7a4
theorem dX0_differentColours_0 : decode cX0_differentColours 0 = .ok (.iconst 0, 1) := by decide +kernel
theorem dX0_differentColours_1 : decode cX0_differentColours 1 = .ok (.istore_n 1, 1) := by decide +kernel
theorem dX0_differentColours_2 : decode cX0_differentColours 2 = .ok (.iconst 0, 1) := by decide +kernel
theorem dX0_differentColours_3 : decode cX0_differentColours 3 = .ok (.istore_n 2, 1) := by decide +kernel
theorem dX0_differentColours_4 : decode cX0_differentColours 4 = .ok (.iload_n 2, 1) := by decide +kernel
theorem dX0_differentColours_5 : decode cX0_differentColours 5 = .ok (.aload_n 0, 1) := by decide +kernel
theorem dX0_differentColours_6 : decode cX0_differentColours 6 = .ok (.getfield 30, 3) := by decide +kernel
theorem dX0_differentColours_9 : decode cX0_differentColours 9 = .ok (.if_icmp .ge 19, 3) := by decide +kernel
theorem dX0_differentColours_12 : decode cX0_differentColours 12 = .ok (.iload_n 1, 1) := by decide +kernel
theorem dX0_differentColours_13 : decode cX0_differentColours 13 = .ok (.iconst 1, 1) := by decide +kernel
theorem dX0_differentColours_14 : decode cX0_differentColours 14 = .ok (.aload_n 0, 1) := by decide +kernel
theorem dX0_differentColours_15 : decode cX0_differentColours 15 = .ok (.iload_n 2, 1) := by decide +kernel
theorem dX0_differentColours_16 : decode cX0_differentColours 16 = .ok (.invokevirtual 74, 3) := by decide +kernel
theorem dX0_differentColours_19 : decode cX0_differentColours 19 = .ok (.ishl, 1) := by decide +kernel
theorem dX0_differentColours_20 : decode cX0_differentColours 20 = .ok (.ior, 1) := by decide +kernel
theorem dX0_differentColours_21 : decode cX0_differentColours 21 = .ok (.istore_n 1, 1) := by decide +kernel
theorem dX0_differentColours_22 : decode cX0_differentColours 22 = .ok (.iinc 2 1, 3) := by decide +kernel
theorem dX0_differentColours_25 : decode cX0_differentColours 25 = .ok (.goto (-21), 3) := by decide +kernel
theorem dX0_differentColours_28 : decode cX0_differentColours 28 = .ok (.iload_n 1, 1) := by decide +kernel
theorem dX0_differentColours_29 : decode cX0_differentColours 29 = .ok (.invokestatic 85, 3) := by decide +kernel
theorem dX0_differentColours_32 : decode cX0_differentColours 32 = .ok (.ireturn, 1) := by decide +kernel
set_option maxRecDepth 20000 in
theorem ggX0_greatestOrder_X3_path : GoodIn wsX0_greatestOrder wsX3_path := goodIn_r _ [10] (by decide +kernel) (by decide +kernel)
set_option maxRecDepth 20000 in
theorem gX0_greatestOrder_X3_path : GoodIn wsX0_greatestOrder (va_wsS RX0 90 yX3_path wsX3_path) := goodIn_app (goodIn_of _ (by decide +kernel)) ggX0_greatestOrder_X3_path
set_option maxRecDepth 20000 in
theorem ggX0_greatestOrder_X3_order : GoodIn wsX0_greatestOrder wsX3_order := goodIn_r _ [13] (by decide +kernel) (by decide +kernel)
set_option maxRecDepth 20000 in
theorem gX0_greatestOrder_X3_order : GoodIn wsX0_greatestOrder (va_wsS RX0 93 yX3_order wsX3_order) := goodIn_app (goodIn_of _ (by decide +kernel)) ggX0_greatestOrder_X3_order
theorem dX0_greatestOrder_0 : decode cX0_greatestOrder 0 = .ok (.iconst 0, 1) := by decide +kernel
theorem dX0_greatestOrder_1 : decode cX0_greatestOrder 1 = .ok (.istore_n 1, 1) := by decide +kernel
theorem dX0_greatestOrder_2 : decode cX0_greatestOrder 2 = .ok (.iconst 0, 1) := by decide +kernel
theorem dX0_greatestOrder_3 : decode cX0_greatestOrder 3 = .ok (.istore_n 2, 1) := by decide +kernel
theorem dX0_greatestOrder_4 : decode cX0_greatestOrder 4 = .ok (.iload_n 2, 1) := by decide +kernel
theorem dX0_greatestOrder_5 : decode cX0_greatestOrder 5 = .ok (.aload_n 0, 1) := by decide +kernel
theorem dX0_greatestOrder_6 : decode cX0_greatestOrder 6 = .ok (.getfield 30, 3) := by decide +kernel
theorem dX0_greatestOrder_9 : decode cX0_greatestOrder 9 = .ok (.if_icmp .ge 26, 3) := by decide +kernel
theorem dX0_greatestOrder_12 : decode cX0_greatestOrder 12 = .ok (.iload_n 1, 1) := by decide +kernel
theorem dX0_greatestOrder_13 : decode cX0_greatestOrder 13 = .ok (.aload_n 0, 1) := by decide +kernel
theorem dX0_greatestOrder_14 : decode cX0_greatestOrder 14 = .ok (.getfield 9, 3) := by decide +kernel
theorem dX0_greatestOrder_17 : decode cX0_greatestOrder 17 = .ok (.iload_n 2, 1) := by decide +kernel
theorem dX0_greatestOrder_18 : decode cX0_greatestOrder 18 = .ok (.iaload, 1) := by decide +kernel
theorem dX0_greatestOrder_19 : decode cX0_greatestOrder 19 = .ok (.invokestatic 90, 3) := by decide +kernel
theorem dX0_greatestOrder_22 : decode cX0_greatestOrder 22 = .ok (.invokestatic 93, 3) := by decide +kernel
theorem dX0_greatestOrder_25 : decode cX0_greatestOrder 25 = .ok (.invokestatic 96, 3) := by decide +kernel
theorem dX0_greatestOrder_28 : decode cX0_greatestOrder 28 = .ok (.istore_n 1, 1) := by decide +kernel
theorem dX0_greatestOrder_29 : decode cX0_greatestOrder 29 = .ok (.iinc 2 1, 3) := by decide +kernel
theorem dX0_greatestOrder_32 : decode cX0_greatestOrder 32 = .ok (.goto (-28), 3) := by decide +kernel
theorem dX0_greatestOrder_35 : decode cX0_greatestOrder 35 = .ok (.iload_n 1, 1) := by decide +kernel
theorem dX0_greatestOrder_36 : decode cX0_greatestOrder 36 = .ok (.ireturn, 1) := by decide +kernel
set_option maxRecDepth 20000 in
theorem ggX0_tick_X0_drain : GoodIn wsX0_tick wsX0_drain := goodIn_r _ [7, 1, 8, 9, 10, 11, 12, 13, 6, 14, 15, 16, 17, 18, 19, 20, 21, 22, 23, 24, 25, 26, 27, 69, 70, 71, 72, 73, 74, 75, 76, 77, 78] (by decide +kernel) (by decide +kernel)
set_option maxRecDepth 20000 in
theorem gX0_tick_X0_drain : GoodIn wsX0_tick (wsV RX0 99 RX0 yX0_drain wsX0_drain) := goodIn_app (goodIn_of _ (by decide +kernel)) ggX0_tick_X0_drain
set_option maxRecDepth 20000 in
theorem ggX0_tick_X0_runEdges : GoodIn wsX0_tick wsX0_runEdges := goodIn_r _ [31, 1, 9, 32, 33, 34, 6, 35, 8, 11, 12, 13, 14, 15, 16, 17, 18, 19, 20, 21, 22, 23, 24, 25, 26, 27, 69, 70, 71, 72, 73, 74, 75, 76, 77, 78] (by decide +kernel) (by decide +kernel)
set_option maxRecDepth 20000 in
theorem gX0_tick_X0_runEdges : GoodIn wsX0_tick (wsV RX0 102 RX0 yX0_runEdges wsX0_runEdges) := goodIn_app (goodIn_of _ (by decide +kernel)) ggX0_tick_X0_runEdges
set_option maxRecDepth 20000 in
theorem ggX0_tick_X0_dry : GoodIn wsX0_tick wsX0_dry := goodIn_r _ [39, 1, 9, 19, 20, 21, 6, 22, 8, 15, 16, 17, 18, 23, 24, 25, 26, 27, 69, 70, 71, 72, 73, 74, 75, 76, 77, 78] (by decide +kernel) (by decide +kernel)
set_option maxRecDepth 20000 in
theorem gX0_tick_X0_dry : GoodIn wsX0_tick (wsV RX0 105 RX0 yX0_dry wsX0_dry) := goodIn_app (goodIn_of _ (by decide +kernel)) ggX0_tick_X0_dry
set_option maxRecDepth 20000 in
theorem ggX0_tick_X0_letDropFall : GoodIn wsX0_tick wsX0_letDropFall := goodIn_r _ [43, 27, 9, 44, 23, 24, 25, 6, 26, 69, 70, 71, 72, 73, 74, 75, 76, 77, 78] (by decide +kernel) (by decide +kernel)
set_option maxRecDepth 20000 in
theorem gX0_tick_X0_letDropFall : GoodIn wsX0_tick (wsV RX0 108 RX0 yX0_letDropFall wsX0_letDropFall) := goodIn_app (goodIn_of _ (by decide +kernel)) ggX0_tick_X0_letDropFall
set_option maxRecDepth 20000 in
theorem ggX0_tick_X0_burstIfDue : GoodIn wsX0_tick wsX0_burstIfDue := goodIn_r _ [48, 9, 49, 50, 51, 6, 52, 1, 8, 53, 54, 55, 56, 32, 33, 34, 35, 57, 58, 59, 60, 61, 62, 63, 2, 64, 65, 66, 67, 68, 27, 23, 24, 25, 26, 69, 70, 71, 72, 73, 74, 75, 76, 77, 78] (by decide +kernel) (by decide +kernel)
set_option maxRecDepth 20000 in
theorem gX0_tick_X0_burstIfDue : GoodIn wsX0_tick (wsV RX0 111 RX0 yX0_burstIfDue wsX0_burstIfDue) := goodIn_app (goodIn_of _ (by decide +kernel)) ggX0_tick_X0_burstIfDue
theorem dX0_tick_0 : decode cX0_tick 0 = .ok (.aload_n 0, 1) := by decide +kernel
theorem dX0_tick_1 : decode cX0_tick 1 = .ok (.getfield 30, 3) := by decide +kernel
theorem dX0_tick_4 : decode cX0_tick 4 = .ok (.ifCond .le 23, 3) := by decide +kernel
theorem dX0_tick_7 : decode cX0_tick 7 = .ok (.aload_n 0, 1) := by decide +kernel
theorem dX0_tick_8 : decode cX0_tick 8 = .ok (.invokevirtual 99, 3) := by decide +kernel
theorem dX0_tick_11 : decode cX0_tick 11 = .ok (.aload_n 0, 1) := by decide +kernel
theorem dX0_tick_12 : decode cX0_tick 12 = .ok (.invokevirtual 102, 3) := by decide +kernel
theorem dX0_tick_15 : decode cX0_tick 15 = .ok (.aload_n 0, 1) := by decide +kernel
theorem dX0_tick_16 : decode cX0_tick 16 = .ok (.invokevirtual 105, 3) := by decide +kernel
theorem dX0_tick_19 : decode cX0_tick 19 = .ok (.aload_n 0, 1) := by decide +kernel
theorem dX0_tick_20 : decode cX0_tick 20 = .ok (.invokevirtual 108, 3) := by decide +kernel
theorem dX0_tick_23 : decode cX0_tick 23 = .ok (.aload_n 0, 1) := by decide +kernel
theorem dX0_tick_24 : decode cX0_tick 24 = .ok (.invokevirtual 111, 3) := by decide +kernel
theorem dX0_tick_27 : decode cX0_tick 27 = .ok (.aload_n 0, 1) := by decide +kernel
theorem dX0_tick_28 : decode cX0_tick 28 = .ok (.dup, 1) := by decide +kernel
theorem dX0_tick_29 : decode cX0_tick 29 = .ok (.getfield 34, 3) := by decide +kernel
theorem dX0_tick_32 : decode cX0_tick 32 = .ok (.iconst 1, 1) := by decide +kernel
theorem dX0_tick_33 : decode cX0_tick 33 = .ok (.iadd, 1) := by decide +kernel
theorem dX0_tick_34 : decode cX0_tick 34 = .ok (.putfield 34, 3) := by decide +kernel
theorem dX0_tick_37 : decode cX0_tick 37 = .ok (.return_, 1) := by decide +kernel
set_option maxRecDepth 20000 in
theorem ggX0_drain_X0_giveDown : GoodIn wsX0_drain wsX0_giveDown := goodIn_r _ [9, 1, 2, 10, 11, 12, 13, 14, 15, 16, 8, 17, 18, 19, 20, 21, 22, 23, 24, 25, 26, 27, 28, 29, 30, 31, 32] (by decide +kernel) (by decide +kernel)
set_option maxRecDepth 20000 in
theorem gX0_drain_X0_giveDown : GoodIn wsX0_drain (wsV RX0 116 RX0 yX0_giveDown wsX0_giveDown) := goodIn_app (goodIn_of _ (by decide +kernel)) ggX0_drain_X0_giveDown
theorem dX0_drain_0 : decode cX0_drain 0 = .ok (.aload_n 0, 1) := by decide +kernel
theorem dX0_drain_1 : decode cX0_drain 1 = .ok (.getfield 30, 3) := by decide +kernel
theorem dX0_drain_4 : decode cX0_drain 4 = .ok (.iconst 1, 1) := by decide +kernel
theorem dX0_drain_5 : decode cX0_drain 5 = .ok (.isub, 1) := by decide +kernel
theorem dX0_drain_6 : decode cX0_drain 6 = .ok (.istore_n 1, 1) := by decide +kernel
theorem dX0_drain_7 : decode cX0_drain 7 = .ok (.iload_n 1, 1) := by decide +kernel
theorem dX0_drain_8 : decode cX0_drain 8 = .ok (.ifCond .lt 44, 3) := by decide +kernel
theorem dX0_drain_11 : decode cX0_drain 11 = .ok (.aload_n 0, 1) := by decide +kernel
theorem dX0_drain_12 : decode cX0_drain 12 = .ok (.getfield 9, 3) := by decide +kernel
theorem dX0_drain_15 : decode cX0_drain 15 = .ok (.iload_n 1, 1) := by decide +kernel
theorem dX0_drain_16 : decode cX0_drain 16 = .ok (.iaload, 1) := by decide +kernel
theorem dX0_drain_17 : decode cX0_drain 17 = .ok (.i2l, 1) := by decide +kernel
theorem dX0_drain_18 : decode cX0_drain 18 = .ok (.aload_n 0, 1) := by decide +kernel
theorem dX0_drain_19 : decode cX0_drain 19 = .ok (.getfield 9, 3) := by decide +kernel
theorem dX0_drain_22 : decode cX0_drain 22 = .ok (.iload_n 1, 1) := by decide +kernel
theorem dX0_drain_23 : decode cX0_drain 23 = .ok (.iaload, 1) := by decide +kernel
theorem dX0_drain_24 : decode cX0_drain 24 = .ok (.i2l, 1) := by decide +kernel
theorem dX0_drain_25 : decode cX0_drain 25 = .ok (.lmul, 1) := by decide +kernel
theorem dX0_drain_26 : decode cX0_drain 26 = .ok (.lstore_n 2, 1) := by decide +kernel
theorem dX0_drain_27 : decode cX0_drain 27 = .ok (.aload_n 0, 1) := by decide +kernel
theorem dX0_drain_28 : decode cX0_drain 28 = .ok (.iload_n 1, 1) := by decide +kernel
theorem dX0_drain_29 : decode cX0_drain 29 = .ok (.lload_n 2, 1) := by decide +kernel
theorem dX0_drain_30 : decode cX0_drain 30 = .ok (.aload_n 0, 1) := by decide +kernel
theorem dX0_drain_31 : decode cX0_drain 31 = .ok (.getfield 15, 3) := by decide +kernel
theorem dX0_drain_34 : decode cX0_drain 34 = .ok (.iconst 0, 1) := by decide +kernel
theorem dX0_drain_35 : decode cX0_drain 35 = .ok (.iaload, 1) := by decide +kernel
theorem dX0_drain_36 : decode cX0_drain 36 = .ok (.i2l, 1) := by decide +kernel
theorem dX0_drain_37 : decode cX0_drain 37 = .ok (.lmul, 1) := by decide +kernel
theorem dX0_drain_38 : decode cX0_drain 38 = .ok (.ldc2_w 114, 3) := by decide +kernel
theorem dX0_drain_41 : decode cX0_drain 41 = .ok (.ldiv, 1) := by decide +kernel
theorem dX0_drain_42 : decode cX0_drain 42 = .ok (.l2i, 1) := by decide +kernel
theorem dX0_drain_43 : decode cX0_drain 43 = .ok (.invokevirtual 116, 3) := by decide +kernel
theorem dX0_drain_46 : decode cX0_drain 46 = .ok (.iinc 1 (-1), 3) := by decide +kernel
theorem dX0_drain_49 : decode cX0_drain 49 = .ok (.goto (-42), 3) := by decide +kernel
theorem dX0_drain_52 : decode cX0_drain 52 = .ok (.return_, 1) := by decide +kernel
set_option maxRecDepth 20000 in
theorem ggX0_runEdges_X0_isBlack : GoodIn wsX0_runEdges wsX0_isBlack := goodIn_r _ [7, 8, 2, 26, 27, 28, 29, 30, 31, 32, 33, 34, 35] (by decide +kernel) (by decide +kernel)
set_option maxRecDepth 20000 in
theorem gX0_runEdges_X0_isBlack : GoodIn wsX0_runEdges (wsV RX0 78 RX0 yX0_isBlack wsX0_isBlack) := goodIn_app (goodIn_of _ (by decide +kernel)) ggX0_runEdges_X0_isBlack
set_option maxRecDepth 20000 in
theorem ggX0_runEdges_X0_giveDown : GoodIn wsX0_runEdges wsX0_giveDown := goodIn_r _ [12, 1, 8, 13, 14, 15, 16, 17, 18, 19, 6, 20, 21, 22, 23, 24, 25, 26, 27, 28, 29, 30, 31, 32, 33, 34, 35] (by decide +kernel) (by decide +kernel)
set_option maxRecDepth 20000 in
theorem gX0_runEdges_X0_giveDown : GoodIn wsX0_runEdges (wsV RX0 116 RX0 yX0_giveDown wsX0_giveDown) := goodIn_app (goodIn_of _ (by decide +kernel)) ggX0_runEdges_X0_giveDown
theorem dX0_runEdges_0 : decode cX0_runEdges 0 = .ok (.iconst 0, 1) := by decide +kernel
theorem dX0_runEdges_1 : decode cX0_runEdges 1 = .ok (.istore_n 1, 1) := by decide +kernel
theorem dX0_runEdges_2 : decode cX0_runEdges 2 = .ok (.aload_n 0, 1) := by decide +kernel
theorem dX0_runEdges_3 : decode cX0_runEdges 3 = .ok (.getfield 30, 3) := by decide +kernel
theorem dX0_runEdges_6 : decode cX0_runEdges 6 = .ok (.ifCond .le 15, 3) := by decide +kernel
theorem dX0_runEdges_9 : decode cX0_runEdges 9 = .ok (.aload_n 0, 1) := by decide +kernel
theorem dX0_runEdges_10 : decode cX0_runEdges 10 = .ok (.iconst 0, 1) := by decide +kernel
theorem dX0_runEdges_11 : decode cX0_runEdges 11 = .ok (.invokevirtual 78, 3) := by decide +kernel
theorem dX0_runEdges_14 : decode cX0_runEdges 14 = .ok (.ifCond .eq 7, 3) := by decide +kernel
theorem dX0_runEdges_17 : decode cX0_runEdges 17 = .ok (.iconst 1, 1) := by decide +kernel
theorem dX0_runEdges_18 : decode cX0_runEdges 18 = .ok (.goto 4, 3) := by decide +kernel
theorem dX0_runEdges_21 : decode cX0_runEdges 21 = .ok (.iconst 0, 1) := by decide +kernel
theorem dX0_runEdges_22 : decode cX0_runEdges 22 = .ok (.istore_n 2, 1) := by decide +kernel
theorem dX0_runEdges_23 : decode cX0_runEdges 23 = .ok (.iconst 0, 1) := by decide +kernel
theorem dX0_runEdges_24 : decode cX0_runEdges 24 = .ok (.istore_n 3, 1) := by decide +kernel
theorem dX0_runEdges_25 : decode cX0_runEdges 25 = .ok (.iload_n 3, 1) := by decide +kernel
theorem dX0_runEdges_26 : decode cX0_runEdges 26 = .ok (.aload_n 0, 1) := by decide +kernel
theorem dX0_runEdges_27 : decode cX0_runEdges 27 = .ok (.getfield 30, 3) := by decide +kernel
theorem dX0_runEdges_30 : decode cX0_runEdges 30 = .ok (.if_icmp .ge 60, 3) := by decide +kernel
theorem dX0_runEdges_33 : decode cX0_runEdges 33 = .ok (.iload_n 3, 1) := by decide +kernel
theorem dX0_runEdges_34 : decode cX0_runEdges 34 = .ok (.iconst 1, 1) := by decide +kernel
theorem dX0_runEdges_35 : decode cX0_runEdges 35 = .ok (.iadd, 1) := by decide +kernel
theorem dX0_runEdges_36 : decode cX0_runEdges 36 = .ok (.aload_n 0, 1) := by decide +kernel
theorem dX0_runEdges_37 : decode cX0_runEdges 37 = .ok (.getfield 30, 3) := by decide +kernel
theorem dX0_runEdges_40 : decode cX0_runEdges 40 = .ok (.if_icmp .ge 17, 3) := by decide +kernel
theorem dX0_runEdges_43 : decode cX0_runEdges 43 = .ok (.aload_n 0, 1) := by decide +kernel
theorem dX0_runEdges_44 : decode cX0_runEdges 44 = .ok (.iload_n 3, 1) := by decide +kernel
theorem dX0_runEdges_45 : decode cX0_runEdges 45 = .ok (.iconst 1, 1) := by decide +kernel
theorem dX0_runEdges_46 : decode cX0_runEdges 46 = .ok (.iadd, 1) := by decide +kernel
theorem dX0_runEdges_47 : decode cX0_runEdges 47 = .ok (.invokevirtual 78, 3) := by decide +kernel
theorem dX0_runEdges_50 : decode cX0_runEdges 50 = .ok (.ifCond .eq 7, 3) := by decide +kernel
theorem dX0_runEdges_53 : decode cX0_runEdges 53 = .ok (.iconst 1, 1) := by decide +kernel
theorem dX0_runEdges_54 : decode cX0_runEdges 54 = .ok (.goto 4, 3) := by decide +kernel
theorem dX0_runEdges_57 : decode cX0_runEdges 57 = .ok (.iconst 0, 1) := by decide +kernel
theorem dX0_runEdges_58 : decode cX0_runEdges 58 = .ok (.istore 4, 2) := by decide +kernel
theorem dX0_runEdges_60 : decode cX0_runEdges 60 = .ok (.iload_n 1, 1) := by decide +kernel
theorem dX0_runEdges_61 : decode cX0_runEdges 61 = .ok (.ifCond .eq 18, 3) := by decide +kernel
theorem dX0_runEdges_64 : decode cX0_runEdges 64 = .ok (.iload_n 2, 1) := by decide +kernel
theorem dX0_runEdges_65 : decode cX0_runEdges 65 = .ok (.ifCond .ne 14, 3) := by decide +kernel
theorem dX0_runEdges_68 : decode cX0_runEdges 68 = .ok (.aload_n 0, 1) := by decide +kernel
theorem dX0_runEdges_69 : decode cX0_runEdges 69 = .ok (.iload_n 3, 1) := by decide +kernel
theorem dX0_runEdges_70 : decode cX0_runEdges 70 = .ok (.aload_n 0, 1) := by decide +kernel
theorem dX0_runEdges_71 : decode cX0_runEdges 71 = .ok (.getfield 15, 3) := by decide +kernel
theorem dX0_runEdges_74 : decode cX0_runEdges 74 = .ok (.iconst 2, 1) := by decide +kernel
theorem dX0_runEdges_75 : decode cX0_runEdges 75 = .ok (.iaload, 1) := by decide +kernel
theorem dX0_runEdges_76 : decode cX0_runEdges 76 = .ok (.invokevirtual 116, 3) := by decide +kernel
theorem dX0_runEdges_79 : decode cX0_runEdges 79 = .ok (.iload_n 2, 1) := by decide +kernel
theorem dX0_runEdges_80 : decode cX0_runEdges 80 = .ok (.istore_n 1, 1) := by decide +kernel
theorem dX0_runEdges_81 : decode cX0_runEdges 81 = .ok (.iload 4, 2) := by decide +kernel
theorem dX0_runEdges_83 : decode cX0_runEdges 83 = .ok (.istore_n 2, 1) := by decide +kernel
theorem dX0_runEdges_84 : decode cX0_runEdges 84 = .ok (.iinc 3 1, 3) := by decide +kernel
theorem dX0_runEdges_87 : decode cX0_runEdges 87 = .ok (.goto (-62), 3) := by decide +kernel
theorem dX0_runEdges_90 : decode cX0_runEdges 90 = .ok (.return_, 1) := by decide +kernel
set_option maxRecDepth 20000 in
theorem ggX0_giveDown_X0_loseFrom : GoodIn wsX0_giveDown wsX0_loseFrom := goodIn_r _ [11, 2, 3, 4, 5, 6, 12, 13, 14, 10, 15, 16, 17, 18, 19, 20, 21, 22, 23, 24, 25, 26] (by decide +kernel) (by decide +kernel)
set_option maxRecDepth 20000 in
theorem gX0_giveDown_X0_loseFrom : GoodIn wsX0_giveDown (wsV RX0 120 RX0 yX0_loseFrom wsX0_loseFrom) := goodIn_app (goodIn_of _ (by decide +kernel)) ggX0_giveDown_X0_loseFrom
theorem dX0_giveDown_0 : decode cX0_giveDown 0 = .ok (.iload_n 1, 1) := by decide +kernel
theorem dX0_giveDown_1 : decode cX0_giveDown 1 = .ok (.aload_n 0, 1) := by decide +kernel
theorem dX0_giveDown_2 : decode cX0_giveDown 2 = .ok (.getfield 30, 3) := by decide +kernel
theorem dX0_giveDown_5 : decode cX0_giveDown 5 = .ok (.iconst 1, 1) := by decide +kernel
theorem dX0_giveDown_6 : decode cX0_giveDown 6 = .ok (.isub, 1) := by decide +kernel
theorem dX0_giveDown_7 : decode cX0_giveDown 7 = .ok (.if_icmp .ne 12, 3) := by decide +kernel
theorem dX0_giveDown_10 : decode cX0_giveDown 10 = .ok (.aload_n 0, 1) := by decide +kernel
theorem dX0_giveDown_11 : decode cX0_giveDown 11 = .ok (.iload_n 1, 1) := by decide +kernel
theorem dX0_giveDown_12 : decode cX0_giveDown 12 = .ok (.iload_n 2, 1) := by decide +kernel
theorem dX0_giveDown_13 : decode cX0_giveDown 13 = .ok (.iconst 2, 1) := by decide +kernel
theorem dX0_giveDown_14 : decode cX0_giveDown 14 = .ok (.invokevirtual 120, 3) := by decide +kernel
theorem dX0_giveDown_17 : decode cX0_giveDown 17 = .ok (.pop, 1) := by decide +kernel
theorem dX0_giveDown_18 : decode cX0_giveDown 18 = .ok (.return_, 1) := by decide +kernel
theorem dX0_giveDown_19 : decode cX0_giveDown 19 = .ok (.sipush 5000, 3) := by decide +kernel
theorem dX0_giveDown_22 : decode cX0_giveDown 22 = .ok (.aload_n 0, 1) := by decide +kernel
theorem dX0_giveDown_23 : decode cX0_giveDown 23 = .ok (.getfield 9, 3) := by decide +kernel
theorem dX0_giveDown_26 : decode cX0_giveDown 26 = .ok (.iload_n 1, 1) := by decide +kernel
theorem dX0_giveDown_27 : decode cX0_giveDown 27 = .ok (.iconst 1, 1) := by decide +kernel
theorem dX0_giveDown_28 : decode cX0_giveDown 28 = .ok (.iadd, 1) := by decide +kernel
theorem dX0_giveDown_29 : decode cX0_giveDown 29 = .ok (.iaload, 1) := by decide +kernel
theorem dX0_giveDown_30 : decode cX0_giveDown 30 = .ok (.isub, 1) := by decide +kernel
theorem dX0_giveDown_31 : decode cX0_giveDown 31 = .ok (.istore_n 3, 1) := by decide +kernel
theorem dX0_giveDown_32 : decode cX0_giveDown 32 = .ok (.iload_n 2, 1) := by decide +kernel
theorem dX0_giveDown_33 : decode cX0_giveDown 33 = .ok (.aload_n 0, 1) := by decide +kernel
theorem dX0_giveDown_34 : decode cX0_giveDown 34 = .ok (.getfield 9, 3) := by decide +kernel
theorem dX0_giveDown_37 : decode cX0_giveDown 37 = .ok (.iload_n 1, 1) := by decide +kernel
theorem dX0_giveDown_38 : decode cX0_giveDown 38 = .ok (.iaload, 1) := by decide +kernel
theorem dX0_giveDown_39 : decode cX0_giveDown 39 = .ok (.invokestatic 63, 3) := by decide +kernel
theorem dX0_giveDown_42 : decode cX0_giveDown 42 = .ok (.iload_n 3, 1) := by decide +kernel
theorem dX0_giveDown_43 : decode cX0_giveDown 43 = .ok (.invokestatic 63, 3) := by decide +kernel
theorem dX0_giveDown_46 : decode cX0_giveDown 46 = .ok (.istore 4, 2) := by decide +kernel
theorem dX0_giveDown_48 : decode cX0_giveDown 48 = .ok (.aload_n 0, 1) := by decide +kernel
theorem dX0_giveDown_49 : decode cX0_giveDown 49 = .ok (.getfield 9, 3) := by decide +kernel
theorem dX0_giveDown_52 : decode cX0_giveDown 52 = .ok (.iload_n 1, 1) := by decide +kernel
theorem dX0_giveDown_53 : decode cX0_giveDown 53 = .ok (.dup2, 1) := by decide +kernel
theorem dX0_giveDown_54 : decode cX0_giveDown 54 = .ok (.iaload, 1) := by decide +kernel
theorem dX0_giveDown_55 : decode cX0_giveDown 55 = .ok (.iload 4, 2) := by decide +kernel
theorem dX0_giveDown_57 : decode cX0_giveDown 57 = .ok (.isub, 1) := by decide +kernel
theorem dX0_giveDown_58 : decode cX0_giveDown 58 = .ok (.iastore, 1) := by decide +kernel
theorem dX0_giveDown_59 : decode cX0_giveDown 59 = .ok (.aload_n 0, 1) := by decide +kernel
theorem dX0_giveDown_60 : decode cX0_giveDown 60 = .ok (.getfield 9, 3) := by decide +kernel
theorem dX0_giveDown_63 : decode cX0_giveDown 63 = .ok (.iload_n 1, 1) := by decide +kernel
theorem dX0_giveDown_64 : decode cX0_giveDown 64 = .ok (.iconst 1, 1) := by decide +kernel
theorem dX0_giveDown_65 : decode cX0_giveDown 65 = .ok (.iadd, 1) := by decide +kernel
theorem dX0_giveDown_66 : decode cX0_giveDown 66 = .ok (.dup2, 1) := by decide +kernel
theorem dX0_giveDown_67 : decode cX0_giveDown 67 = .ok (.iaload, 1) := by decide +kernel
theorem dX0_giveDown_68 : decode cX0_giveDown 68 = .ok (.iload 4, 2) := by decide +kernel
theorem dX0_giveDown_70 : decode cX0_giveDown 70 = .ok (.iadd, 1) := by decide +kernel
theorem dX0_giveDown_71 : decode cX0_giveDown 71 = .ok (.iastore, 1) := by decide +kernel
theorem dX0_giveDown_72 : decode cX0_giveDown 72 = .ok (.return_, 1) := by decide +kernel
set_option maxRecDepth 20000 in
theorem ggX0_dry_X0_loseFrom : GoodIn wsX0_dry wsX0_loseFrom := goodIn_r _ [7, 8, 9, 10, 11, 12, 13, 14, 15, 6, 16, 17, 18, 19, 20, 21, 22, 23, 24, 25, 26, 27] (by decide +kernel) (by decide +kernel)
set_option maxRecDepth 20000 in
theorem gX0_dry_X0_loseFrom : GoodIn wsX0_dry (wsV RX0 120 RX0 yX0_loseFrom wsX0_loseFrom) := goodIn_app (goodIn_of _ (by decide +kernel)) ggX0_dry_X0_loseFrom
theorem dX0_dry_0 : decode cX0_dry 0 = .ok (.iconst 0, 1) := by decide +kernel
theorem dX0_dry_1 : decode cX0_dry 1 = .ok (.istore_n 1, 1) := by decide +kernel
theorem dX0_dry_2 : decode cX0_dry 2 = .ok (.iload_n 1, 1) := by decide +kernel
theorem dX0_dry_3 : decode cX0_dry 3 = .ok (.aload_n 0, 1) := by decide +kernel
theorem dX0_dry_4 : decode cX0_dry 4 = .ok (.getfield 30, 3) := by decide +kernel
theorem dX0_dry_7 : decode cX0_dry 7 = .ok (.if_icmp .ge 22, 3) := by decide +kernel
theorem dX0_dry_10 : decode cX0_dry 10 = .ok (.aload_n 0, 1) := by decide +kernel
theorem dX0_dry_11 : decode cX0_dry 11 = .ok (.iload_n 1, 1) := by decide +kernel
theorem dX0_dry_12 : decode cX0_dry 12 = .ok (.aload_n 0, 1) := by decide +kernel
theorem dX0_dry_13 : decode cX0_dry 13 = .ok (.getfield 15, 3) := by decide +kernel
theorem dX0_dry_16 : decode cX0_dry 16 = .ok (.iconst 1, 1) := by decide +kernel
theorem dX0_dry_17 : decode cX0_dry 17 = .ok (.iaload, 1) := by decide +kernel
theorem dX0_dry_18 : decode cX0_dry 18 = .ok (.iconst 4, 1) := by decide +kernel
theorem dX0_dry_19 : decode cX0_dry 19 = .ok (.invokevirtual 120, 3) := by decide +kernel
theorem dX0_dry_22 : decode cX0_dry 22 = .ok (.pop, 1) := by decide +kernel
theorem dX0_dry_23 : decode cX0_dry 23 = .ok (.iinc 1 1, 3) := by decide +kernel
theorem dX0_dry_26 : decode cX0_dry 26 = .ok (.goto (-24), 3) := by decide +kernel
theorem dX0_dry_29 : decode cX0_dry 29 = .ok (.return_, 1) := by decide +kernel
set_option maxRecDepth 20000 in
theorem ggX0_letDropFall_X0_move : GoodIn wsX0_letDropFall wsX0_move := goodIn_r _ [8, 1, 9, 10, 11, 12, 13, 14, 15, 16, 17, 18] (by decide +kernel) (by decide +kernel)
set_option maxRecDepth 20000 in
theorem gX0_letDropFall_X0_move : GoodIn wsX0_letDropFall (wsV RX0 59 RX0 yX0_move wsX0_move) := goodIn_app (goodIn_of _ (by decide +kernel)) ggX0_letDropFall_X0_move
theorem dX0_letDropFall_0 : decode cX0_letDropFall 0 = .ok (.aload_n 0, 1) := by decide +kernel
theorem dX0_letDropFall_1 : decode cX0_letDropFall 1 = .ok (.getfield 18, 3) := by decide +kernel
theorem dX0_letDropFall_4 : decode cX0_letDropFall 4 = .ok (.iconst 2, 1) := by decide +kernel
theorem dX0_letDropFall_5 : decode cX0_letDropFall 5 = .ok (.iaload, 1) := by decide +kernel
theorem dX0_letDropFall_6 : decode cX0_letDropFall 6 = .ok (.aload_n 0, 1) := by decide +kernel
theorem dX0_letDropFall_7 : decode cX0_letDropFall 7 = .ok (.getfield 15, 3) := by decide +kernel
theorem dX0_letDropFall_10 : decode cX0_letDropFall 10 = .ok (.bipush 6, 2) := by decide +kernel
theorem dX0_letDropFall_12 : decode cX0_letDropFall 12 = .ok (.iaload, 1) := by decide +kernel
theorem dX0_letDropFall_13 : decode cX0_letDropFall 13 = .ok (.if_icmp .lt 25, 3) := by decide +kernel
theorem dX0_letDropFall_16 : decode cX0_letDropFall 16 = .ok (.aload_n 0, 1) := by decide +kernel
theorem dX0_letDropFall_17 : decode cX0_letDropFall 17 = .ok (.iconst 2, 1) := by decide +kernel
theorem dX0_letDropFall_18 : decode cX0_letDropFall 18 = .ok (.iconst 3, 1) := by decide +kernel
theorem dX0_letDropFall_19 : decode cX0_letDropFall 19 = .ok (.aload_n 0, 1) := by decide +kernel
theorem dX0_letDropFall_20 : decode cX0_letDropFall 20 = .ok (.getfield 18, 3) := by decide +kernel
theorem dX0_letDropFall_23 : decode cX0_letDropFall 23 = .ok (.iconst 2, 1) := by decide +kernel
theorem dX0_letDropFall_24 : decode cX0_letDropFall 24 = .ok (.iaload, 1) := by decide +kernel
theorem dX0_letDropFall_25 : decode cX0_letDropFall 25 = .ok (.invokevirtual 59, 3) := by decide +kernel
theorem dX0_letDropFall_28 : decode cX0_letDropFall 28 = .ok (.aload_n 0, 1) := by decide +kernel
theorem dX0_letDropFall_29 : decode cX0_letDropFall 29 = .ok (.dup, 1) := by decide +kernel
theorem dX0_letDropFall_30 : decode cX0_letDropFall 30 = .ok (.getfield 37, 3) := by decide +kernel
theorem dX0_letDropFall_33 : decode cX0_letDropFall 33 = .ok (.iconst 1, 1) := by decide +kernel
theorem dX0_letDropFall_34 : decode cX0_letDropFall 34 = .ok (.iadd, 1) := by decide +kernel
theorem dX0_letDropFall_35 : decode cX0_letDropFall 35 = .ok (.putfield 37, 3) := by decide +kernel
theorem dX0_letDropFall_38 : decode cX0_letDropFall 38 = .ok (.return_, 1) := by decide +kernel
set_option maxRecDepth 20000 in
theorem ggX0_burstIfDue_X0_firstTooThin : GoodIn wsX0_burstIfDue wsX0_firstTooThin := goodIn_r _ [6, 7, 8, 1, 35, 36, 37, 38, 39, 40, 41, 42, 43, 44] (by decide +kernel) (by decide +kernel)
set_option maxRecDepth 20000 in
theorem gX0_burstIfDue_X0_firstTooThin : GoodIn wsX0_burstIfDue (wsV RX0 124 RX0 yX0_firstTooThin wsX0_firstTooThin) := goodIn_app (goodIn_of _ (by decide +kernel)) ggX0_burstIfDue_X0_firstTooThin
set_option maxRecDepth 20000 in
theorem ggX0_burstIfDue_X0_blackRows : GoodIn wsX0_burstIfDue wsX0_blackRows := goodIn_r _ [12, 7, 13, 14, 15, 5, 16, 8, 1, 35, 36, 37, 38, 39, 40, 41, 42, 43, 44] (by decide +kernel) (by decide +kernel)
set_option maxRecDepth 20000 in
theorem gX0_burstIfDue_X0_blackRows : GoodIn wsX0_burstIfDue (wsV RX0 128 RX0 yX0_blackRows wsX0_blackRows) := goodIn_app (goodIn_of _ (by decide +kernel)) ggX0_burstIfDue_X0_blackRows
set_option maxRecDepth 20000 in
theorem ggX0_burstIfDue_X0_burst : GoodIn wsX0_burstIfDue wsX0_burst := goodIn_r _ [20, 21, 22, 23, 24, 25, 26, 27, 28, 5, 29, 30, 7, 31, 32, 33, 34, 35, 36, 37, 38, 39, 40, 41, 42, 43, 44] (by decide +kernel) (by decide +kernel)
set_option maxRecDepth 20000 in
theorem gX0_burstIfDue_X0_burst : GoodIn wsX0_burstIfDue (wsV RX0 131 RX0 yX0_burst wsX0_burst) := goodIn_app (goodIn_of _ (by decide +kernel)) ggX0_burstIfDue_X0_burst
theorem dX0_burstIfDue_0 : decode cX0_burstIfDue 0 = .ok (.aload_n 0, 1) := by decide +kernel
theorem dX0_burstIfDue_1 : decode cX0_burstIfDue 1 = .ok (.invokevirtual 124, 3) := by decide +kernel
theorem dX0_burstIfDue_4 : decode cX0_burstIfDue 4 = .ok (.istore_n 1, 1) := by decide +kernel
theorem dX0_burstIfDue_5 : decode cX0_burstIfDue 5 = .ok (.aload_n 0, 1) := by decide +kernel
theorem dX0_burstIfDue_6 : decode cX0_burstIfDue 6 = .ok (.invokevirtual 128, 3) := by decide +kernel
theorem dX0_burstIfDue_9 : decode cX0_burstIfDue 9 = .ok (.istore_n 2, 1) := by decide +kernel
theorem dX0_burstIfDue_10 : decode cX0_burstIfDue 10 = .ok (.iload_n 1, 1) := by decide +kernel
theorem dX0_burstIfDue_11 : decode cX0_burstIfDue 11 = .ok (.ifCond .lt 12, 3) := by decide +kernel
theorem dX0_burstIfDue_14 : decode cX0_burstIfDue 14 = .ok (.aload_n 0, 1) := by decide +kernel
theorem dX0_burstIfDue_15 : decode cX0_burstIfDue 15 = .ok (.iconst 1, 1) := by decide +kernel
theorem dX0_burstIfDue_16 : decode cX0_burstIfDue 16 = .ok (.iload_n 1, 1) := by decide +kernel
theorem dX0_burstIfDue_17 : decode cX0_burstIfDue 17 = .ok (.invokevirtual 131, 3) := by decide +kernel
theorem dX0_burstIfDue_20 : decode cX0_burstIfDue 20 = .ok (.goto 19, 3) := by decide +kernel
theorem dX0_burstIfDue_23 : decode cX0_burstIfDue 23 = .ok (.iload_n 2, 1) := by decide +kernel
theorem dX0_burstIfDue_24 : decode cX0_burstIfDue 24 = .ok (.aload_n 0, 1) := by decide +kernel
theorem dX0_burstIfDue_25 : decode cX0_burstIfDue 25 = .ok (.getfield 15, 3) := by decide +kernel
theorem dX0_burstIfDue_28 : decode cX0_burstIfDue 28 = .ok (.iconst 5, 1) := by decide +kernel
theorem dX0_burstIfDue_29 : decode cX0_burstIfDue 29 = .ok (.iaload, 1) := by decide +kernel
theorem dX0_burstIfDue_30 : decode cX0_burstIfDue 30 = .ok (.if_icmp .le 9, 3) := by decide +kernel
theorem dX0_burstIfDue_33 : decode cX0_burstIfDue 33 = .ok (.aload_n 0, 1) := by decide +kernel
theorem dX0_burstIfDue_34 : decode cX0_burstIfDue 34 = .ok (.iconst 2, 1) := by decide +kernel
theorem dX0_burstIfDue_35 : decode cX0_burstIfDue 35 = .ok (.iload_n 2, 1) := by decide +kernel
theorem dX0_burstIfDue_36 : decode cX0_burstIfDue 36 = .ok (.invokevirtual 131, 3) := by decide +kernel
theorem dX0_burstIfDue_39 : decode cX0_burstIfDue 39 = .ok (.return_, 1) := by decide +kernel
theorem dX0_firstTooThin_0 : decode cX0_firstTooThin 0 = .ok (.iconst 0, 1) := by decide +kernel
theorem dX0_firstTooThin_1 : decode cX0_firstTooThin 1 = .ok (.istore_n 1, 1) := by decide +kernel
theorem dX0_firstTooThin_2 : decode cX0_firstTooThin 2 = .ok (.iload_n 1, 1) := by decide +kernel
theorem dX0_firstTooThin_3 : decode cX0_firstTooThin 3 = .ok (.aload_n 0, 1) := by decide +kernel
theorem dX0_firstTooThin_4 : decode cX0_firstTooThin 4 = .ok (.getfield 30, 3) := by decide +kernel
theorem dX0_firstTooThin_7 : decode cX0_firstTooThin 7 = .ok (.if_icmp .ge 26, 3) := by decide +kernel
theorem dX0_firstTooThin_10 : decode cX0_firstTooThin 10 = .ok (.aload_n 0, 1) := by decide +kernel
theorem dX0_firstTooThin_11 : decode cX0_firstTooThin 11 = .ok (.getfield 9, 3) := by decide +kernel
theorem dX0_firstTooThin_14 : decode cX0_firstTooThin 14 = .ok (.iload_n 1, 1) := by decide +kernel
theorem dX0_firstTooThin_15 : decode cX0_firstTooThin 15 = .ok (.iaload, 1) := by decide +kernel
theorem dX0_firstTooThin_16 : decode cX0_firstTooThin 16 = .ok (.aload_n 0, 1) := by decide +kernel
theorem dX0_firstTooThin_17 : decode cX0_firstTooThin 17 = .ok (.getfield 15, 3) := by decide +kernel
theorem dX0_firstTooThin_20 : decode cX0_firstTooThin 20 = .ok (.iconst 4, 1) := by decide +kernel
theorem dX0_firstTooThin_21 : decode cX0_firstTooThin 21 = .ok (.iaload, 1) := by decide +kernel
theorem dX0_firstTooThin_22 : decode cX0_firstTooThin 22 = .ok (.if_icmp .ge 5, 3) := by decide +kernel
theorem dX0_firstTooThin_25 : decode cX0_firstTooThin 25 = .ok (.iload_n 1, 1) := by decide +kernel
theorem dX0_firstTooThin_26 : decode cX0_firstTooThin 26 = .ok (.ireturn, 1) := by decide +kernel
theorem dX0_firstTooThin_27 : decode cX0_firstTooThin 27 = .ok (.iinc 1 1, 3) := by decide +kernel
theorem dX0_firstTooThin_30 : decode cX0_firstTooThin 30 = .ok (.goto (-28), 3) := by decide +kernel
theorem dX0_firstTooThin_33 : decode cX0_firstTooThin 33 = .ok (.iconst (-1), 1) := by decide +kernel
theorem dX0_firstTooThin_34 : decode cX0_firstTooThin 34 = .ok (.ireturn, 1) := by decide +kernel
set_option maxRecDepth 20000 in
theorem ggX0_burst_X0_endFilm : GoodIn wsX0_burst wsX0_endFilm := goodIn_r _ [10, 11, 12, 13, 14, 15, 9, 16, 17, 18, 19, 20, 21, 22, 23, 24, 25, 26] (by decide +kernel) (by decide +kernel)
set_option maxRecDepth 20000 in
theorem gX0_burst_X0_endFilm : GoodIn wsX0_burst (wsV RX0 56 RX0 yX0_endFilm wsX0_endFilm) := goodIn_app (goodIn_of _ (by decide +kernel)) ggX0_burst_X0_endFilm
theorem dX0_burst_0 : decode cX0_burst 0 = .ok (.aload_n 0, 1) := by decide +kernel
theorem dX0_burst_1 : decode cX0_burst 1 = .ok (.iconst 5, 1) := by decide +kernel
theorem dX0_burst_2 : decode cX0_burst 2 = .ok (.invokevirtual 56, 3) := by decide +kernel
theorem dX0_burst_5 : decode cX0_burst 5 = .ok (.aload_n 0, 1) := by decide +kernel
theorem dX0_burst_6 : decode cX0_burst 6 = .ok (.dup, 1) := by decide +kernel
theorem dX0_burst_7 : decode cX0_burst 7 = .ok (.getfield 40, 3) := by decide +kernel
theorem dX0_burst_10 : decode cX0_burst 10 = .ok (.iconst 1, 1) := by decide +kernel
theorem dX0_burst_11 : decode cX0_burst 11 = .ok (.iadd, 1) := by decide +kernel
theorem dX0_burst_12 : decode cX0_burst 12 = .ok (.putfield 40, 3) := by decide +kernel
theorem dX0_burst_15 : decode cX0_burst 15 = .ok (.aload_n 0, 1) := by decide +kernel
theorem dX0_burst_16 : decode cX0_burst 16 = .ok (.iload_n 1, 1) := by decide +kernel
theorem dX0_burst_17 : decode cX0_burst 17 = .ok (.putfield 43, 3) := by decide +kernel
theorem dX0_burst_20 : decode cX0_burst 20 = .ok (.aload_n 0, 1) := by decide +kernel
theorem dX0_burst_21 : decode cX0_burst 21 = .ok (.iload_n 2, 1) := by decide +kernel
theorem dX0_burst_22 : decode cX0_burst 22 = .ok (.putfield 46, 3) := by decide +kernel
theorem dX0_burst_25 : decode cX0_burst 25 = .ok (.aload_n 0, 1) := by decide +kernel
theorem dX0_burst_26 : decode cX0_burst 26 = .ok (.aload_n 0, 1) := by decide +kernel
theorem dX0_burst_27 : decode cX0_burst 27 = .ok (.getfield 34, 3) := by decide +kernel
theorem dX0_burst_30 : decode cX0_burst 30 = .ok (.putfield 49, 3) := by decide +kernel
theorem dX0_burst_33 : decode cX0_burst 33 = .ok (.return_, 1) := by decide +kernel
theorem dX1_init_0 : decode cX1_init 0 = .ok (.aload_n 0, 1) := by decide +kernel
theorem dX1_init_1 : decode cX1_init 1 = .ok (.invokespecial 3, 3) := by decide +kernel
theorem dX1_init_4 : decode cX1_init 4 = .ok (.aload_n 0, 1) := by decide +kernel
theorem dX1_init_5 : decode cX1_init 5 = .ok (.bipush 100, 2) := by decide +kernel
theorem dX1_init_7 : decode cX1_init 7 = .ok (.newarray .char, 2) := by decide +kernel
theorem dX1_init_9 : decode cX1_init 9 = .ok (.putfield 11, 3) := by decide +kernel
theorem dX1_init_12 : decode cX1_init 12 = .ok (.aload_n 0, 1) := by decide +kernel
theorem dX1_init_13 : decode cX1_init 13 = .ok (.bipush 24, 2) := by decide +kernel
theorem dX1_init_15 : decode cX1_init 15 = .ok (.newarray .int, 2) := by decide +kernel
theorem dX1_init_17 : decode cX1_init 17 = .ok (.putfield 15, 3) := by decide +kernel
theorem dX1_init_20 : decode cX1_init 20 = .ok (.return_, 1) := by decide +kernel
theorem dX1_append_0 : decode cX1_append 0 = .ok (.aload_n 0, 1) := by decide +kernel
theorem dX1_append_1 : decode cX1_append 1 = .ok (.getfield 19, 3) := by decide +kernel
theorem dX1_append_4 : decode cX1_append 4 = .ok (.bipush 100, 2) := by decide +kernel
theorem dX1_append_6 : decode cX1_append 6 = .ok (.if_icmp .ge 23, 3) := by decide +kernel
theorem dX1_append_9 : decode cX1_append 9 = .ok (.aload_n 0, 1) := by decide +kernel
theorem dX1_append_10 : decode cX1_append 10 = .ok (.getfield 11, 3) := by decide +kernel
theorem dX1_append_13 : decode cX1_append 13 = .ok (.aload_n 0, 1) := by decide +kernel
theorem dX1_append_14 : decode cX1_append 14 = .ok (.getfield 19, 3) := by decide +kernel
theorem dX1_append_17 : decode cX1_append 17 = .ok (.iload_n 1, 1) := by decide +kernel
theorem dX1_append_18 : decode cX1_append 18 = .ok (.castore, 1) := by decide +kernel
theorem dX1_append_19 : decode cX1_append 19 = .ok (.aload_n 0, 1) := by decide +kernel
theorem dX1_append_20 : decode cX1_append 20 = .ok (.dup, 1) := by decide +kernel
theorem dX1_append_21 : decode cX1_append 21 = .ok (.getfield 19, 3) := by decide +kernel
theorem dX1_append_24 : decode cX1_append 24 = .ok (.iconst 1, 1) := by decide +kernel
theorem dX1_append_25 : decode cX1_append 25 = .ok (.iadd, 1) := by decide +kernel
theorem dX1_append_26 : decode cX1_append 26 = .ok (.putfield 19, 3) := by decide +kernel
theorem dX1_append_29 : decode cX1_append 29 = .ok (.return_, 1) := by decide +kernel
set_option maxRecDepth 20000 in
theorem ggX1_parse_X1_takePart : GoodIn wsX1_parse wsX1_takePart := goodIn_r _ [10, 1, 11, 12, 13, 14, 9, 15, 4, 16, 17, 18, 19, 20, 21, 22, 23, 24, 25, 26, 27, 28, 29, 30, 31] (by decide +kernel) (by decide +kernel)
set_option maxRecDepth 20000 in
theorem gX1_parse_X1_takePart : GoodIn wsX1_parse (wsV RX1 32 RX1 yX1_takePart wsX1_takePart) := goodIn_app (goodIn_of _ (by decide +kernel)) ggX1_parse_X1_takePart
theorem dX1_parse_0 : decode cX1_parse 0 = .ok (.aload_n 0, 1) := by decide +kernel
theorem dX1_parse_1 : decode cX1_parse 1 = .ok (.iconst 0, 1) := by decide +kernel
theorem dX1_parse_2 : decode cX1_parse 2 = .ok (.putfield 23, 3) := by decide +kernel
theorem dX1_parse_5 : decode cX1_parse 5 = .ok (.aload_n 0, 1) := by decide +kernel
theorem dX1_parse_6 : decode cX1_parse 6 = .ok (.iconst 0, 1) := by decide +kernel
theorem dX1_parse_7 : decode cX1_parse 7 = .ok (.putfield 26, 3) := by decide +kernel
theorem dX1_parse_10 : decode cX1_parse 10 = .ok (.iconst 0, 1) := by decide +kernel
theorem dX1_parse_11 : decode cX1_parse 11 = .ok (.istore_n 1, 1) := by decide +kernel
theorem dX1_parse_12 : decode cX1_parse 12 = .ok (.iconst 0, 1) := by decide +kernel
theorem dX1_parse_13 : decode cX1_parse 13 = .ok (.istore_n 2, 1) := by decide +kernel
theorem dX1_parse_14 : decode cX1_parse 14 = .ok (.iload_n 2, 1) := by decide +kernel
theorem dX1_parse_15 : decode cX1_parse 15 = .ok (.aload_n 0, 1) := by decide +kernel
theorem dX1_parse_16 : decode cX1_parse 16 = .ok (.getfield 19, 3) := by decide +kernel
theorem dX1_parse_19 : decode cX1_parse 19 = .ok (.if_icmp .gt 54, 3) := by decide +kernel
theorem dX1_parse_22 : decode cX1_parse 22 = .ok (.aload_n 0, 1) := by decide +kernel
theorem dX1_parse_23 : decode cX1_parse 23 = .ok (.getfield 26, 3) := by decide +kernel
theorem dX1_parse_26 : decode cX1_parse 26 = .ok (.ifCond .ne 47, 3) := by decide +kernel
theorem dX1_parse_29 : decode cX1_parse 29 = .ok (.iload_n 2, 1) := by decide +kernel
theorem dX1_parse_30 : decode cX1_parse 30 = .ok (.aload_n 0, 1) := by decide +kernel
theorem dX1_parse_31 : decode cX1_parse 31 = .ok (.getfield 19, 3) := by decide +kernel
theorem dX1_parse_34 : decode cX1_parse 34 = .ok (.if_icmp .eq 14, 3) := by decide +kernel
theorem dX1_parse_37 : decode cX1_parse 37 = .ok (.aload_n 0, 1) := by decide +kernel
theorem dX1_parse_38 : decode cX1_parse 38 = .ok (.getfield 11, 3) := by decide +kernel
theorem dX1_parse_41 : decode cX1_parse 41 = .ok (.iload_n 2, 1) := by decide +kernel
theorem dX1_parse_42 : decode cX1_parse 42 = .ok (.caload, 1) := by decide +kernel
theorem dX1_parse_43 : decode cX1_parse 43 = .ok (.bipush 44, 2) := by decide +kernel
theorem dX1_parse_45 : decode cX1_parse 45 = .ok (.if_icmp .ne 22, 3) := by decide +kernel
theorem dX1_parse_48 : decode cX1_parse 48 = .ok (.aload_n 0, 1) := by decide +kernel
theorem dX1_parse_49 : decode cX1_parse 49 = .ok (.iload_n 1, 1) := by decide +kernel
theorem dX1_parse_50 : decode cX1_parse 50 = .ok (.putfield 29, 3) := by decide +kernel
theorem dX1_parse_53 : decode cX1_parse 53 = .ok (.aload_n 0, 1) := by decide +kernel
theorem dX1_parse_54 : decode cX1_parse 54 = .ok (.aload_n 0, 1) := by decide +kernel
theorem dX1_parse_55 : decode cX1_parse 55 = .ok (.iload_n 1, 1) := by decide +kernel
theorem dX1_parse_56 : decode cX1_parse 56 = .ok (.iload_n 2, 1) := by decide +kernel
theorem dX1_parse_57 : decode cX1_parse 57 = .ok (.invokevirtual 32, 3) := by decide +kernel
theorem dX1_parse_60 : decode cX1_parse 60 = .ok (.putfield 26, 3) := by decide +kernel
theorem dX1_parse_63 : decode cX1_parse 63 = .ok (.iload_n 2, 1) := by decide +kernel
theorem dX1_parse_64 : decode cX1_parse 64 = .ok (.iconst 1, 1) := by decide +kernel
theorem dX1_parse_65 : decode cX1_parse 65 = .ok (.iadd, 1) := by decide +kernel
theorem dX1_parse_66 : decode cX1_parse 66 = .ok (.istore_n 1, 1) := by decide +kernel
theorem dX1_parse_67 : decode cX1_parse 67 = .ok (.iinc 2 1, 3) := by decide +kernel
theorem dX1_parse_70 : decode cX1_parse 70 = .ok (.goto (-56), 3) := by decide +kernel
theorem dX1_parse_73 : decode cX1_parse 73 = .ok (.return_, 1) := by decide +kernel
set_option maxRecDepth 20000 in
theorem ggX1_takePart_X1_findCross : GoodIn wsX1_takePart wsX1_findCross := goodIn_r _ [7, 8, 19, 20, 21, 22, 23, 24] (by decide +kernel) (by decide +kernel)
set_option maxRecDepth 20000 in
theorem gX1_takePart_X1_findCross : GoodIn wsX1_takePart (wsV RX1 36 RX1 yX1_findCross wsX1_findCross) := goodIn_app (goodIn_of _ (by decide +kernel)) ggX1_takePart_X1_findCross
set_option maxRecDepth 20000 in
theorem ggX1_takePart_X1_number : GoodIn wsX1_takePart wsX1_number := goodIn_r _ [12, 8, 19, 20, 21, 22, 23, 24] (by decide +kernel) (by decide +kernel)
set_option maxRecDepth 20000 in
theorem gX1_takePart_X1_number : GoodIn wsX1_takePart (wsV RX1 39 RX1 yX1_number wsX1_number) := goodIn_app (goodIn_of _ (by decide +kernel)) ggX1_takePart_X1_number
set_option maxRecDepth 20000 in
theorem ggX1_takePart_X4_isThickness : GoodIn wsX1_takePart wsX4_isThickness := goodIn_r _ [15, 16, 17, 14, 18] (by decide +kernel) (by decide +kernel)
set_option maxRecDepth 20000 in
theorem gX1_takePart_X4_isThickness_n43 : GoodIn wsX1_takePart (wsX4_isThickness) := ggX1_takePart_X4_isThickness
set_option maxRecDepth 20000 in
theorem ggX1_takePart_X4_isBetween : GoodIn wsX1_takePart wsX4_isBetween := goodIn_r _ [18] (by decide +kernel) (by decide +kernel)
set_option maxRecDepth 20000 in
theorem gX1_takePart_X4_isBetween_n47 : GoodIn wsX1_takePart (wsX4_isBetween) := ggX1_takePart_X4_isBetween
theorem dX1_takePart_0 : decode cX1_takePart 0 = .ok (.aload_n 0, 1) := by decide +kernel
theorem dX1_takePart_1 : decode cX1_takePart 1 = .ok (.iload_n 1, 1) := by decide +kernel
theorem dX1_takePart_2 : decode cX1_takePart 2 = .ok (.iload_n 2, 1) := by decide +kernel
theorem dX1_takePart_3 : decode cX1_takePart 3 = .ok (.invokevirtual 36, 3) := by decide +kernel
theorem dX1_takePart_6 : decode cX1_takePart 6 = .ok (.istore_n 3, 1) := by decide +kernel
theorem dX1_takePart_7 : decode cX1_takePart 7 = .ok (.aload_n 0, 1) := by decide +kernel
theorem dX1_takePart_8 : decode cX1_takePart 8 = .ok (.iload_n 1, 1) := by decide +kernel
theorem dX1_takePart_9 : decode cX1_takePart 9 = .ok (.iload_n 3, 1) := by decide +kernel
theorem dX1_takePart_10 : decode cX1_takePart 10 = .ok (.iconst 4, 1) := by decide +kernel
theorem dX1_takePart_11 : decode cX1_takePart 11 = .ok (.invokevirtual 39, 3) := by decide +kernel
theorem dX1_takePart_14 : decode cX1_takePart 14 = .ok (.istore 4, 2) := by decide +kernel
theorem dX1_takePart_16 : decode cX1_takePart 16 = .ok (.iload_n 3, 1) := by decide +kernel
theorem dX1_takePart_17 : decode cX1_takePart 17 = .ok (.iload_n 2, 1) := by decide +kernel
theorem dX1_takePart_18 : decode cX1_takePart 18 = .ok (.if_icmp .ge 15, 3) := by decide +kernel
theorem dX1_takePart_21 : decode cX1_takePart 21 = .ok (.aload_n 0, 1) := by decide +kernel
theorem dX1_takePart_22 : decode cX1_takePart 22 = .ok (.iload_n 3, 1) := by decide +kernel
theorem dX1_takePart_23 : decode cX1_takePart 23 = .ok (.iconst 1, 1) := by decide +kernel
theorem dX1_takePart_24 : decode cX1_takePart 24 = .ok (.iadd, 1) := by decide +kernel
theorem dX1_takePart_25 : decode cX1_takePart 25 = .ok (.iload_n 2, 1) := by decide +kernel
theorem dX1_takePart_26 : decode cX1_takePart 26 = .ok (.iconst 2, 1) := by decide +kernel
theorem dX1_takePart_27 : decode cX1_takePart 27 = .ok (.invokevirtual 39, 3) := by decide +kernel
theorem dX1_takePart_30 : decode cX1_takePart 30 = .ok (.goto 4, 3) := by decide +kernel
theorem dX1_takePart_33 : decode cX1_takePart 33 = .ok (.iconst 1, 1) := by decide +kernel
theorem dX1_takePart_34 : decode cX1_takePart 34 = .ok (.istore 5, 2) := by decide +kernel
theorem dX1_takePart_36 : decode cX1_takePart 36 = .ok (.iload 4, 2) := by decide +kernel
theorem dX1_takePart_38 : decode cX1_takePart 38 = .ok (.iconst (-1), 1) := by decide +kernel
theorem dX1_takePart_39 : decode cX1_takePart 39 = .ok (.if_icmp .eq 9, 3) := by decide +kernel
theorem dX1_takePart_42 : decode cX1_takePart 42 = .ok (.iload 5, 2) := by decide +kernel
theorem dX1_takePart_44 : decode cX1_takePart 44 = .ok (.iconst (-1), 1) := by decide +kernel
theorem dX1_takePart_45 : decode cX1_takePart 45 = .ok (.if_icmp .ne 5, 3) := by decide +kernel
theorem dX1_takePart_48 : decode cX1_takePart 48 = .ok (.iconst 1, 1) := by decide +kernel
theorem dX1_takePart_49 : decode cX1_takePart 49 = .ok (.ireturn, 1) := by decide +kernel
theorem dX1_takePart_50 : decode cX1_takePart 50 = .ok (.iload 4, 2) := by decide +kernel
theorem dX1_takePart_52 : decode cX1_takePart 52 = .ok (.invokestatic 43, 3) := by decide +kernel
theorem dX1_takePart_55 : decode cX1_takePart 55 = .ok (.ifCond .eq 14, 3) := by decide +kernel
theorem dX1_takePart_58 : decode cX1_takePart 58 = .ok (.iload 5, 2) := by decide +kernel
theorem dX1_takePart_60 : decode cX1_takePart 60 = .ok (.iconst 1, 1) := by decide +kernel
theorem dX1_takePart_61 : decode cX1_takePart 61 = .ok (.bipush 24, 2) := by decide +kernel
theorem dX1_takePart_63 : decode cX1_takePart 63 = .ok (.invokestatic 47, 3) := by decide +kernel
theorem dX1_takePart_66 : decode cX1_takePart 66 = .ok (.ifCond .ne 5, 3) := by decide +kernel
theorem dX1_takePart_69 : decode cX1_takePart 69 = .ok (.iconst 2, 1) := by decide +kernel
theorem dX1_takePart_70 : decode cX1_takePart 70 = .ok (.ireturn, 1) := by decide +kernel
theorem dX1_takePart_71 : decode cX1_takePart 71 = .ok (.aload_n 0, 1) := by decide +kernel
theorem dX1_takePart_72 : decode cX1_takePart 72 = .ok (.getfield 23, 3) := by decide +kernel
theorem dX1_takePart_75 : decode cX1_takePart 75 = .ok (.iload 5, 2) := by decide +kernel
theorem dX1_takePart_77 : decode cX1_takePart 77 = .ok (.iadd, 1) := by decide +kernel
theorem dX1_takePart_78 : decode cX1_takePart 78 = .ok (.bipush 24, 2) := by decide +kernel
theorem dX1_takePart_80 : decode cX1_takePart 80 = .ok (.if_icmp .le 5, 3) := by decide +kernel
theorem dX1_takePart_83 : decode cX1_takePart 83 = .ok (.iconst 3, 1) := by decide +kernel
theorem dX1_takePart_84 : decode cX1_takePart 84 = .ok (.ireturn, 1) := by decide +kernel
theorem dX1_takePart_85 : decode cX1_takePart 85 = .ok (.iconst 0, 1) := by decide +kernel
theorem dX1_takePart_86 : decode cX1_takePart 86 = .ok (.istore 6, 2) := by decide +kernel
theorem dX1_takePart_88 : decode cX1_takePart 88 = .ok (.iload 6, 2) := by decide +kernel
theorem dX1_takePart_90 : decode cX1_takePart 90 = .ok (.iload 5, 2) := by decide +kernel
theorem dX1_takePart_92 : decode cX1_takePart 92 = .ok (.if_icmp .ge 30, 3) := by decide +kernel
theorem dX1_takePart_95 : decode cX1_takePart 95 = .ok (.aload_n 0, 1) := by decide +kernel
theorem dX1_takePart_96 : decode cX1_takePart 96 = .ok (.getfield 15, 3) := by decide +kernel
theorem dX1_takePart_99 : decode cX1_takePart 99 = .ok (.aload_n 0, 1) := by decide +kernel
theorem dX1_takePart_100 : decode cX1_takePart 100 = .ok (.getfield 23, 3) := by decide +kernel
theorem dX1_takePart_103 : decode cX1_takePart 103 = .ok (.iload 4, 2) := by decide +kernel
theorem dX1_takePart_105 : decode cX1_takePart 105 = .ok (.iastore, 1) := by decide +kernel
theorem dX1_takePart_106 : decode cX1_takePart 106 = .ok (.aload_n 0, 1) := by decide +kernel
theorem dX1_takePart_107 : decode cX1_takePart 107 = .ok (.dup, 1) := by decide +kernel
theorem dX1_takePart_108 : decode cX1_takePart 108 = .ok (.getfield 23, 3) := by decide +kernel
theorem dX1_takePart_111 : decode cX1_takePart 111 = .ok (.iconst 1, 1) := by decide +kernel
theorem dX1_takePart_112 : decode cX1_takePart 112 = .ok (.iadd, 1) := by decide +kernel
theorem dX1_takePart_113 : decode cX1_takePart 113 = .ok (.putfield 23, 3) := by decide +kernel
theorem dX1_takePart_116 : decode cX1_takePart 116 = .ok (.iinc 6 1, 3) := by decide +kernel
theorem dX1_takePart_119 : decode cX1_takePart 119 = .ok (.goto (-31), 3) := by decide +kernel
theorem dX1_takePart_122 : decode cX1_takePart 122 = .ok (.iconst 0, 1) := by decide +kernel
theorem dX1_takePart_123 : decode cX1_takePart 123 = .ok (.ireturn, 1) := by decide +kernel
theorem dX1_findCross_0 : decode cX1_findCross 0 = .ok (.iload_n 1, 1) := by decide +kernel
theorem dX1_findCross_1 : decode cX1_findCross 1 = .ok (.istore_n 3, 1) := by decide +kernel
theorem dX1_findCross_2 : decode cX1_findCross 2 = .ok (.iload_n 3, 1) := by decide +kernel
theorem dX1_findCross_3 : decode cX1_findCross 3 = .ok (.iload_n 2, 1) := by decide +kernel
theorem dX1_findCross_4 : decode cX1_findCross 4 = .ok (.if_icmp .ge 22, 3) := by decide +kernel
theorem dX1_findCross_7 : decode cX1_findCross 7 = .ok (.aload_n 0, 1) := by decide +kernel
theorem dX1_findCross_8 : decode cX1_findCross 8 = .ok (.getfield 11, 3) := by decide +kernel
theorem dX1_findCross_11 : decode cX1_findCross 11 = .ok (.iload_n 3, 1) := by decide +kernel
theorem dX1_findCross_12 : decode cX1_findCross 12 = .ok (.caload, 1) := by decide +kernel
theorem dX1_findCross_13 : decode cX1_findCross 13 = .ok (.bipush 120, 2) := by decide +kernel
theorem dX1_findCross_15 : decode cX1_findCross 15 = .ok (.if_icmp .ne 5, 3) := by decide +kernel
theorem dX1_findCross_18 : decode cX1_findCross 18 = .ok (.iload_n 3, 1) := by decide +kernel
theorem dX1_findCross_19 : decode cX1_findCross 19 = .ok (.ireturn, 1) := by decide +kernel
theorem dX1_findCross_20 : decode cX1_findCross 20 = .ok (.iinc 3 1, 3) := by decide +kernel
theorem dX1_findCross_23 : decode cX1_findCross 23 = .ok (.goto (-21), 3) := by decide +kernel
theorem dX1_findCross_26 : decode cX1_findCross 26 = .ok (.iload_n 2, 1) := by decide +kernel
theorem dX1_findCross_27 : decode cX1_findCross 27 = .ok (.ireturn, 1) := by decide +kernel
theorem dX1_number_0 : decode cX1_number 0 = .ok (.iload_n 2, 1) := by decide +kernel
theorem dX1_number_1 : decode cX1_number 1 = .ok (.iload_n 1, 1) := by decide +kernel
theorem dX1_number_2 : decode cX1_number 2 = .ok (.isub, 1) := by decide +kernel
theorem dX1_number_3 : decode cX1_number 3 = .ok (.iconst 1, 1) := by decide +kernel
theorem dX1_number_4 : decode cX1_number 4 = .ok (.if_icmp .lt 10, 3) := by decide +kernel
theorem dX1_number_7 : decode cX1_number 7 = .ok (.iload_n 2, 1) := by decide +kernel
theorem dX1_number_8 : decode cX1_number 8 = .ok (.iload_n 1, 1) := by decide +kernel
theorem dX1_number_9 : decode cX1_number 9 = .ok (.isub, 1) := by decide +kernel
theorem dX1_number_10 : decode cX1_number 10 = .ok (.iload_n 3, 1) := by decide +kernel
theorem dX1_number_11 : decode cX1_number 11 = .ok (.if_icmp .le 5, 3) := by decide +kernel
theorem dX1_number_14 : decode cX1_number 14 = .ok (.iconst (-1), 1) := by decide +kernel
theorem dX1_number_15 : decode cX1_number 15 = .ok (.ireturn, 1) := by decide +kernel
theorem dX1_number_16 : decode cX1_number 16 = .ok (.iconst 0, 1) := by decide +kernel
theorem dX1_number_17 : decode cX1_number 17 = .ok (.istore 4, 2) := by decide +kernel
theorem dX1_number_19 : decode cX1_number 19 = .ok (.iload_n 1, 1) := by decide +kernel
theorem dX1_number_20 : decode cX1_number 20 = .ok (.istore 5, 2) := by decide +kernel
theorem dX1_number_22 : decode cX1_number 22 = .ok (.iload 5, 2) := by decide +kernel
theorem dX1_number_24 : decode cX1_number 24 = .ok (.iload_n 2, 1) := by decide +kernel
theorem dX1_number_25 : decode cX1_number 25 = .ok (.if_icmp .ge 53, 3) := by decide +kernel
theorem dX1_number_28 : decode cX1_number 28 = .ok (.aload_n 0, 1) := by decide +kernel
theorem dX1_number_29 : decode cX1_number 29 = .ok (.getfield 11, 3) := by decide +kernel
theorem dX1_number_32 : decode cX1_number 32 = .ok (.iload 5, 2) := by decide +kernel
theorem dX1_number_34 : decode cX1_number 34 = .ok (.caload, 1) := by decide +kernel
theorem dX1_number_35 : decode cX1_number 35 = .ok (.bipush 48, 2) := by decide +kernel
theorem dX1_number_37 : decode cX1_number 37 = .ok (.if_icmp .lt 15, 3) := by decide +kernel
theorem dX1_number_40 : decode cX1_number 40 = .ok (.aload_n 0, 1) := by decide +kernel
theorem dX1_number_41 : decode cX1_number 41 = .ok (.getfield 11, 3) := by decide +kernel
theorem dX1_number_44 : decode cX1_number 44 = .ok (.iload 5, 2) := by decide +kernel
theorem dX1_number_46 : decode cX1_number 46 = .ok (.caload, 1) := by decide +kernel
theorem dX1_number_47 : decode cX1_number 47 = .ok (.bipush 57, 2) := by decide +kernel
theorem dX1_number_49 : decode cX1_number 49 = .ok (.if_icmp .le 5, 3) := by decide +kernel
theorem dX1_number_52 : decode cX1_number 52 = .ok (.iconst (-1), 1) := by decide +kernel
theorem dX1_number_53 : decode cX1_number 53 = .ok (.ireturn, 1) := by decide +kernel
theorem dX1_number_54 : decode cX1_number 54 = .ok (.iload 4, 2) := by decide +kernel
theorem dX1_number_56 : decode cX1_number 56 = .ok (.bipush 10, 2) := by decide +kernel
theorem dX1_number_58 : decode cX1_number 58 = .ok (.imul, 1) := by decide +kernel
theorem dX1_number_59 : decode cX1_number 59 = .ok (.aload_n 0, 1) := by decide +kernel
theorem dX1_number_60 : decode cX1_number 60 = .ok (.getfield 11, 3) := by decide +kernel
theorem dX1_number_63 : decode cX1_number 63 = .ok (.iload 5, 2) := by decide +kernel
theorem dX1_number_65 : decode cX1_number 65 = .ok (.caload, 1) := by decide +kernel
theorem dX1_number_66 : decode cX1_number 66 = .ok (.iadd, 1) := by decide +kernel
theorem dX1_number_67 : decode cX1_number 67 = .ok (.bipush 48, 2) := by decide +kernel
theorem dX1_number_69 : decode cX1_number 69 = .ok (.isub, 1) := by decide +kernel
theorem dX1_number_70 : decode cX1_number 70 = .ok (.istore 4, 2) := by decide +kernel
theorem dX1_number_72 : decode cX1_number 72 = .ok (.iinc 5 1, 3) := by decide +kernel
theorem dX1_number_75 : decode cX1_number 75 = .ok (.goto (-53), 3) := by decide +kernel
theorem dX1_number_78 : decode cX1_number 78 = .ok (.iload 4, 2) := by decide +kernel
theorem dX1_number_80 : decode cX1_number 80 = .ok (.ireturn, 1) := by decide +kernel
set_option maxRecDepth 20000 in
theorem ggX2_init_X0_init : GoodIn wsX2_init wsX0_init := goodIn_r _ [10, 11, 2, 3, 12, 13, 14, 15, 16, 17, 18, 19, 22, 23, 24, 25, 26, 27, 28, 29, 30, 31] (by decide +kernel) (by decide +kernel)
set_option maxRecDepth 20000 in
theorem gX2_init_X0_init : GoodIn wsX2_init (wsX0_init) := ggX2_init_X0_init
theorem dX2_init_0 : decode cX2_init 0 = .ok (.aload_n 0, 1) := by decide +kernel
theorem dX2_init_1 : decode cX2_init 1 = .ok (.invokespecial 1, 3) := by decide +kernel
theorem dX2_init_4 : decode cX2_init 4 = .ok (.aload_n 0, 1) := by decide +kernel
theorem dX2_init_5 : decode cX2_init 5 = .ok (.iconst 5, 1) := by decide +kernel
theorem dX2_init_6 : decode cX2_init 6 = .ok (.anewarray 9, 3) := by decide +kernel
theorem dX2_init_9 : decode cX2_init 9 = .ok (.putfield 11, 3) := by decide +kernel
theorem dX2_init_12 : decode cX2_init 12 = .ok (.iconst 0, 1) := by decide +kernel
theorem dX2_init_13 : decode cX2_init 13 = .ok (.istore_n 1, 1) := by decide +kernel
theorem dX2_init_14 : decode cX2_init 14 = .ok (.iload_n 1, 1) := by decide +kernel
theorem dX2_init_15 : decode cX2_init 15 = .ok (.iconst 5, 1) := by decide +kernel
theorem dX2_init_16 : decode cX2_init 16 = .ok (.if_icmp .ge 22, 3) := by decide +kernel
theorem dX2_init_19 : decode cX2_init 19 = .ok (.aload_n 0, 1) := by decide +kernel
theorem dX2_init_20 : decode cX2_init 20 = .ok (.getfield 11, 3) := by decide +kernel
theorem dX2_init_23 : decode cX2_init 23 = .ok (.iload_n 1, 1) := by decide +kernel
theorem dX2_init_24 : decode cX2_init 24 = .ok (.new 9, 3) := by decide +kernel
theorem dX2_init_27 : decode cX2_init 27 = .ok (.dup, 1) := by decide +kernel
theorem dX2_init_28 : decode cX2_init 28 = .ok (.invokespecial 15, 3) := by decide +kernel
theorem dX2_init_31 : decode cX2_init 31 = .ok (.aastore, 1) := by decide +kernel
theorem dX2_init_32 : decode cX2_init 32 = .ok (.iinc 1 1, 3) := by decide +kernel
theorem dX2_init_35 : decode cX2_init 35 = .ok (.goto (-21), 3) := by decide +kernel
theorem dX2_init_38 : decode cX2_init 38 = .ok (.return_, 1) := by decide +kernel
set_option maxRecDepth 20000 in
theorem ggX2_keep_X2_dropOldest : GoodIn wsX2_keep wsX2_dropOldest := goodIn_r _ [7, 2, 1, 27, 28] (by decide +kernel) (by decide +kernel)
set_option maxRecDepth 20000 in
theorem gX2_keep_X2_dropOldest : GoodIn wsX2_keep (wsV RX2 20 RX2 yX2_dropOldest wsX2_dropOldest) := goodIn_app (goodIn_of _ (by decide +kernel)) ggX2_keep_X2_dropOldest
set_option maxRecDepth 20000 in
theorem ggX2_keep_X0_copyFrom : GoodIn wsX2_keep wsX0_copyFrom := goodIn_r _ [12, 13, 14, 15, 16, 17, 18, 19, 20, 21, 22, 23, 24, 25, 26, 29, 30, 31, 32, 33, 34, 35, 36, 37, 38] (by decide +kernel) (by decide +kernel)
set_option maxRecDepth 20000 in
theorem gX2_keep_X0_copyFrom : GoodIn wsX2_keep (wsV RX2 23 RX0 yX0_copyFrom wsX0_copyFrom) := goodIn_app (goodIn_of _ (by decide +kernel)) ggX2_keep_X0_copyFrom
theorem dX2_keep_0 : decode cX2_keep 0 = .ok (.aload_n 0, 1) := by decide +kernel
theorem dX2_keep_1 : decode cX2_keep 1 = .ok (.getfield 16, 3) := by decide +kernel
theorem dX2_keep_4 : decode cX2_keep 4 = .ok (.iconst 5, 1) := by decide +kernel
theorem dX2_keep_5 : decode cX2_keep 5 = .ok (.if_icmp .ne 7, 3) := by decide +kernel
theorem dX2_keep_8 : decode cX2_keep 8 = .ok (.aload_n 0, 1) := by decide +kernel
theorem dX2_keep_9 : decode cX2_keep 9 = .ok (.invokevirtual 20, 3) := by decide +kernel
theorem dX2_keep_12 : decode cX2_keep 12 = .ok (.aload_n 0, 1) := by decide +kernel
theorem dX2_keep_13 : decode cX2_keep 13 = .ok (.getfield 11, 3) := by decide +kernel
theorem dX2_keep_16 : decode cX2_keep 16 = .ok (.aload_n 0, 1) := by decide +kernel
theorem dX2_keep_17 : decode cX2_keep 17 = .ok (.getfield 16, 3) := by decide +kernel
theorem dX2_keep_20 : decode cX2_keep 20 = .ok (.aaload, 1) := by decide +kernel
theorem dX2_keep_21 : decode cX2_keep 21 = .ok (.aload_n 1, 1) := by decide +kernel
theorem dX2_keep_22 : decode cX2_keep 22 = .ok (.invokevirtual 23, 3) := by decide +kernel
theorem dX2_keep_25 : decode cX2_keep 25 = .ok (.aload_n 0, 1) := by decide +kernel
theorem dX2_keep_26 : decode cX2_keep 26 = .ok (.dup, 1) := by decide +kernel
theorem dX2_keep_27 : decode cX2_keep 27 = .ok (.getfield 16, 3) := by decide +kernel
theorem dX2_keep_30 : decode cX2_keep 30 = .ok (.iconst 1, 1) := by decide +kernel
theorem dX2_keep_31 : decode cX2_keep 31 = .ok (.iadd, 1) := by decide +kernel
theorem dX2_keep_32 : decode cX2_keep 32 = .ok (.putfield 16, 3) := by decide +kernel
theorem dX2_keep_35 : decode cX2_keep 35 = .ok (.return_, 1) := by decide +kernel
set_option maxRecDepth 20000 in
theorem ggX2_restore_X0_copyFrom : GoodIn wsX2_restore wsX0_copyFrom := goodIn_r _ [7, 8, 9, 10, 11, 12, 13, 14, 15, 16, 17, 18, 19, 20, 21, 24, 25, 26, 27, 28, 29, 30, 31, 32, 33] (by decide +kernel) (by decide +kernel)
set_option maxRecDepth 20000 in
theorem gX2_restore_X0_copyFrom : GoodIn wsX2_restore (wsV RX2 23 RX0 yX0_copyFrom wsX0_copyFrom) := goodIn_app (goodIn_of _ (by decide +kernel)) ggX2_restore_X0_copyFrom
theorem dX2_restore_0 : decode cX2_restore 0 = .ok (.aload_n 0, 1) := by decide +kernel
theorem dX2_restore_1 : decode cX2_restore 1 = .ok (.getfield 16, 3) := by decide +kernel
theorem dX2_restore_4 : decode cX2_restore 4 = .ok (.ifCond .le 26, 3) := by decide +kernel
theorem dX2_restore_7 : decode cX2_restore 7 = .ok (.aload_n 0, 1) := by decide +kernel
theorem dX2_restore_8 : decode cX2_restore 8 = .ok (.dup, 1) := by decide +kernel
theorem dX2_restore_9 : decode cX2_restore 9 = .ok (.getfield 16, 3) := by decide +kernel
theorem dX2_restore_12 : decode cX2_restore 12 = .ok (.iconst 1, 1) := by decide +kernel
theorem dX2_restore_13 : decode cX2_restore 13 = .ok (.isub, 1) := by decide +kernel
theorem dX2_restore_14 : decode cX2_restore 14 = .ok (.putfield 16, 3) := by decide +kernel
theorem dX2_restore_17 : decode cX2_restore 17 = .ok (.aload_n 1, 1) := by decide +kernel
theorem dX2_restore_18 : decode cX2_restore 18 = .ok (.aload_n 0, 1) := by decide +kernel
theorem dX2_restore_19 : decode cX2_restore 19 = .ok (.getfield 11, 3) := by decide +kernel
theorem dX2_restore_22 : decode cX2_restore 22 = .ok (.aload_n 0, 1) := by decide +kernel
theorem dX2_restore_23 : decode cX2_restore 23 = .ok (.getfield 16, 3) := by decide +kernel
theorem dX2_restore_26 : decode cX2_restore 26 = .ok (.aaload, 1) := by decide +kernel
theorem dX2_restore_27 : decode cX2_restore 27 = .ok (.invokevirtual 23, 3) := by decide +kernel
theorem dX2_restore_30 : decode cX2_restore 30 = .ok (.return_, 1) := by decide +kernel
theorem dX2_dropOldest_0 : decode cX2_dropOldest 0 = .ok (.aload_n 0, 1) := by decide +kernel
theorem dX2_dropOldest_1 : decode cX2_dropOldest 1 = .ok (.getfield 11, 3) := by decide +kernel
theorem dX2_dropOldest_4 : decode cX2_dropOldest 4 = .ok (.iconst 0, 1) := by decide +kernel
theorem dX2_dropOldest_5 : decode cX2_dropOldest 5 = .ok (.aaload, 1) := by decide +kernel
theorem dX2_dropOldest_6 : decode cX2_dropOldest 6 = .ok (.astore_n 1, 1) := by decide +kernel
theorem dX2_dropOldest_7 : decode cX2_dropOldest 7 = .ok (.iconst 1, 1) := by decide +kernel
theorem dX2_dropOldest_8 : decode cX2_dropOldest 8 = .ok (.istore_n 2, 1) := by decide +kernel
theorem dX2_dropOldest_9 : decode cX2_dropOldest 9 = .ok (.iload_n 2, 1) := by decide +kernel
theorem dX2_dropOldest_10 : decode cX2_dropOldest 10 = .ok (.iconst 5, 1) := by decide +kernel
theorem dX2_dropOldest_11 : decode cX2_dropOldest 11 = .ok (.if_icmp .ge 23, 3) := by decide +kernel
theorem dX2_dropOldest_14 : decode cX2_dropOldest 14 = .ok (.aload_n 0, 1) := by decide +kernel
theorem dX2_dropOldest_15 : decode cX2_dropOldest 15 = .ok (.getfield 11, 3) := by decide +kernel
theorem dX2_dropOldest_18 : decode cX2_dropOldest 18 = .ok (.iload_n 2, 1) := by decide +kernel
theorem dX2_dropOldest_19 : decode cX2_dropOldest 19 = .ok (.iconst 1, 1) := by decide +kernel
theorem dX2_dropOldest_20 : decode cX2_dropOldest 20 = .ok (.isub, 1) := by decide +kernel
theorem dX2_dropOldest_21 : decode cX2_dropOldest 21 = .ok (.aload_n 0, 1) := by decide +kernel
theorem dX2_dropOldest_22 : decode cX2_dropOldest 22 = .ok (.getfield 11, 3) := by decide +kernel
theorem dX2_dropOldest_25 : decode cX2_dropOldest 25 = .ok (.iload_n 2, 1) := by decide +kernel
theorem dX2_dropOldest_26 : decode cX2_dropOldest 26 = .ok (.aaload, 1) := by decide +kernel
theorem dX2_dropOldest_27 : decode cX2_dropOldest 27 = .ok (.aastore, 1) := by decide +kernel
theorem dX2_dropOldest_28 : decode cX2_dropOldest 28 = .ok (.iinc 2 1, 3) := by decide +kernel
theorem dX2_dropOldest_31 : decode cX2_dropOldest 31 = .ok (.goto (-22), 3) := by decide +kernel
theorem dX2_dropOldest_34 : decode cX2_dropOldest 34 = .ok (.aload_n 0, 1) := by decide +kernel
theorem dX2_dropOldest_35 : decode cX2_dropOldest 35 = .ok (.getfield 11, 3) := by decide +kernel
theorem dX2_dropOldest_38 : decode cX2_dropOldest 38 = .ok (.iconst 4, 1) := by decide +kernel
theorem dX2_dropOldest_39 : decode cX2_dropOldest 39 = .ok (.aload_n 1, 1) := by decide +kernel
theorem dX2_dropOldest_40 : decode cX2_dropOldest 40 = .ok (.aastore, 1) := by decide +kernel
theorem dX2_dropOldest_41 : decode cX2_dropOldest 41 = .ok (.aload_n 0, 1) := by decide +kernel
theorem dX2_dropOldest_42 : decode cX2_dropOldest 42 = .ok (.dup, 1) := by decide +kernel
theorem dX2_dropOldest_43 : decode cX2_dropOldest 43 = .ok (.getfield 16, 3) := by decide +kernel
theorem dX2_dropOldest_46 : decode cX2_dropOldest 46 = .ok (.iconst 1, 1) := by decide +kernel
theorem dX2_dropOldest_47 : decode cX2_dropOldest 47 = .ok (.isub, 1) := by decide +kernel
theorem dX2_dropOldest_48 : decode cX2_dropOldest 48 = .ok (.putfield 16, 3) := by decide +kernel
theorem dX2_dropOldest_51 : decode cX2_dropOldest 51 = .ok (.return_, 1) := by decide +kernel
theorem dX3_path_0 : decode cX3_path 0 = .ok (.iload_n 0, 1) := by decide +kernel
theorem dX3_path_1 : decode cX3_path 1 = .ok (.sipush 266, 3) := by decide +kernel
theorem dX3_path_4 : decode cX3_path 4 = .ok (.imul, 1) := by decide +kernel
theorem dX3_path_5 : decode cX3_path 5 = .ok (.bipush 100, 2) := by decide +kernel
theorem dX3_path_7 : decode cX3_path 7 = .ok (.idiv, 1) := by decide +kernel
theorem dX3_path_8 : decode cX3_path 8 = .ok (.ireturn, 1) := by decide +kernel
set_option maxRecDepth 20000 in
theorem ggX3_red_X3_brightness : GoodIn wsX3_red wsX3_brightness := goodIn_r _ [4] (by decide +kernel) (by decide +kernel)
set_option maxRecDepth 20000 in
theorem gX3_red_X3_brightness : GoodIn wsX3_red (va_wsS RX3 9 yX3_brightness wsX3_brightness) := goodIn_app (goodIn_of _ (by decide +kernel)) ggX3_red_X3_brightness
theorem dX3_red_0 : decode cX3_red 0 = .ok (.iload_n 0, 1) := by decide +kernel
theorem dX3_red_1 : decode cX3_red 1 = .ok (.sipush 1000, 3) := by decide +kernel
theorem dX3_red_4 : decode cX3_red 4 = .ok (.imul, 1) := by decide +kernel
theorem dX3_red_5 : decode cX3_red 5 = .ok (.sipush 650, 3) := by decide +kernel
theorem dX3_red_8 : decode cX3_red 8 = .ok (.idiv, 1) := by decide +kernel
theorem dX3_red_9 : decode cX3_red 9 = .ok (.invokestatic 9, 3) := by decide +kernel
theorem dX3_red_12 : decode cX3_red 12 = .ok (.ireturn, 1) := by decide +kernel
set_option maxRecDepth 20000 in
theorem ggX3_green_X3_brightness : GoodIn wsX3_green wsX3_brightness := goodIn_r _ [4] (by decide +kernel) (by decide +kernel)
set_option maxRecDepth 20000 in
theorem gX3_green_X3_brightness : GoodIn wsX3_green (va_wsS RX3 9 yX3_brightness wsX3_brightness) := goodIn_app (goodIn_of _ (by decide +kernel)) ggX3_green_X3_brightness
theorem dX3_green_0 : decode cX3_green 0 = .ok (.iload_n 0, 1) := by decide +kernel
theorem dX3_green_1 : decode cX3_green 1 = .ok (.sipush 1000, 3) := by decide +kernel
theorem dX3_green_4 : decode cX3_green 4 = .ok (.imul, 1) := by decide +kernel
theorem dX3_green_5 : decode cX3_green 5 = .ok (.sipush 530, 3) := by decide +kernel
theorem dX3_green_8 : decode cX3_green 8 = .ok (.idiv, 1) := by decide +kernel
theorem dX3_green_9 : decode cX3_green 9 = .ok (.invokestatic 9, 3) := by decide +kernel
theorem dX3_green_12 : decode cX3_green 12 = .ok (.ireturn, 1) := by decide +kernel
set_option maxRecDepth 20000 in
theorem ggX3_blue_X3_brightness : GoodIn wsX3_blue wsX3_brightness := goodIn_r _ [4] (by decide +kernel) (by decide +kernel)
set_option maxRecDepth 20000 in
theorem gX3_blue_X3_brightness : GoodIn wsX3_blue (va_wsS RX3 9 yX3_brightness wsX3_brightness) := goodIn_app (goodIn_of _ (by decide +kernel)) ggX3_blue_X3_brightness
theorem dX3_blue_0 : decode cX3_blue 0 = .ok (.iload_n 0, 1) := by decide +kernel
theorem dX3_blue_1 : decode cX3_blue 1 = .ok (.sipush 1000, 3) := by decide +kernel
theorem dX3_blue_4 : decode cX3_blue 4 = .ok (.imul, 1) := by decide +kernel
theorem dX3_blue_5 : decode cX3_blue 5 = .ok (.sipush 460, 3) := by decide +kernel
theorem dX3_blue_8 : decode cX3_blue 8 = .ok (.idiv, 1) := by decide +kernel
theorem dX3_blue_9 : decode cX3_blue 9 = .ok (.invokestatic 9, 3) := by decide +kernel
theorem dX3_blue_12 : decode cX3_blue 12 = .ok (.ireturn, 1) := by decide +kernel
theorem dX3_order_0 : decode cX3_order 0 = .ok (.iload_n 0, 1) := by decide +kernel
theorem dX3_order_1 : decode cX3_order 1 = .ok (.sipush 530, 3) := by decide +kernel
theorem dX3_order_4 : decode cX3_order 4 = .ok (.idiv, 1) := by decide +kernel
theorem dX3_order_5 : decode cX3_order 5 = .ok (.ireturn, 1) := by decide +kernel
set_option maxRecDepth 20000 in
theorem ggX3_colour_X3_path : GoodIn wsX3_colour wsX3_path := goodIn_r _ [4] (by decide +kernel) (by decide +kernel)
set_option maxRecDepth 20000 in
theorem gX3_colour_X3_path : GoodIn wsX3_colour (va_wsS RX3 13 yX3_path wsX3_path) := goodIn_app (goodIn_of _ (by decide +kernel)) ggX3_colour_X3_path
set_option maxRecDepth 20000 in
theorem ggX3_colour_X3_red : GoodIn wsX3_colour wsX3_red := goodIn_r _ [7, 8, 9, 3, 10] (by decide +kernel) (by decide +kernel)
set_option maxRecDepth 20000 in
theorem gX3_colour_X3_red : GoodIn wsX3_colour (va_wsS RX3 16 yX3_red wsX3_red) := goodIn_app (goodIn_of _ (by decide +kernel)) ggX3_colour_X3_red
set_option maxRecDepth 20000 in
theorem ggX3_colour_X3_green : GoodIn wsX3_colour wsX3_green := goodIn_r _ [13, 8, 9, 3, 10] (by decide +kernel) (by decide +kernel)
set_option maxRecDepth 20000 in
theorem gX3_colour_X3_green : GoodIn wsX3_colour (va_wsS RX3 19 yX3_green wsX3_green) := goodIn_app (goodIn_of _ (by decide +kernel)) ggX3_colour_X3_green
set_option maxRecDepth 20000 in
theorem ggX3_colour_X3_blue : GoodIn wsX3_colour wsX3_blue := goodIn_r _ [16, 8, 9, 3, 10] (by decide +kernel) (by decide +kernel)
set_option maxRecDepth 20000 in
theorem gX3_colour_X3_blue : GoodIn wsX3_colour (va_wsS RX3 22 yX3_blue wsX3_blue) := goodIn_app (goodIn_of _ (by decide +kernel)) ggX3_colour_X3_blue
theorem dX3_colour_0 : decode cX3_colour 0 = .ok (.iload_n 0, 1) := by decide +kernel
theorem dX3_colour_1 : decode cX3_colour 1 = .ok (.iload_n 1, 1) := by decide +kernel
theorem dX3_colour_2 : decode cX3_colour 2 = .ok (.if_icmp .ge 5, 3) := by decide +kernel
theorem dX3_colour_5 : decode cX3_colour 5 = .ok (.iconst 0, 1) := by decide +kernel
theorem dX3_colour_6 : decode cX3_colour 6 = .ok (.ireturn, 1) := by decide +kernel
theorem dX3_colour_7 : decode cX3_colour 7 = .ok (.iload_n 0, 1) := by decide +kernel
theorem dX3_colour_8 : decode cX3_colour 8 = .ok (.invokestatic 13, 3) := by decide +kernel
theorem dX3_colour_11 : decode cX3_colour 11 = .ok (.istore_n 2, 1) := by decide +kernel
theorem dX3_colour_12 : decode cX3_colour 12 = .ok (.iload_n 2, 1) := by decide +kernel
theorem dX3_colour_13 : decode cX3_colour 13 = .ok (.invokestatic 16, 3) := by decide +kernel
theorem dX3_colour_16 : decode cX3_colour 16 = .ok (.sipush 500, 3) := by decide +kernel
theorem dX3_colour_19 : decode cX3_colour 19 = .ok (.if_icmp .lt 7, 3) := by decide +kernel
theorem dX3_colour_22 : decode cX3_colour 22 = .ok (.iconst 4, 1) := by decide +kernel
theorem dX3_colour_23 : decode cX3_colour 23 = .ok (.goto 4, 3) := by decide +kernel
theorem dX3_colour_26 : decode cX3_colour 26 = .ok (.iconst 0, 1) := by decide +kernel
theorem dX3_colour_27 : decode cX3_colour 27 = .ok (.istore_n 3, 1) := by decide +kernel
theorem dX3_colour_28 : decode cX3_colour 28 = .ok (.iload_n 2, 1) := by decide +kernel
theorem dX3_colour_29 : decode cX3_colour 29 = .ok (.invokestatic 19, 3) := by decide +kernel
theorem dX3_colour_32 : decode cX3_colour 32 = .ok (.sipush 500, 3) := by decide +kernel
theorem dX3_colour_35 : decode cX3_colour 35 = .ok (.if_icmp .lt 6, 3) := by decide +kernel
theorem dX3_colour_38 : decode cX3_colour 38 = .ok (.iinc 3 2, 3) := by decide +kernel
theorem dX3_colour_41 : decode cX3_colour 41 = .ok (.iload_n 2, 1) := by decide +kernel
theorem dX3_colour_42 : decode cX3_colour 42 = .ok (.invokestatic 22, 3) := by decide +kernel
theorem dX3_colour_45 : decode cX3_colour 45 = .ok (.sipush 500, 3) := by decide +kernel
theorem dX3_colour_48 : decode cX3_colour 48 = .ok (.if_icmp .lt 6, 3) := by decide +kernel
theorem dX3_colour_51 : decode cX3_colour 51 = .ok (.iinc 3 1, 3) := by decide +kernel
theorem dX3_colour_54 : decode cX3_colour 54 = .ok (.iload_n 3, 1) := by decide +kernel
theorem dX3_colour_55 : decode cX3_colour 55 = .ok (.ireturn, 1) := by decide +kernel
theorem dX3_brightness_0 : decode cX3_brightness 0 = .ok (.iload_n 0, 1) := by decide +kernel
theorem dX3_brightness_1 : decode cX3_brightness 1 = .ok (.sipush 1000, 3) := by decide +kernel
theorem dX3_brightness_4 : decode cX3_brightness 4 = .ok (.irem, 1) := by decide +kernel
theorem dX3_brightness_5 : decode cX3_brightness 5 = .ok (.istore_n 1, 1) := by decide +kernel
theorem dX3_brightness_6 : decode cX3_brightness 6 = .ok (.iload_n 1, 1) := by decide +kernel
theorem dX3_brightness_7 : decode cX3_brightness 7 = .ok (.sipush 500, 3) := by decide +kernel
theorem dX3_brightness_10 : decode cX3_brightness 10 = .ok (.if_icmp .gt 9, 3) := by decide +kernel
theorem dX3_brightness_13 : decode cX3_brightness 13 = .ok (.iconst 2, 1) := by decide +kernel
theorem dX3_brightness_14 : decode cX3_brightness 14 = .ok (.iload_n 1, 1) := by decide +kernel
theorem dX3_brightness_15 : decode cX3_brightness 15 = .ok (.imul, 1) := by decide +kernel
theorem dX3_brightness_16 : decode cX3_brightness 16 = .ok (.goto 10, 3) := by decide +kernel
theorem dX3_brightness_19 : decode cX3_brightness 19 = .ok (.iconst 2, 1) := by decide +kernel
theorem dX3_brightness_20 : decode cX3_brightness 20 = .ok (.sipush 1000, 3) := by decide +kernel
theorem dX3_brightness_23 : decode cX3_brightness 23 = .ok (.iload_n 1, 1) := by decide +kernel
theorem dX3_brightness_24 : decode cX3_brightness 24 = .ok (.isub, 1) := by decide +kernel
theorem dX3_brightness_25 : decode cX3_brightness 25 = .ok (.imul, 1) := by decide +kernel
theorem dX3_brightness_26 : decode cX3_brightness 26 = .ok (.ireturn, 1) := by decide +kernel
set_option maxRecDepth 20000 in
theorem ggX4_init_X0_init : GoodIn wsX4_init wsX0_init := goodIn_r _ [19, 20, 2, 3, 21, 22, 23, 24, 25, 26, 27, 28, 42, 43, 44, 45, 46, 47, 48, 49, 50, 51] (by decide +kernel) (by decide +kernel)
set_option maxRecDepth 20000 in
theorem gX4_init_X0_init : GoodIn wsX4_init (wsX0_init) := ggX4_init_X0_init
set_option maxRecDepth 20000 in
theorem ggX4_init_X2_init : GoodIn wsX4_init wsX2_init := goodIn_r _ [31, 32, 2, 3, 33, 34, 5, 6, 35, 18, 19, 20, 21, 22, 23, 24, 25, 26, 27, 28, 56, 57, 42, 43, 44, 45, 46, 47, 48, 49, 50, 51] (by decide +kernel) (by decide +kernel)
set_option maxRecDepth 20000 in
theorem gX4_init_X2_init : GoodIn wsX4_init (wsX2_init) := ggX4_init_X2_init
set_option maxRecDepth 20000 in
theorem ggX4_init_X1_init : GoodIn wsX4_init wsX1_init := goodIn_r _ [37, 38, 2, 3, 39, 40, 21, 41, 58, 59, 60, 61, 62, 63] (by decide +kernel) (by decide +kernel)
set_option maxRecDepth 20000 in
theorem gX4_init_X1_init_n28 : GoodIn wsX4_init (wsX1_init) := ggX4_init_X1_init
theorem dX4_init_0 : decode cX4_init 0 = .ok (.aload_n 0, 1) := by decide +kernel
theorem dX4_init_1 : decode cX4_init 1 = .ok (.invokespecial 1, 3) := by decide +kernel
theorem dX4_init_4 : decode cX4_init 4 = .ok (.aload_n 0, 1) := by decide +kernel
theorem dX4_init_5 : decode cX4_init 5 = .ok (.new 7, 3) := by decide +kernel
theorem dX4_init_8 : decode cX4_init 8 = .ok (.dup, 1) := by decide +kernel
theorem dX4_init_9 : decode cX4_init 9 = .ok (.invokespecial 9, 3) := by decide +kernel
theorem dX4_init_12 : decode cX4_init 12 = .ok (.putfield 10, 3) := by decide +kernel
theorem dX4_init_15 : decode cX4_init 15 = .ok (.aload_n 0, 1) := by decide +kernel
theorem dX4_init_16 : decode cX4_init 16 = .ok (.new 7, 3) := by decide +kernel
theorem dX4_init_19 : decode cX4_init 19 = .ok (.dup, 1) := by decide +kernel
theorem dX4_init_20 : decode cX4_init 20 = .ok (.invokespecial 9, 3) := by decide +kernel
theorem dX4_init_23 : decode cX4_init 23 = .ok (.putfield 16, 3) := by decide +kernel
theorem dX4_init_26 : decode cX4_init 26 = .ok (.aload_n 0, 1) := by decide +kernel
theorem dX4_init_27 : decode cX4_init 27 = .ok (.new 19, 3) := by decide +kernel
theorem dX4_init_30 : decode cX4_init 30 = .ok (.dup, 1) := by decide +kernel
theorem dX4_init_31 : decode cX4_init 31 = .ok (.invokespecial 21, 3) := by decide +kernel
theorem dX4_init_34 : decode cX4_init 34 = .ok (.putfield 22, 3) := by decide +kernel
theorem dX4_init_37 : decode cX4_init 37 = .ok (.aload_n 0, 1) := by decide +kernel
theorem dX4_init_38 : decode cX4_init 38 = .ok (.new 26, 3) := by decide +kernel
theorem dX4_init_41 : decode cX4_init 41 = .ok (.dup, 1) := by decide +kernel
theorem dX4_init_42 : decode cX4_init 42 = .ok (.invokespecial 28, 3) := by decide +kernel
theorem dX4_init_45 : decode cX4_init 45 = .ok (.putfield 29, 3) := by decide +kernel
theorem dX4_init_48 : decode cX4_init 48 = .ok (.return_, 1) := by decide +kernel
set_option maxRecDepth 20000 in
theorem ggX4_set_X4_isBetween : GoodIn wsX4_set wsX4_isBetween := goodIn_r _ [9] (by decide +kernel) (by decide +kernel)
set_option maxRecDepth 20000 in
theorem gX4_set_X4_isBetween : GoodIn wsX4_set (va_wsS RX4 40 yX4_isBetween wsX4_isBetween) := goodIn_app (goodIn_of _ (by decide +kernel)) ggX4_set_X4_isBetween
set_option maxRecDepth 20000 in
theorem ggX4_set_X2_keep : GoodIn wsX4_set wsX2_keep := goodIn_r _ [14, 15, 16, 17, 18, 19, 13, 20, 21, 22, 23, 24, 25, 26, 27, 28, 29, 30, 31, 32, 33, 34, 35, 36, 37, 38, 39, 54, 55, 44, 45, 46, 47, 48, 49, 50, 51, 52, 53] (by decide +kernel) (by decide +kernel)
set_option maxRecDepth 20000 in
theorem gX4_set_X2_keep : GoodIn wsX4_set (wsV RX4 44 RX2 yX2_keep wsX2_keep) := goodIn_app (goodIn_of _ (by decide +kernel)) ggX4_set_X2_keep
theorem dX4_set_0 : decode cX4_set 0 = .ok (.iload_n 1, 1) := by decide +kernel
theorem dX4_set_1 : decode cX4_set 1 = .ok (.ifCond .lt 9, 3) := by decide +kernel
theorem dX4_set_4 : decode cX4_set 4 = .ok (.iload_n 1, 1) := by decide +kernel
theorem dX4_set_5 : decode cX4_set 5 = .ok (.bipush 7, 2) := by decide +kernel
theorem dX4_set_7 : decode cX4_set 7 = .ok (.if_icmp .lt 5, 3) := by decide +kernel
theorem dX4_set_10 : decode cX4_set 10 = .ok (.iconst (-1), 1) := by decide +kernel
theorem dX4_set_11 : decode cX4_set 11 = .ok (.ireturn, 1) := by decide +kernel
theorem dX4_set_12 : decode cX4_set 12 = .ok (.iload_n 2, 1) := by decide +kernel
theorem dX4_set_13 : decode cX4_set 13 = .ok (.getstatic 33, 3) := by decide +kernel
theorem dX4_set_16 : decode cX4_set 16 = .ok (.iload_n 1, 1) := by decide +kernel
theorem dX4_set_17 : decode cX4_set 17 = .ok (.iaload, 1) := by decide +kernel
theorem dX4_set_18 : decode cX4_set 18 = .ok (.getstatic 37, 3) := by decide +kernel
theorem dX4_set_21 : decode cX4_set 21 = .ok (.iload_n 1, 1) := by decide +kernel
theorem dX4_set_22 : decode cX4_set 22 = .ok (.iaload, 1) := by decide +kernel
theorem dX4_set_23 : decode cX4_set 23 = .ok (.invokestatic 40, 3) := by decide +kernel
theorem dX4_set_26 : decode cX4_set 26 = .ok (.ifCond .ne 5, 3) := by decide +kernel
theorem dX4_set_29 : decode cX4_set 29 = .ok (.iconst (-1), 1) := by decide +kernel
theorem dX4_set_30 : decode cX4_set 30 = .ok (.ireturn, 1) := by decide +kernel
theorem dX4_set_31 : decode cX4_set 31 = .ok (.aload_n 0, 1) := by decide +kernel
theorem dX4_set_32 : decode cX4_set 32 = .ok (.getfield 22, 3) := by decide +kernel
theorem dX4_set_35 : decode cX4_set 35 = .ok (.aload_n 0, 1) := by decide +kernel
theorem dX4_set_36 : decode cX4_set 36 = .ok (.getfield 10, 3) := by decide +kernel
theorem dX4_set_39 : decode cX4_set 39 = .ok (.invokevirtual 44, 3) := by decide +kernel
theorem dX4_set_42 : decode cX4_set 42 = .ok (.aload_n 0, 1) := by decide +kernel
theorem dX4_set_43 : decode cX4_set 43 = .ok (.getfield 10, 3) := by decide +kernel
theorem dX4_set_46 : decode cX4_set 46 = .ok (.getfield 48, 3) := by decide +kernel
theorem dX4_set_49 : decode cX4_set 49 = .ok (.iload_n 1, 1) := by decide +kernel
theorem dX4_set_50 : decode cX4_set 50 = .ok (.iaload, 1) := by decide +kernel
theorem dX4_set_51 : decode cX4_set 51 = .ok (.istore_n 3, 1) := by decide +kernel
theorem dX4_set_52 : decode cX4_set 52 = .ok (.aload_n 0, 1) := by decide +kernel
theorem dX4_set_53 : decode cX4_set 53 = .ok (.getfield 10, 3) := by decide +kernel
theorem dX4_set_56 : decode cX4_set 56 = .ok (.getfield 48, 3) := by decide +kernel
theorem dX4_set_59 : decode cX4_set 59 = .ok (.iload_n 1, 1) := by decide +kernel
theorem dX4_set_60 : decode cX4_set 60 = .ok (.iload_n 2, 1) := by decide +kernel
theorem dX4_set_61 : decode cX4_set 61 = .ok (.iastore, 1) := by decide +kernel
theorem dX4_set_62 : decode cX4_set 62 = .ok (.iload_n 3, 1) := by decide +kernel
theorem dX4_set_63 : decode cX4_set 63 = .ok (.ireturn, 1) := by decide +kernel
set_option maxRecDepth 20000 in
theorem ggX4_dip_X4_isBetween : GoodIn wsX4_dip wsX4_isBetween := goodIn_r _ [7] (by decide +kernel) (by decide +kernel)
set_option maxRecDepth 20000 in
theorem gX4_dip_X4_isBetween : GoodIn wsX4_dip (va_wsS RX4 40 yX4_isBetween wsX4_isBetween) := goodIn_app (goodIn_of _ (by decide +kernel)) ggX4_dip_X4_isBetween
set_option maxRecDepth 20000 in
theorem ggX4_dip_X4_isThickness : GoodIn wsX4_dip wsX4_isThickness := goodIn_r _ [10, 4, 5, 6, 7] (by decide +kernel) (by decide +kernel)
set_option maxRecDepth 20000 in
theorem gX4_dip_X4_isThickness : GoodIn wsX4_dip (va_wsS RX4 51 yX4_isThickness wsX4_isThickness) := goodIn_app (goodIn_of _ (by decide +kernel)) ggX4_dip_X4_isThickness
set_option maxRecDepth 20000 in
theorem ggX4_dip_X2_keep : GoodIn wsX4_dip wsX2_keep := goodIn_r _ [15, 16, 17, 18, 19, 20, 14, 21, 22, 23, 24, 25, 26, 27, 28, 29, 30, 31, 32, 33, 34, 35, 36, 37, 38, 39, 40, 75, 76, 65, 66, 67, 68, 69, 70, 71, 72, 73, 74] (by decide +kernel) (by decide +kernel)
set_option maxRecDepth 20000 in
theorem gX4_dip_X2_keep : GoodIn wsX4_dip (wsV RX4 44 RX2 yX2_keep wsX2_keep) := goodIn_app (goodIn_of _ (by decide +kernel)) ggX4_dip_X2_keep
set_option maxRecDepth 20000 in
theorem ggX4_dip_X0_takeAway : GoodIn wsX4_dip wsX0_takeAway := goodIn_r _ [44, 45, 46, 47, 25, 48, 33, 34, 49, 50, 51, 52, 65, 66, 67, 68, 69, 70, 71, 72, 73, 74] (by decide +kernel) (by decide +kernel)
set_option maxRecDepth 20000 in
theorem gX4_dip_X0_takeAway : GoodIn wsX4_dip (wsV RX4 55 RX0 yX0_takeAway wsX0_takeAway) := goodIn_app (goodIn_of _ (by decide +kernel)) ggX4_dip_X0_takeAway
set_option maxRecDepth 20000 in
theorem ggX4_dip_X0_appendRow : GoodIn wsX4_dip wsX0_appendRow := goodIn_r _ [56, 34, 27, 57, 58, 59, 25, 60, 33, 65, 66, 67, 68, 69, 70, 71, 72, 73, 74] (by decide +kernel) (by decide +kernel)
set_option maxRecDepth 20000 in
theorem gX4_dip_X0_appendRow : GoodIn wsX4_dip (wsV RX4 58 RX0 yX0_appendRow wsX0_appendRow) := goodIn_app (goodIn_of _ (by decide +kernel)) ggX4_dip_X0_appendRow
theorem dX4_dip_0 : decode cX4_dip 0 = .ok (.iload_n 1, 1) := by decide +kernel
theorem dX4_dip_1 : decode cX4_dip 1 = .ok (.iconst 1, 1) := by decide +kernel
theorem dX4_dip_2 : decode cX4_dip 2 = .ok (.bipush 24, 2) := by decide +kernel
theorem dX4_dip_4 : decode cX4_dip 4 = .ok (.invokestatic 40, 3) := by decide +kernel
theorem dX4_dip_7 : decode cX4_dip 7 = .ok (.ifCond .eq 21, 3) := by decide +kernel
theorem dX4_dip_10 : decode cX4_dip 10 = .ok (.iload_n 2, 1) := by decide +kernel
theorem dX4_dip_11 : decode cX4_dip 11 = .ok (.invokestatic 51, 3) := by decide +kernel
theorem dX4_dip_14 : decode cX4_dip 14 = .ok (.ifCond .eq 14, 3) := by decide +kernel
theorem dX4_dip_17 : decode cX4_dip 17 = .ok (.iload_n 3, 1) := by decide +kernel
theorem dX4_dip_18 : decode cX4_dip 18 = .ok (.iconst 0, 1) := by decide +kernel
theorem dX4_dip_19 : decode cX4_dip 19 = .ok (.sipush 500, 3) := by decide +kernel
theorem dX4_dip_22 : decode cX4_dip 22 = .ok (.invokestatic 40, 3) := by decide +kernel
theorem dX4_dip_25 : decode cX4_dip 25 = .ok (.ifCond .ne 5, 3) := by decide +kernel
theorem dX4_dip_28 : decode cX4_dip 28 = .ok (.iconst (-1), 1) := by decide +kernel
theorem dX4_dip_29 : decode cX4_dip 29 = .ok (.ireturn, 1) := by decide +kernel
theorem dX4_dip_30 : decode cX4_dip 30 = .ok (.iload_n 2, 1) := by decide +kernel
theorem dX4_dip_31 : decode cX4_dip 31 = .ok (.iload_n 3, 1) := by decide +kernel
theorem dX4_dip_32 : decode cX4_dip 32 = .ok (.iload_n 1, 1) := by decide +kernel
theorem dX4_dip_33 : decode cX4_dip 33 = .ok (.iconst 1, 1) := by decide +kernel
theorem dX4_dip_34 : decode cX4_dip 34 = .ok (.isub, 1) := by decide +kernel
theorem dX4_dip_35 : decode cX4_dip 35 = .ok (.imul, 1) := by decide +kernel
theorem dX4_dip_36 : decode cX4_dip 36 = .ok (.iadd, 1) := by decide +kernel
theorem dX4_dip_37 : decode cX4_dip 37 = .ok (.invokestatic 51, 3) := by decide +kernel
theorem dX4_dip_40 : decode cX4_dip 40 = .ok (.ifCond .ne 5, 3) := by decide +kernel
theorem dX4_dip_43 : decode cX4_dip 43 = .ok (.iconst (-1), 1) := by decide +kernel
theorem dX4_dip_44 : decode cX4_dip 44 = .ok (.ireturn, 1) := by decide +kernel
theorem dX4_dip_45 : decode cX4_dip 45 = .ok (.aload_n 0, 1) := by decide +kernel
theorem dX4_dip_46 : decode cX4_dip 46 = .ok (.getfield 22, 3) := by decide +kernel
theorem dX4_dip_49 : decode cX4_dip 49 = .ok (.aload_n 0, 1) := by decide +kernel
theorem dX4_dip_50 : decode cX4_dip 50 = .ok (.getfield 10, 3) := by decide +kernel
theorem dX4_dip_53 : decode cX4_dip 53 = .ok (.invokevirtual 44, 3) := by decide +kernel
theorem dX4_dip_56 : decode cX4_dip 56 = .ok (.aload_n 0, 1) := by decide +kernel
theorem dX4_dip_57 : decode cX4_dip 57 = .ok (.getfield 10, 3) := by decide +kernel
theorem dX4_dip_60 : decode cX4_dip 60 = .ok (.invokevirtual 55, 3) := by decide +kernel
theorem dX4_dip_63 : decode cX4_dip 63 = .ok (.iconst 0, 1) := by decide +kernel
theorem dX4_dip_64 : decode cX4_dip 64 = .ok (.istore 4, 2) := by decide +kernel
theorem dX4_dip_66 : decode cX4_dip 66 = .ok (.iload 4, 2) := by decide +kernel
theorem dX4_dip_68 : decode cX4_dip 68 = .ok (.iload_n 1, 1) := by decide +kernel
theorem dX4_dip_69 : decode cX4_dip 69 = .ok (.if_icmp .ge 22, 3) := by decide +kernel
theorem dX4_dip_72 : decode cX4_dip 72 = .ok (.aload_n 0, 1) := by decide +kernel
theorem dX4_dip_73 : decode cX4_dip 73 = .ok (.getfield 10, 3) := by decide +kernel
theorem dX4_dip_76 : decode cX4_dip 76 = .ok (.iload_n 2, 1) := by decide +kernel
theorem dX4_dip_77 : decode cX4_dip 77 = .ok (.iload_n 3, 1) := by decide +kernel
theorem dX4_dip_78 : decode cX4_dip 78 = .ok (.iload 4, 2) := by decide +kernel
theorem dX4_dip_80 : decode cX4_dip 80 = .ok (.imul, 1) := by decide +kernel
theorem dX4_dip_81 : decode cX4_dip 81 = .ok (.iadd, 1) := by decide +kernel
theorem dX4_dip_82 : decode cX4_dip 82 = .ok (.invokevirtual 58, 3) := by decide +kernel
theorem dX4_dip_85 : decode cX4_dip 85 = .ok (.iinc 4 1, 3) := by decide +kernel
theorem dX4_dip_88 : decode cX4_dip 88 = .ok (.goto (-22), 3) := by decide +kernel
theorem dX4_dip_91 : decode cX4_dip 91 = .ok (.aload_n 0, 1) := by decide +kernel
theorem dX4_dip_92 : decode cX4_dip 92 = .ok (.getfield 10, 3) := by decide +kernel
theorem dX4_dip_95 : decode cX4_dip 95 = .ok (.getfield 62, 3) := by decide +kernel
theorem dX4_dip_98 : decode cX4_dip 98 = .ok (.iconst 1, 1) := by decide +kernel
theorem dX4_dip_99 : decode cX4_dip 99 = .ok (.iaload, 1) := by decide +kernel
theorem dX4_dip_100 : decode cX4_dip 100 = .ok (.ireturn, 1) := by decide +kernel
set_option maxRecDepth 20000 in
theorem ggX4_pour_X0_hasRow : GoodIn wsX4_pour wsX0_hasRow := goodIn_r _ [8, 9, 53, 54, 55, 56, 57, 58, 59, 60, 61, 62] (by decide +kernel) (by decide +kernel)
set_option maxRecDepth 20000 in
theorem gX4_pour_X0_hasRow : GoodIn wsX4_pour (wsV RX4 65 RX0 yX0_hasRow wsX0_hasRow) := goodIn_app (goodIn_of _ (by decide +kernel)) ggX4_pour_X0_hasRow
set_option maxRecDepth 20000 in
theorem ggX4_pour_X4_isBetween : GoodIn wsX4_pour wsX4_isBetween := goodIn_r _ [13] (by decide +kernel) (by decide +kernel)
set_option maxRecDepth 20000 in
theorem gX4_pour_X4_isBetween : GoodIn wsX4_pour (va_wsS RX4 40 yX4_isBetween wsX4_isBetween) := goodIn_app (goodIn_of _ (by decide +kernel)) ggX4_pour_X4_isBetween
set_option maxRecDepth 20000 in
theorem ggX4_pour_X4_isThickness : GoodIn wsX4_pour wsX4_isThickness := goodIn_r _ [16, 10, 11, 12, 13] (by decide +kernel) (by decide +kernel)
set_option maxRecDepth 20000 in
theorem gX4_pour_X4_isThickness : GoodIn wsX4_pour (va_wsS RX4 51 yX4_isThickness wsX4_isThickness) := goodIn_app (goodIn_of _ (by decide +kernel)) ggX4_pour_X4_isThickness
set_option maxRecDepth 20000 in
theorem ggX4_pour_X2_keep : GoodIn wsX4_pour wsX2_keep := goodIn_r _ [21, 22, 23, 24, 25, 26, 20, 27, 28, 29, 30, 7, 31, 32, 33, 34, 35, 36, 37, 38, 9, 39, 40, 41, 42, 43, 44, 63, 64, 53, 54, 55, 56, 57, 58, 59, 60, 61, 62] (by decide +kernel) (by decide +kernel)
set_option maxRecDepth 20000 in
theorem gX4_pour_X2_keep : GoodIn wsX4_pour (wsV RX4 44 RX2 yX2_keep wsX2_keep) := goodIn_app (goodIn_of _ (by decide +kernel)) ggX4_pour_X2_keep
set_option maxRecDepth 20000 in
theorem ggX4_pour_X0_bring : GoodIn wsX4_pour wsX0_bring := goodIn_r _ [48, 38, 53, 54, 55, 56, 57, 58, 59, 60, 61, 62] (by decide +kernel) (by decide +kernel)
set_option maxRecDepth 20000 in
theorem gX4_pour_X0_bring : GoodIn wsX4_pour (wsV RX4 71 RX0 yX0_bring wsX0_bring) := goodIn_app (goodIn_of _ (by decide +kernel)) ggX4_pour_X0_bring
theorem dX4_pour_0 : decode cX4_pour 0 = .ok (.aload_n 0, 1) := by decide +kernel
theorem dX4_pour_1 : decode cX4_pour 1 = .ok (.getfield 10, 3) := by decide +kernel
theorem dX4_pour_4 : decode cX4_pour 4 = .ok (.iload_n 1, 1) := by decide +kernel
theorem dX4_pour_5 : decode cX4_pour 5 = .ok (.invokevirtual 65, 3) := by decide +kernel
theorem dX4_pour_8 : decode cX4_pour 8 = .ok (.ifCond .eq 14, 3) := by decide +kernel
theorem dX4_pour_11 : decode cX4_pour 11 = .ok (.iload_n 2, 1) := by decide +kernel
theorem dX4_pour_12 : decode cX4_pour 12 = .ok (.iconst 1, 1) := by decide +kernel
theorem dX4_pour_13 : decode cX4_pour 13 = .ok (.sipush 5000, 3) := by decide +kernel
theorem dX4_pour_16 : decode cX4_pour 16 = .ok (.invokestatic 40, 3) := by decide +kernel
theorem dX4_pour_19 : decode cX4_pour 19 = .ok (.ifCond .ne 5, 3) := by decide +kernel
theorem dX4_pour_22 : decode cX4_pour 22 = .ok (.iconst (-1), 1) := by decide +kernel
theorem dX4_pour_23 : decode cX4_pour 23 = .ok (.ireturn, 1) := by decide +kernel
theorem dX4_pour_24 : decode cX4_pour 24 = .ok (.aload_n 0, 1) := by decide +kernel
theorem dX4_pour_25 : decode cX4_pour 25 = .ok (.getfield 10, 3) := by decide +kernel
theorem dX4_pour_28 : decode cX4_pour 28 = .ok (.getfield 68, 3) := by decide +kernel
theorem dX4_pour_31 : decode cX4_pour 31 = .ok (.iload_n 1, 1) := by decide +kernel
theorem dX4_pour_32 : decode cX4_pour 32 = .ok (.iaload, 1) := by decide +kernel
theorem dX4_pour_33 : decode cX4_pour 33 = .ok (.iload_n 2, 1) := by decide +kernel
theorem dX4_pour_34 : decode cX4_pour 34 = .ok (.iadd, 1) := by decide +kernel
theorem dX4_pour_35 : decode cX4_pour 35 = .ok (.invokestatic 51, 3) := by decide +kernel
theorem dX4_pour_38 : decode cX4_pour 38 = .ok (.ifCond .ne 6, 3) := by decide +kernel
theorem dX4_pour_41 : decode cX4_pour 41 = .ok (.bipush (-3), 2) := by decide +kernel
theorem dX4_pour_43 : decode cX4_pour 43 = .ok (.ireturn, 1) := by decide +kernel
theorem dX4_pour_44 : decode cX4_pour 44 = .ok (.aload_n 0, 1) := by decide +kernel
theorem dX4_pour_45 : decode cX4_pour 45 = .ok (.getfield 22, 3) := by decide +kernel
theorem dX4_pour_48 : decode cX4_pour 48 = .ok (.aload_n 0, 1) := by decide +kernel
theorem dX4_pour_49 : decode cX4_pour 49 = .ok (.getfield 10, 3) := by decide +kernel
theorem dX4_pour_52 : decode cX4_pour 52 = .ok (.invokevirtual 44, 3) := by decide +kernel
theorem dX4_pour_55 : decode cX4_pour 55 = .ok (.aload_n 0, 1) := by decide +kernel
theorem dX4_pour_56 : decode cX4_pour 56 = .ok (.getfield 10, 3) := by decide +kernel
theorem dX4_pour_59 : decode cX4_pour 59 = .ok (.getfield 68, 3) := by decide +kernel
theorem dX4_pour_62 : decode cX4_pour 62 = .ok (.iload_n 1, 1) := by decide +kernel
theorem dX4_pour_63 : decode cX4_pour 63 = .ok (.dup2, 1) := by decide +kernel
theorem dX4_pour_64 : decode cX4_pour 64 = .ok (.iaload, 1) := by decide +kernel
theorem dX4_pour_65 : decode cX4_pour 65 = .ok (.iload_n 2, 1) := by decide +kernel
theorem dX4_pour_66 : decode cX4_pour 66 = .ok (.iadd, 1) := by decide +kernel
theorem dX4_pour_67 : decode cX4_pour 67 = .ok (.iastore, 1) := by decide +kernel
theorem dX4_pour_68 : decode cX4_pour 68 = .ok (.aload_n 0, 1) := by decide +kernel
theorem dX4_pour_69 : decode cX4_pour 69 = .ok (.getfield 10, 3) := by decide +kernel
theorem dX4_pour_72 : decode cX4_pour 72 = .ok (.iload_n 2, 1) := by decide +kernel
theorem dX4_pour_73 : decode cX4_pour 73 = .ok (.invokevirtual 71, 3) := by decide +kernel
theorem dX4_pour_76 : decode cX4_pour 76 = .ok (.aload_n 0, 1) := by decide +kernel
theorem dX4_pour_77 : decode cX4_pour 77 = .ok (.getfield 10, 3) := by decide +kernel
theorem dX4_pour_80 : decode cX4_pour 80 = .ok (.getfield 68, 3) := by decide +kernel
theorem dX4_pour_83 : decode cX4_pour 83 = .ok (.iload_n 1, 1) := by decide +kernel
theorem dX4_pour_84 : decode cX4_pour 84 = .ok (.iaload, 1) := by decide +kernel
theorem dX4_pour_85 : decode cX4_pour 85 = .ok (.ireturn, 1) := by decide +kernel
set_option maxRecDepth 20000 in
theorem ggX4_add_X4_isThickness : GoodIn wsX4_add wsX4_isThickness := goodIn_r _ [7, 8, 9, 6, 10] (by decide +kernel) (by decide +kernel)
set_option maxRecDepth 20000 in
theorem gX4_add_X4_isThickness : GoodIn wsX4_add (va_wsS RX4 51 yX4_isThickness wsX4_isThickness) := goodIn_app (goodIn_of _ (by decide +kernel)) ggX4_add_X4_isThickness
set_option maxRecDepth 20000 in
theorem ggX4_add_X2_keep : GoodIn wsX4_add wsX2_keep := goodIn_r _ [15, 16, 17, 18, 19, 20, 14, 21, 22, 23, 24, 25, 26, 27, 28, 29, 30, 31, 32, 33, 34, 35, 36, 37, 38, 39, 40, 63, 64, 53, 54, 55, 56, 57, 58, 59, 60, 61, 62] (by decide +kernel) (by decide +kernel)
set_option maxRecDepth 20000 in
theorem gX4_add_X2_keep : GoodIn wsX4_add (wsV RX4 44 RX2 yX2_keep wsX2_keep) := goodIn_app (goodIn_of _ (by decide +kernel)) ggX4_add_X2_keep
set_option maxRecDepth 20000 in
theorem ggX4_add_X0_appendRow : GoodIn wsX4_add wsX0_appendRow := goodIn_r _ [44, 34, 27, 45, 46, 47, 25, 48, 33, 53, 54, 55, 56, 57, 58, 59, 60, 61, 62] (by decide +kernel) (by decide +kernel)
set_option maxRecDepth 20000 in
theorem gX4_add_X0_appendRow : GoodIn wsX4_add (wsV RX4 58 RX0 yX0_appendRow wsX0_appendRow) := goodIn_app (goodIn_of _ (by decide +kernel)) ggX4_add_X0_appendRow
theorem dX4_add_0 : decode cX4_add 0 = .ok (.iload_n 1, 1) := by decide +kernel
theorem dX4_add_1 : decode cX4_add 1 = .ok (.invokestatic 51, 3) := by decide +kernel
theorem dX4_add_4 : decode cX4_add 4 = .ok (.ifCond .ne 5, 3) := by decide +kernel
theorem dX4_add_7 : decode cX4_add 7 = .ok (.iconst (-1), 1) := by decide +kernel
theorem dX4_add_8 : decode cX4_add 8 = .ok (.ireturn, 1) := by decide +kernel
theorem dX4_add_9 : decode cX4_add 9 = .ok (.aload_n 0, 1) := by decide +kernel
theorem dX4_add_10 : decode cX4_add 10 = .ok (.getfield 10, 3) := by decide +kernel
theorem dX4_add_13 : decode cX4_add 13 = .ok (.getfield 74, 3) := by decide +kernel
theorem dX4_add_16 : decode cX4_add 16 = .ok (.ifCond .ne 6, 3) := by decide +kernel
theorem dX4_add_19 : decode cX4_add 19 = .ok (.bipush (-2), 2) := by decide +kernel
theorem dX4_add_21 : decode cX4_add 21 = .ok (.ireturn, 1) := by decide +kernel
theorem dX4_add_22 : decode cX4_add 22 = .ok (.aload_n 0, 1) := by decide +kernel
theorem dX4_add_23 : decode cX4_add 23 = .ok (.getfield 10, 3) := by decide +kernel
theorem dX4_add_26 : decode cX4_add 26 = .ok (.getfield 74, 3) := by decide +kernel
theorem dX4_add_29 : decode cX4_add 29 = .ok (.bipush 24, 2) := by decide +kernel
theorem dX4_add_31 : decode cX4_add 31 = .ok (.if_icmp .ne 6, 3) := by decide +kernel
theorem dX4_add_34 : decode cX4_add 34 = .ok (.bipush (-3), 2) := by decide +kernel
theorem dX4_add_36 : decode cX4_add 36 = .ok (.ireturn, 1) := by decide +kernel
theorem dX4_add_37 : decode cX4_add 37 = .ok (.aload_n 0, 1) := by decide +kernel
theorem dX4_add_38 : decode cX4_add 38 = .ok (.getfield 22, 3) := by decide +kernel
theorem dX4_add_41 : decode cX4_add 41 = .ok (.aload_n 0, 1) := by decide +kernel
theorem dX4_add_42 : decode cX4_add 42 = .ok (.getfield 10, 3) := by decide +kernel
theorem dX4_add_45 : decode cX4_add 45 = .ok (.invokevirtual 44, 3) := by decide +kernel
theorem dX4_add_48 : decode cX4_add 48 = .ok (.aload_n 0, 1) := by decide +kernel
theorem dX4_add_49 : decode cX4_add 49 = .ok (.getfield 10, 3) := by decide +kernel
theorem dX4_add_52 : decode cX4_add 52 = .ok (.iload_n 1, 1) := by decide +kernel
theorem dX4_add_53 : decode cX4_add 53 = .ok (.invokevirtual 58, 3) := by decide +kernel
theorem dX4_add_56 : decode cX4_add 56 = .ok (.aload_n 0, 1) := by decide +kernel
theorem dX4_add_57 : decode cX4_add 57 = .ok (.getfield 10, 3) := by decide +kernel
theorem dX4_add_60 : decode cX4_add 60 = .ok (.getfield 74, 3) := by decide +kernel
theorem dX4_add_63 : decode cX4_add 63 = .ok (.ireturn, 1) := by decide +kernel
set_option maxRecDepth 20000 in
theorem ggX4_thin_X0_hasRow : GoodIn wsX4_thin wsX0_hasRow := goodIn_r _ [7, 8, 57, 58, 59, 60, 61, 62, 63, 64, 65, 66] (by decide +kernel) (by decide +kernel)
set_option maxRecDepth 20000 in
theorem gX4_thin_X0_hasRow : GoodIn wsX4_thin (wsV RX4 65 RX0 yX0_hasRow wsX0_hasRow) := goodIn_app (goodIn_of _ (by decide +kernel)) ggX4_thin_X0_hasRow
set_option maxRecDepth 20000 in
theorem ggX4_thin_X4_isBetween : GoodIn wsX4_thin wsX4_isBetween := goodIn_r _ [12] (by decide +kernel) (by decide +kernel)
set_option maxRecDepth 20000 in
theorem gX4_thin_X4_isBetween : GoodIn wsX4_thin (va_wsS RX4 40 yX4_isBetween wsX4_isBetween) := goodIn_app (goodIn_of _ (by decide +kernel)) ggX4_thin_X4_isBetween
set_option maxRecDepth 20000 in
theorem ggX4_thin_X2_keep : GoodIn wsX4_thin wsX2_keep := goodIn_r _ [17, 18, 19, 20, 21, 22, 16, 23, 24, 25, 26, 6, 27, 28, 29, 30, 31, 32, 33, 34, 8, 35, 36, 37, 38, 39, 40, 67, 68, 57, 58, 59, 60, 61, 62, 63, 64, 65, 66] (by decide +kernel) (by decide +kernel)
set_option maxRecDepth 20000 in
theorem gX4_thin_X2_keep : GoodIn wsX4_thin (wsV RX4 44 RX2 yX2_keep wsX2_keep) := goodIn_app (goodIn_of _ (by decide +kernel)) ggX4_thin_X2_keep
set_option maxRecDepth 20000 in
theorem ggX4_thin_X0_loseFrom : GoodIn wsX4_thin wsX0_loseFrom := goodIn_r _ [44, 28, 45, 46, 47, 48, 49, 50, 51, 6, 52, 34, 57, 58, 59, 60, 61, 62, 63, 64, 65, 66] (by decide +kernel) (by decide +kernel)
set_option maxRecDepth 20000 in
theorem gX4_thin_X0_loseFrom : GoodIn wsX4_thin (wsV RX4 78 RX0 yX0_loseFrom wsX0_loseFrom) := goodIn_app (goodIn_of _ (by decide +kernel)) ggX4_thin_X0_loseFrom
theorem dX4_thin_0 : decode cX4_thin 0 = .ok (.aload_n 0, 1) := by decide +kernel
theorem dX4_thin_1 : decode cX4_thin 1 = .ok (.getfield 10, 3) := by decide +kernel
theorem dX4_thin_4 : decode cX4_thin 4 = .ok (.iload_n 1, 1) := by decide +kernel
theorem dX4_thin_5 : decode cX4_thin 5 = .ok (.invokevirtual 65, 3) := by decide +kernel
theorem dX4_thin_8 : decode cX4_thin 8 = .ok (.ifCond .eq 14, 3) := by decide +kernel
theorem dX4_thin_11 : decode cX4_thin 11 = .ok (.iload_n 2, 1) := by decide +kernel
theorem dX4_thin_12 : decode cX4_thin 12 = .ok (.iconst 1, 1) := by decide +kernel
theorem dX4_thin_13 : decode cX4_thin 13 = .ok (.sipush 5000, 3) := by decide +kernel
theorem dX4_thin_16 : decode cX4_thin 16 = .ok (.invokestatic 40, 3) := by decide +kernel
theorem dX4_thin_19 : decode cX4_thin 19 = .ok (.ifCond .ne 5, 3) := by decide +kernel
theorem dX4_thin_22 : decode cX4_thin 22 = .ok (.iconst (-1), 1) := by decide +kernel
theorem dX4_thin_23 : decode cX4_thin 23 = .ok (.ireturn, 1) := by decide +kernel
theorem dX4_thin_24 : decode cX4_thin 24 = .ok (.aload_n 0, 1) := by decide +kernel
theorem dX4_thin_25 : decode cX4_thin 25 = .ok (.getfield 22, 3) := by decide +kernel
theorem dX4_thin_28 : decode cX4_thin 28 = .ok (.aload_n 0, 1) := by decide +kernel
theorem dX4_thin_29 : decode cX4_thin 29 = .ok (.getfield 10, 3) := by decide +kernel
theorem dX4_thin_32 : decode cX4_thin 32 = .ok (.invokevirtual 44, 3) := by decide +kernel
theorem dX4_thin_35 : decode cX4_thin 35 = .ok (.aload_n 0, 1) := by decide +kernel
theorem dX4_thin_36 : decode cX4_thin 36 = .ok (.getfield 10, 3) := by decide +kernel
theorem dX4_thin_39 : decode cX4_thin 39 = .ok (.iload_n 1, 1) := by decide +kernel
theorem dX4_thin_40 : decode cX4_thin 40 = .ok (.iload_n 2, 1) := by decide +kernel
theorem dX4_thin_41 : decode cX4_thin 41 = .ok (.bipush 6, 2) := by decide +kernel
theorem dX4_thin_43 : decode cX4_thin 43 = .ok (.invokevirtual 78, 3) := by decide +kernel
theorem dX4_thin_46 : decode cX4_thin 46 = .ok (.ireturn, 1) := by decide +kernel
set_option maxRecDepth 20000 in
theorem ggX4_cut_X2_keep : GoodIn wsX4_cut wsX2_keep := goodIn_r _ [8, 9, 10, 11, 12, 13, 7, 14, 15, 16, 17, 18, 19, 20, 21, 22, 23, 24, 25, 26, 27, 28, 29, 30, 31, 32, 33, 60, 61, 50, 51, 52, 53, 54, 55, 56, 57, 58, 59] (by decide +kernel) (by decide +kernel)
set_option maxRecDepth 20000 in
theorem gX4_cut_X2_keep : GoodIn wsX4_cut (wsV RX4 44 RX2 yX2_keep wsX2_keep) := goodIn_app (goodIn_of _ (by decide +kernel)) ggX4_cut_X2_keep
set_option maxRecDepth 20000 in
theorem ggX4_cut_X0_loseFrom : GoodIn wsX4_cut wsX0_loseFrom := goodIn_r _ [37, 20, 38, 39, 40, 41, 42, 43, 44, 18, 45, 26, 50, 51, 52, 53, 54, 55, 56, 57, 58, 59] (by decide +kernel) (by decide +kernel)
set_option maxRecDepth 20000 in
theorem gX4_cut_X0_loseFrom : GoodIn wsX4_cut (wsV RX4 78 RX0 yX0_loseFrom wsX0_loseFrom) := goodIn_app (goodIn_of _ (by decide +kernel)) ggX4_cut_X0_loseFrom
theorem dX4_cut_0 : decode cX4_cut 0 = .ok (.aload_n 0, 1) := by decide +kernel
theorem dX4_cut_1 : decode cX4_cut 1 = .ok (.getfield 10, 3) := by decide +kernel
theorem dX4_cut_4 : decode cX4_cut 4 = .ok (.getfield 74, 3) := by decide +kernel
theorem dX4_cut_7 : decode cX4_cut 7 = .ok (.iconst 2, 1) := by decide +kernel
theorem dX4_cut_8 : decode cX4_cut 8 = .ok (.if_icmp .ge 6, 3) := by decide +kernel
theorem dX4_cut_11 : decode cX4_cut 11 = .ok (.bipush (-2), 2) := by decide +kernel
theorem dX4_cut_13 : decode cX4_cut 13 = .ok (.ireturn, 1) := by decide +kernel
theorem dX4_cut_14 : decode cX4_cut 14 = .ok (.aload_n 0, 1) := by decide +kernel
theorem dX4_cut_15 : decode cX4_cut 15 = .ok (.getfield 22, 3) := by decide +kernel
theorem dX4_cut_18 : decode cX4_cut 18 = .ok (.aload_n 0, 1) := by decide +kernel
theorem dX4_cut_19 : decode cX4_cut 19 = .ok (.getfield 10, 3) := by decide +kernel
theorem dX4_cut_22 : decode cX4_cut 22 = .ok (.invokevirtual 44, 3) := by decide +kernel
theorem dX4_cut_25 : decode cX4_cut 25 = .ok (.aload_n 0, 1) := by decide +kernel
theorem dX4_cut_26 : decode cX4_cut 26 = .ok (.getfield 10, 3) := by decide +kernel
theorem dX4_cut_29 : decode cX4_cut 29 = .ok (.aload_n 0, 1) := by decide +kernel
theorem dX4_cut_30 : decode cX4_cut 30 = .ok (.getfield 10, 3) := by decide +kernel
theorem dX4_cut_33 : decode cX4_cut 33 = .ok (.getfield 74, 3) := by decide +kernel
theorem dX4_cut_36 : decode cX4_cut 36 = .ok (.iconst 1, 1) := by decide +kernel
theorem dX4_cut_37 : decode cX4_cut 37 = .ok (.isub, 1) := by decide +kernel
theorem dX4_cut_38 : decode cX4_cut 38 = .ok (.sipush 5000, 3) := by decide +kernel
theorem dX4_cut_41 : decode cX4_cut 41 = .ok (.bipush 6, 2) := by decide +kernel
theorem dX4_cut_43 : decode cX4_cut 43 = .ok (.invokevirtual 78, 3) := by decide +kernel
theorem dX4_cut_46 : decode cX4_cut 46 = .ok (.istore_n 1, 1) := by decide +kernel
theorem dX4_cut_47 : decode cX4_cut 47 = .ok (.aload_n 0, 1) := by decide +kernel
theorem dX4_cut_48 : decode cX4_cut 48 = .ok (.getfield 10, 3) := by decide +kernel
theorem dX4_cut_51 : decode cX4_cut 51 = .ok (.dup, 1) := by decide +kernel
theorem dX4_cut_52 : decode cX4_cut 52 = .ok (.getfield 74, 3) := by decide +kernel
theorem dX4_cut_55 : decode cX4_cut 55 = .ok (.iconst 1, 1) := by decide +kernel
theorem dX4_cut_56 : decode cX4_cut 56 = .ok (.isub, 1) := by decide +kernel
theorem dX4_cut_57 : decode cX4_cut 57 = .ok (.putfield 74, 3) := by decide +kernel
theorem dX4_cut_60 : decode cX4_cut 60 = .ok (.iload_n 1, 1) := by decide +kernel
theorem dX4_cut_61 : decode cX4_cut 61 = .ok (.ireturn, 1) := by decide +kernel
set_option maxRecDepth 20000 in
theorem ggX4_go_X4_isBetween : GoodIn wsX4_go wsX4_isBetween := goodIn_r _ [9] (by decide +kernel) (by decide +kernel)
set_option maxRecDepth 20000 in
theorem gX4_go_X4_isBetween : GoodIn wsX4_go (va_wsS RX4 40 yX4_isBetween wsX4_isBetween) := goodIn_app (goodIn_of _ (by decide +kernel)) ggX4_go_X4_isBetween
set_option maxRecDepth 20000 in
theorem ggX4_go_X2_keep : GoodIn wsX4_go wsX2_keep := goodIn_r _ [14, 15, 16, 17, 18, 19, 13, 20, 21, 22, 23, 24, 25, 26, 27, 28, 29, 30, 31, 32, 33, 34, 35, 36, 37, 38, 39, 115, 116, 105, 106, 107, 108, 109, 110, 111, 112, 113, 114] (by decide +kernel) (by decide +kernel)
set_option maxRecDepth 20000 in
theorem gX4_go_X2_keep : GoodIn wsX4_go (wsV RX4 44 RX2 yX2_keep wsX2_keep) := goodIn_app (goodIn_of _ (by decide +kernel)) ggX4_go_X2_keep
set_option maxRecDepth 20000 in
theorem ggX4_go_X0_tick : GoodIn wsX4_go wsX0_tick := goodIn_r _ [43, 33, 34, 44, 45, 46, 24, 47, 26, 31, 48, 49, 50, 51, 52, 53, 54, 55, 56, 57, 58, 59, 60, 61, 62, 63, 64, 32, 65, 66, 67, 68, 69, 70, 71, 72, 73, 74, 75, 76, 77, 78, 79, 80, 35, 81, 82, 83, 84, 85, 86, 87, 88, 89, 90, 91, 92, 93, 94, 95, 96, 36, 37, 38, 39, 97, 98, 99, 100, 105, 106, 107, 108, 109, 110, 111, 112, 113, 114] (by decide +kernel) (by decide +kernel)
set_option maxRecDepth 20000 in
theorem gX4_go_X0_tick : GoodIn wsX4_go (wsV RX4 86 RX0 yX0_tick wsX0_tick) := goodIn_app (goodIn_of _ (by decide +kernel)) ggX4_go_X0_tick
theorem dX4_go_0 : decode cX4_go 0 = .ok (.iload_n 1, 1) := by decide +kernel
theorem dX4_go_1 : decode cX4_go 1 = .ok (.iconst 1, 1) := by decide +kernel
theorem dX4_go_2 : decode cX4_go 2 = .ok (.sipush 1000, 3) := by decide +kernel
theorem dX4_go_5 : decode cX4_go 5 = .ok (.invokestatic 40, 3) := by decide +kernel
theorem dX4_go_8 : decode cX4_go 8 = .ok (.ifCond .ne 5, 3) := by decide +kernel
theorem dX4_go_11 : decode cX4_go 11 = .ok (.iconst (-1), 1) := by decide +kernel
theorem dX4_go_12 : decode cX4_go 12 = .ok (.ireturn, 1) := by decide +kernel
theorem dX4_go_13 : decode cX4_go 13 = .ok (.aload_n 0, 1) := by decide +kernel
theorem dX4_go_14 : decode cX4_go 14 = .ok (.getfield 10, 3) := by decide +kernel
theorem dX4_go_17 : decode cX4_go 17 = .ok (.getfield 82, 3) := by decide +kernel
theorem dX4_go_20 : decode cX4_go 20 = .ok (.iload_n 1, 1) := by decide +kernel
theorem dX4_go_21 : decode cX4_go 21 = .ok (.iadd, 1) := by decide +kernel
theorem dX4_go_22 : decode cX4_go 22 = .ok (.ldc 85, 2) := by decide +kernel
theorem dX4_go_24 : decode cX4_go 24 = .ok (.if_icmp .le 6, 3) := by decide +kernel
theorem dX4_go_27 : decode cX4_go 27 = .ok (.bipush (-3), 2) := by decide +kernel
theorem dX4_go_29 : decode cX4_go 29 = .ok (.ireturn, 1) := by decide +kernel
theorem dX4_go_30 : decode cX4_go 30 = .ok (.aload_n 0, 1) := by decide +kernel
theorem dX4_go_31 : decode cX4_go 31 = .ok (.getfield 22, 3) := by decide +kernel
theorem dX4_go_34 : decode cX4_go 34 = .ok (.aload_n 0, 1) := by decide +kernel
theorem dX4_go_35 : decode cX4_go 35 = .ok (.getfield 10, 3) := by decide +kernel
theorem dX4_go_38 : decode cX4_go 38 = .ok (.invokevirtual 44, 3) := by decide +kernel
theorem dX4_go_41 : decode cX4_go 41 = .ok (.iconst 0, 1) := by decide +kernel
theorem dX4_go_42 : decode cX4_go 42 = .ok (.istore_n 2, 1) := by decide +kernel
theorem dX4_go_43 : decode cX4_go 43 = .ok (.iconst 0, 1) := by decide +kernel
theorem dX4_go_44 : decode cX4_go 44 = .ok (.istore_n 3, 1) := by decide +kernel
theorem dX4_go_45 : decode cX4_go 45 = .ok (.iload_n 3, 1) := by decide +kernel
theorem dX4_go_46 : decode cX4_go 46 = .ok (.iload_n 1, 1) := by decide +kernel
theorem dX4_go_47 : decode cX4_go 47 = .ok (.if_icmp .ge 29, 3) := by decide +kernel
theorem dX4_go_50 : decode cX4_go 50 = .ok (.aload_n 0, 1) := by decide +kernel
theorem dX4_go_51 : decode cX4_go 51 = .ok (.getfield 10, 3) := by decide +kernel
theorem dX4_go_54 : decode cX4_go 54 = .ok (.getfield 74, 3) := by decide +kernel
theorem dX4_go_57 : decode cX4_go 57 = .ok (.ifCond .le 6, 3) := by decide +kernel
theorem dX4_go_60 : decode cX4_go 60 = .ok (.iinc 2 1, 3) := by decide +kernel
theorem dX4_go_63 : decode cX4_go 63 = .ok (.aload_n 0, 1) := by decide +kernel
theorem dX4_go_64 : decode cX4_go 64 = .ok (.getfield 10, 3) := by decide +kernel
theorem dX4_go_67 : decode cX4_go 67 = .ok (.invokevirtual 86, 3) := by decide +kernel
theorem dX4_go_70 : decode cX4_go 70 = .ok (.iinc 3 1, 3) := by decide +kernel
theorem dX4_go_73 : decode cX4_go 73 = .ok (.goto (-28), 3) := by decide +kernel
theorem dX4_go_76 : decode cX4_go 76 = .ok (.iload_n 2, 1) := by decide +kernel
theorem dX4_go_77 : decode cX4_go 77 = .ok (.ireturn, 1) := by decide +kernel
set_option maxRecDepth 20000 in
theorem ggX4_undo_X2_restore : GoodIn wsX4_undo wsX2_restore := goodIn_r _ [8, 9, 10, 11, 12, 13, 14, 15, 16, 17, 18, 19, 20, 21, 22, 23, 24, 25, 26, 27, 28, 29, 34, 35, 36, 37, 38, 39, 40, 41, 42, 43, 44, 45] (by decide +kernel) (by decide +kernel)
set_option maxRecDepth 20000 in
theorem gX4_undo_X2_restore : GoodIn wsX4_undo (wsV RX4 92 RX2 yX2_restore wsX2_restore) := goodIn_app (goodIn_of _ (by decide +kernel)) ggX4_undo_X2_restore
theorem dX4_undo_0 : decode cX4_undo 0 = .ok (.aload_n 0, 1) := by decide +kernel
theorem dX4_undo_1 : decode cX4_undo 1 = .ok (.getfield 22, 3) := by decide +kernel
theorem dX4_undo_4 : decode cX4_undo 4 = .ok (.getfield 89, 3) := by decide +kernel
theorem dX4_undo_7 : decode cX4_undo 7 = .ok (.ifCond .ne 6, 3) := by decide +kernel
theorem dX4_undo_10 : decode cX4_undo 10 = .ok (.bipush (-2), 2) := by decide +kernel
theorem dX4_undo_12 : decode cX4_undo 12 = .ok (.ireturn, 1) := by decide +kernel
theorem dX4_undo_13 : decode cX4_undo 13 = .ok (.aload_n 0, 1) := by decide +kernel
theorem dX4_undo_14 : decode cX4_undo 14 = .ok (.getfield 22, 3) := by decide +kernel
theorem dX4_undo_17 : decode cX4_undo 17 = .ok (.aload_n 0, 1) := by decide +kernel
theorem dX4_undo_18 : decode cX4_undo 18 = .ok (.getfield 10, 3) := by decide +kernel
theorem dX4_undo_21 : decode cX4_undo 21 = .ok (.invokevirtual 92, 3) := by decide +kernel
theorem dX4_undo_24 : decode cX4_undo 24 = .ok (.aload_n 0, 1) := by decide +kernel
theorem dX4_undo_25 : decode cX4_undo 25 = .ok (.getfield 22, 3) := by decide +kernel
theorem dX4_undo_28 : decode cX4_undo 28 = .ok (.getfield 89, 3) := by decide +kernel
theorem dX4_undo_31 : decode cX4_undo 31 = .ok (.ireturn, 1) := by decide +kernel
set_option maxRecDepth 20000 in
theorem ggX4_row_X0_hasRow : GoodIn wsX4_row wsX0_hasRow := goodIn_r _ [7, 8, 49, 50, 51, 52, 53, 54, 55, 56, 57, 58] (by decide +kernel) (by decide +kernel)
set_option maxRecDepth 20000 in
theorem gX4_row_X0_hasRow : GoodIn wsX4_row (wsV RX4 65 RX0 yX0_hasRow wsX0_hasRow) := goodIn_app (goodIn_of _ (by decide +kernel)) ggX4_row_X0_hasRow
set_option maxRecDepth 20000 in
theorem ggX4_row_X3_path : GoodIn wsX4_row wsX3_path := goodIn_r _ [12] (by decide +kernel) (by decide +kernel)
set_option maxRecDepth 20000 in
theorem gX4_row_X3_path : GoodIn wsX4_row (va_wsS RX4 95 yX3_path wsX3_path) := goodIn_app (goodIn_of _ (by decide +kernel)) ggX4_row_X3_path
set_option maxRecDepth 20000 in
theorem ggX4_row_X3_red : GoodIn wsX4_row wsX3_red := goodIn_r _ [15, 16, 17, 11, 18] (by decide +kernel) (by decide +kernel)
set_option maxRecDepth 20000 in
theorem gX4_row_X3_red : GoodIn wsX4_row (va_wsS RX4 101 yX3_red wsX3_red) := goodIn_app (goodIn_of _ (by decide +kernel)) ggX4_row_X3_red
set_option maxRecDepth 20000 in
theorem ggX4_row_X3_green : GoodIn wsX4_row wsX3_green := goodIn_r _ [21, 16, 17, 11, 18] (by decide +kernel) (by decide +kernel)
set_option maxRecDepth 20000 in
theorem gX4_row_X3_green : GoodIn wsX4_row (va_wsS RX4 104 yX3_green wsX3_green) := goodIn_app (goodIn_of _ (by decide +kernel)) ggX4_row_X3_green
set_option maxRecDepth 20000 in
theorem ggX4_row_X3_blue : GoodIn wsX4_row wsX3_blue := goodIn_r _ [24, 16, 17, 11, 18] (by decide +kernel) (by decide +kernel)
set_option maxRecDepth 20000 in
theorem gX4_row_X3_blue : GoodIn wsX4_row (va_wsS RX4 107 yX3_blue wsX3_blue) := goodIn_app (goodIn_of _ (by decide +kernel)) ggX4_row_X3_blue
set_option maxRecDepth 20000 in
theorem ggX4_row_X0_colourAt : GoodIn wsX4_row wsX0_colourAt := goodIn_r _ [28, 29, 30, 31, 32, 11, 33, 34, 10, 12, 35, 14, 15, 16, 17, 18, 36, 20, 21, 37, 23, 24, 49, 50, 51, 52, 53, 54, 55, 56, 57, 58] (by decide +kernel) (by decide +kernel)
set_option maxRecDepth 20000 in
theorem gX4_row_X0_colourAt : GoodIn wsX4_row (wsV RX4 110 RX0 yX0_colourAt wsX0_colourAt) := goodIn_app (goodIn_of _ (by decide +kernel)) ggX4_row_X0_colourAt
set_option maxRecDepth 20000 in
theorem ggX4_row_X3_order : GoodIn wsX4_row wsX3_order := goodIn_r _ [40] (by decide +kernel) (by decide +kernel)
set_option maxRecDepth 20000 in
theorem gX4_row_X3_order : GoodIn wsX4_row (va_wsS RX4 113 yX3_order wsX3_order) := goodIn_app (goodIn_of _ (by decide +kernel)) ggX4_row_X3_order
set_option maxRecDepth 20000 in
theorem ggX4_row_X0_isBlack : GoodIn wsX4_row wsX0_isBlack := goodIn_r _ [44, 29, 30, 49, 50, 51, 52, 53, 54, 55, 56, 57, 58] (by decide +kernel) (by decide +kernel)
set_option maxRecDepth 20000 in
theorem gX4_row_X0_isBlack : GoodIn wsX4_row (wsV RX4 116 RX0 yX0_isBlack wsX0_isBlack) := goodIn_app (goodIn_of _ (by decide +kernel)) ggX4_row_X0_isBlack
theorem dX4_row_0 : decode cX4_row 0 = .ok (.aload_n 0, 1) := by decide +kernel
theorem dX4_row_1 : decode cX4_row 1 = .ok (.getfield 10, 3) := by decide +kernel
theorem dX4_row_4 : decode cX4_row 4 = .ok (.iload_n 1, 1) := by decide +kernel
theorem dX4_row_5 : decode cX4_row 5 = .ok (.invokevirtual 65, 3) := by decide +kernel
theorem dX4_row_8 : decode cX4_row 8 = .ok (.ifCond .ne 5, 3) := by decide +kernel
theorem dX4_row_11 : decode cX4_row 11 = .ok (.iconst (-1), 1) := by decide +kernel
theorem dX4_row_12 : decode cX4_row 12 = .ok (.ireturn, 1) := by decide +kernel
theorem dX4_row_13 : decode cX4_row 13 = .ok (.aload_n 0, 1) := by decide +kernel
theorem dX4_row_14 : decode cX4_row 14 = .ok (.getfield 10, 3) := by decide +kernel
theorem dX4_row_17 : decode cX4_row 17 = .ok (.getfield 68, 3) := by decide +kernel
theorem dX4_row_20 : decode cX4_row 20 = .ok (.iload_n 1, 1) := by decide +kernel
theorem dX4_row_21 : decode cX4_row 21 = .ok (.iaload, 1) := by decide +kernel
theorem dX4_row_22 : decode cX4_row 22 = .ok (.istore_n 3, 1) := by decide +kernel
theorem dX4_row_23 : decode cX4_row 23 = .ok (.iload_n 3, 1) := by decide +kernel
theorem dX4_row_24 : decode cX4_row 24 = .ok (.invokestatic 95, 3) := by decide +kernel
theorem dX4_row_27 : decode cX4_row 27 = .ok (.istore 4, 2) := by decide +kernel
theorem dX4_row_29 : decode cX4_row 29 = .ok (.iload_n 2, 1) := by decide +kernel
theorem dX4_row_30 : decode cX4_row 30 = .ok (.tableswitch 101 0 7 #[46, 48, 51, 57, 63, 69, 78, 84], 46) := by decide +kernel
theorem dX4_row_76 : decode cX4_row 76 = .ok (.iload_n 3, 1) := by decide +kernel
theorem dX4_row_77 : decode cX4_row 77 = .ok (.ireturn, 1) := by decide +kernel
theorem dX4_row_78 : decode cX4_row 78 = .ok (.iload 4, 2) := by decide +kernel
theorem dX4_row_80 : decode cX4_row 80 = .ok (.ireturn, 1) := by decide +kernel
theorem dX4_row_81 : decode cX4_row 81 = .ok (.iload 4, 2) := by decide +kernel
theorem dX4_row_83 : decode cX4_row 83 = .ok (.invokestatic 101, 3) := by decide +kernel
theorem dX4_row_86 : decode cX4_row 86 = .ok (.ireturn, 1) := by decide +kernel
theorem dX4_row_87 : decode cX4_row 87 = .ok (.iload 4, 2) := by decide +kernel
theorem dX4_row_89 : decode cX4_row 89 = .ok (.invokestatic 104, 3) := by decide +kernel
theorem dX4_row_92 : decode cX4_row 92 = .ok (.ireturn, 1) := by decide +kernel
theorem dX4_row_93 : decode cX4_row 93 = .ok (.iload 4, 2) := by decide +kernel
theorem dX4_row_95 : decode cX4_row 95 = .ok (.invokestatic 107, 3) := by decide +kernel
theorem dX4_row_98 : decode cX4_row 98 = .ok (.ireturn, 1) := by decide +kernel
theorem dX4_row_99 : decode cX4_row 99 = .ok (.aload_n 0, 1) := by decide +kernel
theorem dX4_row_100 : decode cX4_row 100 = .ok (.getfield 10, 3) := by decide +kernel
theorem dX4_row_103 : decode cX4_row 103 = .ok (.iload_n 1, 1) := by decide +kernel
theorem dX4_row_104 : decode cX4_row 104 = .ok (.invokevirtual 110, 3) := by decide +kernel
theorem dX4_row_107 : decode cX4_row 107 = .ok (.ireturn, 1) := by decide +kernel
theorem dX4_row_108 : decode cX4_row 108 = .ok (.iload 4, 2) := by decide +kernel
theorem dX4_row_110 : decode cX4_row 110 = .ok (.invokestatic 113, 3) := by decide +kernel
theorem dX4_row_113 : decode cX4_row 113 = .ok (.ireturn, 1) := by decide +kernel
theorem dX4_row_114 : decode cX4_row 114 = .ok (.aload_n 0, 1) := by decide +kernel
theorem dX4_row_115 : decode cX4_row 115 = .ok (.getfield 10, 3) := by decide +kernel
theorem dX4_row_118 : decode cX4_row 118 = .ok (.iload_n 1, 1) := by decide +kernel
theorem dX4_row_119 : decode cX4_row 119 = .ok (.invokevirtual 116, 3) := by decide +kernel
theorem dX4_row_122 : decode cX4_row 122 = .ok (.ifCond .eq 7, 3) := by decide +kernel
theorem dX4_row_125 : decode cX4_row 125 = .ok (.iconst 1, 1) := by decide +kernel
theorem dX4_row_126 : decode cX4_row 126 = .ok (.goto 4, 3) := by decide +kernel
theorem dX4_row_129 : decode cX4_row 129 = .ok (.iconst 0, 1) := by decide +kernel
theorem dX4_row_130 : decode cX4_row 130 = .ok (.ireturn, 1) := by decide +kernel
theorem dX4_row_131 : decode cX4_row 131 = .ok (.iconst (-1), 1) := by decide +kernel
theorem dX4_row_132 : decode cX4_row 132 = .ok (.ireturn, 1) := by decide +kernel
set_option maxRecDepth 20000 in
theorem ggX4_count_X4_isBetween : GoodIn wsX4_count wsX4_isBetween := goodIn_r _ [18] (by decide +kernel) (by decide +kernel)
set_option maxRecDepth 20000 in
theorem gX4_count_X4_isBetween : GoodIn wsX4_count (va_wsS RX4 40 yX4_isBetween wsX4_isBetween) := goodIn_app (goodIn_of _ (by decide +kernel)) ggX4_count_X4_isBetween
set_option maxRecDepth 20000 in
theorem ggX4_count_X0_blackRows : GoodIn wsX4_count wsX0_blackRows := goodIn_r _ [23, 24, 25, 26, 27, 22, 28, 29, 30, 89, 90, 91, 92, 93, 94, 95, 96, 97, 98] (by decide +kernel) (by decide +kernel)
set_option maxRecDepth 20000 in
theorem gX4_count_X0_blackRows : GoodIn wsX4_count (wsV RX4 119 RX0 yX0_blackRows wsX0_blackRows) := goodIn_app (goodIn_of _ (by decide +kernel)) ggX4_count_X0_blackRows
set_option maxRecDepth 20000 in
theorem ggX4_count_X0_fringes : GoodIn wsX4_count wsX0_fringes := goodIn_r _ [34, 24, 35, 36, 37, 22, 38, 39, 40, 41, 42, 29, 30, 43, 44, 45, 46, 47, 48, 49, 50, 51, 52, 53, 54, 55, 56, 57, 58, 59, 60, 61, 89, 90, 91, 92, 93, 94, 95, 96, 97, 98] (by decide +kernel) (by decide +kernel)
set_option maxRecDepth 20000 in
theorem gX4_count_X0_fringes : GoodIn wsX4_count (wsV RX4 123 RX0 yX0_fringes wsX0_fringes) := goodIn_app (goodIn_of _ (by decide +kernel)) ggX4_count_X0_fringes
set_option maxRecDepth 20000 in
theorem ggX4_count_X0_differentColours : GoodIn wsX4_count wsX0_differentColours := goodIn_r _ [65, 24, 39, 40, 41, 22, 42, 29, 30, 43, 44, 45, 46, 47, 48, 49, 50, 51, 52, 53, 54, 55, 56, 57, 58, 59, 60, 61, 66, 67, 68, 69, 70, 71, 72, 89, 90, 91, 92, 93, 94, 95, 96, 97, 98] (by decide +kernel) (by decide +kernel)
set_option maxRecDepth 20000 in
theorem gX4_count_X0_differentColours : GoodIn wsX4_count (wsV RX4 126 RX0 yX0_differentColours wsX0_differentColours) := goodIn_app (goodIn_of _ (by decide +kernel)) ggX4_count_X0_differentColours
set_option maxRecDepth 20000 in
theorem ggX4_count_X0_greatestOrder : GoodIn wsX4_count wsX0_greatestOrder := goodIn_r _ [76, 24, 29, 77, 78, 79, 80, 81, 48, 45, 49, 82, 83, 84, 89, 90, 91, 92, 93, 94, 95, 96, 97, 98] (by decide +kernel) (by decide +kernel)
set_option maxRecDepth 20000 in
theorem gX4_count_X0_greatestOrder : GoodIn wsX4_count (wsV RX4 129 RX0 yX0_greatestOrder wsX0_greatestOrder) := goodIn_app (goodIn_of _ (by decide +kernel)) ggX4_count_X0_greatestOrder
theorem dX4_count_0 : decode cX4_count 0 = .ok (.iload_n 1, 1) := by decide +kernel
theorem dX4_count_1 : decode cX4_count 1 = .ok (.bipush 20, 2) := by decide +kernel
theorem dX4_count_3 : decode cX4_count 3 = .ok (.bipush 26, 2) := by decide +kernel
theorem dX4_count_5 : decode cX4_count 5 = .ok (.invokestatic 40, 3) := by decide +kernel
theorem dX4_count_8 : decode cX4_count 8 = .ok (.ifCond .eq 16, 3) := by decide +kernel
theorem dX4_count_11 : decode cX4_count 11 = .ok (.aload_n 0, 1) := by decide +kernel
theorem dX4_count_12 : decode cX4_count 12 = .ok (.getfield 10, 3) := by decide +kernel
theorem dX4_count_15 : decode cX4_count 15 = .ok (.getfield 62, 3) := by decide +kernel
theorem dX4_count_18 : decode cX4_count 18 = .ok (.iload_n 1, 1) := by decide +kernel
theorem dX4_count_19 : decode cX4_count 19 = .ok (.bipush 20, 2) := by decide +kernel
theorem dX4_count_21 : decode cX4_count 21 = .ok (.isub, 1) := by decide +kernel
theorem dX4_count_22 : decode cX4_count 22 = .ok (.iaload, 1) := by decide +kernel
theorem dX4_count_23 : decode cX4_count 23 = .ok (.ireturn, 1) := by decide +kernel
theorem dX4_count_24 : decode cX4_count 24 = .ok (.iload_n 1, 1) := by decide +kernel
theorem dX4_count_25 : decode cX4_count 25 = .ok (.bipush 30, 2) := by decide +kernel
theorem dX4_count_27 : decode cX4_count 27 = .ok (.bipush 36, 2) := by decide +kernel
theorem dX4_count_29 : decode cX4_count 29 = .ok (.invokestatic 40, 3) := by decide +kernel
theorem dX4_count_32 : decode cX4_count 32 = .ok (.ifCond .eq 16, 3) := by decide +kernel
theorem dX4_count_35 : decode cX4_count 35 = .ok (.aload_n 0, 1) := by decide +kernel
theorem dX4_count_36 : decode cX4_count 36 = .ok (.getfield 10, 3) := by decide +kernel
theorem dX4_count_39 : decode cX4_count 39 = .ok (.getfield 48, 3) := by decide +kernel
theorem dX4_count_42 : decode cX4_count 42 = .ok (.iload_n 1, 1) := by decide +kernel
theorem dX4_count_43 : decode cX4_count 43 = .ok (.bipush 30, 2) := by decide +kernel
theorem dX4_count_45 : decode cX4_count 45 = .ok (.isub, 1) := by decide +kernel
theorem dX4_count_46 : decode cX4_count 46 = .ok (.iaload, 1) := by decide +kernel
theorem dX4_count_47 : decode cX4_count 47 = .ok (.ireturn, 1) := by decide +kernel
theorem dX4_count_48 : decode cX4_count 48 = .ok (.iload_n 1, 1) := by decide +kernel
theorem dX4_count_49 : decode cX4_count 49 = .ok (.tableswitch 216 0 12 #[67, 75, 83, 91, 99, 107, 130, 138, 161, 184, 192, 200, 208], 67) := by decide +kernel
theorem dX4_count_116 : decode cX4_count 116 = .ok (.aload_n 0, 1) := by decide +kernel
theorem dX4_count_117 : decode cX4_count 117 = .ok (.getfield 10, 3) := by decide +kernel
theorem dX4_count_120 : decode cX4_count 120 = .ok (.getfield 74, 3) := by decide +kernel
theorem dX4_count_123 : decode cX4_count 123 = .ok (.ireturn, 1) := by decide +kernel
theorem dX4_count_124 : decode cX4_count 124 = .ok (.aload_n 0, 1) := by decide +kernel
theorem dX4_count_125 : decode cX4_count 125 = .ok (.getfield 10, 3) := by decide +kernel
theorem dX4_count_128 : decode cX4_count 128 = .ok (.getfield 82, 3) := by decide +kernel
theorem dX4_count_131 : decode cX4_count 131 = .ok (.ireturn, 1) := by decide +kernel
theorem dX4_count_132 : decode cX4_count 132 = .ok (.aload_n 0, 1) := by decide +kernel
theorem dX4_count_133 : decode cX4_count 133 = .ok (.getfield 10, 3) := by decide +kernel
theorem dX4_count_136 : decode cX4_count 136 = .ok (.invokevirtual 119, 3) := by decide +kernel
theorem dX4_count_139 : decode cX4_count 139 = .ok (.ireturn, 1) := by decide +kernel
theorem dX4_count_140 : decode cX4_count 140 = .ok (.aload_n 0, 1) := by decide +kernel
theorem dX4_count_141 : decode cX4_count 141 = .ok (.getfield 10, 3) := by decide +kernel
theorem dX4_count_144 : decode cX4_count 144 = .ok (.invokevirtual 123, 3) := by decide +kernel
theorem dX4_count_147 : decode cX4_count 147 = .ok (.ireturn, 1) := by decide +kernel
theorem dX4_count_148 : decode cX4_count 148 = .ok (.aload_n 0, 1) := by decide +kernel
theorem dX4_count_149 : decode cX4_count 149 = .ok (.getfield 10, 3) := by decide +kernel
theorem dX4_count_152 : decode cX4_count 152 = .ok (.invokevirtual 126, 3) := by decide +kernel
theorem dX4_count_155 : decode cX4_count 155 = .ok (.ireturn, 1) := by decide +kernel
theorem dX4_count_156 : decode cX4_count 156 = .ok (.aload_n 0, 1) := by decide +kernel
theorem dX4_count_157 : decode cX4_count 157 = .ok (.getfield 10, 3) := by decide +kernel
theorem dX4_count_160 : decode cX4_count 160 = .ok (.getfield 74, 3) := by decide +kernel
theorem dX4_count_163 : decode cX4_count 163 = .ok (.ifCond .ne 8, 3) := by decide +kernel
theorem dX4_count_166 : decode cX4_count 166 = .ok (.bipush (-4), 2) := by decide +kernel
theorem dX4_count_168 : decode cX4_count 168 = .ok (.goto 10, 3) := by decide +kernel
theorem dX4_count_171 : decode cX4_count 171 = .ok (.aload_n 0, 1) := by decide +kernel
theorem dX4_count_172 : decode cX4_count 172 = .ok (.getfield 10, 3) := by decide +kernel
theorem dX4_count_175 : decode cX4_count 175 = .ok (.invokevirtual 129, 3) := by decide +kernel
theorem dX4_count_178 : decode cX4_count 178 = .ok (.ireturn, 1) := by decide +kernel
theorem dX4_count_179 : decode cX4_count 179 = .ok (.aload_n 0, 1) := by decide +kernel
theorem dX4_count_180 : decode cX4_count 180 = .ok (.getfield 10, 3) := by decide +kernel
theorem dX4_count_183 : decode cX4_count 183 = .ok (.getfield 132, 3) := by decide +kernel
theorem dX4_count_186 : decode cX4_count 186 = .ok (.ireturn, 1) := by decide +kernel
theorem dX4_count_187 : decode cX4_count 187 = .ok (.aload_n 0, 1) := by decide +kernel
theorem dX4_count_188 : decode cX4_count 188 = .ok (.getfield 10, 3) := by decide +kernel
theorem dX4_count_191 : decode cX4_count 191 = .ok (.getfield 135, 3) := by decide +kernel
theorem dX4_count_194 : decode cX4_count 194 = .ok (.ifCond .ne 8, 3) := by decide +kernel
theorem dX4_count_197 : decode cX4_count 197 = .ok (.bipush (-4), 2) := by decide +kernel
theorem dX4_count_199 : decode cX4_count 199 = .ok (.goto 10, 3) := by decide +kernel
theorem dX4_count_202 : decode cX4_count 202 = .ok (.aload_n 0, 1) := by decide +kernel
theorem dX4_count_203 : decode cX4_count 203 = .ok (.getfield 10, 3) := by decide +kernel
theorem dX4_count_206 : decode cX4_count 206 = .ok (.getfield 138, 3) := by decide +kernel
theorem dX4_count_209 : decode cX4_count 209 = .ok (.ireturn, 1) := by decide +kernel
theorem dX4_count_210 : decode cX4_count 210 = .ok (.aload_n 0, 1) := by decide +kernel
theorem dX4_count_211 : decode cX4_count 211 = .ok (.getfield 10, 3) := by decide +kernel
theorem dX4_count_214 : decode cX4_count 214 = .ok (.getfield 135, 3) := by decide +kernel
theorem dX4_count_217 : decode cX4_count 217 = .ok (.ifCond .ne 8, 3) := by decide +kernel
theorem dX4_count_220 : decode cX4_count 220 = .ok (.bipush (-4), 2) := by decide +kernel
theorem dX4_count_222 : decode cX4_count 222 = .ok (.goto 10, 3) := by decide +kernel
theorem dX4_count_225 : decode cX4_count 225 = .ok (.aload_n 0, 1) := by decide +kernel
theorem dX4_count_226 : decode cX4_count 226 = .ok (.getfield 10, 3) := by decide +kernel
theorem dX4_count_229 : decode cX4_count 229 = .ok (.getfield 141, 3) := by decide +kernel
theorem dX4_count_232 : decode cX4_count 232 = .ok (.ireturn, 1) := by decide +kernel
theorem dX4_count_233 : decode cX4_count 233 = .ok (.aload_n 0, 1) := by decide +kernel
theorem dX4_count_234 : decode cX4_count 234 = .ok (.getfield 10, 3) := by decide +kernel
theorem dX4_count_237 : decode cX4_count 237 = .ok (.getfield 135, 3) := by decide +kernel
theorem dX4_count_240 : decode cX4_count 240 = .ok (.ireturn, 1) := by decide +kernel
theorem dX4_count_241 : decode cX4_count 241 = .ok (.aload_n 0, 1) := by decide +kernel
theorem dX4_count_242 : decode cX4_count 242 = .ok (.getfield 10, 3) := by decide +kernel
theorem dX4_count_245 : decode cX4_count 245 = .ok (.getfield 144, 3) := by decide +kernel
theorem dX4_count_248 : decode cX4_count 248 = .ok (.ireturn, 1) := by decide +kernel
theorem dX4_count_249 : decode cX4_count 249 = .ok (.aload_n 0, 1) := by decide +kernel
theorem dX4_count_250 : decode cX4_count 250 = .ok (.getfield 22, 3) := by decide +kernel
theorem dX4_count_253 : decode cX4_count 253 = .ok (.getfield 89, 3) := by decide +kernel
theorem dX4_count_256 : decode cX4_count 256 = .ok (.ireturn, 1) := by decide +kernel
theorem dX4_count_257 : decode cX4_count 257 = .ok (.aload_n 0, 1) := by decide +kernel
theorem dX4_count_258 : decode cX4_count 258 = .ok (.getfield 29, 3) := by decide +kernel
theorem dX4_count_261 : decode cX4_count 261 = .ok (.getfield 147, 3) := by decide +kernel
theorem dX4_count_264 : decode cX4_count 264 = .ok (.ireturn, 1) := by decide +kernel
theorem dX4_count_265 : decode cX4_count 265 = .ok (.iconst (-1), 1) := by decide +kernel
theorem dX4_count_266 : decode cX4_count 266 = .ok (.ireturn, 1) := by decide +kernel
set_option maxRecDepth 20000 in
theorem ggX4_ladder_X0_startsColour : GoodIn wsX4_ladder wsX0_startsColour := goodIn_r _ [7, 8, 9, 10, 6, 11, 12, 13, 14, 15, 16, 17, 18, 19, 20, 21, 22, 23, 24, 25, 26, 27, 28, 29, 30, 31, 32, 38, 39, 40, 41, 42, 43, 44, 45, 46, 47] (by decide +kernel) (by decide +kernel)
set_option maxRecDepth 20000 in
theorem gX4_ladder_X0_startsColour : GoodIn wsX4_ladder (wsV RX4 150 RX0 yX0_startsColour wsX0_startsColour) := goodIn_app (goodIn_of _ (by decide +kernel)) ggX4_ladder_X0_startsColour
set_option maxRecDepth 20000 in
theorem ggX4_ladder_X0_colourAt : GoodIn wsX4_ladder wsX0_colourAt := goodIn_r _ [11, 12, 13, 14, 15, 16, 17, 18, 19, 20, 21, 22, 23, 24, 25, 26, 27, 28, 29, 30, 31, 32, 38, 39, 40, 41, 42, 43, 44, 45, 46, 47] (by decide +kernel) (by decide +kernel)
set_option maxRecDepth 20000 in
theorem gX4_ladder_X0_colourAt : GoodIn wsX4_ladder (wsV RX4 110 RX0 yX0_colourAt wsX0_colourAt) := goodIn_app (goodIn_of _ (by decide +kernel)) ggX4_ladder_X0_colourAt
theorem dX4_ladder_0 : decode cX4_ladder 0 = .ok (.iload_n 1, 1) := by decide +kernel
theorem dX4_ladder_1 : decode cX4_ladder 1 = .ok (.ifCond .ge 5, 3) := by decide +kernel
theorem dX4_ladder_4 : decode cX4_ladder 4 = .ok (.iconst (-1), 1) := by decide +kernel
theorem dX4_ladder_5 : decode cX4_ladder 5 = .ok (.ireturn, 1) := by decide +kernel
theorem dX4_ladder_6 : decode cX4_ladder 6 = .ok (.iconst 0, 1) := by decide +kernel
theorem dX4_ladder_7 : decode cX4_ladder 7 = .ok (.istore_n 2, 1) := by decide +kernel
theorem dX4_ladder_8 : decode cX4_ladder 8 = .ok (.iconst 0, 1) := by decide +kernel
theorem dX4_ladder_9 : decode cX4_ladder 9 = .ok (.istore_n 3, 1) := by decide +kernel
theorem dX4_ladder_10 : decode cX4_ladder 10 = .ok (.iload_n 3, 1) := by decide +kernel
theorem dX4_ladder_11 : decode cX4_ladder 11 = .ok (.aload_n 0, 1) := by decide +kernel
theorem dX4_ladder_12 : decode cX4_ladder 12 = .ok (.getfield 10, 3) := by decide +kernel
theorem dX4_ladder_15 : decode cX4_ladder 15 = .ok (.getfield 74, 3) := by decide +kernel
theorem dX4_ladder_18 : decode cX4_ladder 18 = .ok (.if_icmp .ge 37, 3) := by decide +kernel
theorem dX4_ladder_21 : decode cX4_ladder 21 = .ok (.aload_n 0, 1) := by decide +kernel
theorem dX4_ladder_22 : decode cX4_ladder 22 = .ok (.getfield 10, 3) := by decide +kernel
theorem dX4_ladder_25 : decode cX4_ladder 25 = .ok (.iload_n 3, 1) := by decide +kernel
theorem dX4_ladder_26 : decode cX4_ladder 26 = .ok (.invokevirtual 150, 3) := by decide +kernel
theorem dX4_ladder_29 : decode cX4_ladder 29 = .ok (.ifCond .eq 20, 3) := by decide +kernel
theorem dX4_ladder_32 : decode cX4_ladder 32 = .ok (.iload_n 2, 1) := by decide +kernel
theorem dX4_ladder_33 : decode cX4_ladder 33 = .ok (.iload_n 1, 1) := by decide +kernel
theorem dX4_ladder_34 : decode cX4_ladder 34 = .ok (.if_icmp .ne 12, 3) := by decide +kernel
theorem dX4_ladder_37 : decode cX4_ladder 37 = .ok (.aload_n 0, 1) := by decide +kernel
theorem dX4_ladder_38 : decode cX4_ladder 38 = .ok (.getfield 10, 3) := by decide +kernel
theorem dX4_ladder_41 : decode cX4_ladder 41 = .ok (.iload_n 3, 1) := by decide +kernel
theorem dX4_ladder_42 : decode cX4_ladder 42 = .ok (.invokevirtual 110, 3) := by decide +kernel
theorem dX4_ladder_45 : decode cX4_ladder 45 = .ok (.ireturn, 1) := by decide +kernel
theorem dX4_ladder_46 : decode cX4_ladder 46 = .ok (.iinc 2 1, 3) := by decide +kernel
theorem dX4_ladder_49 : decode cX4_ladder 49 = .ok (.iinc 3 1, 3) := by decide +kernel
theorem dX4_ladder_52 : decode cX4_ladder 52 = .ok (.goto (-42), 3) := by decide +kernel
theorem dX4_ladder_55 : decode cX4_ladder 55 = .ok (.bipush (-4), 2) := by decide +kernel
theorem dX4_ladder_57 : decode cX4_ladder 57 = .ok (.ireturn, 1) := by decide +kernel
set_option maxRecDepth 20000 in
theorem ggX4_find_X4_isColour : GoodIn wsX4_find wsX4_isColour := goodIn_r _ [6, 7, 8, 5, 9] (by decide +kernel) (by decide +kernel)
set_option maxRecDepth 20000 in
theorem gX4_find_X4_isColour : GoodIn wsX4_find (va_wsS RX4 153 yX4_isColour wsX4_isColour) := goodIn_app (goodIn_of _ (by decide +kernel)) ggX4_find_X4_isColour
set_option maxRecDepth 20000 in
theorem ggX4_find_X0_colourAt : GoodIn wsX4_find wsX0_colourAt := goodIn_r _ [14, 15, 16, 17, 18, 19, 20, 21, 22, 23, 24, 25, 26, 27, 28, 29, 30, 31, 32, 33, 34, 35, 40, 41, 42, 43, 44, 45, 46, 47, 48, 49] (by decide +kernel) (by decide +kernel)
set_option maxRecDepth 20000 in
theorem gX4_find_X0_colourAt : GoodIn wsX4_find (wsV RX4 110 RX0 yX0_colourAt wsX0_colourAt) := goodIn_app (goodIn_of _ (by decide +kernel)) ggX4_find_X0_colourAt
theorem dX4_find_0 : decode cX4_find 0 = .ok (.iload_n 1, 1) := by decide +kernel
theorem dX4_find_1 : decode cX4_find 1 = .ok (.invokestatic 153, 3) := by decide +kernel
theorem dX4_find_4 : decode cX4_find 4 = .ok (.ifCond .eq 7, 3) := by decide +kernel
theorem dX4_find_7 : decode cX4_find 7 = .ok (.iload_n 2, 1) := by decide +kernel
theorem dX4_find_8 : decode cX4_find 8 = .ok (.ifCond .ge 5, 3) := by decide +kernel
theorem dX4_find_11 : decode cX4_find 11 = .ok (.iconst (-1), 1) := by decide +kernel
theorem dX4_find_12 : decode cX4_find 12 = .ok (.ireturn, 1) := by decide +kernel
theorem dX4_find_13 : decode cX4_find 13 = .ok (.iload_n 2, 1) := by decide +kernel
theorem dX4_find_14 : decode cX4_find 14 = .ok (.istore_n 3, 1) := by decide +kernel
theorem dX4_find_15 : decode cX4_find 15 = .ok (.iload_n 3, 1) := by decide +kernel
theorem dX4_find_16 : decode cX4_find 16 = .ok (.aload_n 0, 1) := by decide +kernel
theorem dX4_find_17 : decode cX4_find 17 = .ok (.getfield 10, 3) := by decide +kernel
theorem dX4_find_20 : decode cX4_find 20 = .ok (.getfield 74, 3) := by decide +kernel
theorem dX4_find_23 : decode cX4_find 23 = .ok (.if_icmp .ge 23, 3) := by decide +kernel
theorem dX4_find_26 : decode cX4_find 26 = .ok (.aload_n 0, 1) := by decide +kernel
theorem dX4_find_27 : decode cX4_find 27 = .ok (.getfield 10, 3) := by decide +kernel
theorem dX4_find_30 : decode cX4_find 30 = .ok (.iload_n 3, 1) := by decide +kernel
theorem dX4_find_31 : decode cX4_find 31 = .ok (.invokevirtual 110, 3) := by decide +kernel
theorem dX4_find_34 : decode cX4_find 34 = .ok (.iload_n 1, 1) := by decide +kernel
theorem dX4_find_35 : decode cX4_find 35 = .ok (.if_icmp .ne 5, 3) := by decide +kernel
theorem dX4_find_38 : decode cX4_find 38 = .ok (.iload_n 3, 1) := by decide +kernel
theorem dX4_find_39 : decode cX4_find 39 = .ok (.ireturn, 1) := by decide +kernel
theorem dX4_find_40 : decode cX4_find 40 = .ok (.iinc 3 1, 3) := by decide +kernel
theorem dX4_find_43 : decode cX4_find 43 = .ok (.goto (-28), 3) := by decide +kernel
theorem dX4_find_46 : decode cX4_find 46 = .ok (.bipush (-4), 2) := by decide +kernel
theorem dX4_find_48 : decode cX4_find 48 = .ok (.ireturn, 1) := by decide +kernel
set_option maxRecDepth 20000 in
theorem ggX4_colourOf_X4_isThickness : GoodIn wsX4_colourOf wsX4_isThickness := goodIn_r _ [6, 7, 8, 5, 9] (by decide +kernel) (by decide +kernel)
set_option maxRecDepth 20000 in
theorem gX4_colourOf_X4_isThickness : GoodIn wsX4_colourOf (va_wsS RX4 51 yX4_isThickness wsX4_isThickness) := goodIn_app (goodIn_of _ (by decide +kernel)) ggX4_colourOf_X4_isThickness
set_option maxRecDepth 20000 in
theorem ggX4_colourOf_X3_colour : GoodIn wsX4_colourOf wsX3_colour := goodIn_r _ [13, 14, 15, 12, 16, 17, 18, 19, 20, 21, 22, 23, 24, 25, 26, 27, 28] (by decide +kernel) (by decide +kernel)
set_option maxRecDepth 20000 in
theorem gX4_colourOf_X3_colour : GoodIn wsX4_colourOf (va_wsS RX4 156 yX3_colour wsX3_colour) := goodIn_app (goodIn_of _ (by decide +kernel)) ggX4_colourOf_X3_colour
theorem dX4_colourOf_0 : decode cX4_colourOf 0 = .ok (.iload_n 1, 1) := by decide +kernel
theorem dX4_colourOf_1 : decode cX4_colourOf 1 = .ok (.invokestatic 51, 3) := by decide +kernel
theorem dX4_colourOf_4 : decode cX4_colourOf 4 = .ok (.ifCond .ne 5, 3) := by decide +kernel
theorem dX4_colourOf_7 : decode cX4_colourOf 7 = .ok (.iconst (-1), 1) := by decide +kernel
theorem dX4_colourOf_8 : decode cX4_colourOf 8 = .ok (.ireturn, 1) := by decide +kernel
theorem dX4_colourOf_9 : decode cX4_colourOf 9 = .ok (.iload_n 1, 1) := by decide +kernel
theorem dX4_colourOf_10 : decode cX4_colourOf 10 = .ok (.aload_n 0, 1) := by decide +kernel
theorem dX4_colourOf_11 : decode cX4_colourOf 11 = .ok (.getfield 10, 3) := by decide +kernel
theorem dX4_colourOf_14 : decode cX4_colourOf 14 = .ok (.getfield 48, 3) := by decide +kernel
theorem dX4_colourOf_17 : decode cX4_colourOf 17 = .ok (.iconst 3, 1) := by decide +kernel
theorem dX4_colourOf_18 : decode cX4_colourOf 18 = .ok (.iaload, 1) := by decide +kernel
theorem dX4_colourOf_19 : decode cX4_colourOf 19 = .ok (.invokestatic 156, 3) := by decide +kernel
theorem dX4_colourOf_22 : decode cX4_colourOf 22 = .ok (.ireturn, 1) := by decide +kernel
set_option maxRecDepth 20000 in
theorem ggX4_thicknessFor_X4_isColour : GoodIn wsX4_thicknessFor wsX4_isColour := goodIn_r _ [6, 7, 8, 5, 9] (by decide +kernel) (by decide +kernel)
set_option maxRecDepth 20000 in
theorem gX4_thicknessFor_X4_isColour : GoodIn wsX4_thicknessFor (va_wsS RX4 153 yX4_isColour wsX4_isColour) := goodIn_app (goodIn_of _ (by decide +kernel)) ggX4_thicknessFor_X4_isColour
set_option maxRecDepth 20000 in
theorem ggX4_thicknessFor_X4_isThickness : GoodIn wsX4_thicknessFor wsX4_isThickness := goodIn_r _ [12, 7, 8, 5, 9] (by decide +kernel) (by decide +kernel)
set_option maxRecDepth 20000 in
theorem gX4_thicknessFor_X4_isThickness : GoodIn wsX4_thicknessFor (va_wsS RX4 51 yX4_isThickness wsX4_isThickness) := goodIn_app (goodIn_of _ (by decide +kernel)) ggX4_thicknessFor_X4_isThickness
set_option maxRecDepth 20000 in
theorem ggX4_thicknessFor_X3_colour : GoodIn wsX4_thicknessFor wsX3_colour := goodIn_r _ [16, 17, 18, 15, 19, 20, 21, 22, 23, 24, 25, 26, 27, 28, 29, 30, 31] (by decide +kernel) (by decide +kernel)
set_option maxRecDepth 20000 in
theorem gX4_thicknessFor_X3_colour : GoodIn wsX4_thicknessFor (va_wsS RX4 156 yX3_colour wsX3_colour) := goodIn_app (goodIn_of _ (by decide +kernel)) ggX4_thicknessFor_X3_colour
theorem dX4_thicknessFor_0 : decode cX4_thicknessFor 0 = .ok (.iload_n 1, 1) := by decide +kernel
theorem dX4_thicknessFor_1 : decode cX4_thicknessFor 1 = .ok (.invokestatic 153, 3) := by decide +kernel
theorem dX4_thicknessFor_4 : decode cX4_thicknessFor 4 = .ok (.ifCond .eq 10, 3) := by decide +kernel
theorem dX4_thicknessFor_7 : decode cX4_thicknessFor 7 = .ok (.iload_n 2, 1) := by decide +kernel
theorem dX4_thicknessFor_8 : decode cX4_thicknessFor 8 = .ok (.invokestatic 51, 3) := by decide +kernel
theorem dX4_thicknessFor_11 : decode cX4_thicknessFor 11 = .ok (.ifCond .ne 5, 3) := by decide +kernel
theorem dX4_thicknessFor_14 : decode cX4_thicknessFor 14 = .ok (.iconst (-1), 1) := by decide +kernel
theorem dX4_thicknessFor_15 : decode cX4_thicknessFor 15 = .ok (.ireturn, 1) := by decide +kernel
theorem dX4_thicknessFor_16 : decode cX4_thicknessFor 16 = .ok (.iload_n 2, 1) := by decide +kernel
theorem dX4_thicknessFor_17 : decode cX4_thicknessFor 17 = .ok (.istore_n 3, 1) := by decide +kernel
theorem dX4_thicknessFor_18 : decode cX4_thicknessFor 18 = .ok (.iload_n 3, 1) := by decide +kernel
theorem dX4_thicknessFor_19 : decode cX4_thicknessFor 19 = .ok (.sipush 5000, 3) := by decide +kernel
theorem dX4_thicknessFor_22 : decode cX4_thicknessFor 22 = .ok (.if_icmp .gt 28, 3) := by decide +kernel
theorem dX4_thicknessFor_25 : decode cX4_thicknessFor 25 = .ok (.iload_n 3, 1) := by decide +kernel
theorem dX4_thicknessFor_26 : decode cX4_thicknessFor 26 = .ok (.aload_n 0, 1) := by decide +kernel
theorem dX4_thicknessFor_27 : decode cX4_thicknessFor 27 = .ok (.getfield 10, 3) := by decide +kernel
theorem dX4_thicknessFor_30 : decode cX4_thicknessFor 30 = .ok (.getfield 48, 3) := by decide +kernel
theorem dX4_thicknessFor_33 : decode cX4_thicknessFor 33 = .ok (.iconst 3, 1) := by decide +kernel
theorem dX4_thicknessFor_34 : decode cX4_thicknessFor 34 = .ok (.iaload, 1) := by decide +kernel
theorem dX4_thicknessFor_35 : decode cX4_thicknessFor 35 = .ok (.invokestatic 156, 3) := by decide +kernel
theorem dX4_thicknessFor_38 : decode cX4_thicknessFor 38 = .ok (.iload_n 1, 1) := by decide +kernel
theorem dX4_thicknessFor_39 : decode cX4_thicknessFor 39 = .ok (.if_icmp .ne 5, 3) := by decide +kernel
theorem dX4_thicknessFor_42 : decode cX4_thicknessFor 42 = .ok (.iload_n 3, 1) := by decide +kernel
theorem dX4_thicknessFor_43 : decode cX4_thicknessFor 43 = .ok (.ireturn, 1) := by decide +kernel
theorem dX4_thicknessFor_44 : decode cX4_thicknessFor 44 = .ok (.iinc 3 1, 3) := by decide +kernel
theorem dX4_thicknessFor_47 : decode cX4_thicknessFor 47 = .ok (.goto (-29), 3) := by decide +kernel
theorem dX4_thicknessFor_50 : decode cX4_thicknessFor 50 = .ok (.bipush (-4), 2) := by decide +kernel
theorem dX4_thicknessFor_52 : decode cX4_thicknessFor 52 = .ok (.ireturn, 1) := by decide +kernel
set_option maxRecDepth 20000 in
theorem ggX4_until_X4_isQuestion : GoodIn wsX4_until wsX4_isQuestion := goodIn_r _ [7, 8, 9, 6, 10, 11, 12, 13] (by decide +kernel) (by decide +kernel)
set_option maxRecDepth 20000 in
theorem gX4_until_X4_isQuestion : GoodIn wsX4_until (va_wsS RX4 160 yX4_isQuestion wsX4_isQuestion) := goodIn_app (goodIn_of _ (by decide +kernel)) ggX4_until_X4_isQuestion
set_option maxRecDepth 20000 in
theorem ggX4_until_X0_copyFrom : GoodIn wsX4_until wsX0_copyFrom := goodIn_r _ [18, 19, 20, 21, 22, 23, 24, 25, 26, 27, 28, 29, 30, 31, 32, 127, 128, 129, 130, 131, 132, 133, 134, 135, 136] (by decide +kernel) (by decide +kernel)
set_option maxRecDepth 20000 in
theorem gX4_until_X0_copyFrom : GoodIn wsX4_until (wsV RX4 164 RX0 yX0_copyFrom wsX0_copyFrom) := goodIn_app (goodIn_of _ (by decide +kernel)) ggX4_until_X0_copyFrom
set_option maxRecDepth 20000 in
theorem ggX4_until_X4_isSo : GoodIn wsX4_until wsX4_isSo := goodIn_r _ [36, 1, 3, 37, 2, 38, 39, 40, 17, 41, 26, 42, 43, 44, 45, 19, 24, 46, 47, 48, 49, 50, 51, 52, 53, 54, 55, 56, 57, 58, 59, 60, 61, 62, 63, 64, 65, 66, 67, 68, 123, 124, 125, 126, 127, 128, 129, 130, 131, 132, 133, 134, 135, 136] (by decide +kernel) (by decide +kernel)
set_option maxRecDepth 20000 in
theorem gX4_until_X4_isSo : GoodIn wsX4_until (wsV RX4 167 RX4 yX4_isSo wsX4_isSo) := goodIn_app (goodIn_of _ (by decide +kernel)) ggX4_until_X4_isSo
set_option maxRecDepth 20000 in
theorem ggX4_until_X0_tick : GoodIn wsX4_until wsX0_tick := goodIn_r _ [72, 26, 27, 73, 74, 75, 17, 76, 19, 24, 77, 78, 79, 80, 81, 82, 83, 84, 85, 86, 87, 88, 89, 90, 91, 92, 93, 25, 94, 95, 96, 97, 42, 43, 44, 45, 98, 99, 100, 101, 102, 103, 104, 105, 28, 106, 107, 108, 109, 110, 111, 112, 113, 114, 39, 40, 41, 115, 116, 117, 118, 29, 30, 31, 32, 119, 120, 121, 122, 127, 128, 129, 130, 131, 132, 133, 134, 135, 136] (by decide +kernel) (by decide +kernel)
set_option maxRecDepth 20000 in
theorem gX4_until_X0_tick : GoodIn wsX4_until (wsV RX4 86 RX0 yX0_tick wsX0_tick) := goodIn_app (goodIn_of _ (by decide +kernel)) ggX4_until_X0_tick
theorem dX4_until_0 : decode cX4_until 0 = .ok (.iload_n 1, 1) := by decide +kernel
theorem dX4_until_1 : decode cX4_until 1 = .ok (.iload_n 2, 1) := by decide +kernel
theorem dX4_until_2 : decode cX4_until 2 = .ok (.invokestatic 160, 3) := by decide +kernel
theorem dX4_until_5 : decode cX4_until 5 = .ok (.ifCond .ne 5, 3) := by decide +kernel
theorem dX4_until_8 : decode cX4_until 8 = .ok (.iconst (-1), 1) := by decide +kernel
theorem dX4_until_9 : decode cX4_until 9 = .ok (.ireturn, 1) := by decide +kernel
theorem dX4_until_10 : decode cX4_until 10 = .ok (.aload_n 0, 1) := by decide +kernel
theorem dX4_until_11 : decode cX4_until 11 = .ok (.getfield 16, 3) := by decide +kernel
theorem dX4_until_14 : decode cX4_until 14 = .ok (.aload_n 0, 1) := by decide +kernel
theorem dX4_until_15 : decode cX4_until 15 = .ok (.getfield 10, 3) := by decide +kernel
theorem dX4_until_18 : decode cX4_until 18 = .ok (.invokevirtual 164, 3) := by decide +kernel
theorem dX4_until_21 : decode cX4_until 21 = .ok (.aload_n 0, 1) := by decide +kernel
theorem dX4_until_22 : decode cX4_until 22 = .ok (.iload_n 1, 1) := by decide +kernel
theorem dX4_until_23 : decode cX4_until 23 = .ok (.iload_n 2, 1) := by decide +kernel
theorem dX4_until_24 : decode cX4_until 24 = .ok (.invokevirtual 167, 3) := by decide +kernel
theorem dX4_until_27 : decode cX4_until 27 = .ok (.ifCond .eq 5, 3) := by decide +kernel
theorem dX4_until_30 : decode cX4_until 30 = .ok (.iconst 0, 1) := by decide +kernel
theorem dX4_until_31 : decode cX4_until 31 = .ok (.ireturn, 1) := by decide +kernel
theorem dX4_until_32 : decode cX4_until 32 = .ok (.iconst 1, 1) := by decide +kernel
theorem dX4_until_33 : decode cX4_until 33 = .ok (.istore_n 3, 1) := by decide +kernel
theorem dX4_until_34 : decode cX4_until 34 = .ok (.iload_n 3, 1) := by decide +kernel
theorem dX4_until_35 : decode cX4_until 35 = .ok (.sipush 1000, 3) := by decide +kernel
theorem dX4_until_38 : decode cX4_until 38 = .ok (.if_icmp .gt 37, 3) := by decide +kernel
theorem dX4_until_41 : decode cX4_until 41 = .ok (.aload_n 0, 1) := by decide +kernel
theorem dX4_until_42 : decode cX4_until 42 = .ok (.getfield 16, 3) := by decide +kernel
theorem dX4_until_45 : decode cX4_until 45 = .ok (.getfield 74, 3) := by decide +kernel
theorem dX4_until_48 : decode cX4_until 48 = .ok (.ifCond .le 27, 3) := by decide +kernel
theorem dX4_until_51 : decode cX4_until 51 = .ok (.aload_n 0, 1) := by decide +kernel
theorem dX4_until_52 : decode cX4_until 52 = .ok (.getfield 16, 3) := by decide +kernel
theorem dX4_until_55 : decode cX4_until 55 = .ok (.invokevirtual 86, 3) := by decide +kernel
theorem dX4_until_58 : decode cX4_until 58 = .ok (.aload_n 0, 1) := by decide +kernel
theorem dX4_until_59 : decode cX4_until 59 = .ok (.iload_n 1, 1) := by decide +kernel
theorem dX4_until_60 : decode cX4_until 60 = .ok (.iload_n 2, 1) := by decide +kernel
theorem dX4_until_61 : decode cX4_until 61 = .ok (.invokevirtual 167, 3) := by decide +kernel
theorem dX4_until_64 : decode cX4_until 64 = .ok (.ifCond .eq 5, 3) := by decide +kernel
theorem dX4_until_67 : decode cX4_until 67 = .ok (.iload_n 3, 1) := by decide +kernel
theorem dX4_until_68 : decode cX4_until 68 = .ok (.ireturn, 1) := by decide +kernel
theorem dX4_until_69 : decode cX4_until 69 = .ok (.iinc 3 1, 3) := by decide +kernel
theorem dX4_until_72 : decode cX4_until 72 = .ok (.goto (-38), 3) := by decide +kernel
theorem dX4_until_75 : decode cX4_until 75 = .ok (.bipush (-4), 2) := by decide +kernel
theorem dX4_until_77 : decode cX4_until 77 = .ok (.ireturn, 1) := by decide +kernel
set_option maxRecDepth 20000 in
theorem ggX4_ifGo_X0_hasRow : GoodIn wsX4_ifGo wsX0_hasRow := goodIn_r _ [9, 10, 97, 98, 99, 100, 101, 102, 103, 104, 105, 106] (by decide +kernel) (by decide +kernel)
set_option maxRecDepth 20000 in
theorem gX4_ifGo_X0_hasRow : GoodIn wsX4_ifGo (wsV RX4 65 RX0 yX0_hasRow wsX0_hasRow) := goodIn_app (goodIn_of _ (by decide +kernel)) ggX4_ifGo_X0_hasRow
set_option maxRecDepth 20000 in
theorem ggX4_ifGo_X4_isBetween : GoodIn wsX4_ifGo wsX4_isBetween := goodIn_r _ [14] (by decide +kernel) (by decide +kernel)
set_option maxRecDepth 20000 in
theorem gX4_ifGo_X4_isBetween : GoodIn wsX4_ifGo (va_wsS RX4 40 yX4_isBetween wsX4_isBetween) := goodIn_app (goodIn_of _ (by decide +kernel)) ggX4_ifGo_X4_isBetween
set_option maxRecDepth 20000 in
theorem ggX4_ifGo_X0_copyFrom : GoodIn wsX4_ifGo wsX0_copyFrom := goodIn_r _ [18, 19, 20, 21, 22, 23, 24, 25, 10, 26, 27, 28, 29, 30, 31, 97, 98, 99, 100, 101, 102, 103, 104, 105, 106] (by decide +kernel) (by decide +kernel)
set_option maxRecDepth 20000 in
theorem gX4_ifGo_X0_copyFrom : GoodIn wsX4_ifGo (wsV RX4 164 RX0 yX0_copyFrom wsX0_copyFrom) := goodIn_app (goodIn_of _ (by decide +kernel)) ggX4_ifGo_X0_copyFrom
set_option maxRecDepth 20000 in
theorem ggX4_ifGo_X0_tick : GoodIn wsX4_ifGo wsX0_tick := goodIn_r _ [35, 10, 26, 36, 37, 38, 8, 39, 19, 24, 40, 41, 42, 43, 44, 45, 46, 47, 48, 49, 50, 51, 52, 53, 54, 55, 56, 25, 57, 58, 59, 60, 61, 62, 63, 64, 65, 66, 67, 68, 69, 70, 71, 72, 27, 73, 74, 75, 76, 77, 78, 79, 80, 81, 82, 83, 84, 85, 86, 87, 88, 28, 29, 30, 31, 89, 90, 91, 92, 97, 98, 99, 100, 101, 102, 103, 104, 105, 106] (by decide +kernel) (by decide +kernel)
set_option maxRecDepth 20000 in
theorem gX4_ifGo_X0_tick : GoodIn wsX4_ifGo (wsV RX4 86 RX0 yX0_tick wsX0_tick) := goodIn_app (goodIn_of _ (by decide +kernel)) ggX4_ifGo_X0_tick
theorem dX4_ifGo_0 : decode cX4_ifGo 0 = .ok (.aload_n 0, 1) := by decide +kernel
theorem dX4_ifGo_1 : decode cX4_ifGo 1 = .ok (.getfield 10, 3) := by decide +kernel
theorem dX4_ifGo_4 : decode cX4_ifGo 4 = .ok (.iload_n 1, 1) := by decide +kernel
theorem dX4_ifGo_5 : decode cX4_ifGo 5 = .ok (.invokevirtual 65, 3) := by decide +kernel
theorem dX4_ifGo_8 : decode cX4_ifGo 8 = .ok (.ifCond .eq 14, 3) := by decide +kernel
theorem dX4_ifGo_11 : decode cX4_ifGo 11 = .ok (.iload_n 2, 1) := by decide +kernel
theorem dX4_ifGo_12 : decode cX4_ifGo 12 = .ok (.iconst 1, 1) := by decide +kernel
theorem dX4_ifGo_13 : decode cX4_ifGo 13 = .ok (.sipush 1000, 3) := by decide +kernel
theorem dX4_ifGo_16 : decode cX4_ifGo 16 = .ok (.invokestatic 40, 3) := by decide +kernel
theorem dX4_ifGo_19 : decode cX4_ifGo 19 = .ok (.ifCond .ne 5, 3) := by decide +kernel
theorem dX4_ifGo_22 : decode cX4_ifGo 22 = .ok (.iconst (-1), 1) := by decide +kernel
theorem dX4_ifGo_23 : decode cX4_ifGo 23 = .ok (.ireturn, 1) := by decide +kernel
theorem dX4_ifGo_24 : decode cX4_ifGo 24 = .ok (.aload_n 0, 1) := by decide +kernel
theorem dX4_ifGo_25 : decode cX4_ifGo 25 = .ok (.getfield 16, 3) := by decide +kernel
theorem dX4_ifGo_28 : decode cX4_ifGo 28 = .ok (.aload_n 0, 1) := by decide +kernel
theorem dX4_ifGo_29 : decode cX4_ifGo 29 = .ok (.getfield 10, 3) := by decide +kernel
theorem dX4_ifGo_32 : decode cX4_ifGo 32 = .ok (.invokevirtual 164, 3) := by decide +kernel
theorem dX4_ifGo_35 : decode cX4_ifGo 35 = .ok (.iconst 0, 1) := by decide +kernel
theorem dX4_ifGo_36 : decode cX4_ifGo 36 = .ok (.istore_n 3, 1) := by decide +kernel
theorem dX4_ifGo_37 : decode cX4_ifGo 37 = .ok (.iload_n 3, 1) := by decide +kernel
theorem dX4_ifGo_38 : decode cX4_ifGo 38 = .ok (.iload_n 2, 1) := by decide +kernel
theorem dX4_ifGo_39 : decode cX4_ifGo 39 = .ok (.if_icmp .ge 26, 3) := by decide +kernel
theorem dX4_ifGo_42 : decode cX4_ifGo 42 = .ok (.aload_n 0, 1) := by decide +kernel
theorem dX4_ifGo_43 : decode cX4_ifGo 43 = .ok (.getfield 16, 3) := by decide +kernel
theorem dX4_ifGo_46 : decode cX4_ifGo 46 = .ok (.getfield 74, 3) := by decide +kernel
theorem dX4_ifGo_49 : decode cX4_ifGo 49 = .ok (.ifCond .le 16, 3) := by decide +kernel
theorem dX4_ifGo_52 : decode cX4_ifGo 52 = .ok (.aload_n 0, 1) := by decide +kernel
theorem dX4_ifGo_53 : decode cX4_ifGo 53 = .ok (.getfield 16, 3) := by decide +kernel
theorem dX4_ifGo_56 : decode cX4_ifGo 56 = .ok (.invokevirtual 86, 3) := by decide +kernel
theorem dX4_ifGo_59 : decode cX4_ifGo 59 = .ok (.iinc 3 1, 3) := by decide +kernel
theorem dX4_ifGo_62 : decode cX4_ifGo 62 = .ok (.goto (-25), 3) := by decide +kernel
theorem dX4_ifGo_65 : decode cX4_ifGo 65 = .ok (.aload_n 0, 1) := by decide +kernel
theorem dX4_ifGo_66 : decode cX4_ifGo 66 = .ok (.getfield 16, 3) := by decide +kernel
theorem dX4_ifGo_69 : decode cX4_ifGo 69 = .ok (.iload_n 1, 1) := by decide +kernel
theorem dX4_ifGo_70 : decode cX4_ifGo 70 = .ok (.invokevirtual 65, 3) := by decide +kernel
theorem dX4_ifGo_73 : decode cX4_ifGo 73 = .ok (.ifCond .eq 15, 3) := by decide +kernel
theorem dX4_ifGo_76 : decode cX4_ifGo 76 = .ok (.aload_n 0, 1) := by decide +kernel
theorem dX4_ifGo_77 : decode cX4_ifGo 77 = .ok (.getfield 16, 3) := by decide +kernel
theorem dX4_ifGo_80 : decode cX4_ifGo 80 = .ok (.getfield 68, 3) := by decide +kernel
theorem dX4_ifGo_83 : decode cX4_ifGo 83 = .ok (.iload_n 1, 1) := by decide +kernel
theorem dX4_ifGo_84 : decode cX4_ifGo 84 = .ok (.iaload, 1) := by decide +kernel
theorem dX4_ifGo_85 : decode cX4_ifGo 85 = .ok (.goto 5, 3) := by decide +kernel
theorem dX4_ifGo_88 : decode cX4_ifGo 88 = .ok (.bipush (-4), 2) := by decide +kernel
theorem dX4_ifGo_90 : decode cX4_ifGo 90 = .ok (.ireturn, 1) := by decide +kernel
set_option maxRecDepth 20000 in
theorem ggX4_type_X4_isBetween : GoodIn wsX4_type wsX4_isBetween := goodIn_r _ [6] (by decide +kernel) (by decide +kernel)
set_option maxRecDepth 20000 in
theorem gX4_type_X4_isBetween : GoodIn wsX4_type (va_wsS RX4 40 yX4_isBetween wsX4_isBetween) := goodIn_app (goodIn_of _ (by decide +kernel)) ggX4_type_X4_isBetween
set_option maxRecDepth 20000 in
theorem ggX4_type_X1_append : GoodIn wsX4_type wsX1_append := goodIn_r _ [11, 12, 13, 18, 19, 20, 21, 22, 23] (by decide +kernel) (by decide +kernel)
set_option maxRecDepth 20000 in
theorem gX4_type_X1_append : GoodIn wsX4_type (wsV RX4 170 RX1 yX1_append wsX1_append) := goodIn_app (goodIn_of _ (by decide +kernel)) ggX4_type_X1_append
theorem dX4_type_0 : decode cX4_type 0 = .ok (.iload_n 1, 1) := by decide +kernel
theorem dX4_type_1 : decode cX4_type 1 = .ok (.bipush 32, 2) := by decide +kernel
theorem dX4_type_3 : decode cX4_type 3 = .ok (.bipush 126, 2) := by decide +kernel
theorem dX4_type_5 : decode cX4_type 5 = .ok (.invokestatic 40, 3) := by decide +kernel
theorem dX4_type_8 : decode cX4_type 8 = .ok (.ifCond .ne 5, 3) := by decide +kernel
theorem dX4_type_11 : decode cX4_type 11 = .ok (.iconst (-1), 1) := by decide +kernel
theorem dX4_type_12 : decode cX4_type 12 = .ok (.ireturn, 1) := by decide +kernel
theorem dX4_type_13 : decode cX4_type 13 = .ok (.aload_n 0, 1) := by decide +kernel
theorem dX4_type_14 : decode cX4_type 14 = .ok (.getfield 29, 3) := by decide +kernel
theorem dX4_type_17 : decode cX4_type 17 = .ok (.getfield 147, 3) := by decide +kernel
theorem dX4_type_20 : decode cX4_type 20 = .ok (.bipush 100, 2) := by decide +kernel
theorem dX4_type_22 : decode cX4_type 22 = .ok (.if_icmp .ne 6, 3) := by decide +kernel
theorem dX4_type_25 : decode cX4_type 25 = .ok (.bipush (-3), 2) := by decide +kernel
theorem dX4_type_27 : decode cX4_type 27 = .ok (.ireturn, 1) := by decide +kernel
theorem dX4_type_28 : decode cX4_type 28 = .ok (.aload_n 0, 1) := by decide +kernel
theorem dX4_type_29 : decode cX4_type 29 = .ok (.getfield 29, 3) := by decide +kernel
theorem dX4_type_32 : decode cX4_type 32 = .ok (.iload_n 1, 1) := by decide +kernel
theorem dX4_type_33 : decode cX4_type 33 = .ok (.i2c, 1) := by decide +kernel
theorem dX4_type_34 : decode cX4_type 34 = .ok (.invokevirtual 170, 3) := by decide +kernel
theorem dX4_type_37 : decode cX4_type 37 = .ok (.aload_n 0, 1) := by decide +kernel
theorem dX4_type_38 : decode cX4_type 38 = .ok (.getfield 29, 3) := by decide +kernel
theorem dX4_type_41 : decode cX4_type 41 = .ok (.getfield 147, 3) := by decide +kernel
theorem dX4_type_44 : decode cX4_type 44 = .ok (.ireturn, 1) := by decide +kernel
theorem dX4_clearText_0 : decode cX4_clearText 0 = .ok (.aload_n 0, 1) := by decide +kernel
theorem dX4_clearText_1 : decode cX4_clearText 1 = .ok (.getfield 29, 3) := by decide +kernel
theorem dX4_clearText_4 : decode cX4_clearText 4 = .ok (.getfield 147, 3) := by decide +kernel
theorem dX4_clearText_7 : decode cX4_clearText 7 = .ok (.istore_n 1, 1) := by decide +kernel
theorem dX4_clearText_8 : decode cX4_clearText 8 = .ok (.aload_n 0, 1) := by decide +kernel
theorem dX4_clearText_9 : decode cX4_clearText 9 = .ok (.getfield 29, 3) := by decide +kernel
theorem dX4_clearText_12 : decode cX4_clearText 12 = .ok (.iconst 0, 1) := by decide +kernel
theorem dX4_clearText_13 : decode cX4_clearText 13 = .ok (.putfield 147, 3) := by decide +kernel
theorem dX4_clearText_16 : decode cX4_clearText 16 = .ok (.iload_n 1, 1) := by decide +kernel
theorem dX4_clearText_17 : decode cX4_clearText 17 = .ok (.ireturn, 1) := by decide +kernel
set_option maxRecDepth 20000 in
theorem ggX4_fault_X4_isBetween : GoodIn wsX4_fault wsX4_isBetween := goodIn_r _ [7] (by decide +kernel) (by decide +kernel)
set_option maxRecDepth 20000 in
theorem gX4_fault_X4_isBetween : GoodIn wsX4_fault (va_wsS RX4 40 yX4_isBetween wsX4_isBetween) := goodIn_app (goodIn_of _ (by decide +kernel)) ggX4_fault_X4_isBetween
set_option maxRecDepth 20000 in
theorem ggX4_fault_X1_parse : GoodIn wsX4_fault wsX1_parse := goodIn_r _ [12, 13, 14, 15, 16, 17, 18, 19, 20, 11, 21, 22, 23, 24, 25, 26, 27, 28, 29, 30, 31, 6, 32, 4, 5, 7, 37, 38, 39, 40, 41, 42] (by decide +kernel) (by decide +kernel)
set_option maxRecDepth 20000 in
theorem gX4_fault_X1_parse : GoodIn wsX4_fault (wsV RX4 174 RX1 yX1_parse wsX1_parse) := goodIn_app (goodIn_of _ (by decide +kernel)) ggX4_fault_X1_parse
theorem dX4_fault_0 : decode cX4_fault 0 = .ok (.iload_n 1, 1) := by decide +kernel
theorem dX4_fault_1 : decode cX4_fault 1 = .ok (.iconst 0, 1) := by decide +kernel
theorem dX4_fault_2 : decode cX4_fault 2 = .ok (.iconst 1, 1) := by decide +kernel
theorem dX4_fault_3 : decode cX4_fault 3 = .ok (.invokestatic 40, 3) := by decide +kernel
theorem dX4_fault_6 : decode cX4_fault 6 = .ok (.ifCond .ne 5, 3) := by decide +kernel
theorem dX4_fault_9 : decode cX4_fault 9 = .ok (.iconst (-1), 1) := by decide +kernel
theorem dX4_fault_10 : decode cX4_fault 10 = .ok (.ireturn, 1) := by decide +kernel
theorem dX4_fault_11 : decode cX4_fault 11 = .ok (.aload_n 0, 1) := by decide +kernel
theorem dX4_fault_12 : decode cX4_fault 12 = .ok (.getfield 29, 3) := by decide +kernel
theorem dX4_fault_15 : decode cX4_fault 15 = .ok (.invokevirtual 174, 3) := by decide +kernel
theorem dX4_fault_18 : decode cX4_fault 18 = .ok (.aload_n 0, 1) := by decide +kernel
theorem dX4_fault_19 : decode cX4_fault 19 = .ok (.getfield 29, 3) := by decide +kernel
theorem dX4_fault_22 : decode cX4_fault 22 = .ok (.getfield 177, 3) := by decide +kernel
theorem dX4_fault_25 : decode cX4_fault 25 = .ok (.ifCond .ne 6, 3) := by decide +kernel
theorem dX4_fault_28 : decode cX4_fault 28 = .ok (.bipush (-4), 2) := by decide +kernel
theorem dX4_fault_30 : decode cX4_fault 30 = .ok (.ireturn, 1) := by decide +kernel
theorem dX4_fault_31 : decode cX4_fault 31 = .ok (.iload_n 1, 1) := by decide +kernel
theorem dX4_fault_32 : decode cX4_fault 32 = .ok (.ifCond .ne 13, 3) := by decide +kernel
theorem dX4_fault_35 : decode cX4_fault 35 = .ok (.aload_n 0, 1) := by decide +kernel
theorem dX4_fault_36 : decode cX4_fault 36 = .ok (.getfield 29, 3) := by decide +kernel
theorem dX4_fault_39 : decode cX4_fault 39 = .ok (.getfield 180, 3) := by decide +kernel
theorem dX4_fault_42 : decode cX4_fault 42 = .ok (.goto 10, 3) := by decide +kernel
theorem dX4_fault_45 : decode cX4_fault 45 = .ok (.aload_n 0, 1) := by decide +kernel
theorem dX4_fault_46 : decode cX4_fault 46 = .ok (.getfield 29, 3) := by decide +kernel
theorem dX4_fault_49 : decode cX4_fault 49 = .ok (.getfield 177, 3) := by decide +kernel
theorem dX4_fault_52 : decode cX4_fault 52 = .ok (.ireturn, 1) := by decide +kernel
set_option maxRecDepth 20000 in
theorem ggX4_read_X1_parse : GoodIn wsX4_read wsX1_parse := goodIn_r _ [12, 13, 14, 15, 16, 17, 18, 19, 20, 11, 21, 22, 23, 24, 25, 26, 27, 28, 29, 30, 31, 32, 33, 34, 35, 36, 91, 92, 93, 94, 95, 96] (by decide +kernel) (by decide +kernel)
set_option maxRecDepth 20000 in
theorem gX4_read_X1_parse : GoodIn wsX4_read (wsV RX4 174 RX1 yX1_parse wsX1_parse) := goodIn_app (goodIn_of _ (by decide +kernel)) ggX4_read_X1_parse
set_option maxRecDepth 20000 in
theorem ggX4_read_X2_keep : GoodIn wsX4_read wsX2_keep := goodIn_r _ [41, 42, 43, 44, 45, 46, 40, 47, 48, 49, 50, 51, 52, 53, 54, 55, 56, 57, 58, 59, 60, 61, 62, 63, 64, 65, 66, 107, 108, 97, 98, 99, 100, 101, 102, 103, 104, 105, 106] (by decide +kernel) (by decide +kernel)
set_option maxRecDepth 20000 in
theorem gX4_read_X2_keep : GoodIn wsX4_read (wsV RX4 44 RX2 yX2_keep wsX2_keep) := goodIn_app (goodIn_of _ (by decide +kernel)) ggX4_read_X2_keep
set_option maxRecDepth 20000 in
theorem ggX4_read_X0_takeAway : GoodIn wsX4_read wsX0_takeAway := goodIn_r _ [70, 71, 72, 73, 51, 74, 59, 60, 75, 76, 77, 78, 97, 98, 99, 100, 101, 102, 103, 104, 105, 106] (by decide +kernel) (by decide +kernel)
set_option maxRecDepth 20000 in
theorem gX4_read_X0_takeAway : GoodIn wsX4_read (wsV RX4 55 RX0 yX0_takeAway wsX0_takeAway) := goodIn_app (goodIn_of _ (by decide +kernel)) ggX4_read_X0_takeAway
set_option maxRecDepth 20000 in
theorem ggX4_read_X0_appendRow : GoodIn wsX4_read wsX0_appendRow := goodIn_r _ [82, 60, 53, 83, 84, 85, 51, 86, 59, 97, 98, 99, 100, 101, 102, 103, 104, 105, 106] (by decide +kernel) (by decide +kernel)
set_option maxRecDepth 20000 in
theorem gX4_read_X0_appendRow : GoodIn wsX4_read (wsV RX4 58 RX0 yX0_appendRow wsX0_appendRow) := goodIn_app (goodIn_of _ (by decide +kernel)) ggX4_read_X0_appendRow
theorem dX4_read_0 : decode cX4_read 0 = .ok (.aload_n 0, 1) := by decide +kernel
theorem dX4_read_1 : decode cX4_read 1 = .ok (.getfield 29, 3) := by decide +kernel
theorem dX4_read_4 : decode cX4_read 4 = .ok (.invokevirtual 174, 3) := by decide +kernel
theorem dX4_read_7 : decode cX4_read 7 = .ok (.aload_n 0, 1) := by decide +kernel
theorem dX4_read_8 : decode cX4_read 8 = .ok (.getfield 29, 3) := by decide +kernel
theorem dX4_read_11 : decode cX4_read 11 = .ok (.getfield 177, 3) := by decide +kernel
theorem dX4_read_14 : decode cX4_read 14 = .ok (.ifCond .eq 6, 3) := by decide +kernel
theorem dX4_read_17 : decode cX4_read 17 = .ok (.bipush (-2), 2) := by decide +kernel
theorem dX4_read_19 : decode cX4_read 19 = .ok (.ireturn, 1) := by decide +kernel
theorem dX4_read_20 : decode cX4_read 20 = .ok (.aload_n 0, 1) := by decide +kernel
theorem dX4_read_21 : decode cX4_read 21 = .ok (.getfield 22, 3) := by decide +kernel
theorem dX4_read_24 : decode cX4_read 24 = .ok (.aload_n 0, 1) := by decide +kernel
theorem dX4_read_25 : decode cX4_read 25 = .ok (.getfield 10, 3) := by decide +kernel
theorem dX4_read_28 : decode cX4_read 28 = .ok (.invokevirtual 44, 3) := by decide +kernel
theorem dX4_read_31 : decode cX4_read 31 = .ok (.aload_n 0, 1) := by decide +kernel
theorem dX4_read_32 : decode cX4_read 32 = .ok (.getfield 10, 3) := by decide +kernel
theorem dX4_read_35 : decode cX4_read 35 = .ok (.invokevirtual 55, 3) := by decide +kernel
theorem dX4_read_38 : decode cX4_read 38 = .ok (.iconst 0, 1) := by decide +kernel
theorem dX4_read_39 : decode cX4_read 39 = .ok (.istore_n 1, 1) := by decide +kernel
theorem dX4_read_40 : decode cX4_read 40 = .ok (.iload_n 1, 1) := by decide +kernel
theorem dX4_read_41 : decode cX4_read 41 = .ok (.aload_n 0, 1) := by decide +kernel
theorem dX4_read_42 : decode cX4_read 42 = .ok (.getfield 29, 3) := by decide +kernel
theorem dX4_read_45 : decode cX4_read 45 = .ok (.getfield 183, 3) := by decide +kernel
theorem dX4_read_48 : decode cX4_read 48 = .ok (.if_icmp .ge 25, 3) := by decide +kernel
theorem dX4_read_51 : decode cX4_read 51 = .ok (.aload_n 0, 1) := by decide +kernel
theorem dX4_read_52 : decode cX4_read 52 = .ok (.getfield 10, 3) := by decide +kernel
theorem dX4_read_55 : decode cX4_read 55 = .ok (.aload_n 0, 1) := by decide +kernel
theorem dX4_read_56 : decode cX4_read 56 = .ok (.getfield 29, 3) := by decide +kernel
theorem dX4_read_59 : decode cX4_read 59 = .ok (.getfield 184, 3) := by decide +kernel
theorem dX4_read_62 : decode cX4_read 62 = .ok (.iload_n 1, 1) := by decide +kernel
theorem dX4_read_63 : decode cX4_read 63 = .ok (.iaload, 1) := by decide +kernel
theorem dX4_read_64 : decode cX4_read 64 = .ok (.invokevirtual 58, 3) := by decide +kernel
theorem dX4_read_67 : decode cX4_read 67 = .ok (.iinc 1 1, 3) := by decide +kernel
theorem dX4_read_70 : decode cX4_read 70 = .ok (.goto (-30), 3) := by decide +kernel
theorem dX4_read_73 : decode cX4_read 73 = .ok (.aload_n 0, 1) := by decide +kernel
theorem dX4_read_74 : decode cX4_read 74 = .ok (.getfield 10, 3) := by decide +kernel
theorem dX4_read_77 : decode cX4_read 77 = .ok (.getfield 74, 3) := by decide +kernel
theorem dX4_read_80 : decode cX4_read 80 = .ok (.ireturn, 1) := by decide +kernel
theorem dX4_isBetween_0 : decode cX4_isBetween 0 = .ok (.iload_n 0, 1) := by decide +kernel
theorem dX4_isBetween_1 : decode cX4_isBetween 1 = .ok (.iload_n 1, 1) := by decide +kernel
theorem dX4_isBetween_2 : decode cX4_isBetween 2 = .ok (.if_icmp .lt 12, 3) := by decide +kernel
theorem dX4_isBetween_5 : decode cX4_isBetween 5 = .ok (.iload_n 0, 1) := by decide +kernel
theorem dX4_isBetween_6 : decode cX4_isBetween 6 = .ok (.iload_n 2, 1) := by decide +kernel
theorem dX4_isBetween_7 : decode cX4_isBetween 7 = .ok (.if_icmp .gt 7, 3) := by decide +kernel
theorem dX4_isBetween_10 : decode cX4_isBetween 10 = .ok (.iconst 1, 1) := by decide +kernel
theorem dX4_isBetween_11 : decode cX4_isBetween 11 = .ok (.goto 4, 3) := by decide +kernel
theorem dX4_isBetween_14 : decode cX4_isBetween 14 = .ok (.iconst 0, 1) := by decide +kernel
theorem dX4_isBetween_15 : decode cX4_isBetween 15 = .ok (.ireturn, 1) := by decide +kernel
set_option maxRecDepth 20000 in
theorem ggX4_isThickness_X4_isBetween : GoodIn wsX4_isThickness wsX4_isBetween := goodIn_r _ [4] (by decide +kernel) (by decide +kernel)
set_option maxRecDepth 20000 in
theorem gX4_isThickness_X4_isBetween : GoodIn wsX4_isThickness (va_wsS RX4 40 yX4_isBetween wsX4_isBetween) := goodIn_app (goodIn_of _ (by decide +kernel)) ggX4_isThickness_X4_isBetween
theorem dX4_isThickness_0 : decode cX4_isThickness 0 = .ok (.iload_n 0, 1) := by decide +kernel
theorem dX4_isThickness_1 : decode cX4_isThickness 1 = .ok (.iconst 0, 1) := by decide +kernel
theorem dX4_isThickness_2 : decode cX4_isThickness 2 = .ok (.sipush 5000, 3) := by decide +kernel
theorem dX4_isThickness_5 : decode cX4_isThickness 5 = .ok (.invokestatic 40, 3) := by decide +kernel
theorem dX4_isThickness_8 : decode cX4_isThickness 8 = .ok (.ireturn, 1) := by decide +kernel
set_option maxRecDepth 20000 in
theorem ggX4_isColour_X4_isBetween : GoodIn wsX4_isColour wsX4_isBetween := goodIn_r _ [4] (by decide +kernel) (by decide +kernel)
set_option maxRecDepth 20000 in
theorem gX4_isColour_X4_isBetween : GoodIn wsX4_isColour (va_wsS RX4 40 yX4_isBetween wsX4_isBetween) := goodIn_app (goodIn_of _ (by decide +kernel)) ggX4_isColour_X4_isBetween
theorem dX4_isColour_0 : decode cX4_isColour 0 = .ok (.iload_n 0, 1) := by decide +kernel
theorem dX4_isColour_1 : decode cX4_isColour 1 = .ok (.iconst 0, 1) := by decide +kernel
theorem dX4_isColour_2 : decode cX4_isColour 2 = .ok (.bipush 7, 2) := by decide +kernel
theorem dX4_isColour_4 : decode cX4_isColour 4 = .ok (.invokestatic 40, 3) := by decide +kernel
theorem dX4_isColour_7 : decode cX4_isColour 7 = .ok (.ireturn, 1) := by decide +kernel
set_option maxRecDepth 20000 in
theorem ggX4_isQuestion_X4_isBetween : GoodIn wsX4_isQuestion wsX4_isBetween := goodIn_r _ [4] (by decide +kernel) (by decide +kernel)
set_option maxRecDepth 20000 in
theorem gX4_isQuestion_X4_isBetween : GoodIn wsX4_isQuestion (va_wsS RX4 40 yX4_isBetween wsX4_isBetween) := goodIn_app (goodIn_of _ (by decide +kernel)) ggX4_isQuestion_X4_isBetween
set_option maxRecDepth 20000 in
theorem ggX4_isQuestion_X4_isColour : GoodIn wsX4_isQuestion wsX4_isColour := goodIn_r _ [7, 1, 2, 3, 4] (by decide +kernel) (by decide +kernel)
set_option maxRecDepth 20000 in
theorem gX4_isQuestion_X4_isColour : GoodIn wsX4_isQuestion (va_wsS RX4 153 yX4_isColour wsX4_isColour) := goodIn_app (goodIn_of _ (by decide +kernel)) ggX4_isQuestion_X4_isColour
theorem dX4_isQuestion_0 : decode cX4_isQuestion 0 = .ok (.iload_n 0, 1) := by decide +kernel
theorem dX4_isQuestion_1 : decode cX4_isQuestion 1 = .ok (.tableswitch 62 0 3 #[31, 41, 49, 54], 31) := by decide +kernel
theorem dX4_isQuestion_32 : decode cX4_isQuestion 32 = .ok (.iload_n 1, 1) := by decide +kernel
theorem dX4_isQuestion_33 : decode cX4_isQuestion 33 = .ok (.ifCond .ne 7, 3) := by decide +kernel
theorem dX4_isQuestion_36 : decode cX4_isQuestion 36 = .ok (.iconst 1, 1) := by decide +kernel
theorem dX4_isQuestion_37 : decode cX4_isQuestion 37 = .ok (.goto 4, 3) := by decide +kernel
theorem dX4_isQuestion_40 : decode cX4_isQuestion 40 = .ok (.iconst 0, 1) := by decide +kernel
theorem dX4_isQuestion_41 : decode cX4_isQuestion 41 = .ok (.ireturn, 1) := by decide +kernel
theorem dX4_isQuestion_42 : decode cX4_isQuestion 42 = .ok (.iload_n 1, 1) := by decide +kernel
theorem dX4_isQuestion_43 : decode cX4_isQuestion 43 = .ok (.iconst 1, 1) := by decide +kernel
theorem dX4_isQuestion_44 : decode cX4_isQuestion 44 = .ok (.bipush 24, 2) := by decide +kernel
theorem dX4_isQuestion_46 : decode cX4_isQuestion 46 = .ok (.invokestatic 40, 3) := by decide +kernel
theorem dX4_isQuestion_49 : decode cX4_isQuestion 49 = .ok (.ireturn, 1) := by decide +kernel
theorem dX4_isQuestion_50 : decode cX4_isQuestion 50 = .ok (.iload_n 1, 1) := by decide +kernel
theorem dX4_isQuestion_51 : decode cX4_isQuestion 51 = .ok (.invokestatic 153, 3) := by decide +kernel
theorem dX4_isQuestion_54 : decode cX4_isQuestion 54 = .ok (.ireturn, 1) := by decide +kernel
theorem dX4_isQuestion_55 : decode cX4_isQuestion 55 = .ok (.iload_n 1, 1) := by decide +kernel
theorem dX4_isQuestion_56 : decode cX4_isQuestion 56 = .ok (.iconst 1, 1) := by decide +kernel
theorem dX4_isQuestion_57 : decode cX4_isQuestion 57 = .ok (.bipush 100, 2) := by decide +kernel
theorem dX4_isQuestion_59 : decode cX4_isQuestion 59 = .ok (.invokestatic 40, 3) := by decide +kernel
theorem dX4_isQuestion_62 : decode cX4_isQuestion 62 = .ok (.ireturn, 1) := by decide +kernel
theorem dX4_isQuestion_63 : decode cX4_isQuestion 63 = .ok (.iconst 0, 1) := by decide +kernel
theorem dX4_isQuestion_64 : decode cX4_isQuestion 64 = .ok (.ireturn, 1) := by decide +kernel
set_option maxRecDepth 20000 in
theorem ggX4_isSo_X0_blackRows : GoodIn wsX4_isSo wsX0_blackRows := goodIn_r _ [9, 10, 11, 12, 13, 8, 14, 15, 16, 44, 45, 46, 47, 48, 49, 50, 51, 52, 53] (by decide +kernel) (by decide +kernel)
set_option maxRecDepth 20000 in
theorem gX4_isSo_X0_blackRows : GoodIn wsX4_isSo (wsV RX4 119 RX0 yX0_blackRows wsX0_blackRows) := goodIn_app (goodIn_of _ (by decide +kernel)) ggX4_isSo_X0_blackRows
set_option maxRecDepth 20000 in
theorem ggX4_isSo_X0_colourAt : GoodIn wsX4_isSo wsX0_colourAt := goodIn_r _ [20, 15, 16, 21, 22, 23, 24, 25, 26, 27, 28, 29, 30, 31, 32, 33, 34, 35, 36, 37, 38, 39, 44, 45, 46, 47, 48, 49, 50, 51, 52, 53] (by decide +kernel) (by decide +kernel)
set_option maxRecDepth 20000 in
theorem gX4_isSo_X0_colourAt : GoodIn wsX4_isSo (wsV RX4 110 RX0 yX0_colourAt wsX0_colourAt) := goodIn_app (goodIn_of _ (by decide +kernel)) ggX4_isSo_X0_colourAt
theorem dX4_isSo_0 : decode cX4_isSo 0 = .ok (.iload_n 1, 1) := by decide +kernel
theorem dX4_isSo_1 : decode cX4_isSo 1 = .ok (.tableswitch 117 0 3 #[31, 47, 64, 92], 31) := by decide +kernel
theorem dX4_isSo_32 : decode cX4_isSo 32 = .ok (.aload_n 0, 1) := by decide +kernel
theorem dX4_isSo_33 : decode cX4_isSo 33 = .ok (.getfield 16, 3) := by decide +kernel
theorem dX4_isSo_36 : decode cX4_isSo 36 = .ok (.getfield 74, 3) := by decide +kernel
theorem dX4_isSo_39 : decode cX4_isSo 39 = .ok (.ifCond .ne 7, 3) := by decide +kernel
theorem dX4_isSo_42 : decode cX4_isSo 42 = .ok (.iconst 1, 1) := by decide +kernel
theorem dX4_isSo_43 : decode cX4_isSo 43 = .ok (.goto 4, 3) := by decide +kernel
theorem dX4_isSo_46 : decode cX4_isSo 46 = .ok (.iconst 0, 1) := by decide +kernel
theorem dX4_isSo_47 : decode cX4_isSo 47 = .ok (.ireturn, 1) := by decide +kernel
theorem dX4_isSo_48 : decode cX4_isSo 48 = .ok (.aload_n 0, 1) := by decide +kernel
theorem dX4_isSo_49 : decode cX4_isSo 49 = .ok (.getfield 16, 3) := by decide +kernel
theorem dX4_isSo_52 : decode cX4_isSo 52 = .ok (.invokevirtual 119, 3) := by decide +kernel
theorem dX4_isSo_55 : decode cX4_isSo 55 = .ok (.iload_n 2, 1) := by decide +kernel
theorem dX4_isSo_56 : decode cX4_isSo 56 = .ok (.if_icmp .lt 7, 3) := by decide +kernel
theorem dX4_isSo_59 : decode cX4_isSo 59 = .ok (.iconst 1, 1) := by decide +kernel
theorem dX4_isSo_60 : decode cX4_isSo 60 = .ok (.goto 4, 3) := by decide +kernel
theorem dX4_isSo_63 : decode cX4_isSo 63 = .ok (.iconst 0, 1) := by decide +kernel
theorem dX4_isSo_64 : decode cX4_isSo 64 = .ok (.ireturn, 1) := by decide +kernel
theorem dX4_isSo_65 : decode cX4_isSo 65 = .ok (.aload_n 0, 1) := by decide +kernel
theorem dX4_isSo_66 : decode cX4_isSo 66 = .ok (.getfield 16, 3) := by decide +kernel
theorem dX4_isSo_69 : decode cX4_isSo 69 = .ok (.getfield 74, 3) := by decide +kernel
theorem dX4_isSo_72 : decode cX4_isSo 72 = .ok (.ifCond .le 19, 3) := by decide +kernel
theorem dX4_isSo_75 : decode cX4_isSo 75 = .ok (.aload_n 0, 1) := by decide +kernel
theorem dX4_isSo_76 : decode cX4_isSo 76 = .ok (.getfield 16, 3) := by decide +kernel
theorem dX4_isSo_79 : decode cX4_isSo 79 = .ok (.iconst 0, 1) := by decide +kernel
theorem dX4_isSo_80 : decode cX4_isSo 80 = .ok (.invokevirtual 110, 3) := by decide +kernel
theorem dX4_isSo_83 : decode cX4_isSo 83 = .ok (.iload_n 2, 1) := by decide +kernel
theorem dX4_isSo_84 : decode cX4_isSo 84 = .ok (.if_icmp .ne 7, 3) := by decide +kernel
theorem dX4_isSo_87 : decode cX4_isSo 87 = .ok (.iconst 1, 1) := by decide +kernel
theorem dX4_isSo_88 : decode cX4_isSo 88 = .ok (.goto 4, 3) := by decide +kernel
theorem dX4_isSo_91 : decode cX4_isSo 91 = .ok (.iconst 0, 1) := by decide +kernel
theorem dX4_isSo_92 : decode cX4_isSo 92 = .ok (.ireturn, 1) := by decide +kernel
theorem dX4_isSo_93 : decode cX4_isSo 93 = .ok (.aload_n 0, 1) := by decide +kernel
theorem dX4_isSo_94 : decode cX4_isSo 94 = .ok (.getfield 16, 3) := by decide +kernel
theorem dX4_isSo_97 : decode cX4_isSo 97 = .ok (.getfield 144, 3) := by decide +kernel
theorem dX4_isSo_100 : decode cX4_isSo 100 = .ok (.aload_n 0, 1) := by decide +kernel
theorem dX4_isSo_101 : decode cX4_isSo 101 = .ok (.getfield 10, 3) := by decide +kernel
theorem dX4_isSo_104 : decode cX4_isSo 104 = .ok (.getfield 144, 3) := by decide +kernel
theorem dX4_isSo_107 : decode cX4_isSo 107 = .ok (.isub, 1) := by decide +kernel
theorem dX4_isSo_108 : decode cX4_isSo 108 = .ok (.iload_n 2, 1) := by decide +kernel
theorem dX4_isSo_109 : decode cX4_isSo 109 = .ok (.if_icmp .lt 7, 3) := by decide +kernel
theorem dX4_isSo_112 : decode cX4_isSo 112 = .ok (.iconst 1, 1) := by decide +kernel
theorem dX4_isSo_113 : decode cX4_isSo 113 = .ok (.goto 4, 3) := by decide +kernel
theorem dX4_isSo_116 : decode cX4_isSo 116 = .ok (.iconst 0, 1) := by decide +kernel
theorem dX4_isSo_117 : decode cX4_isSo 117 = .ok (.ireturn, 1) := by decide +kernel
theorem dX4_isSo_118 : decode cX4_isSo 118 = .ok (.iconst 0, 1) := by decide +kernel
theorem dX4_isSo_119 : decode cX4_isSo 119 = .ok (.ireturn, 1) := by decide +kernel
theorem dJ6_bitCount_0f7a4_0 : decode cJ6_bitCount_0f7a4 0 = .ok (.iload_n 0, 1) := by decide +kernel
theorem dJ6_bitCount_0f7a4_1 : decode cJ6_bitCount_0f7a4 1 = .ok (.iload_n 0, 1) := by decide +kernel
theorem dJ6_bitCount_0f7a4_2 : decode cJ6_bitCount_0f7a4 2 = .ok (.iconst 1, 1) := by decide +kernel
theorem dJ6_bitCount_0f7a4_3 : decode cJ6_bitCount_0f7a4 3 = .ok (.iushr, 1) := by decide +kernel
theorem dJ6_bitCount_0f7a4_4 : decode cJ6_bitCount_0f7a4 4 = .ok (.ldc_w 265, 3) := by decide +kernel
theorem dJ6_bitCount_0f7a4_7 : decode cJ6_bitCount_0f7a4 7 = .ok (.iand, 1) := by decide +kernel
theorem dJ6_bitCount_0f7a4_8 : decode cJ6_bitCount_0f7a4 8 = .ok (.isub, 1) := by decide +kernel
theorem dJ6_bitCount_0f7a4_9 : decode cJ6_bitCount_0f7a4 9 = .ok (.istore_n 0, 1) := by decide +kernel
theorem dJ6_bitCount_0f7a4_10 : decode cJ6_bitCount_0f7a4 10 = .ok (.iload_n 0, 1) := by decide +kernel
theorem dJ6_bitCount_0f7a4_11 : decode cJ6_bitCount_0f7a4 11 = .ok (.ldc_w 266, 3) := by decide +kernel
theorem dJ6_bitCount_0f7a4_14 : decode cJ6_bitCount_0f7a4 14 = .ok (.iand, 1) := by decide +kernel
theorem dJ6_bitCount_0f7a4_15 : decode cJ6_bitCount_0f7a4 15 = .ok (.iload_n 0, 1) := by decide +kernel
theorem dJ6_bitCount_0f7a4_16 : decode cJ6_bitCount_0f7a4 16 = .ok (.iconst 2, 1) := by decide +kernel
theorem dJ6_bitCount_0f7a4_17 : decode cJ6_bitCount_0f7a4 17 = .ok (.iushr, 1) := by decide +kernel
theorem dJ6_bitCount_0f7a4_18 : decode cJ6_bitCount_0f7a4 18 = .ok (.ldc_w 266, 3) := by decide +kernel
theorem dJ6_bitCount_0f7a4_21 : decode cJ6_bitCount_0f7a4 21 = .ok (.iand, 1) := by decide +kernel
theorem dJ6_bitCount_0f7a4_22 : decode cJ6_bitCount_0f7a4 22 = .ok (.iadd, 1) := by decide +kernel
theorem dJ6_bitCount_0f7a4_23 : decode cJ6_bitCount_0f7a4 23 = .ok (.istore_n 0, 1) := by decide +kernel
theorem dJ6_bitCount_0f7a4_24 : decode cJ6_bitCount_0f7a4 24 = .ok (.iload_n 0, 1) := by decide +kernel
theorem dJ6_bitCount_0f7a4_25 : decode cJ6_bitCount_0f7a4 25 = .ok (.iload_n 0, 1) := by decide +kernel
theorem dJ6_bitCount_0f7a4_26 : decode cJ6_bitCount_0f7a4 26 = .ok (.iconst 4, 1) := by decide +kernel
theorem dJ6_bitCount_0f7a4_27 : decode cJ6_bitCount_0f7a4 27 = .ok (.iushr, 1) := by decide +kernel
theorem dJ6_bitCount_0f7a4_28 : decode cJ6_bitCount_0f7a4 28 = .ok (.iadd, 1) := by decide +kernel
theorem dJ6_bitCount_0f7a4_29 : decode cJ6_bitCount_0f7a4 29 = .ok (.ldc_w 267, 3) := by decide +kernel
theorem dJ6_bitCount_0f7a4_32 : decode cJ6_bitCount_0f7a4 32 = .ok (.iand, 1) := by decide +kernel
theorem dJ6_bitCount_0f7a4_33 : decode cJ6_bitCount_0f7a4 33 = .ok (.istore_n 0, 1) := by decide +kernel
theorem dJ6_bitCount_0f7a4_34 : decode cJ6_bitCount_0f7a4 34 = .ok (.iload_n 0, 1) := by decide +kernel
theorem dJ6_bitCount_0f7a4_35 : decode cJ6_bitCount_0f7a4 35 = .ok (.iload_n 0, 1) := by decide +kernel
theorem dJ6_bitCount_0f7a4_36 : decode cJ6_bitCount_0f7a4 36 = .ok (.bipush 8, 2) := by decide +kernel
theorem dJ6_bitCount_0f7a4_38 : decode cJ6_bitCount_0f7a4 38 = .ok (.iushr, 1) := by decide +kernel
theorem dJ6_bitCount_0f7a4_39 : decode cJ6_bitCount_0f7a4 39 = .ok (.iadd, 1) := by decide +kernel
theorem dJ6_bitCount_0f7a4_40 : decode cJ6_bitCount_0f7a4 40 = .ok (.istore_n 0, 1) := by decide +kernel
theorem dJ6_bitCount_0f7a4_41 : decode cJ6_bitCount_0f7a4 41 = .ok (.iload_n 0, 1) := by decide +kernel
theorem dJ6_bitCount_0f7a4_42 : decode cJ6_bitCount_0f7a4 42 = .ok (.iload_n 0, 1) := by decide +kernel
theorem dJ6_bitCount_0f7a4_43 : decode cJ6_bitCount_0f7a4 43 = .ok (.bipush 16, 2) := by decide +kernel
theorem dJ6_bitCount_0f7a4_45 : decode cJ6_bitCount_0f7a4 45 = .ok (.iushr, 1) := by decide +kernel
theorem dJ6_bitCount_0f7a4_46 : decode cJ6_bitCount_0f7a4 46 = .ok (.iadd, 1) := by decide +kernel
theorem dJ6_bitCount_0f7a4_47 : decode cJ6_bitCount_0f7a4 47 = .ok (.istore_n 0, 1) := by decide +kernel
theorem dJ6_bitCount_0f7a4_48 : decode cJ6_bitCount_0f7a4 48 = .ok (.iload_n 0, 1) := by decide +kernel
theorem dJ6_bitCount_0f7a4_49 : decode cJ6_bitCount_0f7a4 49 = .ok (.bipush 63, 2) := by decide +kernel
theorem dJ6_bitCount_0f7a4_51 : decode cJ6_bitCount_0f7a4 51 = .ok (.iand, 1) := by decide +kernel
theorem dJ6_bitCount_0f7a4_52 : decode cJ6_bitCount_0f7a4 52 = .ok (.ireturn, 1) := by decide +kernel
theorem dJ9_max_7cf53_0 : decode cJ9_max_7cf53 0 = .ok (.iload_n 0, 1) := by decide +kernel
theorem dJ9_max_7cf53_1 : decode cJ9_max_7cf53 1 = .ok (.iload_n 1, 1) := by decide +kernel
theorem dJ9_max_7cf53_2 : decode cJ9_max_7cf53 2 = .ok (.if_icmp .lt 7, 3) := by decide +kernel
theorem dJ9_max_7cf53_5 : decode cJ9_max_7cf53 5 = .ok (.iload_n 0, 1) := by decide +kernel
theorem dJ9_max_7cf53_6 : decode cJ9_max_7cf53 6 = .ok (.goto 4, 3) := by decide +kernel
theorem dJ9_max_7cf53_9 : decode cJ9_max_7cf53 9 = .ok (.iload_n 1, 1) := by decide +kernel
theorem dJ9_max_7cf53_10 : decode cJ9_max_7cf53 10 = .ok (.ireturn, 1) := by decide +kernel
theorem dJ9_min_7cf53_0 : decode cJ9_min_7cf53 0 = .ok (.iload_n 0, 1) := by decide +kernel
theorem dJ9_min_7cf53_1 : decode cJ9_min_7cf53 1 = .ok (.iload_n 1, 1) := by decide +kernel
theorem dJ9_min_7cf53_2 : decode cJ9_min_7cf53 2 = .ok (.if_icmp .gt 7, 3) := by decide +kernel
theorem dJ9_min_7cf53_5 : decode cJ9_min_7cf53 5 = .ok (.iload_n 0, 1) := by decide +kernel
theorem dJ9_min_7cf53_6 : decode cJ9_min_7cf53 6 = .ok (.goto 4, 3) := by decide +kernel
theorem dJ9_min_7cf53_9 : decode cJ9_min_7cf53 9 = .ok (.iload_n 1, 1) := by decide +kernel
theorem dJ9_min_7cf53_10 : decode cJ9_min_7cf53 10 = .ok (.ireturn, 1) := by decide +kernel
theorem dL_part_0 : decode cL_part 0 = .ok (.iload_n 0, 1) := by decide +kernel
theorem dL_part_1 : decode cL_part 1 = .ok (.ldc 7, 2) := by decide +kernel
theorem dL_part_3 : decode cL_part 3 = .ok (.iand, 1) := by decide +kernel
theorem dL_part_4 : decode cL_part 4 = .ok (.iload_n 1, 1) := by decide +kernel
theorem dL_part_5 : decode cL_part 5 = .ok (.irem, 1) := by decide +kernel
theorem dL_part_6 : decode cL_part 6 = .ok (.ireturn, 1) := by decide +kernel
theorem dL_take_0 : decode cL_take 0 = .ok (.aload_n 0, 1) := by decide +kernel
theorem dL_take_1 : decode cL_take 1 = .ok (.arraylength, 1) := by decide +kernel
theorem dL_take_2 : decode cL_take 2 = .ok (.ifCond .ne 13, 3) := by decide +kernel
theorem dL_take_5 : decode cL_take 5 = .ok (.sipush 7919, 3) := by decide +kernel
theorem dL_take_8 : decode cL_take 8 = .ok (.iload_n 1, 1) := by decide +kernel
theorem dL_take_9 : decode cL_take 9 = .ok (.imul, 1) := by decide +kernel
theorem dL_take_10 : decode cL_take 10 = .ok (.iconst 3, 1) := by decide +kernel
theorem dL_take_11 : decode cL_take 11 = .ok (.iadd, 1) := by decide +kernel
theorem dL_take_12 : decode cL_take 12 = .ok (.goto 27, 3) := by decide +kernel
theorem dL_take_15 : decode cL_take 15 = .ok (.aload_n 0, 1) := by decide +kernel
theorem dL_take_16 : decode cL_take 16 = .ok (.iload_n 1, 1) := by decide +kernel
theorem dL_take_17 : decode cL_take 17 = .ok (.aload_n 0, 1) := by decide +kernel
theorem dL_take_18 : decode cL_take 18 = .ok (.arraylength, 1) := by decide +kernel
theorem dL_take_19 : decode cL_take 19 = .ok (.irem, 1) := by decide +kernel
theorem dL_take_20 : decode cL_take 20 = .ok (.iaload, 1) := by decide +kernel
theorem dL_take_21 : decode cL_take 21 = .ok (.iload_n 1, 1) := by decide +kernel
theorem dL_take_22 : decode cL_take 22 = .ok (.bipush 7, 2) := by decide +kernel
theorem dL_take_24 : decode cL_take 24 = .ok (.irem, 1) := by decide +kernel
theorem dL_take_25 : decode cL_take 25 = .ok (.ishr, 1) := by decide +kernel
theorem dL_take_26 : decode cL_take 26 = .ok (.iload_n 1, 1) := by decide +kernel
theorem dL_take_27 : decode cL_take 27 = .ok (.aload_n 0, 1) := by decide +kernel
theorem dL_take_28 : decode cL_take 28 = .ok (.arraylength, 1) := by decide +kernel
theorem dL_take_29 : decode cL_take 29 = .ok (.idiv, 1) := by decide +kernel
theorem dL_take_30 : decode cL_take 30 = .ok (.bipush 31, 2) := by decide +kernel
theorem dL_take_32 : decode cL_take 32 = .ok (.imul, 1) := by decide +kernel
theorem dL_take_33 : decode cL_take 33 = .ok (.ixor, 1) := by decide +kernel
theorem dL_take_34 : decode cL_take 34 = .ok (.iload_n 1, 1) := by decide +kernel
theorem dL_take_35 : decode cL_take 35 = .ok (.ldc 8, 2) := by decide +kernel
theorem dL_take_37 : decode cL_take 37 = .ok (.imul, 1) := by decide +kernel
theorem dL_take_38 : decode cL_take 38 = .ok (.ixor, 1) := by decide +kernel
theorem dL_take_39 : decode cL_take 39 = .ok (.ireturn, 1) := by decide +kernel
theorem dL_mixed_0 : decode cL_mixed 0 = .ok (.ldc2_w 9, 3) := by decide +kernel
theorem dL_mixed_3 : decode cL_mixed 3 = .ok (.lload_n 0, 1) := by decide +kernel
theorem dL_mixed_4 : decode cL_mixed 4 = .ok (.lmul, 1) := by decide +kernel
theorem dL_mixed_5 : decode cL_mixed 5 = .ok (.lload_n 2, 1) := by decide +kernel
theorem dL_mixed_6 : decode cL_mixed 6 = .ok (.ladd, 1) := by decide +kernel
theorem dL_mixed_7 : decode cL_mixed 7 = .ok (.lreturn, 1) := by decide +kernel
theorem dL_state_0 : decode cL_state 0 = .ok (.ldc2_w 11, 3) := by decide +kernel
theorem dL_state_3 : decode cL_state 3 = .ok (.lstore_n 1, 1) := by decide +kernel
theorem dL_state_4 : decode cL_state 4 = .ok (.iconst 0, 1) := by decide +kernel
theorem dL_state_5 : decode cL_state 5 = .ok (.istore_n 3, 1) := by decide +kernel
theorem dL_state_6 : decode cL_state 6 = .ok (.iload_n 3, 1) := by decide +kernel
theorem dL_state_7 : decode cL_state 7 = .ok (.bipush 37, 2) := by decide +kernel
theorem dL_state_9 : decode cL_state 9 = .ok (.if_icmp .ge 32, 3) := by decide +kernel
theorem dL_state_12 : decode cL_state 12 = .ok (.iload_n 3, 1) := by decide +kernel
theorem dL_state_13 : decode cL_state 13 = .ok (.bipush 11, 2) := by decide +kernel
theorem dL_state_15 : decode cL_state 15 = .ok (.if_icmp .eq 20, 3) := by decide +kernel
theorem dL_state_18 : decode cL_state 18 = .ok (.iload_n 3, 1) := by decide +kernel
theorem dL_state_19 : decode cL_state 19 = .ok (.bipush 12, 2) := by decide +kernel
theorem dL_state_21 : decode cL_state 21 = .ok (.if_icmp .eq 14, 3) := by decide +kernel
theorem dL_state_24 : decode cL_state 24 = .ok (.lload_n 1, 1) := by decide +kernel
theorem dL_state_25 : decode cL_state 25 = .ok (.aload_n 0, 1) := by decide +kernel
theorem dL_state_26 : decode cL_state 26 = .ok (.iload_n 3, 1) := by decide +kernel
theorem dL_state_27 : decode cL_state 27 = .ok (.invokevirtual 13, 3) := by decide +kernel
theorem dL_state_30 : decode cL_state 30 = .ok (.i2l, 1) := by decide +kernel
theorem dL_state_31 : decode cL_state 31 = .ok (.invokestatic 19, 3) := by decide +kernel
theorem dL_state_34 : decode cL_state 34 = .ok (.lstore_n 1, 1) := by decide +kernel
theorem dL_state_35 : decode cL_state 35 = .ok (.iinc 3 1, 3) := by decide +kernel
theorem dL_state_38 : decode cL_state 38 = .ok (.goto (-32), 3) := by decide +kernel
theorem dL_state_41 : decode cL_state 41 = .ok (.iconst 0, 1) := by decide +kernel
theorem dL_state_42 : decode cL_state 42 = .ok (.istore_n 3, 1) := by decide +kernel
theorem dL_state_43 : decode cL_state 43 = .ok (.iload_n 3, 1) := by decide +kernel
theorem dL_state_44 : decode cL_state 44 = .ok (.bipush 8, 2) := by decide +kernel
theorem dL_state_46 : decode cL_state 46 = .ok (.aload_n 0, 1) := by decide +kernel
theorem dL_state_47 : decode cL_state 47 = .ok (.iconst 0, 1) := by decide +kernel
theorem dL_state_48 : decode cL_state 48 = .ok (.invokevirtual 13, 3) := by decide +kernel
theorem dL_state_51 : decode cL_state 51 = .ok (.imul, 1) := by decide +kernel
theorem dL_state_52 : decode cL_state 52 = .ok (.if_icmp .ge 27, 3) := by decide +kernel
theorem dL_state_55 : decode cL_state 55 = .ok (.lload_n 1, 1) := by decide +kernel
theorem dL_state_56 : decode cL_state 56 = .ok (.aload_n 0, 1) := by decide +kernel
theorem dL_state_57 : decode cL_state 57 = .ok (.iload_n 3, 1) := by decide +kernel
theorem dL_state_58 : decode cL_state 58 = .ok (.bipush 8, 2) := by decide +kernel
theorem dL_state_60 : decode cL_state 60 = .ok (.idiv, 1) := by decide +kernel
theorem dL_state_61 : decode cL_state 61 = .ok (.iload_n 3, 1) := by decide +kernel
theorem dL_state_62 : decode cL_state 62 = .ok (.bipush 8, 2) := by decide +kernel
theorem dL_state_64 : decode cL_state 64 = .ok (.irem, 1) := by decide +kernel
theorem dL_state_65 : decode cL_state 65 = .ok (.invokevirtual 25, 3) := by decide +kernel
theorem dL_state_68 : decode cL_state 68 = .ok (.i2l, 1) := by decide +kernel
theorem dL_state_69 : decode cL_state 69 = .ok (.invokestatic 19, 3) := by decide +kernel
theorem dL_state_72 : decode cL_state 72 = .ok (.lstore_n 1, 1) := by decide +kernel
theorem dL_state_73 : decode cL_state 73 = .ok (.iinc 3 1, 3) := by decide +kernel
theorem dL_state_76 : decode cL_state 76 = .ok (.goto (-33), 3) := by decide +kernel
theorem dL_state_79 : decode cL_state 79 = .ok (.lload_n 1, 1) := by decide +kernel
theorem dL_state_80 : decode cL_state 80 = .ok (.lreturn, 1) := by decide +kernel
theorem dL_refused_0 : decode cL_refused 0 = .ok (.aload_n 0, 1) := by decide +kernel
theorem dL_refused_1 : decode cL_refused 1 = .ok (.invokestatic 29, 3) := by decide +kernel
theorem dL_refused_4 : decode cL_refused 4 = .ok (.aload_n 0, 1) := by decide +kernel
theorem dL_refused_5 : decode cL_refused 5 = .ok (.bipush 11, 2) := by decide +kernel
theorem dL_refused_7 : decode cL_refused 7 = .ok (.invokevirtual 13, 3) := by decide +kernel
theorem dL_refused_10 : decode cL_refused 10 = .ok (.i2l, 1) := by decide +kernel
theorem dL_refused_11 : decode cL_refused 11 = .ok (.invokestatic 19, 3) := by decide +kernel
theorem dL_refused_14 : decode cL_refused 14 = .ok (.aload_n 0, 1) := by decide +kernel
theorem dL_refused_15 : decode cL_refused 15 = .ok (.bipush 12, 2) := by decide +kernel
theorem dL_refused_17 : decode cL_refused 17 = .ok (.invokevirtual 13, 3) := by decide +kernel
theorem dL_refused_20 : decode cL_refused 20 = .ok (.i2l, 1) := by decide +kernel
theorem dL_refused_21 : decode cL_refused 21 = .ok (.invokestatic 19, 3) := by decide +kernel
theorem dL_refused_24 : decode cL_refused 24 = .ok (.lstore_n 1, 1) := by decide +kernel
theorem dL_refused_25 : decode cL_refused 25 = .ok (.aload_n 0, 1) := by decide +kernel
theorem dL_refused_26 : decode cL_refused 26 = .ok (.iconst 0, 1) := by decide +kernel
theorem dL_refused_27 : decode cL_refused 27 = .ok (.invokevirtual 13, 3) := by decide +kernel
theorem dL_refused_30 : decode cL_refused 30 = .ok (.istore_n 3, 1) := by decide +kernel
theorem dL_refused_31 : decode cL_refused 31 = .ok (.aload_n 0, 1) := by decide +kernel
theorem dL_refused_32 : decode cL_refused 32 = .ok (.iconst (-1), 1) := by decide +kernel
theorem dL_refused_33 : decode cL_refused 33 = .ok (.bipush 20, 2) := by decide +kernel
theorem dL_refused_35 : decode cL_refused 35 = .ok (.invokevirtual 33, 3) := by decide +kernel
theorem dL_refused_38 : decode cL_refused 38 = .ok (.iconst (-1), 1) := by decide +kernel
theorem dL_refused_39 : decode cL_refused 39 = .ok (.if_icmp .ne 146, 3) := by decide +kernel
theorem dL_refused_42 : decode cL_refused 42 = .ok (.aload_n 0, 1) := by decide +kernel
theorem dL_refused_43 : decode cL_refused 43 = .ok (.bipush 7, 2) := by decide +kernel
theorem dL_refused_45 : decode cL_refused 45 = .ok (.bipush 20, 2) := by decide +kernel
theorem dL_refused_47 : decode cL_refused 47 = .ok (.invokevirtual 33, 3) := by decide +kernel
theorem dL_refused_50 : decode cL_refused 50 = .ok (.iconst (-1), 1) := by decide +kernel
theorem dL_refused_51 : decode cL_refused 51 = .ok (.if_icmp .ne 134, 3) := by decide +kernel
theorem dL_refused_54 : decode cL_refused 54 = .ok (.aload_n 0, 1) := by decide +kernel
theorem dL_refused_55 : decode cL_refused 55 = .ok (.iconst 0, 1) := by decide +kernel
theorem dL_refused_56 : decode cL_refused 56 = .ok (.bipush 101, 2) := by decide +kernel
theorem dL_refused_58 : decode cL_refused 58 = .ok (.invokevirtual 33, 3) := by decide +kernel
theorem dL_refused_61 : decode cL_refused 61 = .ok (.iconst (-1), 1) := by decide +kernel
theorem dL_refused_62 : decode cL_refused 62 = .ok (.if_icmp .ne 123, 3) := by decide +kernel
theorem dL_refused_65 : decode cL_refused 65 = .ok (.aload_n 0, 1) := by decide +kernel
theorem dL_refused_66 : decode cL_refused 66 = .ok (.iconst 0, 1) := by decide +kernel
theorem dL_refused_67 : decode cL_refused 67 = .ok (.iconst (-1), 1) := by decide +kernel
theorem dL_refused_68 : decode cL_refused 68 = .ok (.invokevirtual 33, 3) := by decide +kernel
theorem dL_refused_71 : decode cL_refused 71 = .ok (.iconst (-1), 1) := by decide +kernel
theorem dL_refused_72 : decode cL_refused 72 = .ok (.if_icmp .ne 113, 3) := by decide +kernel
theorem dL_refused_75 : decode cL_refused 75 = .ok (.aload_n 0, 1) := by decide +kernel
theorem dL_refused_76 : decode cL_refused 76 = .ok (.iconst 1, 1) := by decide +kernel
theorem dL_refused_77 : decode cL_refused 77 = .ok (.bipush 51, 2) := by decide +kernel
theorem dL_refused_79 : decode cL_refused 79 = .ok (.invokevirtual 33, 3) := by decide +kernel
theorem dL_refused_82 : decode cL_refused 82 = .ok (.iconst (-1), 1) := by decide +kernel
theorem dL_refused_83 : decode cL_refused 83 = .ok (.if_icmp .ne 102, 3) := by decide +kernel
theorem dL_refused_86 : decode cL_refused 86 = .ok (.aload_n 0, 1) := by decide +kernel
theorem dL_refused_87 : decode cL_refused 87 = .ok (.iconst 2, 1) := by decide +kernel
theorem dL_refused_88 : decode cL_refused 88 = .ok (.sipush 501, 3) := by decide +kernel
theorem dL_refused_91 : decode cL_refused 91 = .ok (.invokevirtual 33, 3) := by decide +kernel
theorem dL_refused_94 : decode cL_refused 94 = .ok (.iconst (-1), 1) := by decide +kernel
theorem dL_refused_95 : decode cL_refused 95 = .ok (.if_icmp .ne 90, 3) := by decide +kernel
theorem dL_refused_98 : decode cL_refused 98 = .ok (.aload_n 0, 1) := by decide +kernel
theorem dL_refused_99 : decode cL_refused 99 = .ok (.iconst 3, 1) := by decide +kernel
theorem dL_refused_100 : decode cL_refused 100 = .ok (.iconst 0, 1) := by decide +kernel
theorem dL_refused_101 : decode cL_refused 101 = .ok (.invokevirtual 33, 3) := by decide +kernel
theorem dL_refused_104 : decode cL_refused 104 = .ok (.iconst (-1), 1) := by decide +kernel
theorem dL_refused_105 : decode cL_refused 105 = .ok (.if_icmp .ne 80, 3) := by decide +kernel
theorem dL_refused_108 : decode cL_refused 108 = .ok (.aload_n 0, 1) := by decide +kernel
theorem dL_refused_109 : decode cL_refused 109 = .ok (.iconst 3, 1) := by decide +kernel
theorem dL_refused_110 : decode cL_refused 110 = .ok (.sipush 201, 3) := by decide +kernel
theorem dL_refused_113 : decode cL_refused 113 = .ok (.invokevirtual 33, 3) := by decide +kernel
theorem dL_refused_116 : decode cL_refused 116 = .ok (.iconst (-1), 1) := by decide +kernel
theorem dL_refused_117 : decode cL_refused 117 = .ok (.if_icmp .ne 68, 3) := by decide +kernel
theorem dL_refused_120 : decode cL_refused 120 = .ok (.aload_n 0, 1) := by decide +kernel
theorem dL_refused_121 : decode cL_refused 121 = .ok (.iconst 4, 1) := by decide +kernel
theorem dL_refused_122 : decode cL_refused 122 = .ok (.bipush 101, 2) := by decide +kernel
theorem dL_refused_124 : decode cL_refused 124 = .ok (.invokevirtual 33, 3) := by decide +kernel
theorem dL_refused_127 : decode cL_refused 127 = .ok (.iconst (-1), 1) := by decide +kernel
theorem dL_refused_128 : decode cL_refused 128 = .ok (.if_icmp .ne 57, 3) := by decide +kernel
theorem dL_refused_131 : decode cL_refused 131 = .ok (.aload_n 0, 1) := by decide +kernel
theorem dL_refused_132 : decode cL_refused 132 = .ok (.iconst 4, 1) := by decide +kernel
theorem dL_refused_133 : decode cL_refused 133 = .ok (.iconst (-1), 1) := by decide +kernel
theorem dL_refused_134 : decode cL_refused 134 = .ok (.invokevirtual 33, 3) := by decide +kernel
theorem dL_refused_137 : decode cL_refused 137 = .ok (.iconst (-1), 1) := by decide +kernel
theorem dL_refused_138 : decode cL_refused 138 = .ok (.if_icmp .ne 47, 3) := by decide +kernel
theorem dL_refused_141 : decode cL_refused 141 = .ok (.aload_n 0, 1) := by decide +kernel
theorem dL_refused_142 : decode cL_refused 142 = .ok (.iconst 5, 1) := by decide +kernel
theorem dL_refused_143 : decode cL_refused 143 = .ok (.iconst 0, 1) := by decide +kernel
theorem dL_refused_144 : decode cL_refused 144 = .ok (.invokevirtual 33, 3) := by decide +kernel
theorem dL_refused_147 : decode cL_refused 147 = .ok (.iconst (-1), 1) := by decide +kernel
theorem dL_refused_148 : decode cL_refused 148 = .ok (.if_icmp .ne 37, 3) := by decide +kernel
theorem dL_refused_151 : decode cL_refused 151 = .ok (.aload_n 0, 1) := by decide +kernel
theorem dL_refused_152 : decode cL_refused 152 = .ok (.iconst 5, 1) := by decide +kernel
theorem dL_refused_153 : decode cL_refused 153 = .ok (.bipush 25, 2) := by decide +kernel
theorem dL_refused_155 : decode cL_refused 155 = .ok (.invokevirtual 33, 3) := by decide +kernel
theorem dL_refused_158 : decode cL_refused 158 = .ok (.iconst (-1), 1) := by decide +kernel
theorem dL_refused_159 : decode cL_refused 159 = .ok (.if_icmp .ne 26, 3) := by decide +kernel
theorem dL_refused_162 : decode cL_refused 162 = .ok (.aload_n 0, 1) := by decide +kernel
theorem dL_refused_163 : decode cL_refused 163 = .ok (.bipush 6, 2) := by decide +kernel
theorem dL_refused_165 : decode cL_refused 165 = .ok (.iconst 0, 1) := by decide +kernel
theorem dL_refused_166 : decode cL_refused 166 = .ok (.invokevirtual 33, 3) := by decide +kernel
theorem dL_refused_169 : decode cL_refused 169 = .ok (.iconst (-1), 1) := by decide +kernel
theorem dL_refused_170 : decode cL_refused 170 = .ok (.if_icmp .ne 15, 3) := by decide +kernel
theorem dL_refused_173 : decode cL_refused 173 = .ok (.aload_n 0, 1) := by decide +kernel
theorem dL_refused_174 : decode cL_refused 174 = .ok (.bipush 6, 2) := by decide +kernel
theorem dL_refused_176 : decode cL_refused 176 = .ok (.ldc 36, 2) := by decide +kernel
theorem dL_refused_178 : decode cL_refused 178 = .ok (.invokevirtual 33, 3) := by decide +kernel
theorem dL_refused_181 : decode cL_refused 181 = .ok (.iconst (-1), 1) := by decide +kernel
theorem dL_refused_182 : decode cL_refused 182 = .ok (.if_icmp .eq 5, 3) := by decide +kernel
theorem dL_refused_185 : decode cL_refused 185 = .ok (.iconst 0, 1) := by decide +kernel
theorem dL_refused_186 : decode cL_refused 186 = .ok (.ireturn, 1) := by decide +kernel
theorem dL_refused_187 : decode cL_refused 187 = .ok (.aload_n 0, 1) := by decide +kernel
theorem dL_refused_188 : decode cL_refused 188 = .ok (.iconst 0, 1) := by decide +kernel
theorem dL_refused_189 : decode cL_refused 189 = .ok (.iconst 0, 1) := by decide +kernel
theorem dL_refused_190 : decode cL_refused 190 = .ok (.iconst 0, 1) := by decide +kernel
theorem dL_refused_191 : decode cL_refused 191 = .ok (.invokevirtual 37, 3) := by decide +kernel
theorem dL_refused_194 : decode cL_refused 194 = .ok (.iconst (-1), 1) := by decide +kernel
theorem dL_refused_195 : decode cL_refused 195 = .ok (.if_icmp .ne 132, 3) := by decide +kernel
theorem dL_refused_198 : decode cL_refused 198 = .ok (.aload_n 0, 1) := by decide +kernel
theorem dL_refused_199 : decode cL_refused 199 = .ok (.bipush 25, 2) := by decide +kernel
theorem dL_refused_201 : decode cL_refused 201 = .ok (.iconst 0, 1) := by decide +kernel
theorem dL_refused_202 : decode cL_refused 202 = .ok (.iconst 0, 1) := by decide +kernel
theorem dL_refused_203 : decode cL_refused 203 = .ok (.invokevirtual 37, 3) := by decide +kernel
theorem dL_refused_206 : decode cL_refused 206 = .ok (.iconst (-1), 1) := by decide +kernel
theorem dL_refused_207 : decode cL_refused 207 = .ok (.if_icmp .ne 120, 3) := by decide +kernel
theorem dL_refused_210 : decode cL_refused 210 = .ok (.aload_n 0, 1) := by decide +kernel
theorem dL_refused_211 : decode cL_refused 211 = .ok (.iconst 1, 1) := by decide +kernel
theorem dL_refused_212 : decode cL_refused 212 = .ok (.sipush 5001, 3) := by decide +kernel
theorem dL_refused_215 : decode cL_refused 215 = .ok (.iconst 0, 1) := by decide +kernel
theorem dL_refused_216 : decode cL_refused 216 = .ok (.invokevirtual 37, 3) := by decide +kernel
theorem dL_refused_219 : decode cL_refused 219 = .ok (.iconst (-1), 1) := by decide +kernel
theorem dL_refused_220 : decode cL_refused 220 = .ok (.if_icmp .ne 107, 3) := by decide +kernel
theorem dL_refused_223 : decode cL_refused 223 = .ok (.aload_n 0, 1) := by decide +kernel
theorem dL_refused_224 : decode cL_refused 224 = .ok (.iconst 1, 1) := by decide +kernel
theorem dL_refused_225 : decode cL_refused 225 = .ok (.iconst (-1), 1) := by decide +kernel
theorem dL_refused_226 : decode cL_refused 226 = .ok (.iconst 0, 1) := by decide +kernel
theorem dL_refused_227 : decode cL_refused 227 = .ok (.invokevirtual 37, 3) := by decide +kernel
theorem dL_refused_230 : decode cL_refused 230 = .ok (.iconst (-1), 1) := by decide +kernel
theorem dL_refused_231 : decode cL_refused 231 = .ok (.if_icmp .ne 96, 3) := by decide +kernel
theorem dL_refused_234 : decode cL_refused 234 = .ok (.aload_n 0, 1) := by decide +kernel
theorem dL_refused_235 : decode cL_refused 235 = .ok (.iconst 1, 1) := by decide +kernel
theorem dL_refused_236 : decode cL_refused 236 = .ok (.iconst 0, 1) := by decide +kernel
theorem dL_refused_237 : decode cL_refused 237 = .ok (.sipush 501, 3) := by decide +kernel
theorem dL_refused_240 : decode cL_refused 240 = .ok (.invokevirtual 37, 3) := by decide +kernel
theorem dL_refused_243 : decode cL_refused 243 = .ok (.iconst (-1), 1) := by decide +kernel
theorem dL_refused_244 : decode cL_refused 244 = .ok (.if_icmp .ne 83, 3) := by decide +kernel
theorem dL_refused_247 : decode cL_refused 247 = .ok (.aload_n 0, 1) := by decide +kernel
theorem dL_refused_248 : decode cL_refused 248 = .ok (.iconst 1, 1) := by decide +kernel
theorem dL_refused_249 : decode cL_refused 249 = .ok (.iconst 0, 1) := by decide +kernel
theorem dL_refused_250 : decode cL_refused 250 = .ok (.iconst (-1), 1) := by decide +kernel
theorem dL_refused_251 : decode cL_refused 251 = .ok (.invokevirtual 37, 3) := by decide +kernel
theorem dL_refused_254 : decode cL_refused 254 = .ok (.iconst (-1), 1) := by decide +kernel
theorem dL_refused_255 : decode cL_refused 255 = .ok (.if_icmp .ne 72, 3) := by decide +kernel
theorem dL_refused_258 : decode cL_refused 258 = .ok (.aload_n 0, 1) := by decide +kernel
theorem dL_refused_259 : decode cL_refused 259 = .ok (.iconst 2, 1) := by decide +kernel
theorem dL_refused_260 : decode cL_refused 260 = .ok (.sipush 4600, 3) := by decide +kernel
theorem dL_refused_263 : decode cL_refused 263 = .ok (.sipush 401, 3) := by decide +kernel
theorem dL_refused_266 : decode cL_refused 266 = .ok (.invokevirtual 37, 3) := by decide +kernel
theorem dL_refused_269 : decode cL_refused 269 = .ok (.iconst (-1), 1) := by decide +kernel
theorem dL_refused_270 : decode cL_refused 270 = .ok (.if_icmp .ne 57, 3) := by decide +kernel
theorem dL_refused_273 : decode cL_refused 273 = .ok (.aload_n 0, 1) := by decide +kernel
theorem dL_refused_274 : decode cL_refused 274 = .ok (.bipush 24, 2) := by decide +kernel
theorem dL_refused_276 : decode cL_refused 276 = .ok (.iconst 0, 1) := by decide +kernel
theorem dL_refused_277 : decode cL_refused 277 = .ok (.sipush 218, 3) := by decide +kernel
theorem dL_refused_280 : decode cL_refused 280 = .ok (.invokevirtual 37, 3) := by decide +kernel
theorem dL_refused_283 : decode cL_refused 283 = .ok (.iconst (-1), 1) := by decide +kernel
theorem dL_refused_284 : decode cL_refused 284 = .ok (.if_icmp .ne 43, 3) := by decide +kernel
theorem dL_refused_287 : decode cL_refused 287 = .ok (.aload_n 0, 1) := by decide +kernel
theorem dL_refused_288 : decode cL_refused 288 = .ok (.iconst (-1), 1) := by decide +kernel
theorem dL_refused_289 : decode cL_refused 289 = .ok (.invokevirtual 41, 3) := by decide +kernel
theorem dL_refused_292 : decode cL_refused 292 = .ok (.iconst (-1), 1) := by decide +kernel
theorem dL_refused_293 : decode cL_refused 293 = .ok (.if_icmp .ne 34, 3) := by decide +kernel
theorem dL_refused_296 : decode cL_refused 296 = .ok (.aload_n 0, 1) := by decide +kernel
theorem dL_refused_297 : decode cL_refused 297 = .ok (.sipush 5001, 3) := by decide +kernel
theorem dL_refused_300 : decode cL_refused 300 = .ok (.invokevirtual 41, 3) := by decide +kernel
theorem dL_refused_303 : decode cL_refused 303 = .ok (.iconst (-1), 1) := by decide +kernel
theorem dL_refused_304 : decode cL_refused 304 = .ok (.if_icmp .ne 23, 3) := by decide +kernel
theorem dL_refused_307 : decode cL_refused 307 = .ok (.aload_n 0, 1) := by decide +kernel
theorem dL_refused_308 : decode cL_refused 308 = .ok (.iconst 0, 1) := by decide +kernel
theorem dL_refused_309 : decode cL_refused 309 = .ok (.invokevirtual 44, 3) := by decide +kernel
theorem dL_refused_312 : decode cL_refused 312 = .ok (.iconst (-1), 1) := by decide +kernel
theorem dL_refused_313 : decode cL_refused 313 = .ok (.if_icmp .ne 14, 3) := by decide +kernel
theorem dL_refused_316 : decode cL_refused 316 = .ok (.aload_n 0, 1) := by decide +kernel
theorem dL_refused_317 : decode cL_refused 317 = .ok (.sipush 1001, 3) := by decide +kernel
theorem dL_refused_320 : decode cL_refused 320 = .ok (.invokevirtual 44, 3) := by decide +kernel
theorem dL_refused_323 : decode cL_refused 323 = .ok (.iconst (-1), 1) := by decide +kernel
theorem dL_refused_324 : decode cL_refused 324 = .ok (.if_icmp .eq 5, 3) := by decide +kernel
theorem dL_refused_327 : decode cL_refused 327 = .ok (.iconst 0, 1) := by decide +kernel
theorem dL_refused_328 : decode cL_refused 328 = .ok (.ireturn, 1) := by decide +kernel
theorem dL_refused_329 : decode cL_refused 329 = .ok (.aload_n 0, 1) := by decide +kernel
theorem dL_refused_330 : decode cL_refused 330 = .ok (.iload_n 3, 1) := by decide +kernel
theorem dL_refused_331 : decode cL_refused 331 = .ok (.iconst 1, 1) := by decide +kernel
theorem dL_refused_332 : decode cL_refused 332 = .ok (.invokevirtual 47, 3) := by decide +kernel
theorem dL_refused_335 : decode cL_refused 335 = .ok (.iconst (-1), 1) := by decide +kernel
theorem dL_refused_336 : decode cL_refused 336 = .ok (.if_icmp .ne 205, 3) := by decide +kernel
theorem dL_refused_339 : decode cL_refused 339 = .ok (.aload_n 0, 1) := by decide +kernel
theorem dL_refused_340 : decode cL_refused 340 = .ok (.iconst (-1), 1) := by decide +kernel
theorem dL_refused_341 : decode cL_refused 341 = .ok (.iconst 1, 1) := by decide +kernel
theorem dL_refused_342 : decode cL_refused 342 = .ok (.invokevirtual 47, 3) := by decide +kernel
theorem dL_refused_345 : decode cL_refused 345 = .ok (.iconst (-1), 1) := by decide +kernel
theorem dL_refused_346 : decode cL_refused 346 = .ok (.if_icmp .ne 195, 3) := by decide +kernel
theorem dL_refused_349 : decode cL_refused 349 = .ok (.aload_n 0, 1) := by decide +kernel
theorem dL_refused_350 : decode cL_refused 350 = .ok (.iload_n 3, 1) := by decide +kernel
theorem dL_refused_351 : decode cL_refused 351 = .ok (.iconst 1, 1) := by decide +kernel
theorem dL_refused_352 : decode cL_refused 352 = .ok (.invokevirtual 50, 3) := by decide +kernel
theorem dL_refused_355 : decode cL_refused 355 = .ok (.iconst (-1), 1) := by decide +kernel
theorem dL_refused_356 : decode cL_refused 356 = .ok (.if_icmp .ne 185, 3) := by decide +kernel
theorem dL_refused_359 : decode cL_refused 359 = .ok (.aload_n 0, 1) := by decide +kernel
theorem dL_refused_360 : decode cL_refused 360 = .ok (.iconst (-1), 1) := by decide +kernel
theorem dL_refused_361 : decode cL_refused 361 = .ok (.iconst 1, 1) := by decide +kernel
theorem dL_refused_362 : decode cL_refused 362 = .ok (.invokevirtual 50, 3) := by decide +kernel
theorem dL_refused_365 : decode cL_refused 365 = .ok (.iconst (-1), 1) := by decide +kernel
theorem dL_refused_366 : decode cL_refused 366 = .ok (.if_icmp .ne 175, 3) := by decide +kernel
theorem dL_refused_369 : decode cL_refused 369 = .ok (.aload_n 0, 1) := by decide +kernel
theorem dL_refused_370 : decode cL_refused 370 = .ok (.iload_n 3, 1) := by decide +kernel
theorem dL_refused_371 : decode cL_refused 371 = .ok (.iconst 0, 1) := by decide +kernel
theorem dL_refused_372 : decode cL_refused 372 = .ok (.invokevirtual 25, 3) := by decide +kernel
theorem dL_refused_375 : decode cL_refused 375 = .ok (.iconst (-1), 1) := by decide +kernel
theorem dL_refused_376 : decode cL_refused 376 = .ok (.if_icmp .ne 165, 3) := by decide +kernel
theorem dL_refused_379 : decode cL_refused 379 = .ok (.aload_n 0, 1) := by decide +kernel
theorem dL_refused_380 : decode cL_refused 380 = .ok (.iconst (-1), 1) := by decide +kernel
theorem dL_refused_381 : decode cL_refused 381 = .ok (.iconst 0, 1) := by decide +kernel
theorem dL_refused_382 : decode cL_refused 382 = .ok (.invokevirtual 25, 3) := by decide +kernel
theorem dL_refused_385 : decode cL_refused 385 = .ok (.iconst (-1), 1) := by decide +kernel
theorem dL_refused_386 : decode cL_refused 386 = .ok (.if_icmp .ne 155, 3) := by decide +kernel
theorem dL_refused_389 : decode cL_refused 389 = .ok (.aload_n 0, 1) := by decide +kernel
theorem dL_refused_390 : decode cL_refused 390 = .ok (.iload_n 3, 1) := by decide +kernel
theorem dL_refused_391 : decode cL_refused 391 = .ok (.iconst 1, 1) := by decide +kernel
theorem dL_refused_392 : decode cL_refused 392 = .ok (.invokevirtual 53, 3) := by decide +kernel
theorem dL_refused_395 : decode cL_refused 395 = .ok (.iconst (-1), 1) := by decide +kernel
theorem dL_refused_396 : decode cL_refused 396 = .ok (.if_icmp .ne 145, 3) := by decide +kernel
theorem dL_refused_399 : decode cL_refused 399 = .ok (.aload_n 0, 1) := by decide +kernel
theorem dL_refused_400 : decode cL_refused 400 = .ok (.iconst (-1), 1) := by decide +kernel
theorem dL_refused_401 : decode cL_refused 401 = .ok (.iconst 1, 1) := by decide +kernel
theorem dL_refused_402 : decode cL_refused 402 = .ok (.invokevirtual 53, 3) := by decide +kernel
theorem dL_refused_405 : decode cL_refused 405 = .ok (.iconst (-1), 1) := by decide +kernel
theorem dL_refused_406 : decode cL_refused 406 = .ok (.if_icmp .ne 135, 3) := by decide +kernel
theorem dL_refused_409 : decode cL_refused 409 = .ok (.aload_n 0, 1) := by decide +kernel
theorem dL_refused_410 : decode cL_refused 410 = .ok (.iconst (-1), 1) := by decide +kernel
theorem dL_refused_411 : decode cL_refused 411 = .ok (.invokevirtual 13, 3) := by decide +kernel
theorem dL_refused_414 : decode cL_refused 414 = .ok (.iconst (-1), 1) := by decide +kernel
theorem dL_refused_415 : decode cL_refused 415 = .ok (.if_icmp .ne 126, 3) := by decide +kernel
theorem dL_refused_418 : decode cL_refused 418 = .ok (.aload_n 0, 1) := by decide +kernel
theorem dL_refused_419 : decode cL_refused 419 = .ok (.bipush 13, 2) := by decide +kernel
theorem dL_refused_421 : decode cL_refused 421 = .ok (.invokevirtual 13, 3) := by decide +kernel
theorem dL_refused_424 : decode cL_refused 424 = .ok (.iconst (-1), 1) := by decide +kernel
theorem dL_refused_425 : decode cL_refused 425 = .ok (.if_icmp .ne 116, 3) := by decide +kernel
theorem dL_refused_428 : decode cL_refused 428 = .ok (.aload_n 0, 1) := by decide +kernel
theorem dL_refused_429 : decode cL_refused 429 = .ok (.bipush 19, 2) := by decide +kernel
theorem dL_refused_431 : decode cL_refused 431 = .ok (.invokevirtual 13, 3) := by decide +kernel
theorem dL_refused_434 : decode cL_refused 434 = .ok (.iconst (-1), 1) := by decide +kernel
theorem dL_refused_435 : decode cL_refused 435 = .ok (.if_icmp .ne 106, 3) := by decide +kernel
theorem dL_refused_438 : decode cL_refused 438 = .ok (.aload_n 0, 1) := by decide +kernel
theorem dL_refused_439 : decode cL_refused 439 = .ok (.bipush 27, 2) := by decide +kernel
theorem dL_refused_441 : decode cL_refused 441 = .ok (.invokevirtual 13, 3) := by decide +kernel
theorem dL_refused_444 : decode cL_refused 444 = .ok (.iconst (-1), 1) := by decide +kernel
theorem dL_refused_445 : decode cL_refused 445 = .ok (.if_icmp .ne 96, 3) := by decide +kernel
theorem dL_refused_448 : decode cL_refused 448 = .ok (.aload_n 0, 1) := by decide +kernel
theorem dL_refused_449 : decode cL_refused 449 = .ok (.bipush 37, 2) := by decide +kernel
theorem dL_refused_451 : decode cL_refused 451 = .ok (.invokevirtual 13, 3) := by decide +kernel
theorem dL_refused_454 : decode cL_refused 454 = .ok (.iconst (-1), 1) := by decide +kernel
theorem dL_refused_455 : decode cL_refused 455 = .ok (.if_icmp .ne 86, 3) := by decide +kernel
theorem dL_refused_458 : decode cL_refused 458 = .ok (.aload_n 0, 1) := by decide +kernel
theorem dL_refused_459 : decode cL_refused 459 = .ok (.iconst (-1), 1) := by decide +kernel
theorem dL_refused_460 : decode cL_refused 460 = .ok (.invokevirtual 56, 3) := by decide +kernel
theorem dL_refused_463 : decode cL_refused 463 = .ok (.iconst (-1), 1) := by decide +kernel
theorem dL_refused_464 : decode cL_refused 464 = .ok (.if_icmp .ne 77, 3) := by decide +kernel
theorem dL_refused_467 : decode cL_refused 467 = .ok (.aload_n 0, 1) := by decide +kernel
theorem dL_refused_468 : decode cL_refused 468 = .ok (.bipush 24, 2) := by decide +kernel
theorem dL_refused_470 : decode cL_refused 470 = .ok (.invokevirtual 56, 3) := by decide +kernel
theorem dL_refused_473 : decode cL_refused 473 = .ok (.bipush (-4), 2) := by decide +kernel
theorem dL_refused_475 : decode cL_refused 475 = .ok (.if_icmp .ne 66, 3) := by decide +kernel
theorem dL_refused_478 : decode cL_refused 478 = .ok (.aload_n 0, 1) := by decide +kernel
theorem dL_refused_479 : decode cL_refused 479 = .ok (.bipush 8, 2) := by decide +kernel
theorem dL_refused_481 : decode cL_refused 481 = .ok (.iconst 0, 1) := by decide +kernel
theorem dL_refused_482 : decode cL_refused 482 = .ok (.invokevirtual 59, 3) := by decide +kernel
theorem dL_refused_485 : decode cL_refused 485 = .ok (.iconst (-1), 1) := by decide +kernel
theorem dL_refused_486 : decode cL_refused 486 = .ok (.if_icmp .ne 55, 3) := by decide +kernel
theorem dL_refused_489 : decode cL_refused 489 = .ok (.aload_n 0, 1) := by decide +kernel
theorem dL_refused_490 : decode cL_refused 490 = .ok (.iconst (-1), 1) := by decide +kernel
theorem dL_refused_491 : decode cL_refused 491 = .ok (.iconst 0, 1) := by decide +kernel
theorem dL_refused_492 : decode cL_refused 492 = .ok (.invokevirtual 59, 3) := by decide +kernel
theorem dL_refused_495 : decode cL_refused 495 = .ok (.iconst (-1), 1) := by decide +kernel
theorem dL_refused_496 : decode cL_refused 496 = .ok (.if_icmp .ne 45, 3) := by decide +kernel
theorem dL_refused_499 : decode cL_refused 499 = .ok (.aload_n 0, 1) := by decide +kernel
theorem dL_refused_500 : decode cL_refused 500 = .ok (.iconst 0, 1) := by decide +kernel
theorem dL_refused_501 : decode cL_refused 501 = .ok (.iconst (-1), 1) := by decide +kernel
theorem dL_refused_502 : decode cL_refused 502 = .ok (.invokevirtual 59, 3) := by decide +kernel
theorem dL_refused_505 : decode cL_refused 505 = .ok (.iconst (-1), 1) := by decide +kernel
theorem dL_refused_506 : decode cL_refused 506 = .ok (.if_icmp .ne 35, 3) := by decide +kernel
theorem dL_refused_509 : decode cL_refused 509 = .ok (.aload_n 0, 1) := by decide +kernel
theorem dL_refused_510 : decode cL_refused 510 = .ok (.iconst 0, 1) := by decide +kernel
theorem dL_refused_511 : decode cL_refused 511 = .ok (.bipush 24, 2) := by decide +kernel
theorem dL_refused_513 : decode cL_refused 513 = .ok (.invokevirtual 59, 3) := by decide +kernel
theorem dL_refused_516 : decode cL_refused 516 = .ok (.bipush (-4), 2) := by decide +kernel
theorem dL_refused_518 : decode cL_refused 518 = .ok (.if_icmp .ne 23, 3) := by decide +kernel
theorem dL_refused_521 : decode cL_refused 521 = .ok (.aload_n 0, 1) := by decide +kernel
theorem dL_refused_522 : decode cL_refused 522 = .ok (.iconst (-1), 1) := by decide +kernel
theorem dL_refused_523 : decode cL_refused 523 = .ok (.invokevirtual 62, 3) := by decide +kernel
theorem dL_refused_526 : decode cL_refused 526 = .ok (.iconst (-1), 1) := by decide +kernel
theorem dL_refused_527 : decode cL_refused 527 = .ok (.if_icmp .ne 14, 3) := by decide +kernel
theorem dL_refused_530 : decode cL_refused 530 = .ok (.aload_n 0, 1) := by decide +kernel
theorem dL_refused_531 : decode cL_refused 531 = .ok (.sipush 5001, 3) := by decide +kernel
theorem dL_refused_534 : decode cL_refused 534 = .ok (.invokevirtual 62, 3) := by decide +kernel
theorem dL_refused_537 : decode cL_refused 537 = .ok (.iconst (-1), 1) := by decide +kernel
theorem dL_refused_538 : decode cL_refused 538 = .ok (.if_icmp .eq 5, 3) := by decide +kernel
theorem dL_refused_541 : decode cL_refused 541 = .ok (.iconst 0, 1) := by decide +kernel
theorem dL_refused_542 : decode cL_refused 542 = .ok (.ireturn, 1) := by decide +kernel
theorem dL_refused_543 : decode cL_refused 543 = .ok (.aload_n 0, 1) := by decide +kernel
theorem dL_refused_544 : decode cL_refused 544 = .ok (.bipush 8, 2) := by decide +kernel
theorem dL_refused_546 : decode cL_refused 546 = .ok (.iconst 0, 1) := by decide +kernel
theorem dL_refused_547 : decode cL_refused 547 = .ok (.invokevirtual 65, 3) := by decide +kernel
theorem dL_refused_550 : decode cL_refused 550 = .ok (.iconst (-1), 1) := by decide +kernel
theorem dL_refused_551 : decode cL_refused 551 = .ok (.if_icmp .ne 166, 3) := by decide +kernel
theorem dL_refused_554 : decode cL_refused 554 = .ok (.aload_n 0, 1) := by decide +kernel
theorem dL_refused_555 : decode cL_refused 555 = .ok (.iconst (-1), 1) := by decide +kernel
theorem dL_refused_556 : decode cL_refused 556 = .ok (.iconst 0, 1) := by decide +kernel
theorem dL_refused_557 : decode cL_refused 557 = .ok (.invokevirtual 65, 3) := by decide +kernel
theorem dL_refused_560 : decode cL_refused 560 = .ok (.iconst (-1), 1) := by decide +kernel
theorem dL_refused_561 : decode cL_refused 561 = .ok (.if_icmp .ne 156, 3) := by decide +kernel
theorem dL_refused_564 : decode cL_refused 564 = .ok (.aload_n 0, 1) := by decide +kernel
theorem dL_refused_565 : decode cL_refused 565 = .ok (.iconst 0, 1) := by decide +kernel
theorem dL_refused_566 : decode cL_refused 566 = .ok (.sipush 5001, 3) := by decide +kernel
theorem dL_refused_569 : decode cL_refused 569 = .ok (.invokevirtual 65, 3) := by decide +kernel
theorem dL_refused_572 : decode cL_refused 572 = .ok (.iconst (-1), 1) := by decide +kernel
theorem dL_refused_573 : decode cL_refused 573 = .ok (.if_icmp .ne 144, 3) := by decide +kernel
theorem dL_refused_576 : decode cL_refused 576 = .ok (.aload_n 0, 1) := by decide +kernel
theorem dL_refused_577 : decode cL_refused 577 = .ok (.iconst 0, 1) := by decide +kernel
theorem dL_refused_578 : decode cL_refused 578 = .ok (.iconst (-1), 1) := by decide +kernel
theorem dL_refused_579 : decode cL_refused 579 = .ok (.invokevirtual 65, 3) := by decide +kernel
theorem dL_refused_582 : decode cL_refused 582 = .ok (.iconst (-1), 1) := by decide +kernel
theorem dL_refused_583 : decode cL_refused 583 = .ok (.if_icmp .ne 134, 3) := by decide +kernel
theorem dL_refused_586 : decode cL_refused 586 = .ok (.aload_n 0, 1) := by decide +kernel
theorem dL_refused_587 : decode cL_refused 587 = .ok (.iconst (-1), 1) := by decide +kernel
theorem dL_refused_588 : decode cL_refused 588 = .ok (.iconst 0, 1) := by decide +kernel
theorem dL_refused_589 : decode cL_refused 589 = .ok (.invokevirtual 68, 3) := by decide +kernel
theorem dL_refused_592 : decode cL_refused 592 = .ok (.iconst (-1), 1) := by decide +kernel
theorem dL_refused_593 : decode cL_refused 593 = .ok (.if_icmp .ne 124, 3) := by decide +kernel
theorem dL_refused_596 : decode cL_refused 596 = .ok (.aload_n 0, 1) := by decide +kernel
theorem dL_refused_597 : decode cL_refused 597 = .ok (.iconst 4, 1) := by decide +kernel
theorem dL_refused_598 : decode cL_refused 598 = .ok (.iconst 0, 1) := by decide +kernel
theorem dL_refused_599 : decode cL_refused 599 = .ok (.invokevirtual 68, 3) := by decide +kernel
theorem dL_refused_602 : decode cL_refused 602 = .ok (.iconst (-1), 1) := by decide +kernel
theorem dL_refused_603 : decode cL_refused 603 = .ok (.if_icmp .ne 114, 3) := by decide +kernel
theorem dL_refused_606 : decode cL_refused 606 = .ok (.aload_n 0, 1) := by decide +kernel
theorem dL_refused_607 : decode cL_refused 607 = .ok (.iconst 0, 1) := by decide +kernel
theorem dL_refused_608 : decode cL_refused 608 = .ok (.iconst 1, 1) := by decide +kernel
theorem dL_refused_609 : decode cL_refused 609 = .ok (.invokevirtual 68, 3) := by decide +kernel
theorem dL_refused_612 : decode cL_refused 612 = .ok (.iconst (-1), 1) := by decide +kernel
theorem dL_refused_613 : decode cL_refused 613 = .ok (.if_icmp .ne 104, 3) := by decide +kernel
theorem dL_refused_616 : decode cL_refused 616 = .ok (.aload_n 0, 1) := by decide +kernel
theorem dL_refused_617 : decode cL_refused 617 = .ok (.iconst 1, 1) := by decide +kernel
theorem dL_refused_618 : decode cL_refused 618 = .ok (.iconst 0, 1) := by decide +kernel
theorem dL_refused_619 : decode cL_refused 619 = .ok (.invokevirtual 68, 3) := by decide +kernel
theorem dL_refused_622 : decode cL_refused 622 = .ok (.iconst (-1), 1) := by decide +kernel
theorem dL_refused_623 : decode cL_refused 623 = .ok (.if_icmp .ne 94, 3) := by decide +kernel
theorem dL_refused_626 : decode cL_refused 626 = .ok (.aload_n 0, 1) := by decide +kernel
theorem dL_refused_627 : decode cL_refused 627 = .ok (.iconst 1, 1) := by decide +kernel
theorem dL_refused_628 : decode cL_refused 628 = .ok (.bipush 25, 2) := by decide +kernel
theorem dL_refused_630 : decode cL_refused 630 = .ok (.invokevirtual 68, 3) := by decide +kernel
theorem dL_refused_633 : decode cL_refused 633 = .ok (.iconst (-1), 1) := by decide +kernel
theorem dL_refused_634 : decode cL_refused 634 = .ok (.if_icmp .ne 83, 3) := by decide +kernel
theorem dL_refused_637 : decode cL_refused 637 = .ok (.aload_n 0, 1) := by decide +kernel
theorem dL_refused_638 : decode cL_refused 638 = .ok (.iconst 2, 1) := by decide +kernel
theorem dL_refused_639 : decode cL_refused 639 = .ok (.bipush 8, 2) := by decide +kernel
theorem dL_refused_641 : decode cL_refused 641 = .ok (.invokevirtual 68, 3) := by decide +kernel
theorem dL_refused_644 : decode cL_refused 644 = .ok (.iconst (-1), 1) := by decide +kernel
theorem dL_refused_645 : decode cL_refused 645 = .ok (.if_icmp .ne 72, 3) := by decide +kernel
theorem dL_refused_648 : decode cL_refused 648 = .ok (.aload_n 0, 1) := by decide +kernel
theorem dL_refused_649 : decode cL_refused 649 = .ok (.iconst 2, 1) := by decide +kernel
theorem dL_refused_650 : decode cL_refused 650 = .ok (.iconst (-1), 1) := by decide +kernel
theorem dL_refused_651 : decode cL_refused 651 = .ok (.invokevirtual 68, 3) := by decide +kernel
theorem dL_refused_654 : decode cL_refused 654 = .ok (.iconst (-1), 1) := by decide +kernel
theorem dL_refused_655 : decode cL_refused 655 = .ok (.if_icmp .ne 62, 3) := by decide +kernel
theorem dL_refused_658 : decode cL_refused 658 = .ok (.aload_n 0, 1) := by decide +kernel
theorem dL_refused_659 : decode cL_refused 659 = .ok (.iconst 3, 1) := by decide +kernel
theorem dL_refused_660 : decode cL_refused 660 = .ok (.iconst 0, 1) := by decide +kernel
theorem dL_refused_661 : decode cL_refused 661 = .ok (.invokevirtual 68, 3) := by decide +kernel
theorem dL_refused_664 : decode cL_refused 664 = .ok (.iconst (-1), 1) := by decide +kernel
theorem dL_refused_665 : decode cL_refused 665 = .ok (.if_icmp .ne 52, 3) := by decide +kernel
theorem dL_refused_668 : decode cL_refused 668 = .ok (.aload_n 0, 1) := by decide +kernel
theorem dL_refused_669 : decode cL_refused 669 = .ok (.iconst 3, 1) := by decide +kernel
theorem dL_refused_670 : decode cL_refused 670 = .ok (.bipush 101, 2) := by decide +kernel
theorem dL_refused_672 : decode cL_refused 672 = .ok (.invokevirtual 68, 3) := by decide +kernel
theorem dL_refused_675 : decode cL_refused 675 = .ok (.iconst (-1), 1) := by decide +kernel
theorem dL_refused_676 : decode cL_refused 676 = .ok (.if_icmp .ne 41, 3) := by decide +kernel
theorem dL_refused_679 : decode cL_refused 679 = .ok (.aload_n 0, 1) := by decide +kernel
theorem dL_refused_680 : decode cL_refused 680 = .ok (.bipush 31, 2) := by decide +kernel
theorem dL_refused_682 : decode cL_refused 682 = .ok (.invokevirtual 71, 3) := by decide +kernel
theorem dL_refused_685 : decode cL_refused 685 = .ok (.iconst (-1), 1) := by decide +kernel
theorem dL_refused_686 : decode cL_refused 686 = .ok (.if_icmp .ne 31, 3) := by decide +kernel
theorem dL_refused_689 : decode cL_refused 689 = .ok (.aload_n 0, 1) := by decide +kernel
theorem dL_refused_690 : decode cL_refused 690 = .ok (.bipush 127, 2) := by decide +kernel
theorem dL_refused_692 : decode cL_refused 692 = .ok (.invokevirtual 71, 3) := by decide +kernel
theorem dL_refused_695 : decode cL_refused 695 = .ok (.iconst (-1), 1) := by decide +kernel
theorem dL_refused_696 : decode cL_refused 696 = .ok (.if_icmp .ne 21, 3) := by decide +kernel
theorem dL_refused_699 : decode cL_refused 699 = .ok (.aload_n 0, 1) := by decide +kernel
theorem dL_refused_700 : decode cL_refused 700 = .ok (.iconst (-1), 1) := by decide +kernel
theorem dL_refused_701 : decode cL_refused 701 = .ok (.invokevirtual 74, 3) := by decide +kernel
theorem dL_refused_704 : decode cL_refused 704 = .ok (.iconst (-1), 1) := by decide +kernel
theorem dL_refused_705 : decode cL_refused 705 = .ok (.if_icmp .ne 12, 3) := by decide +kernel
theorem dL_refused_708 : decode cL_refused 708 = .ok (.aload_n 0, 1) := by decide +kernel
theorem dL_refused_709 : decode cL_refused 709 = .ok (.iconst 2, 1) := by decide +kernel
theorem dL_refused_710 : decode cL_refused 710 = .ok (.invokevirtual 74, 3) := by decide +kernel
theorem dL_refused_713 : decode cL_refused 713 = .ok (.iconst (-1), 1) := by decide +kernel
theorem dL_refused_714 : decode cL_refused 714 = .ok (.if_icmp .eq 5, 3) := by decide +kernel
theorem dL_refused_717 : decode cL_refused 717 = .ok (.iconst 0, 1) := by decide +kernel
theorem dL_refused_718 : decode cL_refused 718 = .ok (.ireturn, 1) := by decide +kernel
theorem dL_refused_719 : decode cL_refused 719 = .ok (.iload_n 3, 1) := by decide +kernel
theorem dL_refused_720 : decode cL_refused 720 = .ok (.ifCond .le 92, 3) := by decide +kernel
theorem dL_refused_723 : decode cL_refused 723 = .ok (.aload_n 0, 1) := by decide +kernel
theorem dL_refused_724 : decode cL_refused 724 = .ok (.iconst 0, 1) := by decide +kernel
theorem dL_refused_725 : decode cL_refused 725 = .ok (.iconst 0, 1) := by decide +kernel
theorem dL_refused_726 : decode cL_refused 726 = .ok (.invokevirtual 47, 3) := by decide +kernel
theorem dL_refused_729 : decode cL_refused 729 = .ok (.iconst (-1), 1) := by decide +kernel
theorem dL_refused_730 : decode cL_refused 730 = .ok (.if_icmp .ne 80, 3) := by decide +kernel
theorem dL_refused_733 : decode cL_refused 733 = .ok (.aload_n 0, 1) := by decide +kernel
theorem dL_refused_734 : decode cL_refused 734 = .ok (.iconst 0, 1) := by decide +kernel
theorem dL_refused_735 : decode cL_refused 735 = .ok (.sipush 5001, 3) := by decide +kernel
theorem dL_refused_738 : decode cL_refused 738 = .ok (.invokevirtual 47, 3) := by decide +kernel
theorem dL_refused_741 : decode cL_refused 741 = .ok (.iconst (-1), 1) := by decide +kernel
theorem dL_refused_742 : decode cL_refused 742 = .ok (.if_icmp .ne 68, 3) := by decide +kernel
theorem dL_refused_745 : decode cL_refused 745 = .ok (.aload_n 0, 1) := by decide +kernel
theorem dL_refused_746 : decode cL_refused 746 = .ok (.iconst 0, 1) := by decide +kernel
theorem dL_refused_747 : decode cL_refused 747 = .ok (.iconst 0, 1) := by decide +kernel
theorem dL_refused_748 : decode cL_refused 748 = .ok (.invokevirtual 50, 3) := by decide +kernel
theorem dL_refused_751 : decode cL_refused 751 = .ok (.iconst (-1), 1) := by decide +kernel
theorem dL_refused_752 : decode cL_refused 752 = .ok (.if_icmp .ne 58, 3) := by decide +kernel
theorem dL_refused_755 : decode cL_refused 755 = .ok (.aload_n 0, 1) := by decide +kernel
theorem dL_refused_756 : decode cL_refused 756 = .ok (.iconst 0, 1) := by decide +kernel
theorem dL_refused_757 : decode cL_refused 757 = .ok (.sipush 5001, 3) := by decide +kernel
theorem dL_refused_760 : decode cL_refused 760 = .ok (.invokevirtual 50, 3) := by decide +kernel
theorem dL_refused_763 : decode cL_refused 763 = .ok (.iconst (-1), 1) := by decide +kernel
theorem dL_refused_764 : decode cL_refused 764 = .ok (.if_icmp .ne 46, 3) := by decide +kernel
theorem dL_refused_767 : decode cL_refused 767 = .ok (.aload_n 0, 1) := by decide +kernel
theorem dL_refused_768 : decode cL_refused 768 = .ok (.iconst 0, 1) := by decide +kernel
theorem dL_refused_769 : decode cL_refused 769 = .ok (.bipush 8, 2) := by decide +kernel
theorem dL_refused_771 : decode cL_refused 771 = .ok (.invokevirtual 25, 3) := by decide +kernel
theorem dL_refused_774 : decode cL_refused 774 = .ok (.iconst (-1), 1) := by decide +kernel
theorem dL_refused_775 : decode cL_refused 775 = .ok (.if_icmp .ne 35, 3) := by decide +kernel
theorem dL_refused_778 : decode cL_refused 778 = .ok (.aload_n 0, 1) := by decide +kernel
theorem dL_refused_779 : decode cL_refused 779 = .ok (.iconst 0, 1) := by decide +kernel
theorem dL_refused_780 : decode cL_refused 780 = .ok (.iconst (-1), 1) := by decide +kernel
theorem dL_refused_781 : decode cL_refused 781 = .ok (.invokevirtual 25, 3) := by decide +kernel
theorem dL_refused_784 : decode cL_refused 784 = .ok (.iconst (-1), 1) := by decide +kernel
theorem dL_refused_785 : decode cL_refused 785 = .ok (.if_icmp .ne 25, 3) := by decide +kernel
theorem dL_refused_788 : decode cL_refused 788 = .ok (.aload_n 0, 1) := by decide +kernel
theorem dL_refused_789 : decode cL_refused 789 = .ok (.iconst 0, 1) := by decide +kernel
theorem dL_refused_790 : decode cL_refused 790 = .ok (.iconst 0, 1) := by decide +kernel
theorem dL_refused_791 : decode cL_refused 791 = .ok (.invokevirtual 53, 3) := by decide +kernel
theorem dL_refused_794 : decode cL_refused 794 = .ok (.iconst (-1), 1) := by decide +kernel
theorem dL_refused_795 : decode cL_refused 795 = .ok (.if_icmp .ne 15, 3) := by decide +kernel
theorem dL_refused_798 : decode cL_refused 798 = .ok (.aload_n 0, 1) := by decide +kernel
theorem dL_refused_799 : decode cL_refused 799 = .ok (.iconst 0, 1) := by decide +kernel
theorem dL_refused_800 : decode cL_refused 800 = .ok (.sipush 1001, 3) := by decide +kernel
theorem dL_refused_803 : decode cL_refused 803 = .ok (.invokevirtual 53, 3) := by decide +kernel
theorem dL_refused_806 : decode cL_refused 806 = .ok (.iconst (-1), 1) := by decide +kernel
theorem dL_refused_807 : decode cL_refused 807 = .ok (.if_icmp .eq 5, 3) := by decide +kernel
theorem dL_refused_810 : decode cL_refused 810 = .ok (.iconst 0, 1) := by decide +kernel
theorem dL_refused_811 : decode cL_refused 811 = .ok (.ireturn, 1) := by decide +kernel
theorem dL_refused_812 : decode cL_refused 812 = .ok (.iload_n 3, 1) := by decide +kernel
theorem dL_refused_813 : decode cL_refused 813 = .ok (.ifCond .ne 86, 3) := by decide +kernel
theorem dL_refused_816 : decode cL_refused 816 = .ok (.aload_n 0, 1) := by decide +kernel
theorem dL_refused_817 : decode cL_refused 817 = .ok (.iconst 0, 1) := by decide +kernel
theorem dL_refused_818 : decode cL_refused 818 = .ok (.invokevirtual 41, 3) := by decide +kernel
theorem dL_refused_821 : decode cL_refused 821 = .ok (.bipush (-2), 2) := by decide +kernel
theorem dL_refused_823 : decode cL_refused 823 = .ok (.if_icmp .ne 74, 3) := by decide +kernel
theorem dL_refused_826 : decode cL_refused 826 = .ok (.aload_n 0, 1) := by decide +kernel
theorem dL_refused_827 : decode cL_refused 827 = .ok (.invokevirtual 77, 3) := by decide +kernel
theorem dL_refused_830 : decode cL_refused 830 = .ok (.bipush (-2), 2) := by decide +kernel
theorem dL_refused_832 : decode cL_refused 832 = .ok (.if_icmp .ne 65, 3) := by decide +kernel
theorem dL_refused_835 : decode cL_refused 835 = .ok (.aload_n 0, 1) := by decide +kernel
theorem dL_refused_836 : decode cL_refused 836 = .ok (.iconst 0, 1) := by decide +kernel
theorem dL_refused_837 : decode cL_refused 837 = .ok (.iconst 0, 1) := by decide +kernel
theorem dL_refused_838 : decode cL_refused 838 = .ok (.invokevirtual 68, 3) := by decide +kernel
theorem dL_refused_841 : decode cL_refused 841 = .ok (.ifCond .ne 56, 3) := by decide +kernel
theorem dL_refused_844 : decode cL_refused 844 = .ok (.aload_n 0, 1) := by decide +kernel
theorem dL_refused_845 : decode cL_refused 845 = .ok (.iconst 1, 1) := by decide +kernel
theorem dL_refused_846 : decode cL_refused 846 = .ok (.iconst 1, 1) := by decide +kernel
theorem dL_refused_847 : decode cL_refused 847 = .ok (.invokevirtual 68, 3) := by decide +kernel
theorem dL_refused_850 : decode cL_refused 850 = .ok (.bipush (-4), 2) := by decide +kernel
theorem dL_refused_852 : decode cL_refused 852 = .ok (.if_icmp .ne 45, 3) := by decide +kernel
theorem dL_refused_855 : decode cL_refused 855 = .ok (.aload_n 0, 1) := by decide +kernel
theorem dL_refused_856 : decode cL_refused 856 = .ok (.iconst 2, 1) := by decide +kernel
theorem dL_refused_857 : decode cL_refused 857 = .ok (.iconst 0, 1) := by decide +kernel
theorem dL_refused_858 : decode cL_refused 858 = .ok (.invokevirtual 68, 3) := by decide +kernel
theorem dL_refused_861 : decode cL_refused 861 = .ok (.bipush (-4), 2) := by decide +kernel
theorem dL_refused_863 : decode cL_refused 863 = .ok (.if_icmp .ne 34, 3) := by decide +kernel
theorem dL_refused_866 : decode cL_refused 866 = .ok (.aload_n 0, 1) := by decide +kernel
theorem dL_refused_867 : decode cL_refused 867 = .ok (.iconst 3, 1) := by decide +kernel
theorem dL_refused_868 : decode cL_refused 868 = .ok (.iconst 1, 1) := by decide +kernel
theorem dL_refused_869 : decode cL_refused 869 = .ok (.invokevirtual 68, 3) := by decide +kernel
theorem dL_refused_872 : decode cL_refused 872 = .ok (.bipush (-4), 2) := by decide +kernel
theorem dL_refused_874 : decode cL_refused 874 = .ok (.if_icmp .ne 23, 3) := by decide +kernel
theorem dL_refused_877 : decode cL_refused 877 = .ok (.aload_n 0, 1) := by decide +kernel
theorem dL_refused_878 : decode cL_refused 878 = .ok (.iconst 5, 1) := by decide +kernel
theorem dL_refused_879 : decode cL_refused 879 = .ok (.invokevirtual 13, 3) := by decide +kernel
theorem dL_refused_882 : decode cL_refused 882 = .ok (.bipush (-4), 2) := by decide +kernel
theorem dL_refused_884 : decode cL_refused 884 = .ok (.if_icmp .ne 13, 3) := by decide +kernel
theorem dL_refused_887 : decode cL_refused 887 = .ok (.aload_n 0, 1) := by decide +kernel
theorem dL_refused_888 : decode cL_refused 888 = .ok (.iconst 0, 1) := by decide +kernel
theorem dL_refused_889 : decode cL_refused 889 = .ok (.invokevirtual 56, 3) := by decide +kernel
theorem dL_refused_892 : decode cL_refused 892 = .ok (.bipush (-4), 2) := by decide +kernel
theorem dL_refused_894 : decode cL_refused 894 = .ok (.if_icmp .eq 5, 3) := by decide +kernel
theorem dL_refused_897 : decode cL_refused 897 = .ok (.iconst 0, 1) := by decide +kernel
theorem dL_refused_898 : decode cL_refused 898 = .ok (.ireturn, 1) := by decide +kernel
theorem dL_refused_899 : decode cL_refused 899 = .ok (.iload_n 3, 1) := by decide +kernel
theorem dL_refused_900 : decode cL_refused 900 = .ok (.iconst 1, 1) := by decide +kernel
theorem dL_refused_901 : decode cL_refused 901 = .ok (.if_icmp .ne 12, 3) := by decide +kernel
theorem dL_refused_904 : decode cL_refused 904 = .ok (.aload_n 0, 1) := by decide +kernel
theorem dL_refused_905 : decode cL_refused 905 = .ok (.invokevirtual 77, 3) := by decide +kernel
theorem dL_refused_908 : decode cL_refused 908 = .ok (.bipush (-2), 2) := by decide +kernel
theorem dL_refused_910 : decode cL_refused 910 = .ok (.if_icmp .ne 52, 3) := by decide +kernel
theorem dL_refused_913 : decode cL_refused 913 = .ok (.iload_n 3, 1) := by decide +kernel
theorem dL_refused_914 : decode cL_refused 914 = .ok (.bipush 24, 2) := by decide +kernel
theorem dL_refused_916 : decode cL_refused 916 = .ok (.if_icmp .ne 13, 3) := by decide +kernel
theorem dL_refused_919 : decode cL_refused 919 = .ok (.aload_n 0, 1) := by decide +kernel
theorem dL_refused_920 : decode cL_refused 920 = .ok (.iconst 0, 1) := by decide +kernel
theorem dL_refused_921 : decode cL_refused 921 = .ok (.invokevirtual 41, 3) := by decide +kernel
theorem dL_refused_924 : decode cL_refused 924 = .ok (.bipush (-3), 2) := by decide +kernel
theorem dL_refused_926 : decode cL_refused 926 = .ok (.if_icmp .ne 36, 3) := by decide +kernel
theorem dL_refused_929 : decode cL_refused 929 = .ok (.aload_n 0, 1) := by decide +kernel
theorem dL_refused_930 : decode cL_refused 930 = .ok (.invokestatic 29, 3) := by decide +kernel
theorem dL_refused_933 : decode cL_refused 933 = .ok (.aload_n 0, 1) := by decide +kernel
theorem dL_refused_934 : decode cL_refused 934 = .ok (.bipush 11, 2) := by decide +kernel
theorem dL_refused_936 : decode cL_refused 936 = .ok (.invokevirtual 13, 3) := by decide +kernel
theorem dL_refused_939 : decode cL_refused 939 = .ok (.i2l, 1) := by decide +kernel
theorem dL_refused_940 : decode cL_refused 940 = .ok (.invokestatic 19, 3) := by decide +kernel
theorem dL_refused_943 : decode cL_refused 943 = .ok (.aload_n 0, 1) := by decide +kernel
theorem dL_refused_944 : decode cL_refused 944 = .ok (.bipush 12, 2) := by decide +kernel
theorem dL_refused_946 : decode cL_refused 946 = .ok (.invokevirtual 13, 3) := by decide +kernel
theorem dL_refused_949 : decode cL_refused 949 = .ok (.i2l, 1) := by decide +kernel
theorem dL_refused_950 : decode cL_refused 950 = .ok (.invokestatic 19, 3) := by decide +kernel
theorem dL_refused_953 : decode cL_refused 953 = .ok (.lload_n 1, 1) := by decide +kernel
theorem dL_refused_954 : decode cL_refused 954 = .ok (.lcmp, 1) := by decide +kernel
theorem dL_refused_955 : decode cL_refused 955 = .ok (.ifCond .ne 7, 3) := by decide +kernel
theorem dL_refused_958 : decode cL_refused 958 = .ok (.iconst 1, 1) := by decide +kernel
theorem dL_refused_959 : decode cL_refused 959 = .ok (.goto 4, 3) := by decide +kernel
theorem dL_refused_962 : decode cL_refused 962 = .ok (.iconst 0, 1) := by decide +kernel
theorem dL_refused_963 : decode cL_refused 963 = .ok (.ireturn, 1) := by decide +kernel
theorem dL_types_0 : decode cL_types 0 = .ok (.bipush 7, 2) := by decide +kernel
theorem dL_types_2 : decode cL_types 2 = .ok (.istore_n 3, 1) := by decide +kernel
theorem dL_types_3 : decode cL_types 3 = .ok (.iload_n 3, 1) := by decide +kernel
theorem dL_types_4 : decode cL_types 4 = .ok (.ifCond .lt 34, 3) := by decide +kernel
theorem dL_types_7 : decode cL_types 7 = .ok (.lload_n 1, 1) := by decide +kernel
theorem dL_types_8 : decode cL_types 8 = .ok (.bipush 8, 2) := by decide +kernel
theorem dL_types_10 : decode cL_types 10 = .ok (.iload_n 3, 1) := by decide +kernel
theorem dL_types_11 : decode cL_types 11 = .ok (.imul, 1) := by decide +kernel
theorem dL_types_12 : decode cL_types 12 = .ok (.lshr, 1) := by decide +kernel
theorem dL_types_13 : decode cL_types 13 = .ok (.ldc2_w 81, 3) := by decide +kernel
theorem dL_types_16 : decode cL_types 16 = .ok (.land, 1) := by decide +kernel
theorem dL_types_17 : decode cL_types 17 = .ok (.l2i, 1) := by decide +kernel
theorem dL_types_18 : decode cL_types 18 = .ok (.istore 4, 2) := by decide +kernel
theorem dL_types_20 : decode cL_types 20 = .ok (.iload 4, 2) := by decide +kernel
theorem dL_types_22 : decode cL_types 22 = .ok (.ifCond .eq 10, 3) := by decide +kernel
theorem dL_types_25 : decode cL_types 25 = .ok (.aload_n 0, 1) := by decide +kernel
theorem dL_types_26 : decode cL_types 26 = .ok (.iload 4, 2) := by decide +kernel
theorem dL_types_28 : decode cL_types 28 = .ok (.invokevirtual 71, 3) := by decide +kernel
theorem dL_types_31 : decode cL_types 31 = .ok (.pop, 1) := by decide +kernel
theorem dL_types_32 : decode cL_types 32 = .ok (.iinc 3 (-1), 3) := by decide +kernel
theorem dL_types_35 : decode cL_types 35 = .ok (.goto (-32), 3) := by decide +kernel
theorem dL_types_38 : decode cL_types 38 = .ok (.return_, 1) := by decide +kernel
theorem dL_isFault_0 : decode cL_isFault 0 = .ok (.aload_n 0, 1) := by decide +kernel
theorem dL_isFault_1 : decode cL_isFault 1 = .ok (.invokevirtual 83, 3) := by decide +kernel
theorem dL_isFault_4 : decode cL_isFault 4 = .ok (.pop, 1) := by decide +kernel
theorem dL_isFault_5 : decode cL_isFault 5 = .ok (.aload_n 0, 1) := by decide +kernel
theorem dL_isFault_6 : decode cL_isFault 6 = .ok (.lload_n 1, 1) := by decide +kernel
theorem dL_isFault_7 : decode cL_isFault 7 = .ok (.invokestatic 86, 3) := by decide +kernel
theorem dL_isFault_10 : decode cL_isFault 10 = .ok (.aload_n 0, 1) := by decide +kernel
theorem dL_isFault_11 : decode cL_isFault 11 = .ok (.lload_n 3, 1) := by decide +kernel
theorem dL_isFault_12 : decode cL_isFault 12 = .ok (.invokestatic 86, 3) := by decide +kernel
theorem dL_isFault_15 : decode cL_isFault 15 = .ok (.aload_n 0, 1) := by decide +kernel
theorem dL_isFault_16 : decode cL_isFault 16 = .ok (.iconst 0, 1) := by decide +kernel
theorem dL_isFault_17 : decode cL_isFault 17 = .ok (.invokevirtual 74, 3) := by decide +kernel
theorem dL_isFault_20 : decode cL_isFault 20 = .ok (.iload 5, 2) := by decide +kernel
theorem dL_isFault_22 : decode cL_isFault 22 = .ok (.if_icmp .ne 17, 3) := by decide +kernel
theorem dL_isFault_25 : decode cL_isFault 25 = .ok (.aload_n 0, 1) := by decide +kernel
theorem dL_isFault_26 : decode cL_isFault 26 = .ok (.iconst 1, 1) := by decide +kernel
theorem dL_isFault_27 : decode cL_isFault 27 = .ok (.invokevirtual 74, 3) := by decide +kernel
theorem dL_isFault_30 : decode cL_isFault 30 = .ok (.iload 6, 2) := by decide +kernel
theorem dL_isFault_32 : decode cL_isFault 32 = .ok (.if_icmp .ne 7, 3) := by decide +kernel
theorem dL_isFault_35 : decode cL_isFault 35 = .ok (.iconst 1, 1) := by decide +kernel
theorem dL_isFault_36 : decode cL_isFault 36 = .ok (.goto 4, 3) := by decide +kernel
theorem dL_isFault_39 : decode cL_isFault 39 = .ok (.iconst 0, 1) := by decide +kernel
theorem dL_isFault_40 : decode cL_isFault 40 = .ok (.ireturn, 1) := by decide +kernel
theorem dL_texts_0 : decode cL_texts 0 = .ok (.new 14, 3) := by decide +kernel
theorem dL_texts_3 : decode cL_texts 3 = .ok (.dup, 1) := by decide +kernel
theorem dL_texts_4 : decode cL_texts 4 = .ok (.invokespecial 90, 3) := by decide +kernel
theorem dL_texts_7 : decode cL_texts 7 = .ok (.astore_n 0, 1) := by decide +kernel
theorem dL_texts_8 : decode cL_texts 8 = .ok (.aload_n 0, 1) := by decide +kernel
theorem dL_texts_9 : decode cL_texts 9 = .ok (.ldc2_w 91, 3) := by decide +kernel
theorem dL_texts_12 : decode cL_texts 12 = .ok (.lconst 0, 1) := by decide +kernel
theorem dL_texts_13 : decode cL_texts 13 = .ok (.bipush (-4), 2) := by decide +kernel
theorem dL_texts_15 : decode cL_texts 15 = .ok (.bipush (-4), 2) := by decide +kernel
theorem dL_texts_17 : decode cL_texts 17 = .ok (.invokestatic 93, 3) := by decide +kernel
theorem dL_texts_20 : decode cL_texts 20 = .ok (.ifCond .eq 40, 3) := by decide +kernel
theorem dL_texts_23 : decode cL_texts 23 = .ok (.aload_n 0, 1) := by decide +kernel
theorem dL_texts_24 : decode cL_texts 24 = .ok (.lconst 0, 1) := by decide +kernel
theorem dL_texts_25 : decode cL_texts 25 = .ok (.lconst 0, 1) := by decide +kernel
theorem dL_texts_26 : decode cL_texts 26 = .ok (.iconst 0, 1) := by decide +kernel
theorem dL_texts_27 : decode cL_texts 27 = .ok (.iconst 1, 1) := by decide +kernel
theorem dL_texts_28 : decode cL_texts 28 = .ok (.invokestatic 93, 3) := by decide +kernel
theorem dL_texts_31 : decode cL_texts 31 = .ok (.ifCond .eq 29, 3) := by decide +kernel
theorem dL_texts_34 : decode cL_texts 34 = .ok (.aload_n 0, 1) := by decide +kernel
theorem dL_texts_35 : decode cL_texts 35 = .ok (.ldc2_w 97, 3) := by decide +kernel
theorem dL_texts_38 : decode cL_texts 38 = .ok (.lconst 0, 1) := by decide +kernel
theorem dL_texts_39 : decode cL_texts 39 = .ok (.iconst 0, 1) := by decide +kernel
theorem dL_texts_40 : decode cL_texts 40 = .ok (.iconst 2, 1) := by decide +kernel
theorem dL_texts_41 : decode cL_texts 41 = .ok (.invokestatic 93, 3) := by decide +kernel
theorem dL_texts_44 : decode cL_texts 44 = .ok (.ifCond .eq 16, 3) := by decide +kernel
theorem dL_texts_47 : decode cL_texts 47 = .ok (.aload_n 0, 1) := by decide +kernel
theorem dL_texts_48 : decode cL_texts 48 = .ok (.ldc2_w 99, 3) := by decide +kernel
theorem dL_texts_51 : decode cL_texts 51 = .ok (.lconst 0, 1) := by decide +kernel
theorem dL_texts_52 : decode cL_texts 52 = .ok (.iconst 0, 1) := by decide +kernel
theorem dL_texts_53 : decode cL_texts 53 = .ok (.iconst 1, 1) := by decide +kernel
theorem dL_texts_54 : decode cL_texts 54 = .ok (.invokestatic 93, 3) := by decide +kernel
theorem dL_texts_57 : decode cL_texts 57 = .ok (.ifCond .ne 5, 3) := by decide +kernel
theorem dL_texts_60 : decode cL_texts 60 = .ok (.iconst 0, 1) := by decide +kernel
theorem dL_texts_61 : decode cL_texts 61 = .ok (.ireturn, 1) := by decide +kernel
theorem dL_texts_62 : decode cL_texts 62 = .ok (.aload_n 0, 1) := by decide +kernel
theorem dL_texts_63 : decode cL_texts 63 = .ok (.ldc2_w 101, 3) := by decide +kernel
theorem dL_texts_66 : decode cL_texts 66 = .ok (.ldc2_w 103, 3) := by decide +kernel
theorem dL_texts_69 : decode cL_texts 69 = .ok (.bipush (-4), 2) := by decide +kernel
theorem dL_texts_71 : decode cL_texts 71 = .ok (.bipush (-4), 2) := by decide +kernel
theorem dL_texts_73 : decode cL_texts 73 = .ok (.invokestatic 93, 3) := by decide +kernel
theorem dL_texts_76 : decode cL_texts 76 = .ok (.ifCond .eq 42, 3) := by decide +kernel
theorem dL_texts_79 : decode cL_texts 79 = .ok (.aload_n 0, 1) := by decide +kernel
theorem dL_texts_80 : decode cL_texts 80 = .ok (.ldc2_w 105, 3) := by decide +kernel
theorem dL_texts_83 : decode cL_texts 83 = .ok (.lconst 0, 1) := by decide +kernel
theorem dL_texts_84 : decode cL_texts 84 = .ok (.iconst 0, 1) := by decide +kernel
theorem dL_texts_85 : decode cL_texts 85 = .ok (.iconst 2, 1) := by decide +kernel
theorem dL_texts_86 : decode cL_texts 86 = .ok (.invokestatic 93, 3) := by decide +kernel
theorem dL_texts_89 : decode cL_texts 89 = .ok (.ifCond .eq 29, 3) := by decide +kernel
theorem dL_texts_92 : decode cL_texts 92 = .ok (.aload_n 0, 1) := by decide +kernel
theorem dL_texts_93 : decode cL_texts 93 = .ok (.ldc2_w 107, 3) := by decide +kernel
theorem dL_texts_96 : decode cL_texts 96 = .ok (.lconst 0, 1) := by decide +kernel
theorem dL_texts_97 : decode cL_texts 97 = .ok (.iconst 0, 1) := by decide +kernel
theorem dL_texts_98 : decode cL_texts 98 = .ok (.iconst 2, 1) := by decide +kernel
theorem dL_texts_99 : decode cL_texts 99 = .ok (.invokestatic 93, 3) := by decide +kernel
theorem dL_texts_102 : decode cL_texts 102 = .ok (.ifCond .eq 16, 3) := by decide +kernel
theorem dL_texts_105 : decode cL_texts 105 = .ok (.aload_n 0, 1) := by decide +kernel
theorem dL_texts_106 : decode cL_texts 106 = .ok (.ldc2_w 109, 3) := by decide +kernel
theorem dL_texts_109 : decode cL_texts 109 = .ok (.lconst 0, 1) := by decide +kernel
theorem dL_texts_110 : decode cL_texts 110 = .ok (.iconst 0, 1) := by decide +kernel
theorem dL_texts_111 : decode cL_texts 111 = .ok (.iconst 1, 1) := by decide +kernel
theorem dL_texts_112 : decode cL_texts 112 = .ok (.invokestatic 93, 3) := by decide +kernel
theorem dL_texts_115 : decode cL_texts 115 = .ok (.ifCond .ne 5, 3) := by decide +kernel
theorem dL_texts_118 : decode cL_texts 118 = .ok (.iconst 0, 1) := by decide +kernel
theorem dL_texts_119 : decode cL_texts 119 = .ok (.ireturn, 1) := by decide +kernel
theorem dL_texts_120 : decode cL_texts 120 = .ok (.aload_n 0, 1) := by decide +kernel
theorem dL_texts_121 : decode cL_texts 121 = .ok (.ldc2_w 111, 3) := by decide +kernel
theorem dL_texts_124 : decode cL_texts 124 = .ok (.lconst 0, 1) := by decide +kernel
theorem dL_texts_125 : decode cL_texts 125 = .ok (.iconst 0, 1) := by decide +kernel
theorem dL_texts_126 : decode cL_texts 126 = .ok (.iconst 1, 1) := by decide +kernel
theorem dL_texts_127 : decode cL_texts 127 = .ok (.invokestatic 93, 3) := by decide +kernel
theorem dL_texts_130 : decode cL_texts 130 = .ok (.ifCond .eq 42, 3) := by decide +kernel
theorem dL_texts_133 : decode cL_texts 133 = .ok (.aload_n 0, 1) := by decide +kernel
theorem dL_texts_134 : decode cL_texts 134 = .ok (.ldc2_w 113, 3) := by decide +kernel
theorem dL_texts_137 : decode cL_texts 137 = .ok (.lconst 0, 1) := by decide +kernel
theorem dL_texts_138 : decode cL_texts 138 = .ok (.iconst 4, 1) := by decide +kernel
theorem dL_texts_139 : decode cL_texts 139 = .ok (.iconst 1, 1) := by decide +kernel
theorem dL_texts_140 : decode cL_texts 140 = .ok (.invokestatic 93, 3) := by decide +kernel
theorem dL_texts_143 : decode cL_texts 143 = .ok (.ifCond .eq 29, 3) := by decide +kernel
theorem dL_texts_146 : decode cL_texts 146 = .ok (.aload_n 0, 1) := by decide +kernel
theorem dL_texts_147 : decode cL_texts 147 = .ok (.ldc2_w 115, 3) := by decide +kernel
theorem dL_texts_150 : decode cL_texts 150 = .ok (.lconst 0, 1) := by decide +kernel
theorem dL_texts_151 : decode cL_texts 151 = .ok (.iconst 4, 1) := by decide +kernel
theorem dL_texts_152 : decode cL_texts 152 = .ok (.iconst 1, 1) := by decide +kernel
theorem dL_texts_153 : decode cL_texts 153 = .ok (.invokestatic 93, 3) := by decide +kernel
theorem dL_texts_156 : decode cL_texts 156 = .ok (.ifCond .eq 16, 3) := by decide +kernel
theorem dL_texts_159 : decode cL_texts 159 = .ok (.aload_n 0, 1) := by decide +kernel
theorem dL_texts_160 : decode cL_texts 160 = .ok (.ldc2_w 117, 3) := by decide +kernel
theorem dL_texts_163 : decode cL_texts 163 = .ok (.lconst 0, 1) := by decide +kernel
theorem dL_texts_164 : decode cL_texts 164 = .ok (.iconst 0, 1) := by decide +kernel
theorem dL_texts_165 : decode cL_texts 165 = .ok (.iconst 1, 1) := by decide +kernel
theorem dL_texts_166 : decode cL_texts 166 = .ok (.invokestatic 93, 3) := by decide +kernel
theorem dL_texts_169 : decode cL_texts 169 = .ok (.ifCond .ne 5, 3) := by decide +kernel
theorem dL_texts_172 : decode cL_texts 172 = .ok (.iconst 0, 1) := by decide +kernel
theorem dL_texts_173 : decode cL_texts 173 = .ok (.ireturn, 1) := by decide +kernel
theorem dL_texts_174 : decode cL_texts 174 = .ok (.aload_n 0, 1) := by decide +kernel
theorem dL_texts_175 : decode cL_texts 175 = .ok (.ldc2_w 119, 3) := by decide +kernel
theorem dL_texts_178 : decode cL_texts 178 = .ok (.lconst 0, 1) := by decide +kernel
theorem dL_texts_179 : decode cL_texts 179 = .ok (.bipush 6, 2) := by decide +kernel
theorem dL_texts_181 : decode cL_texts 181 = .ok (.iconst 3, 1) := by decide +kernel
theorem dL_texts_182 : decode cL_texts 182 = .ok (.invokestatic 93, 3) := by decide +kernel
theorem dL_texts_185 : decode cL_texts 185 = .ok (.ifCond .eq 49, 3) := by decide +kernel
theorem dL_texts_188 : decode cL_texts 188 = .ok (.aload_n 0, 1) := by decide +kernel
theorem dL_texts_189 : decode cL_texts 189 = .ok (.ldc2_w 121, 3) := by decide +kernel
theorem dL_texts_192 : decode cL_texts 192 = .ok (.ldc2_w 123, 3) := by decide +kernel
theorem dL_texts_195 : decode cL_texts 195 = .ok (.bipush 6, 2) := by decide +kernel
theorem dL_texts_197 : decode cL_texts 197 = .ok (.iconst 3, 1) := by decide +kernel
theorem dL_texts_198 : decode cL_texts 198 = .ok (.invokestatic 93, 3) := by decide +kernel
theorem dL_texts_201 : decode cL_texts 201 = .ok (.ifCond .eq 33, 3) := by decide +kernel
theorem dL_texts_204 : decode cL_texts 204 = .ok (.aload_n 0, 1) := by decide +kernel
theorem dL_texts_205 : decode cL_texts 205 = .ok (.ldc2_w 121, 3) := by decide +kernel
theorem dL_texts_208 : decode cL_texts 208 = .ok (.ldc2_w 125, 3) := by decide +kernel
theorem dL_texts_211 : decode cL_texts 211 = .ok (.bipush (-4), 2) := by decide +kernel
theorem dL_texts_213 : decode cL_texts 213 = .ok (.bipush (-4), 2) := by decide +kernel
theorem dL_texts_215 : decode cL_texts 215 = .ok (.invokestatic 93, 3) := by decide +kernel
theorem dL_texts_218 : decode cL_texts 218 = .ok (.ifCond .eq 16, 3) := by decide +kernel
theorem dL_texts_221 : decode cL_texts 221 = .ok (.aload_n 0, 1) := by decide +kernel
theorem dL_texts_222 : decode cL_texts 222 = .ok (.ldc2_w 127, 3) := by decide +kernel
theorem dL_texts_225 : decode cL_texts 225 = .ok (.lconst 0, 1) := by decide +kernel
theorem dL_texts_226 : decode cL_texts 226 = .ok (.iconst 0, 1) := by decide +kernel
theorem dL_texts_227 : decode cL_texts 227 = .ok (.iconst 1, 1) := by decide +kernel
theorem dL_texts_228 : decode cL_texts 228 = .ok (.invokestatic 93, 3) := by decide +kernel
theorem dL_texts_231 : decode cL_texts 231 = .ok (.ifCond .ne 5, 3) := by decide +kernel
theorem dL_texts_234 : decode cL_texts 234 = .ok (.iconst 0, 1) := by decide +kernel
theorem dL_texts_235 : decode cL_texts 235 = .ok (.ireturn, 1) := by decide +kernel
theorem dL_texts_236 : decode cL_texts 236 = .ok (.aload_n 0, 1) := by decide +kernel
theorem dL_texts_237 : decode cL_texts 237 = .ok (.ldc2_w 129, 3) := by decide +kernel
theorem dL_texts_240 : decode cL_texts 240 = .ok (.lconst 0, 1) := by decide +kernel
theorem dL_texts_241 : decode cL_texts 241 = .ok (.iconst 0, 1) := by decide +kernel
theorem dL_texts_242 : decode cL_texts 242 = .ok (.iconst 1, 1) := by decide +kernel
theorem dL_texts_243 : decode cL_texts 243 = .ok (.invokestatic 93, 3) := by decide +kernel
theorem dL_texts_246 : decode cL_texts 246 = .ok (.ifCond .eq 46, 3) := by decide +kernel
theorem dL_texts_249 : decode cL_texts 249 = .ok (.aload_n 0, 1) := by decide +kernel
theorem dL_texts_250 : decode cL_texts 250 = .ok (.ldc2_w 131, 3) := by decide +kernel
theorem dL_texts_253 : decode cL_texts 253 = .ok (.lconst 0, 1) := by decide +kernel
theorem dL_texts_254 : decode cL_texts 254 = .ok (.bipush (-4), 2) := by decide +kernel
theorem dL_texts_256 : decode cL_texts 256 = .ok (.bipush (-4), 2) := by decide +kernel
theorem dL_texts_258 : decode cL_texts 258 = .ok (.invokestatic 93, 3) := by decide +kernel
theorem dL_texts_261 : decode cL_texts 261 = .ok (.ifCond .eq 31, 3) := by decide +kernel
theorem dL_texts_264 : decode cL_texts 264 = .ok (.aload_n 0, 1) := by decide +kernel
theorem dL_texts_265 : decode cL_texts 265 = .ok (.ldc2_w 133, 3) := by decide +kernel
theorem dL_texts_268 : decode cL_texts 268 = .ok (.ldc2_w 123, 3) := by decide +kernel
theorem dL_texts_271 : decode cL_texts 271 = .ok (.iconst 2, 1) := by decide +kernel
theorem dL_texts_272 : decode cL_texts 272 = .ok (.iconst 2, 1) := by decide +kernel
theorem dL_texts_273 : decode cL_texts 273 = .ok (.invokestatic 93, 3) := by decide +kernel
theorem dL_texts_276 : decode cL_texts 276 = .ok (.ifCond .eq 16, 3) := by decide +kernel
theorem dL_texts_279 : decode cL_texts 279 = .ok (.aload_n 0, 1) := by decide +kernel
theorem dL_texts_280 : decode cL_texts 280 = .ok (.ldc2_w 135, 3) := by decide +kernel
theorem dL_texts_283 : decode cL_texts 283 = .ok (.lconst 0, 1) := by decide +kernel
theorem dL_texts_284 : decode cL_texts 284 = .ok (.iconst 2, 1) := by decide +kernel
theorem dL_texts_285 : decode cL_texts 285 = .ok (.iconst 1, 1) := by decide +kernel
theorem dL_texts_286 : decode cL_texts 286 = .ok (.invokestatic 93, 3) := by decide +kernel
theorem dL_texts_289 : decode cL_texts 289 = .ok (.ifCond .ne 5, 3) := by decide +kernel
theorem dL_texts_292 : decode cL_texts 292 = .ok (.iconst 0, 1) := by decide +kernel
theorem dL_texts_293 : decode cL_texts 293 = .ok (.ireturn, 1) := by decide +kernel
theorem dL_texts_294 : decode cL_texts 294 = .ok (.aload_n 0, 1) := by decide +kernel
theorem dL_texts_295 : decode cL_texts 295 = .ok (.ldc2_w 137, 3) := by decide +kernel
theorem dL_texts_298 : decode cL_texts 298 = .ok (.ldc2_w 139, 3) := by decide +kernel
theorem dL_texts_301 : decode cL_texts 301 = .ok (.bipush 6, 2) := by decide +kernel
theorem dL_texts_303 : decode cL_texts 303 = .ok (.iconst 2, 1) := by decide +kernel
theorem dL_texts_304 : decode cL_texts 304 = .ok (.invokestatic 93, 3) := by decide +kernel
theorem dL_texts_307 : decode cL_texts 307 = .ok (.ifCond .eq 44, 3) := by decide +kernel
theorem dL_texts_310 : decode cL_texts 310 = .ok (.aload_n 0, 1) := by decide +kernel
theorem dL_texts_311 : decode cL_texts 311 = .ok (.ldc2_w 141, 3) := by decide +kernel
theorem dL_texts_314 : decode cL_texts 314 = .ok (.lconst 0, 1) := by decide +kernel
theorem dL_texts_315 : decode cL_texts 315 = .ok (.bipush (-4), 2) := by decide +kernel
theorem dL_texts_317 : decode cL_texts 317 = .ok (.bipush (-4), 2) := by decide +kernel
theorem dL_texts_319 : decode cL_texts 319 = .ok (.invokestatic 93, 3) := by decide +kernel
theorem dL_texts_322 : decode cL_texts 322 = .ok (.ifCond .eq 29, 3) := by decide +kernel
theorem dL_texts_325 : decode cL_texts 325 = .ok (.aload_n 0, 1) := by decide +kernel
theorem dL_texts_326 : decode cL_texts 326 = .ok (.ldc2_w 143, 3) := by decide +kernel
theorem dL_texts_329 : decode cL_texts 329 = .ok (.lconst 0, 1) := by decide +kernel
theorem dL_texts_330 : decode cL_texts 330 = .ok (.iconst 0, 1) := by decide +kernel
theorem dL_texts_331 : decode cL_texts 331 = .ok (.iconst 1, 1) := by decide +kernel
theorem dL_texts_332 : decode cL_texts 332 = .ok (.invokestatic 93, 3) := by decide +kernel
theorem dL_texts_335 : decode cL_texts 335 = .ok (.ifCond .eq 16, 3) := by decide +kernel
theorem dL_texts_338 : decode cL_texts 338 = .ok (.aload_n 0, 1) := by decide +kernel
theorem dL_texts_339 : decode cL_texts 339 = .ok (.ldc2_w 145, 3) := by decide +kernel
theorem dL_texts_342 : decode cL_texts 342 = .ok (.lconst 0, 1) := by decide +kernel
theorem dL_texts_343 : decode cL_texts 343 = .ok (.iconst 5, 1) := by decide +kernel
theorem dL_texts_344 : decode cL_texts 344 = .ok (.iconst 1, 1) := by decide +kernel
theorem dL_texts_345 : decode cL_texts 345 = .ok (.invokestatic 93, 3) := by decide +kernel
theorem dL_texts_348 : decode cL_texts 348 = .ok (.ifCond .ne 5, 3) := by decide +kernel
theorem dL_texts_351 : decode cL_texts 351 = .ok (.iconst 0, 1) := by decide +kernel
theorem dL_texts_352 : decode cL_texts 352 = .ok (.ireturn, 1) := by decide +kernel
theorem dL_texts_353 : decode cL_texts 353 = .ok (.aload_n 0, 1) := by decide +kernel
theorem dL_texts_354 : decode cL_texts 354 = .ok (.invokevirtual 147, 3) := by decide +kernel
theorem dL_texts_357 : decode cL_texts 357 = .ok (.bipush (-2), 2) := by decide +kernel
theorem dL_texts_359 : decode cL_texts 359 = .ok (.if_icmp .ne 146, 3) := by decide +kernel
theorem dL_texts_362 : decode cL_texts 362 = .ok (.aload_n 0, 1) := by decide +kernel
theorem dL_texts_363 : decode cL_texts 363 = .ok (.bipush 11, 2) := by decide +kernel
theorem dL_texts_365 : decode cL_texts 365 = .ok (.invokevirtual 13, 3) := by decide +kernel
theorem dL_texts_368 : decode cL_texts 368 = .ok (.ifCond .ne 137, 3) := by decide +kernel
theorem dL_texts_371 : decode cL_texts 371 = .ok (.aload_n 0, 1) := by decide +kernel
theorem dL_texts_372 : decode cL_texts 372 = .ok (.ldc2_w 150, 3) := by decide +kernel
theorem dL_texts_375 : decode cL_texts 375 = .ok (.lconst 0, 1) := by decide +kernel
theorem dL_texts_376 : decode cL_texts 376 = .ok (.bipush (-4), 2) := by decide +kernel
theorem dL_texts_378 : decode cL_texts 378 = .ok (.bipush (-4), 2) := by decide +kernel
theorem dL_texts_380 : decode cL_texts 380 = .ok (.invokestatic 93, 3) := by decide +kernel
theorem dL_texts_383 : decode cL_texts 383 = .ok (.ifCond .eq 122, 3) := by decide +kernel
theorem dL_texts_386 : decode cL_texts 386 = .ok (.aload_n 0, 1) := by decide +kernel
theorem dL_texts_387 : decode cL_texts 387 = .ok (.invokevirtual 147, 3) := by decide +kernel
theorem dL_texts_390 : decode cL_texts 390 = .ok (.iconst 3, 1) := by decide +kernel
theorem dL_texts_391 : decode cL_texts 391 = .ok (.if_icmp .ne 114, 3) := by decide +kernel
theorem dL_texts_394 : decode cL_texts 394 = .ok (.aload_n 0, 1) := by decide +kernel
theorem dL_texts_395 : decode cL_texts 395 = .ok (.iconst 1, 1) := by decide +kernel
theorem dL_texts_396 : decode cL_texts 396 = .ok (.iconst 0, 1) := by decide +kernel
theorem dL_texts_397 : decode cL_texts 397 = .ok (.invokevirtual 25, 3) := by decide +kernel
theorem dL_texts_400 : decode cL_texts 400 = .ok (.bipush 100, 2) := by decide +kernel
theorem dL_texts_402 : decode cL_texts 402 = .ok (.if_icmp .ne 103, 3) := by decide +kernel
theorem dL_texts_405 : decode cL_texts 405 = .ok (.aload_n 0, 1) := by decide +kernel
theorem dL_texts_406 : decode cL_texts 406 = .ok (.iconst 2, 1) := by decide +kernel
theorem dL_texts_407 : decode cL_texts 407 = .ok (.iconst 0, 1) := by decide +kernel
theorem dL_texts_408 : decode cL_texts 408 = .ok (.invokevirtual 25, 3) := by decide +kernel
theorem dL_texts_411 : decode cL_texts 411 = .ok (.bipush 30, 2) := by decide +kernel
theorem dL_texts_413 : decode cL_texts 413 = .ok (.if_icmp .ne 92, 3) := by decide +kernel
theorem dL_texts_416 : decode cL_texts 416 = .ok (.aload_n 0, 1) := by decide +kernel
theorem dL_texts_417 : decode cL_texts 417 = .ok (.bipush 20, 2) := by decide +kernel
theorem dL_texts_419 : decode cL_texts 419 = .ok (.invokevirtual 13, 3) := by decide +kernel
theorem dL_texts_422 : decode cL_texts 422 = .ok (.sipush 230, 3) := by decide +kernel
theorem dL_texts_425 : decode cL_texts 425 = .ok (.if_icmp .ne 80, 3) := by decide +kernel
theorem dL_texts_428 : decode cL_texts 428 = .ok (.aload_n 0, 1) := by decide +kernel
theorem dL_texts_429 : decode cL_texts 429 = .ok (.invokevirtual 147, 3) := by decide +kernel
theorem dL_texts_432 : decode cL_texts 432 = .ok (.iconst 3, 1) := by decide +kernel
theorem dL_texts_433 : decode cL_texts 433 = .ok (.if_icmp .ne 72, 3) := by decide +kernel
theorem dL_texts_436 : decode cL_texts 436 = .ok (.aload_n 0, 1) := by decide +kernel
theorem dL_texts_437 : decode cL_texts 437 = .ok (.bipush 26, 2) := by decide +kernel
theorem dL_texts_439 : decode cL_texts 439 = .ok (.invokevirtual 13, 3) := by decide +kernel
theorem dL_texts_442 : decode cL_texts 442 = .ok (.sipush 230, 3) := by decide +kernel
theorem dL_texts_445 : decode cL_texts 445 = .ok (.if_icmp .ne 60, 3) := by decide +kernel
theorem dL_texts_448 : decode cL_texts 448 = .ok (.aload_n 0, 1) := by decide +kernel
theorem dL_texts_449 : decode cL_texts 449 = .ok (.bipush 20, 2) := by decide +kernel
theorem dL_texts_451 : decode cL_texts 451 = .ok (.invokevirtual 13, 3) := by decide +kernel
theorem dL_texts_454 : decode cL_texts 454 = .ok (.sipush 460, 3) := by decide +kernel
theorem dL_texts_457 : decode cL_texts 457 = .ok (.if_icmp .ne 48, 3) := by decide +kernel
theorem dL_texts_460 : decode cL_texts 460 = .ok (.aload_n 0, 1) := by decide +kernel
theorem dL_texts_461 : decode cL_texts 461 = .ok (.bipush 11, 2) := by decide +kernel
theorem dL_texts_463 : decode cL_texts 463 = .ok (.invokevirtual 13, 3) := by decide +kernel
theorem dL_texts_466 : decode cL_texts 466 = .ok (.iconst 2, 1) := by decide +kernel
theorem dL_texts_467 : decode cL_texts 467 = .ok (.if_icmp .ne 38, 3) := by decide +kernel
theorem dL_texts_470 : decode cL_texts 470 = .ok (.aload_n 0, 1) := by decide +kernel
theorem dL_texts_471 : decode cL_texts 471 = .ok (.invokevirtual 83, 3) := by decide +kernel
theorem dL_texts_474 : decode cL_texts 474 = .ok (.bipush 8, 2) := by decide +kernel
theorem dL_texts_476 : decode cL_texts 476 = .ok (.if_icmp .ne 29, 3) := by decide +kernel
theorem dL_texts_479 : decode cL_texts 479 = .ok (.aload_n 0, 1) := by decide +kernel
theorem dL_texts_480 : decode cL_texts 480 = .ok (.iconst 0, 1) := by decide +kernel
theorem dL_texts_481 : decode cL_texts 481 = .ok (.invokevirtual 74, 3) := by decide +kernel
theorem dL_texts_484 : decode cL_texts 484 = .ok (.ifCond .ne 21, 3) := by decide +kernel
theorem dL_texts_487 : decode cL_texts 487 = .ok (.aload_n 0, 1) := by decide +kernel
theorem dL_texts_488 : decode cL_texts 488 = .ok (.iconst 1, 1) := by decide +kernel
theorem dL_texts_489 : decode cL_texts 489 = .ok (.invokevirtual 74, 3) := by decide +kernel
theorem dL_texts_492 : decode cL_texts 492 = .ok (.iconst 1, 1) := by decide +kernel
theorem dL_texts_493 : decode cL_texts 493 = .ok (.if_icmp .ne 12, 3) := by decide +kernel
theorem dL_texts_496 : decode cL_texts 496 = .ok (.aload_n 0, 1) := by decide +kernel
theorem dL_texts_497 : decode cL_texts 497 = .ok (.invokevirtual 147, 3) := by decide +kernel
theorem dL_texts_500 : decode cL_texts 500 = .ok (.bipush (-2), 2) := by decide +kernel
theorem dL_texts_502 : decode cL_texts 502 = .ok (.if_icmp .eq 5, 3) := by decide +kernel
theorem dL_texts_505 : decode cL_texts 505 = .ok (.iconst 0, 1) := by decide +kernel
theorem dL_texts_506 : decode cL_texts 506 = .ok (.ireturn, 1) := by decide +kernel
theorem dL_texts_507 : decode cL_texts 507 = .ok (.iconst 1, 1) := by decide +kernel
theorem dL_texts_508 : decode cL_texts 508 = .ok (.istore_n 1, 1) := by decide +kernel
theorem dL_texts_509 : decode cL_texts 509 = .ok (.iload_n 1, 1) := by decide +kernel
theorem dL_texts_510 : decode cL_texts 510 = .ok (.bipush 100, 2) := by decide +kernel
theorem dL_texts_512 : decode cL_texts 512 = .ok (.if_icmp .gt 21, 3) := by decide +kernel
theorem dL_texts_515 : decode cL_texts 515 = .ok (.aload_n 0, 1) := by decide +kernel
theorem dL_texts_516 : decode cL_texts 516 = .ok (.bipush 49, 2) := by decide +kernel
theorem dL_texts_518 : decode cL_texts 518 = .ok (.invokevirtual 71, 3) := by decide +kernel
theorem dL_texts_521 : decode cL_texts 521 = .ok (.iload_n 1, 1) := by decide +kernel
theorem dL_texts_522 : decode cL_texts 522 = .ok (.if_icmp .eq 5, 3) := by decide +kernel
theorem dL_texts_525 : decode cL_texts 525 = .ok (.iconst 0, 1) := by decide +kernel
theorem dL_texts_526 : decode cL_texts 526 = .ok (.ireturn, 1) := by decide +kernel
theorem dL_texts_527 : decode cL_texts 527 = .ok (.iinc 1 1, 3) := by decide +kernel
theorem dL_texts_530 : decode cL_texts 530 = .ok (.goto (-21), 3) := by decide +kernel
theorem dL_texts_533 : decode cL_texts 533 = .ok (.aload_n 0, 1) := by decide +kernel
theorem dL_texts_534 : decode cL_texts 534 = .ok (.bipush 49, 2) := by decide +kernel
theorem dL_texts_536 : decode cL_texts 536 = .ok (.invokevirtual 71, 3) := by decide +kernel
theorem dL_texts_539 : decode cL_texts 539 = .ok (.bipush (-3), 2) := by decide +kernel
theorem dL_texts_541 : decode cL_texts 541 = .ok (.if_icmp .ne 34, 3) := by decide +kernel
theorem dL_texts_544 : decode cL_texts 544 = .ok (.aload_n 0, 1) := by decide +kernel
theorem dL_texts_545 : decode cL_texts 545 = .ok (.bipush 31, 2) := by decide +kernel
theorem dL_texts_547 : decode cL_texts 547 = .ok (.invokevirtual 71, 3) := by decide +kernel
theorem dL_texts_550 : decode cL_texts 550 = .ok (.iconst (-1), 1) := by decide +kernel
theorem dL_texts_551 : decode cL_texts 551 = .ok (.if_icmp .ne 24, 3) := by decide +kernel
theorem dL_texts_554 : decode cL_texts 554 = .ok (.aload_n 0, 1) := by decide +kernel
theorem dL_texts_555 : decode cL_texts 555 = .ok (.iconst 0, 1) := by decide +kernel
theorem dL_texts_556 : decode cL_texts 556 = .ok (.invokevirtual 74, 3) := by decide +kernel
theorem dL_texts_559 : decode cL_texts 559 = .ok (.ifCond .ne 16, 3) := by decide +kernel
theorem dL_texts_562 : decode cL_texts 562 = .ok (.aload_n 0, 1) := by decide +kernel
theorem dL_texts_563 : decode cL_texts 563 = .ok (.invokevirtual 83, 3) := by decide +kernel
theorem dL_texts_566 : decode cL_texts 566 = .ok (.bipush 100, 2) := by decide +kernel
theorem dL_texts_568 : decode cL_texts 568 = .ok (.if_icmp .ne 7, 3) := by decide +kernel
theorem dL_texts_571 : decode cL_texts 571 = .ok (.iconst 1, 1) := by decide +kernel
theorem dL_texts_572 : decode cL_texts 572 = .ok (.goto 4, 3) := by decide +kernel
theorem dL_texts_575 : decode cL_texts 575 = .ok (.iconst 0, 1) := by decide +kernel
theorem dL_texts_576 : decode cL_texts 576 = .ok (.ireturn, 1) := by decide +kernel
theorem dL_known_0 : decode cL_known 0 = .ok (.new 14, 3) := by decide +kernel
theorem dL_known_3 : decode cL_known 3 = .ok (.dup, 1) := by decide +kernel
theorem dL_known_4 : decode cL_known 4 = .ok (.invokespecial 90, 3) := by decide +kernel
theorem dL_known_7 : decode cL_known 7 = .ok (.astore_n 0, 1) := by decide +kernel
theorem dL_known_8 : decode cL_known 8 = .ok (.aload_n 0, 1) := by decide +kernel
theorem dL_known_9 : decode cL_known 9 = .ok (.invokestatic 152, 3) := by decide +kernel
theorem dL_known_12 : decode cL_known 12 = .ok (.ifCond .eq 137, 3) := by decide +kernel
theorem dL_known_15 : decode cL_known 15 = .ok (.aload_n 0, 1) := by decide +kernel
theorem dL_known_16 : decode cL_known 16 = .ok (.invokevirtual 156, 3) := by decide +kernel
theorem dL_known_19 : decode cL_known 19 = .ok (.bipush (-2), 2) := by decide +kernel
theorem dL_known_21 : decode cL_known 21 = .ok (.if_icmp .ne 128, 3) := by decide +kernel
theorem dL_known_24 : decode cL_known 24 = .ok (.aload_n 0, 1) := by decide +kernel
theorem dL_known_25 : decode cL_known 25 = .ok (.iconst 3, 1) := by decide +kernel
theorem dL_known_26 : decode cL_known 26 = .ok (.invokevirtual 44, 3) := by decide +kernel
theorem dL_known_29 : decode cL_known 29 = .ok (.ifCond .ne 120, 3) := by decide +kernel
theorem dL_known_32 : decode cL_known 32 = .ok (.aload_n 0, 1) := by decide +kernel
theorem dL_known_33 : decode cL_known 33 = .ok (.iconst 1, 1) := by decide +kernel
theorem dL_known_34 : decode cL_known 34 = .ok (.invokevirtual 13, 3) := by decide +kernel
theorem dL_known_37 : decode cL_known 37 = .ok (.iconst 3, 1) := by decide +kernel
theorem dL_known_38 : decode cL_known 38 = .ok (.if_icmp .ne 111, 3) := by decide +kernel
theorem dL_known_41 : decode cL_known 41 = .ok (.aload_n 0, 1) := by decide +kernel
theorem dL_known_42 : decode cL_known 42 = .ok (.invokevirtual 156, 3) := by decide +kernel
theorem dL_known_45 : decode cL_known 45 = .ok (.ifCond .ne 104, 3) := by decide +kernel
theorem dL_known_48 : decode cL_known 48 = .ok (.aload_n 0, 1) := by decide +kernel
theorem dL_known_49 : decode cL_known 49 = .ok (.iconst 1, 1) := by decide +kernel
theorem dL_known_50 : decode cL_known 50 = .ok (.sipush 1000, 3) := by decide +kernel
theorem dL_known_53 : decode cL_known 53 = .ok (.iconst 0, 1) := by decide +kernel
theorem dL_known_54 : decode cL_known 54 = .ok (.invokevirtual 37, 3) := by decide +kernel
theorem dL_known_57 : decode cL_known 57 = .ok (.sipush 1000, 3) := by decide +kernel
theorem dL_known_60 : decode cL_known 60 = .ok (.if_icmp .ne 89, 3) := by decide +kernel
theorem dL_known_63 : decode cL_known 63 = .ok (.aload_n 0, 1) := by decide +kernel
theorem dL_known_64 : decode cL_known 64 = .ok (.iconst 0, 1) := by decide +kernel
theorem dL_known_65 : decode cL_known 65 = .ok (.iconst 1, 1) := by decide +kernel
theorem dL_known_66 : decode cL_known 66 = .ok (.invokevirtual 25, 3) := by decide +kernel
theorem dL_known_69 : decode cL_known 69 = .ok (.sipush 2660, 3) := by decide +kernel
theorem dL_known_72 : decode cL_known 72 = .ok (.if_icmp .ne 77, 3) := by decide +kernel
theorem dL_known_75 : decode cL_known 75 = .ok (.aload_n 0, 1) := by decide +kernel
theorem dL_known_76 : decode cL_known 76 = .ok (.iconst 0, 1) := by decide +kernel
theorem dL_known_77 : decode cL_known 77 = .ok (.iconst 2, 1) := by decide +kernel
theorem dL_known_78 : decode cL_known 78 = .ok (.invokevirtual 25, 3) := by decide +kernel
theorem dL_known_81 : decode cL_known 81 = .ok (.sipush 184, 3) := by decide +kernel
theorem dL_known_84 : decode cL_known 84 = .ok (.if_icmp .ne 65, 3) := by decide +kernel
theorem dL_known_87 : decode cL_known 87 = .ok (.aload_n 0, 1) := by decide +kernel
theorem dL_known_88 : decode cL_known 88 = .ok (.iconst 0, 1) := by decide +kernel
theorem dL_known_89 : decode cL_known 89 = .ok (.iconst 3, 1) := by decide +kernel
theorem dL_known_90 : decode cL_known 90 = .ok (.invokevirtual 25, 3) := by decide +kernel
theorem dL_known_93 : decode cL_known 93 = .ok (.bipush 36, 2) := by decide +kernel
theorem dL_known_95 : decode cL_known 95 = .ok (.if_icmp .ne 54, 3) := by decide +kernel
theorem dL_known_98 : decode cL_known 98 = .ok (.aload_n 0, 1) := by decide +kernel
theorem dL_known_99 : decode cL_known 99 = .ok (.iconst 0, 1) := by decide +kernel
theorem dL_known_100 : decode cL_known 100 = .ok (.iconst 4, 1) := by decide +kernel
theorem dL_known_101 : decode cL_known 101 = .ok (.invokevirtual 25, 3) := by decide +kernel
theorem dL_known_104 : decode cL_known 104 = .ok (.sipush 436, 3) := by decide +kernel
theorem dL_known_107 : decode cL_known 107 = .ok (.if_icmp .ne 42, 3) := by decide +kernel
theorem dL_known_110 : decode cL_known 110 = .ok (.aload_n 0, 1) := by decide +kernel
theorem dL_known_111 : decode cL_known 111 = .ok (.iconst 0, 1) := by decide +kernel
theorem dL_known_112 : decode cL_known 112 = .ok (.iconst 5, 1) := by decide +kernel
theorem dL_known_113 : decode cL_known 113 = .ok (.invokevirtual 25, 3) := by decide +kernel
theorem dL_known_116 : decode cL_known 116 = .ok (.ifCond .ne 33, 3) := by decide +kernel
theorem dL_known_119 : decode cL_known 119 = .ok (.aload_n 0, 1) := by decide +kernel
theorem dL_known_120 : decode cL_known 120 = .ok (.iconst 0, 1) := by decide +kernel
theorem dL_known_121 : decode cL_known 121 = .ok (.bipush 6, 2) := by decide +kernel
theorem dL_known_123 : decode cL_known 123 = .ok (.invokevirtual 25, 3) := by decide +kernel
theorem dL_known_126 : decode cL_known 126 = .ok (.iconst 5, 1) := by decide +kernel
theorem dL_known_127 : decode cL_known 127 = .ok (.if_icmp .ne 22, 3) := by decide +kernel
theorem dL_known_130 : decode cL_known 130 = .ok (.aload_n 0, 1) := by decide +kernel
theorem dL_known_131 : decode cL_known 131 = .ok (.iconst 0, 1) := by decide +kernel
theorem dL_known_132 : decode cL_known 132 = .ok (.bipush 7, 2) := by decide +kernel
theorem dL_known_134 : decode cL_known 134 = .ok (.invokevirtual 25, 3) := by decide +kernel
theorem dL_known_137 : decode cL_known 137 = .ok (.ifCond .ne 12, 3) := by decide +kernel
theorem dL_known_140 : decode cL_known 140 = .ok (.aload_n 0, 1) := by decide +kernel
theorem dL_known_141 : decode cL_known 141 = .ok (.iconst 5, 1) := by decide +kernel
theorem dL_known_142 : decode cL_known 142 = .ok (.invokevirtual 13, 3) := by decide +kernel
theorem dL_known_145 : decode cL_known 145 = .ok (.iconst 5, 1) := by decide +kernel
theorem dL_known_146 : decode cL_known 146 = .ok (.if_icmp .eq 5, 3) := by decide +kernel
theorem dL_known_149 : decode cL_known 149 = .ok (.iconst 0, 1) := by decide +kernel
theorem dL_known_150 : decode cL_known 150 = .ok (.ireturn, 1) := by decide +kernel
theorem dL_known_151 : decode cL_known 151 = .ok (.aload_n 0, 1) := by decide +kernel
theorem dL_known_152 : decode cL_known 152 = .ok (.iconst 1, 1) := by decide +kernel
theorem dL_known_153 : decode cL_known 153 = .ok (.invokevirtual 44, 3) := by decide +kernel
theorem dL_known_156 : decode cL_known 156 = .ok (.iconst 1, 1) := by decide +kernel
theorem dL_known_157 : decode cL_known 157 = .ok (.if_icmp .ne 211, 3) := by decide +kernel
theorem dL_known_160 : decode cL_known 160 = .ok (.aload_n 0, 1) := by decide +kernel
theorem dL_known_161 : decode cL_known 161 = .ok (.iconst 0, 1) := by decide +kernel
theorem dL_known_162 : decode cL_known 162 = .ok (.iconst 0, 1) := by decide +kernel
theorem dL_known_163 : decode cL_known 163 = .ok (.invokevirtual 25, 3) := by decide +kernel
theorem dL_known_166 : decode cL_known 166 = .ok (.sipush 979, 3) := by decide +kernel
theorem dL_known_169 : decode cL_known 169 = .ok (.if_icmp .ne 199, 3) := by decide +kernel
theorem dL_known_172 : decode cL_known 172 = .ok (.aload_n 0, 1) := by decide +kernel
theorem dL_known_173 : decode cL_known 173 = .ok (.bipush 20, 2) := by decide +kernel
theorem dL_known_175 : decode cL_known 175 = .ok (.invokevirtual 13, 3) := by decide +kernel
theorem dL_known_178 : decode cL_known 178 = .ok (.sipush 1000, 3) := by decide +kernel
theorem dL_known_181 : decode cL_known 181 = .ok (.if_icmp .ne 187, 3) := by decide +kernel
theorem dL_known_184 : decode cL_known 184 = .ok (.aload_n 0, 1) := by decide +kernel
theorem dL_known_185 : decode cL_known 185 = .ok (.bipush 21, 2) := by decide +kernel
theorem dL_known_187 : decode cL_known 187 = .ok (.invokevirtual 13, 3) := by decide +kernel
theorem dL_known_190 : decode cL_known 190 = .ok (.sipush 979, 3) := by decide +kernel
theorem dL_known_193 : decode cL_known 193 = .ok (.if_icmp .ne 175, 3) := by decide +kernel
theorem dL_known_196 : decode cL_known 196 = .ok (.aload_n 0, 1) := by decide +kernel
theorem dL_known_197 : decode cL_known 197 = .ok (.bipush 22, 2) := by decide +kernel
theorem dL_known_199 : decode cL_known 199 = .ok (.invokevirtual 13, 3) := by decide +kernel
theorem dL_known_202 : decode cL_known 202 = .ok (.bipush 20, 2) := by decide +kernel
theorem dL_known_204 : decode cL_known 204 = .ok (.if_icmp .ne 164, 3) := by decide +kernel
theorem dL_known_207 : decode cL_known 207 = .ok (.aload_n 0, 1) := by decide +kernel
theorem dL_known_208 : decode cL_known 208 = .ok (.bipush 24, 2) := by decide +kernel
theorem dL_known_210 : decode cL_known 210 = .ok (.invokevirtual 13, 3) := by decide +kernel
theorem dL_known_213 : decode cL_known 213 = .ok (.iconst 1, 1) := by decide +kernel
theorem dL_known_214 : decode cL_known 214 = .ok (.if_icmp .ne 154, 3) := by decide +kernel
theorem dL_known_217 : decode cL_known 217 = .ok (.aload_n 0, 1) := by decide +kernel
theorem dL_known_218 : decode cL_known 218 = .ok (.iconst 3, 1) := by decide +kernel
theorem dL_known_219 : decode cL_known 219 = .ok (.bipush 20, 2) := by decide +kernel
theorem dL_known_221 : decode cL_known 221 = .ok (.bipush 20, 2) := by decide +kernel
theorem dL_known_223 : decode cL_known 223 = .ok (.invokevirtual 37, 3) := by decide +kernel
theorem dL_known_226 : decode cL_known 226 = .ok (.bipush 120, 2) := by decide +kernel
theorem dL_known_228 : decode cL_known 228 = .ok (.if_icmp .ne 140, 3) := by decide +kernel
theorem dL_known_231 : decode cL_known 231 = .ok (.aload_n 0, 1) := by decide +kernel
theorem dL_known_232 : decode cL_known 232 = .ok (.bipush 26, 2) := by decide +kernel
theorem dL_known_234 : decode cL_known 234 = .ok (.invokevirtual 13, 3) := by decide +kernel
theorem dL_known_237 : decode cL_known 237 = .ok (.sipush 979, 3) := by decide +kernel
theorem dL_known_240 : decode cL_known 240 = .ok (.if_icmp .ne 128, 3) := by decide +kernel
theorem dL_known_243 : decode cL_known 243 = .ok (.aload_n 0, 1) := by decide +kernel
theorem dL_known_244 : decode cL_known 244 = .ok (.bipush 20, 2) := by decide +kernel
theorem dL_known_246 : decode cL_known 246 = .ok (.invokevirtual 13, 3) := by decide +kernel
theorem dL_known_249 : decode cL_known 249 = .ok (.sipush 1120, 3) := by decide +kernel
theorem dL_known_252 : decode cL_known 252 = .ok (.if_icmp .ne 116, 3) := by decide +kernel
theorem dL_known_255 : decode cL_known 255 = .ok (.aload_n 0, 1) := by decide +kernel
theorem dL_known_256 : decode cL_known 256 = .ok (.iconst 0, 1) := by decide +kernel
theorem dL_known_257 : decode cL_known 257 = .ok (.bipush 7, 2) := by decide +kernel
theorem dL_known_259 : decode cL_known 259 = .ok (.invokevirtual 25, 3) := by decide +kernel
theorem dL_known_262 : decode cL_known 262 = .ok (.iconst 1, 1) := by decide +kernel
theorem dL_known_263 : decode cL_known 263 = .ok (.if_icmp .ne 105, 3) := by decide +kernel
theorem dL_known_266 : decode cL_known 266 = .ok (.aload_n 0, 1) := by decide +kernel
theorem dL_known_267 : decode cL_known 267 = .ok (.iconst 0, 1) := by decide +kernel
theorem dL_known_268 : decode cL_known 268 = .ok (.iconst 5, 1) := by decide +kernel
theorem dL_known_269 : decode cL_known 269 = .ok (.invokevirtual 25, 3) := by decide +kernel
theorem dL_known_272 : decode cL_known 272 = .ok (.ifCond .ne 96, 3) := by decide +kernel
theorem dL_known_275 : decode cL_known 275 = .ok (.aload_n 0, 1) := by decide +kernel
theorem dL_known_276 : decode cL_known 276 = .ok (.iconst 1, 1) := by decide +kernel
theorem dL_known_277 : decode cL_known 277 = .ok (.invokevirtual 44, 3) := by decide +kernel
theorem dL_known_280 : decode cL_known 280 = .ok (.iconst 1, 1) := by decide +kernel
theorem dL_known_281 : decode cL_known 281 = .ok (.if_icmp .ne 87, 3) := by decide +kernel
theorem dL_known_284 : decode cL_known 284 = .ok (.aload_n 0, 1) := by decide +kernel
theorem dL_known_285 : decode cL_known 285 = .ok (.iconst 0, 1) := by decide +kernel
theorem dL_known_286 : decode cL_known 286 = .ok (.iconst 0, 1) := by decide +kernel
theorem dL_known_287 : decode cL_known 287 = .ok (.invokevirtual 25, 3) := by decide +kernel
theorem dL_known_290 : decode cL_known 290 = .ok (.bipush 19, 2) := by decide +kernel
theorem dL_known_292 : decode cL_known 292 = .ok (.if_icmp .ne 76, 3) := by decide +kernel
theorem dL_known_295 : decode cL_known 295 = .ok (.aload_n 0, 1) := by decide +kernel
theorem dL_known_296 : decode cL_known 296 = .ok (.iconst 1, 1) := by decide +kernel
theorem dL_known_297 : decode cL_known 297 = .ok (.iconst 0, 1) := by decide +kernel
theorem dL_known_298 : decode cL_known 298 = .ok (.invokevirtual 25, 3) := by decide +kernel
theorem dL_known_301 : decode cL_known 301 = .ok (.bipush 29, 2) := by decide +kernel
theorem dL_known_303 : decode cL_known 303 = .ok (.if_icmp .ne 65, 3) := by decide +kernel
theorem dL_known_306 : decode cL_known 306 = .ok (.aload_n 0, 1) := by decide +kernel
theorem dL_known_307 : decode cL_known 307 = .ok (.iconst 2, 1) := by decide +kernel
theorem dL_known_308 : decode cL_known 308 = .ok (.iconst 0, 1) := by decide +kernel
theorem dL_known_309 : decode cL_known 309 = .ok (.invokevirtual 25, 3) := by decide +kernel
theorem dL_known_312 : decode cL_known 312 = .ok (.bipush 69, 2) := by decide +kernel
theorem dL_known_314 : decode cL_known 314 = .ok (.if_icmp .ne 54, 3) := by decide +kernel
theorem dL_known_317 : decode cL_known 317 = .ok (.aload_n 0, 1) := by decide +kernel
theorem dL_known_318 : decode cL_known 318 = .ok (.iconst 2, 1) := by decide +kernel
theorem dL_known_319 : decode cL_known 319 = .ok (.invokevirtual 13, 3) := by decide +kernel
theorem dL_known_322 : decode cL_known 322 = .ok (.iconst 2, 1) := by decide +kernel
theorem dL_known_323 : decode cL_known 323 = .ok (.if_icmp .ne 45, 3) := by decide +kernel
theorem dL_known_326 : decode cL_known 326 = .ok (.aload_n 0, 1) := by decide +kernel
theorem dL_known_327 : decode cL_known 327 = .ok (.iconst 1, 1) := by decide +kernel
theorem dL_known_328 : decode cL_known 328 = .ok (.invokevirtual 44, 3) := by decide +kernel
theorem dL_known_331 : decode cL_known 331 = .ok (.iconst 1, 1) := by decide +kernel
theorem dL_known_332 : decode cL_known 332 = .ok (.if_icmp .ne 36, 3) := by decide +kernel
theorem dL_known_335 : decode cL_known 335 = .ok (.aload_n 0, 1) := by decide +kernel
theorem dL_known_336 : decode cL_known 336 = .ok (.iconst 2, 1) := by decide +kernel
theorem dL_known_337 : decode cL_known 337 = .ok (.iconst 0, 1) := by decide +kernel
theorem dL_known_338 : decode cL_known 338 = .ok (.invokevirtual 25, 3) := by decide +kernel
theorem dL_known_341 : decode cL_known 341 = .ok (.bipush 58, 2) := by decide +kernel
theorem dL_known_343 : decode cL_known 343 = .ok (.if_icmp .ne 25, 3) := by decide +kernel
theorem dL_known_346 : decode cL_known 346 = .ok (.aload_n 0, 1) := by decide +kernel
theorem dL_known_347 : decode cL_known 347 = .ok (.iconst 1, 1) := by decide +kernel
theorem dL_known_348 : decode cL_known 348 = .ok (.iconst 0, 1) := by decide +kernel
theorem dL_known_349 : decode cL_known 349 = .ok (.invokevirtual 25, 3) := by decide +kernel
theorem dL_known_352 : decode cL_known 352 = .ok (.bipush 28, 2) := by decide +kernel
theorem dL_known_354 : decode cL_known 354 = .ok (.if_icmp .ne 14, 3) := by decide +kernel
theorem dL_known_357 : decode cL_known 357 = .ok (.aload_n 0, 1) := by decide +kernel
theorem dL_known_358 : decode cL_known 358 = .ok (.bipush 22, 2) := by decide +kernel
theorem dL_known_360 : decode cL_known 360 = .ok (.invokevirtual 13, 3) := by decide +kernel
theorem dL_known_363 : decode cL_known 363 = .ok (.bipush 30, 2) := by decide +kernel
theorem dL_known_365 : decode cL_known 365 = .ok (.if_icmp .eq 5, 3) := by decide +kernel
theorem dL_known_368 : decode cL_known 368 = .ok (.iconst 0, 1) := by decide +kernel
theorem dL_known_369 : decode cL_known 369 = .ok (.ireturn, 1) := by decide +kernel
theorem dL_known_370 : decode cL_known 370 = .ok (.aload_n 0, 1) := by decide +kernel
theorem dL_known_371 : decode cL_known 371 = .ok (.iconst 5, 1) := by decide +kernel
theorem dL_known_372 : decode cL_known 372 = .ok (.iconst 1, 1) := by decide +kernel
theorem dL_known_373 : decode cL_known 373 = .ok (.invokevirtual 33, 3) := by decide +kernel
theorem dL_known_376 : decode cL_known 376 = .ok (.bipush 12, 2) := by decide +kernel
theorem dL_known_378 : decode cL_known 378 = .ok (.if_icmp .ne 249, 3) := by decide +kernel
theorem dL_known_381 : decode cL_known 381 = .ok (.aload_n 0, 1) := by decide +kernel
theorem dL_known_382 : decode cL_known 382 = .ok (.iconst 0, 1) := by decide +kernel
theorem dL_known_383 : decode cL_known 383 = .ok (.iconst 0, 1) := by decide +kernel
theorem dL_known_384 : decode cL_known 384 = .ok (.invokevirtual 68, 3) := by decide +kernel
theorem dL_known_387 : decode cL_known 387 = .ok (.iconst 1, 1) := by decide +kernel
theorem dL_known_388 : decode cL_known 388 = .ok (.if_icmp .ne 239, 3) := by decide +kernel
theorem dL_known_391 : decode cL_known 391 = .ok (.aload_n 0, 1) := by decide +kernel
theorem dL_known_392 : decode cL_known 392 = .ok (.iconst 0, 1) := by decide +kernel
theorem dL_known_393 : decode cL_known 393 = .ok (.iconst 1, 1) := by decide +kernel
theorem dL_known_394 : decode cL_known 394 = .ok (.invokevirtual 53, 3) := by decide +kernel
theorem dL_known_397 : decode cL_known 397 = .ok (.bipush (-4), 2) := by decide +kernel
theorem dL_known_399 : decode cL_known 399 = .ok (.if_icmp .ne 228, 3) := by decide +kernel
theorem dL_known_402 : decode cL_known 402 = .ok (.aload_n 0, 1) := by decide +kernel
theorem dL_known_403 : decode cL_known 403 = .ok (.bipush 6, 2) := by decide +kernel
theorem dL_known_405 : decode cL_known 405 = .ok (.invokevirtual 13, 3) := by decide +kernel
theorem dL_known_408 : decode cL_known 408 = .ok (.ifCond .ne 219, 3) := by decide +kernel
theorem dL_known_411 : decode cL_known 411 = .ok (.aload_n 0, 1) := by decide +kernel
theorem dL_known_412 : decode cL_known 412 = .ok (.bipush 7, 2) := by decide +kernel
theorem dL_known_414 : decode cL_known 414 = .ok (.invokevirtual 13, 3) := by decide +kernel
theorem dL_known_417 : decode cL_known 417 = .ok (.bipush (-4), 2) := by decide +kernel
theorem dL_known_419 : decode cL_known 419 = .ok (.if_icmp .ne 208, 3) := by decide +kernel
theorem dL_known_422 : decode cL_known 422 = .ok (.aload_n 0, 1) := by decide +kernel
theorem dL_known_423 : decode cL_known 423 = .ok (.bipush 8, 2) := by decide +kernel
theorem dL_known_425 : decode cL_known 425 = .ok (.invokevirtual 13, 3) := by decide +kernel
theorem dL_known_428 : decode cL_known 428 = .ok (.bipush (-4), 2) := by decide +kernel
theorem dL_known_430 : decode cL_known 430 = .ok (.if_icmp .ne 197, 3) := by decide +kernel
theorem dL_known_433 : decode cL_known 433 = .ok (.aload_n 0, 1) := by decide +kernel
theorem dL_known_434 : decode cL_known 434 = .ok (.iconst 2, 1) := by decide +kernel
theorem dL_known_435 : decode cL_known 435 = .ok (.invokevirtual 44, 3) := by decide +kernel
theorem dL_known_438 : decode cL_known 438 = .ok (.iconst 1, 1) := by decide +kernel
theorem dL_known_439 : decode cL_known 439 = .ok (.if_icmp .ne 188, 3) := by decide +kernel
theorem dL_known_442 : decode cL_known 442 = .ok (.aload_n 0, 1) := by decide +kernel
theorem dL_known_443 : decode cL_known 443 = .ok (.iconst 0, 1) := by decide +kernel
theorem dL_known_444 : decode cL_known 444 = .ok (.invokevirtual 13, 3) := by decide +kernel
theorem dL_known_447 : decode cL_known 447 = .ok (.ifCond .ne 180, 3) := by decide +kernel
theorem dL_known_450 : decode cL_known 450 = .ok (.aload_n 0, 1) := by decide +kernel
theorem dL_known_451 : decode cL_known 451 = .ok (.bipush 6, 2) := by decide +kernel
theorem dL_known_453 : decode cL_known 453 = .ok (.invokevirtual 13, 3) := by decide +kernel
theorem dL_known_456 : decode cL_known 456 = .ok (.iconst 2, 1) := by decide +kernel
theorem dL_known_457 : decode cL_known 457 = .ok (.if_icmp .ne 170, 3) := by decide +kernel
theorem dL_known_460 : decode cL_known 460 = .ok (.aload_n 0, 1) := by decide +kernel
theorem dL_known_461 : decode cL_known 461 = .ok (.bipush 7, 2) := by decide +kernel
theorem dL_known_463 : decode cL_known 463 = .ok (.invokevirtual 13, 3) := by decide +kernel
theorem dL_known_466 : decode cL_known 466 = .ok (.iconst 2, 1) := by decide +kernel
theorem dL_known_467 : decode cL_known 467 = .ok (.if_icmp .ne 160, 3) := by decide +kernel
theorem dL_known_470 : decode cL_known 470 = .ok (.aload_n 0, 1) := by decide +kernel
theorem dL_known_471 : decode cL_known 471 = .ok (.bipush 8, 2) := by decide +kernel
theorem dL_known_473 : decode cL_known 473 = .ok (.invokevirtual 13, 3) := by decide +kernel
theorem dL_known_476 : decode cL_known 476 = .ok (.iconst 3, 1) := by decide +kernel
theorem dL_known_477 : decode cL_known 477 = .ok (.if_icmp .ne 150, 3) := by decide +kernel
theorem dL_known_480 : decode cL_known 480 = .ok (.aload_n 0, 1) := by decide +kernel
theorem dL_known_481 : decode cL_known 481 = .ok (.bipush 9, 2) := by decide +kernel
theorem dL_known_483 : decode cL_known 483 = .ok (.invokevirtual 13, 3) := by decide +kernel
theorem dL_known_486 : decode cL_known 486 = .ok (.iconst 1, 1) := by decide +kernel
theorem dL_known_487 : decode cL_known 487 = .ok (.if_icmp .ne 140, 3) := by decide +kernel
theorem dL_known_490 : decode cL_known 490 = .ok (.aload_n 0, 1) := by decide +kernel
theorem dL_known_491 : decode cL_known 491 = .ok (.bipush 25, 2) := by decide +kernel
theorem dL_known_493 : decode cL_known 493 = .ok (.invokevirtual 13, 3) := by decide +kernel
theorem dL_known_496 : decode cL_known 496 = .ok (.bipush 91, 2) := by decide +kernel
theorem dL_known_498 : decode cL_known 498 = .ok (.if_icmp .ne 129, 3) := by decide +kernel
theorem dL_known_501 : decode cL_known 501 = .ok (.aload_n 0, 1) := by decide +kernel
theorem dL_known_502 : decode cL_known 502 = .ok (.bipush 22, 2) := by decide +kernel
theorem dL_known_504 : decode cL_known 504 = .ok (.invokevirtual 13, 3) := by decide +kernel
theorem dL_known_507 : decode cL_known 507 = .ok (.bipush 40, 2) := by decide +kernel
theorem dL_known_509 : decode cL_known 509 = .ok (.if_icmp .ne 118, 3) := by decide +kernel
theorem dL_known_512 : decode cL_known 512 = .ok (.aload_n 0, 1) := by decide +kernel
theorem dL_known_513 : decode cL_known 513 = .ok (.iconst 4, 1) := by decide +kernel
theorem dL_known_514 : decode cL_known 514 = .ok (.invokevirtual 44, 3) := by decide +kernel
theorem dL_known_517 : decode cL_known 517 = .ok (.ifCond .ne 110, 3) := by decide +kernel
theorem dL_known_520 : decode cL_known 520 = .ok (.aload_n 0, 1) := by decide +kernel
theorem dL_known_521 : decode cL_known 521 = .ok (.iconst 1, 1) := by decide +kernel
theorem dL_known_522 : decode cL_known 522 = .ok (.invokevirtual 13, 3) := by decide +kernel
theorem dL_known_525 : decode cL_known 525 = .ok (.bipush 9, 2) := by decide +kernel
theorem dL_known_527 : decode cL_known 527 = .ok (.if_icmp .ne 100, 3) := by decide +kernel
theorem dL_known_530 : decode cL_known 530 = .ok (.aload_n 0, 1) := by decide +kernel
theorem dL_known_531 : decode cL_known 531 = .ok (.iconst 5, 1) := by decide +kernel
theorem dL_known_532 : decode cL_known 532 = .ok (.bipush 24, 2) := by decide +kernel
theorem dL_known_534 : decode cL_known 534 = .ok (.invokevirtual 33, 3) := by decide +kernel
theorem dL_known_537 : decode cL_known 537 = .ok (.iconst 1, 1) := by decide +kernel
theorem dL_known_538 : decode cL_known 538 = .ok (.if_icmp .ne 89, 3) := by decide +kernel
theorem dL_known_541 : decode cL_known 541 = .ok (.aload_n 0, 1) := by decide +kernel
theorem dL_known_542 : decode cL_known 542 = .ok (.iconst 2, 1) := by decide +kernel
theorem dL_known_543 : decode cL_known 543 = .ok (.iconst 4, 1) := by decide +kernel
theorem dL_known_544 : decode cL_known 544 = .ok (.bipush 100, 2) := by decide +kernel
theorem dL_known_546 : decode cL_known 546 = .ok (.invokevirtual 37, 3) := by decide +kernel
theorem dL_known_549 : decode cL_known 549 = .ok (.bipush 108, 2) := by decide +kernel
theorem dL_known_551 : decode cL_known 551 = .ok (.if_icmp .ne 76, 3) := by decide +kernel
theorem dL_known_554 : decode cL_known 554 = .ok (.aload_n 0, 1) := by decide +kernel
theorem dL_known_555 : decode cL_known 555 = .ok (.iconst 1, 1) := by decide +kernel
theorem dL_known_556 : decode cL_known 556 = .ok (.invokevirtual 44, 3) := by decide +kernel
theorem dL_known_559 : decode cL_known 559 = .ok (.iconst 1, 1) := by decide +kernel
theorem dL_known_560 : decode cL_known 560 = .ok (.if_icmp .ne 67, 3) := by decide +kernel
theorem dL_known_563 : decode cL_known 563 = .ok (.aload_n 0, 1) := by decide +kernel
theorem dL_known_564 : decode cL_known 564 = .ok (.bipush 6, 2) := by decide +kernel
theorem dL_known_566 : decode cL_known 566 = .ok (.invokevirtual 13, 3) := by decide +kernel
theorem dL_known_569 : decode cL_known 569 = .ok (.iconst 1, 1) := by decide +kernel
theorem dL_known_570 : decode cL_known 570 = .ok (.if_icmp .ne 57, 3) := by decide +kernel
theorem dL_known_573 : decode cL_known 573 = .ok (.aload_n 0, 1) := by decide +kernel
theorem dL_known_574 : decode cL_known 574 = .ok (.bipush 7, 2) := by decide +kernel
theorem dL_known_576 : decode cL_known 576 = .ok (.invokevirtual 13, 3) := by decide +kernel
theorem dL_known_579 : decode cL_known 579 = .ok (.ifCond .ne 48, 3) := by decide +kernel
theorem dL_known_582 : decode cL_known 582 = .ok (.aload_n 0, 1) := by decide +kernel
theorem dL_known_583 : decode cL_known 583 = .ok (.bipush 8, 2) := by decide +kernel
theorem dL_known_585 : decode cL_known 585 = .ok (.invokevirtual 13, 3) := by decide +kernel
theorem dL_known_588 : decode cL_known 588 = .ok (.bipush 9, 2) := by decide +kernel
theorem dL_known_590 : decode cL_known 590 = .ok (.if_icmp .ne 37, 3) := by decide +kernel
theorem dL_known_593 : decode cL_known 593 = .ok (.aload_n 0, 1) := by decide +kernel
theorem dL_known_594 : decode cL_known 594 = .ok (.bipush 25, 2) := by decide +kernel
theorem dL_known_596 : decode cL_known 596 = .ok (.invokevirtual 13, 3) := by decide +kernel
theorem dL_known_599 : decode cL_known 599 = .ok (.sipush 187, 3) := by decide +kernel
theorem dL_known_602 : decode cL_known 602 = .ok (.if_icmp .ne 25, 3) := by decide +kernel
theorem dL_known_605 : decode cL_known 605 = .ok (.aload_n 0, 1) := by decide +kernel
theorem dL_known_606 : decode cL_known 606 = .ok (.bipush 22, 2) := by decide +kernel
theorem dL_known_608 : decode cL_known 608 = .ok (.invokevirtual 13, 3) := by decide +kernel
theorem dL_known_611 : decode cL_known 611 = .ok (.bipush 50, 2) := by decide +kernel
theorem dL_known_613 : decode cL_known 613 = .ok (.if_icmp .ne 14, 3) := by decide +kernel
theorem dL_known_616 : decode cL_known 616 = .ok (.aload_n 0, 1) := by decide +kernel
theorem dL_known_617 : decode cL_known 617 = .ok (.bipush 24, 2) := by decide +kernel
theorem dL_known_619 : decode cL_known 619 = .ok (.invokevirtual 13, 3) := by decide +kernel
theorem dL_known_622 : decode cL_known 622 = .ok (.bipush 12, 2) := by decide +kernel
theorem dL_known_624 : decode cL_known 624 = .ok (.if_icmp .eq 5, 3) := by decide +kernel
theorem dL_known_627 : decode cL_known 627 = .ok (.iconst 0, 1) := by decide +kernel
theorem dL_known_628 : decode cL_known 628 = .ok (.ireturn, 1) := by decide +kernel
theorem dL_known_629 : decode cL_known 629 = .ok (.aload_n 0, 1) := by decide +kernel
theorem dL_known_630 : decode cL_known 630 = .ok (.iconst 1, 1) := by decide +kernel
theorem dL_known_631 : decode cL_known 631 = .ok (.sipush 5000, 3) := by decide +kernel
theorem dL_known_634 : decode cL_known 634 = .ok (.iconst 0, 1) := by decide +kernel
theorem dL_known_635 : decode cL_known 635 = .ok (.invokevirtual 37, 3) := by decide +kernel
theorem dL_known_638 : decode cL_known 638 = .ok (.sipush 5000, 3) := by decide +kernel
theorem dL_known_641 : decode cL_known 641 = .ok (.if_icmp .ne 248, 3) := by decide +kernel
theorem dL_known_644 : decode cL_known 644 = .ok (.aload_n 0, 1) := by decide +kernel
theorem dL_known_645 : decode cL_known 645 = .ok (.iconst 1, 1) := by decide +kernel
theorem dL_known_646 : decode cL_known 646 = .ok (.invokevirtual 44, 3) := by decide +kernel
theorem dL_known_649 : decode cL_known 649 = .ok (.iconst 1, 1) := by decide +kernel
theorem dL_known_650 : decode cL_known 650 = .ok (.if_icmp .ne 239, 3) := by decide +kernel
theorem dL_known_653 : decode cL_known 653 = .ok (.aload_n 0, 1) := by decide +kernel
theorem dL_known_654 : decode cL_known 654 = .ok (.iconst 0, 1) := by decide +kernel
theorem dL_known_655 : decode cL_known 655 = .ok (.iconst 0, 1) := by decide +kernel
theorem dL_known_656 : decode cL_known 656 = .ok (.invokevirtual 25, 3) := by decide +kernel
theorem dL_known_659 : decode cL_known 659 = .ok (.sipush 4499, 3) := by decide +kernel
theorem dL_known_662 : decode cL_known 662 = .ok (.if_icmp .ne 227, 3) := by decide +kernel
theorem dL_known_665 : decode cL_known 665 = .ok (.aload_n 0, 1) := by decide +kernel
theorem dL_known_666 : decode cL_known 666 = .ok (.bipush 22, 2) := by decide +kernel
theorem dL_known_668 : decode cL_known 668 = .ok (.invokevirtual 13, 3) := by decide +kernel
theorem dL_known_671 : decode cL_known 671 = .ok (.sipush 550, 3) := by decide +kernel
theorem dL_known_674 : decode cL_known 674 = .ok (.if_icmp .ne 215, 3) := by decide +kernel
theorem dL_known_677 : decode cL_known 677 = .ok (.aload_n 0, 1) := by decide +kernel
theorem dL_known_678 : decode cL_known 678 = .ok (.bipush 6, 2) := by decide +kernel
theorem dL_known_680 : decode cL_known 680 = .ok (.bipush 100, 2) := by decide +kernel
theorem dL_known_682 : decode cL_known 682 = .ok (.invokevirtual 33, 3) := by decide +kernel
theorem dL_known_685 : decode cL_known 685 = .ok (.sipush 3000, 3) := by decide +kernel
theorem dL_known_688 : decode cL_known 688 = .ok (.if_icmp .ne 201, 3) := by decide +kernel
theorem dL_known_691 : decode cL_known 691 = .ok (.aload_n 0, 1) := by decide +kernel
theorem dL_known_692 : decode cL_known 692 = .ok (.iconst 3, 1) := by decide +kernel
theorem dL_known_693 : decode cL_known 693 = .ok (.iconst 1, 1) := by decide +kernel
theorem dL_known_694 : decode cL_known 694 = .ok (.invokevirtual 68, 3) := by decide +kernel
theorem dL_known_697 : decode cL_known 697 = .ok (.iconst 1, 1) := by decide +kernel
theorem dL_known_698 : decode cL_known 698 = .ok (.if_icmp .ne 191, 3) := by decide +kernel
theorem dL_known_701 : decode cL_known 701 = .ok (.aload_n 0, 1) := by decide +kernel
theorem dL_known_702 : decode cL_known 702 = .ok (.iconst 1, 1) := by decide +kernel
theorem dL_known_703 : decode cL_known 703 = .ok (.invokevirtual 44, 3) := by decide +kernel
theorem dL_known_706 : decode cL_known 706 = .ok (.iconst 1, 1) := by decide +kernel
theorem dL_known_707 : decode cL_known 707 = .ok (.if_icmp .ne 182, 3) := by decide +kernel
theorem dL_known_710 : decode cL_known 710 = .ok (.aload_n 0, 1) := by decide +kernel
theorem dL_known_711 : decode cL_known 711 = .ok (.iconst 0, 1) := by decide +kernel
theorem dL_known_712 : decode cL_known 712 = .ok (.iconst 0, 1) := by decide +kernel
theorem dL_known_713 : decode cL_known 713 = .ok (.invokevirtual 25, 3) := by decide +kernel
theorem dL_known_716 : decode cL_known 716 = .ok (.sipush 4094, 3) := by decide +kernel
theorem dL_known_719 : decode cL_known 719 = .ok (.if_icmp .ne 170, 3) := by decide +kernel
theorem dL_known_722 : decode cL_known 722 = .ok (.aload_n 0, 1) := by decide +kernel
theorem dL_known_723 : decode cL_known 723 = .ok (.bipush 23, 2) := by decide +kernel
theorem dL_known_725 : decode cL_known 725 = .ok (.invokevirtual 13, 3) := by decide +kernel
theorem dL_known_728 : decode cL_known 728 = .ok (.sipush 954, 3) := by decide +kernel
theorem dL_known_731 : decode cL_known 731 = .ok (.if_icmp .ne 158, 3) := by decide +kernel
theorem dL_known_734 : decode cL_known 734 = .ok (.aload_n 0, 1) := by decide +kernel
theorem dL_known_735 : decode cL_known 735 = .ok (.bipush 22, 2) := by decide +kernel
theorem dL_known_737 : decode cL_known 737 = .ok (.invokevirtual 13, 3) := by decide +kernel
theorem dL_known_740 : decode cL_known 740 = .ok (.ifCond .ne 149, 3) := by decide +kernel
theorem dL_known_743 : decode cL_known 743 = .ok (.aload_n 0, 1) := by decide +kernel
theorem dL_known_744 : decode cL_known 744 = .ok (.bipush 10, 2) := by decide +kernel
theorem dL_known_746 : decode cL_known 746 = .ok (.invokevirtual 13, 3) := by decide +kernel
theorem dL_known_749 : decode cL_known 749 = .ok (.iconst 1, 1) := by decide +kernel
theorem dL_known_750 : decode cL_known 750 = .ok (.if_icmp .ne 139, 3) := by decide +kernel
theorem dL_known_753 : decode cL_known 753 = .ok (.aload_n 0, 1) := by decide +kernel
theorem dL_known_754 : decode cL_known 754 = .ok (.iconst 0, 1) := by decide +kernel
theorem dL_known_755 : decode cL_known 755 = .ok (.sipush 907, 3) := by decide +kernel
theorem dL_known_758 : decode cL_known 758 = .ok (.invokevirtual 47, 3) := by decide +kernel
theorem dL_known_761 : decode cL_known 761 = .ok (.bipush (-3), 2) := by decide +kernel
theorem dL_known_763 : decode cL_known 763 = .ok (.if_icmp .ne 126, 3) := by decide +kernel
theorem dL_known_766 : decode cL_known 766 = .ok (.aload_n 0, 1) := by decide +kernel
theorem dL_known_767 : decode cL_known 767 = .ok (.iconst 0, 1) := by decide +kernel
theorem dL_known_768 : decode cL_known 768 = .ok (.sipush 906, 3) := by decide +kernel
theorem dL_known_771 : decode cL_known 771 = .ok (.invokevirtual 47, 3) := by decide +kernel
theorem dL_known_774 : decode cL_known 774 = .ok (.sipush 5000, 3) := by decide +kernel
theorem dL_known_777 : decode cL_known 777 = .ok (.if_icmp .ne 112, 3) := by decide +kernel
theorem dL_known_780 : decode cL_known 780 = .ok (.aload_n 0, 1) := by decide +kernel
theorem dL_known_781 : decode cL_known 781 = .ok (.iconst 0, 1) := by decide +kernel
theorem dL_known_782 : decode cL_known 782 = .ok (.sipush 5000, 3) := by decide +kernel
theorem dL_known_785 : decode cL_known 785 = .ok (.invokevirtual 50, 3) := by decide +kernel
theorem dL_known_788 : decode cL_known 788 = .ok (.sipush 5000, 3) := by decide +kernel
theorem dL_known_791 : decode cL_known 791 = .ok (.if_icmp .ne 98, 3) := by decide +kernel
theorem dL_known_794 : decode cL_known 794 = .ok (.aload_n 0, 1) := by decide +kernel
theorem dL_known_795 : decode cL_known 795 = .ok (.iconst 0, 1) := by decide +kernel
theorem dL_known_796 : decode cL_known 796 = .ok (.iconst 1, 1) := by decide +kernel
theorem dL_known_797 : decode cL_known 797 = .ok (.invokevirtual 50, 3) := by decide +kernel
theorem dL_known_800 : decode cL_known 800 = .ok (.ifCond .ne 89, 3) := by decide +kernel
theorem dL_known_803 : decode cL_known 803 = .ok (.aload_n 0, 1) := by decide +kernel
theorem dL_known_804 : decode cL_known 804 = .ok (.invokevirtual 77, 3) := by decide +kernel
theorem dL_known_807 : decode cL_known 807 = .ok (.bipush (-2), 2) := by decide +kernel
theorem dL_known_809 : decode cL_known 809 = .ok (.if_icmp .ne 80, 3) := by decide +kernel
theorem dL_known_812 : decode cL_known 812 = .ok (.aload_n 0, 1) := by decide +kernel
theorem dL_known_813 : decode cL_known 813 = .ok (.bipush 7, 2) := by decide +kernel
theorem dL_known_815 : decode cL_known 815 = .ok (.invokevirtual 41, 3) := by decide +kernel
theorem dL_known_818 : decode cL_known 818 = .ok (.iconst 2, 1) := by decide +kernel
theorem dL_known_819 : decode cL_known 819 = .ok (.if_icmp .ne 70, 3) := by decide +kernel
theorem dL_known_822 : decode cL_known 822 = .ok (.aload_n 0, 1) := by decide +kernel
theorem dL_known_823 : decode cL_known 823 = .ok (.invokevirtual 77, 3) := by decide +kernel
theorem dL_known_826 : decode cL_known 826 = .ok (.bipush 7, 2) := by decide +kernel
theorem dL_known_828 : decode cL_known 828 = .ok (.if_icmp .ne 61, 3) := by decide +kernel
theorem dL_known_831 : decode cL_known 831 = .ok (.aload_n 0, 1) := by decide +kernel
theorem dL_known_832 : decode cL_known 832 = .ok (.iconst 2, 1) := by decide +kernel
theorem dL_known_833 : decode cL_known 833 = .ok (.sipush 5000, 3) := by decide +kernel
theorem dL_known_836 : decode cL_known 836 = .ok (.iconst 0, 1) := by decide +kernel
theorem dL_known_837 : decode cL_known 837 = .ok (.invokevirtual 37, 3) := by decide +kernel
theorem dL_known_840 : decode cL_known 840 = .ok (.sipush 10000, 3) := by decide +kernel
theorem dL_known_843 : decode cL_known 843 = .ok (.if_icmp .ne 46, 3) := by decide +kernel
theorem dL_known_846 : decode cL_known 846 = .ok (.aload_n 0, 1) := by decide +kernel
theorem dL_known_847 : decode cL_known 847 = .ok (.iconst 1, 1) := by decide +kernel
theorem dL_known_848 : decode cL_known 848 = .ok (.invokevirtual 44, 3) := by decide +kernel
theorem dL_known_851 : decode cL_known 851 = .ok (.iconst 1, 1) := by decide +kernel
theorem dL_known_852 : decode cL_known 852 = .ok (.if_icmp .ne 37, 3) := by decide +kernel
theorem dL_known_855 : decode cL_known 855 = .ok (.aload_n 0, 1) := by decide +kernel
theorem dL_known_856 : decode cL_known 856 = .ok (.iconst 0, 1) := by decide +kernel
theorem dL_known_857 : decode cL_known 857 = .ok (.iconst 0, 1) := by decide +kernel
theorem dL_known_858 : decode cL_known 858 = .ok (.invokevirtual 25, 3) := by decide +kernel
theorem dL_known_861 : decode cL_known 861 = .ok (.sipush 4499, 3) := by decide +kernel
theorem dL_known_864 : decode cL_known 864 = .ok (.if_icmp .ne 25, 3) := by decide +kernel
theorem dL_known_867 : decode cL_known 867 = .ok (.aload_n 0, 1) := by decide +kernel
theorem dL_known_868 : decode cL_known 868 = .ok (.iconst 1, 1) := by decide +kernel
theorem dL_known_869 : decode cL_known 869 = .ok (.iconst 0, 1) := by decide +kernel
theorem dL_known_870 : decode cL_known 870 = .ok (.invokevirtual 25, 3) := by decide +kernel
theorem dL_known_873 : decode cL_known 873 = .ok (.sipush 4999, 3) := by decide +kernel
theorem dL_known_876 : decode cL_known 876 = .ok (.if_icmp .ne 13, 3) := by decide +kernel
theorem dL_known_879 : decode cL_known 879 = .ok (.aload_n 0, 1) := by decide +kernel
theorem dL_known_880 : decode cL_known 880 = .ok (.bipush 10, 2) := by decide +kernel
theorem dL_known_882 : decode cL_known 882 = .ok (.invokevirtual 13, 3) := by decide +kernel
theorem dL_known_885 : decode cL_known 885 = .ok (.iconst 2, 1) := by decide +kernel
theorem dL_known_886 : decode cL_known 886 = .ok (.if_icmp .eq 5, 3) := by decide +kernel
theorem dL_known_889 : decode cL_known 889 = .ok (.iconst 0, 1) := by decide +kernel
theorem dL_known_890 : decode cL_known 890 = .ok (.ireturn, 1) := by decide +kernel
theorem dL_known_891 : decode cL_known 891 = .ok (.aload_n 0, 1) := by decide +kernel
theorem dL_known_892 : decode cL_known 892 = .ok (.bipush 20, 2) := by decide +kernel
theorem dL_known_894 : decode cL_known 894 = .ok (.invokevirtual 13, 3) := by decide +kernel
theorem dL_known_897 : decode cL_known 897 = .ok (.aload_n 0, 1) := by decide +kernel
theorem dL_known_898 : decode cL_known 898 = .ok (.bipush 21, 2) := by decide +kernel
theorem dL_known_900 : decode cL_known 900 = .ok (.invokevirtual 13, 3) := by decide +kernel
theorem dL_known_903 : decode cL_known 903 = .ok (.aload_n 0, 1) := by decide +kernel
theorem dL_known_904 : decode cL_known 904 = .ok (.bipush 22, 2) := by decide +kernel
theorem dL_known_906 : decode cL_known 906 = .ok (.invokevirtual 13, 3) := by decide +kernel
theorem dL_known_909 : decode cL_known 909 = .ok (.iadd, 1) := by decide +kernel
theorem dL_known_910 : decode cL_known 910 = .ok (.aload_n 0, 1) := by decide +kernel
theorem dL_known_911 : decode cL_known 911 = .ok (.bipush 23, 2) := by decide +kernel
theorem dL_known_913 : decode cL_known 913 = .ok (.invokevirtual 13, 3) := by decide +kernel
theorem dL_known_916 : decode cL_known 916 = .ok (.iadd, 1) := by decide +kernel
theorem dL_known_917 : decode cL_known 917 = .ok (.aload_n 0, 1) := by decide +kernel
theorem dL_known_918 : decode cL_known 918 = .ok (.bipush 24, 2) := by decide +kernel
theorem dL_known_920 : decode cL_known 920 = .ok (.invokevirtual 13, 3) := by decide +kernel
theorem dL_known_923 : decode cL_known 923 = .ok (.iadd, 1) := by decide +kernel
theorem dL_known_924 : decode cL_known 924 = .ok (.aload_n 0, 1) := by decide +kernel
theorem dL_known_925 : decode cL_known 925 = .ok (.bipush 25, 2) := by decide +kernel
theorem dL_known_927 : decode cL_known 927 = .ok (.invokevirtual 13, 3) := by decide +kernel
theorem dL_known_930 : decode cL_known 930 = .ok (.iadd, 1) := by decide +kernel
theorem dL_known_931 : decode cL_known 931 = .ok (.aload_n 0, 1) := by decide +kernel
theorem dL_known_932 : decode cL_known 932 = .ok (.bipush 26, 2) := by decide +kernel
theorem dL_known_934 : decode cL_known 934 = .ok (.invokevirtual 13, 3) := by decide +kernel
theorem dL_known_937 : decode cL_known 937 = .ok (.iadd, 1) := by decide +kernel
theorem dL_known_938 : decode cL_known 938 = .ok (.if_icmp .ne 65, 3) := by decide +kernel
theorem dL_known_941 : decode cL_known 941 = .ok (.aload_n 0, 1) := by decide +kernel
theorem dL_known_942 : decode cL_known 942 = .ok (.iconst 0, 1) := by decide +kernel
theorem dL_known_943 : decode cL_known 943 = .ok (.bipush 100, 2) := by decide +kernel
theorem dL_known_945 : decode cL_known 945 = .ok (.invokevirtual 33, 3) := by decide +kernel
theorem dL_known_948 : decode cL_known 948 = .ok (.bipush 20, 2) := by decide +kernel
theorem dL_known_950 : decode cL_known 950 = .ok (.if_icmp .ne 53, 3) := by decide +kernel
theorem dL_known_953 : decode cL_known 953 = .ok (.aload_n 0, 1) := by decide +kernel
theorem dL_known_954 : decode cL_known 954 = .ok (.bipush 6, 2) := by decide +kernel
theorem dL_known_956 : decode cL_known 956 = .ok (.ldc 159, 2) := by decide +kernel
theorem dL_known_958 : decode cL_known 958 = .ok (.invokevirtual 33, 3) := by decide +kernel
theorem dL_known_961 : decode cL_known 961 = .ok (.bipush 100, 2) := by decide +kernel
theorem dL_known_963 : decode cL_known 963 = .ok (.if_icmp .ne 40, 3) := by decide +kernel
theorem dL_known_966 : decode cL_known 966 = .ok (.aload_n 0, 1) := by decide +kernel
theorem dL_known_967 : decode cL_known 967 = .ok (.iconst 1, 1) := by decide +kernel
theorem dL_known_968 : decode cL_known 968 = .ok (.invokevirtual 44, 3) := by decide +kernel
theorem dL_known_971 : decode cL_known 971 = .ok (.iconst 1, 1) := by decide +kernel
theorem dL_known_972 : decode cL_known 972 = .ok (.if_icmp .ne 31, 3) := by decide +kernel
theorem dL_known_975 : decode cL_known 975 = .ok (.aload_n 0, 1) := by decide +kernel
theorem dL_known_976 : decode cL_known 976 = .ok (.iconst 1, 1) := by decide +kernel
theorem dL_known_977 : decode cL_known 977 = .ok (.iconst 0, 1) := by decide +kernel
theorem dL_known_978 : decode cL_known 978 = .ok (.invokevirtual 25, 3) := by decide +kernel
theorem dL_known_981 : decode cL_known 981 = .ok (.sipush 4523, 3) := by decide +kernel
theorem dL_known_984 : decode cL_known 984 = .ok (.if_icmp .ne 19, 3) := by decide +kernel
theorem dL_known_987 : decode cL_known 987 = .ok (.aload_n 0, 1) := by decide +kernel
theorem dL_known_988 : decode cL_known 988 = .ok (.iconst 0, 1) := by decide +kernel
theorem dL_known_989 : decode cL_known 989 = .ok (.iconst 0, 1) := by decide +kernel
theorem dL_known_990 : decode cL_known 990 = .ok (.invokevirtual 25, 3) := by decide +kernel
theorem dL_known_993 : decode cL_known 993 = .ok (.sipush 2474, 3) := by decide +kernel
theorem dL_known_996 : decode cL_known 996 = .ok (.if_icmp .ne 7, 3) := by decide +kernel
theorem dL_known_999 : decode cL_known 999 = .ok (.iconst 1, 1) := by decide +kernel
theorem dL_known_1000 : decode cL_known 1000 = .ok (.goto 4, 3) := by decide +kernel
theorem dL_known_1003 : decode cL_known 1003 = .ok (.iconst 0, 1) := by decide +kernel
theorem dL_known_1004 : decode cL_known 1004 = .ok (.ireturn, 1) := by decide +kernel
end
section
set_option maxRecDepth 20000 in
theorem ggL_law_X4_init : GoodIn wsL_law wsX4_init := goodIn_r _ [38, 39, 40, 41, 42, 43, 44, 45, 46, 47, 48, 49, 50, 51, 52, 53, 54, 55, 56, 57, 58, 59, 60, 61, 62, 63, 64, 65, 66, 67, 68, 69, 70, 71, 72, 73, 74, 75, 76, 77, 78, 79, 420, 421, 422, 423, 424, 425, 426, 427, 428, 429, 416, 417, 418, 419, 430, 431, 432, 433, 434, 435, 436, 437] (by decide +kernel) (by decide +kernel)
set_option maxRecDepth 20000 in
theorem gL_law_X4_init : GoodIn wsL_law (wsX4_init) := ggL_law_X4_init
set_option maxRecDepth 20000 in
theorem ggL_law_L_take : GoodIn wsL_law wsL_take := goodIn_r _ [410, 411] (by decide +kernel) (by decide +kernel)
set_option maxRecDepth 20000 in
theorem gL_law_L_take : GoodIn wsL_law (va_wsS RL 167 yL_take wsL_take) := goodIn_app (goodIn_of _ (by decide +kernel)) ggL_law_L_take
set_option maxRecDepth 20000 in
theorem ggL_law_L_part : GoodIn wsL_law wsL_part := goodIn_r _ [414, 415] (by decide +kernel) (by decide +kernel)
set_option maxRecDepth 20000 in
theorem gL_law_L_part : GoodIn wsL_law (va_wsS RL 171 yL_part wsL_part) := goodIn_app (goodIn_of _ (by decide +kernel)) ggL_law_L_part
set_option maxRecDepth 20000 in
theorem ggL_law_X4_dip : GoodIn wsL_law wsX4_dip := goodIn_r _ [293, 50, 45, 182, 96, 97, 2, 98, 294, 129, 130, 138, 139, 140, 49, 141, 142, 72, 143, 144, 145, 146, 147, 148, 149, 44, 150, 60, 63, 64, 65, 66, 61, 62, 151, 152, 153, 154, 155, 156, 157, 158, 159, 160, 161, 162, 163, 164, 165, 166, 167, 168, 169, 170, 171, 172, 173, 174, 175, 176, 177, 416, 417, 418, 419, 420, 421, 422, 423, 424, 425, 426, 427, 428, 429, 430, 431] (by decide +kernel) (by decide +kernel)
set_option maxRecDepth 20000 in
theorem gL_law_X4_dip : GoodIn wsL_law (wsV RL 37 RX4 yX4_dip wsX4_dip) := goodIn_app (goodIn_of _ (by decide +kernel)) ggL_law_X4_dip
set_option maxRecDepth 20000 in
theorem ggL_law_X4_add : GoodIn wsL_law wsX4_add := goodIn_r _ [298, 45, 137, 50, 294, 129, 2, 130, 96, 97, 98, 138, 139, 140, 49, 141, 142, 72, 143, 144, 145, 146, 147, 148, 149, 44, 150, 60, 63, 64, 65, 66, 61, 62, 151, 152, 153, 154, 155, 156, 157, 170, 171, 172, 173, 174, 175, 176, 177, 416, 417, 418, 419, 420, 421, 422, 423, 424, 425, 426, 427, 428, 429, 430, 431] (by decide +kernel) (by decide +kernel)
set_option maxRecDepth 20000 in
theorem gL_law_X4_add : GoodIn wsL_law (wsV RL 41 RX4 yX4_add wsX4_add) := goodIn_app (goodIn_of _ (by decide +kernel)) ggL_law_X4_add
set_option maxRecDepth 20000 in
theorem ggL_law_X4_cut : GoodIn wsL_law wsX4_cut := goodIn_r _ [399, 45, 137, 50, 138, 139, 140, 49, 141, 142, 72, 143, 144, 145, 146, 147, 148, 149, 44, 150, 60, 63, 64, 65, 66, 61, 62, 151, 152, 153, 154, 155, 156, 157, 358, 321, 322, 323, 317, 318, 247, 319, 166, 167, 168, 169, 416, 417, 418, 419, 420, 421, 422, 423, 424, 425, 426, 427, 428, 429, 430, 431] (by decide +kernel) (by decide +kernel)
set_option maxRecDepth 20000 in
theorem gL_law_X4_cut : GoodIn wsL_law (wsV RL 77 RX4 yX4_cut wsX4_cut) := goodIn_app (goodIn_of _ (by decide +kernel)) ggL_law_X4_cut
set_option maxRecDepth 20000 in
theorem ggL_law_X4_pour : GoodIn wsL_law wsX4_pour := goodIn_r _ [352, 45, 257, 50, 258, 259, 260, 44, 261, 151, 96, 97, 2, 98, 294, 129, 130, 138, 139, 140, 49, 141, 142, 72, 143, 144, 145, 146, 147, 148, 149, 150, 60, 63, 64, 65, 66, 61, 62, 152, 153, 154, 155, 156, 157, 353, 175, 176, 177, 416, 417, 418, 419, 420, 421, 422, 423, 424, 425, 426, 427, 428, 429, 430, 431] (by decide +kernel) (by decide +kernel)
set_option maxRecDepth 20000 in
theorem gL_law_X4_pour : GoodIn wsL_law (wsV RL 47 RX4 yX4_pour wsX4_pour) := goodIn_app (goodIn_of _ (by decide +kernel)) ggL_law_X4_pour
set_option maxRecDepth 20000 in
theorem ggL_law_X4_thin : GoodIn wsL_law wsX4_thin := goodIn_r _ [357, 45, 50, 258, 259, 260, 44, 261, 151, 96, 97, 2, 98, 138, 139, 140, 49, 141, 142, 72, 143, 144, 145, 146, 147, 148, 149, 150, 60, 63, 64, 65, 66, 61, 62, 152, 153, 154, 155, 156, 157, 358, 321, 322, 323, 317, 318, 247, 319, 166, 167, 168, 169, 416, 417, 418, 419, 420, 421, 422, 423, 424, 425, 426, 427, 428, 429, 430, 431] (by decide +kernel) (by decide +kernel)
set_option maxRecDepth 20000 in
theorem gL_law_X4_thin : GoodIn wsL_law (wsV RL 50 RX4 yX4_thin wsX4_thin) := goodIn_app (goodIn_of _ (by decide +kernel)) ggL_law_X4_thin
set_option maxRecDepth 20000 in
theorem ggL_law_X4_set : GoodIn wsL_law wsX4_set := goodIn_r _ [287, 288, 289, 50, 45, 183, 96, 97, 2, 98, 138, 139, 140, 49, 141, 142, 72, 143, 144, 145, 146, 147, 148, 149, 44, 150, 60, 63, 64, 65, 66, 61, 62, 151, 152, 153, 154, 155, 156, 157, 416, 417, 418, 419, 420, 421, 422, 423, 424, 425, 426, 427, 428, 429, 430, 431] (by decide +kernel) (by decide +kernel)
set_option maxRecDepth 20000 in
theorem gL_law_X4_set : GoodIn wsL_law (wsV RL 33 RX4 yX4_set wsX4_set) := goodIn_app (goodIn_of _ (by decide +kernel)) ggL_law_X4_set
set_option maxRecDepth 20000 in
theorem ggL_law_X4_go : GoodIn wsL_law wsX4_go := goodIn_r _ [302, 45, 184, 303, 50, 137, 96, 97, 2, 98, 138, 139, 140, 49, 141, 142, 72, 143, 144, 145, 146, 147, 148, 149, 44, 150, 60, 63, 64, 65, 66, 61, 62, 151, 152, 153, 154, 155, 156, 157, 304, 305, 306, 307, 308, 309, 310, 311, 312, 313, 314, 315, 316, 317, 318, 247, 319, 320, 321, 322, 323, 166, 167, 168, 169, 324, 325, 326, 327, 195, 196, 197, 198, 328, 329, 330, 331, 332, 333, 334, 335, 336, 337, 338, 339, 340, 341, 342, 343, 344, 192, 193, 194, 345, 346, 347, 348, 162, 163, 164, 165, 416, 417, 418, 419, 420, 421, 422, 423, 424, 425, 426, 427, 428, 429, 430, 431] (by decide +kernel) (by decide +kernel)
set_option maxRecDepth 20000 in
theorem gL_law_X4_go : GoodIn wsL_law (wsV RL 44 RX4 yX4_go wsX4_go) := goodIn_app (goodIn_of _ (by decide +kernel)) ggL_law_X4_go
set_option maxRecDepth 20000 in
theorem ggL_law_X4_count : GoodIn wsL_law wsX4_count := goodIn_r _ [181, 45, 182, 183, 137, 184, 185, 186, 187, 188, 189, 50, 190, 54, 87, 96, 97, 2, 98, 191, 192, 193, 44, 194, 151, 195, 196, 197, 198, 60, 61, 199, 200, 201, 202, 203, 204, 205, 206, 207, 208, 209, 210, 211, 212, 213, 214, 215, 216, 217, 218, 219, 220, 221, 222, 223, 224, 225, 226, 227, 228, 229, 230, 231, 232, 233, 234, 235, 236, 237, 238, 239, 240, 241, 242, 243, 244, 245, 246, 247, 248, 249, 250, 251, 252, 416, 417, 418, 419, 420, 421, 422, 423, 424, 425, 426, 427, 428, 429, 430, 431, 432, 433, 434, 435, 436, 437] (by decide +kernel) (by decide +kernel)
set_option maxRecDepth 20000 in
theorem gL_law_X4_count : GoodIn wsL_law (wsV RL 13 RX4 yX4_count wsX4_count) := goodIn_app (goodIn_of _ (by decide +kernel)) ggL_law_X4_count
set_option maxRecDepth 20000 in
theorem ggL_law_X4_undo : GoodIn wsL_law wsX4_undo := goodIn_r _ [403, 50, 190, 45, 404, 405, 406, 49, 407, 142, 72, 147, 148, 149, 44, 150, 60, 63, 64, 65, 66, 61, 62, 151, 152, 153, 154, 155, 156, 157, 416, 417, 418, 419, 430, 431, 420, 421, 422, 423, 424, 425, 426, 427, 428, 429] (by decide +kernel) (by decide +kernel)
set_option maxRecDepth 20000 in
theorem gL_law_X4_undo : GoodIn wsL_law (wsV RL 156 RX4 yX4_undo wsX4_undo) := goodIn_app (goodIn_of _ (by decide +kernel)) ggL_law_X4_undo
theorem dL_law_0 : decode cL_law 0 = .ok (.invokestatic 160, 3) := by decide +kernel
theorem dL_law_3 : decode cL_law 3 = .ok (.ifCond .eq 9, 3) := by decide +kernel
theorem dL_law_6 : decode cL_law 6 = .ok (.invokestatic 164, 3) := by decide +kernel
theorem dL_law_9 : decode cL_law 9 = .ok (.ifCond .ne 5, 3) := by decide +kernel
theorem dL_law_12 : decode cL_law 12 = .ok (.iconst 0, 1) := by decide +kernel
theorem dL_law_13 : decode cL_law 13 = .ok (.ireturn, 1) := by decide +kernel
theorem dL_law_14 : decode cL_law 14 = .ok (.new 14, 3) := by decide +kernel
theorem dL_law_17 : decode cL_law 17 = .ok (.dup, 1) := by decide +kernel
theorem dL_law_18 : decode cL_law 18 = .ok (.invokespecial 90, 3) := by decide +kernel
theorem dL_law_21 : decode cL_law 21 = .ok (.astore_n 1, 1) := by decide +kernel
theorem dL_law_22 : decode cL_law 22 = .ok (.aload_n 1, 1) := by decide +kernel
theorem dL_law_23 : decode cL_law 23 = .ok (.bipush 24, 2) := by decide +kernel
theorem dL_law_25 : decode cL_law 25 = .ok (.aload_n 0, 1) := by decide +kernel
theorem dL_law_26 : decode cL_law 26 = .ok (.iconst 0, 1) := by decide +kernel
theorem dL_law_27 : decode cL_law 27 = .ok (.invokestatic 167, 3) := by decide +kernel
theorem dL_law_30 : decode cL_law 30 = .ok (.sipush 500, 3) := by decide +kernel
theorem dL_law_33 : decode cL_law 33 = .ok (.invokestatic 171, 3) := by decide +kernel
theorem dL_law_36 : decode cL_law 36 = .ok (.aload_n 0, 1) := by decide +kernel
theorem dL_law_37 : decode cL_law 37 = .ok (.iconst 1, 1) := by decide +kernel
theorem dL_law_38 : decode cL_law 38 = .ok (.invokestatic 167, 3) := by decide +kernel
theorem dL_law_41 : decode cL_law 41 = .ok (.sipush 196, 3) := by decide +kernel
theorem dL_law_44 : decode cL_law 44 = .ok (.invokestatic 171, 3) := by decide +kernel
theorem dL_law_47 : decode cL_law 47 = .ok (.invokevirtual 37, 3) := by decide +kernel
theorem dL_law_50 : decode cL_law 50 = .ok (.ifCond .lt 58, 3) := by decide +kernel
theorem dL_law_53 : decode cL_law 53 = .ok (.aload_n 1, 1) := by decide +kernel
theorem dL_law_54 : decode cL_law 54 = .ok (.iconst 1, 1) := by decide +kernel
theorem dL_law_55 : decode cL_law 55 = .ok (.invokevirtual 41, 3) := by decide +kernel
theorem dL_law_58 : decode cL_law 58 = .ok (.bipush (-3), 2) := by decide +kernel
theorem dL_law_60 : decode cL_law 60 = .ok (.if_icmp .ne 48, 3) := by decide +kernel
theorem dL_law_63 : decode cL_law 63 = .ok (.aload_n 1, 1) := by decide +kernel
theorem dL_law_64 : decode cL_law 64 = .ok (.sipush 5001, 3) := by decide +kernel
theorem dL_law_67 : decode cL_law 67 = .ok (.invokevirtual 41, 3) := by decide +kernel
theorem dL_law_70 : decode cL_law 70 = .ok (.iconst (-1), 1) := by decide +kernel
theorem dL_law_71 : decode cL_law 71 = .ok (.if_icmp .ne 37, 3) := by decide +kernel
theorem dL_law_74 : decode cL_law 74 = .ok (.aload_n 1, 1) := by decide +kernel
theorem dL_law_75 : decode cL_law 75 = .ok (.invokestatic 152, 3) := by decide +kernel
theorem dL_law_78 : decode cL_law 78 = .ok (.ifCond .eq 30, 3) := by decide +kernel
theorem dL_law_81 : decode cL_law 81 = .ok (.aload_n 1, 1) := by decide +kernel
theorem dL_law_82 : decode cL_law 82 = .ok (.invokevirtual 77, 3) := by decide +kernel
theorem dL_law_85 : decode cL_law 85 = .ok (.ifCond .lt 23, 3) := by decide +kernel
theorem dL_law_88 : decode cL_law 88 = .ok (.aload_n 1, 1) := by decide +kernel
theorem dL_law_89 : decode cL_law 89 = .ok (.aload_n 0, 1) := by decide +kernel
theorem dL_law_90 : decode cL_law 90 = .ok (.iconst 2, 1) := by decide +kernel
theorem dL_law_91 : decode cL_law 91 = .ok (.invokestatic 167, 3) := by decide +kernel
theorem dL_law_94 : decode cL_law 94 = .ok (.sipush 5001, 3) := by decide +kernel
theorem dL_law_97 : decode cL_law 97 = .ok (.invokestatic 171, 3) := by decide +kernel
theorem dL_law_100 : decode cL_law 100 = .ok (.invokevirtual 41, 3) := by decide +kernel
theorem dL_law_103 : decode cL_law 103 = .ok (.bipush 24, 2) := by decide +kernel
theorem dL_law_105 : decode cL_law 105 = .ok (.if_icmp .eq 5, 3) := by decide +kernel
theorem dL_law_108 : decode cL_law 108 = .ok (.iconst 0, 1) := by decide +kernel
theorem dL_law_109 : decode cL_law 109 = .ok (.ireturn, 1) := by decide +kernel
theorem dL_law_110 : decode cL_law 110 = .ok (.bipush 32, 2) := by decide +kernel
theorem dL_law_112 : decode cL_law 112 = .ok (.newarray .long, 2) := by decide +kernel
theorem dL_law_114 : decode cL_law 114 = .ok (.astore_n 2, 1) := by decide +kernel
theorem dL_law_115 : decode cL_law 115 = .ok (.iconst 0, 1) := by decide +kernel
theorem dL_law_116 : decode cL_law 116 = .ok (.istore_n 3, 1) := by decide +kernel
theorem dL_law_117 : decode cL_law 117 = .ok (.iconst 0, 1) := by decide +kernel
theorem dL_law_118 : decode cL_law 118 = .ok (.istore 4, 2) := by decide +kernel
theorem dL_law_120 : decode cL_law 120 = .ok (.iload 4, 2) := by decide +kernel
theorem dL_law_122 : decode cL_law 122 = .ok (.bipush 24, 2) := by decide +kernel
theorem dL_law_124 : decode cL_law 124 = .ok (.if_icmp .ge 322, 3) := by decide +kernel
theorem dL_law_127 : decode cL_law 127 = .ok (.aload_n 0, 1) := by decide +kernel
theorem dL_law_128 : decode cL_law 128 = .ok (.bipush 10, 2) := by decide +kernel
theorem dL_law_130 : decode cL_law 130 = .ok (.iload 4, 2) := by decide +kernel
theorem dL_law_132 : decode cL_law 132 = .ok (.iadd, 1) := by decide +kernel
theorem dL_law_133 : decode cL_law 133 = .ok (.invokestatic 167, 3) := by decide +kernel
theorem dL_law_136 : decode cL_law 136 = .ok (.istore 5, 2) := by decide +kernel
theorem dL_law_138 : decode cL_law 138 = .ok (.iload 5, 2) := by decide +kernel
theorem dL_law_140 : decode cL_law 140 = .ok (.iconst 3, 1) := by decide +kernel
theorem dL_law_141 : decode cL_law 141 = .ok (.ishr, 1) := by decide +kernel
theorem dL_law_142 : decode cL_law 142 = .ok (.bipush 24, 2) := by decide +kernel
theorem dL_law_144 : decode cL_law 144 = .ok (.invokestatic 171, 3) := by decide +kernel
theorem dL_law_147 : decode cL_law 147 = .ok (.istore 6, 2) := by decide +kernel
theorem dL_law_149 : decode cL_law 149 = .ok (.iload 5, 2) := by decide +kernel
theorem dL_law_151 : decode cL_law 151 = .ok (.bipush 9, 2) := by decide +kernel
theorem dL_law_153 : decode cL_law 153 = .ok (.invokestatic 171, 3) := by decide +kernel
theorem dL_law_156 : decode cL_law 156 = .ok (.istore 7, 2) := by decide +kernel
theorem dL_law_158 : decode cL_law 158 = .ok (.aload_n 2, 1) := by decide +kernel
theorem dL_law_159 : decode cL_law 159 = .ok (.iload_n 3, 1) := by decide +kernel
theorem dL_law_160 : decode cL_law 160 = .ok (.aload_n 1, 1) := by decide +kernel
theorem dL_law_161 : decode cL_law 161 = .ok (.invokestatic 29, 3) := by decide +kernel
theorem dL_law_164 : decode cL_law 164 = .ok (.lastore, 1) := by decide +kernel
theorem dL_law_165 : decode cL_law 165 = .ok (.iload 7, 2) := by decide +kernel
theorem dL_law_167 : decode cL_law 167 = .ok (.ifCond .ne 24, 3) := by decide +kernel
theorem dL_law_170 : decode cL_law 170 = .ok (.aload_n 1, 1) := by decide +kernel
theorem dL_law_171 : decode cL_law 171 = .ok (.iload 6, 2) := by decide +kernel
theorem dL_law_173 : decode cL_law 173 = .ok (.iconst 1, 1) := by decide +kernel
theorem dL_law_174 : decode cL_law 174 = .ok (.iload 5, 2) := by decide +kernel
theorem dL_law_176 : decode cL_law 176 = .ok (.iconst 4, 1) := by decide +kernel
theorem dL_law_177 : decode cL_law 177 = .ok (.ishr, 1) := by decide +kernel
theorem dL_law_178 : decode cL_law 178 = .ok (.sipush 5000, 3) := by decide +kernel
theorem dL_law_181 : decode cL_law 181 = .ok (.invokestatic 171, 3) := by decide +kernel
theorem dL_law_184 : decode cL_law 184 = .ok (.iadd, 1) := by decide +kernel
theorem dL_law_185 : decode cL_law 185 = .ok (.invokevirtual 47, 3) := by decide +kernel
theorem dL_law_188 : decode cL_law 188 = .ok (.goto 169, 3) := by decide +kernel
theorem dL_law_191 : decode cL_law 191 = .ok (.iload 7, 2) := by decide +kernel
theorem dL_law_193 : decode cL_law 193 = .ok (.iconst 1, 1) := by decide +kernel
theorem dL_law_194 : decode cL_law 194 = .ok (.if_icmp .ne 24, 3) := by decide +kernel
theorem dL_law_197 : decode cL_law 197 = .ok (.aload_n 1, 1) := by decide +kernel
theorem dL_law_198 : decode cL_law 198 = .ok (.iload 6, 2) := by decide +kernel
theorem dL_law_200 : decode cL_law 200 = .ok (.iconst 1, 1) := by decide +kernel
theorem dL_law_201 : decode cL_law 201 = .ok (.iload 5, 2) := by decide +kernel
theorem dL_law_203 : decode cL_law 203 = .ok (.iconst 4, 1) := by decide +kernel
theorem dL_law_204 : decode cL_law 204 = .ok (.ishr, 1) := by decide +kernel
theorem dL_law_205 : decode cL_law 205 = .ok (.sipush 3000, 3) := by decide +kernel
theorem dL_law_208 : decode cL_law 208 = .ok (.invokestatic 171, 3) := by decide +kernel
theorem dL_law_211 : decode cL_law 211 = .ok (.iadd, 1) := by decide +kernel
theorem dL_law_212 : decode cL_law 212 = .ok (.invokevirtual 50, 3) := by decide +kernel
theorem dL_law_215 : decode cL_law 215 = .ok (.goto 142, 3) := by decide +kernel
theorem dL_law_218 : decode cL_law 218 = .ok (.iload 7, 2) := by decide +kernel
theorem dL_law_220 : decode cL_law 220 = .ok (.iconst 2, 1) := by decide +kernel
theorem dL_law_221 : decode cL_law 221 = .ok (.if_icmp .ne 10, 3) := by decide +kernel
theorem dL_law_224 : decode cL_law 224 = .ok (.aload_n 1, 1) := by decide +kernel
theorem dL_law_225 : decode cL_law 225 = .ok (.invokevirtual 77, 3) := by decide +kernel
theorem dL_law_228 : decode cL_law 228 = .ok (.goto 129, 3) := by decide +kernel
theorem dL_law_231 : decode cL_law 231 = .ok (.iload 7, 2) := by decide +kernel
theorem dL_law_233 : decode cL_law 233 = .ok (.iconst 3, 1) := by decide +kernel
theorem dL_law_234 : decode cL_law 234 = .ok (.if_icmp .ne 20, 3) := by decide +kernel
theorem dL_law_237 : decode cL_law 237 = .ok (.aload_n 1, 1) := by decide +kernel
theorem dL_law_238 : decode cL_law 238 = .ok (.iload 5, 2) := by decide +kernel
theorem dL_law_240 : decode cL_law 240 = .ok (.iconst 4, 1) := by decide +kernel
theorem dL_law_241 : decode cL_law 241 = .ok (.ishr, 1) := by decide +kernel
theorem dL_law_242 : decode cL_law 242 = .ok (.sipush 5001, 3) := by decide +kernel
theorem dL_law_245 : decode cL_law 245 = .ok (.invokestatic 171, 3) := by decide +kernel
theorem dL_law_248 : decode cL_law 248 = .ok (.invokevirtual 41, 3) := by decide +kernel
theorem dL_law_251 : decode cL_law 251 = .ok (.goto 106, 3) := by decide +kernel
theorem dL_law_254 : decode cL_law 254 = .ok (.iload 7, 2) := by decide +kernel
theorem dL_law_256 : decode cL_law 256 = .ok (.iconst 4, 1) := by decide +kernel
theorem dL_law_257 : decode cL_law 257 = .ok (.if_icmp .ne 28, 3) := by decide +kernel
theorem dL_law_260 : decode cL_law 260 = .ok (.aload_n 1, 1) := by decide +kernel
theorem dL_law_261 : decode cL_law 261 = .ok (.iload 5, 2) := by decide +kernel
theorem dL_law_263 : decode cL_law 263 = .ok (.iconst 4, 1) := by decide +kernel
theorem dL_law_264 : decode cL_law 264 = .ok (.ishr, 1) := by decide +kernel
theorem dL_law_265 : decode cL_law 265 = .ok (.bipush 7, 2) := by decide +kernel
theorem dL_law_267 : decode cL_law 267 = .ok (.invokestatic 171, 3) := by decide +kernel
theorem dL_law_270 : decode cL_law 270 = .ok (.iload 5, 2) := by decide +kernel
theorem dL_law_272 : decode cL_law 272 = .ok (.iconst 5, 1) := by decide +kernel
theorem dL_law_273 : decode cL_law 273 = .ok (.ishr, 1) := by decide +kernel
theorem dL_law_274 : decode cL_law 274 = .ok (.bipush 100, 2) := by decide +kernel
theorem dL_law_276 : decode cL_law 276 = .ok (.invokestatic 171, 3) := by decide +kernel
theorem dL_law_279 : decode cL_law 279 = .ok (.invokevirtual 33, 3) := by decide +kernel
theorem dL_law_282 : decode cL_law 282 = .ok (.goto 75, 3) := by decide +kernel
theorem dL_law_285 : decode cL_law 285 = .ok (.iload 7, 2) := by decide +kernel
theorem dL_law_287 : decode cL_law 287 = .ok (.iconst 5, 1) := by decide +kernel
theorem dL_law_288 : decode cL_law 288 = .ok (.if_icmp .ne 41, 3) := by decide +kernel
theorem dL_law_291 : decode cL_law 291 = .ok (.aload_n 1, 1) := by decide +kernel
theorem dL_law_292 : decode cL_law 292 = .ok (.iconst 1, 1) := by decide +kernel
theorem dL_law_293 : decode cL_law 293 = .ok (.iload 5, 2) := by decide +kernel
theorem dL_law_295 : decode cL_law 295 = .ok (.iconst 4, 1) := by decide +kernel
theorem dL_law_296 : decode cL_law 296 = .ok (.ishr, 1) := by decide +kernel
theorem dL_law_297 : decode cL_law 297 = .ok (.bipush 24, 2) := by decide +kernel
theorem dL_law_299 : decode cL_law 299 = .ok (.invokestatic 171, 3) := by decide +kernel
theorem dL_law_302 : decode cL_law 302 = .ok (.iadd, 1) := by decide +kernel
theorem dL_law_303 : decode cL_law 303 = .ok (.iload 5, 2) := by decide +kernel
theorem dL_law_305 : decode cL_law 305 = .ok (.iconst 5, 1) := by decide +kernel
theorem dL_law_306 : decode cL_law 306 = .ok (.ishr, 1) := by decide +kernel
theorem dL_law_307 : decode cL_law 307 = .ok (.sipush 3000, 3) := by decide +kernel
theorem dL_law_310 : decode cL_law 310 = .ok (.invokestatic 171, 3) := by decide +kernel
theorem dL_law_313 : decode cL_law 313 = .ok (.iload 5, 2) := by decide +kernel
theorem dL_law_315 : decode cL_law 315 = .ok (.bipush 6, 2) := by decide +kernel
theorem dL_law_317 : decode cL_law 317 = .ok (.ishr, 1) := by decide +kernel
theorem dL_law_318 : decode cL_law 318 = .ok (.bipush 90, 2) := by decide +kernel
theorem dL_law_320 : decode cL_law 320 = .ok (.invokestatic 171, 3) := by decide +kernel
theorem dL_law_323 : decode cL_law 323 = .ok (.invokevirtual 37, 3) := by decide +kernel
theorem dL_law_326 : decode cL_law 326 = .ok (.goto 31, 3) := by decide +kernel
theorem dL_law_329 : decode cL_law 329 = .ok (.aload_n 1, 1) := by decide +kernel
theorem dL_law_330 : decode cL_law 330 = .ok (.iconst 1, 1) := by decide +kernel
theorem dL_law_331 : decode cL_law 331 = .ok (.iload 5, 2) := by decide +kernel
theorem dL_law_333 : decode cL_law 333 = .ok (.iconst 4, 1) := by decide +kernel
theorem dL_law_334 : decode cL_law 334 = .ok (.ishr, 1) := by decide +kernel
theorem dL_law_335 : decode cL_law 335 = .ok (.iload 7, 2) := by decide +kernel
theorem dL_law_337 : decode cL_law 337 = .ok (.bipush 6, 2) := by decide +kernel
theorem dL_law_339 : decode cL_law 339 = .ok (.if_icmp .ne 9, 3) := by decide +kernel
theorem dL_law_342 : decode cL_law 342 = .ok (.sipush 300, 3) := by decide +kernel
theorem dL_law_345 : decode cL_law 345 = .ok (.goto 5, 3) := by decide +kernel
theorem dL_law_348 : decode cL_law 348 = .ok (.bipush 9, 2) := by decide +kernel
theorem dL_law_350 : decode cL_law 350 = .ok (.invokestatic 171, 3) := by decide +kernel
theorem dL_law_353 : decode cL_law 353 = .ok (.iadd, 1) := by decide +kernel
theorem dL_law_354 : decode cL_law 354 = .ok (.invokevirtual 44, 3) := by decide +kernel
theorem dL_law_357 : decode cL_law 357 = .ok (.istore 8, 2) := by decide +kernel
theorem dL_law_359 : decode cL_law 359 = .ok (.iload_n 3, 1) := by decide +kernel
theorem dL_law_360 : decode cL_law 360 = .ok (.iload 8, 2) := by decide +kernel
theorem dL_law_362 : decode cL_law 362 = .ok (.ifCond .lt 7, 3) := by decide +kernel
theorem dL_law_365 : decode cL_law 365 = .ok (.iconst 1, 1) := by decide +kernel
theorem dL_law_366 : decode cL_law 366 = .ok (.goto 4, 3) := by decide +kernel
theorem dL_law_369 : decode cL_law 369 = .ok (.iconst 0, 1) := by decide +kernel
theorem dL_law_370 : decode cL_law 370 = .ok (.iadd, 1) := by decide +kernel
theorem dL_law_371 : decode cL_law 371 = .ok (.istore_n 3, 1) := by decide +kernel
theorem dL_law_372 : decode cL_law 372 = .ok (.iload 8, 2) := by decide +kernel
theorem dL_law_374 : decode cL_law 374 = .ok (.ifCond .ge 14, 3) := by decide +kernel
theorem dL_law_377 : decode cL_law 377 = .ok (.aload_n 1, 1) := by decide +kernel
theorem dL_law_378 : decode cL_law 378 = .ok (.invokestatic 29, 3) := by decide +kernel
theorem dL_law_381 : decode cL_law 381 = .ok (.aload_n 2, 1) := by decide +kernel
theorem dL_law_382 : decode cL_law 382 = .ok (.iload_n 3, 1) := by decide +kernel
theorem dL_law_383 : decode cL_law 383 = .ok (.laload, 1) := by decide +kernel
theorem dL_law_384 : decode cL_law 384 = .ok (.lcmp, 1) := by decide +kernel
theorem dL_law_385 : decode cL_law 385 = .ok (.ifCond .ne 53, 3) := by decide +kernel
theorem dL_law_388 : decode cL_law 388 = .ok (.aload_n 1, 1) := by decide +kernel
theorem dL_law_389 : decode cL_law 389 = .ok (.bipush 20, 2) := by decide +kernel
theorem dL_law_391 : decode cL_law 391 = .ok (.invokevirtual 13, 3) := by decide +kernel
theorem dL_law_394 : decode cL_law 394 = .ok (.aload_n 1, 1) := by decide +kernel
theorem dL_law_395 : decode cL_law 395 = .ok (.bipush 21, 2) := by decide +kernel
theorem dL_law_397 : decode cL_law 397 = .ok (.invokevirtual 13, 3) := by decide +kernel
theorem dL_law_400 : decode cL_law 400 = .ok (.aload_n 1, 1) := by decide +kernel
theorem dL_law_401 : decode cL_law 401 = .ok (.bipush 22, 2) := by decide +kernel
theorem dL_law_403 : decode cL_law 403 = .ok (.invokevirtual 13, 3) := by decide +kernel
theorem dL_law_406 : decode cL_law 406 = .ok (.iadd, 1) := by decide +kernel
theorem dL_law_407 : decode cL_law 407 = .ok (.aload_n 1, 1) := by decide +kernel
theorem dL_law_408 : decode cL_law 408 = .ok (.bipush 23, 2) := by decide +kernel
theorem dL_law_410 : decode cL_law 410 = .ok (.invokevirtual 13, 3) := by decide +kernel
theorem dL_law_413 : decode cL_law 413 = .ok (.iadd, 1) := by decide +kernel
theorem dL_law_414 : decode cL_law 414 = .ok (.aload_n 1, 1) := by decide +kernel
theorem dL_law_415 : decode cL_law 415 = .ok (.bipush 24, 2) := by decide +kernel
theorem dL_law_417 : decode cL_law 417 = .ok (.invokevirtual 13, 3) := by decide +kernel
theorem dL_law_420 : decode cL_law 420 = .ok (.iadd, 1) := by decide +kernel
theorem dL_law_421 : decode cL_law 421 = .ok (.aload_n 1, 1) := by decide +kernel
theorem dL_law_422 : decode cL_law 422 = .ok (.bipush 25, 2) := by decide +kernel
theorem dL_law_424 : decode cL_law 424 = .ok (.invokevirtual 13, 3) := by decide +kernel
theorem dL_law_427 : decode cL_law 427 = .ok (.iadd, 1) := by decide +kernel
theorem dL_law_428 : decode cL_law 428 = .ok (.aload_n 1, 1) := by decide +kernel
theorem dL_law_429 : decode cL_law 429 = .ok (.bipush 26, 2) := by decide +kernel
theorem dL_law_431 : decode cL_law 431 = .ok (.invokevirtual 13, 3) := by decide +kernel
theorem dL_law_434 : decode cL_law 434 = .ok (.iadd, 1) := by decide +kernel
theorem dL_law_435 : decode cL_law 435 = .ok (.if_icmp .eq 5, 3) := by decide +kernel
theorem dL_law_438 : decode cL_law 438 = .ok (.iconst 0, 1) := by decide +kernel
theorem dL_law_439 : decode cL_law 439 = .ok (.ireturn, 1) := by decide +kernel
theorem dL_law_440 : decode cL_law 440 = .ok (.iinc 4 1, 3) := by decide +kernel
theorem dL_law_443 : decode cL_law 443 = .ok (.goto (-323), 3) := by decide +kernel
theorem dL_law_446 : decode cL_law 446 = .ok (.aload_n 1, 1) := by decide +kernel
theorem dL_law_447 : decode cL_law 447 = .ok (.invokestatic 152, 3) := by decide +kernel
theorem dL_law_450 : decode cL_law 450 = .ok (.ifCond .ne 5, 3) := by decide +kernel
theorem dL_law_453 : decode cL_law 453 = .ok (.iconst 0, 1) := by decide +kernel
theorem dL_law_454 : decode cL_law 454 = .ok (.ireturn, 1) := by decide +kernel
theorem dL_law_455 : decode cL_law 455 = .ok (.iconst 1, 1) := by decide +kernel
theorem dL_law_456 : decode cL_law 456 = .ok (.istore 4, 2) := by decide +kernel
theorem dL_law_458 : decode cL_law 458 = .ok (.iload 4, 2) := by decide +kernel
theorem dL_law_460 : decode cL_law 460 = .ok (.iconst 5, 1) := by decide +kernel
theorem dL_law_461 : decode cL_law 461 = .ok (.if_icmp .gt 56, 3) := by decide +kernel
theorem dL_law_464 : decode cL_law 464 = .ok (.iload 4, 2) := by decide +kernel
theorem dL_law_466 : decode cL_law 466 = .ok (.iload_n 3, 1) := by decide +kernel
theorem dL_law_467 : decode cL_law 467 = .ok (.if_icmp .gt 50, 3) := by decide +kernel
theorem dL_law_470 : decode cL_law 470 = .ok (.aload_n 1, 1) := by decide +kernel
theorem dL_law_471 : decode cL_law 471 = .ok (.invokevirtual 156, 3) := by decide +kernel
theorem dL_law_474 : decode cL_law 474 = .ok (.istore 5, 2) := by decide +kernel
theorem dL_law_476 : decode cL_law 476 = .ok (.iload 5, 2) := by decide +kernel
theorem dL_law_478 : decode cL_law 478 = .ok (.ifCond .lt 31, 3) := by decide +kernel
theorem dL_law_481 : decode cL_law 481 = .ok (.aload_n 1, 1) := by decide +kernel
theorem dL_law_482 : decode cL_law 482 = .ok (.invokestatic 29, 3) := by decide +kernel
theorem dL_law_485 : decode cL_law 485 = .ok (.aload_n 2, 1) := by decide +kernel
theorem dL_law_486 : decode cL_law 486 = .ok (.iload_n 3, 1) := by decide +kernel
theorem dL_law_487 : decode cL_law 487 = .ok (.iload 4, 2) := by decide +kernel
theorem dL_law_489 : decode cL_law 489 = .ok (.isub, 1) := by decide +kernel
theorem dL_law_490 : decode cL_law 490 = .ok (.laload, 1) := by decide +kernel
theorem dL_law_491 : decode cL_law 491 = .ok (.lcmp, 1) := by decide +kernel
theorem dL_law_492 : decode cL_law 492 = .ok (.ifCond .ne 17, 3) := by decide +kernel
theorem dL_law_495 : decode cL_law 495 = .ok (.iload_n 3, 1) := by decide +kernel
theorem dL_law_496 : decode cL_law 496 = .ok (.iconst 4, 1) := by decide +kernel
theorem dL_law_497 : decode cL_law 497 = .ok (.if_icmp .le 14, 3) := by decide +kernel
theorem dL_law_500 : decode cL_law 500 = .ok (.iload 5, 2) := by decide +kernel
theorem dL_law_502 : decode cL_law 502 = .ok (.iconst 5, 1) := by decide +kernel
theorem dL_law_503 : decode cL_law 503 = .ok (.iload 4, 2) := by decide +kernel
theorem dL_law_505 : decode cL_law 505 = .ok (.isub, 1) := by decide +kernel
theorem dL_law_506 : decode cL_law 506 = .ok (.if_icmp .eq 5, 3) := by decide +kernel
theorem dL_law_509 : decode cL_law 509 = .ok (.iconst 0, 1) := by decide +kernel
theorem dL_law_510 : decode cL_law 510 = .ok (.ireturn, 1) := by decide +kernel
theorem dL_law_511 : decode cL_law 511 = .ok (.iinc 4 1, 3) := by decide +kernel
theorem dL_law_514 : decode cL_law 514 = .ok (.goto (-56), 3) := by decide +kernel
theorem dL_law_517 : decode cL_law 517 = .ok (.iload_n 3, 1) := by decide +kernel
theorem dL_law_518 : decode cL_law 518 = .ok (.iconst 4, 1) := by decide +kernel
theorem dL_law_519 : decode cL_law 519 = .ok (.if_icmp .le 14, 3) := by decide +kernel
theorem dL_law_522 : decode cL_law 522 = .ok (.aload_n 1, 1) := by decide +kernel
theorem dL_law_523 : decode cL_law 523 = .ok (.invokevirtual 156, 3) := by decide +kernel
theorem dL_law_526 : decode cL_law 526 = .ok (.bipush (-2), 2) := by decide +kernel
theorem dL_law_528 : decode cL_law 528 = .ok (.if_icmp .eq 5, 3) := by decide +kernel
theorem dL_law_531 : decode cL_law 531 = .ok (.iconst 0, 1) := by decide +kernel
theorem dL_law_532 : decode cL_law 532 = .ok (.ireturn, 1) := by decide +kernel
theorem dL_law_533 : decode cL_law 533 = .ok (.new 14, 3) := by decide +kernel
theorem dL_law_536 : decode cL_law 536 = .ok (.dup, 1) := by decide +kernel
theorem dL_law_537 : decode cL_law 537 = .ok (.invokespecial 90, 3) := by decide +kernel
theorem dL_law_540 : decode cL_law 540 = .ok (.astore 4, 2) := by decide +kernel
theorem dL_law_542 : decode cL_law 542 = .ok (.iconst 0, 1) := by decide +kernel
theorem dL_law_543 : decode cL_law 543 = .ok (.istore 5, 2) := by decide +kernel
theorem dL_law_545 : decode cL_law 545 = .ok (.iload 5, 2) := by decide +kernel
theorem dL_law_547 : decode cL_law 547 = .ok (.bipush 100, 2) := by decide +kernel
theorem dL_law_549 : decode cL_law 549 = .ok (.if_icmp .ge 22, 3) := by decide +kernel
theorem dL_law_552 : decode cL_law 552 = .ok (.aload 4, 2) := by decide +kernel
theorem dL_law_554 : decode cL_law 554 = .ok (.sipush 1000, 3) := by decide +kernel
theorem dL_law_557 : decode cL_law 557 = .ok (.invokevirtual 44, 3) := by decide +kernel
theorem dL_law_560 : decode cL_law 560 = .ok (.ifCond .eq 5, 3) := by decide +kernel
theorem dL_law_563 : decode cL_law 563 = .ok (.iconst 0, 1) := by decide +kernel
theorem dL_law_564 : decode cL_law 564 = .ok (.ireturn, 1) := by decide +kernel
theorem dL_law_565 : decode cL_law 565 = .ok (.iinc 5 1, 3) := by decide +kernel
theorem dL_law_568 : decode cL_law 568 = .ok (.goto (-23), 3) := by decide +kernel
theorem dL_law_571 : decode cL_law 571 = .ok (.aload 4, 2) := by decide +kernel
theorem dL_law_573 : decode cL_law 573 = .ok (.iconst 1, 1) := by decide +kernel
theorem dL_law_574 : decode cL_law 574 = .ok (.invokevirtual 44, 3) := by decide +kernel
theorem dL_law_577 : decode cL_law 577 = .ok (.bipush (-3), 2) := by decide +kernel
theorem dL_law_579 : decode cL_law 579 = .ok (.if_icmp .ne 48, 3) := by decide +kernel
theorem dL_law_582 : decode cL_law 582 = .ok (.aload 4, 2) := by decide +kernel
theorem dL_law_584 : decode cL_law 584 = .ok (.iconst 0, 1) := by decide +kernel
theorem dL_law_585 : decode cL_law 585 = .ok (.invokevirtual 44, 3) := by decide +kernel
theorem dL_law_588 : decode cL_law 588 = .ok (.iconst (-1), 1) := by decide +kernel
theorem dL_law_589 : decode cL_law 589 = .ok (.if_icmp .ne 38, 3) := by decide +kernel
theorem dL_law_592 : decode cL_law 592 = .ok (.aload 4, 2) := by decide +kernel
theorem dL_law_594 : decode cL_law 594 = .ok (.iconst 1, 1) := by decide +kernel
theorem dL_law_595 : decode cL_law 595 = .ok (.invokevirtual 13, 3) := by decide +kernel
theorem dL_law_598 : decode cL_law 598 = .ok (.ldc 159, 2) := by decide +kernel
theorem dL_law_600 : decode cL_law 600 = .ok (.if_icmp .ne 27, 3) := by decide +kernel
theorem dL_law_603 : decode cL_law 603 = .ok (.aload 4, 2) := by decide +kernel
theorem dL_law_605 : decode cL_law 605 = .ok (.invokevirtual 156, 3) := by decide +kernel
theorem dL_law_608 : decode cL_law 608 = .ok (.iconst 4, 1) := by decide +kernel
theorem dL_law_609 : decode cL_law 609 = .ok (.if_icmp .ne 18, 3) := by decide +kernel
theorem dL_law_612 : decode cL_law 612 = .ok (.aload 4, 2) := by decide +kernel
theorem dL_law_614 : decode cL_law 614 = .ok (.sipush 1000, 3) := by decide +kernel
theorem dL_law_617 : decode cL_law 617 = .ok (.invokevirtual 44, 3) := by decide +kernel
theorem dL_law_620 : decode cL_law 620 = .ok (.ifCond .ne 7, 3) := by decide +kernel
theorem dL_law_623 : decode cL_law 623 = .ok (.iconst 1, 1) := by decide +kernel
theorem dL_law_624 : decode cL_law 624 = .ok (.goto 4, 3) := by decide +kernel
theorem dL_law_627 : decode cL_law 627 = .ok (.iconst 0, 1) := by decide +kernel
theorem dL_law_628 : decode cL_law 628 = .ok (.ireturn, 1) := by decide +kernel
theorem good_cons {big ws : List Cond} {c : Cond} (h : GoodIn big ws) : GoodIn (c :: big) ws := fun w hw => ⟨List.mem_cons_of_mem c (h w hw).1, (h w hw).2⟩
set_option maxRecDepth 20000 in
theorem law_good : wsL_law.all goodWord = true := by decide +kernel
theorem goodB {c d : Cond} (h : GoodIn wsL_law [d]) : GoodIn (c :: wsL_law) (d :: wsL_law) := fun w hw => (List.mem_cons.mp hw).elim (fun e => ⟨List.mem_cons_of_mem c (h w (by rw [e]; exact List.mem_cons_self)).1, (h w (by rw [e]; exact List.mem_cons_self)).2⟩) (fun q => ⟨List.mem_cons_of_mem c q, good_of_word (List.all_eq_true.mp law_good w q)⟩)
def wsL_state : List Cond := .code yL_state cL_state 4 (some .long) :: wsL_law
def wsL_refused : List Cond := .code yL_refused cL_refused 4 (some .boolean) :: wsL_law
def wsL_types : List Cond := .code yL_types cL_types 5 none :: wsL_law
def wsL_isFault : List Cond := .code yL_isFault cL_isFault 7 (some .boolean) :: wsL_law
def wsL_texts : List Cond := .code yL_texts cL_texts 2 (some .boolean) :: wsL_law
def wsL_known : List Cond := .code yL_known cL_known 1 (some .boolean) :: wsL_law
set_option maxRecDepth 20000 in
theorem ggL_law_X4_clearText : GoodIn wsL_law wsX4_clearText := goodIn_r _ [86, 54, 87, 416, 417, 418, 419, 432, 433, 434, 435, 436, 437] (by decide +kernel) (by decide +kernel)
set_option maxRecDepth 20000 in
theorem gL_law_X4_clearText : GoodIn wsL_law (wsV RL 83 RX4 yX4_clearText wsX4_clearText) := goodIn_app (goodIn_of _ (by decide +kernel)) ggL_law_X4_clearText
set_option maxRecDepth 20000 in
theorem ggL_law_X4_colourOf : GoodIn wsL_law wsX4_colourOf := goodIn_r _ [379, 45, 183, 294, 129, 2, 130, 96, 97, 98, 380, 212, 213, 214, 215, 216, 217, 218, 219, 220, 221, 222, 223, 224, 225, 226, 227, 228, 229, 416, 417, 418, 419, 420, 421, 422, 423, 424, 425, 426, 427, 428, 429] (by decide +kernel) (by decide +kernel)
set_option maxRecDepth 20000 in
theorem gL_law_X4_colourOf : GoodIn wsL_law (wsV RL 62 RX4 yX4_colourOf wsX4_colourOf) := goodIn_app (goodIn_of _ (by decide +kernel)) ggL_law_X4_colourOf
set_option maxRecDepth 20000 in
theorem ggL_law_X4_fault : GoodIn wsL_law wsX4_fault := goodIn_r _ [107, 54, 108, 109, 96, 97, 2, 98, 110, 111, 112, 53, 113, 114, 115, 103, 78, 116, 117, 118, 119, 120, 79, 121, 122, 123, 124, 125, 126, 127, 128, 129, 130, 416, 417, 418, 419, 432, 433, 434, 435, 436, 437] (by decide +kernel) (by decide +kernel)
set_option maxRecDepth 20000 in
theorem gL_law_X4_fault : GoodIn wsL_law (wsV RL 74 RX4 yX4_fault wsX4_fault) := goodIn_app (goodIn_of _ (by decide +kernel)) ggL_law_X4_fault
set_option maxRecDepth 20000 in
theorem ggL_law_X4_find : GoodIn wsL_law wsX4_find := goodIn_r _ [372, 45, 137, 373, 374, 2, 375, 96, 97, 98, 266, 208, 209, 44, 210, 60, 61, 211, 212, 213, 214, 215, 216, 217, 218, 219, 220, 221, 222, 223, 224, 225, 226, 227, 228, 229, 416, 417, 418, 419, 420, 421, 422, 423, 424, 425, 426, 427, 428, 429] (by decide +kernel) (by decide +kernel)
set_option maxRecDepth 20000 in
theorem gL_law_X4_find : GoodIn wsL_law (wsV RL 59 RX4 yX4_find wsX4_find) := goodIn_app (goodIn_of _ (by decide +kernel)) ggL_law_X4_find
set_option maxRecDepth 20000 in
theorem ggL_law_X4_ifGo : GoodIn wsL_law wsX4_ifGo := goodIn_r _ [362, 45, 46, 137, 257, 258, 259, 260, 44, 261, 151, 96, 97, 2, 98, 363, 148, 149, 150, 60, 63, 64, 65, 66, 61, 62, 152, 153, 154, 155, 156, 157, 304, 305, 306, 307, 308, 309, 310, 311, 312, 313, 314, 315, 316, 317, 318, 247, 319, 320, 321, 322, 323, 166, 167, 168, 169, 324, 325, 326, 327, 195, 196, 197, 198, 328, 329, 330, 331, 332, 333, 334, 335, 336, 337, 338, 339, 340, 341, 342, 343, 344, 192, 193, 194, 345, 346, 347, 348, 162, 163, 164, 165, 416, 417, 418, 419, 420, 421, 422, 423, 424, 425, 426, 427, 428, 429] (by decide +kernel) (by decide +kernel)
set_option maxRecDepth 20000 in
theorem gL_law_X4_ifGo : GoodIn wsL_law (wsV RL 53 RX4 yX4_ifGo wsX4_ifGo) := goodIn_app (goodIn_of _ (by decide +kernel)) ggL_law_X4_ifGo
set_option maxRecDepth 20000 in
theorem ggL_law_X4_ladder : GoodIn wsL_law wsX4_ladder := goodIn_r _ [367, 45, 137, 368, 204, 205, 44, 206, 207, 208, 209, 210, 60, 61, 211, 212, 213, 214, 215, 216, 217, 218, 219, 220, 221, 222, 223, 224, 225, 226, 227, 228, 229, 266, 416, 417, 418, 419, 420, 421, 422, 423, 424, 425, 426, 427, 428, 429] (by decide +kernel) (by decide +kernel)
set_option maxRecDepth 20000 in
theorem gL_law_X4_ladder : GoodIn wsL_law (wsV RL 56 RX4 yX4_ladder wsX4_ladder) := goodIn_app (goodIn_of _ (by decide +kernel)) ggL_law_X4_ladder
set_option maxRecDepth 20000 in
theorem ggL_law_X4_read : GoodIn wsL_law wsX4_read := goodIn_r _ [134, 54, 108, 50, 45, 135, 136, 137, 110, 111, 112, 53, 113, 114, 115, 103, 78, 116, 117, 118, 119, 120, 79, 121, 122, 123, 124, 125, 126, 127, 128, 129, 2, 130, 96, 97, 98, 138, 139, 140, 49, 141, 142, 72, 143, 144, 145, 146, 147, 148, 149, 44, 150, 60, 63, 64, 65, 66, 61, 62, 151, 152, 153, 154, 155, 156, 157, 158, 159, 160, 161, 162, 163, 164, 165, 166, 167, 168, 169, 170, 171, 172, 173, 174, 175, 176, 177, 416, 417, 418, 419, 432, 433, 434, 435, 436, 437, 420, 421, 422, 423, 424, 425, 426, 427, 428, 429, 430, 431] (by decide +kernel) (by decide +kernel)
set_option maxRecDepth 20000 in
theorem gL_law_X4_read : GoodIn wsL_law (wsV RL 147 RX4 yX4_read wsX4_read) := goodIn_app (goodIn_of _ (by decide +kernel)) ggL_law_X4_read
set_option maxRecDepth 20000 in
theorem ggL_law_X4_row : GoodIn wsL_law wsX4_row := goodIn_r _ [256, 45, 257, 258, 259, 260, 44, 261, 151, 262, 216, 213, 217, 263, 219, 220, 221, 222, 223, 264, 225, 226, 265, 228, 229, 266, 208, 209, 210, 60, 61, 211, 212, 214, 215, 218, 224, 227, 267, 251, 252, 268, 196, 197, 198, 416, 417, 418, 419, 420, 421, 422, 423, 424, 425, 426, 427, 428, 429] (by decide +kernel) (by decide +kernel)
set_option maxRecDepth 20000 in
theorem gL_law_X4_row : GoodIn wsL_law (wsV RL 25 RX4 yX4_row wsX4_row) := goodIn_app (goodIn_of _ (by decide +kernel)) ggL_law_X4_row
set_option maxRecDepth 20000 in
theorem ggL_law_X4_thicknessFor : GoodIn wsL_law wsX4_thicknessFor := goodIn_r _ [384, 45, 183, 373, 374, 2, 375, 96, 97, 98, 294, 129, 130, 380, 212, 213, 214, 215, 216, 217, 218, 219, 220, 221, 222, 223, 224, 225, 226, 227, 228, 229, 416, 417, 418, 419, 420, 421, 422, 423, 424, 425, 426, 427, 428, 429] (by decide +kernel) (by decide +kernel)
set_option maxRecDepth 20000 in
theorem gL_law_X4_thicknessFor : GoodIn wsL_law (wsV RL 65 RX4 yX4_thicknessFor wsX4_thicknessFor) := goodIn_app (goodIn_of _ (by decide +kernel)) ggL_law_X4_thicknessFor
set_option maxRecDepth 20000 in
theorem ggL_law_X4_type : GoodIn wsL_law wsX4_type := goodIn_r _ [95, 54, 87, 96, 97, 2, 98, 99, 100, 101, 53, 102, 103, 78, 416, 417, 418, 419, 432, 433, 434, 435, 436, 437] (by decide +kernel) (by decide +kernel)
set_option maxRecDepth 20000 in
theorem gL_law_X4_type : GoodIn wsL_law (wsV RL 71 RX4 yX4_type wsX4_type) := goodIn_app (goodIn_of _ (by decide +kernel)) ggL_law_X4_type
set_option maxRecDepth 20000 in
theorem ggL_law_X4_until : GoodIn wsL_law wsX4_until := goodIn_r _ [388, 46, 45, 137, 389, 390, 2, 391, 96, 97, 98, 373, 374, 375, 363, 148, 149, 44, 150, 60, 63, 64, 65, 66, 61, 62, 151, 152, 153, 154, 155, 156, 157, 392, 393, 394, 395, 189, 191, 192, 193, 194, 195, 196, 197, 198, 266, 208, 209, 210, 211, 212, 213, 214, 215, 216, 217, 218, 219, 220, 221, 222, 223, 224, 225, 226, 227, 228, 229, 304, 305, 306, 307, 308, 309, 310, 311, 312, 313, 314, 315, 316, 317, 318, 247, 319, 320, 321, 322, 323, 166, 167, 168, 169, 324, 325, 326, 327, 328, 329, 330, 331, 332, 333, 334, 335, 336, 337, 338, 339, 340, 341, 342, 343, 344, 345, 346, 347, 348, 162, 163, 164, 165, 416, 417, 418, 419, 420, 421, 422, 423, 424, 425, 426, 427, 428, 429] (by decide +kernel) (by decide +kernel)
set_option maxRecDepth 20000 in
theorem gL_law_X4_until : GoodIn wsL_law (wsV RL 68 RX4 yX4_until wsX4_until) := goodIn_app (goodIn_of _ (by decide +kernel)) ggL_law_X4_until
theorem gL_state_X4_count : GoodIn wsL_state (wsV RL 13 RX4 yX4_count wsX4_count) := good_cons gL_law_X4_count
theorem gL_state_X4_row : GoodIn wsL_state (wsV RL 25 RX4 yX4_row wsX4_row) := good_cons gL_law_X4_row
theorem gL_refused_X4_count : GoodIn wsL_refused (wsV RL 13 RX4 yX4_count wsX4_count) := good_cons gL_law_X4_count
theorem gL_refused_X4_set : GoodIn wsL_refused (wsV RL 33 RX4 yX4_set wsX4_set) := good_cons gL_law_X4_set
theorem gL_refused_X4_dip : GoodIn wsL_refused (wsV RL 37 RX4 yX4_dip wsX4_dip) := good_cons gL_law_X4_dip
theorem gL_refused_X4_add : GoodIn wsL_refused (wsV RL 41 RX4 yX4_add wsX4_add) := good_cons gL_law_X4_add
theorem gL_refused_X4_go : GoodIn wsL_refused (wsV RL 44 RX4 yX4_go wsX4_go) := good_cons gL_law_X4_go
theorem gL_refused_X4_pour : GoodIn wsL_refused (wsV RL 47 RX4 yX4_pour wsX4_pour) := good_cons gL_law_X4_pour
theorem gL_refused_X4_thin : GoodIn wsL_refused (wsV RL 50 RX4 yX4_thin wsX4_thin) := good_cons gL_law_X4_thin
theorem gL_refused_X4_row : GoodIn wsL_refused (wsV RL 25 RX4 yX4_row wsX4_row) := good_cons gL_law_X4_row
theorem gL_refused_X4_ifGo : GoodIn wsL_refused (wsV RL 53 RX4 yX4_ifGo wsX4_ifGo) := good_cons gL_law_X4_ifGo
theorem gL_refused_X4_ladder : GoodIn wsL_refused (wsV RL 56 RX4 yX4_ladder wsX4_ladder) := good_cons gL_law_X4_ladder
theorem gL_refused_X4_find : GoodIn wsL_refused (wsV RL 59 RX4 yX4_find wsX4_find) := good_cons gL_law_X4_find
theorem gL_refused_X4_colourOf : GoodIn wsL_refused (wsV RL 62 RX4 yX4_colourOf wsX4_colourOf) := good_cons gL_law_X4_colourOf
theorem gL_refused_X4_thicknessFor : GoodIn wsL_refused (wsV RL 65 RX4 yX4_thicknessFor wsX4_thicknessFor) := good_cons gL_law_X4_thicknessFor
theorem gL_refused_X4_until : GoodIn wsL_refused (wsV RL 68 RX4 yX4_until wsX4_until) := good_cons gL_law_X4_until
theorem gL_refused_X4_type : GoodIn wsL_refused (wsV RL 71 RX4 yX4_type wsX4_type) := good_cons gL_law_X4_type
theorem gL_refused_X4_fault : GoodIn wsL_refused (wsV RL 74 RX4 yX4_fault wsX4_fault) := good_cons gL_law_X4_fault
theorem gL_refused_X4_cut : GoodIn wsL_refused (wsV RL 77 RX4 yX4_cut wsX4_cut) := good_cons gL_law_X4_cut
theorem gL_types_X4_type : GoodIn wsL_types (wsV RL 71 RX4 yX4_type wsX4_type) := good_cons gL_law_X4_type
theorem gL_isFault_X4_clearText : GoodIn wsL_isFault (wsV RL 83 RX4 yX4_clearText wsX4_clearText) := good_cons gL_law_X4_clearText
theorem gL_isFault_X4_fault : GoodIn wsL_isFault (wsV RL 74 RX4 yX4_fault wsX4_fault) := good_cons gL_law_X4_fault
theorem gL_texts_X4_init : GoodIn wsL_texts wsX4_init := good_cons ggL_law_X4_init
theorem gL_texts_X4_read : GoodIn wsL_texts (wsV RL 147 RX4 yX4_read wsX4_read) := good_cons gL_law_X4_read
theorem gL_texts_X4_count : GoodIn wsL_texts (wsV RL 13 RX4 yX4_count wsX4_count) := good_cons gL_law_X4_count
theorem gL_texts_X4_row : GoodIn wsL_texts (wsV RL 25 RX4 yX4_row wsX4_row) := good_cons gL_law_X4_row
theorem gL_texts_X4_clearText : GoodIn wsL_texts (wsV RL 83 RX4 yX4_clearText wsX4_clearText) := good_cons gL_law_X4_clearText
theorem gL_texts_X4_fault : GoodIn wsL_texts (wsV RL 74 RX4 yX4_fault wsX4_fault) := good_cons gL_law_X4_fault
theorem gL_texts_X4_type : GoodIn wsL_texts (wsV RL 71 RX4 yX4_type wsX4_type) := good_cons gL_law_X4_type
theorem gL_known_X4_init : GoodIn wsL_known wsX4_init := good_cons ggL_law_X4_init
theorem gL_known_X4_undo : GoodIn wsL_known (wsV RL 156 RX4 yX4_undo wsX4_undo) := good_cons gL_law_X4_undo
theorem gL_known_X4_go : GoodIn wsL_known (wsV RL 44 RX4 yX4_go wsX4_go) := good_cons gL_law_X4_go
theorem gL_known_X4_count : GoodIn wsL_known (wsV RL 13 RX4 yX4_count wsX4_count) := good_cons gL_law_X4_count
theorem gL_known_X4_dip : GoodIn wsL_known (wsV RL 37 RX4 yX4_dip wsX4_dip) := good_cons gL_law_X4_dip
theorem gL_known_X4_row : GoodIn wsL_known (wsV RL 25 RX4 yX4_row wsX4_row) := good_cons gL_law_X4_row
theorem gL_known_X4_set : GoodIn wsL_known (wsV RL 33 RX4 yX4_set wsX4_set) := good_cons gL_law_X4_set
theorem gL_known_X4_until : GoodIn wsL_known (wsV RL 68 RX4 yX4_until wsX4_until) := good_cons gL_law_X4_until
theorem gL_known_X4_ifGo : GoodIn wsL_known (wsV RL 53 RX4 yX4_ifGo wsX4_ifGo) := good_cons gL_law_X4_ifGo
theorem gL_known_X4_pour : GoodIn wsL_known (wsV RL 47 RX4 yX4_pour wsX4_pour) := good_cons gL_law_X4_pour
theorem gL_known_X4_thin : GoodIn wsL_known (wsV RL 50 RX4 yX4_thin wsX4_thin) := good_cons gL_law_X4_thin
theorem gL_known_X4_cut : GoodIn wsL_known (wsV RL 77 RX4 yX4_cut wsX4_cut) := good_cons gL_law_X4_cut
theorem gL_known_X4_add : GoodIn wsL_known (wsV RL 41 RX4 yX4_add wsX4_add) := good_cons gL_law_X4_add
set_option maxRecDepth 20000 in
theorem hL_isFault_l : GoodIn wsL_law [.methodLink RL 93 yL_isFault, .static yL_isFault, .initialized RL] := goodIn_r _ [80, 81, 7] (by decide +kernel) (by decide +kernel)
theorem hL_isFault_c : GoodIn wsL_law [.code yL_isFault cL_isFault 7 (some .boolean)] := fun w hw => by
  obtain rfl := List.mem_singleton.mp hw
  exact ⟨List.mem_of_getElem? (i := 82) rfl, good_of_word rfl⟩
set_option maxRecDepth 20000 in
theorem hL_known_l : GoodIn wsL_law [.methodLink RL 164 yL_known, .static yL_known, .initialized RL] := goodIn_r _ [269, 270, 7] (by decide +kernel) (by decide +kernel)
theorem hL_known_c : GoodIn wsL_law [.code yL_known cL_known 1 (some .boolean)] := fun w hw => by
  obtain rfl := List.mem_singleton.mp hw
  exact ⟨List.mem_of_getElem? (i := 271) rfl, good_of_word rfl⟩
set_option maxRecDepth 20000 in
theorem hL_mixed : GoodIn wsL_law (va_wsS RL 19 yL_mixed wsL_mixed) := goodIn_app (goodIn_of _ (by decide +kernel)) (goodIn_of _ (by decide +kernel))
set_option maxRecDepth 20000 in
theorem hL_part : GoodIn wsL_law (va_wsS RL 171 yL_part wsL_part) := goodIn_app (goodIn_of _ (by decide +kernel)) (goodIn_of _ (by decide +kernel))
set_option maxRecDepth 20000 in
theorem hL_refused_l : GoodIn wsL_law [.methodLink RL 152 yL_refused, .static yL_refused, .initialized RL] := goodIn_r _ [272, 273, 7] (by decide +kernel) (by decide +kernel)
theorem hL_refused_c : GoodIn wsL_law [.code yL_refused cL_refused 4 (some .boolean)] := fun w hw => by
  obtain rfl := List.mem_singleton.mp hw
  exact ⟨List.mem_of_getElem? (i := 274) rfl, good_of_word rfl⟩
set_option maxRecDepth 20000 in
theorem hL_state_l : GoodIn wsL_law [.methodLink RL 29 yL_state, .static yL_state, .initialized RL] := goodIn_r _ [276, 277, 7] (by decide +kernel) (by decide +kernel)
theorem hL_state_c : GoodIn wsL_law [.code yL_state cL_state 4 (some .long)] := fun w hw => by
  obtain rfl := List.mem_singleton.mp hw
  exact ⟨List.mem_of_getElem? (i := 278) rfl, good_of_word rfl⟩
set_option maxRecDepth 20000 in
theorem hL_take : GoodIn wsL_law (va_wsS RL 167 yL_take wsL_take) := goodIn_app (goodIn_of _ (by decide +kernel)) (goodIn_of _ (by decide +kernel))
set_option maxRecDepth 20000 in
theorem hL_texts_l : GoodIn wsL_law [.methodLink RL 160 yL_texts, .static yL_texts, .initialized RL] := goodIn_r _ [5, 6, 7] (by decide +kernel) (by decide +kernel)
theorem hL_texts_c : GoodIn wsL_law [.code yL_texts cL_texts 2 (some .boolean)] := fun w hw => by
  obtain rfl := List.mem_singleton.mp hw
  exact ⟨List.mem_of_getElem? (i := 8) rfl, good_of_word rfl⟩
set_option maxRecDepth 20000 in
theorem hL_types_l : GoodIn wsL_law [.methodLink RL 86 yL_types, .static yL_types, .initialized RL] := goodIn_r _ [88, 89, 7] (by decide +kernel) (by decide +kernel)
theorem hL_types_c : GoodIn wsL_law [.code yL_types cL_types 5 none] := fun w hw => by
  obtain rfl := List.mem_singleton.mp hw
  exact ⟨List.mem_of_getElem? (i := 90) rfl, good_of_word rfl⟩
theorem gL_state_L_mixed : GoodIn wsL_state (va_wsS RL 19 yL_mixed wsL_mixed) := good_cons hL_mixed
theorem gL_refused_L_state : GoodIn wsL_refused (va_wsS RL 29 yL_state wsL_state) := goodIn_app (good_cons hL_state_l) (goodB hL_state_c)
theorem gL_refused_L_mixed : GoodIn wsL_refused (va_wsS RL 19 yL_mixed wsL_mixed) := good_cons hL_mixed
theorem gL_isFault_L_types : GoodIn wsL_isFault (va_wsS RL 86 yL_types wsL_types) := goodIn_app (good_cons hL_types_l) (goodB hL_types_c)
theorem gL_texts_L_isFault : GoodIn wsL_texts (va_wsS RL 93 yL_isFault wsL_isFault) := goodIn_app (good_cons hL_isFault_l) (goodB hL_isFault_c)
theorem gL_known_L_refused : GoodIn wsL_known (va_wsS RL 152 yL_refused wsL_refused) := goodIn_app (good_cons hL_refused_l) (goodB hL_refused_c)
theorem gL_law_L_texts : GoodIn wsL_law (va_wsS RL 160 yL_texts wsL_texts) := goodIn_app hL_texts_l (fun w hw => (List.mem_cons.mp hw).elim (fun e => hL_texts_c w (by rw [e]; exact List.mem_cons_self)) (fun q => ⟨q, good_of_word (List.all_eq_true.mp law_good w q)⟩))
theorem gL_law_L_known : GoodIn wsL_law (va_wsS RL 164 yL_known wsL_known) := goodIn_app hL_known_l (fun w hw => (List.mem_cons.mp hw).elim (fun e => hL_known_c w (by rw [e]; exact List.mem_cons_self)) (fun q => ⟨q, good_of_word (List.all_eq_true.mp law_good w q)⟩))
theorem gL_law_L_refused : GoodIn wsL_law (va_wsS RL 152 yL_refused wsL_refused) := goodIn_app hL_refused_l (fun w hw => (List.mem_cons.mp hw).elim (fun e => hL_refused_c w (by rw [e]; exact List.mem_cons_self)) (fun q => ⟨q, good_of_word (List.all_eq_true.mp law_good w q)⟩))
theorem gL_law_L_state : GoodIn wsL_law (va_wsS RL 29 yL_state wsL_state) := goodIn_app hL_state_l (fun w hw => (List.mem_cons.mp hw).elim (fun e => hL_state_c w (by rw [e]; exact List.mem_cons_self)) (fun q => ⟨q, good_of_word (List.all_eq_true.mp law_good w q)⟩))
abbrev vwCl : List vw_C := [(RX0, TX0, 10), (RX1, TX1, 6), (RX2, TX2, 2), (RX4, TX4, 4)]
end
section
/-! OUR OWN BASE ROWS: options as the class's own steps, standard contracts, calls by them. -/
theorem bnd {α β : Type} {o : Option α} {f : α → Option β} {r : β} (h : o.bind f = some r) : ∃ a, o = some a ∧ f a = some r := by
  cases o with
  | none => cases h
  | some a => exact ⟨a, rfl, h⟩
def bind2 {α β γ : Type} (o : Option (α × β)) (f : α → β → Option γ) : Option γ := o.bind fun q => f q.1 q.2
theorem bnd2 {α β γ : Type} {o : Option (α × β)} {f : α → β → Option γ} {r : γ} (h : bind2 o f = some r) : ∃ a b, o = some (a, b) ∧ f a b = some r := by
  cases o with
  | none => cases h
  | some q => exact ⟨q.1, q.2, rfl, h⟩
def ald (f : Nat → Int32) (n : Nat) (i : Int32) : Option Int32 := if i < 0 ∨ n ≤ i.toNatClampNeg then none else some (f i.toNatClampNeg)
def ast (f : Nat → Int32) (n : Nat) (i x : Int32) : Option (Nat → Int32) := if i < 0 ∨ n ≤ i.toNatClampNeg then none else some (upd f i.toNatClampNeg x)
def cst (f : Nat → Int32) (n : Nat) (i x : Int32) : Option (Nat → Int32) := if i < 0 ∨ n ≤ i.toNatClampNeg then none else some (upd f i.toNatClampNeg (vp_nar .char x))
def imin (x y : Int32) : Int32 := if y < x then y else x
def imax (x y : Int32) : Int32 := if x < y then y else x
theorem ald_in {f : Nat → Int32} {n : Nat} {i v : Int32} (h : ald f n i = some v) : vp_in i n ∧ f i.toNatClampNeg = v := by
  unfold ald at h
  by_cases c : i < 0 ∨ n ≤ i.toNatClampNeg
  · rw [if_pos c] at h; cases h
  · rw [if_neg c] at h; exact ⟨c, Option.some.inj h⟩
theorem ast_in {f g : Nat → Int32} {n : Nat} {i x : Int32} (h : ast f n i x = some g) : vp_in i n ∧ upd f i.toNatClampNeg x = g := by
  unfold ast at h
  by_cases c : i < 0 ∨ n ≤ i.toNatClampNeg
  · rw [if_pos c] at h; cases h
  · rw [if_neg c] at h; exact ⟨c, Option.some.inj h⟩
theorem cst_in {f g : Nat → Int32} {n : Nat} {i x : Int32} (h : cst f n i x = some g) : vp_in i n ∧ upd f i.toNatClampNeg (vp_nar .char x) = g := by
  unfold cst at h
  by_cases c : i < 0 ∨ n ≤ i.toNatClampNeg
  · rw [if_pos c] at h; cases h
  · rw [if_neg c] at h; exact ⟨c, Option.some.inj h⟩
abbrev FD : Type := (Nat → Int32) × (Nat → Int32) × (Nat → Int32) × Int32 × Int32 × Int32 × Int32 × Int32 × Int32 × Int32
def FD.th (F : FD) : (Nat → Int32) := F.1
def FD.st (F : FD) : (Nat → Int32) := F.2.1
def FD.ac (F : FD) : (Nat → Int32) := F.2.2.1
def FD.rows (F : FD) : Int32 := F.2.2.2.1
def FD.ticks (F : FD) : Int32 := F.2.2.2.2.1
def FD.drops (F : FD) : Int32 := F.2.2.2.2.2.1
def FD.bursts (F : FD) : Int32 := F.2.2.2.2.2.2.1
def FD.burstReason (F : FD) : Int32 := F.2.2.2.2.2.2.2.1
def FD.burstNumber (F : FD) : Int32 := F.2.2.2.2.2.2.2.2.1
def FD.ticksBeforeBurst (F : FD) : Int32 := F.2.2.2.2.2.2.2.2.2
abbrev TD : Type := (Nat → Int32) × (Nat → Int32) × Int32 × Int32 × Int32 × Int32
def TD.sg (F : TD) : (Nat → Int32) := F.1
def TD.th (F : TD) : (Nat → Int32) := F.2.1
def TD.length (F : TD) : Int32 := F.2.2.1
def TD.rows (F : TD) : Int32 := F.2.2.2.1
def TD.position (F : TD) : Int32 := F.2.2.2.2.1
def TD.reason (F : TD) : Int32 := F.2.2.2.2.2
abbrev MD : Type := (Nat → Int32) × (Nat → Int32) × (Nat → Int32) × (Nat → Int32) × Int32 × Int32 × Int32 × Int32 × Int32 × Int32
def MD.st (F : MD) : (Nat → Int32) := F.1
def MD.past (F : MD) : (Nat → Int32) := F.2.1
def MD.aside (F : MD) : (Nat → Int32) := F.2.2.1
def MD.text (F : MD) : (Nat → Int32) := F.2.2.2.1
def MD.pasts (F : MD) : Int32 := F.2.2.2.2.1
def MD.length (F : MD) : Int32 := F.2.2.2.2.2.1
def MD.spot (F : MD) : Int32 := F.2.2.2.2.2.2.1
def MD.itsThickness (F : MD) : Int32 := F.2.2.2.2.2.2.2.1
def MD.itsRows (F : MD) : Int32 := F.2.2.2.2.2.2.2.2.1
def MD.from_ (F : MD) : Int32 := F.2.2.2.2.2.2.2.2.2
def mkFD (th : Nat → Int32) (st : Nat → Int32) (ac : Nat → Int32) (rows : Int32) (ticks : Int32) (drops : Int32) (bursts : Int32) (burstReason : Int32) (burstNumber : Int32) (ticksBeforeBurst : Int32) : FD := (th, st, ac, rows, ticks, drops, bursts, burstReason, burstNumber, ticksBeforeBurst)
def mkTD (sg : Nat → Int32) (th : Nat → Int32) (length : Int32) (rows : Int32) (position : Int32) (reason : Int32) : TD := (sg, th, length, rows, position, reason)
def mkMD (st : Nat → Int32) (past : Nat → Int32) (aside : Nat → Int32) (text : Nat → Int32) (pasts : Int32) (length : Int32) (spot : Int32) (itsThickness : Int32) (itsRows : Int32) (from_ : Int32) : MD := (st, past, aside, text, pasts, length, spot, itsThickness, itsRows, from_)
abbrev AF : Type := Nat × Nat × Nat × Nat
abbrev AT : Type := Nat × Nat × Nat
abbrev AM : Type := Nat × Nat × Nat × Nat × Nat
abbrev AH : Type := Nat × Nat
abbrev K3 : Type := ClassId × ClassId × ClassId
abbrev tyK (q : K3) : List (ClassId × FieldType) := [(q.1, .int), (q.2.1, .char), (q.2.2, .object "SoapFilm$Film")]
abbrev wF (ks : K3) (a : AF) (F : FD) : va_W := [(a.1, .inr (0, [.ref a.2.1, .ref a.2.2.1, .ref a.2.2.2, .int F.rows, .int F.ticks, .int F.drops, .int F.bursts, .int F.burstReason, .int F.burstNumber, .int F.ticksBeforeBurst])), (a.2.1, .inl (ks.1, 24, .inl F.th)), (a.2.2.1, .inl (ks.1, 7, .inl F.st)), (a.2.2.2, .inl (ks.1, 7, .inl F.ac))]
abbrev wT (ks : K3) (t : AT) (X : TD) : va_W := [(t.1, .inr (1, [.ref t.2.1, .int X.length, .ref t.2.2, .int X.rows, .int X.position, .int X.reason])), (t.2.1, .inl (ks.2.1, 100, .inl X.sg)), (t.2.2, .inl (ks.1, 24, .inl X.th))]
abbrev wM (ks : K3) (g : AM) (M : MD) : va_W := [(g.1, .inr (4, [.ref g.2.1, .ref g.2.2.1, .ref g.2.2.2.1, .int M.pasts, .ref g.2.2.2.2, .int M.length, .int M.spot, .int M.itsThickness, .int M.itsRows, .int M.from_])), (g.2.1, .inl (ks.1, 44, .inl M.st)), (g.2.2.1, .inl (ks.1, 220, .inl M.past)), (g.2.2.2.1, .inl (ks.1, 44, .inl M.aside)), (g.2.2.2.2, .inl (ks.1, 100, .inl M.text))]
abbrev wS (o : Nat) (a b : AF) (h : AH) (t : AT) : va_W := [(o, .inr (3, [.ref a.1, .ref b.1, .ref h.1, .ref t.1]))]
abbrev wH (ks : K3) (h : AH) (hA : Nat → AF) (hz : Int32) (hS : Nat → FD) : va_W := [(h.1, .inr (2, [.ref h.2, .int hz])), (h.2, .inl (ks.2.2, 5, .inr (.inr (.inr (.inr (fun i => some (hA i).1)))))) ] ++ (wF ks (hA 0) (hS 0) ++ (wF ks (hA 1) (hS 1) ++ (wF ks (hA 2) (hS 2) ++ (wF ks (hA 3) (hS 3) ++ wF ks (hA 4) (hS 4)))))
/-- what the tables say: the classes, the arrays, the private members of nest mates -/
def xK (D : va_G) (ks : K3) (U : State) : Prop := va_K D vwCl (tyK ks) U ∧ va_Nw (.methodLinkNest RX1 43 yX4_isThickness "SoapFilm") U ∧ va_Nw (.methodLinkNest RX1 47 yX4_isBetween "SoapFilm") U ∧ va_Nw (.methodLinkNest RX4 28 yX1_init "SoapFilm") U ∧ va_Nw (.fieldLinkNest RX0 21 "SoapFilm" "FIRST_SETTING" "[I" "SoapFilm") U ∧ va_AO "SoapFilm$Film" U
theorem xK.moved {D : va_G} {ks : K3} {u U : State} (hW : u.WarmedH U.vm) (h : xK D ks u) : xK D ks U := ⟨va_K.moved hW.alike h.1, va_Nw.warmM hW h.2.1, va_Nw.warmM hW h.2.2.1, va_Nw.warmM hW h.2.2.2.1, va_Nw.warmF hW h.2.2.2.2.1, va_AO.moved hW.alike h.2.2.2.2.2⟩
theorem xK.calling {D : va_G} {ks : K3} {U : State} {g : JFrame} {mk : MethodId} {a : Array Value} (h : xK D ks U) : xK D ks (U.calling g mk a) := ⟨va_K.moved (u := U) (U := U.calling g mk a) (Vm.Alike.refl U.vm) h.1, va_Nw.same rfl rfl h.2.1, va_Nw.same rfl rfl h.2.2.1, va_Nw.same rfl rfl h.2.2.2.1, va_Nw.same rfl rfl h.2.2.2.2.1, va_AO.moved (u := U) (U := U.calling g mk a) (Vm.Alike.refl U.vm) h.2.2.2.2.2⟩
theorem va_P0 (D : va_G) (cl : List vw_C) (H : Heap) : va_P D cl [] H := fun k q h => by simp at h
theorem ifT {α : Type} {c : Prop} [Decidable c] {a b : Option α} {r : Option α} (h : (if c then a else b) = r) (hc : c) : a = r := by rw [if_pos hc] at h; exact h
theorem ifF {α : Type} {c : Prop} [Decidable c] {a b : Option α} {r : Option α} (h : (if c then a else b) = r) (hc : ¬ c) : b = r := by rw [if_neg hc] at h; exact h
theorem inj2 {α β : Type} {a a' : α} {b b' : β} (h : some (a, b) = some (a', b')) : a = a' ∧ b = b' := by cases h; exact ⟨rfl, rfl⟩
theorem inj3 {α β γ : Type} {a a' : α} {b b' : β} {c c' : γ} (h : some (a, b, c) = some (a', b', c')) : a = a' ∧ b = b' ∧ c = c' := by cases h; exact ⟨rfl, rfl, rfl⟩
theorem inj4 {α β γ δ : Type} {a a' : α} {b b' : β} {c c' : γ} {d d' : δ} (h : some (a, b, c, d) = some (a', b', c', d')) : a = a' ∧ b = b' ∧ c = c' ∧ d = d' := by cases h; exact ⟨rfl, rfl, rfl, rfl⟩
theorem inj5 {α β γ δ ε : Type} {a a' : α} {b b' : β} {c c' : γ} {d d' : δ} {e e' : ε} (h : some (a, b, c, d, e) = some (a', b', c', d', e')) : a = a' ∧ b = b' ∧ c = c' ∧ d = d' ∧ e = e' := by cases h; exact ⟨rfl, rfl, rfl, rfl, rfl⟩
theorem inj6 {α β γ δ ε ζ : Type} {a a' : α} {b b' : β} {c c' : γ} {d d' : δ} {e e' : ε} {f f' : ζ} (h : some (a, b, c, d, e, f) = some (a', b', c', d', e', f')) : a = a' ∧ b = b' ∧ c = c' ∧ d = d' ∧ e = e' ∧ f = f' := by cases h; exact ⟨rfl, rfl, rfl, rfl, rfl, rfl⟩
def bind3 {α β γ δ : Type} (o : Option (α × β × γ)) (f : α → β → γ → Option δ) : Option δ := o.bind fun q => f q.1 q.2.1 q.2.2
theorem bnd3 {α β γ δ : Type} {o : Option (α × β × γ)} {f : α → β → γ → Option δ} {r : δ} (h : bind3 o f = some r) : ∃ a b c, o = some (a, b, c) ∧ f a b c = some r := by
  cases o with
  | none => cases h
  | some q => exact ⟨q.1, q.2.1, q.2.2, rfl, h⟩
def bind4 {α β γ δ ε : Type} (o : Option (α × β × γ × δ)) (f : α → β → γ → δ → Option ε) : Option ε := o.bind fun q => f q.1 q.2.1 q.2.2.1 q.2.2.2
theorem bnd4 {α β γ δ ε : Type} {o : Option (α × β × γ × δ)} {f : α → β → γ → δ → Option ε} {r : ε} (h : bind4 o f = some r) : ∃ a b c d, o = some (a, b, c, d) ∧ f a b c d = some r := by
  cases o with
  | none => cases h
  | some q => exact ⟨q.1, q.2.1, q.2.2.1, q.2.2.2, rfl, h⟩
def jshl (x y : Int32) : Int32 := x <<< (y &&& 31)
def jshr (x y : Int32) : Int32 := x >>> (y &&& 31)
def iushr (x y : Int32) : Int32 := (x.toUInt32 >>> (y.toUInt32 &&& Int32.toUInt32 31)).toInt32
def nm {β : Type} (x : Int32) (f : Int32 → Option β) : Option β := f x
theorem nmd {β : Type} {x : Int32} {f : Int32 → Option β} {r : β} (h : nm x f = some r) : ∃ w, w = x ∧ f w = some r := ⟨x, rfl, h⟩
def i2c (x : Int32) : Int32 := (x.toUInt32 % 65536).toInt32
def tb_LEAST_SETTING : Nat → Int32 := fun j => match j with
  | 3 => 1
  | 5 => 1
  | 6 => 1
  | _ => 0
def tb_GREATEST_SETTING : Nat → Int32 := fun j => match j with
  | 0 => 100
  | 1 => 50
  | 2 => 500
  | 3 => 200
  | 4 => 100
  | 5 => 24
  | _ => 100000
def tb_FIRST_SETTING : Nat → Int32 := fun j => match j with
  | 0 => 20
  | 1 => 1
  | 2 => 10
  | 3 => 30
  | 4 => 5
  | 5 => 12
  | _ => 3000
/-- what set needs of the tables that nobody writes -/
def xE1 (n : String) (f : Nat → Int32) (A : Nat → Prop) (U : State) (H : Heap) : Prop := ∃ t : Nat, va_Z "SoapFilm" n "[I" (.ref t) A U H ∧ va_T .int t 7 (fun j => .int (f j)) A U H
def xEset (A : Nat → Prop) (U : State) (H : Heap) : Prop := xE1 "LEAST_SETTING" tb_LEAST_SETTING A U H ∧ xE1 "GREATEST_SETTING" tb_GREATEST_SETTING A U H
theorem xE1.go {n : String} {f : Nat → Int32} {A B : Nat → Prop} {u U : State} {H H1 : Heap} (h : xE1 n f A u H) (hvm : u.vm.Alike U.vm) (hq : ∀ a : Nat, a < H.size → ¬ A a → H1[a]? = H[a]?) (hAB : ∀ q, B q → A q) : xE1 n f B U H1 := by
  obtain ⟨t, h1, h2⟩ := h
  exact ⟨t, ((h1.moved hvm).kept hq).narrow hAB, ((h2.moved hvm).kept hq).narrow hAB⟩
theorem xEset.go {A B : Nat → Prop} {u U : State} {H H1 : Heap} (h : xEset A u H) (hvm : u.vm.Alike U.vm) (hq : ∀ a : Nat, a < H.size → ¬ A a → H1[a]? = H[a]?) (hAB : ∀ q, B q → A q) : xEset B U H1 := ⟨h.1.go hvm hq hAB, h.2.go hvm hq hAB⟩
/-- a method that only reads: its answer is r, the heap stays -/
def MetR (l : Launch) (y : MethodName) (ws : List Cond) (rm : Room) (D : va_G) (ks : K3) (av : List Value) (wc : va_W) (r : Int32) (hz : Prop) : Prop :=
  Met l y ws rm (va_Pc av (fun U => va_P D vwCl wc U.heap ∧ xK D ks U)) (vp_Si (fun z => z = r ∧ hz)) 0 0 (fun _ => False)
/-- a method without an answer: its world wc becomes w1, no cell is made -/
def MetV (l : Launch) (y : MethodName) (ws : List Cond) (rm : Room) (D : va_G) (ks : K3) (av : List Value) (wc w1 : va_W) : Prop :=
  ∀ sz : Nat, Met l y ws rm (va_Pc av (fun U => U.heap.size = sz ∧ va_P D vwCl wc U.heap ∧ xK D ks U ∧ va_D (fun _ => True) wc)) (va_Qv (fun _ : Unit => True) (fun _ t => va_P D vwCl w1 t.heap ∧ va_D (va_A wc sz) w1) (va_A wc sz)) 0 0 (va_A wc sz)
/-- a method with an int as its answer: r; its world wc becomes w1, no cell is made -/
def MetI (l : Launch) (y : MethodName) (ws : List Cond) (rm : Room) (D : va_G) (ks : K3) (av : List Value) (wc w1 : va_W) (r : Int32) (hz : Prop) : Prop :=
  ∀ sz : Nat, Met l y ws rm (va_Pc av (fun U => U.heap.size = sz ∧ va_P D vwCl wc U.heap ∧ xK D ks U ∧ va_D (fun _ => True) wc)) (va_Qi (fun (z : Int32) (_ : Unit) => z = r ∧ hz) (fun _ t => va_P D vwCl w1 t.heap ∧ va_D (va_A wc sz) w1) (va_A wc sz)) 0 0 (va_A wc sz)
section OWN
variable {l : Launch} {y : MethodName} {ws ws' : List Cond} {rm : Room} {D : va_G} {ks : K3} {av : List Value} {wc w1 : va_W} {r : Int32} {hz : Prop} {cc : ByteArray} {maxL : Nat} {ret : Option FieldType}
theorem MetR.of (hy : plainName y.cls = true) (hw : ws = Cond.code y cc maxL ret :: ws') (hn : (lg_sl av).length ≤ maxL)
    (body : ∀ (p : Program) (e : Env) (s : State) (m : MethodId) (below : List Frame) (meth : Method) (c : Code) (Q : State → Prop),
      p.tables.exec = Jvm.exec → c.code = cc → c.maxLocals = maxL → (∀ w ∈ ws, w.before av.toArray s = true) → s.vm.findClass y.cls = some m.cls →
      va_P D vwCl wc s.heap → xK D ks s →
      (hz → ∀ (pc : Nat) (ls : Array Slot), decode cc pc = .ok (.ireturn, 1) → (∀ ty, ret = some ty → narrow ty (.int r) = .int r) → W p l e rm s m av.toArray below meth c s.heap [] 0 0 Q (F0 m pc ls [.int r])) →
      ∀ (ls : Array Slot), lv_has ls maxL (lv_args 0 av) → W p l e rm s m av.toArray below meth c s.heap [] 0 0 Q (F0 m 0 ls [])) (hret : ∃ ty, ret = some ty) : MetR l y ws rm D ks av wc r hz := by
  obtain ⟨ty, rfl⟩ := hret
  refine Met.ofW (cc := cc) (maxL := maxL) (ret := some ty) hy hw ?_
  intro p e s m args below meth c s₁ B hml hv
  obtain ⟨rfl, hP, hK⟩ := hv
  have hlocks := B.notSynchronized
  rw [lg_entry_eq]
  refine body p e s m below meth c _ B.exec B.bytes hml (atoms_spec (ws := ws) B.pre) (findClass_of_methodNamed B.named) hP hK (fun h pc ls hd hna => ?_) _ (lv_entry av hn)
  exact W.zret (v := r) (ty := ty) B.exec B.bytes B.returns (hna ty rfl) (fun t ht hW => ⟨r, rfl, ⟨rfl, h⟩, ht⟩) (fun q hq => by cases hq) hd
theorem MetV.of (hy : plainName y.cls = true) (hw : ws = Cond.code y cc maxL none :: ws') (hn : (lg_sl av).length ≤ maxL)
    (body : ∀ (p : Program) (e : Env) (s : State) (m : MethodId) (below : List Frame) (meth : Method) (c : Code) (Q : State → Prop) (A : Nat → Prop),
      p.tables.exec = Jvm.exec → c.code = cc → c.maxLocals = maxL → (∀ w ∈ ws, w.before av.toArray s = true) → s.vm.findClass y.cls = some m.cls →
      va_P D vwCl wc s.heap → xK D ks s → va_D A wc → (∀ q, s.heap.size ≤ q → A q) →
      (∀ (H : Heap) (locs : List Loc) (pc : Nat) (ls : Array Slot), decode cc pc = .ok (.return_, 1) → va_P D vwCl w1 H → va_D A w1 → va_S A s.heap H locs → W p l e rm s m av.toArray below meth c H locs 0 0 Q (F0 m pc ls [])) →
      ∀ (ls : Array Slot), lv_has ls maxL (lv_args 0 av) → W p l e rm s m av.toArray below meth c s.heap [] 0 0 Q (F0 m 0 ls [])) : MetV l y ws rm D ks av wc w1 := by
  intro sz
  refine Met.ofW (cc := cc) (maxL := maxL) (ret := none) hy hw ?_
  intro p e s m args below meth c s₁ B hml hv
  obtain ⟨rfl, hsz, hP, hK, hD⟩ := hv
  have hlocks := B.notSynchronized
  rw [lg_entry_eq]
  subst hsz
  refine body p e s m below meth c _ (va_A wc s.heap.size) B.exec B.bytes hml (atoms_spec (ws := ws) B.pre) (findClass_of_methodNamed B.named) hP hK hD.self (fun q h => Or.inr h) (fun H locs pc ls hd hP1 hD1 hS1 => ?_) _ (lv_entry av hn)
  exact W.vret B.exec B.bytes B.returns (fun t ht hW => ⟨⟨(), rfl, trivial, by rw [ht]; exact hP1, hD1⟩, hS1.F ht⟩) hS1.2.2 hd
theorem MetI.of (hy : plainName y.cls = true) (hw : ws = Cond.code y cc maxL ret :: ws') (hn : (lg_sl av).length ≤ maxL)
    (body : ∀ (p : Program) (e : Env) (s : State) (m : MethodId) (below : List Frame) (meth : Method) (c : Code) (Q : State → Prop) (A : Nat → Prop),
      p.tables.exec = Jvm.exec → c.code = cc → c.maxLocals = maxL → (∀ w ∈ ws, w.before av.toArray s = true) → s.vm.findClass y.cls = some m.cls →
      va_P D vwCl wc s.heap → xK D ks s → va_D A wc → (∀ q, s.heap.size ≤ q → A q) →
      (hz → ∀ (H : Heap) (locs : List Loc) (pc : Nat) (ls : Array Slot), decode cc pc = .ok (.ireturn, 1) → (∀ ty, ret = some ty → narrow ty (.int r) = .int r) → va_P D vwCl w1 H → va_D A w1 → va_S A s.heap H locs → W p l e rm s m av.toArray below meth c H locs 0 0 Q (F0 m pc ls [.int r])) →
      ∀ (ls : Array Slot), lv_has ls maxL (lv_args 0 av) → W p l e rm s m av.toArray below meth c s.heap [] 0 0 Q (F0 m 0 ls [])) (hret : ∃ ty, ret = some ty) : MetI l y ws rm D ks av wc w1 r hz := by
  intro sz
  obtain ⟨ty, rfl⟩ := hret
  refine Met.ofW (cc := cc) (maxL := maxL) (ret := some ty) hy hw ?_
  intro p e s m args below meth c s₁ B hml hv
  obtain ⟨rfl, hsz, hP, hK, hD⟩ := hv
  have hlocks := B.notSynchronized
  rw [lg_entry_eq]
  subst hsz
  refine body p e s m below meth c _ (va_A wc s.heap.size) B.exec B.bytes hml (atoms_spec (ws := ws) B.pre) (findClass_of_methodNamed B.named) hP hK hD.self (fun q h => Or.inr h) (fun h H locs pc ls hd hna hP1 hD1 hS1 => ?_) _ (lv_entry av hn)
  exact W.zret (v := r) (ty := ty) B.exec B.bytes B.returns (hna ty rfl) (fun t ht hW => ⟨⟨r, (), rfl, ⟨rfl, h⟩, by rw [ht]; exact hP1, hD1⟩, hS1.F ht⟩) hS1.2.2 hd
end OWN
section OWNC
variable {p : Program} {l : Launch} {e : Env} {R : Room} {s : State} {m : MethodId} {args : Array Value} {below : List Frame} {meth : Method} {c : Code} {H H0 : Heap} {locs : List Loc} {cells slots : Nat} {Q : State → Prop} {pc : Nat} {ls : Array Slot} {rest st0 As : List Value} {A : Nat → Prop} {cc bytes : ByteArray} {nL maxL n index : Nat} {own C : String} {y : MethodName} {ret : Option FieldType} {ws Ts : List Cond} {rm : Room} {D : va_G} {ks : K3} {tys : List (ClassId × FieldType)} {b : Nat} {wc w1 wr w wn : va_W} {r : Int32} {hz : Prop} {fA : Nat → Int32} {gA : Nat → Int32} {nA : Nat} {i x v : Int32} {cA : ClassId} {a : Nat}
theorem xa_iald (hx : p.tables.exec = Jvm.exec) (hb : c.code = cc) (hK : va_K D vwCl tys s) (hP : va_P D vwCl w H) (hv : ald fA nA i = some v) (q0 t0 : Nat) (ha : w[q0]? = some (a, .inl (cA, nA, .inl fA))) (ht : tys[t0]? = some (cA, .int)) (hdg : decode cc pc = .ok (.iaload, 1))
    (kk : W p l e R s m args below meth c H locs cells slots Q (F0 m (pc + 1) ls (.int v :: rest))) : W p l e R s m args below meth c H locs cells slots Q (F0 m pc ls (.int i :: .ref a :: rest)) := by
  obtain ⟨h1, h2⟩ := ald_in hv
  subst h2
  exact va_iald hx hb hK hP q0 t0 ha ht h1 hdg kk
theorem xa_cald (hx : p.tables.exec = Jvm.exec) (hb : c.code = cc) (hK : va_K D vwCl tys s) (hP : va_P D vwCl w H) (hv : ald fA nA i = some v) (q0 t0 : Nat) (ha : w[q0]? = some (a, .inl (cA, nA, .inl fA))) (ht : tys[t0]? = some (cA, .char)) (hdg : decode cc pc = .ok (.caload, 1))
    (kk : W p l e R s m args below meth c H locs cells slots Q (F0 m (pc + 1) ls (.int v :: rest))) : W p l e R s m args below meth c H locs cells slots Q (F0 m pc ls (.int i :: .ref a :: rest)) := by
  obtain ⟨h1, h2⟩ := ald_in hv
  subst h2
  exact va_cald hx hb hK hP q0 t0 ha ht h1 hdg kk
theorem xa_iast (hx : p.tables.exec = Jvm.exec) (hb : c.code = cc) (hK : va_K D vwCl tys s) (hP : va_P D vwCl w H) (hD : va_D A w) (hS : va_S A H0 H locs) (hv : ast fA nA i x = some gA) (q0 t0 : Nat) (ha : w[q0]? = some (a, .inl (cA, nA, .inl fA))) (ht : tys[t0]? = some (cA, .int)) (hdg : decode cc pc = .ok (.iastore, 1)) (hw : w.set q0 (a, .inl (cA, nA, .inl gA)) = wn)
    (kk : ∀ (H1 : Heap) (locs1 : List Loc), va_P D vwCl wn H1 → va_D A wn → va_S A H0 H1 locs1 → W p l e R s m args below meth c H1 locs1 cells slots Q (F0 m (pc + 1) ls rest)) : W p l e R s m args below meth c H locs cells slots Q (F0 m pc ls (.int x :: .int i :: .ref a :: rest)) := by
  obtain ⟨h1, h2⟩ := ast_in hv
  subst h2; subst hw
  exact va_iast hx hb hK hP hD hS q0 t0 ha ht h1 hdg kk
theorem xa_cast (hx : p.tables.exec = Jvm.exec) (hb : c.code = cc) (hK : va_K D vwCl tys s) (hP : va_P D vwCl w H) (hD : va_D A w) (hS : va_S A H0 H locs) (hv : cst fA nA i x = some gA) (q0 t0 : Nat) (ha : w[q0]? = some (a, .inl (cA, nA, .inl fA))) (ht : tys[t0]? = some (cA, .char)) (hdg : decode cc pc = .ok (.castore, 1)) (hw : w.set q0 (a, .inl (cA, nA, .inl gA)) = wn)
    (kk : ∀ (H1 : Heap) (locs1 : List Loc), va_P D vwCl wn H1 → va_D A wn → va_S A H0 H1 locs1 → W p l e R s m args below meth c H1 locs1 cells slots Q (F0 m (pc + 1) ls rest)) : W p l e R s m args below meth c H locs cells slots Q (F0 m pc ls (.int x :: .int i :: .ref a :: rest)) := by
  obtain ⟨h1, h2⟩ := cst_in hv
  subst h2; subst hw
  exact va_cast hx hb hK hP hD hS q0 t0 ha ht h1 hdg kk
theorem xputI {own ref C : String} {T : u_T} {N ci index : Nat} (hx : p.tables.exec = Jvm.exec) (hb : c.code = cc) (hts : ∀ w ∈ Ts, w.before args s = true) (hin : ∀ w ∈ u_ws C T N, w ∈ Ts) (ty0 : Nat → FieldType) (hty : ∀ k, k < N → parseFieldDescriptor (T k).2.2.1 = some (ty0 k)) (hnm : ∀ a, a < N → ∀ b, b < N → a ≠ b → (T a).2.1 ≠ (T b).2.1) (hown : s.vm.findClass own = some m.cls) (hK : va_K D vwCl tys s) (hP : va_P D vwCl w H) (hD : va_D A w) (hS : va_S A H0 H locs) (q0 : Nat) {fs : List Value} (he : w[q0]? = some (a, .inr (ci, fs))) (hc : vwCl[ci]? = some (C, T, N)) (k : Nat) (hk : k < N) (hlink : (Cond.fieldLink own index ref (T k).2.1 (T k).2.2.1).before args s = true) (hsame : ∀ x, s.fieldFound? (T k).1 (T k).2.1 (T k).2.2.1 = some x → s.fieldFound? ref (T k).2.1 (T k).2.2.1 = some x) (hfin : (T k).2.2.2 = false) (hd : parseFieldDescriptor (T k).2.2.1 = some .int) (hl : k < fs.length)
    (hdg : decode cc pc = .ok (.putfield index, 3)) (hw : w.set q0 (a, .inr (ci, fs.set k (.int v))) = wn) (kk : ∀ (H1 : Heap) (locs1 : List Loc), va_P D vwCl wn H1 → va_D A wn → va_S A H0 H1 locs1 → W p l e R s m args below meth c H1 locs1 cells slots Q (F0 m (pc + 3) ls rest)) : W p l e R s m args below meth c H locs cells slots Q (F0 m pc ls (.int v :: .ref a :: rest)) := by
  subst hw
  exact va_put hx hb hts hin ty0 hty hnm hown hK hP hD hS q0 he hc k hk hlink hsame hfin hd rfl rfl hl hdg kk
theorem xblR {av : List Value} {wc : va_W} : FrameBlind (va_Pc av (fun U => va_P D vwCl wc U.heap ∧ xK D ks U)) := fun a U g mk q => by
  obtain ⟨q0, qP, qK⟩ := q
  exact ⟨q0, qP, qK.calling⟩
theorem xblV {av : List Value} {wc : va_W} {sz : Nat} : FrameBlind (va_Pc av (fun U => U.heap.size = sz ∧ va_P D vwCl wc U.heap ∧ xK D ks U ∧ va_D (fun _ => True) wc)) := fun a U g mk q => by
  obtain ⟨q0, q1, qP, qK, qD⟩ := q
  exact ⟨q0, q1, qP, qK.calling, qD⟩
/-- a call of a reading method of an object of ours -/
theorem xcallRV (S : CallFix p m c cc nL s args Ts own) (hM : MetR l y ws rm D ks (.ref b :: As) wc r hz) (cw : CallW R s args own C index y bytes maxL ret ws rm 0 0 n) (hX : xK D ks s) (hP : va_P D vwCl wc H) {ci q0 : Nat} {T : u_T} {N : Nat} {fs : List Value} (hc : vwCl[ci]? = some (C, T, N)) (he : wc[q0]? = some (b, .inr (ci, fs)))
    (hn : As.length = n) (hsize : ls.size = nL) (hst : st0 = As.reverse ++ .ref b :: rest) (hW : (rest.map fun v => v.category).sum ≤ 8) (hdg : decode cc pc = .ok (.invokevirtual index, 3)) (hf : cells ≤ R.cells ∧ slots ≤ R.slots)
    (kk : hz → W p l e R s m args below meth c H locs cells slots Q (F0 m (pc + 3) ls (.int r :: rest))) : W p l e R s m args below meth c H locs cells slots Q (F0 m pc ls st0) := by
  refine vp_callSi (W.runV S hM cw ⟨xblR, ?_, fun U hU hW => ⟨rfl, by rw [hU]; exact hP, xK.moved hW hX⟩⟩ rfl hn hsize hst (lv_room hW) hdg hf) (fun z hzz => ?_)
  · exact va_recv hX.1 hP hc he
  · obtain ⟨rfl, h⟩ := hzz
    exact kk h
/-- a call of a reading static method -/
theorem xcallRS (S : CallFix p m c cc nL s args Ts own) (hM : MetR l y ws rm D ks As wc r hz) (cw : CallB R s args own index y bytes maxL ret ws rm 0 0 n ∧ (Cond.static y).before args s = true) (hX : xK D ks s) (hP : va_P D vwCl wc H)
    (hn : As.length = n) (hsize : ls.size = nL) (hst : st0 = As.reverse ++ rest) (hW : (rest.map fun v => v.category).sum ≤ 8) (hdg : decode cc pc = .ok (.invokestatic index, 3)) (hf : cells ≤ R.cells ∧ slots ≤ R.slots)
    (kk : hz → W p l e R s m args below meth c H locs cells slots Q (F0 m (pc + 3) ls (.int r :: rest))) : W p l e R s m args below meth c H locs cells slots Q (F0 m pc ls st0) := by
  refine vp_callSi (W.runS S hM cw ⟨xblR, fun U hU hW => ⟨rfl, by rw [hU]; exact hP, xK.moved hW hX⟩⟩ rfl hn hsize hst (lv_room hW) hdg hf) (fun z hzz => ?_)
  obtain ⟨rfl, h⟩ := hzz
  exact kk h
/-- a call of a writing method of an object of ours, without an answer -/
theorem xcallV (S : CallFix p m c cc nL s args Ts own) (hM : MetV l y ws rm D ks (.ref b :: As) wc w1) (cw : CallW R s args own C index y bytes maxL ret ws rm 0 0 n) (hX : xK D ks s) (hP : va_P D vwCl w H) (hD : va_D A w) (hS : va_S A H0 H locs) (hA : ∀ q, H0.size ≤ q → A q)
    (isC isR isN : List Nat) (hC : isC.map (fun i => w[i]?) = wc.map some) (hR : isR.map (fun i => w[i]?) = wr.map some) (hN : isN.map (fun i => (wr ++ w1)[i]?) = wn.map some) (hnd : va_nd isC = true ∧ va_nd isR = true ∧ va_nd isN = true) (hdis : ∀ i ∈ isR, i ∉ isC)
    {ci q0 : Nat} {T : u_T} {N : Nat} {fs : List Value} (hc : vwCl[ci]? = some (C, T, N)) (he : wc[q0]? = some (b, .inr (ci, fs)))
    (hn : As.length = n) (hsize : ls.size = nL) (hst : st0 = As.reverse ++ .ref b :: rest) (hW : (rest.map fun v => v.category).sum ≤ 8) (hdg : decode cc pc = .ok (.invokevirtual index, 3)) (hf : cells ≤ R.cells ∧ slots ≤ R.slots)
    (kk : ∀ (H1 : Heap) (locs1 : List Loc), va_P D vwCl wn H1 → va_D A wn → va_S A H0 H1 locs1 → W p l e R s m args below meth c H1 locs1 cells slots Q (F0 m (pc + 3) ls rest)) : W p l e R s m args below meth c H locs cells slots Q (F0 m pc ls st0) := by
  have hDc := hD.sub isC hnd.1 hC
  have hPc : va_P D vwCl wc H := fun k q hk => by
    have h1 : (isC.map (fun i => w[i]?))[k]? = some (some q) := by rw [hC, List.getElem?_map, hk]; rfl
    rw [List.getElem?_map] at h1
    cases hi : isC[k]? with
    | none => rw [hi] at h1; cases h1
    | some i => rw [hi] at h1; exact hP i q (Option.some.inj h1)
  have hFc := va_free hD hS hA isC hC
  refine va_callv (va_runV S (hM H.size) cw ⟨xblV, va_recv hX.1 hPc hc he, fun U hU hW => ⟨rfl, by rw [hU], by rw [hU]; exact hPc, xK.moved hW hX, hDc.weaken (fun _ _ _ _ => trivial)⟩⟩ rfl hn hsize hst (lv_room hW) hdg hf) hS (fun q _ h => hFc q h) hFc (fun u t H1 locs1 ht hvm hw hB hz1 hk1 hS1 => ?_)
  obtain ⟨hP1, hD1⟩ := hB
  rw [ht] at hP1
  obtain ⟨hP2, hD2⟩ := va_join hP hD isC isR hC hR hnd.2.1 hdis hk1 hFc hP1 hD1
  refine kk H1 locs1 (fun k q hk => ?_) (hD2.sub isN hnd.2.2 hN) hS1
  have h1 : (isN.map (fun i => (wr ++ w1)[i]?))[k]? = some (some q) := by rw [hN, List.getElem?_map, hk]; rfl
  rw [List.getElem?_map] at h1
  cases hi : isN[k]? with
  | none => rw [hi] at h1; cases h1
  | some i => rw [hi] at h1; exact hP2 i q (Option.some.inj h1)
/-- the same, with an int as its answer -/
theorem xcallI (S : CallFix p m c cc nL s args Ts own) (hM : MetI l y ws rm D ks (.ref b :: As) wc w1 r hz) (cw : CallW R s args own C index y bytes maxL ret ws rm 0 0 n) (hX : xK D ks s) (hP : va_P D vwCl w H) (hD : va_D A w) (hS : va_S A H0 H locs) (hA : ∀ q, H0.size ≤ q → A q)
    (isC isR isN : List Nat) (hC : isC.map (fun i => w[i]?) = wc.map some) (hR : isR.map (fun i => w[i]?) = wr.map some) (hN : isN.map (fun i => (wr ++ w1)[i]?) = wn.map some) (hnd : va_nd isC = true ∧ va_nd isR = true ∧ va_nd isN = true) (hdis : ∀ i ∈ isR, i ∉ isC)
    {ci q0 : Nat} {T : u_T} {N : Nat} {fs : List Value} (hc : vwCl[ci]? = some (C, T, N)) (he : wc[q0]? = some (b, .inr (ci, fs)))
    (hn : As.length = n) (hsize : ls.size = nL) (hst : st0 = As.reverse ++ .ref b :: rest) (hW : (rest.map fun v => v.category).sum ≤ 8) (hdg : decode cc pc = .ok (.invokevirtual index, 3)) (hf : cells ≤ R.cells ∧ slots ≤ R.slots)
    (kk : hz → ∀ (H1 : Heap) (locs1 : List Loc), va_P D vwCl wn H1 → va_D A wn → va_S A H0 H1 locs1 → W p l e R s m args below meth c H1 locs1 cells slots Q (F0 m (pc + 3) ls (.int r :: rest))) : W p l e R s m args below meth c H locs cells slots Q (F0 m pc ls st0) := by
  have hDc := hD.sub isC hnd.1 hC
  have hPc : va_P D vwCl wc H := fun k q hk => by
    have h1 : (isC.map (fun i => w[i]?))[k]? = some (some q) := by rw [hC, List.getElem?_map, hk]; rfl
    rw [List.getElem?_map] at h1
    cases hi : isC[k]? with
    | none => rw [hi] at h1; cases h1
    | some i => rw [hi] at h1; exact hP i q (Option.some.inj h1)
  have hFc := va_free hD hS hA isC hC
  refine va_calli (va_runV S (hM H.size) cw ⟨xblV, va_recv hX.1 hPc hc he, fun U hU hW => ⟨rfl, by rw [hU], by rw [hU]; exact hPc, xK.moved hW hX, hDc.weaken (fun _ _ _ _ => trivial)⟩⟩ rfl hn hsize hst (lv_room hW) hdg hf) hS (fun q _ h => hFc q h) hFc (fun r1 u t H1 locs1 ht hvm hw hB hz1 hk1 hS1 => ?_)
  obtain ⟨hP1, hD1⟩ := hB
  rw [ht] at hP1
  obtain ⟨hP2, hD2⟩ := va_join hP hD isC isR hC hR hnd.2.1 hdis hk1 hFc hP1 hD1
  obtain ⟨rfl, hz2⟩ := hw
  refine kk hz2 H1 locs1 (fun k q hk => ?_) (hD2.sub isN hnd.2.2 hN) hS1
  have h1 : (isN.map (fun i => (wr ++ w1)[i]?))[k]? = some (some q) := by rw [hN, List.getElem?_map, hk]; rfl
  rw [List.getElem?_map] at h1
  cases hi : isN[k]? with
  | none => rw [hi] at h1; cases h1
  | some i => rw [hi] at h1; exact hP2 i q (Option.some.inj h1)
theorem xmmin (hx : p.tables.exec = Jvm.exec) (hb : c.code = cc) (hml : c.maxLocals = nL) (hsize : ls.size = nL) (hown : s.vm.findClass own = some m.cls) (hlink : (Cond.methodLink own index Lib.Math.min.name).before args s = true) (hstat : (Cond.static Lib.Math.min.name).before args s = true) (hini : (Cond.initialized "java/lang/Math").before args s = true) (hcode : (Cond.code Lib.Math.min.name Lib.Math.min.code 2 (some .int)).before args s = true)
    (hframes : 1 ≤ R.frames) (hlocals : (rest.map fun v => v.category).sum + 13 ≤ R.locals) (hc : cells ≤ R.cells) (hs : slots ≤ R.slots) {x y : Int32} (hdg : decode cc pc = .ok (.invokestatic index, 3))
    (kk : W p l e R s m args below meth c H locs cells slots Q (F0 m (pc + 3) ls (.int (imin x y) :: rest))) : W p l e R s m args below meth c H locs cells slots Q (F0 m pc ls (.int y :: .int x :: rest)) :=
  va_mmin hx hb (by rw [hml, hsize]) hown hlink hstat hini hcode hframes hlocals hc hs hdg kk
theorem xmmax (hx : p.tables.exec = Jvm.exec) (hb : c.code = cc) (hml : c.maxLocals = nL) (hsize : ls.size = nL) (hown : s.vm.findClass own = some m.cls) (hlink : (Cond.methodLink own index Lib.Math.max.name).before args s = true) (hstat : (Cond.static Lib.Math.max.name).before args s = true) (hini : (Cond.initialized "java/lang/Math").before args s = true) (hcode : (Cond.code Lib.Math.max.name Lib.Math.max.code 2 (some .int)).before args s = true)
    (hframes : 1 ≤ R.frames) (hlocals : (rest.map fun v => v.category).sum + 13 ≤ R.locals) (hc : cells ≤ R.cells) (hs : slots ≤ R.slots) {x y : Int32} (hdg : decode cc pc = .ok (.invokestatic index, 3))
    (kk : W p l e R s m args below meth c H locs cells slots Q (F0 m (pc + 3) ls (.int (imax x y) :: rest))) : W p l e R s m args below meth c H locs cells slots Q (F0 m pc ls (.int y :: .int x :: rest)) :=
  va_mmax hx hb (by rw [hml, hsize]) hown hlink hstat hini hcode hframes hlocals hc hs hdg kk

theorem xx_ishl (hx : p.tables.exec = Jvm.exec) (hb : c.code = cc) {x y : Int32} (hdg : decode cc pc = .ok (.ishl, 1)) (k : W p l e R s m args below meth c H locs cells slots Q (F0 m (pc + 1) ls (.int (jshl x y) :: rest))) : W p l e R s m args below meth c H locs cells slots Q (F0 m pc ls (.int y :: .int x :: rest)) := lv_ishl hx hb hdg k
theorem xx_ishr (hx : p.tables.exec = Jvm.exec) (hb : c.code = cc) {x y : Int32} (hdg : decode cc pc = .ok (.ishr, 1)) (k : W p l e R s m args below meth c H locs cells slots Q (F0 m (pc + 1) ls (.int (jshr x y) :: rest))) : W p l e R s m args below meth c H locs cells slots Q (F0 m pc ls (.int y :: .int x :: rest)) := lv_ishr hx hb hdg k
theorem lv_name {x w : Int32} (ew : w = x) (k : W p l e R s m args below meth c H locs cells slots Q (F0 m pc ls (.int w :: rest))) : W p l e R s m args below meth c H locs cells slots Q (F0 m pc ls (.int x :: rest)) := by
  subst ew
  exact k
/-- a call of a reading static method of a nest mate -/
theorem xcallRSN {host : String} (S : CallFix p m c cc nL s args Ts own) (hM : MetR l y ws rm D ks As wc r hz) (cw : va_CN R s args own index y host bytes maxL ret ws rm 0 0 n ∧ (Cond.static y).before args s = true ∧ True) (hX : xK D ks s) (hP : va_P D vwCl wc H)
    (hn : As.length = n) (hsize : ls.size = nL) (hst : st0 = As.reverse ++ rest) (hW : (rest.map fun v => v.category).sum ≤ 8) (hdg : decode cc pc = .ok (.invokestatic index, 3)) (hf : cells ≤ R.cells ∧ slots ≤ R.slots)
    (kk : hz → W p l e R s m args below meth c H locs cells slots Q (F0 m (pc + 3) ls (.int r :: rest))) : W p l e R s m args below meth c H locs cells slots Q (F0 m pc ls st0) := by
  refine vp_callSi ((va_runSN S hM cw ⟨xblR, fun U hU hW => ⟨rfl, by rw [hU]; exact hP, xK.moved hW hX⟩⟩ rfl hn hsize hst (lv_room hW) hdg hf).run) (fun z hzz => ?_)
  obtain ⟨rfl, h⟩ := hzz
  exact kk h
theorem vcong {cA : ClassId} {N : Nat} {f g : Nat → Int32} (h : ∀ j, j < N → f j = g j) : vp_cell cA (N, .inl f) = vp_cell cA (N, .inl g) := by
  rw [vp_cell_i, vp_cell_i]
  unfold arrV
  have e : (fun j : Fin N => Value.int (f j.val)) = fun j => Value.int (g j.val) := funext fun j => by rw [h j.val j.isLt]
  rw [e]
/-- a whole row is copied -/
theorem xcopy (hx : p.tables.exec = Jvm.exec) (hb : c.code = cc) (hml : c.maxLocals = nL) (hsize : ls.size = nL) (hown : s.vm.findClass own = some m.cls) (hlink : (Cond.methodLink own index arraycopyName).before args s = true) (hnat : (Cond.native arraycopyName).before args s = true) (hstat : (Cond.static arraycopyName).before args s = true) (hini : (Cond.initialized "java/lang/System").before args s = true)
    (hK : va_K D vwCl tys s) (hP : va_P D vwCl w H) (hD : va_D A w) (hS : va_S A H0 H locs) (q0 q1 t0 : Nat) {a0 : Nat} (ha0 : w[q0]? = some (a0, .inl (cA, nA, .inl fA))) (ha1 : w[q1]? = some (a, .inl (cA, nA, .inl gA))) (ht0 : tys[t0]? = some (cA, .int)) {N : Int32} (h3 : ¬ N < 0) (h4 : N.toNatClampNeg = nA)
    (hframes : 1 ≤ R.frames) (hlocals : (rest.map fun v => v.category).sum + (nativeFrameWords "java/lang/System" "arraycopy" 5 + 11) ≤ R.locals) (hdg : decode cc pc = .ok (.invokestatic index, 3)) (hw : w.set q1 (a, .inl (cA, nA, .inl fA)) = wn)
    (kk : ∀ (H1 : Heap) (locs1 : List Loc), va_P D vwCl wn H1 → va_D A wn → va_S A H0 H1 locs1 → W p l e R s m args below meth c H1 locs1 cells slots Q (F0 m (pc + 3) ls rest)) : W p l e R s m args below meth c H locs cells slots Q (F0 m pc ls (.int N :: .int 0 :: .ref a :: .int 0 :: .ref a0 :: rest)) := by
  subst hw
  refine va_copyi hx hb (by rw [hml, hsize]) hown hlink hnat hstat hini hK hP hD hS q0 q1 t0 t0 ha0 ha1 ht0 ht0 rfl (by decide) (by decide) h3 (by rw [h4]; exact Nat.le_of_eq (Nat.zero_add _)) (by rw [h4]; exact Nat.le_of_eq (Nat.zero_add _)) (fun i hi => rfl) hframes hlocals hdg (fun H1 locs1 hP1 hD1 hS1 => ?_)
  have hl := (List.getElem?_eq_some_iff.mp ha1).1
  refine kk H1 locs1 (fun k q hk => ?_) ⟨fun i j x y hi hj hxy => ?_, fun k q hk => ?_⟩ hS1
  · by_cases hkq : k = q1
    · subst hkq
      rw [List.getElem?_set_self hl] at hk
      cases hk
      have h9 := hP1 k (a, .inl (cA, nA, .inl (va_cpy fA gA (0 : Int32).toNatClampNeg (0 : Int32).toNatClampNeg N.toNatClampNeg))) (by rw [List.getElem?_set_self hl])
      show H1[a]? = some (vp_cell cA (nA, .inl fA))
      have h8 : H1[a]? = some (vp_cell cA (nA, .inl (va_cpy fA gA (0 : Int32).toNatClampNeg (0 : Int32).toNatClampNeg N.toNatClampNeg))) := h9
      rw [h8]
      congr 1
      refine vcong (fun j hj => ?_)
      show va_cpy fA gA 0 0 N.toNatClampNeg j = fA j
      rw [h4, sb_cpy0 hj]
    · rw [List.getElem?_set_ne (Ne.symm hkq)] at hk
      exact hP1 k q (by rw [List.getElem?_set_ne (Ne.symm hkq)]; exact hk)
  · have key : ∀ (k : Nat) (q : Nat × va_E), (w.set q1 (a, .inl (cA, nA, .inl fA)))[k]? = some q → ∃ q', (w.set q1 (a, .inl (cA, nA, .inl (va_cpy fA gA (0 : Int32).toNatClampNeg (0 : Int32).toNatClampNeg N.toNatClampNeg))))[k]? = some q' ∧ q'.1 = q.1 := by
      intro k q hk
      by_cases hkq : k = q1
      · subst hkq
        rw [List.getElem?_set_self hl] at hk
        cases hk
        exact ⟨(a, .inl (cA, nA, .inl (va_cpy fA gA (0 : Int32).toNatClampNeg (0 : Int32).toNatClampNeg N.toNatClampNeg))), List.getElem?_set_self hl, rfl⟩
      · rw [List.getElem?_set_ne (Ne.symm hkq)] at hk
        exact ⟨q, by rw [List.getElem?_set_ne (Ne.symm hkq)]; exact hk, rfl⟩
    obtain ⟨x', h1, h2⟩ := key i x hi
    obtain ⟨y', h5, h6⟩ := key j y hj
    exact hD1.1 i j x' y' h1 h5 (by rw [h2, h6, hxy])
  · by_cases hkq : k = q1
    · subst hkq
      rw [List.getElem?_set_self hl] at hk
      cases hk
      exact hD.2 k (a, .inl (cA, nA, .inl gA)) ha1
    · rw [List.getElem?_set_ne (Ne.symm hkq)] at hk
      exact hD.2 k q hk
theorem xa_tald (hx : p.tables.exec = Jvm.exec) (hb : c.code = cc) {t N : Nat} {f : Nat → Int32} (hT : va_T .int t N (fun j => .int (f j)) A s s.heap) (hS : va_S A s.heap H locs) (hv : ald f N i = some v) (hdg : decode cc pc = .ok (.iaload, 1))
    (kk : W p l e R s m args below meth c H locs cells slots Q (F0 m (pc + 1) ls (.int v :: rest))) : W p l e R s m args below meth c H locs cells slots Q (F0 m pc ls (.int i :: .ref t :: rest)) := by
  obtain ⟨h1, h2⟩ := ald_in hv
  subst h2
  exact va_ti hx hb hT hS h1 rfl hdg kk
end OWNC
/-- a method as MetI, which needs more of the start -/
def MetIE (l : Launch) (y : MethodName) (ws : List Cond) (rm : Room) (D : va_G) (ks : K3) (av : List Value) (wc w1 : va_W) (r : Int32) (hz : Prop) (E : (Nat → Prop) → State → Heap → Prop) : Prop :=
  ∀ sz : Nat, Met l y ws rm (va_Pc av (fun U => U.heap.size = sz ∧ va_P D vwCl wc U.heap ∧ xK D ks U ∧ va_D (fun _ => True) wc ∧ E (va_A wc sz) U U.heap)) (va_Qi (fun (z : Int32) (_ : Unit) => z = r ∧ hz) (fun _ t => va_P D vwCl w1 t.heap ∧ va_D (va_A wc sz) w1) (va_A wc sz)) 0 0 (va_A wc sz)
theorem MetIE.of {l : Launch} {y : MethodName} {ws ws' : List Cond} {rm : Room} {D : va_G} {ks : K3} {av : List Value} {wc w1 : va_W} {r : Int32} {hz : Prop} {E : (Nat → Prop) → State → Heap → Prop} {cc : ByteArray} {maxL : Nat} {ret : Option FieldType} (hy : plainName y.cls = true) (hw : ws = Cond.code y cc maxL ret :: ws') (hn : (lg_sl av).length ≤ maxL)
    (body : ∀ (p : Program) (e : Env) (s : State) (m : MethodId) (below : List Frame) (meth : Method) (c : Code) (Q : State → Prop) (A : Nat → Prop),
      p.tables.exec = Jvm.exec → c.code = cc → c.maxLocals = maxL → (∀ w ∈ ws, w.before av.toArray s = true) → s.vm.findClass y.cls = some m.cls →
      va_P D vwCl wc s.heap → xK D ks s → va_D A wc → (∀ q, s.heap.size ≤ q → A q) → E A s s.heap →
      (hz → ∀ (H : Heap) (locs : List Loc) (pc : Nat) (ls : Array Slot), decode cc pc = .ok (.ireturn, 1) → (∀ ty, ret = some ty → narrow ty (.int r) = .int r) → va_P D vwCl w1 H → va_D A w1 → va_S A s.heap H locs → W p l e rm s m av.toArray below meth c H locs 0 0 Q (F0 m pc ls [.int r])) →
      ∀ (ls : Array Slot), lv_has ls maxL (lv_args 0 av) → W p l e rm s m av.toArray below meth c s.heap [] 0 0 Q (F0 m 0 ls [])) (hret : ∃ ty, ret = some ty) : MetIE l y ws rm D ks av wc w1 r hz E := by
  intro sz
  obtain ⟨ty, rfl⟩ := hret
  refine Met.ofW (cc := cc) (maxL := maxL) (ret := some ty) hy hw ?_
  intro p e s m args below meth c s₁ B hml hv
  obtain ⟨rfl, hsz, hP, hK, hD, hE⟩ := hv
  have hlocks := B.notSynchronized
  rw [lg_entry_eq]
  subst hsz
  refine body p e s m below meth c _ (va_A wc s.heap.size) B.exec B.bytes hml (atoms_spec (ws := ws) B.pre) (findClass_of_methodNamed B.named) hP hK hD.self (fun q h => Or.inr h) hE (fun h H locs pc ls hd hna hP1 hD1 hS1 => ?_) _ (lv_entry av hn)
  exact W.zret (v := r) (ty := ty) B.exec B.bytes B.returns (hna ty rfl) (fun t ht hW => ⟨⟨r, (), rfl, ⟨rfl, h⟩, by rw [ht]; exact hP1, hD1⟩, hS1.F ht⟩) hS1.2.2 hd
end
