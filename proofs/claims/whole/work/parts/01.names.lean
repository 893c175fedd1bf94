-- ===== PART A: goes FIRST, ahead of the names: the tables' words, and 'selects' of the private methods out of them =====
/-- a private method of a class that the tables say can be made, by its rows of tables_1 -/
def lw_okq (q : MethodName × Nat) : Prop := (q.1.cls ≠ "java/lang/invoke/MethodHandle" ∧ q.1.cls ≠ "java/lang/invoke/VarHandle") ∧ Cond.instantiable q.1.cls q.2 ∈ tables_1 ∧ Cond.privateMethod q.1 ∈ tables_1 ∧ Cond.instanceMethod q.1 ∈ tables_1
theorem lw_p0 : lw_okq (⟨"SoapFilm$History", "dropOldest", "()V"⟩, 2) := ⟨⟨by decide +kernel, by decide +kernel⟩, List.mem_of_getElem? (i := 72) (by decide +kernel), List.mem_of_getElem? (i := 148) (by decide +kernel), List.mem_of_getElem? (i := 149) (by decide +kernel)⟩
theorem lw_p1 : lw_okq (⟨"SoapFilm$Film", "endFilm", "(I)V"⟩, 10) := ⟨⟨by decide +kernel, by decide +kernel⟩, List.mem_of_getElem? (i := 19) (by decide +kernel), List.mem_of_getElem? (i := 167) (by decide +kernel), List.mem_of_getElem? (i := 168) (by decide +kernel)⟩
theorem lw_p2 : lw_okq (⟨"SoapFilm$Film", "move", "(III)V"⟩, 10) := ⟨⟨by decide +kernel, by decide +kernel⟩, List.mem_of_getElem? (i := 19) (by decide +kernel), List.mem_of_getElem? (i := 171) (by decide +kernel), List.mem_of_getElem? (i := 172) (by decide +kernel)⟩
theorem lw_p3 : lw_okq (⟨"SoapFilm$Film", "drain", "()V"⟩, 10) := ⟨⟨by decide +kernel, by decide +kernel⟩, List.mem_of_getElem? (i := 19) (by decide +kernel), List.mem_of_getElem? (i := 220) (by decide +kernel), List.mem_of_getElem? (i := 221) (by decide +kernel)⟩
theorem lw_p4 : lw_okq (⟨"SoapFilm$Film", "giveDown", "(II)V"⟩, 10) := ⟨⟨by decide +kernel, by decide +kernel⟩, List.mem_of_getElem? (i := 19) (by decide +kernel), List.mem_of_getElem? (i := 225) (by decide +kernel), List.mem_of_getElem? (i := 226) (by decide +kernel)⟩
theorem lw_p5 : lw_okq (⟨"SoapFilm$Film", "runEdges", "()V"⟩, 10) := ⟨⟨by decide +kernel, by decide +kernel⟩, List.mem_of_getElem? (i := 19) (by decide +kernel), List.mem_of_getElem? (i := 230) (by decide +kernel), List.mem_of_getElem? (i := 231) (by decide +kernel)⟩
theorem lw_p6 : lw_okq (⟨"SoapFilm$Film", "dry", "()V"⟩, 10) := ⟨⟨by decide +kernel, by decide +kernel⟩, List.mem_of_getElem? (i := 19) (by decide +kernel), List.mem_of_getElem? (i := 238) (by decide +kernel), List.mem_of_getElem? (i := 239) (by decide +kernel)⟩
theorem lw_p7 : lw_okq (⟨"SoapFilm$Film", "letDropFall", "()V"⟩, 10) := ⟨⟨by decide +kernel, by decide +kernel⟩, List.mem_of_getElem? (i := 19) (by decide +kernel), List.mem_of_getElem? (i := 242) (by decide +kernel), List.mem_of_getElem? (i := 243) (by decide +kernel)⟩
theorem lw_p8 : lw_okq (⟨"SoapFilm$Film", "burstIfDue", "()V"⟩, 10) := ⟨⟨by decide +kernel, by decide +kernel⟩, List.mem_of_getElem? (i := 19) (by decide +kernel), List.mem_of_getElem? (i := 246) (by decide +kernel), List.mem_of_getElem? (i := 247) (by decide +kernel)⟩
theorem lw_p9 : lw_okq (⟨"SoapFilm$Film", "firstTooThin", "()I"⟩, 10) := ⟨⟨by decide +kernel, by decide +kernel⟩, List.mem_of_getElem? (i := 19) (by decide +kernel), List.mem_of_getElem? (i := 250) (by decide +kernel), List.mem_of_getElem? (i := 251) (by decide +kernel)⟩
theorem lw_p10 : lw_okq (⟨"SoapFilm$Film", "burst", "(II)V"⟩, 10) := ⟨⟨by decide +kernel, by decide +kernel⟩, List.mem_of_getElem? (i := 19) (by decide +kernel), List.mem_of_getElem? (i := 258) (by decide +kernel), List.mem_of_getElem? (i := 259) (by decide +kernel)⟩
theorem lw_p11 : lw_okq (⟨"SoapFilm", "isSo", "(II)Z"⟩, 4) := ⟨⟨by decide +kernel, by decide +kernel⟩, List.mem_of_getElem? (i := 11) (by decide +kernel), List.mem_of_getElem? (i := 366) (by decide +kernel), List.mem_of_getElem? (i := 367) (by decide +kernel)⟩
theorem lw_p12 : lw_okq (⟨"SoapFilm$FilmText", "takePart", "(II)I"⟩, 6) := ⟨⟨by decide +kernel, by decide +kernel⟩, List.mem_of_getElem? (i := 89) (by decide +kernel), List.mem_of_getElem? (i := 394) (by decide +kernel), List.mem_of_getElem? (i := 395) (by decide +kernel)⟩
theorem lw_p13 : lw_okq (⟨"SoapFilm$FilmText", "findCross", "(II)I"⟩, 6) := ⟨⟨by decide +kernel, by decide +kernel⟩, List.mem_of_getElem? (i := 89) (by decide +kernel), List.mem_of_getElem? (i := 398) (by decide +kernel), List.mem_of_getElem? (i := 399) (by decide +kernel)⟩
theorem lw_p14 : lw_okq (⟨"SoapFilm$FilmText", "number", "(III)I"⟩, 6) := ⟨⟨by decide +kernel, by decide +kernel⟩, List.mem_of_getElem? (i := 89) (by decide +kernel), List.mem_of_getElem? (i := 402) (by decide +kernel), List.mem_of_getElem? (i := 403) (by decide +kernel)⟩
theorem lw_p15 : lw_okq (⟨"SoapFilmModel", "records", "()V"⟩, 10) := ⟨⟨by decide +kernel, by decide +kernel⟩, List.mem_of_getElem? (i := 412) (by decide +kernel), List.mem_of_getElem? (i := 464) (by decide +kernel), List.mem_of_getElem? (i := 465) (by decide +kernel)⟩
def lw_privs_1 : List (MethodName × Nat) := [(⟨"SoapFilm$History", "dropOldest", "()V"⟩, 2), (⟨"SoapFilm$Film", "endFilm", "(I)V"⟩, 10), (⟨"SoapFilm$Film", "move", "(III)V"⟩, 10), (⟨"SoapFilm$Film", "drain", "()V"⟩, 10), (⟨"SoapFilm$Film", "giveDown", "(II)V"⟩, 10), (⟨"SoapFilm$Film", "runEdges", "()V"⟩, 10), (⟨"SoapFilm$Film", "dry", "()V"⟩, 10), (⟨"SoapFilm$Film", "letDropFall", "()V"⟩, 10), (⟨"SoapFilm$Film", "burstIfDue", "()V"⟩, 10), (⟨"SoapFilm$Film", "firstTooThin", "()I"⟩, 10), (⟨"SoapFilm$Film", "burst", "(II)V"⟩, 10), (⟨"SoapFilm", "isSo", "(II)Z"⟩, 4), (⟨"SoapFilm$FilmText", "takePart", "(II)I"⟩, 6), (⟨"SoapFilm$FilmText", "findCross", "(II)I"⟩, 6), (⟨"SoapFilm$FilmText", "number", "(III)I"⟩, 6), (⟨"SoapFilmModel", "records", "()V"⟩, 10)]
theorem lw_r1 : ∀ q ∈ lw_privs_1, lw_okq q := List.forall_mem_cons.mpr ⟨lw_p0, List.forall_mem_cons.mpr ⟨lw_p1, List.forall_mem_cons.mpr ⟨lw_p2, List.forall_mem_cons.mpr ⟨lw_p3, List.forall_mem_cons.mpr ⟨lw_p4, List.forall_mem_cons.mpr ⟨lw_p5, List.forall_mem_cons.mpr ⟨lw_p6, List.forall_mem_cons.mpr ⟨lw_p7, List.forall_mem_cons.mpr ⟨lw_p8, List.forall_mem_cons.mpr ⟨lw_p9, List.forall_mem_cons.mpr ⟨lw_p10, List.forall_mem_cons.mpr ⟨lw_p11, List.forall_mem_cons.mpr ⟨lw_p12, List.forall_mem_cons.mpr ⟨lw_p13, List.forall_mem_cons.mpr ⟨lw_p14, List.forall_mem_cons.mpr ⟨lw_p15, fun _ h => absurd h List.not_mem_nil⟩⟩⟩⟩⟩⟩⟩⟩⟩⟩⟩⟩⟩⟩⟩⟩
theorem lw_p16 : lw_okq (⟨"SoapFilmModel", "of", "(I)I"⟩, 10) := ⟨⟨by decide +kernel, by decide +kernel⟩, List.mem_of_getElem? (i := 412) (by decide +kernel), List.mem_of_getElem? (i := 468) (by decide +kernel), List.mem_of_getElem? (i := 469) (by decide +kernel)⟩
theorem lw_p17 : lw_okq (⟨"SoapFilmModel", "takesAway", "()V"⟩, 10) := ⟨⟨by decide +kernel, by decide +kernel⟩, List.mem_of_getElem? (i := 412) (by decide +kernel), List.mem_of_getElem? (i := 476) (by decide +kernel), List.mem_of_getElem? (i := 477) (by decide +kernel)⟩
theorem lw_p18 : lw_okq (⟨"SoapFilmModel", "liquid", "()I"⟩, 10) := ⟨⟨by decide +kernel, by decide +kernel⟩, List.mem_of_getElem? (i := 412) (by decide +kernel), List.mem_of_getElem? (i := 480) (by decide +kernel), List.mem_of_getElem? (i := 481) (by decide +kernel)⟩
theorem lw_p19 : lw_okq (⟨"SoapFilmModel", "newRow", "(I)V"⟩, 10) := ⟨⟨by decide +kernel, by decide +kernel⟩, List.mem_of_getElem? (i := 412) (by decide +kernel), List.mem_of_getElem? (i := 484) (by decide +kernel), List.mem_of_getElem? (i := 485) (by decide +kernel)⟩
theorem lw_p20 : lw_okq (⟨"SoapFilmModel", "isRow", "(I)Z"⟩, 10) := ⟨⟨by decide +kernel, by decide +kernel⟩, List.mem_of_getElem? (i := 412) (by decide +kernel), List.mem_of_getElem? (i := 492) (by decide +kernel), List.mem_of_getElem? (i := 493) (by decide +kernel)⟩
theorem lw_p21 : lw_okq (⟨"SoapFilmModel", "tick", "()Z"⟩, 10) := ⟨⟨by decide +kernel, by decide +kernel⟩, List.mem_of_getElem? (i := 412) (by decide +kernel), List.mem_of_getElem? (i := 515) (by decide +kernel), List.mem_of_getElem? (i := 516) (by decide +kernel)⟩
theorem lw_p22 : lw_okq (⟨"SoapFilmModel", "changesFilm", "()V"⟩, 10) := ⟨⟨by decide +kernel, by decide +kernel⟩, List.mem_of_getElem? (i := 412) (by decide +kernel), List.mem_of_getElem? (i := 519) (by decide +kernel), List.mem_of_getElem? (i := 520) (by decide +kernel)⟩
theorem lw_p23 : lw_okq (⟨"SoapFilmModel", "gives", "(IJ)V"⟩, 10) := ⟨⟨by decide +kernel, by decide +kernel⟩, List.mem_of_getElem? (i := 412) (by decide +kernel), List.mem_of_getElem? (i := 524) (by decide +kernel), List.mem_of_getElem? (i := 525) (by decide +kernel)⟩
theorem lw_p24 : lw_okq (⟨"SoapFilmModel", "blackOnes", "()I"⟩, 10) := ⟨⟨by decide +kernel, by decide +kernel⟩, List.mem_of_getElem? (i := 412) (by decide +kernel), List.mem_of_getElem? (i := 528) (by decide +kernel), List.mem_of_getElem? (i := 529) (by decide +kernel)⟩
theorem lw_p25 : lw_okq (⟨"SoapFilmModel", "isBlack", "(I)Z"⟩, 10) := ⟨⟨by decide +kernel, by decide +kernel⟩, List.mem_of_getElem? (i := 412) (by decide +kernel), List.mem_of_getElem? (i := 532) (by decide +kernel), List.mem_of_getElem? (i := 533) (by decide +kernel)⟩
theorem lw_p26 : lw_okq (⟨"SoapFilmModel", "mayBurst", "()V"⟩, 10) := ⟨⟨by decide +kernel, by decide +kernel⟩, List.mem_of_getElem? (i := 412) (by decide +kernel), List.mem_of_getElem? (i := 536) (by decide +kernel), List.mem_of_getElem? (i := 537) (by decide +kernel)⟩
theorem lw_p27 : lw_okq (⟨"SoapFilmModel", "bursts", "(II)V"⟩, 10) := ⟨⟨by decide +kernel, by decide +kernel⟩, List.mem_of_getElem? (i := 412) (by decide +kernel), List.mem_of_getElem? (i := 540) (by decide +kernel), List.mem_of_getElem? (i := 541) (by decide +kernel)⟩
theorem lw_p28 : lw_okq (⟨"SoapFilmModel", "valueOf", "(II)I"⟩, 10) := ⟨⟨by decide +kernel, by decide +kernel⟩, List.mem_of_getElem? (i := 412) (by decide +kernel), List.mem_of_getElem? (i := 551) (by decide +kernel), List.mem_of_getElem? (i := 552) (by decide +kernel)⟩
theorem lw_p29 : lw_okq (⟨"SoapFilmModel", "colour", "(I)I"⟩, 10) := ⟨⟨by decide +kernel, by decide +kernel⟩, List.mem_of_getElem? (i := 412) (by decide +kernel), List.mem_of_getElem? (i := 561) (by decide +kernel), List.mem_of_getElem? (i := 562) (by decide +kernel)⟩
theorem lw_p30 : lw_okq (⟨"SoapFilmModel", "runsTo", "(I)I"⟩, 10) := ⟨⟨by decide +kernel, by decide +kernel⟩, List.mem_of_getElem? (i := 412) (by decide +kernel), List.mem_of_getElem? (i := 569) (by decide +kernel), List.mem_of_getElem? (i := 570) (by decide +kernel)⟩
theorem lw_p31 : lw_okq (⟨"SoapFilmModel", "colourAt", "(I)I"⟩, 10) := ⟨⟨by decide +kernel, by decide +kernel⟩, List.mem_of_getElem? (i := 412) (by decide +kernel), List.mem_of_getElem? (i := 573) (by decide +kernel), List.mem_of_getElem? (i := 574) (by decide +kernel)⟩
def lw_privs_2 : List (MethodName × Nat) := [(⟨"SoapFilmModel", "of", "(I)I"⟩, 10), (⟨"SoapFilmModel", "takesAway", "()V"⟩, 10), (⟨"SoapFilmModel", "liquid", "()I"⟩, 10), (⟨"SoapFilmModel", "newRow", "(I)V"⟩, 10), (⟨"SoapFilmModel", "isRow", "(I)Z"⟩, 10), (⟨"SoapFilmModel", "tick", "()Z"⟩, 10), (⟨"SoapFilmModel", "changesFilm", "()V"⟩, 10), (⟨"SoapFilmModel", "gives", "(IJ)V"⟩, 10), (⟨"SoapFilmModel", "blackOnes", "()I"⟩, 10), (⟨"SoapFilmModel", "isBlack", "(I)Z"⟩, 10), (⟨"SoapFilmModel", "mayBurst", "()V"⟩, 10), (⟨"SoapFilmModel", "bursts", "(II)V"⟩, 10), (⟨"SoapFilmModel", "valueOf", "(II)I"⟩, 10), (⟨"SoapFilmModel", "colour", "(I)I"⟩, 10), (⟨"SoapFilmModel", "runsTo", "(I)I"⟩, 10), (⟨"SoapFilmModel", "colourAt", "(I)I"⟩, 10)]
theorem lw_r2 : ∀ q ∈ lw_privs_2, lw_okq q := List.forall_mem_cons.mpr ⟨lw_p16, List.forall_mem_cons.mpr ⟨lw_p17, List.forall_mem_cons.mpr ⟨lw_p18, List.forall_mem_cons.mpr ⟨lw_p19, List.forall_mem_cons.mpr ⟨lw_p20, List.forall_mem_cons.mpr ⟨lw_p21, List.forall_mem_cons.mpr ⟨lw_p22, List.forall_mem_cons.mpr ⟨lw_p23, List.forall_mem_cons.mpr ⟨lw_p24, List.forall_mem_cons.mpr ⟨lw_p25, List.forall_mem_cons.mpr ⟨lw_p26, List.forall_mem_cons.mpr ⟨lw_p27, List.forall_mem_cons.mpr ⟨lw_p28, List.forall_mem_cons.mpr ⟨lw_p29, List.forall_mem_cons.mpr ⟨lw_p30, List.forall_mem_cons.mpr ⟨lw_p31, fun _ h => absurd h List.not_mem_nil⟩⟩⟩⟩⟩⟩⟩⟩⟩⟩⟩⟩⟩⟩⟩⟩
theorem lw_p32 : lw_okq (⟨"SoapFilmModel", "colours", "()I"⟩, 10) := ⟨⟨by decide +kernel, by decide +kernel⟩, List.mem_of_getElem? (i := 412) (by decide +kernel), List.mem_of_getElem? (i := 577) (by decide +kernel), List.mem_of_getElem? (i := 578) (by decide +kernel)⟩
theorem lw_p33 : lw_okq (⟨"SoapFilmModel", "greatestOrder", "()I"⟩, 10) := ⟨⟨by decide +kernel, by decide +kernel⟩, List.mem_of_getElem? (i := 412) (by decide +kernel), List.mem_of_getElem? (i := 581) (by decide +kernel), List.mem_of_getElem? (i := 582) (by decide +kernel)⟩
theorem lw_p34 : lw_okq (⟨"SoapFilmModel", "ofBurst", "(I)I"⟩, 10) := ⟨⟨by decide +kernel, by decide +kernel⟩, List.mem_of_getElem? (i := 412) (by decide +kernel), List.mem_of_getElem? (i := 585) (by decide +kernel), List.mem_of_getElem? (i := 586) (by decide +kernel)⟩
theorem lw_p35 : lw_okq (⟨"SoapFilmModel", "account", "(I)I"⟩, 10) := ⟨⟨by decide +kernel, by decide +kernel⟩, List.mem_of_getElem? (i := 412) (by decide +kernel), List.mem_of_getElem? (i := 589) (by decide +kernel), List.mem_of_getElem? (i := 590) (by decide +kernel)⟩
theorem lw_p36 : lw_okq (⟨"SoapFilmModel", "laysAside", "()V"⟩, 10) := ⟨⟨by decide +kernel, by decide +kernel⟩, List.mem_of_getElem? (i := 412) (by decide +kernel), List.mem_of_getElem? (i := 619) (by decide +kernel), List.mem_of_getElem? (i := 620) (by decide +kernel)⟩
theorem lw_p37 : lw_okq (⟨"SoapFilmModel", "isSo", "(II)Z"⟩, 10) := ⟨⟨by decide +kernel, by decide +kernel⟩, List.mem_of_getElem? (i := 412) (by decide +kernel), List.mem_of_getElem? (i := 623) (by decide +kernel), List.mem_of_getElem? (i := 624) (by decide +kernel)⟩
theorem lw_p38 : lw_okq (⟨"SoapFilmModel", "bringsBack", "()V"⟩, 10) := ⟨⟨by decide +kernel, by decide +kernel⟩, List.mem_of_getElem? (i := 412) (by decide +kernel), List.mem_of_getElem? (i := 627) (by decide +kernel), List.mem_of_getElem? (i := 628) (by decide +kernel)⟩
theorem lw_p39 : lw_okq (⟨"SoapFilmModel", "reasonOfText", "()I"⟩, 10) := ⟨⟨by decide +kernel, by decide +kernel⟩, List.mem_of_getElem? (i := 412) (by decide +kernel), List.mem_of_getElem? (i := 647) (by decide +kernel), List.mem_of_getElem? (i := 648) (by decide +kernel)⟩
theorem lw_p40 : lw_okq (⟨"SoapFilmModel", "isFormed", "()Z"⟩, 10) := ⟨⟨by decide +kernel, by decide +kernel⟩, List.mem_of_getElem? (i := 412) (by decide +kernel), List.mem_of_getElem? (i := 651) (by decide +kernel), List.mem_of_getElem? (i := 652) (by decide +kernel)⟩
theorem lw_p41 : lw_okq (⟨"SoapFilmModel", "digits", "(I)I"⟩, 10) := ⟨⟨by decide +kernel, by decide +kernel⟩, List.mem_of_getElem? (i := 412) (by decide +kernel), List.mem_of_getElem? (i := 655) (by decide +kernel), List.mem_of_getElem? (i := 656) (by decide +kernel)⟩
theorem lw_p42 : lw_okq (⟨"SoapFilmModel", "isAt", "(II)Z"⟩, 10) := ⟨⟨by decide +kernel, by decide +kernel⟩, List.mem_of_getElem? (i := 412) (by decide +kernel), List.mem_of_getElem? (i := 659) (by decide +kernel), List.mem_of_getElem? (i := 660) (by decide +kernel)⟩
def lw_privs_3 : List (MethodName × Nat) := [(⟨"SoapFilmModel", "colours", "()I"⟩, 10), (⟨"SoapFilmModel", "greatestOrder", "()I"⟩, 10), (⟨"SoapFilmModel", "ofBurst", "(I)I"⟩, 10), (⟨"SoapFilmModel", "account", "(I)I"⟩, 10), (⟨"SoapFilmModel", "laysAside", "()V"⟩, 10), (⟨"SoapFilmModel", "isSo", "(II)Z"⟩, 10), (⟨"SoapFilmModel", "bringsBack", "()V"⟩, 10), (⟨"SoapFilmModel", "reasonOfText", "()I"⟩, 10), (⟨"SoapFilmModel", "isFormed", "()Z"⟩, 10), (⟨"SoapFilmModel", "digits", "(I)I"⟩, 10), (⟨"SoapFilmModel", "isAt", "(II)Z"⟩, 10)]
theorem lw_r3 : ∀ q ∈ lw_privs_3, lw_okq q := List.forall_mem_cons.mpr ⟨lw_p32, List.forall_mem_cons.mpr ⟨lw_p33, List.forall_mem_cons.mpr ⟨lw_p34, List.forall_mem_cons.mpr ⟨lw_p35, List.forall_mem_cons.mpr ⟨lw_p36, List.forall_mem_cons.mpr ⟨lw_p37, List.forall_mem_cons.mpr ⟨lw_p38, List.forall_mem_cons.mpr ⟨lw_p39, List.forall_mem_cons.mpr ⟨lw_p40, List.forall_mem_cons.mpr ⟨lw_p41, List.forall_mem_cons.mpr ⟨lw_p42, fun _ h => absurd h List.not_mem_nil⟩⟩⟩⟩⟩⟩⟩⟩⟩⟩⟩
def lw_privs : List (MethodName × Nat) := lw_privs_1 ++ (lw_privs_2 ++ (lw_privs_3))
def lw_tbl : List Cond := k2_sels lw_privs ++ tables_1
theorem lw_privs_ok : ∀ q ∈ lw_privs, lw_okq q := by
  show ∀ q ∈ lw_privs_1 ++ (lw_privs_2 ++ (lw_privs_3)), lw_okq q
  exact List.forall_mem_append.mpr ⟨lw_r1, List.forall_mem_append.mpr ⟨lw_r2, lw_r3⟩⟩
/-! ===== BEGIN words of one list among another's, by their places ===== -/
theorem goodIn_r {big : List Cond} (ws : List Cond) (ps : List Nat) (hp : ws = ps.filterMap (fun i => big[i]?)) (h : ws.all goodWord = true) : GoodIn big ws := by
  intro w hw
  have h1 := List.all_eq_true.mp h w hw
  rw [hp] at hw
  obtain ⟨i, -, hi⟩ := List.mem_filterMap.mp hw
  have hm : w ∈ big := by first | exact List.mem_of_getElem? hi | exact List.getElem?_mem hi
  exact ⟨hm, good_of_word h1⟩
theorem goodIn_app {big a b : List Cond} (ha : GoodIn big a) (hb : GoodIn big b) : GoodIn big (a ++ b) := fun w h => (List.mem_append.mp h).elim (ha w) (hb w)
theorem goodIn_ca {big a b : List Cond} {c : Cond} (ha : GoodIn big (c :: a)) (hb : GoodIn big b) : GoodIn big (c :: (a ++ b)) := fun w h => (List.mem_cons.mp h).elim (fun e => ha w (List.mem_cons.mpr (Or.inl e))) (fun h => (List.mem_append.mp h).elim (fun h => ha w (List.mem_cons.mpr (Or.inr h))) (hb w))
theorem goodIn_sub {big ws : List Cond} (hm : ∀ w ∈ ws, w ∈ big) (h : ws.all goodWord = true) : GoodIn big ws := fun w hw => ⟨hm w hw, good_of_word (List.all_eq_true.mp h w hw)⟩
/-! ===== END ===== -/

/-! ===== BEGIN printed: names, fields, word lists, decode rows ===== -/
def RX0 : String := "SoapFilm$Film"
def TX0 : u_T := fun k => match k with
  | 0 => ("SoapFilm$Film", "thickness", "[I", true)
  | 1 => ("SoapFilm$Film", "settings", "[I", true)
  | 2 => ("SoapFilm$Film", "accounts", "[I", true)
  | 3 => ("SoapFilm$Film", "rows", "I", false)
  | 4 => ("SoapFilm$Film", "ticks", "I", false)
  | 5 => ("SoapFilm$Film", "drops", "I", false)
  | 6 => ("SoapFilm$Film", "bursts", "I", false)
  | 7 => ("SoapFilm$Film", "burstReason", "I", false)
  | 8 => ("SoapFilm$Film", "burstNumber", "I", false)
  | _ => ("SoapFilm$Film", "ticksBeforeBurst", "I", false)
def tyX0 : Nat → FieldType := fun k => match k with
  | 0 => .array .int
  | 1 => .array .int
  | 2 => .array .int
  | 3 => .int
  | 4 => .int
  | 5 => .int
  | 6 => .int
  | 7 => .int
  | 8 => .int
  | _ => .int
abbrev wsX00 : List Cond := u_ws RX0 TX0 10
theorem nmX0 : ∀ a, a < 10 → ∀ b, b < 10 → a ≠ b → (TX0 a).2.1 ≠ (TX0 b).2.1 := by decide +kernel
theorem tyX0_ok : ∀ k, k < 10 → parseFieldDescriptor (TX0 k).2.2.1 = some (tyX0 k) := by decide +kernel
abbrev cX0_init : ByteArray := prog_2_method_1_code
def yX0_init : MethodName := ⟨RX0, "<init>", "()V"⟩
abbrev cX0_copyFrom : ByteArray := prog_2_method_2_code
def yX0_copyFrom : MethodName := ⟨RX0, "copyFrom", "(LSoapFilm$Film;)V"⟩
abbrev cX0_hasRow : ByteArray := prog_2_method_3_code
def yX0_hasRow : MethodName := ⟨RX0, "hasRow", "(I)Z"⟩
abbrev cX0_bring : ByteArray := prog_2_method_4_code
def yX0_bring : MethodName := ⟨RX0, "bring", "(I)V"⟩
abbrev cX0_move : ByteArray := prog_2_method_5_code
def yX0_move : MethodName := ⟨RX0, "move", "(III)V"⟩
abbrev cX0_appendRow : ByteArray := prog_2_method_6_code
def yX0_appendRow : MethodName := ⟨RX0, "appendRow", "(I)V"⟩
abbrev cX0_takeAway : ByteArray := prog_2_method_7_code
def yX0_takeAway : MethodName := ⟨RX0, "takeAway", "()V"⟩
abbrev cX0_endFilm : ByteArray := prog_2_method_8_code
def yX0_endFilm : MethodName := ⟨RX0, "endFilm", "(I)V"⟩
abbrev cX0_loseFrom : ByteArray := prog_2_method_9_code
def yX0_loseFrom : MethodName := ⟨RX0, "loseFrom", "(III)I"⟩
abbrev cX0_colourAt : ByteArray := prog_2_method_10_code
def yX0_colourAt : MethodName := ⟨RX0, "colourAt", "(I)I"⟩
abbrev cX0_isBlack : ByteArray := prog_2_method_11_code
def yX0_isBlack : MethodName := ⟨RX0, "isBlack", "(I)Z"⟩
abbrev cX0_startsColour : ByteArray := prog_2_method_12_code
def yX0_startsColour : MethodName := ⟨RX0, "startsColour", "(I)Z"⟩
abbrev cX0_blackRows : ByteArray := prog_2_method_13_code
def yX0_blackRows : MethodName := ⟨RX0, "blackRows", "()I"⟩
abbrev cX0_fringes : ByteArray := prog_2_method_14_code
def yX0_fringes : MethodName := ⟨RX0, "fringes", "()I"⟩
abbrev cX0_differentColours : ByteArray := prog_2_method_15_code
def yX0_differentColours : MethodName := ⟨RX0, "differentColours", "()I"⟩
abbrev cX0_greatestOrder : ByteArray := prog_2_method_16_code
def yX0_greatestOrder : MethodName := ⟨RX0, "greatestOrder", "()I"⟩
abbrev cX0_tick : ByteArray := prog_2_method_17_code
def yX0_tick : MethodName := ⟨RX0, "tick", "()V"⟩
abbrev cX0_drain : ByteArray := prog_2_method_18_code
def yX0_drain : MethodName := ⟨RX0, "drain", "()V"⟩
abbrev cX0_runEdges : ByteArray := prog_2_method_19_code
def yX0_runEdges : MethodName := ⟨RX0, "runEdges", "()V"⟩
abbrev cX0_giveDown : ByteArray := prog_2_method_20_code
def yX0_giveDown : MethodName := ⟨RX0, "giveDown", "(II)V"⟩
abbrev cX0_dry : ByteArray := prog_2_method_21_code
def yX0_dry : MethodName := ⟨RX0, "dry", "()V"⟩
abbrev cX0_letDropFall : ByteArray := prog_2_method_22_code
def yX0_letDropFall : MethodName := ⟨RX0, "letDropFall", "()V"⟩
abbrev cX0_burstIfDue : ByteArray := prog_2_method_23_code
def yX0_burstIfDue : MethodName := ⟨RX0, "burstIfDue", "()V"⟩
abbrev cX0_firstTooThin : ByteArray := prog_2_method_24_code
def yX0_firstTooThin : MethodName := ⟨RX0, "firstTooThin", "()I"⟩
abbrev cX0_burst : ByteArray := prog_2_method_25_code
def yX0_burst : MethodName := ⟨RX0, "burst", "(II)V"⟩
def RX1 : String := "SoapFilm$FilmText"
def TX1 : u_T := fun k => match k with
  | 0 => ("SoapFilm$FilmText", "signs", "[C", true)
  | 1 => ("SoapFilm$FilmText", "length", "I", false)
  | 2 => ("SoapFilm$FilmText", "thickness", "[I", true)
  | 3 => ("SoapFilm$FilmText", "rows", "I", false)
  | 4 => ("SoapFilm$FilmText", "position", "I", false)
  | _ => ("SoapFilm$FilmText", "reason", "I", false)
def tyX1 : Nat → FieldType := fun k => match k with
  | 0 => .array .char
  | 1 => .int
  | 2 => .array .int
  | 3 => .int
  | 4 => .int
  | _ => .int
abbrev wsX10 : List Cond := u_ws RX1 TX1 6
theorem nmX1 : ∀ a, a < 6 → ∀ b, b < 6 → a ≠ b → (TX1 a).2.1 ≠ (TX1 b).2.1 := by decide +kernel
theorem tyX1_ok : ∀ k, k < 6 → parseFieldDescriptor (TX1 k).2.2.1 = some (tyX1 k) := by decide +kernel
abbrev cX1_init : ByteArray := prog_3_method_1_code
def yX1_init : MethodName := ⟨RX1, "<init>", "()V"⟩
abbrev cX1_append : ByteArray := prog_3_method_2_code
def yX1_append : MethodName := ⟨RX1, "append", "(C)V"⟩
abbrev cX1_parse : ByteArray := prog_3_method_3_code
def yX1_parse : MethodName := ⟨RX1, "parse", "()V"⟩
abbrev cX1_takePart : ByteArray := prog_3_method_4_code
def yX1_takePart : MethodName := ⟨RX1, "takePart", "(II)I"⟩
abbrev cX1_findCross : ByteArray := prog_3_method_5_code
def yX1_findCross : MethodName := ⟨RX1, "findCross", "(II)I"⟩
abbrev cX1_number : ByteArray := prog_3_method_6_code
def yX1_number : MethodName := ⟨RX1, "number", "(III)I"⟩
def RX2 : String := "SoapFilm$History"
def TX2 : u_T := fun k => match k with
  | 0 => ("SoapFilm$History", "states", "[LSoapFilm$Film;", true)
  | _ => ("SoapFilm$History", "size", "I", false)
def tyX2 : Nat → FieldType := fun k => match k with
  | 0 => .array (.object "SoapFilm$Film")
  | _ => .int
abbrev wsX20 : List Cond := u_ws RX2 TX2 2
theorem nmX2 : ∀ a, a < 2 → ∀ b, b < 2 → a ≠ b → (TX2 a).2.1 ≠ (TX2 b).2.1 := by decide +kernel
theorem tyX2_ok : ∀ k, k < 2 → parseFieldDescriptor (TX2 k).2.2.1 = some (tyX2 k) := by decide +kernel
abbrev cX2_init : ByteArray := prog_4_method_1_code
def yX2_init : MethodName := ⟨RX2, "<init>", "()V"⟩
abbrev cX2_keep : ByteArray := prog_4_method_2_code
def yX2_keep : MethodName := ⟨RX2, "keep", "(LSoapFilm$Film;)V"⟩
abbrev cX2_restore : ByteArray := prog_4_method_3_code
def yX2_restore : MethodName := ⟨RX2, "restore", "(LSoapFilm$Film;)V"⟩
abbrev cX2_dropOldest : ByteArray := prog_4_method_4_code
def yX2_dropOldest : MethodName := ⟨RX2, "dropOldest", "()V"⟩
def RX3 : String := "SoapFilm$Light"
def TX3 : u_T := fun k => match k with
  | _ => ("", "", "", false)
def tyX3 : Nat → FieldType := fun k => match k with
  | _ => .int
abbrev wsX30 : List Cond := u_ws RX3 TX3 0
theorem nmX3 : ∀ a, a < 0 → ∀ b, b < 0 → a ≠ b → (TX3 a).2.1 ≠ (TX3 b).2.1 := by decide +kernel
theorem tyX3_ok : ∀ k, k < 0 → parseFieldDescriptor (TX3 k).2.2.1 = some (tyX3 k) := by decide +kernel
abbrev cX3_path : ByteArray := prog_5_method_2_code
def yX3_path : MethodName := ⟨RX3, "path", "(I)I"⟩
abbrev cX3_red : ByteArray := prog_5_method_3_code
def yX3_red : MethodName := ⟨RX3, "red", "(I)I"⟩
abbrev cX3_green : ByteArray := prog_5_method_4_code
def yX3_green : MethodName := ⟨RX3, "green", "(I)I"⟩
abbrev cX3_blue : ByteArray := prog_5_method_5_code
def yX3_blue : MethodName := ⟨RX3, "blue", "(I)I"⟩
abbrev cX3_order : ByteArray := prog_5_method_6_code
def yX3_order : MethodName := ⟨RX3, "order", "(I)I"⟩
abbrev cX3_colour : ByteArray := prog_5_method_7_code
def yX3_colour : MethodName := ⟨RX3, "colour", "(II)I"⟩
abbrev cX3_brightness : ByteArray := prog_5_method_8_code
def yX3_brightness : MethodName := ⟨RX3, "brightness", "(I)I"⟩
def RX4 : String := "SoapFilm"
def TX4 : u_T := fun k => match k with
  | 0 => ("SoapFilm", "film", "LSoapFilm$Film;", true)
  | 1 => ("SoapFilm", "trial", "LSoapFilm$Film;", true)
  | 2 => ("SoapFilm", "history", "LSoapFilm$History;", true)
  | _ => ("SoapFilm", "text", "LSoapFilm$FilmText;", true)
def tyX4 : Nat → FieldType := fun k => match k with
  | 0 => .object "SoapFilm$Film"
  | 1 => .object "SoapFilm$Film"
  | 2 => .object "SoapFilm$History"
  | _ => .object "SoapFilm$FilmText"
abbrev wsX40 : List Cond := u_ws RX4 TX4 4
theorem nmX4 : ∀ a, a < 4 → ∀ b, b < 4 → a ≠ b → (TX4 a).2.1 ≠ (TX4 b).2.1 := by decide +kernel
theorem tyX4_ok : ∀ k, k < 4 → parseFieldDescriptor (TX4 k).2.2.1 = some (tyX4 k) := by decide +kernel
abbrev cX4_init : ByteArray := prog_1_method_1_code
def yX4_init : MethodName := ⟨RX4, "<init>", "()V"⟩
abbrev cX4_set : ByteArray := prog_1_method_2_code
def yX4_set : MethodName := ⟨RX4, "set", "(II)I"⟩
abbrev cX4_dip : ByteArray := prog_1_method_3_code
def yX4_dip : MethodName := ⟨RX4, "dip", "(III)I"⟩
abbrev cX4_pour : ByteArray := prog_1_method_4_code
def yX4_pour : MethodName := ⟨RX4, "pour", "(II)I"⟩
abbrev cX4_add : ByteArray := prog_1_method_5_code
def yX4_add : MethodName := ⟨RX4, "add", "(I)I"⟩
abbrev cX4_thin : ByteArray := prog_1_method_6_code
def yX4_thin : MethodName := ⟨RX4, "thin", "(II)I"⟩
abbrev cX4_cut : ByteArray := prog_1_method_7_code
def yX4_cut : MethodName := ⟨RX4, "cut", "()I"⟩
abbrev cX4_go : ByteArray := prog_1_method_8_code
def yX4_go : MethodName := ⟨RX4, "go", "(I)I"⟩
abbrev cX4_undo : ByteArray := prog_1_method_9_code
def yX4_undo : MethodName := ⟨RX4, "undo", "()I"⟩
abbrev cX4_row : ByteArray := prog_1_method_10_code
def yX4_row : MethodName := ⟨RX4, "row", "(II)I"⟩
abbrev cX4_count : ByteArray := prog_1_method_11_code
def yX4_count : MethodName := ⟨RX4, "count", "(I)I"⟩
abbrev cX4_ladder : ByteArray := prog_1_method_12_code
def yX4_ladder : MethodName := ⟨RX4, "ladder", "(I)I"⟩
abbrev cX4_find : ByteArray := prog_1_method_13_code
def yX4_find : MethodName := ⟨RX4, "find", "(II)I"⟩
abbrev cX4_colourOf : ByteArray := prog_1_method_14_code
def yX4_colourOf : MethodName := ⟨RX4, "colourOf", "(I)I"⟩
abbrev cX4_thicknessFor : ByteArray := prog_1_method_15_code
def yX4_thicknessFor : MethodName := ⟨RX4, "thicknessFor", "(II)I"⟩
abbrev cX4_until : ByteArray := prog_1_method_16_code
def yX4_until : MethodName := ⟨RX4, "until", "(II)I"⟩
abbrev cX4_ifGo : ByteArray := prog_1_method_17_code
def yX4_ifGo : MethodName := ⟨RX4, "ifGo", "(II)I"⟩
abbrev cX4_type : ByteArray := prog_1_method_18_code
def yX4_type : MethodName := ⟨RX4, "type", "(I)I"⟩
abbrev cX4_clearText : ByteArray := prog_1_method_19_code
def yX4_clearText : MethodName := ⟨RX4, "clearText", "()I"⟩
abbrev cX4_fault : ByteArray := prog_1_method_20_code
def yX4_fault : MethodName := ⟨RX4, "fault", "(I)I"⟩
abbrev cX4_read : ByteArray := prog_1_method_21_code
def yX4_read : MethodName := ⟨RX4, "read", "()I"⟩
abbrev cX4_isBetween : ByteArray := prog_1_method_22_code
def yX4_isBetween : MethodName := ⟨RX4, "isBetween", "(III)Z"⟩
abbrev cX4_isThickness : ByteArray := prog_1_method_23_code
def yX4_isThickness : MethodName := ⟨RX4, "isThickness", "(I)Z"⟩
abbrev cX4_isColour : ByteArray := prog_1_method_24_code
def yX4_isColour : MethodName := ⟨RX4, "isColour", "(I)Z"⟩
abbrev cX4_isQuestion : ByteArray := prog_1_method_25_code
def yX4_isQuestion : MethodName := ⟨RX4, "isQuestion", "(II)Z"⟩
abbrev cX4_isSo : ByteArray := prog_1_method_26_code
def yX4_isSo : MethodName := ⟨RX4, "isSo", "(II)Z"⟩
def RX5 : String := "SoapFilmModel"
def TX5 : u_T := fun k => match k with
  | 0 => ("SoapFilmModel", "st", "[I", true)
  | 1 => ("SoapFilmModel", "past", "[I", true)
  | 2 => ("SoapFilmModel", "aside", "[I", true)
  | 3 => ("SoapFilmModel", "pasts", "I", false)
  | 4 => ("SoapFilmModel", "text", "[I", true)
  | 5 => ("SoapFilmModel", "length", "I", false)
  | 6 => ("SoapFilmModel", "spot", "I", false)
  | 7 => ("SoapFilmModel", "itsThickness", "I", false)
  | 8 => ("SoapFilmModel", "itsRows", "I", false)
  | _ => ("SoapFilmModel", "from", "I", false)
def tyX5 : Nat → FieldType := fun k => match k with
  | 0 => .array .int
  | 1 => .array .int
  | 2 => .array .int
  | 3 => .int
  | 4 => .array .int
  | 5 => .int
  | 6 => .int
  | 7 => .int
  | 8 => .int
  | _ => .int
abbrev wsX50 : List Cond := u_ws RX5 TX5 10
theorem nmX5 : ∀ a, a < 10 → ∀ b, b < 10 → a ≠ b → (TX5 a).2.1 ≠ (TX5 b).2.1 := by decide +kernel
theorem tyX5_ok : ∀ k, k < 10 → parseFieldDescriptor (TX5 k).2.2.1 = some (tyX5 k) := by decide +kernel
abbrev cX5_init : ByteArray := prog_7_method_1_code
def yX5_init : MethodName := ⟨RX5, "<init>", "()V"⟩
abbrev cX5_in : ByteArray := prog_7_method_3_code
def yX5_in : MethodName := ⟨RX5, "in", "(III)Z"⟩
abbrev cX5_lesser : ByteArray := prog_7_method_4_code
def yX5_lesser : MethodName := ⟨RX5, "lesser", "(II)I"⟩
abbrev cX5_records : ByteArray := prog_7_method_5_code
def yX5_records : MethodName := ⟨RX5, "records", "()V"⟩
abbrev cX5_undo : ByteArray := prog_7_method_6_code
def yX5_undo : MethodName := ⟨RX5, "undo", "()I"⟩
abbrev cX5_laysAside : ByteArray := prog_7_method_7_code
def yX5_laysAside : MethodName := ⟨RX5, "laysAside", "()V"⟩
abbrev cX5_bringsBack : ByteArray := prog_7_method_8_code
def yX5_bringsBack : MethodName := ⟨RX5, "bringsBack", "()V"⟩
abbrev cX5_of : ByteArray := prog_7_method_9_code
def yX5_of : MethodName := ⟨RX5, "of", "(I)I"⟩
abbrev cX5_isRow : ByteArray := prog_7_method_10_code
def yX5_isRow : MethodName := ⟨RX5, "isRow", "(I)Z"⟩
abbrev cX5_path : ByteArray := prog_7_method_11_code
def yX5_path : MethodName := ⟨RX5, "path", "(I)I"⟩
abbrev cX5_brightness : ByteArray := prog_7_method_12_code
def yX5_brightness : MethodName := ⟨RX5, "brightness", "(II)I"⟩
abbrev cX5_isBlack : ByteArray := prog_7_method_13_code
def yX5_isBlack : MethodName := ⟨RX5, "isBlack", "(I)Z"⟩
abbrev cX5_colour : ByteArray := prog_7_method_14_code
def yX5_colour : MethodName := ⟨RX5, "colour", "(I)I"⟩
abbrev cX5_colourAt : ByteArray := prog_7_method_15_code
def yX5_colourAt : MethodName := ⟨RX5, "colourAt", "(I)I"⟩
abbrev cX5_canBe : ByteArray := prog_7_method_16_code
def yX5_canBe : MethodName := ⟨RX5, "canBe", "(II)Z"⟩
abbrev cX5_set : ByteArray := prog_7_method_17_code
def yX5_set : MethodName := ⟨RX5, "set", "(II)I"⟩
abbrev cX5_liquid : ByteArray := prog_7_method_18_code
def yX5_liquid : MethodName := ⟨RX5, "liquid", "()I"⟩
abbrev cX5_takesAway : ByteArray := prog_7_method_19_code
def yX5_takesAway : MethodName := ⟨RX5, "takesAway", "()V"⟩
abbrev cX5_newRow : ByteArray := prog_7_method_20_code
def yX5_newRow : MethodName := ⟨RX5, "newRow", "(I)V"⟩
abbrev cX5_dip : ByteArray := prog_7_method_21_code
def yX5_dip : MethodName := ⟨RX5, "dip", "(III)I"⟩
abbrev cX5_pour : ByteArray := prog_7_method_22_code
def yX5_pour : MethodName := ⟨RX5, "pour", "(II)I"⟩
abbrev cX5_add : ByteArray := prog_7_method_23_code
def yX5_add : MethodName := ⟨RX5, "add", "(I)I"⟩
abbrev cX5_thin : ByteArray := prog_7_method_24_code
def yX5_thin : MethodName := ⟨RX5, "thin", "(II)I"⟩
abbrev cX5_cut : ByteArray := prog_7_method_25_code
def yX5_cut : MethodName := ⟨RX5, "cut", "()I"⟩
abbrev cX5_gives : ByteArray := prog_7_method_26_code
def yX5_gives : MethodName := ⟨RX5, "gives", "(IJ)V"⟩
abbrev cX5_blackOnes : ByteArray := prog_7_method_27_code
def yX5_blackOnes : MethodName := ⟨RX5, "blackOnes", "()I"⟩
abbrev cX5_bits : ByteArray := prog_7_method_28_code
def yX5_bits : MethodName := ⟨RX5, "bits", "(I)I"⟩
abbrev cX5_bursts : ByteArray := prog_7_method_29_code
def yX5_bursts : MethodName := ⟨RX5, "bursts", "(II)V"⟩
abbrev cX5_mayBurst : ByteArray := prog_7_method_30_code
def yX5_mayBurst : MethodName := ⟨RX5, "mayBurst", "()V"⟩
abbrev cX5_changesFilm : ByteArray := prog_7_method_31_code
def yX5_changesFilm : MethodName := ⟨RX5, "changesFilm", "()V"⟩
abbrev cX5_tick : ByteArray := prog_7_method_32_code
def yX5_tick : MethodName := ⟨RX5, "tick", "()Z"⟩
abbrev cX5_go : ByteArray := prog_7_method_33_code
def yX5_go : MethodName := ⟨RX5, "go", "(I)I"⟩
abbrev cX5_valueOf : ByteArray := prog_7_method_34_code
def yX5_valueOf : MethodName := ⟨RX5, "valueOf", "(II)I"⟩
abbrev cX5_row : ByteArray := prog_7_method_35_code
def yX5_row : MethodName := ⟨RX5, "row", "(II)I"⟩
abbrev cX5_runsTo : ByteArray := prog_7_method_36_code
def yX5_runsTo : MethodName := ⟨RX5, "runsTo", "(I)I"⟩
abbrev cX5_colours : ByteArray := prog_7_method_37_code
def yX5_colours : MethodName := ⟨RX5, "colours", "()I"⟩
abbrev cX5_greatestOrder : ByteArray := prog_7_method_38_code
def yX5_greatestOrder : MethodName := ⟨RX5, "greatestOrder", "()I"⟩
abbrev cX5_account : ByteArray := prog_7_method_39_code
def yX5_account : MethodName := ⟨RX5, "account", "(I)I"⟩
abbrev cX5_ofBurst : ByteArray := prog_7_method_40_code
def yX5_ofBurst : MethodName := ⟨RX5, "ofBurst", "(I)I"⟩
abbrev cX5_count : ByteArray := prog_7_method_41_code
def yX5_count : MethodName := ⟨RX5, "count", "(I)I"⟩
abbrev cX5_ladder : ByteArray := prog_7_method_42_code
def yX5_ladder : MethodName := ⟨RX5, "ladder", "(I)I"⟩
abbrev cX5_isColour : ByteArray := prog_7_method_43_code
def yX5_isColour : MethodName := ⟨RX5, "isColour", "(I)Z"⟩
abbrev cX5_find : ByteArray := prog_7_method_44_code
def yX5_find : MethodName := ⟨RX5, "find", "(II)I"⟩
abbrev cX5_colourOf : ByteArray := prog_7_method_45_code
def yX5_colourOf : MethodName := ⟨RX5, "colourOf", "(I)I"⟩
abbrev cX5_thicknessFor : ByteArray := prog_7_method_46_code
def yX5_thicknessFor : MethodName := ⟨RX5, "thicknessFor", "(II)I"⟩
abbrev cX5_isQuestion : ByteArray := prog_7_method_47_code
def yX5_isQuestion : MethodName := ⟨RX5, "isQuestion", "(II)Z"⟩
abbrev cX5_isSo : ByteArray := prog_7_method_48_code
def yX5_isSo : MethodName := ⟨RX5, "isSo", "(II)Z"⟩
abbrev cX5_until : ByteArray := prog_7_method_49_code
def yX5_until : MethodName := ⟨RX5, "until", "(II)I"⟩
abbrev cX5_ifGo : ByteArray := prog_7_method_50_code
def yX5_ifGo : MethodName := ⟨RX5, "ifGo", "(II)I"⟩
abbrev cX5_type : ByteArray := prog_7_method_51_code
def yX5_type : MethodName := ⟨RX5, "type", "(I)I"⟩
abbrev cX5_clearText : ByteArray := prog_7_method_52_code
def yX5_clearText : MethodName := ⟨RX5, "clearText", "()I"⟩
abbrev cX5_isAt : ByteArray := prog_7_method_53_code
def yX5_isAt : MethodName := ⟨RX5, "isAt", "(II)Z"⟩
abbrev cX5_digits : ByteArray := prog_7_method_54_code
def yX5_digits : MethodName := ⟨RX5, "digits", "(I)I"⟩
abbrev cX5_isFormed : ByteArray := prog_7_method_55_code
def yX5_isFormed : MethodName := ⟨RX5, "isFormed", "()Z"⟩
abbrev cX5_reasonOfText : ByteArray := prog_7_method_56_code
def yX5_reasonOfText : MethodName := ⟨RX5, "reasonOfText", "()I"⟩
abbrev cX5_fault : ByteArray := prog_7_method_57_code
def yX5_fault : MethodName := ⟨RX5, "fault", "(I)I"⟩
abbrev cX5_read : ByteArray := prog_7_method_58_code
def yX5_read : MethodName := ⟨RX5, "read", "()I"⟩
def RJ6 : String := "java/lang/Integer"
def TJ6 : u_T := fun k => match k with
  | _ => ("", "", "", false)
def tyJ6 : Nat → FieldType := fun k => match k with
  | _ => .int
abbrev wsJ60 : List Cond := u_ws RJ6 TJ6 0
theorem nmJ6 : ∀ a, a < 0 → ∀ b, b < 0 → a ≠ b → (TJ6 a).2.1 ≠ (TJ6 b).2.1 := by decide +kernel
theorem tyJ6_ok : ∀ k, k < 0 → parseFieldDescriptor (TJ6 k).2.2.1 = some (tyJ6 k) := by decide +kernel
abbrev cJ6_bitCount_0f7a4 : ByteArray := prog_8_method_49_code
def yJ6_bitCount_0f7a4 : MethodName := ⟨RJ6, "bitCount", "(I)I"⟩
def RJ9 : String := "java/lang/Math"
def TJ9 : u_T := fun k => match k with
  | _ => ("", "", "", false)
def tyJ9 : Nat → FieldType := fun k => match k with
  | _ => .int
abbrev wsJ90 : List Cond := u_ws RJ9 TJ9 0
theorem nmJ9 : ∀ a, a < 0 → ∀ b, b < 0 → a ≠ b → (TJ9 a).2.1 ≠ (TJ9 b).2.1 := by decide +kernel
theorem tyJ9_ok : ∀ k, k < 0 → parseFieldDescriptor (TJ9 k).2.2.1 = some (tyJ9 k) := by decide +kernel
abbrev cJ9_max_7cf53 : ByteArray := prog_9_method_65_code
def yJ9_max_7cf53 : MethodName := ⟨RJ9, "max", "(II)I"⟩
abbrev cJ9_min_7cf53 : ByteArray := prog_9_method_69_code
def yJ9_min_7cf53 : MethodName := ⟨RJ9, "min", "(II)I"⟩
def RJ10 : String := "java/lang/System"
def TJ10 : u_T := fun k => match k with
  | _ => ("", "", "", false)
def tyJ10 : Nat → FieldType := fun k => match k with
  | _ => .int
abbrev wsJ100 : List Cond := u_ws RJ10 TJ10 0
theorem nmJ10 : ∀ a, a < 0 → ∀ b, b < 0 → a ≠ b → (TJ10 a).2.1 ≠ (TJ10 b).2.1 := by decide +kernel
theorem tyJ10_ok : ∀ k, k < 0 → parseFieldDescriptor (TJ10 k).2.2.1 = some (tyJ10 k) := by decide +kernel
def RL : String := "SoapFilmLaw"
abbrev cL_law : ByteArray := code
def yL_law : MethodName := ⟨RL, "law", "([I)Z"⟩
def wsX0_init : List Cond := .code yX0_init cX0_init 1 none :: ([.methodLink RX0 3 objectInit, .instanceMethod objectInit, .code objectInit ⟨#[0xb1]⟩ 1 none, .arrayClass .int, .fieldLink RX0 9 "SoapFilm$Film" "thickness" "[I", .fieldLink RX0 15 "SoapFilm$Film" "settings" "[I", .fieldLink RX0 18 "SoapFilm$Film" "accounts" "[I", .methodLink RX0 24 arraycopyName, .native arraycopyName, .static arraycopyName, .initialized "java/lang/System"] ++ wsX00)
def wsX0_copyFrom : List Cond := .code yX0_copyFrom cX0_copyFrom 2 none :: ([.fieldLink RX0 9 "SoapFilm$Film" "thickness" "[I", .methodLink RX0 24 arraycopyName, .native arraycopyName, .static arraycopyName, .initialized "java/lang/System", .fieldLink RX0 15 "SoapFilm$Film" "settings" "[I", .fieldLink RX0 18 "SoapFilm$Film" "accounts" "[I", .fieldLink RX0 30 "SoapFilm$Film" "rows" "I", .fieldLink RX0 34 "SoapFilm$Film" "ticks" "I", .fieldLink RX0 37 "SoapFilm$Film" "drops" "I", .fieldLink RX0 40 "SoapFilm$Film" "bursts" "I", .fieldLink RX0 43 "SoapFilm$Film" "burstReason" "I", .fieldLink RX0 46 "SoapFilm$Film" "burstNumber" "I", .fieldLink RX0 49 "SoapFilm$Film" "ticksBeforeBurst" "I"] ++ wsX00)
def wsX0_hasRow : List Cond := .code yX0_hasRow cX0_hasRow 2 (some .boolean) :: ([.fieldLink RX0 30 "SoapFilm$Film" "rows" "I"] ++ wsX00)
def wsX0_bring : List Cond := .code yX0_bring cX0_bring 2 none :: ([.fieldLink RX0 18 "SoapFilm$Film" "accounts" "[I"] ++ wsX00)
def wsX0_move : List Cond := .code yX0_move cX0_move 4 none :: ([.fieldLink RX0 18 "SoapFilm$Film" "accounts" "[I"] ++ wsX00)
def wsX0_appendRow : List Cond := .code yX0_appendRow cX0_appendRow 2 none :: ([.fieldLink RX0 30 "SoapFilm$Film" "rows" "I", .fieldLink RX0 9 "SoapFilm$Film" "thickness" "[I", .methodLink RX0 52 yX0_bring, .instanceMethod yX0_bring, .selects RX0 yX0_bring yX0_bring, .initialized RX0, .code yX0_bring cX0_bring 2 none, .fieldLink RX0 18 "SoapFilm$Film" "accounts" "[I"] ++ wsX00)
def wsX0_endFilm : List Cond := .code yX0_endFilm cX0_endFilm 2 none :: ([.fieldLink RX0 18 "SoapFilm$Film" "accounts" "[I", .fieldLink RX0 30 "SoapFilm$Film" "rows" "I", .methodLink RX0 59 yX0_move, .instanceMethod yX0_move, .selects RX0 yX0_move yX0_move, .initialized RX0, .code yX0_move cX0_move 4 none] ++ wsX00)
def wsX0_takeAway : List Cond := .code yX0_takeAway cX0_takeAway 1 none :: ([.methodLink RX0 56 yX0_endFilm, .instanceMethod yX0_endFilm, .selects RX0 yX0_endFilm yX0_endFilm, .initialized RX0, .code yX0_endFilm cX0_endFilm 2 none, .fieldLink RX0 18 "SoapFilm$Film" "accounts" "[I", .fieldLink RX0 30 "SoapFilm$Film" "rows" "I", .methodLink RX0 59 yX0_move, .instanceMethod yX0_move, .selects RX0 yX0_move yX0_move, .code yX0_move cX0_move 4 none] ++ wsX00)
def wsX0_loseFrom : List Cond := .code yX0_loseFrom cX0_loseFrom 5 (some .int) :: ([.fieldLink RX0 9 "SoapFilm$Film" "thickness" "[I", .methodLink RX0 63 Lib.Math.min.name, .static Lib.Math.min.name, .initialized "java/lang/Math", .code Lib.Math.min.name Lib.Math.min.code 2 (some .int), .methodLink RX0 59 yX0_move, .instanceMethod yX0_move, .selects RX0 yX0_move yX0_move, .initialized RX0, .code yX0_move cX0_move 4 none, .fieldLink RX0 18 "SoapFilm$Film" "accounts" "[I"] ++ wsX00)
def wsX3_path : List Cond := .code yX3_path cX3_path 1 (some .int) :: ([])
def wsX3_brightness : List Cond := .code yX3_brightness cX3_brightness 2 (some .int) :: ([])
def wsX3_red : List Cond := .code yX3_red cX3_red 1 (some .int) :: ([.methodLink RX3 9 yX3_brightness, .static yX3_brightness, .initialized RX3, .code yX3_brightness cX3_brightness 2 (some .int)])
def wsX3_green : List Cond := .code yX3_green cX3_green 1 (some .int) :: ([.methodLink RX3 9 yX3_brightness, .static yX3_brightness, .initialized RX3, .code yX3_brightness cX3_brightness 2 (some .int)])
def wsX3_blue : List Cond := .code yX3_blue cX3_blue 1 (some .int) :: ([.methodLink RX3 9 yX3_brightness, .static yX3_brightness, .initialized RX3, .code yX3_brightness cX3_brightness 2 (some .int)])
def wsX3_colour : List Cond := .code yX3_colour cX3_colour 4 (some .int) :: ([.methodLink RX3 13 yX3_path, .static yX3_path, .initialized RX3, .code yX3_path cX3_path 1 (some .int), .methodLink RX3 16 yX3_red, .static yX3_red, .code yX3_red cX3_red 1 (some .int), .methodLink RX3 9 yX3_brightness, .static yX3_brightness, .code yX3_brightness cX3_brightness 2 (some .int), .methodLink RX3 19 yX3_green, .static yX3_green, .code yX3_green cX3_green 1 (some .int), .methodLink RX3 22 yX3_blue, .static yX3_blue, .code yX3_blue cX3_blue 1 (some .int)])
def wsX0_colourAt : List Cond := .code yX0_colourAt cX0_colourAt 2 (some .int) :: ([.fieldLink RX0 9 "SoapFilm$Film" "thickness" "[I", .fieldLink RX0 15 "SoapFilm$Film" "settings" "[I", .methodLink RX0 69 yX3_colour, .static yX3_colour, .initialized RX3, .code yX3_colour cX3_colour 4 (some .int), .methodLink RX3 13 yX3_path, .static yX3_path, .code yX3_path cX3_path 1 (some .int), .methodLink RX3 16 yX3_red, .static yX3_red, .code yX3_red cX3_red 1 (some .int), .methodLink RX3 9 yX3_brightness, .static yX3_brightness, .code yX3_brightness cX3_brightness 2 (some .int), .methodLink RX3 19 yX3_green, .static yX3_green, .code yX3_green cX3_green 1 (some .int), .methodLink RX3 22 yX3_blue, .static yX3_blue, .code yX3_blue cX3_blue 1 (some .int)] ++ wsX00)
def wsX0_isBlack : List Cond := .code yX0_isBlack cX0_isBlack 2 (some .boolean) :: ([.fieldLink RX0 9 "SoapFilm$Film" "thickness" "[I", .fieldLink RX0 15 "SoapFilm$Film" "settings" "[I"] ++ wsX00)
def wsX0_startsColour_r1 : List Cond := [Cond.methodLink RX0 74 yX0_colourAt, Cond.instanceMethod yX0_colourAt, Cond.selects RX0 yX0_colourAt yX0_colourAt, Cond.initialized RX0, Cond.code yX0_colourAt cX0_colourAt 2 (some .int), Cond.fieldLink RX0 9 "SoapFilm$Film" "thickness" "[I", Cond.fieldLink RX0 15 "SoapFilm$Film" "settings" "[I", Cond.methodLink RX0 69 yX3_colour, Cond.static yX3_colour, Cond.initialized RX3, Cond.code yX3_colour cX3_colour 4 (some .int), Cond.methodLink RX3 13 yX3_path, Cond.static yX3_path, Cond.code yX3_path cX3_path 1 (some .int), Cond.methodLink RX3 16 yX3_red, Cond.static yX3_red, Cond.code yX3_red cX3_red 1 (some .int), Cond.methodLink RX3 9 yX3_brightness, Cond.static yX3_brightness, Cond.code yX3_brightness cX3_brightness 2 (some .int), Cond.methodLink RX3 19 yX3_green, Cond.static yX3_green, Cond.code yX3_green cX3_green 1 (some .int), Cond.methodLink RX3 22 yX3_blue]
def wsX0_startsColour_r2 : List Cond := [Cond.static yX3_blue, Cond.code yX3_blue cX3_blue 1 (some .int)]
def wsX0_startsColour : List Cond := .code yX0_startsColour cX0_startsColour 2 (some .boolean) :: ((wsX0_startsColour_r1 ++ wsX0_startsColour_r2) ++ wsX00)
def wsX0_blackRows : List Cond := .code yX0_blackRows cX0_blackRows 3 (some .int) :: ([.fieldLink RX0 30 "SoapFilm$Film" "rows" "I", .methodLink RX0 78 yX0_isBlack, .instanceMethod yX0_isBlack, .selects RX0 yX0_isBlack yX0_isBlack, .initialized RX0, .code yX0_isBlack cX0_isBlack 2 (some .boolean), .fieldLink RX0 9 "SoapFilm$Film" "thickness" "[I", .fieldLink RX0 15 "SoapFilm$Film" "settings" "[I"] ++ wsX00)
def wsX0_fringes_r1 : List Cond := [Cond.fieldLink RX0 30 "SoapFilm$Film" "rows" "I", Cond.methodLink RX0 82 yX0_startsColour, Cond.instanceMethod yX0_startsColour, Cond.selects RX0 yX0_startsColour yX0_startsColour, Cond.initialized RX0, Cond.code yX0_startsColour cX0_startsColour 2 (some .boolean), Cond.methodLink RX0 74 yX0_colourAt, Cond.instanceMethod yX0_colourAt, Cond.selects RX0 yX0_colourAt yX0_colourAt, Cond.code yX0_colourAt cX0_colourAt 2 (some .int), Cond.fieldLink RX0 9 "SoapFilm$Film" "thickness" "[I", Cond.fieldLink RX0 15 "SoapFilm$Film" "settings" "[I", Cond.methodLink RX0 69 yX3_colour, Cond.static yX3_colour, Cond.initialized RX3, Cond.code yX3_colour cX3_colour 4 (some .int), Cond.methodLink RX3 13 yX3_path, Cond.static yX3_path, Cond.code yX3_path cX3_path 1 (some .int), Cond.methodLink RX3 16 yX3_red, Cond.static yX3_red, Cond.code yX3_red cX3_red 1 (some .int), Cond.methodLink RX3 9 yX3_brightness, Cond.static yX3_brightness]
def wsX0_fringes_r2 : List Cond := [Cond.code yX3_brightness cX3_brightness 2 (some .int), Cond.methodLink RX3 19 yX3_green, Cond.static yX3_green, Cond.code yX3_green cX3_green 1 (some .int), Cond.methodLink RX3 22 yX3_blue, Cond.static yX3_blue, Cond.code yX3_blue cX3_blue 1 (some .int)]
def wsX0_fringes : List Cond := .code yX0_fringes cX0_fringes 3 (some .int) :: ((wsX0_fringes_r1 ++ wsX0_fringes_r2) ++ wsX00)
def wsJ6_bitCount_0f7a4 : List Cond := .code yJ6_bitCount_0f7a4 cJ6_bitCount_0f7a4 1 (some .int) :: ([.constant RJ6 265 (1431655765), .constant RJ6 266 (858993459), .constant RJ6 267 (252645135)])
def wsX0_differentColours_r1 : List Cond := [Cond.fieldLink RX0 30 "SoapFilm$Film" "rows" "I", Cond.methodLink RX0 74 yX0_colourAt, Cond.instanceMethod yX0_colourAt, Cond.selects RX0 yX0_colourAt yX0_colourAt, Cond.initialized RX0, Cond.code yX0_colourAt cX0_colourAt 2 (some .int), Cond.fieldLink RX0 9 "SoapFilm$Film" "thickness" "[I", Cond.fieldLink RX0 15 "SoapFilm$Film" "settings" "[I", Cond.methodLink RX0 69 yX3_colour, Cond.static yX3_colour, Cond.initialized RX3, Cond.code yX3_colour cX3_colour 4 (some .int), Cond.methodLink RX3 13 yX3_path, Cond.static yX3_path, Cond.code yX3_path cX3_path 1 (some .int), Cond.methodLink RX3 16 yX3_red, Cond.static yX3_red, Cond.code yX3_red cX3_red 1 (some .int), Cond.methodLink RX3 9 yX3_brightness, Cond.static yX3_brightness, Cond.code yX3_brightness cX3_brightness 2 (some .int), Cond.methodLink RX3 19 yX3_green, Cond.static yX3_green, Cond.code yX3_green cX3_green 1 (some .int)]
def wsX0_differentColours_r2 : List Cond := [Cond.methodLink RX3 22 yX3_blue, Cond.static yX3_blue, Cond.code yX3_blue cX3_blue 1 (some .int), Cond.methodLink RX0 85 yJ6_bitCount_0f7a4, Cond.static yJ6_bitCount_0f7a4, Cond.initialized RJ6, Cond.code yJ6_bitCount_0f7a4 cJ6_bitCount_0f7a4 1 (some .int), Cond.constant RJ6 265 (1431655765), Cond.constant RJ6 266 (858993459), Cond.constant RJ6 267 (252645135)]
def wsX0_differentColours : List Cond := .code yX0_differentColours cX0_differentColours 3 (some .int) :: ((wsX0_differentColours_r1 ++ wsX0_differentColours_r2) ++ wsX00)
def wsX3_order : List Cond := .code yX3_order cX3_order 1 (some .int) :: ([])
def wsX0_greatestOrder : List Cond := .code yX0_greatestOrder cX0_greatestOrder 3 (some .int) :: ([.fieldLink RX0 30 "SoapFilm$Film" "rows" "I", .fieldLink RX0 9 "SoapFilm$Film" "thickness" "[I", .methodLink RX0 96 Lib.Math.max.name, .static Lib.Math.max.name, .initialized "java/lang/Math", .code Lib.Math.max.name Lib.Math.max.code 2 (some .int), .methodLink RX0 90 yX3_path, .static yX3_path, .initialized RX3, .code yX3_path cX3_path 1 (some .int), .methodLink RX0 93 yX3_order, .static yX3_order, .code yX3_order cX3_order 1 (some .int)] ++ wsX00)
def wsX0_giveDown : List Cond := .code yX0_giveDown cX0_giveDown 5 none :: ([.fieldLink RX0 30 "SoapFilm$Film" "rows" "I", .fieldLink RX0 9 "SoapFilm$Film" "thickness" "[I", .methodLink RX0 63 Lib.Math.min.name, .static Lib.Math.min.name, .initialized "java/lang/Math", .code Lib.Math.min.name Lib.Math.min.code 2 (some .int), .methodLink RX0 120 yX0_loseFrom, .instanceMethod yX0_loseFrom, .selects RX0 yX0_loseFrom yX0_loseFrom, .initialized RX0, .code yX0_loseFrom cX0_loseFrom 5 (some .int), .methodLink RX0 59 yX0_move, .instanceMethod yX0_move, .selects RX0 yX0_move yX0_move, .code yX0_move cX0_move 4 none, .fieldLink RX0 18 "SoapFilm$Film" "accounts" "[I"] ++ wsX00)
def wsX0_drain : List Cond := .code yX0_drain cX0_drain 4 none :: ([.fieldLink RX0 30 "SoapFilm$Film" "rows" "I", .fieldLink RX0 9 "SoapFilm$Film" "thickness" "[I", .fieldLink RX0 15 "SoapFilm$Film" "settings" "[I", .constantLong RX0 114 (1000000), .methodLink RX0 116 yX0_giveDown, .instanceMethod yX0_giveDown, .selects RX0 yX0_giveDown yX0_giveDown, .initialized RX0, .code yX0_giveDown cX0_giveDown 5 none, .methodLink RX0 63 Lib.Math.min.name, .static Lib.Math.min.name, .initialized "java/lang/Math", .code Lib.Math.min.name Lib.Math.min.code 2 (some .int), .methodLink RX0 120 yX0_loseFrom, .instanceMethod yX0_loseFrom, .selects RX0 yX0_loseFrom yX0_loseFrom, .code yX0_loseFrom cX0_loseFrom 5 (some .int), .methodLink RX0 59 yX0_move, .instanceMethod yX0_move, .selects RX0 yX0_move yX0_move, .code yX0_move cX0_move 4 none, .fieldLink RX0 18 "SoapFilm$Film" "accounts" "[I"] ++ wsX00)
def wsX0_runEdges_r1 : List Cond := [Cond.fieldLink RX0 30 "SoapFilm$Film" "rows" "I", Cond.fieldLink RX0 15 "SoapFilm$Film" "settings" "[I", Cond.methodLink RX0 78 yX0_isBlack, Cond.instanceMethod yX0_isBlack, Cond.selects RX0 yX0_isBlack yX0_isBlack, Cond.initialized RX0, Cond.code yX0_isBlack cX0_isBlack 2 (some .boolean), Cond.fieldLink RX0 9 "SoapFilm$Film" "thickness" "[I", Cond.methodLink RX0 116 yX0_giveDown, Cond.instanceMethod yX0_giveDown, Cond.selects RX0 yX0_giveDown yX0_giveDown, Cond.code yX0_giveDown cX0_giveDown 5 none, Cond.methodLink RX0 63 Lib.Math.min.name, Cond.static Lib.Math.min.name, Cond.initialized "java/lang/Math", Cond.code Lib.Math.min.name Lib.Math.min.code 2 (some .int), Cond.methodLink RX0 120 yX0_loseFrom, Cond.instanceMethod yX0_loseFrom, Cond.selects RX0 yX0_loseFrom yX0_loseFrom, Cond.code yX0_loseFrom cX0_loseFrom 5 (some .int), Cond.methodLink RX0 59 yX0_move, Cond.instanceMethod yX0_move, Cond.selects RX0 yX0_move yX0_move, Cond.code yX0_move cX0_move 4 none]
def wsX0_runEdges_r2 : List Cond := [Cond.fieldLink RX0 18 "SoapFilm$Film" "accounts" "[I"]
def wsX0_runEdges : List Cond := .code yX0_runEdges cX0_runEdges 5 none :: ((wsX0_runEdges_r1 ++ wsX0_runEdges_r2) ++ wsX00)
def wsX0_dry : List Cond := .code yX0_dry cX0_dry 2 none :: ([.fieldLink RX0 30 "SoapFilm$Film" "rows" "I", .fieldLink RX0 15 "SoapFilm$Film" "settings" "[I", .methodLink RX0 120 yX0_loseFrom, .instanceMethod yX0_loseFrom, .selects RX0 yX0_loseFrom yX0_loseFrom, .initialized RX0, .code yX0_loseFrom cX0_loseFrom 5 (some .int), .fieldLink RX0 9 "SoapFilm$Film" "thickness" "[I", .methodLink RX0 63 Lib.Math.min.name, .static Lib.Math.min.name, .initialized "java/lang/Math", .code Lib.Math.min.name Lib.Math.min.code 2 (some .int), .methodLink RX0 59 yX0_move, .instanceMethod yX0_move, .selects RX0 yX0_move yX0_move, .code yX0_move cX0_move 4 none, .fieldLink RX0 18 "SoapFilm$Film" "accounts" "[I"] ++ wsX00)
def wsX0_letDropFall : List Cond := .code yX0_letDropFall cX0_letDropFall 1 none :: ([.fieldLink RX0 18 "SoapFilm$Film" "accounts" "[I", .fieldLink RX0 15 "SoapFilm$Film" "settings" "[I", .fieldLink RX0 37 "SoapFilm$Film" "drops" "I", .methodLink RX0 59 yX0_move, .instanceMethod yX0_move, .selects RX0 yX0_move yX0_move, .initialized RX0, .code yX0_move cX0_move 4 none] ++ wsX00)
def wsX0_firstTooThin : List Cond := .code yX0_firstTooThin cX0_firstTooThin 2 (some .int) :: ([.fieldLink RX0 30 "SoapFilm$Film" "rows" "I", .fieldLink RX0 9 "SoapFilm$Film" "thickness" "[I", .fieldLink RX0 15 "SoapFilm$Film" "settings" "[I"] ++ wsX00)
def wsX0_burst : List Cond := .code yX0_burst cX0_burst 3 none :: ([.fieldLink RX0 40 "SoapFilm$Film" "bursts" "I", .fieldLink RX0 43 "SoapFilm$Film" "burstReason" "I", .fieldLink RX0 46 "SoapFilm$Film" "burstNumber" "I", .fieldLink RX0 34 "SoapFilm$Film" "ticks" "I", .fieldLink RX0 49 "SoapFilm$Film" "ticksBeforeBurst" "I", .methodLink RX0 56 yX0_endFilm, .instanceMethod yX0_endFilm, .selects RX0 yX0_endFilm yX0_endFilm, .initialized RX0, .code yX0_endFilm cX0_endFilm 2 none, .fieldLink RX0 18 "SoapFilm$Film" "accounts" "[I", .fieldLink RX0 30 "SoapFilm$Film" "rows" "I", .methodLink RX0 59 yX0_move, .instanceMethod yX0_move, .selects RX0 yX0_move yX0_move, .code yX0_move cX0_move 4 none] ++ wsX00)
def wsX0_burstIfDue_r1 : List Cond := [Cond.fieldLink RX0 15 "SoapFilm$Film" "settings" "[I", Cond.methodLink RX0 124 yX0_firstTooThin, Cond.instanceMethod yX0_firstTooThin, Cond.selects RX0 yX0_firstTooThin yX0_firstTooThin, Cond.initialized RX0, Cond.code yX0_firstTooThin cX0_firstTooThin 2 (some .int), Cond.fieldLink RX0 30 "SoapFilm$Film" "rows" "I", Cond.fieldLink RX0 9 "SoapFilm$Film" "thickness" "[I", Cond.methodLink RX0 128 yX0_blackRows, Cond.instanceMethod yX0_blackRows, Cond.selects RX0 yX0_blackRows yX0_blackRows, Cond.code yX0_blackRows cX0_blackRows 3 (some .int), Cond.methodLink RX0 78 yX0_isBlack, Cond.instanceMethod yX0_isBlack, Cond.selects RX0 yX0_isBlack yX0_isBlack, Cond.code yX0_isBlack cX0_isBlack 2 (some .boolean), Cond.methodLink RX0 131 yX0_burst, Cond.instanceMethod yX0_burst, Cond.selects RX0 yX0_burst yX0_burst, Cond.code yX0_burst cX0_burst 3 none, Cond.fieldLink RX0 40 "SoapFilm$Film" "bursts" "I", Cond.fieldLink RX0 43 "SoapFilm$Film" "burstReason" "I", Cond.fieldLink RX0 46 "SoapFilm$Film" "burstNumber" "I", Cond.fieldLink RX0 34 "SoapFilm$Film" "ticks" "I"]
def wsX0_burstIfDue_r2 : List Cond := [Cond.fieldLink RX0 49 "SoapFilm$Film" "ticksBeforeBurst" "I", Cond.methodLink RX0 56 yX0_endFilm, Cond.instanceMethod yX0_endFilm, Cond.selects RX0 yX0_endFilm yX0_endFilm, Cond.code yX0_endFilm cX0_endFilm 2 none, Cond.fieldLink RX0 18 "SoapFilm$Film" "accounts" "[I", Cond.methodLink RX0 59 yX0_move, Cond.instanceMethod yX0_move, Cond.selects RX0 yX0_move yX0_move, Cond.code yX0_move cX0_move 4 none]
def wsX0_burstIfDue : List Cond := .code yX0_burstIfDue cX0_burstIfDue 3 none :: ((wsX0_burstIfDue_r1 ++ wsX0_burstIfDue_r2) ++ wsX00)
def wsX0_tick_r1 : List Cond := [Cond.fieldLink RX0 30 "SoapFilm$Film" "rows" "I", Cond.fieldLink RX0 34 "SoapFilm$Film" "ticks" "I", Cond.methodLink RX0 99 yX0_drain, Cond.instanceMethod yX0_drain, Cond.selects RX0 yX0_drain yX0_drain, Cond.initialized RX0, Cond.code yX0_drain cX0_drain 4 none, Cond.fieldLink RX0 9 "SoapFilm$Film" "thickness" "[I", Cond.fieldLink RX0 15 "SoapFilm$Film" "settings" "[I", Cond.constantLong RX0 114 (1000000), Cond.methodLink RX0 116 yX0_giveDown, Cond.instanceMethod yX0_giveDown, Cond.selects RX0 yX0_giveDown yX0_giveDown, Cond.code yX0_giveDown cX0_giveDown 5 none, Cond.methodLink RX0 63 Lib.Math.min.name, Cond.static Lib.Math.min.name, Cond.initialized "java/lang/Math", Cond.code Lib.Math.min.name Lib.Math.min.code 2 (some .int), Cond.methodLink RX0 120 yX0_loseFrom, Cond.instanceMethod yX0_loseFrom, Cond.selects RX0 yX0_loseFrom yX0_loseFrom, Cond.code yX0_loseFrom cX0_loseFrom 5 (some .int), Cond.methodLink RX0 59 yX0_move, Cond.instanceMethod yX0_move]
def wsX0_tick_r2 : List Cond := [Cond.selects RX0 yX0_move yX0_move, Cond.code yX0_move cX0_move 4 none, Cond.fieldLink RX0 18 "SoapFilm$Film" "accounts" "[I", Cond.methodLink RX0 102 yX0_runEdges, Cond.instanceMethod yX0_runEdges, Cond.selects RX0 yX0_runEdges yX0_runEdges, Cond.code yX0_runEdges cX0_runEdges 5 none, Cond.methodLink RX0 78 yX0_isBlack, Cond.instanceMethod yX0_isBlack, Cond.selects RX0 yX0_isBlack yX0_isBlack, Cond.code yX0_isBlack cX0_isBlack 2 (some .boolean), Cond.methodLink RX0 105 yX0_dry, Cond.instanceMethod yX0_dry, Cond.selects RX0 yX0_dry yX0_dry, Cond.code yX0_dry cX0_dry 2 none, Cond.methodLink RX0 108 yX0_letDropFall, Cond.instanceMethod yX0_letDropFall, Cond.selects RX0 yX0_letDropFall yX0_letDropFall, Cond.code yX0_letDropFall cX0_letDropFall 1 none, Cond.fieldLink RX0 37 "SoapFilm$Film" "drops" "I", Cond.methodLink RX0 111 yX0_burstIfDue, Cond.instanceMethod yX0_burstIfDue, Cond.selects RX0 yX0_burstIfDue yX0_burstIfDue, Cond.code yX0_burstIfDue cX0_burstIfDue 3 none]
def wsX0_tick_r3 : List Cond := [Cond.methodLink RX0 124 yX0_firstTooThin, Cond.instanceMethod yX0_firstTooThin, Cond.selects RX0 yX0_firstTooThin yX0_firstTooThin, Cond.code yX0_firstTooThin cX0_firstTooThin 2 (some .int), Cond.methodLink RX0 128 yX0_blackRows, Cond.instanceMethod yX0_blackRows, Cond.selects RX0 yX0_blackRows yX0_blackRows, Cond.code yX0_blackRows cX0_blackRows 3 (some .int), Cond.methodLink RX0 131 yX0_burst, Cond.instanceMethod yX0_burst, Cond.selects RX0 yX0_burst yX0_burst, Cond.code yX0_burst cX0_burst 3 none, Cond.fieldLink RX0 40 "SoapFilm$Film" "bursts" "I", Cond.fieldLink RX0 43 "SoapFilm$Film" "burstReason" "I", Cond.fieldLink RX0 46 "SoapFilm$Film" "burstNumber" "I", Cond.fieldLink RX0 49 "SoapFilm$Film" "ticksBeforeBurst" "I", Cond.methodLink RX0 56 yX0_endFilm, Cond.instanceMethod yX0_endFilm, Cond.selects RX0 yX0_endFilm yX0_endFilm, Cond.code yX0_endFilm cX0_endFilm 2 none]
def wsX0_tick : List Cond := .code yX0_tick cX0_tick 1 none :: ((wsX0_tick_r1 ++ (wsX0_tick_r2 ++ wsX0_tick_r3)) ++ wsX00)
def wsX1_init : List Cond := .code yX1_init cX1_init 1 none :: ([.methodLink RX1 3 objectInit, .instanceMethod objectInit, .code objectInit ⟨#[0xb1]⟩ 1 none, .arrayClass .char, .fieldLink RX1 11 "SoapFilm$FilmText" "signs" "[C", .arrayClass .int, .fieldLink RX1 15 "SoapFilm$FilmText" "thickness" "[I"] ++ wsX10)
def wsX1_append : List Cond := .code yX1_append cX1_append 2 none :: ([.fieldLink RX1 19 "SoapFilm$FilmText" "length" "I", .fieldLink RX1 11 "SoapFilm$FilmText" "signs" "[C"] ++ wsX10)
def wsX1_findCross : List Cond := .code yX1_findCross cX1_findCross 4 (some .int) :: ([.fieldLink RX1 11 "SoapFilm$FilmText" "signs" "[C"] ++ wsX10)
def wsX1_number : List Cond := .code yX1_number cX1_number 6 (some .int) :: ([.fieldLink RX1 11 "SoapFilm$FilmText" "signs" "[C"] ++ wsX10)
def wsX4_isBetween : List Cond := .code yX4_isBetween cX4_isBetween 3 (some .boolean) :: ([])
def wsX4_isThickness : List Cond := .code yX4_isThickness cX4_isThickness 1 (some .boolean) :: ([.methodLink RX4 40 yX4_isBetween, .static yX4_isBetween, .initialized RX4, .code yX4_isBetween cX4_isBetween 3 (some .boolean)])
def wsX1_takePart : List Cond := .code yX1_takePart cX1_takePart 7 (some .int) :: ([.fieldLink RX1 23 "SoapFilm$FilmText" "rows" "I", .fieldLink RX1 15 "SoapFilm$FilmText" "thickness" "[I", .methodLink RX1 36 yX1_findCross, .instanceMethod yX1_findCross, .selects RX1 yX1_findCross yX1_findCross, .initialized RX1, .code yX1_findCross cX1_findCross 4 (some .int), .fieldLink RX1 11 "SoapFilm$FilmText" "signs" "[C", .methodLink RX1 39 yX1_number, .instanceMethod yX1_number, .selects RX1 yX1_number yX1_number, .code yX1_number cX1_number 6 (some .int), .static yX4_isThickness, .initialized RX4, .code yX4_isThickness cX4_isThickness 1 (some .boolean), .methodLink RX4 40 yX4_isBetween, .static yX4_isBetween, .code yX4_isBetween cX4_isBetween 3 (some .boolean)] ++ wsX10)
def wsX1_parse_r1 : List Cond := [Cond.fieldLink RX1 23 "SoapFilm$FilmText" "rows" "I", Cond.fieldLink RX1 26 "SoapFilm$FilmText" "reason" "I", Cond.fieldLink RX1 19 "SoapFilm$FilmText" "length" "I", Cond.fieldLink RX1 11 "SoapFilm$FilmText" "signs" "[C", Cond.fieldLink RX1 29 "SoapFilm$FilmText" "position" "I", Cond.methodLink RX1 32 yX1_takePart, Cond.instanceMethod yX1_takePart, Cond.selects RX1 yX1_takePart yX1_takePart, Cond.initialized RX1, Cond.code yX1_takePart cX1_takePart 7 (some .int), Cond.fieldLink RX1 15 "SoapFilm$FilmText" "thickness" "[I", Cond.methodLink RX1 36 yX1_findCross, Cond.instanceMethod yX1_findCross, Cond.selects RX1 yX1_findCross yX1_findCross, Cond.code yX1_findCross cX1_findCross 4 (some .int), Cond.methodLink RX1 39 yX1_number, Cond.instanceMethod yX1_number, Cond.selects RX1 yX1_number yX1_number, Cond.code yX1_number cX1_number 6 (some .int), Cond.static yX4_isThickness, Cond.initialized RX4, Cond.code yX4_isThickness cX4_isThickness 1 (some .boolean), Cond.methodLink RX4 40 yX4_isBetween, Cond.static yX4_isBetween]
def wsX1_parse_r2 : List Cond := [Cond.code yX4_isBetween cX4_isBetween 3 (some .boolean)]
def wsX1_parse : List Cond := .code yX1_parse cX1_parse 3 none :: ((wsX1_parse_r1 ++ wsX1_parse_r2) ++ wsX10)
def wsX2_init : List Cond := .code yX2_init cX2_init 2 none :: ([.methodLink RX2 1 objectInit, .instanceMethod objectInit, .code objectInit ⟨#[0xb1]⟩ 1 none, .classLink RX2 9 RX0, .fieldLink RX2 11 "SoapFilm$History" "states" "[LSoapFilm$Film;", .instantiable RX0 10, .initialized RX0, .methodLink RX2 15 yX0_init, .instanceMethod yX0_init, .code yX0_init cX0_init 1 none, .methodLink RX0 3 objectInit, .arrayClass .int, .fieldLink RX0 9 "SoapFilm$Film" "thickness" "[I", .fieldLink RX0 15 "SoapFilm$Film" "settings" "[I", .fieldLink RX0 18 "SoapFilm$Film" "accounts" "[I", .methodLink RX0 24 arraycopyName, .native arraycopyName, .static arraycopyName, .initialized "java/lang/System"] ++ wsX20 ++ wsX00)
def wsX2_dropOldest : List Cond := .code yX2_dropOldest cX2_dropOldest 3 none :: ([.fieldLink RX2 11 "SoapFilm$History" "states" "[LSoapFilm$Film;", .fieldLink RX2 16 "SoapFilm$History" "size" "I"] ++ wsX20)
def wsX2_keep_r1 : List Cond := [Cond.fieldLink RX2 16 "SoapFilm$History" "size" "I", Cond.fieldLink RX2 11 "SoapFilm$History" "states" "[LSoapFilm$Film;", Cond.methodLink RX2 20 yX2_dropOldest, Cond.instanceMethod yX2_dropOldest, Cond.selects RX2 yX2_dropOldest yX2_dropOldest, Cond.initialized RX2, Cond.code yX2_dropOldest cX2_dropOldest 3 none, Cond.methodLink RX2 23 yX0_copyFrom, Cond.instanceMethod yX0_copyFrom, Cond.selects RX0 yX0_copyFrom yX0_copyFrom, Cond.initialized RX0, Cond.code yX0_copyFrom cX0_copyFrom 2 none, Cond.fieldLink RX0 9 "SoapFilm$Film" "thickness" "[I", Cond.methodLink RX0 24 arraycopyName, Cond.native arraycopyName, Cond.static arraycopyName, Cond.initialized "java/lang/System", Cond.fieldLink RX0 15 "SoapFilm$Film" "settings" "[I", Cond.fieldLink RX0 18 "SoapFilm$Film" "accounts" "[I", Cond.fieldLink RX0 30 "SoapFilm$Film" "rows" "I", Cond.fieldLink RX0 34 "SoapFilm$Film" "ticks" "I", Cond.fieldLink RX0 37 "SoapFilm$Film" "drops" "I", Cond.fieldLink RX0 40 "SoapFilm$Film" "bursts" "I", Cond.fieldLink RX0 43 "SoapFilm$Film" "burstReason" "I"]
def wsX2_keep_r2 : List Cond := [Cond.fieldLink RX0 46 "SoapFilm$Film" "burstNumber" "I", Cond.fieldLink RX0 49 "SoapFilm$Film" "ticksBeforeBurst" "I"]
def wsX2_keep : List Cond := .code yX2_keep cX2_keep 2 none :: ((wsX2_keep_r1 ++ wsX2_keep_r2) ++ wsX20 ++ wsX00)
def wsX2_restore : List Cond := .code yX2_restore cX2_restore 2 none :: ([.fieldLink RX2 16 "SoapFilm$History" "size" "I", .fieldLink RX2 11 "SoapFilm$History" "states" "[LSoapFilm$Film;", .methodLink RX2 23 yX0_copyFrom, .instanceMethod yX0_copyFrom, .selects RX0 yX0_copyFrom yX0_copyFrom, .initialized RX0, .code yX0_copyFrom cX0_copyFrom 2 none, .fieldLink RX0 9 "SoapFilm$Film" "thickness" "[I", .methodLink RX0 24 arraycopyName, .native arraycopyName, .static arraycopyName, .initialized "java/lang/System", .fieldLink RX0 15 "SoapFilm$Film" "settings" "[I", .fieldLink RX0 18 "SoapFilm$Film" "accounts" "[I", .fieldLink RX0 30 "SoapFilm$Film" "rows" "I", .fieldLink RX0 34 "SoapFilm$Film" "ticks" "I", .fieldLink RX0 37 "SoapFilm$Film" "drops" "I", .fieldLink RX0 40 "SoapFilm$Film" "bursts" "I", .fieldLink RX0 43 "SoapFilm$Film" "burstReason" "I", .fieldLink RX0 46 "SoapFilm$Film" "burstNumber" "I", .fieldLink RX0 49 "SoapFilm$Film" "ticksBeforeBurst" "I"] ++ wsX20 ++ wsX00)
def wsX4_init_r1 : List Cond := [Cond.methodLink RX4 1 objectInit, Cond.instanceMethod objectInit, Cond.code objectInit ⟨#[0xb1]⟩ 1 none, Cond.classLink RX4 7 RX0, Cond.instantiable RX0 10, Cond.initialized RX0, Cond.fieldLink RX4 10 "SoapFilm" "film" "LSoapFilm$Film;", Cond.fieldLink RX4 16 "SoapFilm" "trial" "LSoapFilm$Film;", Cond.classLink RX4 19 RX2, Cond.instantiable RX2 2, Cond.initialized RX2, Cond.fieldLink RX4 22 "SoapFilm" "history" "LSoapFilm$History;", Cond.classLink RX4 26 RX1, Cond.instantiable RX1 6, Cond.initialized RX1, Cond.fieldLink RX4 29 "SoapFilm" "text" "LSoapFilm$FilmText;", Cond.methodLink RX4 9 yX0_init, Cond.instanceMethod yX0_init, Cond.code yX0_init cX0_init 1 none, Cond.methodLink RX0 3 objectInit, Cond.arrayClass .int, Cond.fieldLink RX0 9 "SoapFilm$Film" "thickness" "[I", Cond.fieldLink RX0 15 "SoapFilm$Film" "settings" "[I", Cond.fieldLink RX0 18 "SoapFilm$Film" "accounts" "[I"]
def wsX4_init_r2 : List Cond := [Cond.methodLink RX0 24 arraycopyName, Cond.native arraycopyName, Cond.static arraycopyName, Cond.initialized "java/lang/System", Cond.methodLink RX4 21 yX2_init, Cond.instanceMethod yX2_init, Cond.code yX2_init cX2_init 2 none, Cond.methodLink RX2 1 objectInit, Cond.classLink RX2 9 RX0, Cond.fieldLink RX2 11 "SoapFilm$History" "states" "[LSoapFilm$Film;", Cond.methodLink RX2 15 yX0_init, Cond.instanceMethod yX1_init, Cond.code yX1_init cX1_init 1 none, Cond.methodLink RX1 3 objectInit, Cond.arrayClass .char, Cond.fieldLink RX1 11 "SoapFilm$FilmText" "signs" "[C", Cond.fieldLink RX1 15 "SoapFilm$FilmText" "thickness" "[I"]
def wsX4_init : List Cond := .code yX4_init cX4_init 1 none :: ((wsX4_init_r1 ++ wsX4_init_r2) ++ wsX00 ++ wsX40 ++ wsX20 ++ wsX10)
def wsX4_set_r1 : List Cond := [Cond.fieldLink RX4 33 "SoapFilm" "LEAST_SETTING" "[I", Cond.fieldLink RX4 37 "SoapFilm" "GREATEST_SETTING" "[I", Cond.fieldLink RX4 22 "SoapFilm" "history" "LSoapFilm$History;", Cond.fieldLink RX4 10 "SoapFilm" "film" "LSoapFilm$Film;", Cond.fieldLink RX4 48 "SoapFilm$Film" "settings" "[I", Cond.methodLink RX4 40 yX4_isBetween, Cond.static yX4_isBetween, Cond.initialized RX4, Cond.code yX4_isBetween cX4_isBetween 3 (some .boolean), Cond.methodLink RX4 44 yX2_keep, Cond.instanceMethod yX2_keep, Cond.selects RX2 yX2_keep yX2_keep, Cond.initialized RX2, Cond.code yX2_keep cX2_keep 2 none, Cond.fieldLink RX2 16 "SoapFilm$History" "size" "I", Cond.fieldLink RX2 11 "SoapFilm$History" "states" "[LSoapFilm$Film;", Cond.methodLink RX2 20 yX2_dropOldest, Cond.instanceMethod yX2_dropOldest, Cond.selects RX2 yX2_dropOldest yX2_dropOldest, Cond.code yX2_dropOldest cX2_dropOldest 3 none, Cond.methodLink RX2 23 yX0_copyFrom, Cond.instanceMethod yX0_copyFrom, Cond.selects RX0 yX0_copyFrom yX0_copyFrom, Cond.initialized RX0]
def wsX4_set_r2 : List Cond := [Cond.code yX0_copyFrom cX0_copyFrom 2 none, Cond.fieldLink RX0 9 "SoapFilm$Film" "thickness" "[I", Cond.methodLink RX0 24 arraycopyName, Cond.native arraycopyName, Cond.static arraycopyName, Cond.initialized "java/lang/System", Cond.fieldLink RX0 15 "SoapFilm$Film" "settings" "[I", Cond.fieldLink RX0 18 "SoapFilm$Film" "accounts" "[I", Cond.fieldLink RX0 30 "SoapFilm$Film" "rows" "I", Cond.fieldLink RX0 34 "SoapFilm$Film" "ticks" "I", Cond.fieldLink RX0 37 "SoapFilm$Film" "drops" "I", Cond.fieldLink RX0 40 "SoapFilm$Film" "bursts" "I", Cond.fieldLink RX0 43 "SoapFilm$Film" "burstReason" "I", Cond.fieldLink RX0 46 "SoapFilm$Film" "burstNumber" "I", Cond.fieldLink RX0 49 "SoapFilm$Film" "ticksBeforeBurst" "I"]
def wsX4_set : List Cond := .code yX4_set cX4_set 4 (some .int) :: ((wsX4_set_r1 ++ wsX4_set_r2) ++ wsX40 ++ wsX00 ++ wsX20)
def wsX4_dip_r1 : List Cond := [Cond.fieldLink RX4 22 "SoapFilm" "history" "LSoapFilm$History;", Cond.fieldLink RX4 10 "SoapFilm" "film" "LSoapFilm$Film;", Cond.fieldLink RX4 62 "SoapFilm$Film" "accounts" "[I", Cond.methodLink RX4 40 yX4_isBetween, Cond.static yX4_isBetween, Cond.initialized RX4, Cond.code yX4_isBetween cX4_isBetween 3 (some .boolean), Cond.methodLink RX4 51 yX4_isThickness, Cond.static yX4_isThickness, Cond.code yX4_isThickness cX4_isThickness 1 (some .boolean), Cond.methodLink RX4 44 yX2_keep, Cond.instanceMethod yX2_keep, Cond.selects RX2 yX2_keep yX2_keep, Cond.initialized RX2, Cond.code yX2_keep cX2_keep 2 none, Cond.fieldLink RX2 16 "SoapFilm$History" "size" "I", Cond.fieldLink RX2 11 "SoapFilm$History" "states" "[LSoapFilm$Film;", Cond.methodLink RX2 20 yX2_dropOldest, Cond.instanceMethod yX2_dropOldest, Cond.selects RX2 yX2_dropOldest yX2_dropOldest, Cond.code yX2_dropOldest cX2_dropOldest 3 none, Cond.methodLink RX2 23 yX0_copyFrom, Cond.instanceMethod yX0_copyFrom, Cond.selects RX0 yX0_copyFrom yX0_copyFrom]
def wsX4_dip_r2 : List Cond := [Cond.initialized RX0, Cond.code yX0_copyFrom cX0_copyFrom 2 none, Cond.fieldLink RX0 9 "SoapFilm$Film" "thickness" "[I", Cond.methodLink RX0 24 arraycopyName, Cond.native arraycopyName, Cond.static arraycopyName, Cond.initialized "java/lang/System", Cond.fieldLink RX0 15 "SoapFilm$Film" "settings" "[I", Cond.fieldLink RX0 18 "SoapFilm$Film" "accounts" "[I", Cond.fieldLink RX0 30 "SoapFilm$Film" "rows" "I", Cond.fieldLink RX0 34 "SoapFilm$Film" "ticks" "I", Cond.fieldLink RX0 37 "SoapFilm$Film" "drops" "I", Cond.fieldLink RX0 40 "SoapFilm$Film" "bursts" "I", Cond.fieldLink RX0 43 "SoapFilm$Film" "burstReason" "I", Cond.fieldLink RX0 46 "SoapFilm$Film" "burstNumber" "I", Cond.fieldLink RX0 49 "SoapFilm$Film" "ticksBeforeBurst" "I", Cond.methodLink RX4 55 yX0_takeAway, Cond.instanceMethod yX0_takeAway, Cond.selects RX0 yX0_takeAway yX0_takeAway, Cond.code yX0_takeAway cX0_takeAway 1 none, Cond.methodLink RX0 56 yX0_endFilm, Cond.instanceMethod yX0_endFilm, Cond.selects RX0 yX0_endFilm yX0_endFilm, Cond.code yX0_endFilm cX0_endFilm 2 none]
def wsX4_dip_r3 : List Cond := [Cond.methodLink RX0 59 yX0_move, Cond.instanceMethod yX0_move, Cond.selects RX0 yX0_move yX0_move, Cond.code yX0_move cX0_move 4 none, Cond.methodLink RX4 58 yX0_appendRow, Cond.instanceMethod yX0_appendRow, Cond.selects RX0 yX0_appendRow yX0_appendRow, Cond.code yX0_appendRow cX0_appendRow 2 none, Cond.methodLink RX0 52 yX0_bring, Cond.instanceMethod yX0_bring, Cond.selects RX0 yX0_bring yX0_bring, Cond.code yX0_bring cX0_bring 2 none]
def wsX4_dip : List Cond := .code yX4_dip cX4_dip 5 (some .int) :: ((wsX4_dip_r1 ++ (wsX4_dip_r2 ++ wsX4_dip_r3)) ++ wsX40 ++ wsX00 ++ wsX20)
def wsX4_pour_r1 : List Cond := [Cond.fieldLink RX4 10 "SoapFilm" "film" "LSoapFilm$Film;", Cond.fieldLink RX4 68 "SoapFilm$Film" "thickness" "[I", Cond.fieldLink RX4 22 "SoapFilm" "history" "LSoapFilm$History;", Cond.methodLink RX4 65 yX0_hasRow, Cond.instanceMethod yX0_hasRow, Cond.selects RX0 yX0_hasRow yX0_hasRow, Cond.initialized RX0, Cond.code yX0_hasRow cX0_hasRow 2 (some .boolean), Cond.fieldLink RX0 30 "SoapFilm$Film" "rows" "I", Cond.methodLink RX4 40 yX4_isBetween, Cond.static yX4_isBetween, Cond.initialized RX4, Cond.code yX4_isBetween cX4_isBetween 3 (some .boolean), Cond.methodLink RX4 51 yX4_isThickness, Cond.static yX4_isThickness, Cond.code yX4_isThickness cX4_isThickness 1 (some .boolean), Cond.methodLink RX4 44 yX2_keep, Cond.instanceMethod yX2_keep, Cond.selects RX2 yX2_keep yX2_keep, Cond.initialized RX2, Cond.code yX2_keep cX2_keep 2 none, Cond.fieldLink RX2 16 "SoapFilm$History" "size" "I", Cond.fieldLink RX2 11 "SoapFilm$History" "states" "[LSoapFilm$Film;", Cond.methodLink RX2 20 yX2_dropOldest]
def wsX4_pour_r2 : List Cond := [Cond.instanceMethod yX2_dropOldest, Cond.selects RX2 yX2_dropOldest yX2_dropOldest, Cond.code yX2_dropOldest cX2_dropOldest 3 none, Cond.methodLink RX2 23 yX0_copyFrom, Cond.instanceMethod yX0_copyFrom, Cond.selects RX0 yX0_copyFrom yX0_copyFrom, Cond.code yX0_copyFrom cX0_copyFrom 2 none, Cond.fieldLink RX0 9 "SoapFilm$Film" "thickness" "[I", Cond.methodLink RX0 24 arraycopyName, Cond.native arraycopyName, Cond.static arraycopyName, Cond.initialized "java/lang/System", Cond.fieldLink RX0 15 "SoapFilm$Film" "settings" "[I", Cond.fieldLink RX0 18 "SoapFilm$Film" "accounts" "[I", Cond.fieldLink RX0 34 "SoapFilm$Film" "ticks" "I", Cond.fieldLink RX0 37 "SoapFilm$Film" "drops" "I", Cond.fieldLink RX0 40 "SoapFilm$Film" "bursts" "I", Cond.fieldLink RX0 43 "SoapFilm$Film" "burstReason" "I", Cond.fieldLink RX0 46 "SoapFilm$Film" "burstNumber" "I", Cond.fieldLink RX0 49 "SoapFilm$Film" "ticksBeforeBurst" "I", Cond.methodLink RX4 71 yX0_bring, Cond.instanceMethod yX0_bring, Cond.selects RX0 yX0_bring yX0_bring, Cond.code yX0_bring cX0_bring 2 none]
def wsX4_pour : List Cond := .code yX4_pour cX4_pour 3 (some .int) :: ((wsX4_pour_r1 ++ wsX4_pour_r2) ++ wsX40 ++ wsX00 ++ wsX20)
def wsX4_add_r1 : List Cond := [Cond.fieldLink RX4 10 "SoapFilm" "film" "LSoapFilm$Film;", Cond.fieldLink RX4 74 "SoapFilm$Film" "rows" "I", Cond.fieldLink RX4 22 "SoapFilm" "history" "LSoapFilm$History;", Cond.methodLink RX4 51 yX4_isThickness, Cond.static yX4_isThickness, Cond.initialized RX4, Cond.code yX4_isThickness cX4_isThickness 1 (some .boolean), Cond.methodLink RX4 40 yX4_isBetween, Cond.static yX4_isBetween, Cond.code yX4_isBetween cX4_isBetween 3 (some .boolean), Cond.methodLink RX4 44 yX2_keep, Cond.instanceMethod yX2_keep, Cond.selects RX2 yX2_keep yX2_keep, Cond.initialized RX2, Cond.code yX2_keep cX2_keep 2 none, Cond.fieldLink RX2 16 "SoapFilm$History" "size" "I", Cond.fieldLink RX2 11 "SoapFilm$History" "states" "[LSoapFilm$Film;", Cond.methodLink RX2 20 yX2_dropOldest, Cond.instanceMethod yX2_dropOldest, Cond.selects RX2 yX2_dropOldest yX2_dropOldest, Cond.code yX2_dropOldest cX2_dropOldest 3 none, Cond.methodLink RX2 23 yX0_copyFrom, Cond.instanceMethod yX0_copyFrom, Cond.selects RX0 yX0_copyFrom yX0_copyFrom]
def wsX4_add_r2 : List Cond := [Cond.initialized RX0, Cond.code yX0_copyFrom cX0_copyFrom 2 none, Cond.fieldLink RX0 9 "SoapFilm$Film" "thickness" "[I", Cond.methodLink RX0 24 arraycopyName, Cond.native arraycopyName, Cond.static arraycopyName, Cond.initialized "java/lang/System", Cond.fieldLink RX0 15 "SoapFilm$Film" "settings" "[I", Cond.fieldLink RX0 18 "SoapFilm$Film" "accounts" "[I", Cond.fieldLink RX0 30 "SoapFilm$Film" "rows" "I", Cond.fieldLink RX0 34 "SoapFilm$Film" "ticks" "I", Cond.fieldLink RX0 37 "SoapFilm$Film" "drops" "I", Cond.fieldLink RX0 40 "SoapFilm$Film" "bursts" "I", Cond.fieldLink RX0 43 "SoapFilm$Film" "burstReason" "I", Cond.fieldLink RX0 46 "SoapFilm$Film" "burstNumber" "I", Cond.fieldLink RX0 49 "SoapFilm$Film" "ticksBeforeBurst" "I", Cond.methodLink RX4 58 yX0_appendRow, Cond.instanceMethod yX0_appendRow, Cond.selects RX0 yX0_appendRow yX0_appendRow, Cond.code yX0_appendRow cX0_appendRow 2 none, Cond.methodLink RX0 52 yX0_bring, Cond.instanceMethod yX0_bring, Cond.selects RX0 yX0_bring yX0_bring, Cond.code yX0_bring cX0_bring 2 none]
def wsX4_add : List Cond := .code yX4_add cX4_add 2 (some .int) :: ((wsX4_add_r1 ++ wsX4_add_r2) ++ wsX40 ++ wsX00 ++ wsX20)
def wsX4_thin_r1 : List Cond := [Cond.fieldLink RX4 10 "SoapFilm" "film" "LSoapFilm$Film;", Cond.fieldLink RX4 22 "SoapFilm" "history" "LSoapFilm$History;", Cond.methodLink RX4 65 yX0_hasRow, Cond.instanceMethod yX0_hasRow, Cond.selects RX0 yX0_hasRow yX0_hasRow, Cond.initialized RX0, Cond.code yX0_hasRow cX0_hasRow 2 (some .boolean), Cond.fieldLink RX0 30 "SoapFilm$Film" "rows" "I", Cond.methodLink RX4 40 yX4_isBetween, Cond.static yX4_isBetween, Cond.initialized RX4, Cond.code yX4_isBetween cX4_isBetween 3 (some .boolean), Cond.methodLink RX4 44 yX2_keep, Cond.instanceMethod yX2_keep, Cond.selects RX2 yX2_keep yX2_keep, Cond.initialized RX2, Cond.code yX2_keep cX2_keep 2 none, Cond.fieldLink RX2 16 "SoapFilm$History" "size" "I", Cond.fieldLink RX2 11 "SoapFilm$History" "states" "[LSoapFilm$Film;", Cond.methodLink RX2 20 yX2_dropOldest, Cond.instanceMethod yX2_dropOldest, Cond.selects RX2 yX2_dropOldest yX2_dropOldest, Cond.code yX2_dropOldest cX2_dropOldest 3 none, Cond.methodLink RX2 23 yX0_copyFrom]
def wsX4_thin_r2 : List Cond := [Cond.instanceMethod yX0_copyFrom, Cond.selects RX0 yX0_copyFrom yX0_copyFrom, Cond.code yX0_copyFrom cX0_copyFrom 2 none, Cond.fieldLink RX0 9 "SoapFilm$Film" "thickness" "[I", Cond.methodLink RX0 24 arraycopyName, Cond.native arraycopyName, Cond.static arraycopyName, Cond.initialized "java/lang/System", Cond.fieldLink RX0 15 "SoapFilm$Film" "settings" "[I", Cond.fieldLink RX0 18 "SoapFilm$Film" "accounts" "[I", Cond.fieldLink RX0 34 "SoapFilm$Film" "ticks" "I", Cond.fieldLink RX0 37 "SoapFilm$Film" "drops" "I", Cond.fieldLink RX0 40 "SoapFilm$Film" "bursts" "I", Cond.fieldLink RX0 43 "SoapFilm$Film" "burstReason" "I", Cond.fieldLink RX0 46 "SoapFilm$Film" "burstNumber" "I", Cond.fieldLink RX0 49 "SoapFilm$Film" "ticksBeforeBurst" "I", Cond.methodLink RX4 78 yX0_loseFrom, Cond.instanceMethod yX0_loseFrom, Cond.selects RX0 yX0_loseFrom yX0_loseFrom, Cond.code yX0_loseFrom cX0_loseFrom 5 (some .int), Cond.methodLink RX0 63 Lib.Math.min.name, Cond.static Lib.Math.min.name, Cond.initialized "java/lang/Math", Cond.code Lib.Math.min.name Lib.Math.min.code 2 (some .int)]
def wsX4_thin_r3 : List Cond := [Cond.methodLink RX0 59 yX0_move, Cond.instanceMethod yX0_move, Cond.selects RX0 yX0_move yX0_move, Cond.code yX0_move cX0_move 4 none]
def wsX4_thin : List Cond := .code yX4_thin cX4_thin 3 (some .int) :: ((wsX4_thin_r1 ++ (wsX4_thin_r2 ++ wsX4_thin_r3)) ++ wsX40 ++ wsX00 ++ wsX20)
def wsX4_cut_r1 : List Cond := [Cond.fieldLink RX4 10 "SoapFilm" "film" "LSoapFilm$Film;", Cond.fieldLink RX4 74 "SoapFilm$Film" "rows" "I", Cond.fieldLink RX4 22 "SoapFilm" "history" "LSoapFilm$History;", Cond.methodLink RX4 44 yX2_keep, Cond.instanceMethod yX2_keep, Cond.selects RX2 yX2_keep yX2_keep, Cond.initialized RX2, Cond.code yX2_keep cX2_keep 2 none, Cond.fieldLink RX2 16 "SoapFilm$History" "size" "I", Cond.fieldLink RX2 11 "SoapFilm$History" "states" "[LSoapFilm$Film;", Cond.methodLink RX2 20 yX2_dropOldest, Cond.instanceMethod yX2_dropOldest, Cond.selects RX2 yX2_dropOldest yX2_dropOldest, Cond.code yX2_dropOldest cX2_dropOldest 3 none, Cond.methodLink RX2 23 yX0_copyFrom, Cond.instanceMethod yX0_copyFrom, Cond.selects RX0 yX0_copyFrom yX0_copyFrom, Cond.initialized RX0, Cond.code yX0_copyFrom cX0_copyFrom 2 none, Cond.fieldLink RX0 9 "SoapFilm$Film" "thickness" "[I", Cond.methodLink RX0 24 arraycopyName, Cond.native arraycopyName, Cond.static arraycopyName, Cond.initialized "java/lang/System"]
def wsX4_cut_r2 : List Cond := [Cond.fieldLink RX0 15 "SoapFilm$Film" "settings" "[I", Cond.fieldLink RX0 18 "SoapFilm$Film" "accounts" "[I", Cond.fieldLink RX0 30 "SoapFilm$Film" "rows" "I", Cond.fieldLink RX0 34 "SoapFilm$Film" "ticks" "I", Cond.fieldLink RX0 37 "SoapFilm$Film" "drops" "I", Cond.fieldLink RX0 40 "SoapFilm$Film" "bursts" "I", Cond.fieldLink RX0 43 "SoapFilm$Film" "burstReason" "I", Cond.fieldLink RX0 46 "SoapFilm$Film" "burstNumber" "I", Cond.fieldLink RX0 49 "SoapFilm$Film" "ticksBeforeBurst" "I", Cond.methodLink RX4 78 yX0_loseFrom, Cond.instanceMethod yX0_loseFrom, Cond.selects RX0 yX0_loseFrom yX0_loseFrom, Cond.code yX0_loseFrom cX0_loseFrom 5 (some .int), Cond.methodLink RX0 63 Lib.Math.min.name, Cond.static Lib.Math.min.name, Cond.initialized "java/lang/Math", Cond.code Lib.Math.min.name Lib.Math.min.code 2 (some .int), Cond.methodLink RX0 59 yX0_move, Cond.instanceMethod yX0_move, Cond.selects RX0 yX0_move yX0_move, Cond.code yX0_move cX0_move 4 none]
def wsX4_cut : List Cond := .code yX4_cut cX4_cut 2 (some .int) :: ((wsX4_cut_r1 ++ wsX4_cut_r2) ++ wsX40 ++ wsX00 ++ wsX20)
def wsX4_go_r1 : List Cond := [Cond.fieldLink RX4 10 "SoapFilm" "film" "LSoapFilm$Film;", Cond.fieldLink RX4 82 "SoapFilm$Film" "ticks" "I", Cond.constant RX4 85 (100000), Cond.fieldLink RX4 22 "SoapFilm" "history" "LSoapFilm$History;", Cond.fieldLink RX4 74 "SoapFilm$Film" "rows" "I", Cond.methodLink RX4 40 yX4_isBetween, Cond.static yX4_isBetween, Cond.initialized RX4, Cond.code yX4_isBetween cX4_isBetween 3 (some .boolean), Cond.methodLink RX4 44 yX2_keep, Cond.instanceMethod yX2_keep, Cond.selects RX2 yX2_keep yX2_keep, Cond.initialized RX2, Cond.code yX2_keep cX2_keep 2 none, Cond.fieldLink RX2 16 "SoapFilm$History" "size" "I", Cond.fieldLink RX2 11 "SoapFilm$History" "states" "[LSoapFilm$Film;", Cond.methodLink RX2 20 yX2_dropOldest, Cond.instanceMethod yX2_dropOldest, Cond.selects RX2 yX2_dropOldest yX2_dropOldest, Cond.code yX2_dropOldest cX2_dropOldest 3 none, Cond.methodLink RX2 23 yX0_copyFrom, Cond.instanceMethod yX0_copyFrom, Cond.selects RX0 yX0_copyFrom yX0_copyFrom, Cond.initialized RX0]
def wsX4_go_r2 : List Cond := [Cond.code yX0_copyFrom cX0_copyFrom 2 none, Cond.fieldLink RX0 9 "SoapFilm$Film" "thickness" "[I", Cond.methodLink RX0 24 arraycopyName, Cond.native arraycopyName, Cond.static arraycopyName, Cond.initialized "java/lang/System", Cond.fieldLink RX0 15 "SoapFilm$Film" "settings" "[I", Cond.fieldLink RX0 18 "SoapFilm$Film" "accounts" "[I", Cond.fieldLink RX0 30 "SoapFilm$Film" "rows" "I", Cond.fieldLink RX0 34 "SoapFilm$Film" "ticks" "I", Cond.fieldLink RX0 37 "SoapFilm$Film" "drops" "I", Cond.fieldLink RX0 40 "SoapFilm$Film" "bursts" "I", Cond.fieldLink RX0 43 "SoapFilm$Film" "burstReason" "I", Cond.fieldLink RX0 46 "SoapFilm$Film" "burstNumber" "I", Cond.fieldLink RX0 49 "SoapFilm$Film" "ticksBeforeBurst" "I", Cond.methodLink RX4 86 yX0_tick, Cond.instanceMethod yX0_tick, Cond.selects RX0 yX0_tick yX0_tick, Cond.code yX0_tick cX0_tick 1 none, Cond.methodLink RX0 99 yX0_drain, Cond.instanceMethod yX0_drain, Cond.selects RX0 yX0_drain yX0_drain, Cond.code yX0_drain cX0_drain 4 none, Cond.constantLong RX0 114 (1000000)]
def wsX4_go_r3 : List Cond := [Cond.methodLink RX0 116 yX0_giveDown, Cond.instanceMethod yX0_giveDown, Cond.selects RX0 yX0_giveDown yX0_giveDown, Cond.code yX0_giveDown cX0_giveDown 5 none, Cond.methodLink RX0 63 Lib.Math.min.name, Cond.static Lib.Math.min.name, Cond.initialized "java/lang/Math", Cond.code Lib.Math.min.name Lib.Math.min.code 2 (some .int), Cond.methodLink RX0 120 yX0_loseFrom, Cond.instanceMethod yX0_loseFrom, Cond.selects RX0 yX0_loseFrom yX0_loseFrom, Cond.code yX0_loseFrom cX0_loseFrom 5 (some .int), Cond.methodLink RX0 59 yX0_move, Cond.instanceMethod yX0_move, Cond.selects RX0 yX0_move yX0_move, Cond.code yX0_move cX0_move 4 none, Cond.methodLink RX0 102 yX0_runEdges, Cond.instanceMethod yX0_runEdges, Cond.selects RX0 yX0_runEdges yX0_runEdges, Cond.code yX0_runEdges cX0_runEdges 5 none, Cond.methodLink RX0 78 yX0_isBlack, Cond.instanceMethod yX0_isBlack, Cond.selects RX0 yX0_isBlack yX0_isBlack, Cond.code yX0_isBlack cX0_isBlack 2 (some .boolean)]
def wsX4_go_r4 : List Cond := [Cond.methodLink RX0 105 yX0_dry, Cond.instanceMethod yX0_dry, Cond.selects RX0 yX0_dry yX0_dry, Cond.code yX0_dry cX0_dry 2 none, Cond.methodLink RX0 108 yX0_letDropFall, Cond.instanceMethod yX0_letDropFall, Cond.selects RX0 yX0_letDropFall yX0_letDropFall, Cond.code yX0_letDropFall cX0_letDropFall 1 none, Cond.methodLink RX0 111 yX0_burstIfDue, Cond.instanceMethod yX0_burstIfDue, Cond.selects RX0 yX0_burstIfDue yX0_burstIfDue, Cond.code yX0_burstIfDue cX0_burstIfDue 3 none, Cond.methodLink RX0 124 yX0_firstTooThin, Cond.instanceMethod yX0_firstTooThin, Cond.selects RX0 yX0_firstTooThin yX0_firstTooThin, Cond.code yX0_firstTooThin cX0_firstTooThin 2 (some .int), Cond.methodLink RX0 128 yX0_blackRows, Cond.instanceMethod yX0_blackRows, Cond.selects RX0 yX0_blackRows yX0_blackRows, Cond.code yX0_blackRows cX0_blackRows 3 (some .int), Cond.methodLink RX0 131 yX0_burst, Cond.instanceMethod yX0_burst, Cond.selects RX0 yX0_burst yX0_burst, Cond.code yX0_burst cX0_burst 3 none]
def wsX4_go_r5 : List Cond := [Cond.methodLink RX0 56 yX0_endFilm, Cond.instanceMethod yX0_endFilm, Cond.selects RX0 yX0_endFilm yX0_endFilm, Cond.code yX0_endFilm cX0_endFilm 2 none]
def wsX4_go : List Cond := .code yX4_go cX4_go 4 (some .int) :: ((wsX4_go_r1 ++ (wsX4_go_r2 ++ (wsX4_go_r3 ++ (wsX4_go_r4 ++ wsX4_go_r5)))) ++ wsX40 ++ wsX00 ++ wsX20)
def wsX4_undo_r1 : List Cond := [Cond.fieldLink RX4 22 "SoapFilm" "history" "LSoapFilm$History;", Cond.fieldLink RX4 89 "SoapFilm$History" "size" "I", Cond.fieldLink RX4 10 "SoapFilm" "film" "LSoapFilm$Film;", Cond.methodLink RX4 92 yX2_restore, Cond.instanceMethod yX2_restore, Cond.selects RX2 yX2_restore yX2_restore, Cond.initialized RX2, Cond.code yX2_restore cX2_restore 2 none, Cond.fieldLink RX2 16 "SoapFilm$History" "size" "I", Cond.fieldLink RX2 11 "SoapFilm$History" "states" "[LSoapFilm$Film;", Cond.methodLink RX2 23 yX0_copyFrom, Cond.instanceMethod yX0_copyFrom, Cond.selects RX0 yX0_copyFrom yX0_copyFrom, Cond.initialized RX0, Cond.code yX0_copyFrom cX0_copyFrom 2 none, Cond.fieldLink RX0 9 "SoapFilm$Film" "thickness" "[I", Cond.methodLink RX0 24 arraycopyName, Cond.native arraycopyName, Cond.static arraycopyName, Cond.initialized "java/lang/System", Cond.fieldLink RX0 15 "SoapFilm$Film" "settings" "[I", Cond.fieldLink RX0 18 "SoapFilm$Film" "accounts" "[I", Cond.fieldLink RX0 30 "SoapFilm$Film" "rows" "I", Cond.fieldLink RX0 34 "SoapFilm$Film" "ticks" "I"]
def wsX4_undo_r2 : List Cond := [Cond.fieldLink RX0 37 "SoapFilm$Film" "drops" "I", Cond.fieldLink RX0 40 "SoapFilm$Film" "bursts" "I", Cond.fieldLink RX0 43 "SoapFilm$Film" "burstReason" "I", Cond.fieldLink RX0 46 "SoapFilm$Film" "burstNumber" "I", Cond.fieldLink RX0 49 "SoapFilm$Film" "ticksBeforeBurst" "I"]
def wsX4_undo : List Cond := .code yX4_undo cX4_undo 1 (some .int) :: ((wsX4_undo_r1 ++ wsX4_undo_r2) ++ wsX40 ++ wsX20 ++ wsX00)
def wsX4_row_r1 : List Cond := [Cond.fieldLink RX4 10 "SoapFilm" "film" "LSoapFilm$Film;", Cond.fieldLink RX4 68 "SoapFilm$Film" "thickness" "[I", Cond.methodLink RX4 65 yX0_hasRow, Cond.instanceMethod yX0_hasRow, Cond.selects RX0 yX0_hasRow yX0_hasRow, Cond.initialized RX0, Cond.code yX0_hasRow cX0_hasRow 2 (some .boolean), Cond.fieldLink RX0 30 "SoapFilm$Film" "rows" "I", Cond.methodLink RX4 95 yX3_path, Cond.static yX3_path, Cond.initialized RX3, Cond.code yX3_path cX3_path 1 (some .int), Cond.methodLink RX4 101 yX3_red, Cond.static yX3_red, Cond.code yX3_red cX3_red 1 (some .int), Cond.methodLink RX3 9 yX3_brightness, Cond.static yX3_brightness, Cond.code yX3_brightness cX3_brightness 2 (some .int), Cond.methodLink RX4 104 yX3_green, Cond.static yX3_green, Cond.code yX3_green cX3_green 1 (some .int), Cond.methodLink RX4 107 yX3_blue, Cond.static yX3_blue, Cond.code yX3_blue cX3_blue 1 (some .int)]
def wsX4_row_r2 : List Cond := [Cond.methodLink RX4 110 yX0_colourAt, Cond.instanceMethod yX0_colourAt, Cond.selects RX0 yX0_colourAt yX0_colourAt, Cond.code yX0_colourAt cX0_colourAt 2 (some .int), Cond.fieldLink RX0 9 "SoapFilm$Film" "thickness" "[I", Cond.fieldLink RX0 15 "SoapFilm$Film" "settings" "[I", Cond.methodLink RX0 69 yX3_colour, Cond.static yX3_colour, Cond.code yX3_colour cX3_colour 4 (some .int), Cond.methodLink RX3 13 yX3_path, Cond.methodLink RX3 16 yX3_red, Cond.methodLink RX3 19 yX3_green, Cond.methodLink RX3 22 yX3_blue, Cond.methodLink RX4 113 yX3_order, Cond.static yX3_order, Cond.code yX3_order cX3_order 1 (some .int), Cond.methodLink RX4 116 yX0_isBlack, Cond.instanceMethod yX0_isBlack, Cond.selects RX0 yX0_isBlack yX0_isBlack, Cond.code yX0_isBlack cX0_isBlack 2 (some .boolean)]
def wsX4_row : List Cond := .code yX4_row cX4_row 5 (some .int) :: ((wsX4_row_r1 ++ wsX4_row_r2) ++ wsX40 ++ wsX00)
def wsX4_count_r1 : List Cond := [Cond.fieldLink RX4 10 "SoapFilm" "film" "LSoapFilm$Film;", Cond.fieldLink RX4 62 "SoapFilm$Film" "accounts" "[I", Cond.fieldLink RX4 48 "SoapFilm$Film" "settings" "[I", Cond.fieldLink RX4 74 "SoapFilm$Film" "rows" "I", Cond.fieldLink RX4 82 "SoapFilm$Film" "ticks" "I", Cond.fieldLink RX4 132 "SoapFilm$Film" "burstReason" "I", Cond.fieldLink RX4 135 "SoapFilm$Film" "bursts" "I", Cond.fieldLink RX4 138 "SoapFilm$Film" "burstNumber" "I", Cond.fieldLink RX4 141 "SoapFilm$Film" "ticksBeforeBurst" "I", Cond.fieldLink RX4 144 "SoapFilm$Film" "drops" "I", Cond.fieldLink RX4 22 "SoapFilm" "history" "LSoapFilm$History;", Cond.fieldLink RX4 89 "SoapFilm$History" "size" "I", Cond.fieldLink RX4 29 "SoapFilm" "text" "LSoapFilm$FilmText;", Cond.fieldLink RX4 147 "SoapFilm$FilmText" "length" "I", Cond.methodLink RX4 40 yX4_isBetween, Cond.static yX4_isBetween, Cond.initialized RX4, Cond.code yX4_isBetween cX4_isBetween 3 (some .boolean), Cond.methodLink RX4 119 yX0_blackRows, Cond.instanceMethod yX0_blackRows, Cond.selects RX0 yX0_blackRows yX0_blackRows, Cond.initialized RX0, Cond.code yX0_blackRows cX0_blackRows 3 (some .int), Cond.fieldLink RX0 30 "SoapFilm$Film" "rows" "I"]
def wsX4_count_r2 : List Cond := [Cond.methodLink RX0 78 yX0_isBlack, Cond.instanceMethod yX0_isBlack, Cond.selects RX0 yX0_isBlack yX0_isBlack, Cond.code yX0_isBlack cX0_isBlack 2 (some .boolean), Cond.fieldLink RX0 9 "SoapFilm$Film" "thickness" "[I", Cond.fieldLink RX0 15 "SoapFilm$Film" "settings" "[I", Cond.methodLink RX4 123 yX0_fringes, Cond.instanceMethod yX0_fringes, Cond.selects RX0 yX0_fringes yX0_fringes, Cond.code yX0_fringes cX0_fringes 3 (some .int), Cond.methodLink RX0 82 yX0_startsColour, Cond.instanceMethod yX0_startsColour, Cond.selects RX0 yX0_startsColour yX0_startsColour, Cond.code yX0_startsColour cX0_startsColour 2 (some .boolean), Cond.methodLink RX0 74 yX0_colourAt, Cond.instanceMethod yX0_colourAt, Cond.selects RX0 yX0_colourAt yX0_colourAt, Cond.code yX0_colourAt cX0_colourAt 2 (some .int), Cond.methodLink RX0 69 yX3_colour, Cond.static yX3_colour, Cond.initialized RX3, Cond.code yX3_colour cX3_colour 4 (some .int), Cond.methodLink RX3 13 yX3_path, Cond.static yX3_path]
def wsX4_count_r3 : List Cond := [Cond.code yX3_path cX3_path 1 (some .int), Cond.methodLink RX3 16 yX3_red, Cond.static yX3_red, Cond.code yX3_red cX3_red 1 (some .int), Cond.methodLink RX3 9 yX3_brightness, Cond.static yX3_brightness, Cond.code yX3_brightness cX3_brightness 2 (some .int), Cond.methodLink RX3 19 yX3_green, Cond.static yX3_green, Cond.code yX3_green cX3_green 1 (some .int), Cond.methodLink RX3 22 yX3_blue, Cond.static yX3_blue, Cond.code yX3_blue cX3_blue 1 (some .int), Cond.methodLink RX4 126 yX0_differentColours, Cond.instanceMethod yX0_differentColours, Cond.selects RX0 yX0_differentColours yX0_differentColours, Cond.code yX0_differentColours cX0_differentColours 3 (some .int), Cond.methodLink RX0 85 yJ6_bitCount_0f7a4, Cond.static yJ6_bitCount_0f7a4, Cond.initialized RJ6, Cond.code yJ6_bitCount_0f7a4 cJ6_bitCount_0f7a4 1 (some .int), Cond.constant RJ6 265 (1431655765), Cond.constant RJ6 266 (858993459), Cond.constant RJ6 267 (252645135)]
def wsX4_count_r4 : List Cond := [Cond.methodLink RX4 129 yX0_greatestOrder, Cond.instanceMethod yX0_greatestOrder, Cond.selects RX0 yX0_greatestOrder yX0_greatestOrder, Cond.code yX0_greatestOrder cX0_greatestOrder 3 (some .int), Cond.methodLink RX0 96 Lib.Math.max.name, Cond.static Lib.Math.max.name, Cond.initialized "java/lang/Math", Cond.code Lib.Math.max.name Lib.Math.max.code 2 (some .int), Cond.methodLink RX0 90 yX3_path, Cond.methodLink RX0 93 yX3_order, Cond.static yX3_order, Cond.code yX3_order cX3_order 1 (some .int)]
def wsX4_count : List Cond := .code yX4_count cX4_count 2 (some .int) :: ((wsX4_count_r1 ++ (wsX4_count_r2 ++ (wsX4_count_r3 ++ wsX4_count_r4))) ++ wsX40 ++ wsX00 ++ wsX20 ++ wsX10)
def wsX4_ladder_r1 : List Cond := [Cond.fieldLink RX4 10 "SoapFilm" "film" "LSoapFilm$Film;", Cond.fieldLink RX4 74 "SoapFilm$Film" "rows" "I", Cond.methodLink RX4 150 yX0_startsColour, Cond.instanceMethod yX0_startsColour, Cond.selects RX0 yX0_startsColour yX0_startsColour, Cond.initialized RX0, Cond.code yX0_startsColour cX0_startsColour 2 (some .boolean), Cond.methodLink RX0 74 yX0_colourAt, Cond.instanceMethod yX0_colourAt, Cond.selects RX0 yX0_colourAt yX0_colourAt, Cond.code yX0_colourAt cX0_colourAt 2 (some .int), Cond.fieldLink RX0 9 "SoapFilm$Film" "thickness" "[I", Cond.fieldLink RX0 15 "SoapFilm$Film" "settings" "[I", Cond.methodLink RX0 69 yX3_colour, Cond.static yX3_colour, Cond.initialized RX3, Cond.code yX3_colour cX3_colour 4 (some .int), Cond.methodLink RX3 13 yX3_path, Cond.static yX3_path, Cond.code yX3_path cX3_path 1 (some .int), Cond.methodLink RX3 16 yX3_red, Cond.static yX3_red, Cond.code yX3_red cX3_red 1 (some .int), Cond.methodLink RX3 9 yX3_brightness]
def wsX4_ladder_r2 : List Cond := [Cond.static yX3_brightness, Cond.code yX3_brightness cX3_brightness 2 (some .int), Cond.methodLink RX3 19 yX3_green, Cond.static yX3_green, Cond.code yX3_green cX3_green 1 (some .int), Cond.methodLink RX3 22 yX3_blue, Cond.static yX3_blue, Cond.code yX3_blue cX3_blue 1 (some .int), Cond.methodLink RX4 110 yX0_colourAt]
def wsX4_ladder : List Cond := .code yX4_ladder cX4_ladder 4 (some .int) :: ((wsX4_ladder_r1 ++ wsX4_ladder_r2) ++ wsX40 ++ wsX00)
def wsX4_isColour : List Cond := .code yX4_isColour cX4_isColour 1 (some .boolean) :: ([.methodLink RX4 40 yX4_isBetween, .static yX4_isBetween, .initialized RX4, .code yX4_isBetween cX4_isBetween 3 (some .boolean)])
def wsX4_find_r1 : List Cond := [Cond.fieldLink RX4 10 "SoapFilm" "film" "LSoapFilm$Film;", Cond.fieldLink RX4 74 "SoapFilm$Film" "rows" "I", Cond.methodLink RX4 153 yX4_isColour, Cond.static yX4_isColour, Cond.initialized RX4, Cond.code yX4_isColour cX4_isColour 1 (some .boolean), Cond.methodLink RX4 40 yX4_isBetween, Cond.static yX4_isBetween, Cond.code yX4_isBetween cX4_isBetween 3 (some .boolean), Cond.methodLink RX4 110 yX0_colourAt, Cond.instanceMethod yX0_colourAt, Cond.selects RX0 yX0_colourAt yX0_colourAt, Cond.initialized RX0, Cond.code yX0_colourAt cX0_colourAt 2 (some .int), Cond.fieldLink RX0 9 "SoapFilm$Film" "thickness" "[I", Cond.fieldLink RX0 15 "SoapFilm$Film" "settings" "[I", Cond.methodLink RX0 69 yX3_colour, Cond.static yX3_colour, Cond.initialized RX3, Cond.code yX3_colour cX3_colour 4 (some .int), Cond.methodLink RX3 13 yX3_path, Cond.static yX3_path, Cond.code yX3_path cX3_path 1 (some .int), Cond.methodLink RX3 16 yX3_red]
def wsX4_find_r2 : List Cond := [Cond.static yX3_red, Cond.code yX3_red cX3_red 1 (some .int), Cond.methodLink RX3 9 yX3_brightness, Cond.static yX3_brightness, Cond.code yX3_brightness cX3_brightness 2 (some .int), Cond.methodLink RX3 19 yX3_green, Cond.static yX3_green, Cond.code yX3_green cX3_green 1 (some .int), Cond.methodLink RX3 22 yX3_blue, Cond.static yX3_blue, Cond.code yX3_blue cX3_blue 1 (some .int)]
def wsX4_find : List Cond := .code yX4_find cX4_find 4 (some .int) :: ((wsX4_find_r1 ++ wsX4_find_r2) ++ wsX40 ++ wsX00)
def wsX4_colourOf_r1 : List Cond := [Cond.fieldLink RX4 10 "SoapFilm" "film" "LSoapFilm$Film;", Cond.fieldLink RX4 48 "SoapFilm$Film" "settings" "[I", Cond.methodLink RX4 51 yX4_isThickness, Cond.static yX4_isThickness, Cond.initialized RX4, Cond.code yX4_isThickness cX4_isThickness 1 (some .boolean), Cond.methodLink RX4 40 yX4_isBetween, Cond.static yX4_isBetween, Cond.code yX4_isBetween cX4_isBetween 3 (some .boolean), Cond.methodLink RX4 156 yX3_colour, Cond.static yX3_colour, Cond.initialized RX3, Cond.code yX3_colour cX3_colour 4 (some .int), Cond.methodLink RX3 13 yX3_path, Cond.static yX3_path, Cond.code yX3_path cX3_path 1 (some .int), Cond.methodLink RX3 16 yX3_red, Cond.static yX3_red, Cond.code yX3_red cX3_red 1 (some .int), Cond.methodLink RX3 9 yX3_brightness, Cond.static yX3_brightness, Cond.code yX3_brightness cX3_brightness 2 (some .int), Cond.methodLink RX3 19 yX3_green, Cond.static yX3_green]
def wsX4_colourOf_r2 : List Cond := [Cond.code yX3_green cX3_green 1 (some .int), Cond.methodLink RX3 22 yX3_blue, Cond.static yX3_blue, Cond.code yX3_blue cX3_blue 1 (some .int)]
def wsX4_colourOf : List Cond := .code yX4_colourOf cX4_colourOf 2 (some .int) :: ((wsX4_colourOf_r1 ++ wsX4_colourOf_r2) ++ wsX40 ++ wsX00)
def wsX4_thicknessFor_r1 : List Cond := [Cond.fieldLink RX4 10 "SoapFilm" "film" "LSoapFilm$Film;", Cond.fieldLink RX4 48 "SoapFilm$Film" "settings" "[I", Cond.methodLink RX4 153 yX4_isColour, Cond.static yX4_isColour, Cond.initialized RX4, Cond.code yX4_isColour cX4_isColour 1 (some .boolean), Cond.methodLink RX4 40 yX4_isBetween, Cond.static yX4_isBetween, Cond.code yX4_isBetween cX4_isBetween 3 (some .boolean), Cond.methodLink RX4 51 yX4_isThickness, Cond.static yX4_isThickness, Cond.code yX4_isThickness cX4_isThickness 1 (some .boolean), Cond.methodLink RX4 156 yX3_colour, Cond.static yX3_colour, Cond.initialized RX3, Cond.code yX3_colour cX3_colour 4 (some .int), Cond.methodLink RX3 13 yX3_path, Cond.static yX3_path, Cond.code yX3_path cX3_path 1 (some .int), Cond.methodLink RX3 16 yX3_red, Cond.static yX3_red, Cond.code yX3_red cX3_red 1 (some .int), Cond.methodLink RX3 9 yX3_brightness, Cond.static yX3_brightness]
def wsX4_thicknessFor_r2 : List Cond := [Cond.code yX3_brightness cX3_brightness 2 (some .int), Cond.methodLink RX3 19 yX3_green, Cond.static yX3_green, Cond.code yX3_green cX3_green 1 (some .int), Cond.methodLink RX3 22 yX3_blue, Cond.static yX3_blue, Cond.code yX3_blue cX3_blue 1 (some .int)]
def wsX4_thicknessFor : List Cond := .code yX4_thicknessFor cX4_thicknessFor 4 (some .int) :: ((wsX4_thicknessFor_r1 ++ wsX4_thicknessFor_r2) ++ wsX40 ++ wsX00)
def wsX4_isQuestion : List Cond := .code yX4_isQuestion cX4_isQuestion 2 (some .boolean) :: ([.methodLink RX4 40 yX4_isBetween, .static yX4_isBetween, .initialized RX4, .code yX4_isBetween cX4_isBetween 3 (some .boolean), .methodLink RX4 153 yX4_isColour, .static yX4_isColour, .code yX4_isColour cX4_isColour 1 (some .boolean)])
def wsX4_isSo_r1 : List Cond := [Cond.fieldLink RX4 16 "SoapFilm" "trial" "LSoapFilm$Film;", Cond.fieldLink RX4 74 "SoapFilm$Film" "rows" "I", Cond.fieldLink RX4 144 "SoapFilm$Film" "drops" "I", Cond.fieldLink RX4 10 "SoapFilm" "film" "LSoapFilm$Film;", Cond.methodLink RX4 119 yX0_blackRows, Cond.instanceMethod yX0_blackRows, Cond.selects RX0 yX0_blackRows yX0_blackRows, Cond.initialized RX0, Cond.code yX0_blackRows cX0_blackRows 3 (some .int), Cond.fieldLink RX0 30 "SoapFilm$Film" "rows" "I", Cond.methodLink RX0 78 yX0_isBlack, Cond.instanceMethod yX0_isBlack, Cond.selects RX0 yX0_isBlack yX0_isBlack, Cond.code yX0_isBlack cX0_isBlack 2 (some .boolean), Cond.fieldLink RX0 9 "SoapFilm$Film" "thickness" "[I", Cond.fieldLink RX0 15 "SoapFilm$Film" "settings" "[I", Cond.methodLink RX4 110 yX0_colourAt, Cond.instanceMethod yX0_colourAt, Cond.selects RX0 yX0_colourAt yX0_colourAt, Cond.code yX0_colourAt cX0_colourAt 2 (some .int), Cond.methodLink RX0 69 yX3_colour, Cond.static yX3_colour, Cond.initialized RX3, Cond.code yX3_colour cX3_colour 4 (some .int)]
def wsX4_isSo_r2 : List Cond := [Cond.methodLink RX3 13 yX3_path, Cond.static yX3_path, Cond.code yX3_path cX3_path 1 (some .int), Cond.methodLink RX3 16 yX3_red, Cond.static yX3_red, Cond.code yX3_red cX3_red 1 (some .int), Cond.methodLink RX3 9 yX3_brightness, Cond.static yX3_brightness, Cond.code yX3_brightness cX3_brightness 2 (some .int), Cond.methodLink RX3 19 yX3_green, Cond.static yX3_green, Cond.code yX3_green cX3_green 1 (some .int), Cond.methodLink RX3 22 yX3_blue, Cond.static yX3_blue, Cond.code yX3_blue cX3_blue 1 (some .int)]
def wsX4_isSo : List Cond := .code yX4_isSo cX4_isSo 3 (some .boolean) :: ((wsX4_isSo_r1 ++ wsX4_isSo_r2) ++ wsX40 ++ wsX00)
def wsX4_until_r1 : List Cond := [Cond.fieldLink RX4 16 "SoapFilm" "trial" "LSoapFilm$Film;", Cond.fieldLink RX4 10 "SoapFilm" "film" "LSoapFilm$Film;", Cond.fieldLink RX4 74 "SoapFilm$Film" "rows" "I", Cond.methodLink RX4 160 yX4_isQuestion, Cond.static yX4_isQuestion, Cond.initialized RX4, Cond.code yX4_isQuestion cX4_isQuestion 2 (some .boolean), Cond.methodLink RX4 40 yX4_isBetween, Cond.static yX4_isBetween, Cond.code yX4_isBetween cX4_isBetween 3 (some .boolean), Cond.methodLink RX4 153 yX4_isColour, Cond.static yX4_isColour, Cond.code yX4_isColour cX4_isColour 1 (some .boolean), Cond.methodLink RX4 164 yX0_copyFrom, Cond.instanceMethod yX0_copyFrom, Cond.selects RX0 yX0_copyFrom yX0_copyFrom, Cond.initialized RX0, Cond.code yX0_copyFrom cX0_copyFrom 2 none, Cond.fieldLink RX0 9 "SoapFilm$Film" "thickness" "[I", Cond.methodLink RX0 24 arraycopyName, Cond.native arraycopyName, Cond.static arraycopyName, Cond.initialized "java/lang/System", Cond.fieldLink RX0 15 "SoapFilm$Film" "settings" "[I"]
def wsX4_until_r2 : List Cond := [Cond.fieldLink RX0 18 "SoapFilm$Film" "accounts" "[I", Cond.fieldLink RX0 30 "SoapFilm$Film" "rows" "I", Cond.fieldLink RX0 34 "SoapFilm$Film" "ticks" "I", Cond.fieldLink RX0 37 "SoapFilm$Film" "drops" "I", Cond.fieldLink RX0 40 "SoapFilm$Film" "bursts" "I", Cond.fieldLink RX0 43 "SoapFilm$Film" "burstReason" "I", Cond.fieldLink RX0 46 "SoapFilm$Film" "burstNumber" "I", Cond.fieldLink RX0 49 "SoapFilm$Film" "ticksBeforeBurst" "I", Cond.methodLink RX4 167 yX4_isSo, Cond.instanceMethod yX4_isSo, Cond.selects RX4 yX4_isSo yX4_isSo, Cond.code yX4_isSo cX4_isSo 3 (some .boolean), Cond.fieldLink RX4 144 "SoapFilm$Film" "drops" "I", Cond.methodLink RX4 119 yX0_blackRows, Cond.instanceMethod yX0_blackRows, Cond.selects RX0 yX0_blackRows yX0_blackRows, Cond.code yX0_blackRows cX0_blackRows 3 (some .int), Cond.methodLink RX0 78 yX0_isBlack, Cond.instanceMethod yX0_isBlack, Cond.selects RX0 yX0_isBlack yX0_isBlack, Cond.code yX0_isBlack cX0_isBlack 2 (some .boolean), Cond.methodLink RX4 110 yX0_colourAt, Cond.instanceMethod yX0_colourAt, Cond.selects RX0 yX0_colourAt yX0_colourAt]
def wsX4_until_r3 : List Cond := [Cond.code yX0_colourAt cX0_colourAt 2 (some .int), Cond.methodLink RX0 69 yX3_colour, Cond.static yX3_colour, Cond.initialized RX3, Cond.code yX3_colour cX3_colour 4 (some .int), Cond.methodLink RX3 13 yX3_path, Cond.static yX3_path, Cond.code yX3_path cX3_path 1 (some .int), Cond.methodLink RX3 16 yX3_red, Cond.static yX3_red, Cond.code yX3_red cX3_red 1 (some .int), Cond.methodLink RX3 9 yX3_brightness, Cond.static yX3_brightness, Cond.code yX3_brightness cX3_brightness 2 (some .int), Cond.methodLink RX3 19 yX3_green, Cond.static yX3_green, Cond.code yX3_green cX3_green 1 (some .int), Cond.methodLink RX3 22 yX3_blue, Cond.static yX3_blue, Cond.code yX3_blue cX3_blue 1 (some .int), Cond.methodLink RX4 86 yX0_tick, Cond.instanceMethod yX0_tick, Cond.selects RX0 yX0_tick yX0_tick, Cond.code yX0_tick cX0_tick 1 none]
def wsX4_until_r4 : List Cond := [Cond.methodLink RX0 99 yX0_drain, Cond.instanceMethod yX0_drain, Cond.selects RX0 yX0_drain yX0_drain, Cond.code yX0_drain cX0_drain 4 none, Cond.constantLong RX0 114 (1000000), Cond.methodLink RX0 116 yX0_giveDown, Cond.instanceMethod yX0_giveDown, Cond.selects RX0 yX0_giveDown yX0_giveDown, Cond.code yX0_giveDown cX0_giveDown 5 none, Cond.methodLink RX0 63 Lib.Math.min.name, Cond.static Lib.Math.min.name, Cond.initialized "java/lang/Math", Cond.code Lib.Math.min.name Lib.Math.min.code 2 (some .int), Cond.methodLink RX0 120 yX0_loseFrom, Cond.instanceMethod yX0_loseFrom, Cond.selects RX0 yX0_loseFrom yX0_loseFrom, Cond.code yX0_loseFrom cX0_loseFrom 5 (some .int), Cond.methodLink RX0 59 yX0_move, Cond.instanceMethod yX0_move, Cond.selects RX0 yX0_move yX0_move, Cond.code yX0_move cX0_move 4 none, Cond.methodLink RX0 102 yX0_runEdges, Cond.instanceMethod yX0_runEdges, Cond.selects RX0 yX0_runEdges yX0_runEdges]
def wsX4_until_r5 : List Cond := [Cond.code yX0_runEdges cX0_runEdges 5 none, Cond.methodLink RX0 105 yX0_dry, Cond.instanceMethod yX0_dry, Cond.selects RX0 yX0_dry yX0_dry, Cond.code yX0_dry cX0_dry 2 none, Cond.methodLink RX0 108 yX0_letDropFall, Cond.instanceMethod yX0_letDropFall, Cond.selects RX0 yX0_letDropFall yX0_letDropFall, Cond.code yX0_letDropFall cX0_letDropFall 1 none, Cond.methodLink RX0 111 yX0_burstIfDue, Cond.instanceMethod yX0_burstIfDue, Cond.selects RX0 yX0_burstIfDue yX0_burstIfDue, Cond.code yX0_burstIfDue cX0_burstIfDue 3 none, Cond.methodLink RX0 124 yX0_firstTooThin, Cond.instanceMethod yX0_firstTooThin, Cond.selects RX0 yX0_firstTooThin yX0_firstTooThin, Cond.code yX0_firstTooThin cX0_firstTooThin 2 (some .int), Cond.methodLink RX0 128 yX0_blackRows, Cond.methodLink RX0 131 yX0_burst, Cond.instanceMethod yX0_burst, Cond.selects RX0 yX0_burst yX0_burst, Cond.code yX0_burst cX0_burst 3 none, Cond.methodLink RX0 56 yX0_endFilm, Cond.instanceMethod yX0_endFilm]
def wsX4_until_r6 : List Cond := [Cond.selects RX0 yX0_endFilm yX0_endFilm, Cond.code yX0_endFilm cX0_endFilm 2 none]
def wsX4_until : List Cond := .code yX4_until cX4_until 4 (some .int) :: ((wsX4_until_r1 ++ (wsX4_until_r2 ++ (wsX4_until_r3 ++ (wsX4_until_r4 ++ (wsX4_until_r5 ++ wsX4_until_r6))))) ++ wsX40 ++ wsX00)
def wsX4_ifGo_r1 : List Cond := [Cond.fieldLink RX4 10 "SoapFilm" "film" "LSoapFilm$Film;", Cond.fieldLink RX4 16 "SoapFilm" "trial" "LSoapFilm$Film;", Cond.fieldLink RX4 74 "SoapFilm$Film" "rows" "I", Cond.fieldLink RX4 68 "SoapFilm$Film" "thickness" "[I", Cond.methodLink RX4 65 yX0_hasRow, Cond.instanceMethod yX0_hasRow, Cond.selects RX0 yX0_hasRow yX0_hasRow, Cond.initialized RX0, Cond.code yX0_hasRow cX0_hasRow 2 (some .boolean), Cond.fieldLink RX0 30 "SoapFilm$Film" "rows" "I", Cond.methodLink RX4 40 yX4_isBetween, Cond.static yX4_isBetween, Cond.initialized RX4, Cond.code yX4_isBetween cX4_isBetween 3 (some .boolean), Cond.methodLink RX4 164 yX0_copyFrom, Cond.instanceMethod yX0_copyFrom, Cond.selects RX0 yX0_copyFrom yX0_copyFrom, Cond.code yX0_copyFrom cX0_copyFrom 2 none, Cond.fieldLink RX0 9 "SoapFilm$Film" "thickness" "[I", Cond.methodLink RX0 24 arraycopyName, Cond.native arraycopyName, Cond.static arraycopyName, Cond.initialized "java/lang/System", Cond.fieldLink RX0 15 "SoapFilm$Film" "settings" "[I"]
def wsX4_ifGo_r2 : List Cond := [Cond.fieldLink RX0 18 "SoapFilm$Film" "accounts" "[I", Cond.fieldLink RX0 34 "SoapFilm$Film" "ticks" "I", Cond.fieldLink RX0 37 "SoapFilm$Film" "drops" "I", Cond.fieldLink RX0 40 "SoapFilm$Film" "bursts" "I", Cond.fieldLink RX0 43 "SoapFilm$Film" "burstReason" "I", Cond.fieldLink RX0 46 "SoapFilm$Film" "burstNumber" "I", Cond.fieldLink RX0 49 "SoapFilm$Film" "ticksBeforeBurst" "I", Cond.methodLink RX4 86 yX0_tick, Cond.instanceMethod yX0_tick, Cond.selects RX0 yX0_tick yX0_tick, Cond.code yX0_tick cX0_tick 1 none, Cond.methodLink RX0 99 yX0_drain, Cond.instanceMethod yX0_drain, Cond.selects RX0 yX0_drain yX0_drain, Cond.code yX0_drain cX0_drain 4 none, Cond.constantLong RX0 114 (1000000), Cond.methodLink RX0 116 yX0_giveDown, Cond.instanceMethod yX0_giveDown, Cond.selects RX0 yX0_giveDown yX0_giveDown, Cond.code yX0_giveDown cX0_giveDown 5 none, Cond.methodLink RX0 63 Lib.Math.min.name, Cond.static Lib.Math.min.name, Cond.initialized "java/lang/Math", Cond.code Lib.Math.min.name Lib.Math.min.code 2 (some .int)]
def wsX4_ifGo_r3 : List Cond := [Cond.methodLink RX0 120 yX0_loseFrom, Cond.instanceMethod yX0_loseFrom, Cond.selects RX0 yX0_loseFrom yX0_loseFrom, Cond.code yX0_loseFrom cX0_loseFrom 5 (some .int), Cond.methodLink RX0 59 yX0_move, Cond.instanceMethod yX0_move, Cond.selects RX0 yX0_move yX0_move, Cond.code yX0_move cX0_move 4 none, Cond.methodLink RX0 102 yX0_runEdges, Cond.instanceMethod yX0_runEdges, Cond.selects RX0 yX0_runEdges yX0_runEdges, Cond.code yX0_runEdges cX0_runEdges 5 none, Cond.methodLink RX0 78 yX0_isBlack, Cond.instanceMethod yX0_isBlack, Cond.selects RX0 yX0_isBlack yX0_isBlack, Cond.code yX0_isBlack cX0_isBlack 2 (some .boolean), Cond.methodLink RX0 105 yX0_dry, Cond.instanceMethod yX0_dry, Cond.selects RX0 yX0_dry yX0_dry, Cond.code yX0_dry cX0_dry 2 none, Cond.methodLink RX0 108 yX0_letDropFall, Cond.instanceMethod yX0_letDropFall, Cond.selects RX0 yX0_letDropFall yX0_letDropFall, Cond.code yX0_letDropFall cX0_letDropFall 1 none]
def wsX4_ifGo_r4 : List Cond := [Cond.methodLink RX0 111 yX0_burstIfDue, Cond.instanceMethod yX0_burstIfDue, Cond.selects RX0 yX0_burstIfDue yX0_burstIfDue, Cond.code yX0_burstIfDue cX0_burstIfDue 3 none, Cond.methodLink RX0 124 yX0_firstTooThin, Cond.instanceMethod yX0_firstTooThin, Cond.selects RX0 yX0_firstTooThin yX0_firstTooThin, Cond.code yX0_firstTooThin cX0_firstTooThin 2 (some .int), Cond.methodLink RX0 128 yX0_blackRows, Cond.instanceMethod yX0_blackRows, Cond.selects RX0 yX0_blackRows yX0_blackRows, Cond.code yX0_blackRows cX0_blackRows 3 (some .int), Cond.methodLink RX0 131 yX0_burst, Cond.instanceMethod yX0_burst, Cond.selects RX0 yX0_burst yX0_burst, Cond.code yX0_burst cX0_burst 3 none, Cond.methodLink RX0 56 yX0_endFilm, Cond.instanceMethod yX0_endFilm, Cond.selects RX0 yX0_endFilm yX0_endFilm, Cond.code yX0_endFilm cX0_endFilm 2 none]
def wsX4_ifGo : List Cond := .code yX4_ifGo cX4_ifGo 4 (some .int) :: ((wsX4_ifGo_r1 ++ (wsX4_ifGo_r2 ++ (wsX4_ifGo_r3 ++ wsX4_ifGo_r4))) ++ wsX40 ++ wsX00)
def wsX4_type : List Cond := .code yX4_type cX4_type 2 (some .int) :: ([.fieldLink RX4 29 "SoapFilm" "text" "LSoapFilm$FilmText;", .fieldLink RX4 147 "SoapFilm$FilmText" "length" "I", .methodLink RX4 40 yX4_isBetween, .static yX4_isBetween, .initialized RX4, .code yX4_isBetween cX4_isBetween 3 (some .boolean), .methodLink RX4 170 yX1_append, .instanceMethod yX1_append, .selects RX1 yX1_append yX1_append, .initialized RX1, .code yX1_append cX1_append 2 none, .fieldLink RX1 19 "SoapFilm$FilmText" "length" "I", .fieldLink RX1 11 "SoapFilm$FilmText" "signs" "[C"] ++ wsX40 ++ wsX10)
def wsX4_clearText : List Cond := .code yX4_clearText cX4_clearText 2 (some .int) :: ([.fieldLink RX4 29 "SoapFilm" "text" "LSoapFilm$FilmText;", .fieldLink RX4 147 "SoapFilm$FilmText" "length" "I"] ++ wsX40 ++ wsX10)
def wsX4_fault_r1 : List Cond := [Cond.fieldLink RX4 29 "SoapFilm" "text" "LSoapFilm$FilmText;", Cond.fieldLink RX4 177 "SoapFilm$FilmText" "reason" "I", Cond.fieldLink RX4 180 "SoapFilm$FilmText" "position" "I", Cond.methodLink RX4 40 yX4_isBetween, Cond.static yX4_isBetween, Cond.initialized RX4, Cond.code yX4_isBetween cX4_isBetween 3 (some .boolean), Cond.methodLink RX4 174 yX1_parse, Cond.instanceMethod yX1_parse, Cond.selects RX1 yX1_parse yX1_parse, Cond.initialized RX1, Cond.code yX1_parse cX1_parse 3 none, Cond.fieldLink RX1 23 "SoapFilm$FilmText" "rows" "I", Cond.fieldLink RX1 26 "SoapFilm$FilmText" "reason" "I", Cond.fieldLink RX1 19 "SoapFilm$FilmText" "length" "I", Cond.fieldLink RX1 11 "SoapFilm$FilmText" "signs" "[C", Cond.fieldLink RX1 29 "SoapFilm$FilmText" "position" "I", Cond.methodLink RX1 32 yX1_takePart, Cond.instanceMethod yX1_takePart, Cond.selects RX1 yX1_takePart yX1_takePart, Cond.code yX1_takePart cX1_takePart 7 (some .int), Cond.fieldLink RX1 15 "SoapFilm$FilmText" "thickness" "[I", Cond.methodLink RX1 36 yX1_findCross, Cond.instanceMethod yX1_findCross]
def wsX4_fault_r2 : List Cond := [Cond.selects RX1 yX1_findCross yX1_findCross, Cond.code yX1_findCross cX1_findCross 4 (some .int), Cond.methodLink RX1 39 yX1_number, Cond.instanceMethod yX1_number, Cond.selects RX1 yX1_number yX1_number, Cond.code yX1_number cX1_number 6 (some .int), Cond.static yX4_isThickness, Cond.code yX4_isThickness cX4_isThickness 1 (some .boolean)]
def wsX4_fault : List Cond := .code yX4_fault cX4_fault 2 (some .int) :: ((wsX4_fault_r1 ++ wsX4_fault_r2) ++ wsX40 ++ wsX10)
def wsX4_read_r1 : List Cond := [Cond.fieldLink RX4 29 "SoapFilm" "text" "LSoapFilm$FilmText;", Cond.fieldLink RX4 177 "SoapFilm$FilmText" "reason" "I", Cond.fieldLink RX4 22 "SoapFilm" "history" "LSoapFilm$History;", Cond.fieldLink RX4 10 "SoapFilm" "film" "LSoapFilm$Film;", Cond.fieldLink RX4 183 "SoapFilm$FilmText" "rows" "I", Cond.fieldLink RX4 184 "SoapFilm$FilmText" "thickness" "[I", Cond.fieldLink RX4 74 "SoapFilm$Film" "rows" "I", Cond.methodLink RX4 174 yX1_parse, Cond.instanceMethod yX1_parse, Cond.selects RX1 yX1_parse yX1_parse, Cond.initialized RX1, Cond.code yX1_parse cX1_parse 3 none, Cond.fieldLink RX1 23 "SoapFilm$FilmText" "rows" "I", Cond.fieldLink RX1 26 "SoapFilm$FilmText" "reason" "I", Cond.fieldLink RX1 19 "SoapFilm$FilmText" "length" "I", Cond.fieldLink RX1 11 "SoapFilm$FilmText" "signs" "[C", Cond.fieldLink RX1 29 "SoapFilm$FilmText" "position" "I", Cond.methodLink RX1 32 yX1_takePart, Cond.instanceMethod yX1_takePart, Cond.selects RX1 yX1_takePart yX1_takePart, Cond.code yX1_takePart cX1_takePart 7 (some .int), Cond.fieldLink RX1 15 "SoapFilm$FilmText" "thickness" "[I", Cond.methodLink RX1 36 yX1_findCross, Cond.instanceMethod yX1_findCross]
def wsX4_read_r2 : List Cond := [Cond.selects RX1 yX1_findCross yX1_findCross, Cond.code yX1_findCross cX1_findCross 4 (some .int), Cond.methodLink RX1 39 yX1_number, Cond.instanceMethod yX1_number, Cond.selects RX1 yX1_number yX1_number, Cond.code yX1_number cX1_number 6 (some .int), Cond.static yX4_isThickness, Cond.initialized RX4, Cond.code yX4_isThickness cX4_isThickness 1 (some .boolean), Cond.methodLink RX4 40 yX4_isBetween, Cond.static yX4_isBetween, Cond.code yX4_isBetween cX4_isBetween 3 (some .boolean), Cond.methodLink RX4 44 yX2_keep, Cond.instanceMethod yX2_keep, Cond.selects RX2 yX2_keep yX2_keep, Cond.initialized RX2, Cond.code yX2_keep cX2_keep 2 none, Cond.fieldLink RX2 16 "SoapFilm$History" "size" "I", Cond.fieldLink RX2 11 "SoapFilm$History" "states" "[LSoapFilm$Film;", Cond.methodLink RX2 20 yX2_dropOldest, Cond.instanceMethod yX2_dropOldest, Cond.selects RX2 yX2_dropOldest yX2_dropOldest, Cond.code yX2_dropOldest cX2_dropOldest 3 none, Cond.methodLink RX2 23 yX0_copyFrom]
def wsX4_read_r3 : List Cond := [Cond.instanceMethod yX0_copyFrom, Cond.selects RX0 yX0_copyFrom yX0_copyFrom, Cond.initialized RX0, Cond.code yX0_copyFrom cX0_copyFrom 2 none, Cond.fieldLink RX0 9 "SoapFilm$Film" "thickness" "[I", Cond.methodLink RX0 24 arraycopyName, Cond.native arraycopyName, Cond.static arraycopyName, Cond.initialized "java/lang/System", Cond.fieldLink RX0 15 "SoapFilm$Film" "settings" "[I", Cond.fieldLink RX0 18 "SoapFilm$Film" "accounts" "[I", Cond.fieldLink RX0 30 "SoapFilm$Film" "rows" "I", Cond.fieldLink RX0 34 "SoapFilm$Film" "ticks" "I", Cond.fieldLink RX0 37 "SoapFilm$Film" "drops" "I", Cond.fieldLink RX0 40 "SoapFilm$Film" "bursts" "I", Cond.fieldLink RX0 43 "SoapFilm$Film" "burstReason" "I", Cond.fieldLink RX0 46 "SoapFilm$Film" "burstNumber" "I", Cond.fieldLink RX0 49 "SoapFilm$Film" "ticksBeforeBurst" "I", Cond.methodLink RX4 55 yX0_takeAway, Cond.instanceMethod yX0_takeAway, Cond.selects RX0 yX0_takeAway yX0_takeAway, Cond.code yX0_takeAway cX0_takeAway 1 none, Cond.methodLink RX0 56 yX0_endFilm, Cond.instanceMethod yX0_endFilm]
def wsX4_read_r4 : List Cond := [Cond.selects RX0 yX0_endFilm yX0_endFilm, Cond.code yX0_endFilm cX0_endFilm 2 none, Cond.methodLink RX0 59 yX0_move, Cond.instanceMethod yX0_move, Cond.selects RX0 yX0_move yX0_move, Cond.code yX0_move cX0_move 4 none, Cond.methodLink RX4 58 yX0_appendRow, Cond.instanceMethod yX0_appendRow, Cond.selects RX0 yX0_appendRow yX0_appendRow, Cond.code yX0_appendRow cX0_appendRow 2 none, Cond.methodLink RX0 52 yX0_bring, Cond.instanceMethod yX0_bring, Cond.selects RX0 yX0_bring yX0_bring, Cond.code yX0_bring cX0_bring 2 none]
def wsX4_read : List Cond := .code yX4_read cX4_read 2 (some .int) :: ((wsX4_read_r1 ++ (wsX4_read_r2 ++ (wsX4_read_r3 ++ wsX4_read_r4))) ++ wsX40 ++ wsX10 ++ wsX00 ++ wsX20)
def wsX5_init : List Cond := .code yX5_init cX5_init 1 none :: ([.methodLink RX5 1 objectInit, .instanceMethod objectInit, .code objectInit ⟨#[0xb1]⟩ 1 none, .arrayClass .int, .fieldLink RX5 7 "SoapFilmModel" "st" "[I", .fieldLink RX5 13 "SoapFilmModel" "past" "[I", .fieldLink RX5 16 "SoapFilmModel" "aside" "[I", .fieldLink RX5 19 "SoapFilmModel" "text" "[I"] ++ wsX50)
def wsX5_in : List Cond := .code yX5_in cX5_in 3 (some .boolean) :: ([])
def wsX5_lesser : List Cond := .code yX5_lesser cX5_lesser 2 (some .int) :: ([])
def wsX5_records : List Cond := .code yX5_records cX5_records 2 none :: ([.fieldLink RX5 22 "SoapFilmModel" "pasts" "I", .fieldLink RX5 13 "SoapFilmModel" "past" "[I", .fieldLink RX5 7 "SoapFilmModel" "st" "[I"] ++ wsX50)
def wsX5_undo : List Cond := .code yX5_undo cX5_undo 2 (some .int) :: ([.fieldLink RX5 22 "SoapFilmModel" "pasts" "I", .fieldLink RX5 7 "SoapFilmModel" "st" "[I", .fieldLink RX5 13 "SoapFilmModel" "past" "[I"] ++ wsX50)
def wsX5_laysAside : List Cond := .code yX5_laysAside cX5_laysAside 2 none :: ([.fieldLink RX5 16 "SoapFilmModel" "aside" "[I", .fieldLink RX5 7 "SoapFilmModel" "st" "[I"] ++ wsX50)
def wsX5_bringsBack : List Cond := .code yX5_bringsBack cX5_bringsBack 2 none :: ([.fieldLink RX5 7 "SoapFilmModel" "st" "[I", .fieldLink RX5 16 "SoapFilmModel" "aside" "[I"] ++ wsX50)
def wsX5_of : List Cond := .code yX5_of cX5_of 2 (some .int) :: ([.fieldLink RX5 7 "SoapFilmModel" "st" "[I"] ++ wsX50)
def wsX5_isRow : List Cond := .code yX5_isRow cX5_isRow 2 (some .boolean) :: ([.fieldLink RX5 7 "SoapFilmModel" "st" "[I", .methodLink RX5 26 yX5_in, .static yX5_in, .initialized RX5, .code yX5_in cX5_in 3 (some .boolean)] ++ wsX50)
def wsX5_path : List Cond := .code yX5_path cX5_path 1 (some .int) :: ([])
def wsX5_brightness : List Cond := .code yX5_brightness cX5_brightness 4 (some .int) :: ([.methodLink RX5 30 yX5_path, .static yX5_path, .initialized RX5, .code yX5_path cX5_path 1 (some .int)])
def wsX5_isBlack : List Cond := .code yX5_isBlack cX5_isBlack 2 (some .boolean) :: ([.methodLink RX5 34 yX5_of, .instanceMethod yX5_of, .selects RX5 yX5_of yX5_of, .initialized RX5, .code yX5_of cX5_of 2 (some .int), .fieldLink RX5 7 "SoapFilmModel" "st" "[I"] ++ wsX50)
def wsX5_colour : List Cond := .code yX5_colour cX5_colour 4 (some .int) :: ([.methodLink RX5 37 yX5_isBlack, .instanceMethod yX5_isBlack, .selects RX5 yX5_isBlack yX5_isBlack, .initialized RX5, .code yX5_isBlack cX5_isBlack 2 (some .boolean), .methodLink RX5 34 yX5_of, .instanceMethod yX5_of, .selects RX5 yX5_of yX5_of, .code yX5_of cX5_of 2 (some .int), .fieldLink RX5 7 "SoapFilmModel" "st" "[I", .methodLink RX5 41 yX5_brightness, .static yX5_brightness, .code yX5_brightness cX5_brightness 4 (some .int), .methodLink RX5 30 yX5_path, .static yX5_path, .code yX5_path cX5_path 1 (some .int)] ++ wsX50)
def wsX5_colourAt : List Cond := .code yX5_colourAt cX5_colourAt 2 (some .int) :: ([.fieldLink RX5 7 "SoapFilmModel" "st" "[I", .methodLink RX5 45 yX5_colour, .instanceMethod yX5_colour, .selects RX5 yX5_colour yX5_colour, .initialized RX5, .code yX5_colour cX5_colour 4 (some .int), .methodLink RX5 37 yX5_isBlack, .instanceMethod yX5_isBlack, .selects RX5 yX5_isBlack yX5_isBlack, .code yX5_isBlack cX5_isBlack 2 (some .boolean), .methodLink RX5 34 yX5_of, .instanceMethod yX5_of, .selects RX5 yX5_of yX5_of, .code yX5_of cX5_of 2 (some .int), .methodLink RX5 41 yX5_brightness, .static yX5_brightness, .code yX5_brightness cX5_brightness 4 (some .int), .methodLink RX5 30 yX5_path, .static yX5_path, .code yX5_path cX5_path 1 (some .int)] ++ wsX50)
def wsX5_canBe : List Cond := .code yX5_canBe cX5_canBe 2 (some .boolean) :: ([.constant RX5 48 (100000), .methodLink RX5 26 yX5_in, .static yX5_in, .initialized RX5, .code yX5_in cX5_in 3 (some .boolean)])
def wsX5_set : List Cond := .code yX5_set cX5_set 4 (some .int) :: ([.fieldLink RX5 7 "SoapFilmModel" "st" "[I", .methodLink RX5 49 yX5_canBe, .static yX5_canBe, .initialized RX5, .code yX5_canBe cX5_canBe 2 (some .boolean), .constant RX5 48 (100000), .methodLink RX5 26 yX5_in, .static yX5_in, .code yX5_in cX5_in 3 (some .boolean), .methodLink RX5 53 yX5_records, .instanceMethod yX5_records, .selects RX5 yX5_records yX5_records, .code yX5_records cX5_records 2 none, .fieldLink RX5 22 "SoapFilmModel" "pasts" "I", .fieldLink RX5 13 "SoapFilmModel" "past" "[I", .methodLink RX5 34 yX5_of, .instanceMethod yX5_of, .selects RX5 yX5_of yX5_of, .code yX5_of cX5_of 2 (some .int)] ++ wsX50)
def wsX5_liquid : List Cond := .code yX5_liquid cX5_liquid 3 (some .int) :: ([.fieldLink RX5 7 "SoapFilmModel" "st" "[I"] ++ wsX50)
def wsX5_takesAway : List Cond := .code yX5_takesAway cX5_takesAway 1 none :: ([.fieldLink RX5 7 "SoapFilmModel" "st" "[I", .methodLink RX5 56 yX5_liquid, .instanceMethod yX5_liquid, .selects RX5 yX5_liquid yX5_liquid, .initialized RX5, .code yX5_liquid cX5_liquid 3 (some .int)] ++ wsX50)
def wsX5_newRow : List Cond := .code yX5_newRow cX5_newRow 2 none :: ([.fieldLink RX5 7 "SoapFilmModel" "st" "[I"] ++ wsX50)
def wsX5_dip : List Cond := .code yX5_dip cX5_dip 5 (some .int) :: ([.methodLink RX5 26 yX5_in, .static yX5_in, .initialized RX5, .code yX5_in cX5_in 3 (some .boolean), .methodLink RX5 53 yX5_records, .instanceMethod yX5_records, .selects RX5 yX5_records yX5_records, .code yX5_records cX5_records 2 none, .fieldLink RX5 22 "SoapFilmModel" "pasts" "I", .fieldLink RX5 13 "SoapFilmModel" "past" "[I", .fieldLink RX5 7 "SoapFilmModel" "st" "[I", .methodLink RX5 60 yX5_takesAway, .instanceMethod yX5_takesAway, .selects RX5 yX5_takesAway yX5_takesAway, .code yX5_takesAway cX5_takesAway 1 none, .methodLink RX5 56 yX5_liquid, .instanceMethod yX5_liquid, .selects RX5 yX5_liquid yX5_liquid, .code yX5_liquid cX5_liquid 3 (some .int), .methodLink RX5 63 yX5_newRow, .instanceMethod yX5_newRow, .selects RX5 yX5_newRow yX5_newRow, .code yX5_newRow cX5_newRow 2 none] ++ wsX50)
def wsX5_pour : List Cond := .code yX5_pour cX5_pour 3 (some .int) :: ([.fieldLink RX5 7 "SoapFilmModel" "st" "[I", .methodLink RX5 67 yX5_isRow, .instanceMethod yX5_isRow, .selects RX5 yX5_isRow yX5_isRow, .initialized RX5, .code yX5_isRow cX5_isRow 2 (some .boolean), .methodLink RX5 26 yX5_in, .static yX5_in, .code yX5_in cX5_in 3 (some .boolean), .methodLink RX5 53 yX5_records, .instanceMethod yX5_records, .selects RX5 yX5_records yX5_records, .code yX5_records cX5_records 2 none, .fieldLink RX5 22 "SoapFilmModel" "pasts" "I", .fieldLink RX5 13 "SoapFilmModel" "past" "[I"] ++ wsX50)
def wsX5_add : List Cond := .code yX5_add cX5_add 2 (some .int) :: ([.fieldLink RX5 7 "SoapFilmModel" "st" "[I", .methodLink RX5 26 yX5_in, .static yX5_in, .initialized RX5, .code yX5_in cX5_in 3 (some .boolean), .methodLink RX5 53 yX5_records, .instanceMethod yX5_records, .selects RX5 yX5_records yX5_records, .code yX5_records cX5_records 2 none, .fieldLink RX5 22 "SoapFilmModel" "pasts" "I", .fieldLink RX5 13 "SoapFilmModel" "past" "[I", .methodLink RX5 63 yX5_newRow, .instanceMethod yX5_newRow, .selects RX5 yX5_newRow yX5_newRow, .code yX5_newRow cX5_newRow 2 none] ++ wsX50)
def wsX5_thin : List Cond := .code yX5_thin cX5_thin 4 (some .int) :: ([.fieldLink RX5 7 "SoapFilmModel" "st" "[I", .methodLink RX5 67 yX5_isRow, .instanceMethod yX5_isRow, .selects RX5 yX5_isRow yX5_isRow, .initialized RX5, .code yX5_isRow cX5_isRow 2 (some .boolean), .methodLink RX5 26 yX5_in, .static yX5_in, .code yX5_in cX5_in 3 (some .boolean), .methodLink RX5 53 yX5_records, .instanceMethod yX5_records, .selects RX5 yX5_records yX5_records, .code yX5_records cX5_records 2 none, .fieldLink RX5 22 "SoapFilmModel" "pasts" "I", .fieldLink RX5 13 "SoapFilmModel" "past" "[I", .methodLink RX5 70 yX5_lesser, .static yX5_lesser, .code yX5_lesser cX5_lesser 2 (some .int)] ++ wsX50)
def wsX5_cut : List Cond := .code yX5_cut cX5_cut 1 (some .int) :: ([.fieldLink RX5 7 "SoapFilmModel" "st" "[I", .methodLink RX5 53 yX5_records, .instanceMethod yX5_records, .selects RX5 yX5_records yX5_records, .initialized RX5, .code yX5_records cX5_records 2 none, .fieldLink RX5 22 "SoapFilmModel" "pasts" "I", .fieldLink RX5 13 "SoapFilmModel" "past" "[I"] ++ wsX50)
def wsX5_gives : List Cond := .code yX5_gives cX5_gives 5 none :: ([.fieldLink RX5 7 "SoapFilmModel" "st" "[I", .methodLink RX5 70 yX5_lesser, .static yX5_lesser, .initialized RX5, .code yX5_lesser cX5_lesser 2 (some .int)] ++ wsX50)
def wsX5_blackOnes : List Cond := .code yX5_blackOnes cX5_blackOnes 3 (some .int) :: ([.fieldLink RX5 7 "SoapFilmModel" "st" "[I", .methodLink RX5 37 yX5_isBlack, .instanceMethod yX5_isBlack, .selects RX5 yX5_isBlack yX5_isBlack, .initialized RX5, .code yX5_isBlack cX5_isBlack 2 (some .boolean), .methodLink RX5 34 yX5_of, .instanceMethod yX5_of, .selects RX5 yX5_of yX5_of, .code yX5_of cX5_of 2 (some .int)] ++ wsX50)
def wsX5_bits : List Cond := .code yX5_bits cX5_bits 3 (some .int) :: ([])
def wsX5_bursts : List Cond := .code yX5_bursts cX5_bursts 3 none :: ([.fieldLink RX5 7 "SoapFilmModel" "st" "[I", .methodLink RX5 56 yX5_liquid, .instanceMethod yX5_liquid, .selects RX5 yX5_liquid yX5_liquid, .initialized RX5, .code yX5_liquid cX5_liquid 3 (some .int)] ++ wsX50)
def wsX5_mayBurst_r1 : List Cond := [Cond.fieldLink RX5 7 "SoapFilmModel" "st" "[I", Cond.methodLink RX5 34 yX5_of, Cond.instanceMethod yX5_of, Cond.selects RX5 yX5_of yX5_of, Cond.initialized RX5, Cond.code yX5_of cX5_of 2 (some .int), Cond.methodLink RX5 73 yX5_bursts, Cond.instanceMethod yX5_bursts, Cond.selects RX5 yX5_bursts yX5_bursts, Cond.code yX5_bursts cX5_bursts 3 none, Cond.methodLink RX5 56 yX5_liquid, Cond.instanceMethod yX5_liquid, Cond.selects RX5 yX5_liquid yX5_liquid, Cond.code yX5_liquid cX5_liquid 3 (some .int), Cond.methodLink RX5 77 yX5_blackOnes, Cond.instanceMethod yX5_blackOnes, Cond.selects RX5 yX5_blackOnes yX5_blackOnes, Cond.code yX5_blackOnes cX5_blackOnes 3 (some .int), Cond.methodLink RX5 37 yX5_isBlack, Cond.instanceMethod yX5_isBlack, Cond.selects RX5 yX5_isBlack yX5_isBlack, Cond.code yX5_isBlack cX5_isBlack 2 (some .boolean), Cond.methodLink RX5 80 yX5_bits, Cond.static yX5_bits]
def wsX5_mayBurst_r2 : List Cond := [Cond.code yX5_bits cX5_bits 3 (some .int)]
def wsX5_mayBurst : List Cond := .code yX5_mayBurst cX5_mayBurst 2 none :: ((wsX5_mayBurst_r1 ++ wsX5_mayBurst_r2) ++ wsX50)
def wsX5_changesFilm_r1 : List Cond := [Cond.fieldLink RX5 7 "SoapFilmModel" "st" "[I", Cond.constantLong RX5 83 (1000000), Cond.methodLink RX5 34 yX5_of, Cond.instanceMethod yX5_of, Cond.selects RX5 yX5_of yX5_of, Cond.initialized RX5, Cond.code yX5_of cX5_of 2 (some .int), Cond.methodLink RX5 85 yX5_gives, Cond.instanceMethod yX5_gives, Cond.selects RX5 yX5_gives yX5_gives, Cond.code yX5_gives cX5_gives 5 none, Cond.methodLink RX5 70 yX5_lesser, Cond.static yX5_lesser, Cond.code yX5_lesser cX5_lesser 2 (some .int), Cond.methodLink RX5 77 yX5_blackOnes, Cond.instanceMethod yX5_blackOnes, Cond.selects RX5 yX5_blackOnes yX5_blackOnes, Cond.code yX5_blackOnes cX5_blackOnes 3 (some .int), Cond.methodLink RX5 37 yX5_isBlack, Cond.instanceMethod yX5_isBlack, Cond.selects RX5 yX5_isBlack yX5_isBlack, Cond.code yX5_isBlack cX5_isBlack 2 (some .boolean), Cond.methodLink RX5 89 yX5_mayBurst, Cond.instanceMethod yX5_mayBurst]
def wsX5_changesFilm_r2 : List Cond := [Cond.selects RX5 yX5_mayBurst yX5_mayBurst, Cond.code yX5_mayBurst cX5_mayBurst 2 none, Cond.methodLink RX5 73 yX5_bursts, Cond.instanceMethod yX5_bursts, Cond.selects RX5 yX5_bursts yX5_bursts, Cond.code yX5_bursts cX5_bursts 3 none, Cond.methodLink RX5 56 yX5_liquid, Cond.instanceMethod yX5_liquid, Cond.selects RX5 yX5_liquid yX5_liquid, Cond.code yX5_liquid cX5_liquid 3 (some .int), Cond.methodLink RX5 80 yX5_bits, Cond.static yX5_bits, Cond.code yX5_bits cX5_bits 3 (some .int)]
def wsX5_changesFilm : List Cond := .code yX5_changesFilm cX5_changesFilm 4 none :: ((wsX5_changesFilm_r1 ++ wsX5_changesFilm_r2) ++ wsX50)
def wsX5_tick_r1 : List Cond := [Cond.fieldLink RX5 7 "SoapFilmModel" "st" "[I", Cond.methodLink RX5 92 yX5_changesFilm, Cond.instanceMethod yX5_changesFilm, Cond.selects RX5 yX5_changesFilm yX5_changesFilm, Cond.initialized RX5, Cond.code yX5_changesFilm cX5_changesFilm 4 none, Cond.constantLong RX5 83 (1000000), Cond.methodLink RX5 34 yX5_of, Cond.instanceMethod yX5_of, Cond.selects RX5 yX5_of yX5_of, Cond.code yX5_of cX5_of 2 (some .int), Cond.methodLink RX5 85 yX5_gives, Cond.instanceMethod yX5_gives, Cond.selects RX5 yX5_gives yX5_gives, Cond.code yX5_gives cX5_gives 5 none, Cond.methodLink RX5 70 yX5_lesser, Cond.static yX5_lesser, Cond.code yX5_lesser cX5_lesser 2 (some .int), Cond.methodLink RX5 77 yX5_blackOnes, Cond.instanceMethod yX5_blackOnes, Cond.selects RX5 yX5_blackOnes yX5_blackOnes, Cond.code yX5_blackOnes cX5_blackOnes 3 (some .int), Cond.methodLink RX5 37 yX5_isBlack, Cond.instanceMethod yX5_isBlack]
def wsX5_tick_r2 : List Cond := [Cond.selects RX5 yX5_isBlack yX5_isBlack, Cond.code yX5_isBlack cX5_isBlack 2 (some .boolean), Cond.methodLink RX5 89 yX5_mayBurst, Cond.instanceMethod yX5_mayBurst, Cond.selects RX5 yX5_mayBurst yX5_mayBurst, Cond.code yX5_mayBurst cX5_mayBurst 2 none, Cond.methodLink RX5 73 yX5_bursts, Cond.instanceMethod yX5_bursts, Cond.selects RX5 yX5_bursts yX5_bursts, Cond.code yX5_bursts cX5_bursts 3 none, Cond.methodLink RX5 56 yX5_liquid, Cond.instanceMethod yX5_liquid, Cond.selects RX5 yX5_liquid yX5_liquid, Cond.code yX5_liquid cX5_liquid 3 (some .int), Cond.methodLink RX5 80 yX5_bits, Cond.static yX5_bits, Cond.code yX5_bits cX5_bits 3 (some .int)]
def wsX5_tick : List Cond := .code yX5_tick cX5_tick 2 (some .boolean) :: ((wsX5_tick_r1 ++ wsX5_tick_r2) ++ wsX50)
def wsX5_go_r1 : List Cond := [Cond.fieldLink RX5 7 "SoapFilmModel" "st" "[I", Cond.constant RX5 48 (100000), Cond.methodLink RX5 26 yX5_in, Cond.static yX5_in, Cond.initialized RX5, Cond.code yX5_in cX5_in 3 (some .boolean), Cond.methodLink RX5 53 yX5_records, Cond.instanceMethod yX5_records, Cond.selects RX5 yX5_records yX5_records, Cond.code yX5_records cX5_records 2 none, Cond.fieldLink RX5 22 "SoapFilmModel" "pasts" "I", Cond.fieldLink RX5 13 "SoapFilmModel" "past" "[I", Cond.methodLink RX5 95 yX5_tick, Cond.instanceMethod yX5_tick, Cond.selects RX5 yX5_tick yX5_tick, Cond.code yX5_tick cX5_tick 2 (some .boolean), Cond.methodLink RX5 92 yX5_changesFilm, Cond.instanceMethod yX5_changesFilm, Cond.selects RX5 yX5_changesFilm yX5_changesFilm, Cond.code yX5_changesFilm cX5_changesFilm 4 none, Cond.constantLong RX5 83 (1000000), Cond.methodLink RX5 34 yX5_of, Cond.instanceMethod yX5_of, Cond.selects RX5 yX5_of yX5_of]
def wsX5_go_r2 : List Cond := [Cond.code yX5_of cX5_of 2 (some .int), Cond.methodLink RX5 85 yX5_gives, Cond.instanceMethod yX5_gives, Cond.selects RX5 yX5_gives yX5_gives, Cond.code yX5_gives cX5_gives 5 none, Cond.methodLink RX5 70 yX5_lesser, Cond.static yX5_lesser, Cond.code yX5_lesser cX5_lesser 2 (some .int), Cond.methodLink RX5 77 yX5_blackOnes, Cond.instanceMethod yX5_blackOnes, Cond.selects RX5 yX5_blackOnes yX5_blackOnes, Cond.code yX5_blackOnes cX5_blackOnes 3 (some .int), Cond.methodLink RX5 37 yX5_isBlack, Cond.instanceMethod yX5_isBlack, Cond.selects RX5 yX5_isBlack yX5_isBlack, Cond.code yX5_isBlack cX5_isBlack 2 (some .boolean), Cond.methodLink RX5 89 yX5_mayBurst, Cond.instanceMethod yX5_mayBurst, Cond.selects RX5 yX5_mayBurst yX5_mayBurst, Cond.code yX5_mayBurst cX5_mayBurst 2 none, Cond.methodLink RX5 73 yX5_bursts, Cond.instanceMethod yX5_bursts, Cond.selects RX5 yX5_bursts yX5_bursts, Cond.code yX5_bursts cX5_bursts 3 none]
def wsX5_go_r3 : List Cond := [Cond.methodLink RX5 56 yX5_liquid, Cond.instanceMethod yX5_liquid, Cond.selects RX5 yX5_liquid yX5_liquid, Cond.code yX5_liquid cX5_liquid 3 (some .int), Cond.methodLink RX5 80 yX5_bits, Cond.static yX5_bits, Cond.code yX5_bits cX5_bits 3 (some .int)]
def wsX5_go : List Cond := .code yX5_go cX5_go 4 (some .int) :: ((wsX5_go_r1 ++ (wsX5_go_r2 ++ wsX5_go_r3)) ++ wsX50)
def wsX5_valueOf : List Cond := .code yX5_valueOf cX5_valueOf 3 (some .int) :: ([.methodLink RX5 30 yX5_path, .static yX5_path, .initialized RX5, .code yX5_path cX5_path 1 (some .int), .methodLink RX5 41 yX5_brightness, .static yX5_brightness, .code yX5_brightness cX5_brightness 4 (some .int), .methodLink RX5 45 yX5_colour, .instanceMethod yX5_colour, .selects RX5 yX5_colour yX5_colour, .code yX5_colour cX5_colour 4 (some .int), .methodLink RX5 37 yX5_isBlack, .instanceMethod yX5_isBlack, .selects RX5 yX5_isBlack yX5_isBlack, .code yX5_isBlack cX5_isBlack 2 (some .boolean), .methodLink RX5 34 yX5_of, .instanceMethod yX5_of, .selects RX5 yX5_of yX5_of, .code yX5_of cX5_of 2 (some .int), .fieldLink RX5 7 "SoapFilmModel" "st" "[I"] ++ wsX50)
def wsX5_row_r1 : List Cond := [Cond.fieldLink RX5 7 "SoapFilmModel" "st" "[I", Cond.methodLink RX5 67 yX5_isRow, Cond.instanceMethod yX5_isRow, Cond.selects RX5 yX5_isRow yX5_isRow, Cond.initialized RX5, Cond.code yX5_isRow cX5_isRow 2 (some .boolean), Cond.methodLink RX5 26 yX5_in, Cond.static yX5_in, Cond.code yX5_in cX5_in 3 (some .boolean), Cond.methodLink RX5 99 yX5_valueOf, Cond.instanceMethod yX5_valueOf, Cond.selects RX5 yX5_valueOf yX5_valueOf, Cond.code yX5_valueOf cX5_valueOf 3 (some .int), Cond.methodLink RX5 30 yX5_path, Cond.static yX5_path, Cond.code yX5_path cX5_path 1 (some .int), Cond.methodLink RX5 41 yX5_brightness, Cond.static yX5_brightness, Cond.code yX5_brightness cX5_brightness 4 (some .int), Cond.methodLink RX5 45 yX5_colour, Cond.instanceMethod yX5_colour, Cond.selects RX5 yX5_colour yX5_colour, Cond.code yX5_colour cX5_colour 4 (some .int), Cond.methodLink RX5 37 yX5_isBlack]
def wsX5_row_r2 : List Cond := [Cond.instanceMethod yX5_isBlack, Cond.selects RX5 yX5_isBlack yX5_isBlack, Cond.code yX5_isBlack cX5_isBlack 2 (some .boolean), Cond.methodLink RX5 34 yX5_of, Cond.instanceMethod yX5_of, Cond.selects RX5 yX5_of yX5_of, Cond.code yX5_of cX5_of 2 (some .int)]
def wsX5_row : List Cond := .code yX5_row cX5_row 3 (some .int) :: ((wsX5_row_r1 ++ wsX5_row_r2) ++ wsX50)
def wsX5_runsTo : List Cond := .code yX5_runsTo cX5_runsTo 4 (some .int) :: ([.methodLink RX5 102 yX5_colourAt, .instanceMethod yX5_colourAt, .selects RX5 yX5_colourAt yX5_colourAt, .initialized RX5, .code yX5_colourAt cX5_colourAt 2 (some .int), .fieldLink RX5 7 "SoapFilmModel" "st" "[I", .methodLink RX5 45 yX5_colour, .instanceMethod yX5_colour, .selects RX5 yX5_colour yX5_colour, .code yX5_colour cX5_colour 4 (some .int), .methodLink RX5 37 yX5_isBlack, .instanceMethod yX5_isBlack, .selects RX5 yX5_isBlack yX5_isBlack, .code yX5_isBlack cX5_isBlack 2 (some .boolean), .methodLink RX5 34 yX5_of, .instanceMethod yX5_of, .selects RX5 yX5_of yX5_of, .code yX5_of cX5_of 2 (some .int), .methodLink RX5 41 yX5_brightness, .static yX5_brightness, .code yX5_brightness cX5_brightness 4 (some .int), .methodLink RX5 30 yX5_path, .static yX5_path, .code yX5_path cX5_path 1 (some .int)] ++ wsX50)
def wsX5_colours_r1 : List Cond := [Cond.fieldLink RX5 7 "SoapFilmModel" "st" "[I", Cond.methodLink RX5 102 yX5_colourAt, Cond.instanceMethod yX5_colourAt, Cond.selects RX5 yX5_colourAt yX5_colourAt, Cond.initialized RX5, Cond.code yX5_colourAt cX5_colourAt 2 (some .int), Cond.methodLink RX5 45 yX5_colour, Cond.instanceMethod yX5_colour, Cond.selects RX5 yX5_colour yX5_colour, Cond.code yX5_colour cX5_colour 4 (some .int), Cond.methodLink RX5 37 yX5_isBlack, Cond.instanceMethod yX5_isBlack, Cond.selects RX5 yX5_isBlack yX5_isBlack, Cond.code yX5_isBlack cX5_isBlack 2 (some .boolean), Cond.methodLink RX5 34 yX5_of, Cond.instanceMethod yX5_of, Cond.selects RX5 yX5_of yX5_of, Cond.code yX5_of cX5_of 2 (some .int), Cond.methodLink RX5 41 yX5_brightness, Cond.static yX5_brightness, Cond.code yX5_brightness cX5_brightness 4 (some .int), Cond.methodLink RX5 30 yX5_path, Cond.static yX5_path, Cond.code yX5_path cX5_path 1 (some .int)]
def wsX5_colours_r2 : List Cond := [Cond.methodLink RX5 80 yX5_bits, Cond.static yX5_bits, Cond.code yX5_bits cX5_bits 3 (some .int)]
def wsX5_colours : List Cond := .code yX5_colours cX5_colours 3 (some .int) :: ((wsX5_colours_r1 ++ wsX5_colours_r2) ++ wsX50)
def wsX5_greatestOrder : List Cond := .code yX5_greatestOrder cX5_greatestOrder 4 (some .int) :: ([.fieldLink RX5 7 "SoapFilmModel" "st" "[I", .methodLink RX5 30 yX5_path, .static yX5_path, .initialized RX5, .code yX5_path cX5_path 1 (some .int)] ++ wsX50)
def wsX5_account : List Cond := .code yX5_account cX5_account 2 (some .int) :: ([.fieldLink RX5 7 "SoapFilmModel" "st" "[I", .methodLink RX5 56 yX5_liquid, .instanceMethod yX5_liquid, .selects RX5 yX5_liquid yX5_liquid, .initialized RX5, .code yX5_liquid cX5_liquid 3 (some .int)] ++ wsX50)
def wsX5_ofBurst : List Cond := .code yX5_ofBurst cX5_ofBurst 2 (some .int) :: ([.fieldLink RX5 7 "SoapFilmModel" "st" "[I"] ++ wsX50)
def wsX5_count_r1 : List Cond := [Cond.fieldLink RX5 7 "SoapFilmModel" "st" "[I", Cond.fieldLink RX5 22 "SoapFilmModel" "pasts" "I", Cond.fieldLink RX5 117 "SoapFilmModel" "length" "I", Cond.methodLink RX5 77 yX5_blackOnes, Cond.instanceMethod yX5_blackOnes, Cond.selects RX5 yX5_blackOnes yX5_blackOnes, Cond.initialized RX5, Cond.code yX5_blackOnes cX5_blackOnes 3 (some .int), Cond.methodLink RX5 37 yX5_isBlack, Cond.instanceMethod yX5_isBlack, Cond.selects RX5 yX5_isBlack yX5_isBlack, Cond.code yX5_isBlack cX5_isBlack 2 (some .boolean), Cond.methodLink RX5 34 yX5_of, Cond.instanceMethod yX5_of, Cond.selects RX5 yX5_of yX5_of, Cond.code yX5_of cX5_of 2 (some .int), Cond.methodLink RX5 80 yX5_bits, Cond.static yX5_bits, Cond.code yX5_bits cX5_bits 3 (some .int), Cond.methodLink RX5 105 yX5_runsTo, Cond.instanceMethod yX5_runsTo, Cond.selects RX5 yX5_runsTo yX5_runsTo, Cond.code yX5_runsTo cX5_runsTo 4 (some .int), Cond.methodLink RX5 102 yX5_colourAt]
def wsX5_count_r2 : List Cond := [Cond.instanceMethod yX5_colourAt, Cond.selects RX5 yX5_colourAt yX5_colourAt, Cond.code yX5_colourAt cX5_colourAt 2 (some .int), Cond.methodLink RX5 45 yX5_colour, Cond.instanceMethod yX5_colour, Cond.selects RX5 yX5_colour yX5_colour, Cond.code yX5_colour cX5_colour 4 (some .int), Cond.methodLink RX5 41 yX5_brightness, Cond.static yX5_brightness, Cond.code yX5_brightness cX5_brightness 4 (some .int), Cond.methodLink RX5 30 yX5_path, Cond.static yX5_path, Cond.code yX5_path cX5_path 1 (some .int), Cond.methodLink RX5 108 yX5_colours, Cond.instanceMethod yX5_colours, Cond.selects RX5 yX5_colours yX5_colours, Cond.code yX5_colours cX5_colours 3 (some .int), Cond.methodLink RX5 111 yX5_greatestOrder, Cond.instanceMethod yX5_greatestOrder, Cond.selects RX5 yX5_greatestOrder yX5_greatestOrder, Cond.code yX5_greatestOrder cX5_greatestOrder 4 (some .int), Cond.methodLink RX5 114 yX5_ofBurst, Cond.instanceMethod yX5_ofBurst, Cond.selects RX5 yX5_ofBurst yX5_ofBurst]
def wsX5_count_r3 : List Cond := [Cond.code yX5_ofBurst cX5_ofBurst 2 (some .int), Cond.methodLink RX5 26 yX5_in, Cond.static yX5_in, Cond.code yX5_in cX5_in 3 (some .boolean), Cond.methodLink RX5 120 yX5_account, Cond.instanceMethod yX5_account, Cond.selects RX5 yX5_account yX5_account, Cond.code yX5_account cX5_account 2 (some .int), Cond.methodLink RX5 56 yX5_liquid, Cond.instanceMethod yX5_liquid, Cond.selects RX5 yX5_liquid yX5_liquid, Cond.code yX5_liquid cX5_liquid 3 (some .int)]
def wsX5_count : List Cond := .code yX5_count cX5_count 2 (some .int) :: ((wsX5_count_r1 ++ (wsX5_count_r2 ++ wsX5_count_r3)) ++ wsX50)
def wsX5_ladder_r1 : List Cond := [Cond.fieldLink RX5 7 "SoapFilmModel" "st" "[I", Cond.methodLink RX5 105 yX5_runsTo, Cond.instanceMethod yX5_runsTo, Cond.selects RX5 yX5_runsTo yX5_runsTo, Cond.initialized RX5, Cond.code yX5_runsTo cX5_runsTo 4 (some .int), Cond.methodLink RX5 102 yX5_colourAt, Cond.instanceMethod yX5_colourAt, Cond.selects RX5 yX5_colourAt yX5_colourAt, Cond.code yX5_colourAt cX5_colourAt 2 (some .int), Cond.methodLink RX5 45 yX5_colour, Cond.instanceMethod yX5_colour, Cond.selects RX5 yX5_colour yX5_colour, Cond.code yX5_colour cX5_colour 4 (some .int), Cond.methodLink RX5 37 yX5_isBlack, Cond.instanceMethod yX5_isBlack, Cond.selects RX5 yX5_isBlack yX5_isBlack, Cond.code yX5_isBlack cX5_isBlack 2 (some .boolean), Cond.methodLink RX5 34 yX5_of, Cond.instanceMethod yX5_of, Cond.selects RX5 yX5_of yX5_of, Cond.code yX5_of cX5_of 2 (some .int), Cond.methodLink RX5 41 yX5_brightness, Cond.static yX5_brightness]
def wsX5_ladder_r2 : List Cond := [Cond.code yX5_brightness cX5_brightness 4 (some .int), Cond.methodLink RX5 30 yX5_path, Cond.static yX5_path, Cond.code yX5_path cX5_path 1 (some .int)]
def wsX5_ladder : List Cond := .code yX5_ladder cX5_ladder 3 (some .int) :: ((wsX5_ladder_r1 ++ wsX5_ladder_r2) ++ wsX50)
def wsX5_isColour : List Cond := .code yX5_isColour cX5_isColour 1 (some .boolean) :: ([.methodLink RX5 26 yX5_in, .static yX5_in, .initialized RX5, .code yX5_in cX5_in 3 (some .boolean)])
def wsX5_find_r1 : List Cond := [Cond.fieldLink RX5 7 "SoapFilmModel" "st" "[I", Cond.methodLink RX5 123 yX5_isColour, Cond.static yX5_isColour, Cond.initialized RX5, Cond.code yX5_isColour cX5_isColour 1 (some .boolean), Cond.methodLink RX5 26 yX5_in, Cond.static yX5_in, Cond.code yX5_in cX5_in 3 (some .boolean), Cond.methodLink RX5 102 yX5_colourAt, Cond.instanceMethod yX5_colourAt, Cond.selects RX5 yX5_colourAt yX5_colourAt, Cond.code yX5_colourAt cX5_colourAt 2 (some .int), Cond.methodLink RX5 45 yX5_colour, Cond.instanceMethod yX5_colour, Cond.selects RX5 yX5_colour yX5_colour, Cond.code yX5_colour cX5_colour 4 (some .int), Cond.methodLink RX5 37 yX5_isBlack, Cond.instanceMethod yX5_isBlack, Cond.selects RX5 yX5_isBlack yX5_isBlack, Cond.code yX5_isBlack cX5_isBlack 2 (some .boolean), Cond.methodLink RX5 34 yX5_of, Cond.instanceMethod yX5_of, Cond.selects RX5 yX5_of yX5_of, Cond.code yX5_of cX5_of 2 (some .int)]
def wsX5_find_r2 : List Cond := [Cond.methodLink RX5 41 yX5_brightness, Cond.static yX5_brightness, Cond.code yX5_brightness cX5_brightness 4 (some .int), Cond.methodLink RX5 30 yX5_path, Cond.static yX5_path, Cond.code yX5_path cX5_path 1 (some .int)]
def wsX5_find : List Cond := .code yX5_find cX5_find 4 (some .int) :: ((wsX5_find_r1 ++ wsX5_find_r2) ++ wsX50)
def wsX5_colourOf : List Cond := .code yX5_colourOf cX5_colourOf 2 (some .int) :: ([.methodLink RX5 26 yX5_in, .static yX5_in, .initialized RX5, .code yX5_in cX5_in 3 (some .boolean), .methodLink RX5 45 yX5_colour, .instanceMethod yX5_colour, .selects RX5 yX5_colour yX5_colour, .code yX5_colour cX5_colour 4 (some .int), .methodLink RX5 37 yX5_isBlack, .instanceMethod yX5_isBlack, .selects RX5 yX5_isBlack yX5_isBlack, .code yX5_isBlack cX5_isBlack 2 (some .boolean), .methodLink RX5 34 yX5_of, .instanceMethod yX5_of, .selects RX5 yX5_of yX5_of, .code yX5_of cX5_of 2 (some .int), .fieldLink RX5 7 "SoapFilmModel" "st" "[I", .methodLink RX5 41 yX5_brightness, .static yX5_brightness, .code yX5_brightness cX5_brightness 4 (some .int), .methodLink RX5 30 yX5_path, .static yX5_path, .code yX5_path cX5_path 1 (some .int)] ++ wsX50)
def wsX5_thicknessFor_r1 : List Cond := [Cond.methodLink RX5 123 yX5_isColour, Cond.static yX5_isColour, Cond.initialized RX5, Cond.code yX5_isColour cX5_isColour 1 (some .boolean), Cond.methodLink RX5 26 yX5_in, Cond.static yX5_in, Cond.code yX5_in cX5_in 3 (some .boolean), Cond.methodLink RX5 45 yX5_colour, Cond.instanceMethod yX5_colour, Cond.selects RX5 yX5_colour yX5_colour, Cond.code yX5_colour cX5_colour 4 (some .int), Cond.methodLink RX5 37 yX5_isBlack, Cond.instanceMethod yX5_isBlack, Cond.selects RX5 yX5_isBlack yX5_isBlack, Cond.code yX5_isBlack cX5_isBlack 2 (some .boolean), Cond.methodLink RX5 34 yX5_of, Cond.instanceMethod yX5_of, Cond.selects RX5 yX5_of yX5_of, Cond.code yX5_of cX5_of 2 (some .int), Cond.fieldLink RX5 7 "SoapFilmModel" "st" "[I", Cond.methodLink RX5 41 yX5_brightness, Cond.static yX5_brightness, Cond.code yX5_brightness cX5_brightness 4 (some .int), Cond.methodLink RX5 30 yX5_path]
def wsX5_thicknessFor_r2 : List Cond := [Cond.static yX5_path, Cond.code yX5_path cX5_path 1 (some .int)]
def wsX5_thicknessFor : List Cond := .code yX5_thicknessFor cX5_thicknessFor 4 (some .int) :: ((wsX5_thicknessFor_r1 ++ wsX5_thicknessFor_r2) ++ wsX50)
def wsX5_isQuestion : List Cond := .code yX5_isQuestion cX5_isQuestion 2 (some .boolean) :: ([.methodLink RX5 26 yX5_in, .static yX5_in, .initialized RX5, .code yX5_in cX5_in 3 (some .boolean), .methodLink RX5 123 yX5_isColour, .static yX5_isColour, .code yX5_isColour cX5_isColour 1 (some .boolean)])
def wsX5_isSo_r1 : List Cond := [Cond.fieldLink RX5 7 "SoapFilmModel" "st" "[I", Cond.fieldLink RX5 16 "SoapFilmModel" "aside" "[I", Cond.methodLink RX5 77 yX5_blackOnes, Cond.instanceMethod yX5_blackOnes, Cond.selects RX5 yX5_blackOnes yX5_blackOnes, Cond.initialized RX5, Cond.code yX5_blackOnes cX5_blackOnes 3 (some .int), Cond.methodLink RX5 37 yX5_isBlack, Cond.instanceMethod yX5_isBlack, Cond.selects RX5 yX5_isBlack yX5_isBlack, Cond.code yX5_isBlack cX5_isBlack 2 (some .boolean), Cond.methodLink RX5 34 yX5_of, Cond.instanceMethod yX5_of, Cond.selects RX5 yX5_of yX5_of, Cond.code yX5_of cX5_of 2 (some .int), Cond.methodLink RX5 80 yX5_bits, Cond.static yX5_bits, Cond.code yX5_bits cX5_bits 3 (some .int), Cond.methodLink RX5 102 yX5_colourAt, Cond.instanceMethod yX5_colourAt, Cond.selects RX5 yX5_colourAt yX5_colourAt, Cond.code yX5_colourAt cX5_colourAt 2 (some .int), Cond.methodLink RX5 45 yX5_colour, Cond.instanceMethod yX5_colour]
def wsX5_isSo_r2 : List Cond := [Cond.selects RX5 yX5_colour yX5_colour, Cond.code yX5_colour cX5_colour 4 (some .int), Cond.methodLink RX5 41 yX5_brightness, Cond.static yX5_brightness, Cond.code yX5_brightness cX5_brightness 4 (some .int), Cond.methodLink RX5 30 yX5_path, Cond.static yX5_path, Cond.code yX5_path cX5_path 1 (some .int)]
def wsX5_isSo : List Cond := .code yX5_isSo cX5_isSo 3 (some .boolean) :: ((wsX5_isSo_r1 ++ wsX5_isSo_r2) ++ wsX50)
def wsX5_until_r1 : List Cond := [Cond.methodLink RX5 126 yX5_isQuestion, Cond.static yX5_isQuestion, Cond.initialized RX5, Cond.code yX5_isQuestion cX5_isQuestion 2 (some .boolean), Cond.methodLink RX5 26 yX5_in, Cond.static yX5_in, Cond.code yX5_in cX5_in 3 (some .boolean), Cond.methodLink RX5 123 yX5_isColour, Cond.static yX5_isColour, Cond.code yX5_isColour cX5_isColour 1 (some .boolean), Cond.methodLink RX5 129 yX5_laysAside, Cond.instanceMethod yX5_laysAside, Cond.selects RX5 yX5_laysAside yX5_laysAside, Cond.code yX5_laysAside cX5_laysAside 2 none, Cond.fieldLink RX5 16 "SoapFilmModel" "aside" "[I", Cond.fieldLink RX5 7 "SoapFilmModel" "st" "[I", Cond.methodLink RX5 132 yX5_isSo, Cond.instanceMethod yX5_isSo, Cond.selects RX5 yX5_isSo yX5_isSo, Cond.code yX5_isSo cX5_isSo 3 (some .boolean), Cond.methodLink RX5 77 yX5_blackOnes, Cond.instanceMethod yX5_blackOnes, Cond.selects RX5 yX5_blackOnes yX5_blackOnes, Cond.code yX5_blackOnes cX5_blackOnes 3 (some .int)]
def wsX5_until_r2 : List Cond := [Cond.methodLink RX5 37 yX5_isBlack, Cond.instanceMethod yX5_isBlack, Cond.selects RX5 yX5_isBlack yX5_isBlack, Cond.code yX5_isBlack cX5_isBlack 2 (some .boolean), Cond.methodLink RX5 34 yX5_of, Cond.instanceMethod yX5_of, Cond.selects RX5 yX5_of yX5_of, Cond.code yX5_of cX5_of 2 (some .int), Cond.methodLink RX5 80 yX5_bits, Cond.static yX5_bits, Cond.code yX5_bits cX5_bits 3 (some .int), Cond.methodLink RX5 102 yX5_colourAt, Cond.instanceMethod yX5_colourAt, Cond.selects RX5 yX5_colourAt yX5_colourAt, Cond.code yX5_colourAt cX5_colourAt 2 (some .int), Cond.methodLink RX5 45 yX5_colour, Cond.instanceMethod yX5_colour, Cond.selects RX5 yX5_colour yX5_colour, Cond.code yX5_colour cX5_colour 4 (some .int), Cond.methodLink RX5 41 yX5_brightness, Cond.static yX5_brightness, Cond.code yX5_brightness cX5_brightness 4 (some .int), Cond.methodLink RX5 30 yX5_path, Cond.static yX5_path]
def wsX5_until_r3 : List Cond := [Cond.code yX5_path cX5_path 1 (some .int), Cond.methodLink RX5 95 yX5_tick, Cond.instanceMethod yX5_tick, Cond.selects RX5 yX5_tick yX5_tick, Cond.code yX5_tick cX5_tick 2 (some .boolean), Cond.methodLink RX5 92 yX5_changesFilm, Cond.instanceMethod yX5_changesFilm, Cond.selects RX5 yX5_changesFilm yX5_changesFilm, Cond.code yX5_changesFilm cX5_changesFilm 4 none, Cond.constantLong RX5 83 (1000000), Cond.methodLink RX5 85 yX5_gives, Cond.instanceMethod yX5_gives, Cond.selects RX5 yX5_gives yX5_gives, Cond.code yX5_gives cX5_gives 5 none, Cond.methodLink RX5 70 yX5_lesser, Cond.static yX5_lesser, Cond.code yX5_lesser cX5_lesser 2 (some .int), Cond.methodLink RX5 89 yX5_mayBurst, Cond.instanceMethod yX5_mayBurst, Cond.selects RX5 yX5_mayBurst yX5_mayBurst, Cond.code yX5_mayBurst cX5_mayBurst 2 none, Cond.methodLink RX5 73 yX5_bursts, Cond.instanceMethod yX5_bursts, Cond.selects RX5 yX5_bursts yX5_bursts]
def wsX5_until_r4 : List Cond := [Cond.code yX5_bursts cX5_bursts 3 none, Cond.methodLink RX5 56 yX5_liquid, Cond.instanceMethod yX5_liquid, Cond.selects RX5 yX5_liquid yX5_liquid, Cond.code yX5_liquid cX5_liquid 3 (some .int), Cond.methodLink RX5 135 yX5_bringsBack, Cond.instanceMethod yX5_bringsBack, Cond.selects RX5 yX5_bringsBack yX5_bringsBack, Cond.code yX5_bringsBack cX5_bringsBack 2 none]
def wsX5_until : List Cond := .code yX5_until cX5_until 6 (some .int) :: ((wsX5_until_r1 ++ (wsX5_until_r2 ++ (wsX5_until_r3 ++ wsX5_until_r4))) ++ wsX50)
def wsX5_ifGo_r1 : List Cond := [Cond.fieldLink RX5 7 "SoapFilmModel" "st" "[I", Cond.methodLink RX5 67 yX5_isRow, Cond.instanceMethod yX5_isRow, Cond.selects RX5 yX5_isRow yX5_isRow, Cond.initialized RX5, Cond.code yX5_isRow cX5_isRow 2 (some .boolean), Cond.methodLink RX5 26 yX5_in, Cond.static yX5_in, Cond.code yX5_in cX5_in 3 (some .boolean), Cond.methodLink RX5 129 yX5_laysAside, Cond.instanceMethod yX5_laysAside, Cond.selects RX5 yX5_laysAside yX5_laysAside, Cond.code yX5_laysAside cX5_laysAside 2 none, Cond.fieldLink RX5 16 "SoapFilmModel" "aside" "[I", Cond.methodLink RX5 95 yX5_tick, Cond.instanceMethod yX5_tick, Cond.selects RX5 yX5_tick yX5_tick, Cond.code yX5_tick cX5_tick 2 (some .boolean), Cond.methodLink RX5 92 yX5_changesFilm, Cond.instanceMethod yX5_changesFilm, Cond.selects RX5 yX5_changesFilm yX5_changesFilm, Cond.code yX5_changesFilm cX5_changesFilm 4 none, Cond.constantLong RX5 83 (1000000), Cond.methodLink RX5 34 yX5_of]
def wsX5_ifGo_r2 : List Cond := [Cond.instanceMethod yX5_of, Cond.selects RX5 yX5_of yX5_of, Cond.code yX5_of cX5_of 2 (some .int), Cond.methodLink RX5 85 yX5_gives, Cond.instanceMethod yX5_gives, Cond.selects RX5 yX5_gives yX5_gives, Cond.code yX5_gives cX5_gives 5 none, Cond.methodLink RX5 70 yX5_lesser, Cond.static yX5_lesser, Cond.code yX5_lesser cX5_lesser 2 (some .int), Cond.methodLink RX5 77 yX5_blackOnes, Cond.instanceMethod yX5_blackOnes, Cond.selects RX5 yX5_blackOnes yX5_blackOnes, Cond.code yX5_blackOnes cX5_blackOnes 3 (some .int), Cond.methodLink RX5 37 yX5_isBlack, Cond.instanceMethod yX5_isBlack, Cond.selects RX5 yX5_isBlack yX5_isBlack, Cond.code yX5_isBlack cX5_isBlack 2 (some .boolean), Cond.methodLink RX5 89 yX5_mayBurst, Cond.instanceMethod yX5_mayBurst, Cond.selects RX5 yX5_mayBurst yX5_mayBurst, Cond.code yX5_mayBurst cX5_mayBurst 2 none, Cond.methodLink RX5 73 yX5_bursts, Cond.instanceMethod yX5_bursts]
def wsX5_ifGo_r3 : List Cond := [Cond.selects RX5 yX5_bursts yX5_bursts, Cond.code yX5_bursts cX5_bursts 3 none, Cond.methodLink RX5 56 yX5_liquid, Cond.instanceMethod yX5_liquid, Cond.selects RX5 yX5_liquid yX5_liquid, Cond.code yX5_liquid cX5_liquid 3 (some .int), Cond.methodLink RX5 80 yX5_bits, Cond.static yX5_bits, Cond.code yX5_bits cX5_bits 3 (some .int), Cond.methodLink RX5 135 yX5_bringsBack, Cond.instanceMethod yX5_bringsBack, Cond.selects RX5 yX5_bringsBack yX5_bringsBack, Cond.code yX5_bringsBack cX5_bringsBack 2 none]
def wsX5_ifGo : List Cond := .code yX5_ifGo cX5_ifGo 5 (some .int) :: ((wsX5_ifGo_r1 ++ (wsX5_ifGo_r2 ++ wsX5_ifGo_r3)) ++ wsX50)
def wsX5_type : List Cond := .code yX5_type cX5_type 2 (some .int) :: ([.fieldLink RX5 117 "SoapFilmModel" "length" "I", .fieldLink RX5 19 "SoapFilmModel" "text" "[I", .methodLink RX5 26 yX5_in, .static yX5_in, .initialized RX5, .code yX5_in cX5_in 3 (some .boolean)] ++ wsX50)
def wsX5_clearText : List Cond := .code yX5_clearText cX5_clearText 2 (some .int) :: ([.fieldLink RX5 117 "SoapFilmModel" "length" "I"] ++ wsX50)
def wsX5_isAt : List Cond := .code yX5_isAt cX5_isAt 3 (some .boolean) :: ([.fieldLink RX5 138 "SoapFilmModel" "spot" "I", .fieldLink RX5 117 "SoapFilmModel" "length" "I", .fieldLink RX5 19 "SoapFilmModel" "text" "[I", .methodLink RX5 26 yX5_in, .static yX5_in, .initialized RX5, .code yX5_in cX5_in 3 (some .boolean)] ++ wsX50)
def wsX5_digits : List Cond := .code yX5_digits cX5_digits 4 (some .int) :: ([.fieldLink RX5 138 "SoapFilmModel" "spot" "I", .fieldLink RX5 19 "SoapFilmModel" "text" "[I", .methodLink RX5 141 yX5_isAt, .instanceMethod yX5_isAt, .selects RX5 yX5_isAt yX5_isAt, .initialized RX5, .code yX5_isAt cX5_isAt 3 (some .boolean), .fieldLink RX5 117 "SoapFilmModel" "length" "I", .methodLink RX5 26 yX5_in, .static yX5_in, .code yX5_in cX5_in 3 (some .boolean)] ++ wsX50)
def wsX5_isFormed : List Cond := .code yX5_isFormed cX5_isFormed 1 (some .boolean) :: ([.fieldLink RX5 147 "SoapFilmModel" "itsThickness" "I", .fieldLink RX5 150 "SoapFilmModel" "itsRows" "I", .fieldLink RX5 138 "SoapFilmModel" "spot" "I", .fieldLink RX5 117 "SoapFilmModel" "length" "I", .methodLink RX5 144 yX5_digits, .instanceMethod yX5_digits, .selects RX5 yX5_digits yX5_digits, .initialized RX5, .code yX5_digits cX5_digits 4 (some .int), .fieldLink RX5 19 "SoapFilmModel" "text" "[I", .methodLink RX5 141 yX5_isAt, .instanceMethod yX5_isAt, .selects RX5 yX5_isAt yX5_isAt, .code yX5_isAt cX5_isAt 3 (some .boolean), .methodLink RX5 26 yX5_in, .static yX5_in, .code yX5_in cX5_in 3 (some .boolean)] ++ wsX50)
def wsX5_reasonOfText : List Cond := .code yX5_reasonOfText cX5_reasonOfText 3 (some .int) :: ([.fieldLink RX5 138 "SoapFilmModel" "spot" "I", .fieldLink RX5 153 "SoapFilmModel" "from" "I", .fieldLink RX5 147 "SoapFilmModel" "itsThickness" "I", .fieldLink RX5 150 "SoapFilmModel" "itsRows" "I", .fieldLink RX5 117 "SoapFilmModel" "length" "I", .methodLink RX5 156 yX5_isFormed, .instanceMethod yX5_isFormed, .selects RX5 yX5_isFormed yX5_isFormed, .initialized RX5, .code yX5_isFormed cX5_isFormed 1 (some .boolean), .methodLink RX5 144 yX5_digits, .instanceMethod yX5_digits, .selects RX5 yX5_digits yX5_digits, .code yX5_digits cX5_digits 4 (some .int), .fieldLink RX5 19 "SoapFilmModel" "text" "[I", .methodLink RX5 141 yX5_isAt, .instanceMethod yX5_isAt, .selects RX5 yX5_isAt yX5_isAt, .code yX5_isAt cX5_isAt 3 (some .boolean), .methodLink RX5 26 yX5_in, .static yX5_in, .code yX5_in cX5_in 3 (some .boolean)] ++ wsX50)
def wsX5_fault_r1 : List Cond := [Cond.fieldLink RX5 153 "SoapFilmModel" "from" "I", Cond.methodLink RX5 26 yX5_in, Cond.static yX5_in, Cond.initialized RX5, Cond.code yX5_in cX5_in 3 (some .boolean), Cond.methodLink RX5 159 yX5_reasonOfText, Cond.instanceMethod yX5_reasonOfText, Cond.selects RX5 yX5_reasonOfText yX5_reasonOfText, Cond.code yX5_reasonOfText cX5_reasonOfText 3 (some .int), Cond.fieldLink RX5 138 "SoapFilmModel" "spot" "I", Cond.fieldLink RX5 147 "SoapFilmModel" "itsThickness" "I", Cond.fieldLink RX5 150 "SoapFilmModel" "itsRows" "I", Cond.fieldLink RX5 117 "SoapFilmModel" "length" "I", Cond.methodLink RX5 156 yX5_isFormed, Cond.instanceMethod yX5_isFormed, Cond.selects RX5 yX5_isFormed yX5_isFormed, Cond.code yX5_isFormed cX5_isFormed 1 (some .boolean), Cond.methodLink RX5 144 yX5_digits, Cond.instanceMethod yX5_digits, Cond.selects RX5 yX5_digits yX5_digits, Cond.code yX5_digits cX5_digits 4 (some .int), Cond.fieldLink RX5 19 "SoapFilmModel" "text" "[I", Cond.methodLink RX5 141 yX5_isAt, Cond.instanceMethod yX5_isAt]
def wsX5_fault_r2 : List Cond := [Cond.selects RX5 yX5_isAt yX5_isAt, Cond.code yX5_isAt cX5_isAt 3 (some .boolean)]
def wsX5_fault : List Cond := .code yX5_fault cX5_fault 3 (some .int) :: ((wsX5_fault_r1 ++ wsX5_fault_r2) ++ wsX50)
def wsX5_read_r1 : List Cond := [Cond.fieldLink RX5 138 "SoapFilmModel" "spot" "I", Cond.fieldLink RX5 117 "SoapFilmModel" "length" "I", Cond.fieldLink RX5 150 "SoapFilmModel" "itsRows" "I", Cond.fieldLink RX5 147 "SoapFilmModel" "itsThickness" "I", Cond.fieldLink RX5 7 "SoapFilmModel" "st" "[I", Cond.methodLink RX5 159 yX5_reasonOfText, Cond.instanceMethod yX5_reasonOfText, Cond.selects RX5 yX5_reasonOfText yX5_reasonOfText, Cond.initialized RX5, Cond.code yX5_reasonOfText cX5_reasonOfText 3 (some .int), Cond.fieldLink RX5 153 "SoapFilmModel" "from" "I", Cond.methodLink RX5 156 yX5_isFormed, Cond.instanceMethod yX5_isFormed, Cond.selects RX5 yX5_isFormed yX5_isFormed, Cond.code yX5_isFormed cX5_isFormed 1 (some .boolean), Cond.methodLink RX5 144 yX5_digits, Cond.instanceMethod yX5_digits, Cond.selects RX5 yX5_digits yX5_digits, Cond.code yX5_digits cX5_digits 4 (some .int), Cond.fieldLink RX5 19 "SoapFilmModel" "text" "[I", Cond.methodLink RX5 141 yX5_isAt, Cond.instanceMethod yX5_isAt, Cond.selects RX5 yX5_isAt yX5_isAt, Cond.code yX5_isAt cX5_isAt 3 (some .boolean)]
def wsX5_read_r2 : List Cond := [Cond.methodLink RX5 26 yX5_in, Cond.static yX5_in, Cond.code yX5_in cX5_in 3 (some .boolean), Cond.methodLink RX5 53 yX5_records, Cond.instanceMethod yX5_records, Cond.selects RX5 yX5_records yX5_records, Cond.code yX5_records cX5_records 2 none, Cond.fieldLink RX5 22 "SoapFilmModel" "pasts" "I", Cond.fieldLink RX5 13 "SoapFilmModel" "past" "[I", Cond.methodLink RX5 60 yX5_takesAway, Cond.instanceMethod yX5_takesAway, Cond.selects RX5 yX5_takesAway yX5_takesAway, Cond.code yX5_takesAway cX5_takesAway 1 none, Cond.methodLink RX5 56 yX5_liquid, Cond.instanceMethod yX5_liquid, Cond.selects RX5 yX5_liquid yX5_liquid, Cond.code yX5_liquid cX5_liquid 3 (some .int), Cond.methodLink RX5 63 yX5_newRow, Cond.instanceMethod yX5_newRow, Cond.selects RX5 yX5_newRow yX5_newRow, Cond.code yX5_newRow cX5_newRow 2 none]
def wsX5_read : List Cond := .code yX5_read cX5_read 2 (some .int) :: ((wsX5_read_r1 ++ wsX5_read_r2) ++ wsX50)
def wsJ9_max_7cf53 : List Cond := .code yJ9_max_7cf53 cJ9_max_7cf53 2 (some .int) :: ([])
def wsJ9_min_7cf53 : List Cond := .code yJ9_min_7cf53 cJ9_min_7cf53 2 (some .int) :: ([])
def wsL_law_r1 : List Cond := [Cond.classLink RL 7 RX4, Cond.instantiable RX4 4, Cond.initialized RX4, Cond.classLink RL 10 RX5, Cond.instantiable RX5 10, Cond.initialized RX5, Cond.methodLink RL 9 yX4_init, Cond.instanceMethod yX4_init, Cond.code yX4_init cX4_init 1 none, Cond.methodLink RX4 1 objectInit, Cond.instanceMethod objectInit, Cond.code objectInit ⟨#[0xb1]⟩ 1 none, Cond.classLink RX4 7 RX0, Cond.instantiable RX0 10, Cond.initialized RX0, Cond.fieldLink RX4 10 "SoapFilm" "film" "LSoapFilm$Film;", Cond.fieldLink RX4 16 "SoapFilm" "trial" "LSoapFilm$Film;", Cond.classLink RX4 19 RX2, Cond.instantiable RX2 2, Cond.initialized RX2, Cond.fieldLink RX4 22 "SoapFilm" "history" "LSoapFilm$History;", Cond.classLink RX4 26 RX1, Cond.instantiable RX1 6, Cond.initialized RX1]
def wsL_law_r2 : List Cond := [Cond.fieldLink RX4 29 "SoapFilm" "text" "LSoapFilm$FilmText;", Cond.methodLink RX4 9 yX0_init, Cond.instanceMethod yX0_init, Cond.code yX0_init cX0_init 1 none, Cond.methodLink RX0 3 objectInit, Cond.arrayClass .int, Cond.fieldLink RX0 9 "SoapFilm$Film" "thickness" "[I", Cond.fieldLink RX0 15 "SoapFilm$Film" "settings" "[I", Cond.fieldLink RX0 18 "SoapFilm$Film" "accounts" "[I", Cond.methodLink RX0 24 arraycopyName, Cond.native arraycopyName, Cond.static arraycopyName, Cond.initialized "java/lang/System", Cond.methodLink RX4 21 yX2_init, Cond.instanceMethod yX2_init, Cond.code yX2_init cX2_init 2 none, Cond.methodLink RX2 1 objectInit, Cond.classLink RX2 9 RX0, Cond.fieldLink RX2 11 "SoapFilm$History" "states" "[LSoapFilm$Film;", Cond.methodLink RX2 15 yX0_init, Cond.instanceMethod yX1_init, Cond.code yX1_init cX1_init 1 none, Cond.methodLink RX1 3 objectInit, Cond.arrayClass .char]
def wsL_law_r3 : List Cond := [Cond.fieldLink RX1 11 "SoapFilm$FilmText" "signs" "[C", Cond.fieldLink RX1 15 "SoapFilm$FilmText" "thickness" "[I", Cond.methodLink RL 12 yX5_init, Cond.instanceMethod yX5_init, Cond.code yX5_init cX5_init 1 none, Cond.methodLink RX5 1 objectInit, Cond.fieldLink RX5 7 "SoapFilmModel" "st" "[I", Cond.fieldLink RX5 13 "SoapFilmModel" "past" "[I", Cond.fieldLink RX5 16 "SoapFilmModel" "aside" "[I", Cond.fieldLink RX5 19 "SoapFilmModel" "text" "[I", Cond.methodLink RL 13 yX4_set, Cond.instanceMethod yX4_set, Cond.selects RX4 yX4_set yX4_set, Cond.code yX4_set cX4_set 4 (some .int), Cond.fieldLink RX4 33 "SoapFilm" "LEAST_SETTING" "[I", Cond.fieldLink RX4 37 "SoapFilm" "GREATEST_SETTING" "[I", Cond.fieldLink RX4 48 "SoapFilm$Film" "settings" "[I", Cond.methodLink RX4 40 yX4_isBetween, Cond.static yX4_isBetween, Cond.code yX4_isBetween cX4_isBetween 3 (some .boolean), Cond.methodLink RX4 44 yX2_keep, Cond.instanceMethod yX2_keep, Cond.selects RX2 yX2_keep yX2_keep, Cond.code yX2_keep cX2_keep 2 none]
def wsL_law_r4 : List Cond := [Cond.fieldLink RX2 16 "SoapFilm$History" "size" "I", Cond.methodLink RX2 20 yX2_dropOldest, Cond.instanceMethod yX2_dropOldest, Cond.selects RX2 yX2_dropOldest yX2_dropOldest, Cond.code yX2_dropOldest cX2_dropOldest 3 none, Cond.methodLink RX2 23 yX0_copyFrom, Cond.instanceMethod yX0_copyFrom, Cond.selects RX0 yX0_copyFrom yX0_copyFrom, Cond.code yX0_copyFrom cX0_copyFrom 2 none, Cond.fieldLink RX0 30 "SoapFilm$Film" "rows" "I", Cond.fieldLink RX0 34 "SoapFilm$Film" "ticks" "I", Cond.fieldLink RX0 37 "SoapFilm$Film" "drops" "I", Cond.fieldLink RX0 40 "SoapFilm$Film" "bursts" "I", Cond.fieldLink RX0 43 "SoapFilm$Film" "burstReason" "I", Cond.fieldLink RX0 46 "SoapFilm$Film" "burstNumber" "I", Cond.fieldLink RX0 49 "SoapFilm$Film" "ticksBeforeBurst" "I", Cond.methodLink RL 17 yX5_set, Cond.instanceMethod yX5_set, Cond.selects RX5 yX5_set yX5_set, Cond.code yX5_set cX5_set 4 (some .int), Cond.methodLink RX5 49 yX5_canBe, Cond.static yX5_canBe, Cond.code yX5_canBe cX5_canBe 2 (some .boolean), Cond.constant RX5 48 (100000)]
def wsL_law_r5 : List Cond := [Cond.methodLink RX5 26 yX5_in, Cond.static yX5_in, Cond.code yX5_in cX5_in 3 (some .boolean), Cond.methodLink RX5 53 yX5_records, Cond.instanceMethod yX5_records, Cond.selects RX5 yX5_records yX5_records, Cond.code yX5_records cX5_records 2 none, Cond.fieldLink RX5 22 "SoapFilmModel" "pasts" "I", Cond.methodLink RX5 34 yX5_of, Cond.instanceMethod yX5_of, Cond.selects RX5 yX5_of yX5_of, Cond.code yX5_of cX5_of 2 (some .int), Cond.methodLink RL 18 yX4_dip, Cond.instanceMethod yX4_dip, Cond.selects RX4 yX4_dip yX4_dip, Cond.code yX4_dip cX4_dip 5 (some .int), Cond.fieldLink RX4 62 "SoapFilm$Film" "accounts" "[I", Cond.methodLink RX4 51 yX4_isThickness, Cond.static yX4_isThickness, Cond.code yX4_isThickness cX4_isThickness 1 (some .boolean), Cond.methodLink RX4 55 yX0_takeAway, Cond.instanceMethod yX0_takeAway, Cond.selects RX0 yX0_takeAway yX0_takeAway, Cond.code yX0_takeAway cX0_takeAway 1 none]
def wsL_law_r6 : List Cond := [Cond.methodLink RX0 56 yX0_endFilm, Cond.instanceMethod yX0_endFilm, Cond.selects RX0 yX0_endFilm yX0_endFilm, Cond.code yX0_endFilm cX0_endFilm 2 none, Cond.methodLink RX0 59 yX0_move, Cond.instanceMethod yX0_move, Cond.selects RX0 yX0_move yX0_move, Cond.code yX0_move cX0_move 4 none, Cond.methodLink RX4 58 yX0_appendRow, Cond.instanceMethod yX0_appendRow, Cond.selects RX0 yX0_appendRow yX0_appendRow, Cond.code yX0_appendRow cX0_appendRow 2 none, Cond.methodLink RX0 52 yX0_bring, Cond.instanceMethod yX0_bring, Cond.selects RX0 yX0_bring yX0_bring, Cond.code yX0_bring cX0_bring 2 none, Cond.methodLink RL 22 yX5_dip, Cond.instanceMethod yX5_dip, Cond.selects RX5 yX5_dip yX5_dip, Cond.code yX5_dip cX5_dip 5 (some .int), Cond.methodLink RX5 60 yX5_takesAway, Cond.instanceMethod yX5_takesAway, Cond.selects RX5 yX5_takesAway yX5_takesAway, Cond.code yX5_takesAway cX5_takesAway 1 none]
def wsL_law_r7 : List Cond := [Cond.methodLink RX5 56 yX5_liquid, Cond.instanceMethod yX5_liquid, Cond.selects RX5 yX5_liquid yX5_liquid, Cond.code yX5_liquid cX5_liquid 3 (some .int), Cond.methodLink RX5 63 yX5_newRow, Cond.instanceMethod yX5_newRow, Cond.selects RX5 yX5_newRow yX5_newRow, Cond.code yX5_newRow cX5_newRow 2 none, Cond.methodLink RL 23 yX4_pour, Cond.instanceMethod yX4_pour, Cond.selects RX4 yX4_pour yX4_pour, Cond.code yX4_pour cX4_pour 3 (some .int), Cond.fieldLink RX4 68 "SoapFilm$Film" "thickness" "[I", Cond.methodLink RX4 65 yX0_hasRow, Cond.instanceMethod yX0_hasRow, Cond.selects RX0 yX0_hasRow yX0_hasRow, Cond.code yX0_hasRow cX0_hasRow 2 (some .boolean), Cond.methodLink RX4 71 yX0_bring, Cond.methodLink RL 26 yX5_pour, Cond.instanceMethod yX5_pour, Cond.selects RX5 yX5_pour yX5_pour, Cond.code yX5_pour cX5_pour 3 (some .int), Cond.methodLink RX5 67 yX5_isRow, Cond.instanceMethod yX5_isRow]
def wsL_law_r8 : List Cond := [Cond.selects RX5 yX5_isRow yX5_isRow, Cond.code yX5_isRow cX5_isRow 2 (some .boolean), Cond.methodLink RL 27 yX4_add, Cond.instanceMethod yX4_add, Cond.selects RX4 yX4_add yX4_add, Cond.code yX4_add cX4_add 2 (some .int), Cond.fieldLink RX4 74 "SoapFilm$Film" "rows" "I", Cond.methodLink RL 31 yX5_add, Cond.instanceMethod yX5_add, Cond.selects RX5 yX5_add yX5_add, Cond.code yX5_add cX5_add 2 (some .int), Cond.methodLink RL 32 yX4_thin, Cond.instanceMethod yX4_thin, Cond.selects RX4 yX4_thin yX4_thin, Cond.code yX4_thin cX4_thin 3 (some .int), Cond.methodLink RX4 78 yX0_loseFrom, Cond.instanceMethod yX0_loseFrom, Cond.selects RX0 yX0_loseFrom yX0_loseFrom, Cond.code yX0_loseFrom cX0_loseFrom 5 (some .int), Cond.methodLink RX0 63 Lib.Math.min.name, Cond.static Lib.Math.min.name, Cond.initialized "java/lang/Math", Cond.code Lib.Math.min.name Lib.Math.min.code 2 (some .int), Cond.methodLink RL 35 yX5_thin]
def wsL_law_r9 : List Cond := [Cond.instanceMethod yX5_thin, Cond.selects RX5 yX5_thin yX5_thin, Cond.code yX5_thin cX5_thin 4 (some .int), Cond.methodLink RX5 70 yX5_lesser, Cond.static yX5_lesser, Cond.code yX5_lesser cX5_lesser 2 (some .int), Cond.methodLink RL 36 yX4_cut, Cond.instanceMethod yX4_cut, Cond.selects RX4 yX4_cut yX4_cut, Cond.code yX4_cut cX4_cut 2 (some .int), Cond.methodLink RL 40 yX5_cut, Cond.instanceMethod yX5_cut, Cond.selects RX5 yX5_cut yX5_cut, Cond.code yX5_cut cX5_cut 1 (some .int), Cond.methodLink RL 41 yX4_go, Cond.instanceMethod yX4_go, Cond.selects RX4 yX4_go yX4_go, Cond.code yX4_go cX4_go 4 (some .int), Cond.fieldLink RX4 82 "SoapFilm$Film" "ticks" "I", Cond.constant RX4 85 (100000), Cond.methodLink RX4 86 yX0_tick, Cond.instanceMethod yX0_tick, Cond.selects RX0 yX0_tick yX0_tick, Cond.code yX0_tick cX0_tick 1 none]
def wsL_law_r10 : List Cond := [Cond.methodLink RX0 99 yX0_drain, Cond.instanceMethod yX0_drain, Cond.selects RX0 yX0_drain yX0_drain, Cond.code yX0_drain cX0_drain 4 none, Cond.constantLong RX0 114 (1000000), Cond.methodLink RX0 116 yX0_giveDown, Cond.instanceMethod yX0_giveDown, Cond.selects RX0 yX0_giveDown yX0_giveDown, Cond.code yX0_giveDown cX0_giveDown 5 none, Cond.methodLink RX0 120 yX0_loseFrom, Cond.methodLink RX0 102 yX0_runEdges, Cond.instanceMethod yX0_runEdges, Cond.selects RX0 yX0_runEdges yX0_runEdges, Cond.code yX0_runEdges cX0_runEdges 5 none, Cond.methodLink RX0 78 yX0_isBlack, Cond.instanceMethod yX0_isBlack, Cond.selects RX0 yX0_isBlack yX0_isBlack, Cond.code yX0_isBlack cX0_isBlack 2 (some .boolean), Cond.methodLink RX0 105 yX0_dry, Cond.instanceMethod yX0_dry, Cond.selects RX0 yX0_dry yX0_dry, Cond.code yX0_dry cX0_dry 2 none, Cond.methodLink RX0 108 yX0_letDropFall, Cond.instanceMethod yX0_letDropFall]
def wsL_law_r11 : List Cond := [Cond.selects RX0 yX0_letDropFall yX0_letDropFall, Cond.code yX0_letDropFall cX0_letDropFall 1 none, Cond.methodLink RX0 111 yX0_burstIfDue, Cond.instanceMethod yX0_burstIfDue, Cond.selects RX0 yX0_burstIfDue yX0_burstIfDue, Cond.code yX0_burstIfDue cX0_burstIfDue 3 none, Cond.methodLink RX0 124 yX0_firstTooThin, Cond.instanceMethod yX0_firstTooThin, Cond.selects RX0 yX0_firstTooThin yX0_firstTooThin, Cond.code yX0_firstTooThin cX0_firstTooThin 2 (some .int), Cond.methodLink RX0 128 yX0_blackRows, Cond.instanceMethod yX0_blackRows, Cond.selects RX0 yX0_blackRows yX0_blackRows, Cond.code yX0_blackRows cX0_blackRows 3 (some .int), Cond.methodLink RX0 131 yX0_burst, Cond.instanceMethod yX0_burst, Cond.selects RX0 yX0_burst yX0_burst, Cond.code yX0_burst cX0_burst 3 none, Cond.methodLink RL 44 yX5_go, Cond.instanceMethod yX5_go, Cond.selects RX5 yX5_go yX5_go, Cond.code yX5_go cX5_go 4 (some .int), Cond.methodLink RX5 95 yX5_tick, Cond.instanceMethod yX5_tick]
def wsL_law_r12 : List Cond := [Cond.selects RX5 yX5_tick yX5_tick, Cond.code yX5_tick cX5_tick 2 (some .boolean), Cond.methodLink RX5 92 yX5_changesFilm, Cond.instanceMethod yX5_changesFilm, Cond.selects RX5 yX5_changesFilm yX5_changesFilm, Cond.code yX5_changesFilm cX5_changesFilm 4 none, Cond.constantLong RX5 83 (1000000), Cond.methodLink RX5 85 yX5_gives, Cond.instanceMethod yX5_gives, Cond.selects RX5 yX5_gives yX5_gives, Cond.code yX5_gives cX5_gives 5 none, Cond.methodLink RX5 77 yX5_blackOnes, Cond.instanceMethod yX5_blackOnes, Cond.selects RX5 yX5_blackOnes yX5_blackOnes, Cond.code yX5_blackOnes cX5_blackOnes 3 (some .int), Cond.methodLink RX5 37 yX5_isBlack, Cond.instanceMethod yX5_isBlack, Cond.selects RX5 yX5_isBlack yX5_isBlack, Cond.code yX5_isBlack cX5_isBlack 2 (some .boolean), Cond.methodLink RX5 89 yX5_mayBurst, Cond.instanceMethod yX5_mayBurst, Cond.selects RX5 yX5_mayBurst yX5_mayBurst, Cond.code yX5_mayBurst cX5_mayBurst 2 none, Cond.methodLink RX5 73 yX5_bursts]
def wsL_law_r13 : List Cond := [Cond.instanceMethod yX5_bursts, Cond.selects RX5 yX5_bursts yX5_bursts, Cond.code yX5_bursts cX5_bursts 3 none, Cond.methodLink RX5 80 yX5_bits, Cond.static yX5_bits, Cond.code yX5_bits cX5_bits 3 (some .int), Cond.methodLink RL 45 yX4_undo, Cond.instanceMethod yX4_undo, Cond.selects RX4 yX4_undo yX4_undo, Cond.code yX4_undo cX4_undo 1 (some .int), Cond.fieldLink RX4 89 "SoapFilm$History" "size" "I", Cond.methodLink RX4 92 yX2_restore, Cond.instanceMethod yX2_restore, Cond.selects RX2 yX2_restore yX2_restore, Cond.code yX2_restore cX2_restore 2 none, Cond.methodLink RL 48 yX5_undo, Cond.instanceMethod yX5_undo, Cond.selects RX5 yX5_undo yX5_undo, Cond.code yX5_undo cX5_undo 2 (some .int), Cond.methodLink RL 49 yX4_row, Cond.instanceMethod yX4_row, Cond.selects RX4 yX4_row yX4_row, Cond.code yX4_row cX4_row 5 (some .int), Cond.methodLink RX4 95 yX3_path]
def wsL_law_r14 : List Cond := [Cond.static yX3_path, Cond.initialized RX3, Cond.code yX3_path cX3_path 1 (some .int), Cond.methodLink RX4 101 yX3_red, Cond.static yX3_red, Cond.code yX3_red cX3_red 1 (some .int), Cond.methodLink RX3 9 yX3_brightness, Cond.static yX3_brightness, Cond.code yX3_brightness cX3_brightness 2 (some .int), Cond.methodLink RX4 104 yX3_green, Cond.static yX3_green, Cond.code yX3_green cX3_green 1 (some .int), Cond.methodLink RX4 107 yX3_blue, Cond.static yX3_blue, Cond.code yX3_blue cX3_blue 1 (some .int), Cond.methodLink RX4 110 yX0_colourAt, Cond.instanceMethod yX0_colourAt, Cond.selects RX0 yX0_colourAt yX0_colourAt, Cond.code yX0_colourAt cX0_colourAt 2 (some .int), Cond.methodLink RX0 69 yX3_colour, Cond.static yX3_colour, Cond.code yX3_colour cX3_colour 4 (some .int), Cond.methodLink RX3 13 yX3_path, Cond.methodLink RX3 16 yX3_red]
def wsL_law_r15 : List Cond := [Cond.methodLink RX3 19 yX3_green, Cond.methodLink RX3 22 yX3_blue, Cond.methodLink RX4 113 yX3_order, Cond.static yX3_order, Cond.code yX3_order cX3_order 1 (some .int), Cond.methodLink RX4 116 yX0_isBlack, Cond.methodLink RL 52 yX5_row, Cond.instanceMethod yX5_row, Cond.selects RX5 yX5_row yX5_row, Cond.code yX5_row cX5_row 3 (some .int), Cond.methodLink RX5 99 yX5_valueOf, Cond.instanceMethod yX5_valueOf, Cond.selects RX5 yX5_valueOf yX5_valueOf, Cond.code yX5_valueOf cX5_valueOf 3 (some .int), Cond.methodLink RX5 30 yX5_path, Cond.static yX5_path, Cond.code yX5_path cX5_path 1 (some .int), Cond.methodLink RX5 41 yX5_brightness, Cond.static yX5_brightness, Cond.code yX5_brightness cX5_brightness 4 (some .int), Cond.methodLink RX5 45 yX5_colour, Cond.instanceMethod yX5_colour, Cond.selects RX5 yX5_colour yX5_colour, Cond.code yX5_colour cX5_colour 4 (some .int)]
def wsL_law_r16 : List Cond := [Cond.methodLink RL 53 yX4_count, Cond.instanceMethod yX4_count, Cond.selects RX4 yX4_count yX4_count, Cond.code yX4_count cX4_count 2 (some .int), Cond.fieldLink RX4 132 "SoapFilm$Film" "burstReason" "I", Cond.fieldLink RX4 135 "SoapFilm$Film" "bursts" "I", Cond.fieldLink RX4 138 "SoapFilm$Film" "burstNumber" "I", Cond.fieldLink RX4 141 "SoapFilm$Film" "ticksBeforeBurst" "I", Cond.fieldLink RX4 144 "SoapFilm$Film" "drops" "I", Cond.fieldLink RX4 147 "SoapFilm$FilmText" "length" "I", Cond.methodLink RX4 119 yX0_blackRows, Cond.methodLink RX4 123 yX0_fringes, Cond.instanceMethod yX0_fringes, Cond.selects RX0 yX0_fringes yX0_fringes, Cond.code yX0_fringes cX0_fringes 3 (some .int), Cond.methodLink RX0 82 yX0_startsColour, Cond.instanceMethod yX0_startsColour, Cond.selects RX0 yX0_startsColour yX0_startsColour, Cond.code yX0_startsColour cX0_startsColour 2 (some .boolean), Cond.methodLink RX0 74 yX0_colourAt, Cond.methodLink RX4 126 yX0_differentColours, Cond.instanceMethod yX0_differentColours, Cond.selects RX0 yX0_differentColours yX0_differentColours, Cond.code yX0_differentColours cX0_differentColours 3 (some .int)]
def wsL_law_r17 : List Cond := [Cond.methodLink RX0 85 yJ6_bitCount_0f7a4, Cond.static yJ6_bitCount_0f7a4, Cond.initialized RJ6, Cond.code yJ6_bitCount_0f7a4 cJ6_bitCount_0f7a4 1 (some .int), Cond.constant RJ6 265 (1431655765), Cond.constant RJ6 266 (858993459), Cond.constant RJ6 267 (252645135), Cond.methodLink RX4 129 yX0_greatestOrder, Cond.instanceMethod yX0_greatestOrder, Cond.selects RX0 yX0_greatestOrder yX0_greatestOrder, Cond.code yX0_greatestOrder cX0_greatestOrder 3 (some .int), Cond.methodLink RX0 96 Lib.Math.max.name, Cond.static Lib.Math.max.name, Cond.code Lib.Math.max.name Lib.Math.max.code 2 (some .int), Cond.methodLink RX0 90 yX3_path, Cond.methodLink RX0 93 yX3_order, Cond.methodLink RL 56 yX5_count, Cond.instanceMethod yX5_count, Cond.selects RX5 yX5_count yX5_count, Cond.code yX5_count cX5_count 2 (some .int), Cond.fieldLink RX5 117 "SoapFilmModel" "length" "I", Cond.methodLink RX5 105 yX5_runsTo, Cond.instanceMethod yX5_runsTo, Cond.selects RX5 yX5_runsTo yX5_runsTo]
def wsL_law_r18 : List Cond := [Cond.code yX5_runsTo cX5_runsTo 4 (some .int), Cond.methodLink RX5 102 yX5_colourAt, Cond.instanceMethod yX5_colourAt, Cond.selects RX5 yX5_colourAt yX5_colourAt, Cond.code yX5_colourAt cX5_colourAt 2 (some .int), Cond.methodLink RX5 108 yX5_colours, Cond.instanceMethod yX5_colours, Cond.selects RX5 yX5_colours yX5_colours, Cond.code yX5_colours cX5_colours 3 (some .int), Cond.methodLink RX5 111 yX5_greatestOrder, Cond.instanceMethod yX5_greatestOrder, Cond.selects RX5 yX5_greatestOrder yX5_greatestOrder, Cond.code yX5_greatestOrder cX5_greatestOrder 4 (some .int), Cond.methodLink RX5 114 yX5_ofBurst, Cond.instanceMethod yX5_ofBurst, Cond.selects RX5 yX5_ofBurst yX5_ofBurst, Cond.code yX5_ofBurst cX5_ofBurst 2 (some .int), Cond.methodLink RX5 120 yX5_account, Cond.instanceMethod yX5_account, Cond.selects RX5 yX5_account yX5_account, Cond.code yX5_account cX5_account 2 (some .int), Cond.methodLink RL 57 yX4_ladder, Cond.instanceMethod yX4_ladder, Cond.selects RX4 yX4_ladder yX4_ladder]
def wsL_law_r19 : List Cond := [Cond.code yX4_ladder cX4_ladder 4 (some .int), Cond.methodLink RX4 150 yX0_startsColour, Cond.methodLink RL 60 yX5_ladder, Cond.instanceMethod yX5_ladder, Cond.selects RX5 yX5_ladder yX5_ladder, Cond.code yX5_ladder cX5_ladder 3 (some .int), Cond.methodLink RL 61 yX4_find, Cond.instanceMethod yX4_find, Cond.selects RX4 yX4_find yX4_find, Cond.code yX4_find cX4_find 4 (some .int), Cond.methodLink RX4 153 yX4_isColour, Cond.static yX4_isColour, Cond.code yX4_isColour cX4_isColour 1 (some .boolean), Cond.methodLink RL 64 yX5_find, Cond.instanceMethod yX5_find, Cond.selects RX5 yX5_find yX5_find, Cond.code yX5_find cX5_find 4 (some .int), Cond.methodLink RX5 123 yX5_isColour, Cond.static yX5_isColour, Cond.code yX5_isColour cX5_isColour 1 (some .boolean), Cond.methodLink RL 65 yX4_colourOf, Cond.instanceMethod yX4_colourOf, Cond.selects RX4 yX4_colourOf yX4_colourOf, Cond.code yX4_colourOf cX4_colourOf 2 (some .int)]
def wsL_law_r20 : List Cond := [Cond.methodLink RX4 156 yX3_colour, Cond.methodLink RL 68 yX5_colourOf, Cond.instanceMethod yX5_colourOf, Cond.selects RX5 yX5_colourOf yX5_colourOf, Cond.code yX5_colourOf cX5_colourOf 2 (some .int), Cond.methodLink RL 69 yX4_thicknessFor, Cond.instanceMethod yX4_thicknessFor, Cond.selects RX4 yX4_thicknessFor yX4_thicknessFor, Cond.code yX4_thicknessFor cX4_thicknessFor 4 (some .int), Cond.methodLink RL 72 yX5_thicknessFor, Cond.instanceMethod yX5_thicknessFor, Cond.selects RX5 yX5_thicknessFor yX5_thicknessFor, Cond.code yX5_thicknessFor cX5_thicknessFor 4 (some .int), Cond.methodLink RL 73 yX4_until, Cond.instanceMethod yX4_until, Cond.selects RX4 yX4_until yX4_until, Cond.code yX4_until cX4_until 4 (some .int), Cond.methodLink RX4 160 yX4_isQuestion, Cond.static yX4_isQuestion, Cond.code yX4_isQuestion cX4_isQuestion 2 (some .boolean), Cond.methodLink RX4 164 yX0_copyFrom, Cond.methodLink RX4 167 yX4_isSo, Cond.instanceMethod yX4_isSo, Cond.selects RX4 yX4_isSo yX4_isSo]
def wsL_law_r21 : List Cond := [Cond.code yX4_isSo cX4_isSo 3 (some .boolean), Cond.methodLink RL 76 yX5_until, Cond.instanceMethod yX5_until, Cond.selects RX5 yX5_until yX5_until, Cond.code yX5_until cX5_until 6 (some .int), Cond.methodLink RX5 126 yX5_isQuestion, Cond.static yX5_isQuestion, Cond.code yX5_isQuestion cX5_isQuestion 2 (some .boolean), Cond.methodLink RX5 129 yX5_laysAside, Cond.instanceMethod yX5_laysAside, Cond.selects RX5 yX5_laysAside yX5_laysAside, Cond.code yX5_laysAside cX5_laysAside 2 none, Cond.methodLink RX5 132 yX5_isSo, Cond.instanceMethod yX5_isSo, Cond.selects RX5 yX5_isSo yX5_isSo, Cond.code yX5_isSo cX5_isSo 3 (some .boolean), Cond.methodLink RX5 135 yX5_bringsBack, Cond.instanceMethod yX5_bringsBack, Cond.selects RX5 yX5_bringsBack yX5_bringsBack, Cond.code yX5_bringsBack cX5_bringsBack 2 none, Cond.methodLink RL 77 yX4_ifGo, Cond.instanceMethod yX4_ifGo, Cond.selects RX4 yX4_ifGo yX4_ifGo, Cond.code yX4_ifGo cX4_ifGo 4 (some .int)]
def wsL_law_r22 : List Cond := [Cond.methodLink RL 80 yX5_ifGo, Cond.instanceMethod yX5_ifGo, Cond.selects RX5 yX5_ifGo yX5_ifGo, Cond.code yX5_ifGo cX5_ifGo 5 (some .int), Cond.methodLink RL 81 yX4_type, Cond.instanceMethod yX4_type, Cond.selects RX4 yX4_type yX4_type, Cond.code yX4_type cX4_type 2 (some .int), Cond.methodLink RX4 170 yX1_append, Cond.instanceMethod yX1_append, Cond.selects RX1 yX1_append yX1_append, Cond.code yX1_append cX1_append 2 none, Cond.fieldLink RX1 19 "SoapFilm$FilmText" "length" "I", Cond.methodLink RL 84 yX5_type, Cond.instanceMethod yX5_type, Cond.selects RX5 yX5_type yX5_type, Cond.code yX5_type cX5_type 2 (some .int), Cond.methodLink RL 85 yX4_clearText, Cond.instanceMethod yX4_clearText, Cond.selects RX4 yX4_clearText yX4_clearText, Cond.code yX4_clearText cX4_clearText 2 (some .int), Cond.methodLink RL 88 yX5_clearText, Cond.instanceMethod yX5_clearText, Cond.selects RX5 yX5_clearText yX5_clearText]
def wsL_law_r23 : List Cond := [Cond.code yX5_clearText cX5_clearText 2 (some .int), Cond.methodLink RL 89 yX4_fault, Cond.instanceMethod yX4_fault, Cond.selects RX4 yX4_fault yX4_fault, Cond.code yX4_fault cX4_fault 2 (some .int), Cond.fieldLink RX4 177 "SoapFilm$FilmText" "reason" "I", Cond.fieldLink RX4 180 "SoapFilm$FilmText" "position" "I", Cond.methodLink RX4 174 yX1_parse, Cond.instanceMethod yX1_parse, Cond.selects RX1 yX1_parse yX1_parse, Cond.code yX1_parse cX1_parse 3 none, Cond.fieldLink RX1 23 "SoapFilm$FilmText" "rows" "I", Cond.fieldLink RX1 26 "SoapFilm$FilmText" "reason" "I", Cond.fieldLink RX1 29 "SoapFilm$FilmText" "position" "I", Cond.methodLink RX1 32 yX1_takePart, Cond.instanceMethod yX1_takePart, Cond.selects RX1 yX1_takePart yX1_takePart, Cond.code yX1_takePart cX1_takePart 7 (some .int), Cond.methodLink RX1 36 yX1_findCross, Cond.instanceMethod yX1_findCross, Cond.selects RX1 yX1_findCross yX1_findCross, Cond.code yX1_findCross cX1_findCross 4 (some .int), Cond.methodLink RX1 39 yX1_number, Cond.instanceMethod yX1_number]
def wsL_law_r24 : List Cond := [Cond.selects RX1 yX1_number yX1_number, Cond.code yX1_number cX1_number 6 (some .int), Cond.methodLink RL 92 yX5_fault, Cond.instanceMethod yX5_fault, Cond.selects RX5 yX5_fault yX5_fault, Cond.code yX5_fault cX5_fault 3 (some .int), Cond.fieldLink RX5 153 "SoapFilmModel" "from" "I", Cond.methodLink RX5 159 yX5_reasonOfText, Cond.instanceMethod yX5_reasonOfText, Cond.selects RX5 yX5_reasonOfText yX5_reasonOfText, Cond.code yX5_reasonOfText cX5_reasonOfText 3 (some .int), Cond.fieldLink RX5 138 "SoapFilmModel" "spot" "I", Cond.fieldLink RX5 147 "SoapFilmModel" "itsThickness" "I", Cond.fieldLink RX5 150 "SoapFilmModel" "itsRows" "I", Cond.methodLink RX5 156 yX5_isFormed, Cond.instanceMethod yX5_isFormed, Cond.selects RX5 yX5_isFormed yX5_isFormed, Cond.code yX5_isFormed cX5_isFormed 1 (some .boolean), Cond.methodLink RX5 144 yX5_digits, Cond.instanceMethod yX5_digits, Cond.selects RX5 yX5_digits yX5_digits, Cond.code yX5_digits cX5_digits 4 (some .int), Cond.methodLink RX5 141 yX5_isAt, Cond.instanceMethod yX5_isAt]
def wsL_law_r25 : List Cond := [Cond.selects RX5 yX5_isAt yX5_isAt, Cond.code yX5_isAt cX5_isAt 3 (some .boolean), Cond.methodLink RL 93 yX4_read, Cond.instanceMethod yX4_read, Cond.selects RX4 yX4_read yX4_read, Cond.code yX4_read cX4_read 2 (some .int), Cond.fieldLink RX4 183 "SoapFilm$FilmText" "rows" "I", Cond.fieldLink RX4 184 "SoapFilm$FilmText" "thickness" "[I", Cond.methodLink RL 96 yX5_read, Cond.instanceMethod yX5_read, Cond.selects RX5 yX5_read yX5_read, Cond.code yX5_read cX5_read 2 (some .int)]
def wsL_law : List Cond := (wsL_law_r1 ++ (wsL_law_r2 ++ (wsL_law_r3 ++ (wsL_law_r4 ++ (wsL_law_r5 ++ (wsL_law_r6 ++ (wsL_law_r7 ++ (wsL_law_r8 ++ (wsL_law_r9 ++ (wsL_law_r10 ++ (wsL_law_r11 ++ (wsL_law_r12 ++ (wsL_law_r13 ++ (wsL_law_r14 ++ (wsL_law_r15 ++ (wsL_law_r16 ++ (wsL_law_r17 ++ (wsL_law_r18 ++ (wsL_law_r19 ++ (wsL_law_r20 ++ (wsL_law_r21 ++ (wsL_law_r22 ++ (wsL_law_r23 ++ (wsL_law_r24 ++ wsL_law_r25)))))))))))))))))))))))) ++ wsX40 ++ wsX50 ++ wsX00 ++ wsX20 ++ wsX10 ++ ([] : List Cond)
theorem mem_r {big : List Cond} (ws : List Cond) (ps : List Nat) (hp : ws = ps.filterMap (fun i => big[i]?)) : ∀ w ∈ ws, w ∈ big := by
  intro w hw
  rw [hp] at hw
  obtain ⟨i, -, hi⟩ := List.mem_filterMap.mp hw
  first | exact List.mem_of_getElem? hi | exact List.getElem?_mem hi
theorem mem_app {big a b : List Cond} (ha : ∀ w ∈ a, w ∈ big) (hb : ∀ w ∈ b, w ∈ big) : ∀ w ∈ a ++ b, w ∈ big := fun w h => (List.mem_append.mp h).elim (ha w) (hb w)
set_option maxRecDepth 20000 in
theorem wsL_law_r1_in : ∀ w ∈ wsL_law_r1, w ∈ lw_tbl := mem_r wsL_law_r1 [53, 54, 44, 454, 455, 49, 55, 56, 57, 58, 59, 60, 61, 62, 45, 162, 163, 114, 115, 47, 164, 131, 132, 48] (by decide +kernel)
set_option maxRecDepth 20000 in
theorem wsL_law_r2_in : ∀ w ∈ wsL_law_r2, w ∈ lw_tbl := mem_r wsL_law_r2 [165, 63, 64, 65, 66, 113, 72, 74, 76, 69, 71, 70, 46, 116, 117, 118, 119, 120, 123, 122, 134, 135, 136, 161] (by decide +kernel)
set_option maxRecDepth 20000 in
theorem wsL_law_r3_in : ∀ w ∈ wsL_law_r3, w ∈ lw_tbl := mem_r wsL_law_r3 [137, 140, 456, 457, 458, 459, 460, 461, 462, 464, 175, 176, 177, 178, 179, 181, 75, 183, 184, 185, 186, 187, 188, 189] (by decide +kernel)
set_option maxRecDepth 20000 in
theorem wsL_law_r4_in : ∀ w ∈ wsL_law_r4, w ∈ lw_tbl := mem_r wsL_law_r4 [124, 190, 192, 0, 193, 194, 195, 196, 197, 78, 80, 82, 84, 86, 88, 90, 495, 496, 497, 498, 499, 500, 501, 505] (by decide +kernel)
set_option maxRecDepth 20000 in
theorem wsL_law_r5_in : ∀ w ∈ wsL_law_r5, w ∈ lw_tbl := mem_r wsL_law_r5 [502, 503, 504, 506, 508, 15, 509, 463, 510, 512, 16, 513, 198, 199, 200, 201, 77, 202, 203, 204, 205, 206, 207, 208] (by decide +kernel)
set_option maxRecDepth 20000 in
theorem wsL_law_r6_in : ∀ w ∈ wsL_law_r6, w ∈ lw_tbl := mem_r wsL_law_r6 [209, 211, 1, 212, 213, 215, 2, 216, 217, 218, 219, 220, 221, 222, 223, 224, 514, 515, 516, 517, 518, 520, 17, 521] (by decide +kernel)
set_option maxRecDepth 20000 in
theorem wsL_law_r7_in : ∀ w ∈ wsL_law_r7, w ∈ lw_tbl := mem_r wsL_law_r7 [522, 524, 18, 525, 526, 528, 19, 529, 225, 226, 227, 228, 73, 229, 230, 231, 232, 233, 530, 531, 532, 533, 534, 536] (by decide +kernel)
set_option maxRecDepth 20000 in
theorem wsL_law_r8_in : ∀ w ∈ wsL_law_r8, w ∈ lw_tbl := mem_r wsL_law_r8 [20, 537, 234, 235, 236, 237, 79, 538, 539, 540, 541, 238, 239, 240, 241, 242, 243, 244, 245, 246, 247, 50, 248, 542] (by decide +kernel)
set_option maxRecDepth 20000 in
theorem wsL_law_r9_in : ∀ w ∈ wsL_law_r9, w ∈ lw_tbl := mem_r wsL_law_r9 [543, 544, 545, 546, 547, 548, 249, 250, 251, 252, 549, 550, 551, 552, 253, 254, 255, 256, 81, 257, 258, 259, 260, 261] (by decide +kernel)
set_option maxRecDepth 20000 in
theorem wsL_law_r10_in : ∀ w ∈ wsL_law_r10, w ∈ lw_tbl := mem_r wsL_law_r10 [262, 264, 3, 265, 266, 267, 269, 4, 270, 271, 272, 274, 5, 275, 276, 277, 278, 279, 280, 282, 6, 283, 284, 286] (by decide +kernel)
set_option maxRecDepth 20000 in
theorem wsL_law_r11_in : ∀ w ∈ wsL_law_r11, w ∈ lw_tbl := mem_r wsL_law_r11 [7, 287, 288, 290, 8, 291, 292, 294, 9, 295, 296, 297, 298, 299, 300, 302, 10, 303, 553, 554, 555, 556, 557, 559] (by decide +kernel)
set_option maxRecDepth 20000 in
theorem wsL_law_r12_in : ∀ w ∈ wsL_law_r12, w ∈ lw_tbl := mem_r wsL_law_r12 [21, 560, 561, 563, 22, 564, 565, 566, 568, 23, 569, 570, 572, 24, 573, 574, 576, 25, 577, 578, 580, 26, 581, 582] (by decide +kernel)
set_option maxRecDepth 20000 in
theorem wsL_law_r13_in : ∀ w ∈ wsL_law_r13, w ∈ lw_tbl := mem_r wsL_law_r13 [584, 27, 585, 586, 587, 588, 304, 305, 306, 307, 125, 308, 309, 310, 311, 491, 492, 493, 494, 312, 313, 314, 315, 316] (by decide +kernel)
set_option maxRecDepth 20000 in
theorem wsL_law_r14_in : ∀ w ∈ wsL_law_r14, w ∈ lw_tbl := mem_r wsL_law_r14 [317, 51, 318, 319, 320, 321, 322, 323, 324, 325, 326, 327, 328, 329, 330, 331, 332, 333, 334, 335, 336, 337, 338, 339] (by decide +kernel)
set_option maxRecDepth 20000 in
theorem wsL_law_r15_in : ∀ w ∈ wsL_law_r15, w ∈ lw_tbl := mem_r wsL_law_r15 [340, 341, 342, 343, 344, 345, 589, 590, 591, 592, 593, 595, 28, 596, 597, 598, 599, 600, 601, 602, 603, 605, 29, 606] (by decide +kernel)
set_option maxRecDepth 20000 in
theorem wsL_law_r16_in : ∀ w ∈ wsL_law_r16, w ∈ lw_tbl := mem_r wsL_law_r16 [346, 347, 348, 349, 87, 85, 89, 91, 83, 139, 350, 351, 352, 353, 354, 355, 356, 357, 358, 359, 360, 361, 362, 363] (by decide +kernel)
set_option maxRecDepth 20000 in
theorem wsL_law_r17_in : ∀ w ∈ wsL_law_r17, w ∈ lw_tbl := mem_r wsL_law_r17 [364, 365, 52, 366, 367, 368, 369, 370, 371, 372, 373, 376, 377, 378, 374, 375, 607, 608, 609, 610, 465, 611, 613, 30] (by decide +kernel)
set_option maxRecDepth 20000 in
theorem wsL_law_r18_in : ∀ w ∈ wsL_law_r18, w ∈ lw_tbl := mem_r wsL_law_r18 [614, 615, 617, 31, 618, 619, 621, 32, 622, 623, 625, 33, 626, 627, 629, 34, 630, 631, 633, 35, 634, 379, 380, 381] (by decide +kernel)
set_option maxRecDepth 20000 in
theorem wsL_law_r19_in : ∀ w ∈ wsL_law_r19, w ∈ lw_tbl := mem_r wsL_law_r19 [382, 383, 635, 636, 637, 638, 384, 385, 386, 387, 388, 389, 390, 639, 640, 641, 642, 643, 644, 645, 391, 392, 393, 394] (by decide +kernel)
set_option maxRecDepth 20000 in
theorem wsL_law_r20_in : ∀ w ∈ wsL_law_r20, w ∈ lw_tbl := mem_r wsL_law_r20 [395, 646, 647, 648, 649, 396, 397, 398, 399, 650, 651, 652, 653, 400, 401, 402, 403, 404, 405, 406, 407, 408, 410, 11] (by decide +kernel)
set_option maxRecDepth 20000 in
theorem wsL_law_r21_in : ∀ w ∈ wsL_law_r21, w ∈ lw_tbl := mem_r wsL_law_r21 [411, 654, 655, 656, 657, 658, 659, 660, 661, 663, 36, 664, 665, 667, 37, 668, 669, 671, 38, 672, 412, 413, 414, 415] (by decide +kernel)
set_option maxRecDepth 20000 in
theorem wsL_law_r22_in : ∀ w ∈ wsL_law_r22, w ∈ lw_tbl := mem_r wsL_law_r22 [673, 674, 675, 676, 416, 417, 418, 419, 420, 421, 422, 423, 138, 677, 678, 679, 680, 424, 425, 426, 427, 681, 682, 683] (by decide +kernel)
set_option maxRecDepth 20000 in
theorem wsL_law_r23_in : ∀ w ∈ wsL_law_r23, w ∈ lw_tbl := mem_r wsL_law_r23 [684, 428, 429, 430, 431, 147, 145, 432, 433, 434, 435, 142, 146, 144, 436, 438, 12, 439, 440, 442, 13, 443, 444, 446] (by decide +kernel)
set_option maxRecDepth 20000 in
theorem wsL_law_r24_in : ∀ w ∈ wsL_law_r24, w ∈ lw_tbl := mem_r wsL_law_r24 [14, 447, 685, 686, 687, 688, 469, 689, 691, 39, 692, 466, 467, 468, 693, 695, 40, 696, 697, 699, 41, 700, 701, 703] (by decide +kernel)
set_option maxRecDepth 20000 in
theorem wsL_law_r25_in : ∀ w ∈ wsL_law_r25, w ∈ lw_tbl := mem_r wsL_law_r25 [42, 704, 450, 451, 452, 453, 143, 141, 705, 706, 707, 708] (by decide +kernel)
set_option maxRecDepth 20000 in
theorem wsX40_mm : ∀ w ∈ wsX40, w ∈ lw_tbl := by decide +kernel
set_option maxRecDepth 20000 in
theorem wsX50_mm : ∀ w ∈ wsX50, w ∈ lw_tbl := by decide +kernel
set_option maxRecDepth 20000 in
theorem wsX00_mm : ∀ w ∈ wsX00, w ∈ lw_tbl := by decide +kernel
set_option maxRecDepth 20000 in
theorem wsX20_mm : ∀ w ∈ wsX20, w ∈ lw_tbl := by decide +kernel
set_option maxRecDepth 20000 in
theorem wsX10_mm : ∀ w ∈ wsX10, w ∈ lw_tbl := by decide +kernel
theorem wsL_law_in : ∀ w ∈ wsL_law, w ∈ lw_tbl := mem_app (mem_app (mem_app (mem_app (mem_app (mem_app (mem_app wsL_law_r1_in (mem_app wsL_law_r2_in (mem_app wsL_law_r3_in (mem_app wsL_law_r4_in (mem_app wsL_law_r5_in (mem_app wsL_law_r6_in (mem_app wsL_law_r7_in (mem_app wsL_law_r8_in (mem_app wsL_law_r9_in (mem_app wsL_law_r10_in (mem_app wsL_law_r11_in (mem_app wsL_law_r12_in (mem_app wsL_law_r13_in (mem_app wsL_law_r14_in (mem_app wsL_law_r15_in (mem_app wsL_law_r16_in (mem_app wsL_law_r17_in (mem_app wsL_law_r18_in (mem_app wsL_law_r19_in (mem_app wsL_law_r20_in (mem_app wsL_law_r21_in (mem_app wsL_law_r22_in (mem_app wsL_law_r23_in (mem_app wsL_law_r24_in (wsL_law_r25_in))))))))))))))))))))))))) wsX40_mm) wsX50_mm) wsX00_mm) wsX20_mm) wsX10_mm) (fun w h => absurd h List.not_mem_nil)
theorem inlX0 : ∀ w ∈ wsX00, w ∈ wsL_law := fun _ h => List.mem_append_left _ (List.mem_append_left _ (List.mem_append_left _ (List.mem_append_right _ h)))
theorem inX0 : ∀ w ∈ wsX00, w ∈ lw_tbl := fun w h => wsL_law_in w (inlX0 w h)
theorem inlX1 : ∀ w ∈ wsX10, w ∈ wsL_law := fun _ h => List.mem_append_left _ (List.mem_append_right _ h)
theorem inX1 : ∀ w ∈ wsX10, w ∈ lw_tbl := fun w h => wsL_law_in w (inlX1 w h)
theorem inlX2 : ∀ w ∈ wsX20, w ∈ wsL_law := fun _ h => List.mem_append_left _ (List.mem_append_left _ (List.mem_append_right _ h))
theorem inX2 : ∀ w ∈ wsX20, w ∈ lw_tbl := fun w h => wsL_law_in w (inlX2 w h)
theorem inX3 : ∀ w ∈ wsX30, w ∈ lw_tbl := by decide +kernel
theorem inlX4 : ∀ w ∈ wsX40, w ∈ wsL_law := fun _ h => List.mem_append_left _ (List.mem_append_left _ (List.mem_append_left _ (List.mem_append_left _ (List.mem_append_left _ (List.mem_append_right _ h)))))
theorem inX4 : ∀ w ∈ wsX40, w ∈ lw_tbl := fun w h => wsL_law_in w (inlX4 w h)
theorem inlX5 : ∀ w ∈ wsX50, w ∈ wsL_law := fun _ h => List.mem_append_left _ (List.mem_append_left _ (List.mem_append_left _ (List.mem_append_left _ (List.mem_append_right _ h))))
theorem inX5 : ∀ w ∈ wsX50, w ∈ lw_tbl := fun w h => wsL_law_in w (inlX5 w h)
theorem inJ6 : ∀ w ∈ wsJ60, w ∈ lw_tbl := by decide +kernel
theorem inJ9 : ∀ w ∈ wsJ90, w ∈ lw_tbl := by decide +kernel
theorem inJ10 : ∀ w ∈ wsJ100, w ∈ lw_tbl := by decide +kernel
theorem dX0_init_0 : decode cX0_init 0 = .ok (.aload_n 0, 1) := by decide +kernel
theorem dX0_init_1 : decode cX0_init 1 = .ok (.invokespecial 3, 3) := by decide +kernel
theorem dX0_init_4 : decode cX0_init 4 = .ok (.aload_n 0, 1) := by decide +kernel
theorem dX0_init_5 : decode cX0_init 5 = .ok (.bipush 24, 2) := by decide +kernel
theorem dX0_init_7 : decode cX0_init 7 = .ok (.newarray .int, 2) := by decide +kernel
theorem dX0_init_9 : decode cX0_init 9 = .ok (.putfield 9, 3) := by decide +kernel
theorem dX0_init_12 : decode cX0_init 12 = .ok (.aload_n 0, 1) := by decide +kernel
theorem dX0_init_13 : decode cX0_init 13 = .ok (.bipush 7, 2) := by decide +kernel
theorem dX0_init_15 : decode cX0_init 15 = .ok (.newarray .int, 2) := by decide +kernel
theorem dX0_init_17 : decode cX0_init 17 = .ok (.putfield 15, 3) := by decide +kernel
theorem dX0_init_20 : decode cX0_init 20 = .ok (.aload_n 0, 1) := by decide +kernel
theorem dX0_init_21 : decode cX0_init 21 = .ok (.bipush 7, 2) := by decide +kernel
theorem dX0_init_23 : decode cX0_init 23 = .ok (.newarray .int, 2) := by decide +kernel
theorem dX0_init_25 : decode cX0_init 25 = .ok (.putfield 18, 3) := by decide +kernel
theorem dX0_init_28 : decode cX0_init 28 = .ok (.getstatic 21, 3) := by decide +kernel
theorem dX0_init_31 : decode cX0_init 31 = .ok (.iconst 0, 1) := by decide +kernel
theorem dX0_init_32 : decode cX0_init 32 = .ok (.aload_n 0, 1) := by decide +kernel
theorem dX0_init_33 : decode cX0_init 33 = .ok (.getfield 15, 3) := by decide +kernel
theorem dX0_init_36 : decode cX0_init 36 = .ok (.iconst 0, 1) := by decide +kernel
theorem dX0_init_37 : decode cX0_init 37 = .ok (.bipush 7, 2) := by decide +kernel
theorem dX0_init_39 : decode cX0_init 39 = .ok (.invokestatic 24, 3) := by decide +kernel
theorem dX0_init_42 : decode cX0_init 42 = .ok (.return_, 1) := by decide +kernel
theorem dX0_copyFrom_0 : decode cX0_copyFrom 0 = .ok (.aload_n 1, 1) := by decide +kernel
theorem dX0_copyFrom_1 : decode cX0_copyFrom 1 = .ok (.getfield 9, 3) := by decide +kernel
theorem dX0_copyFrom_4 : decode cX0_copyFrom 4 = .ok (.iconst 0, 1) := by decide +kernel
theorem dX0_copyFrom_5 : decode cX0_copyFrom 5 = .ok (.aload_n 0, 1) := by decide +kernel
theorem dX0_copyFrom_6 : decode cX0_copyFrom 6 = .ok (.getfield 9, 3) := by decide +kernel
theorem dX0_copyFrom_9 : decode cX0_copyFrom 9 = .ok (.iconst 0, 1) := by decide +kernel
theorem dX0_copyFrom_10 : decode cX0_copyFrom 10 = .ok (.bipush 24, 2) := by decide +kernel
theorem dX0_copyFrom_12 : decode cX0_copyFrom 12 = .ok (.invokestatic 24, 3) := by decide +kernel
theorem dX0_copyFrom_15 : decode cX0_copyFrom 15 = .ok (.aload_n 1, 1) := by decide +kernel
theorem dX0_copyFrom_16 : decode cX0_copyFrom 16 = .ok (.getfield 15, 3) := by decide +kernel
theorem dX0_copyFrom_19 : decode cX0_copyFrom 19 = .ok (.iconst 0, 1) := by decide +kernel
theorem dX0_copyFrom_20 : decode cX0_copyFrom 20 = .ok (.aload_n 0, 1) := by decide +kernel
theorem dX0_copyFrom_21 : decode cX0_copyFrom 21 = .ok (.getfield 15, 3) := by decide +kernel
theorem dX0_copyFrom_24 : decode cX0_copyFrom 24 = .ok (.iconst 0, 1) := by decide +kernel
theorem dX0_copyFrom_25 : decode cX0_copyFrom 25 = .ok (.bipush 7, 2) := by decide +kernel
theorem dX0_copyFrom_27 : decode cX0_copyFrom 27 = .ok (.invokestatic 24, 3) := by decide +kernel
theorem dX0_copyFrom_30 : decode cX0_copyFrom 30 = .ok (.aload_n 1, 1) := by decide +kernel
theorem dX0_copyFrom_31 : decode cX0_copyFrom 31 = .ok (.getfield 18, 3) := by decide +kernel
theorem dX0_copyFrom_34 : decode cX0_copyFrom 34 = .ok (.iconst 0, 1) := by decide +kernel
theorem dX0_copyFrom_35 : decode cX0_copyFrom 35 = .ok (.aload_n 0, 1) := by decide +kernel
theorem dX0_copyFrom_36 : decode cX0_copyFrom 36 = .ok (.getfield 18, 3) := by decide +kernel
theorem dX0_copyFrom_39 : decode cX0_copyFrom 39 = .ok (.iconst 0, 1) := by decide +kernel
theorem dX0_copyFrom_40 : decode cX0_copyFrom 40 = .ok (.bipush 7, 2) := by decide +kernel
theorem dX0_copyFrom_42 : decode cX0_copyFrom 42 = .ok (.invokestatic 24, 3) := by decide +kernel
theorem dX0_copyFrom_45 : decode cX0_copyFrom 45 = .ok (.aload_n 0, 1) := by decide +kernel
theorem dX0_copyFrom_46 : decode cX0_copyFrom 46 = .ok (.aload_n 1, 1) := by decide +kernel
theorem dX0_copyFrom_47 : decode cX0_copyFrom 47 = .ok (.getfield 30, 3) := by decide +kernel
theorem dX0_copyFrom_50 : decode cX0_copyFrom 50 = .ok (.putfield 30, 3) := by decide +kernel
theorem dX0_copyFrom_53 : decode cX0_copyFrom 53 = .ok (.aload_n 0, 1) := by decide +kernel
theorem dX0_copyFrom_54 : decode cX0_copyFrom 54 = .ok (.aload_n 1, 1) := by decide +kernel
theorem dX0_copyFrom_55 : decode cX0_copyFrom 55 = .ok (.getfield 34, 3) := by decide +kernel
theorem dX0_copyFrom_58 : decode cX0_copyFrom 58 = .ok (.putfield 34, 3) := by decide +kernel
theorem dX0_copyFrom_61 : decode cX0_copyFrom 61 = .ok (.aload_n 0, 1) := by decide +kernel
theorem dX0_copyFrom_62 : decode cX0_copyFrom 62 = .ok (.aload_n 1, 1) := by decide +kernel
theorem dX0_copyFrom_63 : decode cX0_copyFrom 63 = .ok (.getfield 37, 3) := by decide +kernel
theorem dX0_copyFrom_66 : decode cX0_copyFrom 66 = .ok (.putfield 37, 3) := by decide +kernel
theorem dX0_copyFrom_69 : decode cX0_copyFrom 69 = .ok (.aload_n 0, 1) := by decide +kernel
theorem dX0_copyFrom_70 : decode cX0_copyFrom 70 = .ok (.aload_n 1, 1) := by decide +kernel
theorem dX0_copyFrom_71 : decode cX0_copyFrom 71 = .ok (.getfield 40, 3) := by decide +kernel
theorem dX0_copyFrom_74 : decode cX0_copyFrom 74 = .ok (.putfield 40, 3) := by decide +kernel
theorem dX0_copyFrom_77 : decode cX0_copyFrom 77 = .ok (.aload_n 0, 1) := by decide +kernel
theorem dX0_copyFrom_78 : decode cX0_copyFrom 78 = .ok (.aload_n 1, 1) := by decide +kernel
theorem dX0_copyFrom_79 : decode cX0_copyFrom 79 = .ok (.getfield 43, 3) := by decide +kernel
theorem dX0_copyFrom_82 : decode cX0_copyFrom 82 = .ok (.putfield 43, 3) := by decide +kernel
theorem dX0_copyFrom_85 : decode cX0_copyFrom 85 = .ok (.aload_n 0, 1) := by decide +kernel
theorem dX0_copyFrom_86 : decode cX0_copyFrom 86 = .ok (.aload_n 1, 1) := by decide +kernel
theorem dX0_copyFrom_87 : decode cX0_copyFrom 87 = .ok (.getfield 46, 3) := by decide +kernel
theorem dX0_copyFrom_90 : decode cX0_copyFrom 90 = .ok (.putfield 46, 3) := by decide +kernel
theorem dX0_copyFrom_93 : decode cX0_copyFrom 93 = .ok (.aload_n 0, 1) := by decide +kernel
theorem dX0_copyFrom_94 : decode cX0_copyFrom 94 = .ok (.aload_n 1, 1) := by decide +kernel
theorem dX0_copyFrom_95 : decode cX0_copyFrom 95 = .ok (.getfield 49, 3) := by decide +kernel
theorem dX0_copyFrom_98 : decode cX0_copyFrom 98 = .ok (.putfield 49, 3) := by decide +kernel
theorem dX0_copyFrom_101 : decode cX0_copyFrom 101 = .ok (.return_, 1) := by decide +kernel
theorem dX0_hasRow_0 : decode cX0_hasRow 0 = .ok (.iload_n 1, 1) := by decide +kernel
theorem dX0_hasRow_1 : decode cX0_hasRow 1 = .ok (.ifCond .lt 15, 3) := by decide +kernel
theorem dX0_hasRow_4 : decode cX0_hasRow 4 = .ok (.iload_n 1, 1) := by decide +kernel
theorem dX0_hasRow_5 : decode cX0_hasRow 5 = .ok (.aload_n 0, 1) := by decide +kernel
theorem dX0_hasRow_6 : decode cX0_hasRow 6 = .ok (.getfield 30, 3) := by decide +kernel
theorem dX0_hasRow_9 : decode cX0_hasRow 9 = .ok (.if_icmp .ge 7, 3) := by decide +kernel
theorem dX0_hasRow_12 : decode cX0_hasRow 12 = .ok (.iconst 1, 1) := by decide +kernel
theorem dX0_hasRow_13 : decode cX0_hasRow 13 = .ok (.goto 4, 3) := by decide +kernel
theorem dX0_hasRow_16 : decode cX0_hasRow 16 = .ok (.iconst 0, 1) := by decide +kernel
theorem dX0_hasRow_17 : decode cX0_hasRow 17 = .ok (.ireturn, 1) := by decide +kernel
theorem dX0_bring_0 : decode cX0_bring 0 = .ok (.aload_n 0, 1) := by decide +kernel
theorem dX0_bring_1 : decode cX0_bring 1 = .ok (.getfield 18, 3) := by decide +kernel
theorem dX0_bring_4 : decode cX0_bring 4 = .ok (.iconst 0, 1) := by decide +kernel
theorem dX0_bring_5 : decode cX0_bring 5 = .ok (.dup2, 1) := by decide +kernel
theorem dX0_bring_6 : decode cX0_bring 6 = .ok (.iaload, 1) := by decide +kernel
theorem dX0_bring_7 : decode cX0_bring 7 = .ok (.iload_n 1, 1) := by decide +kernel
theorem dX0_bring_8 : decode cX0_bring 8 = .ok (.iadd, 1) := by decide +kernel
theorem dX0_bring_9 : decode cX0_bring 9 = .ok (.iastore, 1) := by decide +kernel
theorem dX0_bring_10 : decode cX0_bring 10 = .ok (.aload_n 0, 1) := by decide +kernel
theorem dX0_bring_11 : decode cX0_bring 11 = .ok (.getfield 18, 3) := by decide +kernel
theorem dX0_bring_14 : decode cX0_bring 14 = .ok (.iconst 1, 1) := by decide +kernel
theorem dX0_bring_15 : decode cX0_bring 15 = .ok (.dup2, 1) := by decide +kernel
theorem dX0_bring_16 : decode cX0_bring 16 = .ok (.iaload, 1) := by decide +kernel
theorem dX0_bring_17 : decode cX0_bring 17 = .ok (.iload_n 1, 1) := by decide +kernel
theorem dX0_bring_18 : decode cX0_bring 18 = .ok (.iadd, 1) := by decide +kernel
theorem dX0_bring_19 : decode cX0_bring 19 = .ok (.iastore, 1) := by decide +kernel
theorem dX0_bring_20 : decode cX0_bring 20 = .ok (.return_, 1) := by decide +kernel
theorem dX0_move_0 : decode cX0_move 0 = .ok (.aload_n 0, 1) := by decide +kernel
theorem dX0_move_1 : decode cX0_move 1 = .ok (.getfield 18, 3) := by decide +kernel
theorem dX0_move_4 : decode cX0_move 4 = .ok (.iload_n 1, 1) := by decide +kernel
theorem dX0_move_5 : decode cX0_move 5 = .ok (.dup2, 1) := by decide +kernel
theorem dX0_move_6 : decode cX0_move 6 = .ok (.iaload, 1) := by decide +kernel
theorem dX0_move_7 : decode cX0_move 7 = .ok (.iload_n 3, 1) := by decide +kernel
theorem dX0_move_8 : decode cX0_move 8 = .ok (.isub, 1) := by decide +kernel
theorem dX0_move_9 : decode cX0_move 9 = .ok (.iastore, 1) := by decide +kernel
theorem dX0_move_10 : decode cX0_move 10 = .ok (.aload_n 0, 1) := by decide +kernel
theorem dX0_move_11 : decode cX0_move 11 = .ok (.getfield 18, 3) := by decide +kernel
theorem dX0_move_14 : decode cX0_move 14 = .ok (.iload_n 2, 1) := by decide +kernel
theorem dX0_move_15 : decode cX0_move 15 = .ok (.dup2, 1) := by decide +kernel
theorem dX0_move_16 : decode cX0_move 16 = .ok (.iaload, 1) := by decide +kernel
theorem dX0_move_17 : decode cX0_move 17 = .ok (.iload_n 3, 1) := by decide +kernel
theorem dX0_move_18 : decode cX0_move 18 = .ok (.iadd, 1) := by decide +kernel
theorem dX0_move_19 : decode cX0_move 19 = .ok (.iastore, 1) := by decide +kernel
theorem dX0_move_20 : decode cX0_move 20 = .ok (.return_, 1) := by decide +kernel
set_option maxRecDepth 20000 in
theorem ggX0_appendRow_X0_bring : GoodIn wsX0_appendRow wsX0_bring := goodIn_r _ [7, 8, 9, 10, 11, 12, 13, 14, 15, 16, 17, 18] (by decide +kernel) (by decide +kernel)
set_option maxRecDepth 20000 in
theorem gX0_appendRow_X0_bring : GoodIn wsX0_appendRow (wsV RX0 52 RX0 yX0_bring wsX0_bring) := goodIn_app (goodIn_of _ (by decide +kernel)) ggX0_appendRow_X0_bring
theorem dX0_appendRow_0 : decode cX0_appendRow 0 = .ok (.aload_n 0, 1) := by decide +kernel
theorem dX0_appendRow_1 : decode cX0_appendRow 1 = .ok (.getfield 30, 3) := by decide +kernel
theorem dX0_appendRow_4 : decode cX0_appendRow 4 = .ok (.bipush 24, 2) := by decide +kernel
theorem dX0_appendRow_6 : decode cX0_appendRow 6 = .ok (.if_icmp .ge 28, 3) := by decide +kernel
theorem dX0_appendRow_9 : decode cX0_appendRow 9 = .ok (.aload_n 0, 1) := by decide +kernel
theorem dX0_appendRow_10 : decode cX0_appendRow 10 = .ok (.getfield 9, 3) := by decide +kernel
theorem dX0_appendRow_13 : decode cX0_appendRow 13 = .ok (.aload_n 0, 1) := by decide +kernel
theorem dX0_appendRow_14 : decode cX0_appendRow 14 = .ok (.getfield 30, 3) := by decide +kernel
theorem dX0_appendRow_17 : decode cX0_appendRow 17 = .ok (.iload_n 1, 1) := by decide +kernel
theorem dX0_appendRow_18 : decode cX0_appendRow 18 = .ok (.iastore, 1) := by decide +kernel
theorem dX0_appendRow_19 : decode cX0_appendRow 19 = .ok (.aload_n 0, 1) := by decide +kernel
theorem dX0_appendRow_20 : decode cX0_appendRow 20 = .ok (.dup, 1) := by decide +kernel
theorem dX0_appendRow_21 : decode cX0_appendRow 21 = .ok (.getfield 30, 3) := by decide +kernel
theorem dX0_appendRow_24 : decode cX0_appendRow 24 = .ok (.iconst 1, 1) := by decide +kernel
theorem dX0_appendRow_25 : decode cX0_appendRow 25 = .ok (.iadd, 1) := by decide +kernel
theorem dX0_appendRow_26 : decode cX0_appendRow 26 = .ok (.putfield 30, 3) := by decide +kernel
theorem dX0_appendRow_29 : decode cX0_appendRow 29 = .ok (.aload_n 0, 1) := by decide +kernel
theorem dX0_appendRow_30 : decode cX0_appendRow 30 = .ok (.iload_n 1, 1) := by decide +kernel
theorem dX0_appendRow_31 : decode cX0_appendRow 31 = .ok (.invokevirtual 52, 3) := by decide +kernel
theorem dX0_appendRow_34 : decode cX0_appendRow 34 = .ok (.return_, 1) := by decide +kernel
set_option maxRecDepth 20000 in
theorem ggX0_takeAway_X0_endFilm : GoodIn wsX0_takeAway wsX0_endFilm := goodIn_r _ [5, 6, 7, 8, 9, 10, 4, 11, 12, 13, 14, 15, 16, 17, 18, 19, 20, 21] (by decide +kernel) (by decide +kernel)
set_option maxRecDepth 20000 in
theorem gX0_takeAway_X0_endFilm : GoodIn wsX0_takeAway (wsV RX0 56 RX0 yX0_endFilm wsX0_endFilm) := goodIn_app (goodIn_of _ (by decide +kernel)) ggX0_takeAway_X0_endFilm
theorem dX0_takeAway_0 : decode cX0_takeAway 0 = .ok (.aload_n 0, 1) := by decide +kernel
theorem dX0_takeAway_1 : decode cX0_takeAway 1 = .ok (.bipush 6, 2) := by decide +kernel
theorem dX0_takeAway_3 : decode cX0_takeAway 3 = .ok (.invokevirtual 56, 3) := by decide +kernel
theorem dX0_takeAway_6 : decode cX0_takeAway 6 = .ok (.return_, 1) := by decide +kernel
set_option maxRecDepth 20000 in
theorem ggX0_endFilm_X0_move : GoodIn wsX0_endFilm wsX0_move := goodIn_r _ [7, 1, 8, 9, 10, 11, 12, 13, 14, 15, 16, 17] (by decide +kernel) (by decide +kernel)
set_option maxRecDepth 20000 in
theorem gX0_endFilm_X0_move : GoodIn wsX0_endFilm (wsV RX0 59 RX0 yX0_move wsX0_move) := goodIn_app (goodIn_of _ (by decide +kernel)) ggX0_endFilm_X0_move
theorem dX0_endFilm_0 : decode cX0_endFilm 0 = .ok (.aload_n 0, 1) := by decide +kernel
theorem dX0_endFilm_1 : decode cX0_endFilm 1 = .ok (.iconst 1, 1) := by decide +kernel
theorem dX0_endFilm_2 : decode cX0_endFilm 2 = .ok (.iload_n 1, 1) := by decide +kernel
theorem dX0_endFilm_3 : decode cX0_endFilm 3 = .ok (.aload_n 0, 1) := by decide +kernel
theorem dX0_endFilm_4 : decode cX0_endFilm 4 = .ok (.getfield 18, 3) := by decide +kernel
theorem dX0_endFilm_7 : decode cX0_endFilm 7 = .ok (.iconst 1, 1) := by decide +kernel
theorem dX0_endFilm_8 : decode cX0_endFilm 8 = .ok (.iaload, 1) := by decide +kernel
theorem dX0_endFilm_9 : decode cX0_endFilm 9 = .ok (.invokevirtual 59, 3) := by decide +kernel
theorem dX0_endFilm_12 : decode cX0_endFilm 12 = .ok (.aload_n 0, 1) := by decide +kernel
theorem dX0_endFilm_13 : decode cX0_endFilm 13 = .ok (.iconst 0, 1) := by decide +kernel
theorem dX0_endFilm_14 : decode cX0_endFilm 14 = .ok (.putfield 30, 3) := by decide +kernel
theorem dX0_endFilm_17 : decode cX0_endFilm 17 = .ok (.return_, 1) := by decide +kernel
set_option maxRecDepth 20000 in
theorem ggX0_loseFrom_X0_move : GoodIn wsX0_loseFrom wsX0_move := goodIn_r _ [10, 11, 12, 13, 14, 15, 16, 17, 18, 19, 20, 21] (by decide +kernel) (by decide +kernel)
set_option maxRecDepth 20000 in
theorem gX0_loseFrom_X0_move : GoodIn wsX0_loseFrom (wsV RX0 59 RX0 yX0_move wsX0_move) := goodIn_app (goodIn_of _ (by decide +kernel)) ggX0_loseFrom_X0_move
theorem dX0_loseFrom_0 : decode cX0_loseFrom 0 = .ok (.iload_n 2, 1) := by decide +kernel
theorem dX0_loseFrom_1 : decode cX0_loseFrom 1 = .ok (.aload_n 0, 1) := by decide +kernel
theorem dX0_loseFrom_2 : decode cX0_loseFrom 2 = .ok (.getfield 9, 3) := by decide +kernel
theorem dX0_loseFrom_5 : decode cX0_loseFrom 5 = .ok (.iload_n 1, 1) := by decide +kernel
theorem dX0_loseFrom_6 : decode cX0_loseFrom 6 = .ok (.iaload, 1) := by decide +kernel
theorem dX0_loseFrom_7 : decode cX0_loseFrom 7 = .ok (.invokestatic 63, 3) := by decide +kernel
theorem dX0_loseFrom_10 : decode cX0_loseFrom 10 = .ok (.istore 4, 2) := by decide +kernel
theorem dX0_loseFrom_12 : decode cX0_loseFrom 12 = .ok (.aload_n 0, 1) := by decide +kernel
theorem dX0_loseFrom_13 : decode cX0_loseFrom 13 = .ok (.getfield 9, 3) := by decide +kernel
theorem dX0_loseFrom_16 : decode cX0_loseFrom 16 = .ok (.iload_n 1, 1) := by decide +kernel
theorem dX0_loseFrom_17 : decode cX0_loseFrom 17 = .ok (.dup2, 1) := by decide +kernel
theorem dX0_loseFrom_18 : decode cX0_loseFrom 18 = .ok (.iaload, 1) := by decide +kernel
theorem dX0_loseFrom_19 : decode cX0_loseFrom 19 = .ok (.iload 4, 2) := by decide +kernel
theorem dX0_loseFrom_21 : decode cX0_loseFrom 21 = .ok (.isub, 1) := by decide +kernel
theorem dX0_loseFrom_22 : decode cX0_loseFrom 22 = .ok (.iastore, 1) := by decide +kernel
theorem dX0_loseFrom_23 : decode cX0_loseFrom 23 = .ok (.aload_n 0, 1) := by decide +kernel
theorem dX0_loseFrom_24 : decode cX0_loseFrom 24 = .ok (.iconst 1, 1) := by decide +kernel
theorem dX0_loseFrom_25 : decode cX0_loseFrom 25 = .ok (.iload_n 3, 1) := by decide +kernel
theorem dX0_loseFrom_26 : decode cX0_loseFrom 26 = .ok (.iload 4, 2) := by decide +kernel
theorem dX0_loseFrom_28 : decode cX0_loseFrom 28 = .ok (.invokevirtual 59, 3) := by decide +kernel
theorem dX0_loseFrom_31 : decode cX0_loseFrom 31 = .ok (.iload 4, 2) := by decide +kernel
theorem dX0_loseFrom_33 : decode cX0_loseFrom 33 = .ok (.ireturn, 1) := by decide +kernel
set_option maxRecDepth 20000 in
theorem ggX0_colourAt_X3_colour : GoodIn wsX0_colourAt wsX3_colour := goodIn_r _ [6, 7, 8, 5, 9, 10, 11, 12, 13, 14, 15, 16, 17, 18, 19, 20, 21] (by decide +kernel) (by decide +kernel)
set_option maxRecDepth 20000 in
theorem gX0_colourAt_X3_colour : GoodIn wsX0_colourAt (va_wsS RX0 69 yX3_colour wsX3_colour) := goodIn_app (goodIn_of _ (by decide +kernel)) ggX0_colourAt_X3_colour
theorem dX0_colourAt_0 : decode cX0_colourAt 0 = .ok (.aload_n 0, 1) := by decide +kernel
theorem dX0_colourAt_1 : decode cX0_colourAt 1 = .ok (.getfield 9, 3) := by decide +kernel
theorem dX0_colourAt_4 : decode cX0_colourAt 4 = .ok (.iload_n 1, 1) := by decide +kernel
theorem dX0_colourAt_5 : decode cX0_colourAt 5 = .ok (.iaload, 1) := by decide +kernel
theorem dX0_colourAt_6 : decode cX0_colourAt 6 = .ok (.aload_n 0, 1) := by decide +kernel
theorem dX0_colourAt_7 : decode cX0_colourAt 7 = .ok (.getfield 15, 3) := by decide +kernel
theorem dX0_colourAt_10 : decode cX0_colourAt 10 = .ok (.iconst 3, 1) := by decide +kernel
theorem dX0_colourAt_11 : decode cX0_colourAt 11 = .ok (.iaload, 1) := by decide +kernel
theorem dX0_colourAt_12 : decode cX0_colourAt 12 = .ok (.invokestatic 69, 3) := by decide +kernel
theorem dX0_colourAt_15 : decode cX0_colourAt 15 = .ok (.ireturn, 1) := by decide +kernel
theorem dX0_isBlack_0 : decode cX0_isBlack 0 = .ok (.aload_n 0, 1) := by decide +kernel
theorem dX0_isBlack_1 : decode cX0_isBlack 1 = .ok (.getfield 9, 3) := by decide +kernel
theorem dX0_isBlack_4 : decode cX0_isBlack 4 = .ok (.iload_n 1, 1) := by decide +kernel
theorem dX0_isBlack_5 : decode cX0_isBlack 5 = .ok (.iaload, 1) := by decide +kernel
theorem dX0_isBlack_6 : decode cX0_isBlack 6 = .ok (.aload_n 0, 1) := by decide +kernel
theorem dX0_isBlack_7 : decode cX0_isBlack 7 = .ok (.getfield 15, 3) := by decide +kernel
theorem dX0_isBlack_10 : decode cX0_isBlack 10 = .ok (.iconst 3, 1) := by decide +kernel
theorem dX0_isBlack_11 : decode cX0_isBlack 11 = .ok (.iaload, 1) := by decide +kernel
theorem dX0_isBlack_12 : decode cX0_isBlack 12 = .ok (.if_icmp .ge 7, 3) := by decide +kernel
theorem dX0_isBlack_15 : decode cX0_isBlack 15 = .ok (.iconst 1, 1) := by decide +kernel
theorem dX0_isBlack_16 : decode cX0_isBlack 16 = .ok (.goto 4, 3) := by decide +kernel
theorem dX0_isBlack_19 : decode cX0_isBlack 19 = .ok (.iconst 0, 1) := by decide +kernel
theorem dX0_isBlack_20 : decode cX0_isBlack 20 = .ok (.ireturn, 1) := by decide +kernel
set_option maxRecDepth 20000 in
theorem ggX0_startsColour_X0_colourAt : GoodIn wsX0_startsColour wsX0_colourAt := goodIn_r _ [5, 6, 7, 8, 9, 10, 11, 12, 13, 14, 15, 16, 17, 18, 19, 20, 21, 22, 23, 24, 25, 26, 27, 28, 29, 30, 31, 32, 33, 34, 35, 36] (by decide +kernel) (by decide +kernel)
set_option maxRecDepth 20000 in
theorem gX0_startsColour_X0_colourAt : GoodIn wsX0_startsColour (wsV RX0 74 RX0 yX0_colourAt wsX0_colourAt) := goodIn_app (goodIn_of _ (by decide +kernel)) ggX0_startsColour_X0_colourAt
theorem dX0_startsColour_0 : decode cX0_startsColour 0 = .ok (.iload_n 1, 1) := by decide +kernel
theorem dX0_startsColour_1 : decode cX0_startsColour 1 = .ok (.ifCond .eq 18, 3) := by decide +kernel
theorem dX0_startsColour_4 : decode cX0_startsColour 4 = .ok (.aload_n 0, 1) := by decide +kernel
theorem dX0_startsColour_5 : decode cX0_startsColour 5 = .ok (.iload_n 1, 1) := by decide +kernel
theorem dX0_startsColour_6 : decode cX0_startsColour 6 = .ok (.invokevirtual 74, 3) := by decide +kernel
theorem dX0_startsColour_9 : decode cX0_startsColour 9 = .ok (.aload_n 0, 1) := by decide +kernel
theorem dX0_startsColour_10 : decode cX0_startsColour 10 = .ok (.iload_n 1, 1) := by decide +kernel
theorem dX0_startsColour_11 : decode cX0_startsColour 11 = .ok (.iconst 1, 1) := by decide +kernel
theorem dX0_startsColour_12 : decode cX0_startsColour 12 = .ok (.isub, 1) := by decide +kernel
theorem dX0_startsColour_13 : decode cX0_startsColour 13 = .ok (.invokevirtual 74, 3) := by decide +kernel
theorem dX0_startsColour_16 : decode cX0_startsColour 16 = .ok (.if_icmp .eq 7, 3) := by decide +kernel
theorem dX0_startsColour_19 : decode cX0_startsColour 19 = .ok (.iconst 1, 1) := by decide +kernel
theorem dX0_startsColour_20 : decode cX0_startsColour 20 = .ok (.goto 4, 3) := by decide +kernel
theorem dX0_startsColour_23 : decode cX0_startsColour 23 = .ok (.iconst 0, 1) := by decide +kernel
theorem dX0_startsColour_24 : decode cX0_startsColour 24 = .ok (.ireturn, 1) := by decide +kernel
set_option maxRecDepth 20000 in
theorem ggX0_blackRows_X0_isBlack : GoodIn wsX0_blackRows wsX0_isBlack := goodIn_r _ [6, 7, 8, 9, 10, 11, 12, 13, 14, 15, 16, 17, 18] (by decide +kernel) (by decide +kernel)
set_option maxRecDepth 20000 in
theorem gX0_blackRows_X0_isBlack : GoodIn wsX0_blackRows (wsV RX0 78 RX0 yX0_isBlack wsX0_isBlack) := goodIn_app (goodIn_of _ (by decide +kernel)) ggX0_blackRows_X0_isBlack
theorem dX0_blackRows_0 : decode cX0_blackRows 0 = .ok (.iconst 0, 1) := by decide +kernel
theorem dX0_blackRows_1 : decode cX0_blackRows 1 = .ok (.istore_n 1, 1) := by decide +kernel
theorem dX0_blackRows_2 : decode cX0_blackRows 2 = .ok (.iconst 0, 1) := by decide +kernel
theorem dX0_blackRows_3 : decode cX0_blackRows 3 = .ok (.istore_n 2, 1) := by decide +kernel
theorem dX0_blackRows_4 : decode cX0_blackRows 4 = .ok (.iload_n 2, 1) := by decide +kernel
theorem dX0_blackRows_5 : decode cX0_blackRows 5 = .ok (.aload_n 0, 1) := by decide +kernel
theorem dX0_blackRows_6 : decode cX0_blackRows 6 = .ok (.getfield 30, 3) := by decide +kernel
theorem dX0_blackRows_9 : decode cX0_blackRows 9 = .ok (.if_icmp .ge 20, 3) := by decide +kernel
theorem dX0_blackRows_12 : decode cX0_blackRows 12 = .ok (.aload_n 0, 1) := by decide +kernel
theorem dX0_blackRows_13 : decode cX0_blackRows 13 = .ok (.iload_n 2, 1) := by decide +kernel
theorem dX0_blackRows_14 : decode cX0_blackRows 14 = .ok (.invokevirtual 78, 3) := by decide +kernel
theorem dX0_blackRows_17 : decode cX0_blackRows 17 = .ok (.ifCond .eq 6, 3) := by decide +kernel
theorem dX0_blackRows_20 : decode cX0_blackRows 20 = .ok (.iinc 1 1, 3) := by decide +kernel
theorem dX0_blackRows_23 : decode cX0_blackRows 23 = .ok (.iinc 2 1, 3) := by decide +kernel
theorem dX0_blackRows_26 : decode cX0_blackRows 26 = .ok (.goto (-22), 3) := by decide +kernel
theorem dX0_blackRows_29 : decode cX0_blackRows 29 = .ok (.iload_n 1, 1) := by decide +kernel
theorem dX0_blackRows_30 : decode cX0_blackRows 30 = .ok (.ireturn, 1) := by decide +kernel
set_option maxRecDepth 20000 in
theorem ggX0_fringes_X0_startsColour : GoodIn wsX0_fringes wsX0_startsColour := goodIn_r _ [6, 7, 8, 9, 5, 10, 11, 12, 13, 14, 15, 16, 17, 18, 19, 20, 21, 22, 23, 24, 25, 26, 27, 28, 29, 30, 31, 32, 33, 34, 35, 36, 37, 38, 39, 40, 41] (by decide +kernel) (by decide +kernel)
set_option maxRecDepth 20000 in
theorem gX0_fringes_X0_startsColour : GoodIn wsX0_fringes (wsV RX0 82 RX0 yX0_startsColour wsX0_startsColour) := goodIn_app (goodIn_of _ (by decide +kernel)) ggX0_fringes_X0_startsColour
theorem dX0_fringes_0 : decode cX0_fringes 0 = .ok (.iconst 0, 1) := by decide +kernel
theorem dX0_fringes_1 : decode cX0_fringes 1 = .ok (.istore_n 1, 1) := by decide +kernel
theorem dX0_fringes_2 : decode cX0_fringes 2 = .ok (.iconst 1, 1) := by decide +kernel
theorem dX0_fringes_3 : decode cX0_fringes 3 = .ok (.istore_n 2, 1) := by decide +kernel
theorem dX0_fringes_4 : decode cX0_fringes 4 = .ok (.iload_n 2, 1) := by decide +kernel
theorem dX0_fringes_5 : decode cX0_fringes 5 = .ok (.aload_n 0, 1) := by decide +kernel
theorem dX0_fringes_6 : decode cX0_fringes 6 = .ok (.getfield 30, 3) := by decide +kernel
theorem dX0_fringes_9 : decode cX0_fringes 9 = .ok (.if_icmp .ge 20, 3) := by decide +kernel
theorem dX0_fringes_12 : decode cX0_fringes 12 = .ok (.aload_n 0, 1) := by decide +kernel
theorem dX0_fringes_13 : decode cX0_fringes 13 = .ok (.iload_n 2, 1) := by decide +kernel
theorem dX0_fringes_14 : decode cX0_fringes 14 = .ok (.invokevirtual 82, 3) := by decide +kernel
theorem dX0_fringes_17 : decode cX0_fringes 17 = .ok (.ifCond .eq 6, 3) := by decide +kernel
theorem dX0_fringes_20 : decode cX0_fringes 20 = .ok (.iinc 1 1, 3) := by decide +kernel
theorem dX0_fringes_23 : decode cX0_fringes 23 = .ok (.iinc 2 1, 3) := by decide +kernel
theorem dX0_fringes_26 : decode cX0_fringes 26 = .ok (.goto (-22), 3) := by decide +kernel
theorem dX0_fringes_29 : decode cX0_fringes 29 = .ok (.iload_n 1, 1) := by decide +kernel
theorem dX0_fringes_30 : decode cX0_fringes 30 = .ok (.ireturn, 1) := by decide +kernel
set_option maxRecDepth 20000 in
theorem ggX0_differentColours_X0_colourAt : GoodIn wsX0_differentColours wsX0_colourAt := goodIn_r _ [6, 7, 8, 9, 10, 11, 12, 13, 14, 15, 16, 17, 18, 19, 20, 21, 22, 23, 24, 25, 26, 27, 35, 36, 37, 38, 39, 40, 41, 42, 43, 44] (by decide +kernel) (by decide +kernel)
set_option maxRecDepth 20000 in
theorem gX0_differentColours_X0_colourAt : GoodIn wsX0_differentColours (wsV RX0 74 RX0 yX0_colourAt wsX0_colourAt) := goodIn_app (goodIn_of _ (by decide +kernel)) ggX0_differentColours_X0_colourAt
set_option maxRecDepth 20000 in
theorem ggX0_differentColours_J6_bitCount_0f7a4 : GoodIn wsX0_differentColours wsJ6_bitCount_0f7a4 := goodIn_r _ [31, 32, 33, 34] (by decide +kernel) (by decide +kernel)
set_option maxRecDepth 20000 in
theorem gX0_differentColours_J6_bitCount_0f7a4 : GoodIn wsX0_differentColours (va_wsS RX0 85 yJ6_bitCount_0f7a4 wsJ6_bitCount_0f7a4) := goodIn_app (goodIn_of _ (by decide +kernel)) ggX0_differentColours_J6_bitCount_0f7a4
theorem dX0_differentColours_0 : decode cX0_differentColours 0 = .ok (.iconst 0, 1) := by decide +kernel
theorem dX0_differentColours_1 : decode cX0_differentColours 1 = .ok (.istore_n 1, 1) := by decide +kernel
theorem dX0_differentColours_2 : decode cX0_differentColours 2 = .ok (.iconst 0, 1) := by decide +kernel
theorem dX0_differentColours_3 : decode cX0_differentColours 3 = .ok (.istore_n 2, 1) := by decide +kernel
theorem dX0_differentColours_4 : decode cX0_differentColours 4 = .ok (.iload_n 2, 1) := by decide +kernel
theorem dX0_differentColours_5 : decode cX0_differentColours 5 = .ok (.aload_n 0, 1) := by decide +kernel
theorem dX0_differentColours_6 : decode cX0_differentColours 6 = .ok (.getfield 30, 3) := by decide +kernel
theorem dX0_differentColours_9 : decode cX0_differentColours 9 = .ok (.if_icmp .ge 19, 3) := by decide +kernel
theorem dX0_differentColours_12 : decode cX0_differentColours 12 = .ok (.iload_n 1, 1) := by decide +kernel
theorem dX0_differentColours_13 : decode cX0_differentColours 13 = .ok (.iconst 1, 1) := by decide +kernel
theorem dX0_differentColours_14 : decode cX0_differentColours 14 = .ok (.aload_n 0, 1) := by decide +kernel
theorem dX0_differentColours_15 : decode cX0_differentColours 15 = .ok (.iload_n 2, 1) := by decide +kernel
theorem dX0_differentColours_16 : decode cX0_differentColours 16 = .ok (.invokevirtual 74, 3) := by decide +kernel
theorem dX0_differentColours_19 : decode cX0_differentColours 19 = .ok (.ishl, 1) := by decide +kernel
theorem dX0_differentColours_20 : decode cX0_differentColours 20 = .ok (.ior, 1) := by decide +kernel
theorem dX0_differentColours_21 : decode cX0_differentColours 21 = .ok (.istore_n 1, 1) := by decide +kernel
theorem dX0_differentColours_22 : decode cX0_differentColours 22 = .ok (.iinc 2 1, 3) := by decide +kernel
theorem dX0_differentColours_25 : decode cX0_differentColours 25 = .ok (.goto (-21), 3) := by decide +kernel
theorem dX0_differentColours_28 : decode cX0_differentColours 28 = .ok (.iload_n 1, 1) := by decide +kernel
theorem dX0_differentColours_29 : decode cX0_differentColours 29 = .ok (.invokestatic 85, 3) := by decide +kernel
theorem dX0_differentColours_32 : decode cX0_differentColours 32 = .ok (.ireturn, 1) := by decide +kernel
set_option maxRecDepth 20000 in
theorem ggX0_greatestOrder_X3_path : GoodIn wsX0_greatestOrder wsX3_path := goodIn_r _ [10] (by decide +kernel) (by decide +kernel)
set_option maxRecDepth 20000 in
theorem gX0_greatestOrder_X3_path : GoodIn wsX0_greatestOrder (va_wsS RX0 90 yX3_path wsX3_path) := goodIn_app (goodIn_of _ (by decide +kernel)) ggX0_greatestOrder_X3_path
set_option maxRecDepth 20000 in
theorem ggX0_greatestOrder_X3_order : GoodIn wsX0_greatestOrder wsX3_order := goodIn_r _ [13] (by decide +kernel) (by decide +kernel)
set_option maxRecDepth 20000 in
theorem gX0_greatestOrder_X3_order : GoodIn wsX0_greatestOrder (va_wsS RX0 93 yX3_order wsX3_order) := goodIn_app (goodIn_of _ (by decide +kernel)) ggX0_greatestOrder_X3_order
theorem dX0_greatestOrder_0 : decode cX0_greatestOrder 0 = .ok (.iconst 0, 1) := by decide +kernel
theorem dX0_greatestOrder_1 : decode cX0_greatestOrder 1 = .ok (.istore_n 1, 1) := by decide +kernel
theorem dX0_greatestOrder_2 : decode cX0_greatestOrder 2 = .ok (.iconst 0, 1) := by decide +kernel
theorem dX0_greatestOrder_3 : decode cX0_greatestOrder 3 = .ok (.istore_n 2, 1) := by decide +kernel
theorem dX0_greatestOrder_4 : decode cX0_greatestOrder 4 = .ok (.iload_n 2, 1) := by decide +kernel
theorem dX0_greatestOrder_5 : decode cX0_greatestOrder 5 = .ok (.aload_n 0, 1) := by decide +kernel
theorem dX0_greatestOrder_6 : decode cX0_greatestOrder 6 = .ok (.getfield 30, 3) := by decide +kernel
theorem dX0_greatestOrder_9 : decode cX0_greatestOrder 9 = .ok (.if_icmp .ge 26, 3) := by decide +kernel
theorem dX0_greatestOrder_12 : decode cX0_greatestOrder 12 = .ok (.iload_n 1, 1) := by decide +kernel
theorem dX0_greatestOrder_13 : decode cX0_greatestOrder 13 = .ok (.aload_n 0, 1) := by decide +kernel
theorem dX0_greatestOrder_14 : decode cX0_greatestOrder 14 = .ok (.getfield 9, 3) := by decide +kernel
theorem dX0_greatestOrder_17 : decode cX0_greatestOrder 17 = .ok (.iload_n 2, 1) := by decide +kernel
theorem dX0_greatestOrder_18 : decode cX0_greatestOrder 18 = .ok (.iaload, 1) := by decide +kernel
theorem dX0_greatestOrder_19 : decode cX0_greatestOrder 19 = .ok (.invokestatic 90, 3) := by decide +kernel
theorem dX0_greatestOrder_22 : decode cX0_greatestOrder 22 = .ok (.invokestatic 93, 3) := by decide +kernel
theorem dX0_greatestOrder_25 : decode cX0_greatestOrder 25 = .ok (.invokestatic 96, 3) := by decide +kernel
theorem dX0_greatestOrder_28 : decode cX0_greatestOrder 28 = .ok (.istore_n 1, 1) := by decide +kernel
theorem dX0_greatestOrder_29 : decode cX0_greatestOrder 29 = .ok (.iinc 2 1, 3) := by decide +kernel
theorem dX0_greatestOrder_32 : decode cX0_greatestOrder 32 = .ok (.goto (-28), 3) := by decide +kernel
theorem dX0_greatestOrder_35 : decode cX0_greatestOrder 35 = .ok (.iload_n 1, 1) := by decide +kernel
theorem dX0_greatestOrder_36 : decode cX0_greatestOrder 36 = .ok (.ireturn, 1) := by decide +kernel
set_option maxRecDepth 20000 in
theorem ggX0_tick_X0_drain : GoodIn wsX0_tick wsX0_drain := goodIn_r _ [7, 1, 8, 9, 10, 11, 12, 13, 6, 14, 15, 16, 17, 18, 19, 20, 21, 22, 23, 24, 25, 26, 27, 69, 70, 71, 72, 73, 74, 75, 76, 77, 78] (by decide +kernel) (by decide +kernel)
set_option maxRecDepth 20000 in
theorem gX0_tick_X0_drain : GoodIn wsX0_tick (wsV RX0 99 RX0 yX0_drain wsX0_drain) := goodIn_app (goodIn_of _ (by decide +kernel)) ggX0_tick_X0_drain
set_option maxRecDepth 20000 in
theorem ggX0_tick_X0_runEdges : GoodIn wsX0_tick wsX0_runEdges := goodIn_r _ [31, 1, 9, 32, 33, 34, 6, 35, 8, 11, 12, 13, 14, 15, 16, 17, 18, 19, 20, 21, 22, 23, 24, 25, 26, 27, 69, 70, 71, 72, 73, 74, 75, 76, 77, 78] (by decide +kernel) (by decide +kernel)
set_option maxRecDepth 20000 in
theorem gX0_tick_X0_runEdges : GoodIn wsX0_tick (wsV RX0 102 RX0 yX0_runEdges wsX0_runEdges) := goodIn_app (goodIn_of _ (by decide +kernel)) ggX0_tick_X0_runEdges
set_option maxRecDepth 20000 in
theorem ggX0_tick_X0_dry : GoodIn wsX0_tick wsX0_dry := goodIn_r _ [39, 1, 9, 19, 20, 21, 6, 22, 8, 15, 16, 17, 18, 23, 24, 25, 26, 27, 69, 70, 71, 72, 73, 74, 75, 76, 77, 78] (by decide +kernel) (by decide +kernel)
set_option maxRecDepth 20000 in
theorem gX0_tick_X0_dry : GoodIn wsX0_tick (wsV RX0 105 RX0 yX0_dry wsX0_dry) := goodIn_app (goodIn_of _ (by decide +kernel)) ggX0_tick_X0_dry
set_option maxRecDepth 20000 in
theorem ggX0_tick_X0_letDropFall : GoodIn wsX0_tick wsX0_letDropFall := goodIn_r _ [43, 27, 9, 44, 23, 24, 25, 6, 26, 69, 70, 71, 72, 73, 74, 75, 76, 77, 78] (by decide +kernel) (by decide +kernel)
set_option maxRecDepth 20000 in
theorem gX0_tick_X0_letDropFall : GoodIn wsX0_tick (wsV RX0 108 RX0 yX0_letDropFall wsX0_letDropFall) := goodIn_app (goodIn_of _ (by decide +kernel)) ggX0_tick_X0_letDropFall
set_option maxRecDepth 20000 in
theorem ggX0_tick_X0_burstIfDue : GoodIn wsX0_tick wsX0_burstIfDue := goodIn_r _ [48, 9, 49, 50, 51, 6, 52, 1, 8, 53, 54, 55, 56, 32, 33, 34, 35, 57, 58, 59, 60, 61, 62, 63, 2, 64, 65, 66, 67, 68, 27, 23, 24, 25, 26, 69, 70, 71, 72, 73, 74, 75, 76, 77, 78] (by decide +kernel) (by decide +kernel)
set_option maxRecDepth 20000 in
theorem gX0_tick_X0_burstIfDue : GoodIn wsX0_tick (wsV RX0 111 RX0 yX0_burstIfDue wsX0_burstIfDue) := goodIn_app (goodIn_of _ (by decide +kernel)) ggX0_tick_X0_burstIfDue
theorem dX0_tick_0 : decode cX0_tick 0 = .ok (.aload_n 0, 1) := by decide +kernel
theorem dX0_tick_1 : decode cX0_tick 1 = .ok (.getfield 30, 3) := by decide +kernel
theorem dX0_tick_4 : decode cX0_tick 4 = .ok (.ifCond .le 23, 3) := by decide +kernel
theorem dX0_tick_7 : decode cX0_tick 7 = .ok (.aload_n 0, 1) := by decide +kernel
theorem dX0_tick_8 : decode cX0_tick 8 = .ok (.invokevirtual 99, 3) := by decide +kernel
theorem dX0_tick_11 : decode cX0_tick 11 = .ok (.aload_n 0, 1) := by decide +kernel
theorem dX0_tick_12 : decode cX0_tick 12 = .ok (.invokevirtual 102, 3) := by decide +kernel
theorem dX0_tick_15 : decode cX0_tick 15 = .ok (.aload_n 0, 1) := by decide +kernel
theorem dX0_tick_16 : decode cX0_tick 16 = .ok (.invokevirtual 105, 3) := by decide +kernel
theorem dX0_tick_19 : decode cX0_tick 19 = .ok (.aload_n 0, 1) := by decide +kernel
theorem dX0_tick_20 : decode cX0_tick 20 = .ok (.invokevirtual 108, 3) := by decide +kernel
theorem dX0_tick_23 : decode cX0_tick 23 = .ok (.aload_n 0, 1) := by decide +kernel
theorem dX0_tick_24 : decode cX0_tick 24 = .ok (.invokevirtual 111, 3) := by decide +kernel
theorem dX0_tick_27 : decode cX0_tick 27 = .ok (.aload_n 0, 1) := by decide +kernel
theorem dX0_tick_28 : decode cX0_tick 28 = .ok (.dup, 1) := by decide +kernel
theorem dX0_tick_29 : decode cX0_tick 29 = .ok (.getfield 34, 3) := by decide +kernel
theorem dX0_tick_32 : decode cX0_tick 32 = .ok (.iconst 1, 1) := by decide +kernel
theorem dX0_tick_33 : decode cX0_tick 33 = .ok (.iadd, 1) := by decide +kernel
theorem dX0_tick_34 : decode cX0_tick 34 = .ok (.putfield 34, 3) := by decide +kernel
theorem dX0_tick_37 : decode cX0_tick 37 = .ok (.return_, 1) := by decide +kernel
set_option maxRecDepth 20000 in
theorem ggX0_drain_X0_giveDown : GoodIn wsX0_drain wsX0_giveDown := goodIn_r _ [9, 1, 2, 10, 11, 12, 13, 14, 15, 16, 8, 17, 18, 19, 20, 21, 22, 23, 24, 25, 26, 27, 28, 29, 30, 31, 32] (by decide +kernel) (by decide +kernel)
set_option maxRecDepth 20000 in
theorem gX0_drain_X0_giveDown : GoodIn wsX0_drain (wsV RX0 116 RX0 yX0_giveDown wsX0_giveDown) := goodIn_app (goodIn_of _ (by decide +kernel)) ggX0_drain_X0_giveDown
theorem dX0_drain_0 : decode cX0_drain 0 = .ok (.aload_n 0, 1) := by decide +kernel
theorem dX0_drain_1 : decode cX0_drain 1 = .ok (.getfield 30, 3) := by decide +kernel
theorem dX0_drain_4 : decode cX0_drain 4 = .ok (.iconst 1, 1) := by decide +kernel
theorem dX0_drain_5 : decode cX0_drain 5 = .ok (.isub, 1) := by decide +kernel
theorem dX0_drain_6 : decode cX0_drain 6 = .ok (.istore_n 1, 1) := by decide +kernel
theorem dX0_drain_7 : decode cX0_drain 7 = .ok (.iload_n 1, 1) := by decide +kernel
theorem dX0_drain_8 : decode cX0_drain 8 = .ok (.ifCond .lt 44, 3) := by decide +kernel
theorem dX0_drain_11 : decode cX0_drain 11 = .ok (.aload_n 0, 1) := by decide +kernel
theorem dX0_drain_12 : decode cX0_drain 12 = .ok (.getfield 9, 3) := by decide +kernel
theorem dX0_drain_15 : decode cX0_drain 15 = .ok (.iload_n 1, 1) := by decide +kernel
theorem dX0_drain_16 : decode cX0_drain 16 = .ok (.iaload, 1) := by decide +kernel
theorem dX0_drain_17 : decode cX0_drain 17 = .ok (.i2l, 1) := by decide +kernel
theorem dX0_drain_18 : decode cX0_drain 18 = .ok (.aload_n 0, 1) := by decide +kernel
theorem dX0_drain_19 : decode cX0_drain 19 = .ok (.getfield 9, 3) := by decide +kernel
theorem dX0_drain_22 : decode cX0_drain 22 = .ok (.iload_n 1, 1) := by decide +kernel
theorem dX0_drain_23 : decode cX0_drain 23 = .ok (.iaload, 1) := by decide +kernel
theorem dX0_drain_24 : decode cX0_drain 24 = .ok (.i2l, 1) := by decide +kernel
theorem dX0_drain_25 : decode cX0_drain 25 = .ok (.lmul, 1) := by decide +kernel
theorem dX0_drain_26 : decode cX0_drain 26 = .ok (.lstore_n 2, 1) := by decide +kernel
theorem dX0_drain_27 : decode cX0_drain 27 = .ok (.aload_n 0, 1) := by decide +kernel
theorem dX0_drain_28 : decode cX0_drain 28 = .ok (.iload_n 1, 1) := by decide +kernel
theorem dX0_drain_29 : decode cX0_drain 29 = .ok (.lload_n 2, 1) := by decide +kernel
theorem dX0_drain_30 : decode cX0_drain 30 = .ok (.aload_n 0, 1) := by decide +kernel
theorem dX0_drain_31 : decode cX0_drain 31 = .ok (.getfield 15, 3) := by decide +kernel
theorem dX0_drain_34 : decode cX0_drain 34 = .ok (.iconst 0, 1) := by decide +kernel
theorem dX0_drain_35 : decode cX0_drain 35 = .ok (.iaload, 1) := by decide +kernel
theorem dX0_drain_36 : decode cX0_drain 36 = .ok (.i2l, 1) := by decide +kernel
theorem dX0_drain_37 : decode cX0_drain 37 = .ok (.lmul, 1) := by decide +kernel
theorem dX0_drain_38 : decode cX0_drain 38 = .ok (.ldc2_w 114, 3) := by decide +kernel
theorem dX0_drain_41 : decode cX0_drain 41 = .ok (.ldiv, 1) := by decide +kernel
theorem dX0_drain_42 : decode cX0_drain 42 = .ok (.l2i, 1) := by decide +kernel
theorem dX0_drain_43 : decode cX0_drain 43 = .ok (.invokevirtual 116, 3) := by decide +kernel
theorem dX0_drain_46 : decode cX0_drain 46 = .ok (.iinc 1 (-1), 3) := by decide +kernel
theorem dX0_drain_49 : decode cX0_drain 49 = .ok (.goto (-42), 3) := by decide +kernel
theorem dX0_drain_52 : decode cX0_drain 52 = .ok (.return_, 1) := by decide +kernel
set_option maxRecDepth 20000 in
theorem ggX0_runEdges_X0_isBlack : GoodIn wsX0_runEdges wsX0_isBlack := goodIn_r _ [7, 8, 2, 26, 27, 28, 29, 30, 31, 32, 33, 34, 35] (by decide +kernel) (by decide +kernel)
set_option maxRecDepth 20000 in
theorem gX0_runEdges_X0_isBlack : GoodIn wsX0_runEdges (wsV RX0 78 RX0 yX0_isBlack wsX0_isBlack) := goodIn_app (goodIn_of _ (by decide +kernel)) ggX0_runEdges_X0_isBlack
set_option maxRecDepth 20000 in
theorem ggX0_runEdges_X0_giveDown : GoodIn wsX0_runEdges wsX0_giveDown := goodIn_r _ [12, 1, 8, 13, 14, 15, 16, 17, 18, 19, 6, 20, 21, 22, 23, 24, 25, 26, 27, 28, 29, 30, 31, 32, 33, 34, 35] (by decide +kernel) (by decide +kernel)
set_option maxRecDepth 20000 in
theorem gX0_runEdges_X0_giveDown : GoodIn wsX0_runEdges (wsV RX0 116 RX0 yX0_giveDown wsX0_giveDown) := goodIn_app (goodIn_of _ (by decide +kernel)) ggX0_runEdges_X0_giveDown
theorem dX0_runEdges_0 : decode cX0_runEdges 0 = .ok (.iconst 0, 1) := by decide +kernel
theorem dX0_runEdges_1 : decode cX0_runEdges 1 = .ok (.istore_n 1, 1) := by decide +kernel
theorem dX0_runEdges_2 : decode cX0_runEdges 2 = .ok (.aload_n 0, 1) := by decide +kernel
theorem dX0_runEdges_3 : decode cX0_runEdges 3 = .ok (.getfield 30, 3) := by decide +kernel
theorem dX0_runEdges_6 : decode cX0_runEdges 6 = .ok (.ifCond .le 15, 3) := by decide +kernel
theorem dX0_runEdges_9 : decode cX0_runEdges 9 = .ok (.aload_n 0, 1) := by decide +kernel
theorem dX0_runEdges_10 : decode cX0_runEdges 10 = .ok (.iconst 0, 1) := by decide +kernel
theorem dX0_runEdges_11 : decode cX0_runEdges 11 = .ok (.invokevirtual 78, 3) := by decide +kernel
theorem dX0_runEdges_14 : decode cX0_runEdges 14 = .ok (.ifCond .eq 7, 3) := by decide +kernel
theorem dX0_runEdges_17 : decode cX0_runEdges 17 = .ok (.iconst 1, 1) := by decide +kernel
theorem dX0_runEdges_18 : decode cX0_runEdges 18 = .ok (.goto 4, 3) := by decide +kernel
theorem dX0_runEdges_21 : decode cX0_runEdges 21 = .ok (.iconst 0, 1) := by decide +kernel
theorem dX0_runEdges_22 : decode cX0_runEdges 22 = .ok (.istore_n 2, 1) := by decide +kernel
theorem dX0_runEdges_23 : decode cX0_runEdges 23 = .ok (.iconst 0, 1) := by decide +kernel
theorem dX0_runEdges_24 : decode cX0_runEdges 24 = .ok (.istore_n 3, 1) := by decide +kernel
theorem dX0_runEdges_25 : decode cX0_runEdges 25 = .ok (.iload_n 3, 1) := by decide +kernel
theorem dX0_runEdges_26 : decode cX0_runEdges 26 = .ok (.aload_n 0, 1) := by decide +kernel
theorem dX0_runEdges_27 : decode cX0_runEdges 27 = .ok (.getfield 30, 3) := by decide +kernel
theorem dX0_runEdges_30 : decode cX0_runEdges 30 = .ok (.if_icmp .ge 60, 3) := by decide +kernel
theorem dX0_runEdges_33 : decode cX0_runEdges 33 = .ok (.iload_n 3, 1) := by decide +kernel
theorem dX0_runEdges_34 : decode cX0_runEdges 34 = .ok (.iconst 1, 1) := by decide +kernel
theorem dX0_runEdges_35 : decode cX0_runEdges 35 = .ok (.iadd, 1) := by decide +kernel
theorem dX0_runEdges_36 : decode cX0_runEdges 36 = .ok (.aload_n 0, 1) := by decide +kernel
theorem dX0_runEdges_37 : decode cX0_runEdges 37 = .ok (.getfield 30, 3) := by decide +kernel
theorem dX0_runEdges_40 : decode cX0_runEdges 40 = .ok (.if_icmp .ge 17, 3) := by decide +kernel
theorem dX0_runEdges_43 : decode cX0_runEdges 43 = .ok (.aload_n 0, 1) := by decide +kernel
theorem dX0_runEdges_44 : decode cX0_runEdges 44 = .ok (.iload_n 3, 1) := by decide +kernel
theorem dX0_runEdges_45 : decode cX0_runEdges 45 = .ok (.iconst 1, 1) := by decide +kernel
theorem dX0_runEdges_46 : decode cX0_runEdges 46 = .ok (.iadd, 1) := by decide +kernel
theorem dX0_runEdges_47 : decode cX0_runEdges 47 = .ok (.invokevirtual 78, 3) := by decide +kernel
theorem dX0_runEdges_50 : decode cX0_runEdges 50 = .ok (.ifCond .eq 7, 3) := by decide +kernel
theorem dX0_runEdges_53 : decode cX0_runEdges 53 = .ok (.iconst 1, 1) := by decide +kernel
theorem dX0_runEdges_54 : decode cX0_runEdges 54 = .ok (.goto 4, 3) := by decide +kernel
theorem dX0_runEdges_57 : decode cX0_runEdges 57 = .ok (.iconst 0, 1) := by decide +kernel
theorem dX0_runEdges_58 : decode cX0_runEdges 58 = .ok (.istore 4, 2) := by decide +kernel
theorem dX0_runEdges_60 : decode cX0_runEdges 60 = .ok (.iload_n 1, 1) := by decide +kernel
theorem dX0_runEdges_61 : decode cX0_runEdges 61 = .ok (.ifCond .eq 18, 3) := by decide +kernel
theorem dX0_runEdges_64 : decode cX0_runEdges 64 = .ok (.iload_n 2, 1) := by decide +kernel
theorem dX0_runEdges_65 : decode cX0_runEdges 65 = .ok (.ifCond .ne 14, 3) := by decide +kernel
theorem dX0_runEdges_68 : decode cX0_runEdges 68 = .ok (.aload_n 0, 1) := by decide +kernel
theorem dX0_runEdges_69 : decode cX0_runEdges 69 = .ok (.iload_n 3, 1) := by decide +kernel
theorem dX0_runEdges_70 : decode cX0_runEdges 70 = .ok (.aload_n 0, 1) := by decide +kernel
theorem dX0_runEdges_71 : decode cX0_runEdges 71 = .ok (.getfield 15, 3) := by decide +kernel
theorem dX0_runEdges_74 : decode cX0_runEdges 74 = .ok (.iconst 2, 1) := by decide +kernel
theorem dX0_runEdges_75 : decode cX0_runEdges 75 = .ok (.iaload, 1) := by decide +kernel
theorem dX0_runEdges_76 : decode cX0_runEdges 76 = .ok (.invokevirtual 116, 3) := by decide +kernel
theorem dX0_runEdges_79 : decode cX0_runEdges 79 = .ok (.iload_n 2, 1) := by decide +kernel
theorem dX0_runEdges_80 : decode cX0_runEdges 80 = .ok (.istore_n 1, 1) := by decide +kernel
theorem dX0_runEdges_81 : decode cX0_runEdges 81 = .ok (.iload 4, 2) := by decide +kernel
theorem dX0_runEdges_83 : decode cX0_runEdges 83 = .ok (.istore_n 2, 1) := by decide +kernel
theorem dX0_runEdges_84 : decode cX0_runEdges 84 = .ok (.iinc 3 1, 3) := by decide +kernel
theorem dX0_runEdges_87 : decode cX0_runEdges 87 = .ok (.goto (-62), 3) := by decide +kernel
theorem dX0_runEdges_90 : decode cX0_runEdges 90 = .ok (.return_, 1) := by decide +kernel
set_option maxRecDepth 20000 in
theorem ggX0_giveDown_X0_loseFrom : GoodIn wsX0_giveDown wsX0_loseFrom := goodIn_r _ [11, 2, 3, 4, 5, 6, 12, 13, 14, 10, 15, 16, 17, 18, 19, 20, 21, 22, 23, 24, 25, 26] (by decide +kernel) (by decide +kernel)
set_option maxRecDepth 20000 in
theorem gX0_giveDown_X0_loseFrom : GoodIn wsX0_giveDown (wsV RX0 120 RX0 yX0_loseFrom wsX0_loseFrom) := goodIn_app (goodIn_of _ (by decide +kernel)) ggX0_giveDown_X0_loseFrom
theorem dX0_giveDown_0 : decode cX0_giveDown 0 = .ok (.iload_n 1, 1) := by decide +kernel
theorem dX0_giveDown_1 : decode cX0_giveDown 1 = .ok (.aload_n 0, 1) := by decide +kernel
theorem dX0_giveDown_2 : decode cX0_giveDown 2 = .ok (.getfield 30, 3) := by decide +kernel
theorem dX0_giveDown_5 : decode cX0_giveDown 5 = .ok (.iconst 1, 1) := by decide +kernel
theorem dX0_giveDown_6 : decode cX0_giveDown 6 = .ok (.isub, 1) := by decide +kernel
theorem dX0_giveDown_7 : decode cX0_giveDown 7 = .ok (.if_icmp .ne 12, 3) := by decide +kernel
theorem dX0_giveDown_10 : decode cX0_giveDown 10 = .ok (.aload_n 0, 1) := by decide +kernel
theorem dX0_giveDown_11 : decode cX0_giveDown 11 = .ok (.iload_n 1, 1) := by decide +kernel
theorem dX0_giveDown_12 : decode cX0_giveDown 12 = .ok (.iload_n 2, 1) := by decide +kernel
theorem dX0_giveDown_13 : decode cX0_giveDown 13 = .ok (.iconst 2, 1) := by decide +kernel
theorem dX0_giveDown_14 : decode cX0_giveDown 14 = .ok (.invokevirtual 120, 3) := by decide +kernel
theorem dX0_giveDown_17 : decode cX0_giveDown 17 = .ok (.pop, 1) := by decide +kernel
theorem dX0_giveDown_18 : decode cX0_giveDown 18 = .ok (.return_, 1) := by decide +kernel
theorem dX0_giveDown_19 : decode cX0_giveDown 19 = .ok (.sipush 5000, 3) := by decide +kernel
theorem dX0_giveDown_22 : decode cX0_giveDown 22 = .ok (.aload_n 0, 1) := by decide +kernel
theorem dX0_giveDown_23 : decode cX0_giveDown 23 = .ok (.getfield 9, 3) := by decide +kernel
theorem dX0_giveDown_26 : decode cX0_giveDown 26 = .ok (.iload_n 1, 1) := by decide +kernel
theorem dX0_giveDown_27 : decode cX0_giveDown 27 = .ok (.iconst 1, 1) := by decide +kernel
theorem dX0_giveDown_28 : decode cX0_giveDown 28 = .ok (.iadd, 1) := by decide +kernel
theorem dX0_giveDown_29 : decode cX0_giveDown 29 = .ok (.iaload, 1) := by decide +kernel
theorem dX0_giveDown_30 : decode cX0_giveDown 30 = .ok (.isub, 1) := by decide +kernel
theorem dX0_giveDown_31 : decode cX0_giveDown 31 = .ok (.istore_n 3, 1) := by decide +kernel
theorem dX0_giveDown_32 : decode cX0_giveDown 32 = .ok (.iload_n 2, 1) := by decide +kernel
theorem dX0_giveDown_33 : decode cX0_giveDown 33 = .ok (.aload_n 0, 1) := by decide +kernel
theorem dX0_giveDown_34 : decode cX0_giveDown 34 = .ok (.getfield 9, 3) := by decide +kernel
theorem dX0_giveDown_37 : decode cX0_giveDown 37 = .ok (.iload_n 1, 1) := by decide +kernel
theorem dX0_giveDown_38 : decode cX0_giveDown 38 = .ok (.iaload, 1) := by decide +kernel
theorem dX0_giveDown_39 : decode cX0_giveDown 39 = .ok (.invokestatic 63, 3) := by decide +kernel
theorem dX0_giveDown_42 : decode cX0_giveDown 42 = .ok (.iload_n 3, 1) := by decide +kernel
theorem dX0_giveDown_43 : decode cX0_giveDown 43 = .ok (.invokestatic 63, 3) := by decide +kernel
theorem dX0_giveDown_46 : decode cX0_giveDown 46 = .ok (.istore 4, 2) := by decide +kernel
theorem dX0_giveDown_48 : decode cX0_giveDown 48 = .ok (.aload_n 0, 1) := by decide +kernel
theorem dX0_giveDown_49 : decode cX0_giveDown 49 = .ok (.getfield 9, 3) := by decide +kernel
theorem dX0_giveDown_52 : decode cX0_giveDown 52 = .ok (.iload_n 1, 1) := by decide +kernel
theorem dX0_giveDown_53 : decode cX0_giveDown 53 = .ok (.dup2, 1) := by decide +kernel
theorem dX0_giveDown_54 : decode cX0_giveDown 54 = .ok (.iaload, 1) := by decide +kernel
theorem dX0_giveDown_55 : decode cX0_giveDown 55 = .ok (.iload 4, 2) := by decide +kernel
theorem dX0_giveDown_57 : decode cX0_giveDown 57 = .ok (.isub, 1) := by decide +kernel
theorem dX0_giveDown_58 : decode cX0_giveDown 58 = .ok (.iastore, 1) := by decide +kernel
theorem dX0_giveDown_59 : decode cX0_giveDown 59 = .ok (.aload_n 0, 1) := by decide +kernel
theorem dX0_giveDown_60 : decode cX0_giveDown 60 = .ok (.getfield 9, 3) := by decide +kernel
theorem dX0_giveDown_63 : decode cX0_giveDown 63 = .ok (.iload_n 1, 1) := by decide +kernel
theorem dX0_giveDown_64 : decode cX0_giveDown 64 = .ok (.iconst 1, 1) := by decide +kernel
theorem dX0_giveDown_65 : decode cX0_giveDown 65 = .ok (.iadd, 1) := by decide +kernel
theorem dX0_giveDown_66 : decode cX0_giveDown 66 = .ok (.dup2, 1) := by decide +kernel
theorem dX0_giveDown_67 : decode cX0_giveDown 67 = .ok (.iaload, 1) := by decide +kernel
theorem dX0_giveDown_68 : decode cX0_giveDown 68 = .ok (.iload 4, 2) := by decide +kernel
theorem dX0_giveDown_70 : decode cX0_giveDown 70 = .ok (.iadd, 1) := by decide +kernel
theorem dX0_giveDown_71 : decode cX0_giveDown 71 = .ok (.iastore, 1) := by decide +kernel
theorem dX0_giveDown_72 : decode cX0_giveDown 72 = .ok (.return_, 1) := by decide +kernel
set_option maxRecDepth 20000 in
theorem ggX0_dry_X0_loseFrom : GoodIn wsX0_dry wsX0_loseFrom := goodIn_r _ [7, 8, 9, 10, 11, 12, 13, 14, 15, 6, 16, 17, 18, 19, 20, 21, 22, 23, 24, 25, 26, 27] (by decide +kernel) (by decide +kernel)
set_option maxRecDepth 20000 in
theorem gX0_dry_X0_loseFrom : GoodIn wsX0_dry (wsV RX0 120 RX0 yX0_loseFrom wsX0_loseFrom) := goodIn_app (goodIn_of _ (by decide +kernel)) ggX0_dry_X0_loseFrom
theorem dX0_dry_0 : decode cX0_dry 0 = .ok (.iconst 0, 1) := by decide +kernel
theorem dX0_dry_1 : decode cX0_dry 1 = .ok (.istore_n 1, 1) := by decide +kernel
theorem dX0_dry_2 : decode cX0_dry 2 = .ok (.iload_n 1, 1) := by decide +kernel
theorem dX0_dry_3 : decode cX0_dry 3 = .ok (.aload_n 0, 1) := by decide +kernel
theorem dX0_dry_4 : decode cX0_dry 4 = .ok (.getfield 30, 3) := by decide +kernel
theorem dX0_dry_7 : decode cX0_dry 7 = .ok (.if_icmp .ge 22, 3) := by decide +kernel
theorem dX0_dry_10 : decode cX0_dry 10 = .ok (.aload_n 0, 1) := by decide +kernel
theorem dX0_dry_11 : decode cX0_dry 11 = .ok (.iload_n 1, 1) := by decide +kernel
theorem dX0_dry_12 : decode cX0_dry 12 = .ok (.aload_n 0, 1) := by decide +kernel
theorem dX0_dry_13 : decode cX0_dry 13 = .ok (.getfield 15, 3) := by decide +kernel
theorem dX0_dry_16 : decode cX0_dry 16 = .ok (.iconst 1, 1) := by decide +kernel
theorem dX0_dry_17 : decode cX0_dry 17 = .ok (.iaload, 1) := by decide +kernel
theorem dX0_dry_18 : decode cX0_dry 18 = .ok (.iconst 4, 1) := by decide +kernel
theorem dX0_dry_19 : decode cX0_dry 19 = .ok (.invokevirtual 120, 3) := by decide +kernel
theorem dX0_dry_22 : decode cX0_dry 22 = .ok (.pop, 1) := by decide +kernel
theorem dX0_dry_23 : decode cX0_dry 23 = .ok (.iinc 1 1, 3) := by decide +kernel
theorem dX0_dry_26 : decode cX0_dry 26 = .ok (.goto (-24), 3) := by decide +kernel
theorem dX0_dry_29 : decode cX0_dry 29 = .ok (.return_, 1) := by decide +kernel
set_option maxRecDepth 20000 in
theorem ggX0_letDropFall_X0_move : GoodIn wsX0_letDropFall wsX0_move := goodIn_r _ [8, 1, 9, 10, 11, 12, 13, 14, 15, 16, 17, 18] (by decide +kernel) (by decide +kernel)
set_option maxRecDepth 20000 in
theorem gX0_letDropFall_X0_move : GoodIn wsX0_letDropFall (wsV RX0 59 RX0 yX0_move wsX0_move) := goodIn_app (goodIn_of _ (by decide +kernel)) ggX0_letDropFall_X0_move
theorem dX0_letDropFall_0 : decode cX0_letDropFall 0 = .ok (.aload_n 0, 1) := by decide +kernel
theorem dX0_letDropFall_1 : decode cX0_letDropFall 1 = .ok (.getfield 18, 3) := by decide +kernel
theorem dX0_letDropFall_4 : decode cX0_letDropFall 4 = .ok (.iconst 2, 1) := by decide +kernel
theorem dX0_letDropFall_5 : decode cX0_letDropFall 5 = .ok (.iaload, 1) := by decide +kernel
theorem dX0_letDropFall_6 : decode cX0_letDropFall 6 = .ok (.aload_n 0, 1) := by decide +kernel
theorem dX0_letDropFall_7 : decode cX0_letDropFall 7 = .ok (.getfield 15, 3) := by decide +kernel
theorem dX0_letDropFall_10 : decode cX0_letDropFall 10 = .ok (.bipush 6, 2) := by decide +kernel
theorem dX0_letDropFall_12 : decode cX0_letDropFall 12 = .ok (.iaload, 1) := by decide +kernel
theorem dX0_letDropFall_13 : decode cX0_letDropFall 13 = .ok (.if_icmp .lt 25, 3) := by decide +kernel
theorem dX0_letDropFall_16 : decode cX0_letDropFall 16 = .ok (.aload_n 0, 1) := by decide +kernel
theorem dX0_letDropFall_17 : decode cX0_letDropFall 17 = .ok (.iconst 2, 1) := by decide +kernel
theorem dX0_letDropFall_18 : decode cX0_letDropFall 18 = .ok (.iconst 3, 1) := by decide +kernel
theorem dX0_letDropFall_19 : decode cX0_letDropFall 19 = .ok (.aload_n 0, 1) := by decide +kernel
theorem dX0_letDropFall_20 : decode cX0_letDropFall 20 = .ok (.getfield 18, 3) := by decide +kernel
theorem dX0_letDropFall_23 : decode cX0_letDropFall 23 = .ok (.iconst 2, 1) := by decide +kernel
theorem dX0_letDropFall_24 : decode cX0_letDropFall 24 = .ok (.iaload, 1) := by decide +kernel
theorem dX0_letDropFall_25 : decode cX0_letDropFall 25 = .ok (.invokevirtual 59, 3) := by decide +kernel
theorem dX0_letDropFall_28 : decode cX0_letDropFall 28 = .ok (.aload_n 0, 1) := by decide +kernel
theorem dX0_letDropFall_29 : decode cX0_letDropFall 29 = .ok (.dup, 1) := by decide +kernel
theorem dX0_letDropFall_30 : decode cX0_letDropFall 30 = .ok (.getfield 37, 3) := by decide +kernel
theorem dX0_letDropFall_33 : decode cX0_letDropFall 33 = .ok (.iconst 1, 1) := by decide +kernel
theorem dX0_letDropFall_34 : decode cX0_letDropFall 34 = .ok (.iadd, 1) := by decide +kernel
theorem dX0_letDropFall_35 : decode cX0_letDropFall 35 = .ok (.putfield 37, 3) := by decide +kernel
theorem dX0_letDropFall_38 : decode cX0_letDropFall 38 = .ok (.return_, 1) := by decide +kernel
set_option maxRecDepth 20000 in
theorem ggX0_burstIfDue_X0_firstTooThin : GoodIn wsX0_burstIfDue wsX0_firstTooThin := goodIn_r _ [6, 7, 8, 1, 35, 36, 37, 38, 39, 40, 41, 42, 43, 44] (by decide +kernel) (by decide +kernel)
set_option maxRecDepth 20000 in
theorem gX0_burstIfDue_X0_firstTooThin : GoodIn wsX0_burstIfDue (wsV RX0 124 RX0 yX0_firstTooThin wsX0_firstTooThin) := goodIn_app (goodIn_of _ (by decide +kernel)) ggX0_burstIfDue_X0_firstTooThin
set_option maxRecDepth 20000 in
theorem ggX0_burstIfDue_X0_blackRows : GoodIn wsX0_burstIfDue wsX0_blackRows := goodIn_r _ [12, 7, 13, 14, 15, 5, 16, 8, 1, 35, 36, 37, 38, 39, 40, 41, 42, 43, 44] (by decide +kernel) (by decide +kernel)
set_option maxRecDepth 20000 in
theorem gX0_burstIfDue_X0_blackRows : GoodIn wsX0_burstIfDue (wsV RX0 128 RX0 yX0_blackRows wsX0_blackRows) := goodIn_app (goodIn_of _ (by decide +kernel)) ggX0_burstIfDue_X0_blackRows
set_option maxRecDepth 20000 in
theorem ggX0_burstIfDue_X0_burst : GoodIn wsX0_burstIfDue wsX0_burst := goodIn_r _ [20, 21, 22, 23, 24, 25, 26, 27, 28, 5, 29, 30, 7, 31, 32, 33, 34, 35, 36, 37, 38, 39, 40, 41, 42, 43, 44] (by decide +kernel) (by decide +kernel)
set_option maxRecDepth 20000 in
theorem gX0_burstIfDue_X0_burst : GoodIn wsX0_burstIfDue (wsV RX0 131 RX0 yX0_burst wsX0_burst) := goodIn_app (goodIn_of _ (by decide +kernel)) ggX0_burstIfDue_X0_burst
theorem dX0_burstIfDue_0 : decode cX0_burstIfDue 0 = .ok (.aload_n 0, 1) := by decide +kernel
theorem dX0_burstIfDue_1 : decode cX0_burstIfDue 1 = .ok (.invokevirtual 124, 3) := by decide +kernel
theorem dX0_burstIfDue_4 : decode cX0_burstIfDue 4 = .ok (.istore_n 1, 1) := by decide +kernel
theorem dX0_burstIfDue_5 : decode cX0_burstIfDue 5 = .ok (.aload_n 0, 1) := by decide +kernel
theorem dX0_burstIfDue_6 : decode cX0_burstIfDue 6 = .ok (.invokevirtual 128, 3) := by decide +kernel
theorem dX0_burstIfDue_9 : decode cX0_burstIfDue 9 = .ok (.istore_n 2, 1) := by decide +kernel
theorem dX0_burstIfDue_10 : decode cX0_burstIfDue 10 = .ok (.iload_n 1, 1) := by decide +kernel
theorem dX0_burstIfDue_11 : decode cX0_burstIfDue 11 = .ok (.ifCond .lt 12, 3) := by decide +kernel
theorem dX0_burstIfDue_14 : decode cX0_burstIfDue 14 = .ok (.aload_n 0, 1) := by decide +kernel
theorem dX0_burstIfDue_15 : decode cX0_burstIfDue 15 = .ok (.iconst 1, 1) := by decide +kernel
theorem dX0_burstIfDue_16 : decode cX0_burstIfDue 16 = .ok (.iload_n 1, 1) := by decide +kernel
theorem dX0_burstIfDue_17 : decode cX0_burstIfDue 17 = .ok (.invokevirtual 131, 3) := by decide +kernel
theorem dX0_burstIfDue_20 : decode cX0_burstIfDue 20 = .ok (.goto 19, 3) := by decide +kernel
theorem dX0_burstIfDue_23 : decode cX0_burstIfDue 23 = .ok (.iload_n 2, 1) := by decide +kernel
theorem dX0_burstIfDue_24 : decode cX0_burstIfDue 24 = .ok (.aload_n 0, 1) := by decide +kernel
theorem dX0_burstIfDue_25 : decode cX0_burstIfDue 25 = .ok (.getfield 15, 3) := by decide +kernel
theorem dX0_burstIfDue_28 : decode cX0_burstIfDue 28 = .ok (.iconst 5, 1) := by decide +kernel
theorem dX0_burstIfDue_29 : decode cX0_burstIfDue 29 = .ok (.iaload, 1) := by decide +kernel
theorem dX0_burstIfDue_30 : decode cX0_burstIfDue 30 = .ok (.if_icmp .le 9, 3) := by decide +kernel
theorem dX0_burstIfDue_33 : decode cX0_burstIfDue 33 = .ok (.aload_n 0, 1) := by decide +kernel
theorem dX0_burstIfDue_34 : decode cX0_burstIfDue 34 = .ok (.iconst 2, 1) := by decide +kernel
theorem dX0_burstIfDue_35 : decode cX0_burstIfDue 35 = .ok (.iload_n 2, 1) := by decide +kernel
theorem dX0_burstIfDue_36 : decode cX0_burstIfDue 36 = .ok (.invokevirtual 131, 3) := by decide +kernel
theorem dX0_burstIfDue_39 : decode cX0_burstIfDue 39 = .ok (.return_, 1) := by decide +kernel
theorem dX0_firstTooThin_0 : decode cX0_firstTooThin 0 = .ok (.iconst 0, 1) := by decide +kernel
theorem dX0_firstTooThin_1 : decode cX0_firstTooThin 1 = .ok (.istore_n 1, 1) := by decide +kernel
theorem dX0_firstTooThin_2 : decode cX0_firstTooThin 2 = .ok (.iload_n 1, 1) := by decide +kernel
theorem dX0_firstTooThin_3 : decode cX0_firstTooThin 3 = .ok (.aload_n 0, 1) := by decide +kernel
theorem dX0_firstTooThin_4 : decode cX0_firstTooThin 4 = .ok (.getfield 30, 3) := by decide +kernel
theorem dX0_firstTooThin_7 : decode cX0_firstTooThin 7 = .ok (.if_icmp .ge 26, 3) := by decide +kernel
theorem dX0_firstTooThin_10 : decode cX0_firstTooThin 10 = .ok (.aload_n 0, 1) := by decide +kernel
theorem dX0_firstTooThin_11 : decode cX0_firstTooThin 11 = .ok (.getfield 9, 3) := by decide +kernel
theorem dX0_firstTooThin_14 : decode cX0_firstTooThin 14 = .ok (.iload_n 1, 1) := by decide +kernel
theorem dX0_firstTooThin_15 : decode cX0_firstTooThin 15 = .ok (.iaload, 1) := by decide +kernel
theorem dX0_firstTooThin_16 : decode cX0_firstTooThin 16 = .ok (.aload_n 0, 1) := by decide +kernel
theorem dX0_firstTooThin_17 : decode cX0_firstTooThin 17 = .ok (.getfield 15, 3) := by decide +kernel
theorem dX0_firstTooThin_20 : decode cX0_firstTooThin 20 = .ok (.iconst 4, 1) := by decide +kernel
theorem dX0_firstTooThin_21 : decode cX0_firstTooThin 21 = .ok (.iaload, 1) := by decide +kernel
theorem dX0_firstTooThin_22 : decode cX0_firstTooThin 22 = .ok (.if_icmp .ge 5, 3) := by decide +kernel
theorem dX0_firstTooThin_25 : decode cX0_firstTooThin 25 = .ok (.iload_n 1, 1) := by decide +kernel
theorem dX0_firstTooThin_26 : decode cX0_firstTooThin 26 = .ok (.ireturn, 1) := by decide +kernel
theorem dX0_firstTooThin_27 : decode cX0_firstTooThin 27 = .ok (.iinc 1 1, 3) := by decide +kernel
theorem dX0_firstTooThin_30 : decode cX0_firstTooThin 30 = .ok (.goto (-28), 3) := by decide +kernel
theorem dX0_firstTooThin_33 : decode cX0_firstTooThin 33 = .ok (.iconst (-1), 1) := by decide +kernel
theorem dX0_firstTooThin_34 : decode cX0_firstTooThin 34 = .ok (.ireturn, 1) := by decide +kernel
set_option maxRecDepth 20000 in
theorem ggX0_burst_X0_endFilm : GoodIn wsX0_burst wsX0_endFilm := goodIn_r _ [10, 11, 12, 13, 14, 15, 9, 16, 17, 18, 19, 20, 21, 22, 23, 24, 25, 26] (by decide +kernel) (by decide +kernel)
set_option maxRecDepth 20000 in
theorem gX0_burst_X0_endFilm : GoodIn wsX0_burst (wsV RX0 56 RX0 yX0_endFilm wsX0_endFilm) := goodIn_app (goodIn_of _ (by decide +kernel)) ggX0_burst_X0_endFilm
theorem dX0_burst_0 : decode cX0_burst 0 = .ok (.aload_n 0, 1) := by decide +kernel
theorem dX0_burst_1 : decode cX0_burst 1 = .ok (.iconst 5, 1) := by decide +kernel
theorem dX0_burst_2 : decode cX0_burst 2 = .ok (.invokevirtual 56, 3) := by decide +kernel
theorem dX0_burst_5 : decode cX0_burst 5 = .ok (.aload_n 0, 1) := by decide +kernel
theorem dX0_burst_6 : decode cX0_burst 6 = .ok (.dup, 1) := by decide +kernel
theorem dX0_burst_7 : decode cX0_burst 7 = .ok (.getfield 40, 3) := by decide +kernel
theorem dX0_burst_10 : decode cX0_burst 10 = .ok (.iconst 1, 1) := by decide +kernel
theorem dX0_burst_11 : decode cX0_burst 11 = .ok (.iadd, 1) := by decide +kernel
theorem dX0_burst_12 : decode cX0_burst 12 = .ok (.putfield 40, 3) := by decide +kernel
theorem dX0_burst_15 : decode cX0_burst 15 = .ok (.aload_n 0, 1) := by decide +kernel
theorem dX0_burst_16 : decode cX0_burst 16 = .ok (.iload_n 1, 1) := by decide +kernel
theorem dX0_burst_17 : decode cX0_burst 17 = .ok (.putfield 43, 3) := by decide +kernel
theorem dX0_burst_20 : decode cX0_burst 20 = .ok (.aload_n 0, 1) := by decide +kernel
theorem dX0_burst_21 : decode cX0_burst 21 = .ok (.iload_n 2, 1) := by decide +kernel
theorem dX0_burst_22 : decode cX0_burst 22 = .ok (.putfield 46, 3) := by decide +kernel
theorem dX0_burst_25 : decode cX0_burst 25 = .ok (.aload_n 0, 1) := by decide +kernel
theorem dX0_burst_26 : decode cX0_burst 26 = .ok (.aload_n 0, 1) := by decide +kernel
theorem dX0_burst_27 : decode cX0_burst 27 = .ok (.getfield 34, 3) := by decide +kernel
theorem dX0_burst_30 : decode cX0_burst 30 = .ok (.putfield 49, 3) := by decide +kernel
theorem dX0_burst_33 : decode cX0_burst 33 = .ok (.return_, 1) := by decide +kernel
theorem dX1_init_0 : decode cX1_init 0 = .ok (.aload_n 0, 1) := by decide +kernel
theorem dX1_init_1 : decode cX1_init 1 = .ok (.invokespecial 3, 3) := by decide +kernel
theorem dX1_init_4 : decode cX1_init 4 = .ok (.aload_n 0, 1) := by decide +kernel
theorem dX1_init_5 : decode cX1_init 5 = .ok (.bipush 100, 2) := by decide +kernel
theorem dX1_init_7 : decode cX1_init 7 = .ok (.newarray .char, 2) := by decide +kernel
theorem dX1_init_9 : decode cX1_init 9 = .ok (.putfield 11, 3) := by decide +kernel
theorem dX1_init_12 : decode cX1_init 12 = .ok (.aload_n 0, 1) := by decide +kernel
theorem dX1_init_13 : decode cX1_init 13 = .ok (.bipush 24, 2) := by decide +kernel
theorem dX1_init_15 : decode cX1_init 15 = .ok (.newarray .int, 2) := by decide +kernel
theorem dX1_init_17 : decode cX1_init 17 = .ok (.putfield 15, 3) := by decide +kernel
theorem dX1_init_20 : decode cX1_init 20 = .ok (.return_, 1) := by decide +kernel
theorem dX1_append_0 : decode cX1_append 0 = .ok (.aload_n 0, 1) := by decide +kernel
theorem dX1_append_1 : decode cX1_append 1 = .ok (.getfield 19, 3) := by decide +kernel
theorem dX1_append_4 : decode cX1_append 4 = .ok (.bipush 100, 2) := by decide +kernel
theorem dX1_append_6 : decode cX1_append 6 = .ok (.if_icmp .ge 23, 3) := by decide +kernel
theorem dX1_append_9 : decode cX1_append 9 = .ok (.aload_n 0, 1) := by decide +kernel
theorem dX1_append_10 : decode cX1_append 10 = .ok (.getfield 11, 3) := by decide +kernel
theorem dX1_append_13 : decode cX1_append 13 = .ok (.aload_n 0, 1) := by decide +kernel
theorem dX1_append_14 : decode cX1_append 14 = .ok (.getfield 19, 3) := by decide +kernel
theorem dX1_append_17 : decode cX1_append 17 = .ok (.iload_n 1, 1) := by decide +kernel
theorem dX1_append_18 : decode cX1_append 18 = .ok (.castore, 1) := by decide +kernel
theorem dX1_append_19 : decode cX1_append 19 = .ok (.aload_n 0, 1) := by decide +kernel
theorem dX1_append_20 : decode cX1_append 20 = .ok (.dup, 1) := by decide +kernel
theorem dX1_append_21 : decode cX1_append 21 = .ok (.getfield 19, 3) := by decide +kernel
theorem dX1_append_24 : decode cX1_append 24 = .ok (.iconst 1, 1) := by decide +kernel
theorem dX1_append_25 : decode cX1_append 25 = .ok (.iadd, 1) := by decide +kernel
theorem dX1_append_26 : decode cX1_append 26 = .ok (.putfield 19, 3) := by decide +kernel
theorem dX1_append_29 : decode cX1_append 29 = .ok (.return_, 1) := by decide +kernel
set_option maxRecDepth 20000 in
theorem ggX1_parse_X1_takePart : GoodIn wsX1_parse wsX1_takePart := goodIn_r _ [10, 1, 11, 12, 13, 14, 9, 15, 4, 16, 17, 18, 19, 20, 21, 22, 23, 24, 25, 26, 27, 28, 29, 30, 31] (by decide +kernel) (by decide +kernel)
set_option maxRecDepth 20000 in
theorem gX1_parse_X1_takePart : GoodIn wsX1_parse (wsV RX1 32 RX1 yX1_takePart wsX1_takePart) := goodIn_app (goodIn_of _ (by decide +kernel)) ggX1_parse_X1_takePart
theorem dX1_parse_0 : decode cX1_parse 0 = .ok (.aload_n 0, 1) := by decide +kernel
theorem dX1_parse_1 : decode cX1_parse 1 = .ok (.iconst 0, 1) := by decide +kernel
theorem dX1_parse_2 : decode cX1_parse 2 = .ok (.putfield 23, 3) := by decide +kernel
theorem dX1_parse_5 : decode cX1_parse 5 = .ok (.aload_n 0, 1) := by decide +kernel
theorem dX1_parse_6 : decode cX1_parse 6 = .ok (.iconst 0, 1) := by decide +kernel
theorem dX1_parse_7 : decode cX1_parse 7 = .ok (.putfield 26, 3) := by decide +kernel
theorem dX1_parse_10 : decode cX1_parse 10 = .ok (.iconst 0, 1) := by decide +kernel
theorem dX1_parse_11 : decode cX1_parse 11 = .ok (.istore_n 1, 1) := by decide +kernel
theorem dX1_parse_12 : decode cX1_parse 12 = .ok (.iconst 0, 1) := by decide +kernel
theorem dX1_parse_13 : decode cX1_parse 13 = .ok (.istore_n 2, 1) := by decide +kernel
theorem dX1_parse_14 : decode cX1_parse 14 = .ok (.iload_n 2, 1) := by decide +kernel
theorem dX1_parse_15 : decode cX1_parse 15 = .ok (.aload_n 0, 1) := by decide +kernel
theorem dX1_parse_16 : decode cX1_parse 16 = .ok (.getfield 19, 3) := by decide +kernel
theorem dX1_parse_19 : decode cX1_parse 19 = .ok (.if_icmp .gt 54, 3) := by decide +kernel
theorem dX1_parse_22 : decode cX1_parse 22 = .ok (.aload_n 0, 1) := by decide +kernel
theorem dX1_parse_23 : decode cX1_parse 23 = .ok (.getfield 26, 3) := by decide +kernel
theorem dX1_parse_26 : decode cX1_parse 26 = .ok (.ifCond .ne 47, 3) := by decide +kernel
theorem dX1_parse_29 : decode cX1_parse 29 = .ok (.iload_n 2, 1) := by decide +kernel
theorem dX1_parse_30 : decode cX1_parse 30 = .ok (.aload_n 0, 1) := by decide +kernel
theorem dX1_parse_31 : decode cX1_parse 31 = .ok (.getfield 19, 3) := by decide +kernel
theorem dX1_parse_34 : decode cX1_parse 34 = .ok (.if_icmp .eq 14, 3) := by decide +kernel
theorem dX1_parse_37 : decode cX1_parse 37 = .ok (.aload_n 0, 1) := by decide +kernel
theorem dX1_parse_38 : decode cX1_parse 38 = .ok (.getfield 11, 3) := by decide +kernel
theorem dX1_parse_41 : decode cX1_parse 41 = .ok (.iload_n 2, 1) := by decide +kernel
theorem dX1_parse_42 : decode cX1_parse 42 = .ok (.caload, 1) := by decide +kernel
theorem dX1_parse_43 : decode cX1_parse 43 = .ok (.bipush 44, 2) := by decide +kernel
theorem dX1_parse_45 : decode cX1_parse 45 = .ok (.if_icmp .ne 22, 3) := by decide +kernel
theorem dX1_parse_48 : decode cX1_parse 48 = .ok (.aload_n 0, 1) := by decide +kernel
theorem dX1_parse_49 : decode cX1_parse 49 = .ok (.iload_n 1, 1) := by decide +kernel
theorem dX1_parse_50 : decode cX1_parse 50 = .ok (.putfield 29, 3) := by decide +kernel
theorem dX1_parse_53 : decode cX1_parse 53 = .ok (.aload_n 0, 1) := by decide +kernel
theorem dX1_parse_54 : decode cX1_parse 54 = .ok (.aload_n 0, 1) := by decide +kernel
theorem dX1_parse_55 : decode cX1_parse 55 = .ok (.iload_n 1, 1) := by decide +kernel
theorem dX1_parse_56 : decode cX1_parse 56 = .ok (.iload_n 2, 1) := by decide +kernel
theorem dX1_parse_57 : decode cX1_parse 57 = .ok (.invokevirtual 32, 3) := by decide +kernel
theorem dX1_parse_60 : decode cX1_parse 60 = .ok (.putfield 26, 3) := by decide +kernel
theorem dX1_parse_63 : decode cX1_parse 63 = .ok (.iload_n 2, 1) := by decide +kernel
theorem dX1_parse_64 : decode cX1_parse 64 = .ok (.iconst 1, 1) := by decide +kernel
theorem dX1_parse_65 : decode cX1_parse 65 = .ok (.iadd, 1) := by decide +kernel
theorem dX1_parse_66 : decode cX1_parse 66 = .ok (.istore_n 1, 1) := by decide +kernel
theorem dX1_parse_67 : decode cX1_parse 67 = .ok (.iinc 2 1, 3) := by decide +kernel
theorem dX1_parse_70 : decode cX1_parse 70 = .ok (.goto (-56), 3) := by decide +kernel
theorem dX1_parse_73 : decode cX1_parse 73 = .ok (.return_, 1) := by decide +kernel
set_option maxRecDepth 20000 in
theorem ggX1_takePart_X1_findCross : GoodIn wsX1_takePart wsX1_findCross := goodIn_r _ [7, 8, 19, 20, 21, 22, 23, 24] (by decide +kernel) (by decide +kernel)
set_option maxRecDepth 20000 in
theorem gX1_takePart_X1_findCross : GoodIn wsX1_takePart (wsV RX1 36 RX1 yX1_findCross wsX1_findCross) := goodIn_app (goodIn_of _ (by decide +kernel)) ggX1_takePart_X1_findCross
set_option maxRecDepth 20000 in
theorem ggX1_takePart_X1_number : GoodIn wsX1_takePart wsX1_number := goodIn_r _ [12, 8, 19, 20, 21, 22, 23, 24] (by decide +kernel) (by decide +kernel)
set_option maxRecDepth 20000 in
theorem gX1_takePart_X1_number : GoodIn wsX1_takePart (wsV RX1 39 RX1 yX1_number wsX1_number) := goodIn_app (goodIn_of _ (by decide +kernel)) ggX1_takePart_X1_number
set_option maxRecDepth 20000 in
theorem ggX1_takePart_X4_isThickness : GoodIn wsX1_takePart wsX4_isThickness := goodIn_r _ [15, 16, 17, 14, 18] (by decide +kernel) (by decide +kernel)
set_option maxRecDepth 20000 in
theorem gX1_takePart_X4_isThickness_n43 : GoodIn wsX1_takePart (wsX4_isThickness) := ggX1_takePart_X4_isThickness
set_option maxRecDepth 20000 in
theorem ggX1_takePart_X4_isBetween : GoodIn wsX1_takePart wsX4_isBetween := goodIn_r _ [18] (by decide +kernel) (by decide +kernel)
set_option maxRecDepth 20000 in
theorem gX1_takePart_X4_isBetween_n47 : GoodIn wsX1_takePart (wsX4_isBetween) := ggX1_takePart_X4_isBetween
theorem dX1_takePart_0 : decode cX1_takePart 0 = .ok (.aload_n 0, 1) := by decide +kernel
theorem dX1_takePart_1 : decode cX1_takePart 1 = .ok (.iload_n 1, 1) := by decide +kernel
theorem dX1_takePart_2 : decode cX1_takePart 2 = .ok (.iload_n 2, 1) := by decide +kernel
theorem dX1_takePart_3 : decode cX1_takePart 3 = .ok (.invokevirtual 36, 3) := by decide +kernel
theorem dX1_takePart_6 : decode cX1_takePart 6 = .ok (.istore_n 3, 1) := by decide +kernel
theorem dX1_takePart_7 : decode cX1_takePart 7 = .ok (.aload_n 0, 1) := by decide +kernel
theorem dX1_takePart_8 : decode cX1_takePart 8 = .ok (.iload_n 1, 1) := by decide +kernel
theorem dX1_takePart_9 : decode cX1_takePart 9 = .ok (.iload_n 3, 1) := by decide +kernel
theorem dX1_takePart_10 : decode cX1_takePart 10 = .ok (.iconst 4, 1) := by decide +kernel
theorem dX1_takePart_11 : decode cX1_takePart 11 = .ok (.invokevirtual 39, 3) := by decide +kernel
theorem dX1_takePart_14 : decode cX1_takePart 14 = .ok (.istore 4, 2) := by decide +kernel
theorem dX1_takePart_16 : decode cX1_takePart 16 = .ok (.iload_n 3, 1) := by decide +kernel
theorem dX1_takePart_17 : decode cX1_takePart 17 = .ok (.iload_n 2, 1) := by decide +kernel
theorem dX1_takePart_18 : decode cX1_takePart 18 = .ok (.if_icmp .ge 15, 3) := by decide +kernel
theorem dX1_takePart_21 : decode cX1_takePart 21 = .ok (.aload_n 0, 1) := by decide +kernel
theorem dX1_takePart_22 : decode cX1_takePart 22 = .ok (.iload_n 3, 1) := by decide +kernel
theorem dX1_takePart_23 : decode cX1_takePart 23 = .ok (.iconst 1, 1) := by decide +kernel
theorem dX1_takePart_24 : decode cX1_takePart 24 = .ok (.iadd, 1) := by decide +kernel
theorem dX1_takePart_25 : decode cX1_takePart 25 = .ok (.iload_n 2, 1) := by decide +kernel
theorem dX1_takePart_26 : decode cX1_takePart 26 = .ok (.iconst 2, 1) := by decide +kernel
theorem dX1_takePart_27 : decode cX1_takePart 27 = .ok (.invokevirtual 39, 3) := by decide +kernel
theorem dX1_takePart_30 : decode cX1_takePart 30 = .ok (.goto 4, 3) := by decide +kernel
theorem dX1_takePart_33 : decode cX1_takePart 33 = .ok (.iconst 1, 1) := by decide +kernel
theorem dX1_takePart_34 : decode cX1_takePart 34 = .ok (.istore 5, 2) := by decide +kernel
theorem dX1_takePart_36 : decode cX1_takePart 36 = .ok (.iload 4, 2) := by decide +kernel
theorem dX1_takePart_38 : decode cX1_takePart 38 = .ok (.iconst (-1), 1) := by decide +kernel
theorem dX1_takePart_39 : decode cX1_takePart 39 = .ok (.if_icmp .eq 9, 3) := by decide +kernel
theorem dX1_takePart_42 : decode cX1_takePart 42 = .ok (.iload 5, 2) := by decide +kernel
theorem dX1_takePart_44 : decode cX1_takePart 44 = .ok (.iconst (-1), 1) := by decide +kernel
theorem dX1_takePart_45 : decode cX1_takePart 45 = .ok (.if_icmp .ne 5, 3) := by decide +kernel
theorem dX1_takePart_48 : decode cX1_takePart 48 = .ok (.iconst 1, 1) := by decide +kernel
theorem dX1_takePart_49 : decode cX1_takePart 49 = .ok (.ireturn, 1) := by decide +kernel
theorem dX1_takePart_50 : decode cX1_takePart 50 = .ok (.iload 4, 2) := by decide +kernel
theorem dX1_takePart_52 : decode cX1_takePart 52 = .ok (.invokestatic 43, 3) := by decide +kernel
theorem dX1_takePart_55 : decode cX1_takePart 55 = .ok (.ifCond .eq 14, 3) := by decide +kernel
theorem dX1_takePart_58 : decode cX1_takePart 58 = .ok (.iload 5, 2) := by decide +kernel
theorem dX1_takePart_60 : decode cX1_takePart 60 = .ok (.iconst 1, 1) := by decide +kernel
theorem dX1_takePart_61 : decode cX1_takePart 61 = .ok (.bipush 24, 2) := by decide +kernel
theorem dX1_takePart_63 : decode cX1_takePart 63 = .ok (.invokestatic 47, 3) := by decide +kernel
theorem dX1_takePart_66 : decode cX1_takePart 66 = .ok (.ifCond .ne 5, 3) := by decide +kernel
theorem dX1_takePart_69 : decode cX1_takePart 69 = .ok (.iconst 2, 1) := by decide +kernel
theorem dX1_takePart_70 : decode cX1_takePart 70 = .ok (.ireturn, 1) := by decide +kernel
theorem dX1_takePart_71 : decode cX1_takePart 71 = .ok (.aload_n 0, 1) := by decide +kernel
theorem dX1_takePart_72 : decode cX1_takePart 72 = .ok (.getfield 23, 3) := by decide +kernel
theorem dX1_takePart_75 : decode cX1_takePart 75 = .ok (.iload 5, 2) := by decide +kernel
theorem dX1_takePart_77 : decode cX1_takePart 77 = .ok (.iadd, 1) := by decide +kernel
theorem dX1_takePart_78 : decode cX1_takePart 78 = .ok (.bipush 24, 2) := by decide +kernel
theorem dX1_takePart_80 : decode cX1_takePart 80 = .ok (.if_icmp .le 5, 3) := by decide +kernel
theorem dX1_takePart_83 : decode cX1_takePart 83 = .ok (.iconst 3, 1) := by decide +kernel
theorem dX1_takePart_84 : decode cX1_takePart 84 = .ok (.ireturn, 1) := by decide +kernel
theorem dX1_takePart_85 : decode cX1_takePart 85 = .ok (.iconst 0, 1) := by decide +kernel
theorem dX1_takePart_86 : decode cX1_takePart 86 = .ok (.istore 6, 2) := by decide +kernel
theorem dX1_takePart_88 : decode cX1_takePart 88 = .ok (.iload 6, 2) := by decide +kernel
theorem dX1_takePart_90 : decode cX1_takePart 90 = .ok (.iload 5, 2) := by decide +kernel
theorem dX1_takePart_92 : decode cX1_takePart 92 = .ok (.if_icmp .ge 30, 3) := by decide +kernel
theorem dX1_takePart_95 : decode cX1_takePart 95 = .ok (.aload_n 0, 1) := by decide +kernel
theorem dX1_takePart_96 : decode cX1_takePart 96 = .ok (.getfield 15, 3) := by decide +kernel
theorem dX1_takePart_99 : decode cX1_takePart 99 = .ok (.aload_n 0, 1) := by decide +kernel
theorem dX1_takePart_100 : decode cX1_takePart 100 = .ok (.getfield 23, 3) := by decide +kernel
theorem dX1_takePart_103 : decode cX1_takePart 103 = .ok (.iload 4, 2) := by decide +kernel
theorem dX1_takePart_105 : decode cX1_takePart 105 = .ok (.iastore, 1) := by decide +kernel
theorem dX1_takePart_106 : decode cX1_takePart 106 = .ok (.aload_n 0, 1) := by decide +kernel
theorem dX1_takePart_107 : decode cX1_takePart 107 = .ok (.dup, 1) := by decide +kernel
theorem dX1_takePart_108 : decode cX1_takePart 108 = .ok (.getfield 23, 3) := by decide +kernel
theorem dX1_takePart_111 : decode cX1_takePart 111 = .ok (.iconst 1, 1) := by decide +kernel
theorem dX1_takePart_112 : decode cX1_takePart 112 = .ok (.iadd, 1) := by decide +kernel
theorem dX1_takePart_113 : decode cX1_takePart 113 = .ok (.putfield 23, 3) := by decide +kernel
theorem dX1_takePart_116 : decode cX1_takePart 116 = .ok (.iinc 6 1, 3) := by decide +kernel
theorem dX1_takePart_119 : decode cX1_takePart 119 = .ok (.goto (-31), 3) := by decide +kernel
theorem dX1_takePart_122 : decode cX1_takePart 122 = .ok (.iconst 0, 1) := by decide +kernel
theorem dX1_takePart_123 : decode cX1_takePart 123 = .ok (.ireturn, 1) := by decide +kernel
theorem dX1_findCross_0 : decode cX1_findCross 0 = .ok (.iload_n 1, 1) := by decide +kernel
theorem dX1_findCross_1 : decode cX1_findCross 1 = .ok (.istore_n 3, 1) := by decide +kernel
theorem dX1_findCross_2 : decode cX1_findCross 2 = .ok (.iload_n 3, 1) := by decide +kernel
theorem dX1_findCross_3 : decode cX1_findCross 3 = .ok (.iload_n 2, 1) := by decide +kernel
theorem dX1_findCross_4 : decode cX1_findCross 4 = .ok (.if_icmp .ge 22, 3) := by decide +kernel
theorem dX1_findCross_7 : decode cX1_findCross 7 = .ok (.aload_n 0, 1) := by decide +kernel
theorem dX1_findCross_8 : decode cX1_findCross 8 = .ok (.getfield 11, 3) := by decide +kernel
theorem dX1_findCross_11 : decode cX1_findCross 11 = .ok (.iload_n 3, 1) := by decide +kernel
theorem dX1_findCross_12 : decode cX1_findCross 12 = .ok (.caload, 1) := by decide +kernel
theorem dX1_findCross_13 : decode cX1_findCross 13 = .ok (.bipush 120, 2) := by decide +kernel
theorem dX1_findCross_15 : decode cX1_findCross 15 = .ok (.if_icmp .ne 5, 3) := by decide +kernel
theorem dX1_findCross_18 : decode cX1_findCross 18 = .ok (.iload_n 3, 1) := by decide +kernel
theorem dX1_findCross_19 : decode cX1_findCross 19 = .ok (.ireturn, 1) := by decide +kernel
theorem dX1_findCross_20 : decode cX1_findCross 20 = .ok (.iinc 3 1, 3) := by decide +kernel
theorem dX1_findCross_23 : decode cX1_findCross 23 = .ok (.goto (-21), 3) := by decide +kernel
theorem dX1_findCross_26 : decode cX1_findCross 26 = .ok (.iload_n 2, 1) := by decide +kernel
theorem dX1_findCross_27 : decode cX1_findCross 27 = .ok (.ireturn, 1) := by decide +kernel
theorem dX1_number_0 : decode cX1_number 0 = .ok (.iload_n 2, 1) := by decide +kernel
theorem dX1_number_1 : decode cX1_number 1 = .ok (.iload_n 1, 1) := by decide +kernel
theorem dX1_number_2 : decode cX1_number 2 = .ok (.isub, 1) := by decide +kernel
theorem dX1_number_3 : decode cX1_number 3 = .ok (.iconst 1, 1) := by decide +kernel
theorem dX1_number_4 : decode cX1_number 4 = .ok (.if_icmp .lt 10, 3) := by decide +kernel
theorem dX1_number_7 : decode cX1_number 7 = .ok (.iload_n 2, 1) := by decide +kernel
theorem dX1_number_8 : decode cX1_number 8 = .ok (.iload_n 1, 1) := by decide +kernel
theorem dX1_number_9 : decode cX1_number 9 = .ok (.isub, 1) := by decide +kernel
theorem dX1_number_10 : decode cX1_number 10 = .ok (.iload_n 3, 1) := by decide +kernel
theorem dX1_number_11 : decode cX1_number 11 = .ok (.if_icmp .le 5, 3) := by decide +kernel
theorem dX1_number_14 : decode cX1_number 14 = .ok (.iconst (-1), 1) := by decide +kernel
theorem dX1_number_15 : decode cX1_number 15 = .ok (.ireturn, 1) := by decide +kernel
theorem dX1_number_16 : decode cX1_number 16 = .ok (.iconst 0, 1) := by decide +kernel
theorem dX1_number_17 : decode cX1_number 17 = .ok (.istore 4, 2) := by decide +kernel
theorem dX1_number_19 : decode cX1_number 19 = .ok (.iload_n 1, 1) := by decide +kernel
theorem dX1_number_20 : decode cX1_number 20 = .ok (.istore 5, 2) := by decide +kernel
theorem dX1_number_22 : decode cX1_number 22 = .ok (.iload 5, 2) := by decide +kernel
theorem dX1_number_24 : decode cX1_number 24 = .ok (.iload_n 2, 1) := by decide +kernel
theorem dX1_number_25 : decode cX1_number 25 = .ok (.if_icmp .ge 53, 3) := by decide +kernel
theorem dX1_number_28 : decode cX1_number 28 = .ok (.aload_n 0, 1) := by decide +kernel
theorem dX1_number_29 : decode cX1_number 29 = .ok (.getfield 11, 3) := by decide +kernel
theorem dX1_number_32 : decode cX1_number 32 = .ok (.iload 5, 2) := by decide +kernel
theorem dX1_number_34 : decode cX1_number 34 = .ok (.caload, 1) := by decide +kernel
theorem dX1_number_35 : decode cX1_number 35 = .ok (.bipush 48, 2) := by decide +kernel
theorem dX1_number_37 : decode cX1_number 37 = .ok (.if_icmp .lt 15, 3) := by decide +kernel
theorem dX1_number_40 : decode cX1_number 40 = .ok (.aload_n 0, 1) := by decide +kernel
theorem dX1_number_41 : decode cX1_number 41 = .ok (.getfield 11, 3) := by decide +kernel
theorem dX1_number_44 : decode cX1_number 44 = .ok (.iload 5, 2) := by decide +kernel
theorem dX1_number_46 : decode cX1_number 46 = .ok (.caload, 1) := by decide +kernel
theorem dX1_number_47 : decode cX1_number 47 = .ok (.bipush 57, 2) := by decide +kernel
theorem dX1_number_49 : decode cX1_number 49 = .ok (.if_icmp .le 5, 3) := by decide +kernel
theorem dX1_number_52 : decode cX1_number 52 = .ok (.iconst (-1), 1) := by decide +kernel
theorem dX1_number_53 : decode cX1_number 53 = .ok (.ireturn, 1) := by decide +kernel
theorem dX1_number_54 : decode cX1_number 54 = .ok (.iload 4, 2) := by decide +kernel
theorem dX1_number_56 : decode cX1_number 56 = .ok (.bipush 10, 2) := by decide +kernel
theorem dX1_number_58 : decode cX1_number 58 = .ok (.imul, 1) := by decide +kernel
theorem dX1_number_59 : decode cX1_number 59 = .ok (.aload_n 0, 1) := by decide +kernel
theorem dX1_number_60 : decode cX1_number 60 = .ok (.getfield 11, 3) := by decide +kernel
theorem dX1_number_63 : decode cX1_number 63 = .ok (.iload 5, 2) := by decide +kernel
theorem dX1_number_65 : decode cX1_number 65 = .ok (.caload, 1) := by decide +kernel
theorem dX1_number_66 : decode cX1_number 66 = .ok (.iadd, 1) := by decide +kernel
theorem dX1_number_67 : decode cX1_number 67 = .ok (.bipush 48, 2) := by decide +kernel
theorem dX1_number_69 : decode cX1_number 69 = .ok (.isub, 1) := by decide +kernel
theorem dX1_number_70 : decode cX1_number 70 = .ok (.istore 4, 2) := by decide +kernel
theorem dX1_number_72 : decode cX1_number 72 = .ok (.iinc 5 1, 3) := by decide +kernel
theorem dX1_number_75 : decode cX1_number 75 = .ok (.goto (-53), 3) := by decide +kernel
theorem dX1_number_78 : decode cX1_number 78 = .ok (.iload 4, 2) := by decide +kernel
theorem dX1_number_80 : decode cX1_number 80 = .ok (.ireturn, 1) := by decide +kernel
set_option maxRecDepth 20000 in
theorem ggX2_init_X0_init : GoodIn wsX2_init wsX0_init := goodIn_r _ [10, 11, 2, 3, 12, 13, 14, 15, 16, 17, 18, 19, 22, 23, 24, 25, 26, 27, 28, 29, 30, 31] (by decide +kernel) (by decide +kernel)
set_option maxRecDepth 20000 in
theorem gX2_init_X0_init : GoodIn wsX2_init (wsX0_init) := ggX2_init_X0_init
theorem dX2_init_0 : decode cX2_init 0 = .ok (.aload_n 0, 1) := by decide +kernel
theorem dX2_init_1 : decode cX2_init 1 = .ok (.invokespecial 1, 3) := by decide +kernel
theorem dX2_init_4 : decode cX2_init 4 = .ok (.aload_n 0, 1) := by decide +kernel
theorem dX2_init_5 : decode cX2_init 5 = .ok (.iconst 5, 1) := by decide +kernel
theorem dX2_init_6 : decode cX2_init 6 = .ok (.anewarray 9, 3) := by decide +kernel
theorem dX2_init_9 : decode cX2_init 9 = .ok (.putfield 11, 3) := by decide +kernel
theorem dX2_init_12 : decode cX2_init 12 = .ok (.iconst 0, 1) := by decide +kernel
theorem dX2_init_13 : decode cX2_init 13 = .ok (.istore_n 1, 1) := by decide +kernel
theorem dX2_init_14 : decode cX2_init 14 = .ok (.iload_n 1, 1) := by decide +kernel
theorem dX2_init_15 : decode cX2_init 15 = .ok (.iconst 5, 1) := by decide +kernel
theorem dX2_init_16 : decode cX2_init 16 = .ok (.if_icmp .ge 22, 3) := by decide +kernel
theorem dX2_init_19 : decode cX2_init 19 = .ok (.aload_n 0, 1) := by decide +kernel
theorem dX2_init_20 : decode cX2_init 20 = .ok (.getfield 11, 3) := by decide +kernel
theorem dX2_init_23 : decode cX2_init 23 = .ok (.iload_n 1, 1) := by decide +kernel
theorem dX2_init_24 : decode cX2_init 24 = .ok (.new 9, 3) := by decide +kernel
theorem dX2_init_27 : decode cX2_init 27 = .ok (.dup, 1) := by decide +kernel
theorem dX2_init_28 : decode cX2_init 28 = .ok (.invokespecial 15, 3) := by decide +kernel
theorem dX2_init_31 : decode cX2_init 31 = .ok (.aastore, 1) := by decide +kernel
theorem dX2_init_32 : decode cX2_init 32 = .ok (.iinc 1 1, 3) := by decide +kernel
theorem dX2_init_35 : decode cX2_init 35 = .ok (.goto (-21), 3) := by decide +kernel
theorem dX2_init_38 : decode cX2_init 38 = .ok (.return_, 1) := by decide +kernel
set_option maxRecDepth 20000 in
theorem ggX2_keep_X2_dropOldest : GoodIn wsX2_keep wsX2_dropOldest := goodIn_r _ [7, 2, 1, 27, 28] (by decide +kernel) (by decide +kernel)
set_option maxRecDepth 20000 in
theorem gX2_keep_X2_dropOldest : GoodIn wsX2_keep (wsV RX2 20 RX2 yX2_dropOldest wsX2_dropOldest) := goodIn_app (goodIn_of _ (by decide +kernel)) ggX2_keep_X2_dropOldest
set_option maxRecDepth 20000 in
theorem ggX2_keep_X0_copyFrom : GoodIn wsX2_keep wsX0_copyFrom := goodIn_r _ [12, 13, 14, 15, 16, 17, 18, 19, 20, 21, 22, 23, 24, 25, 26, 29, 30, 31, 32, 33, 34, 35, 36, 37, 38] (by decide +kernel) (by decide +kernel)
set_option maxRecDepth 20000 in
theorem gX2_keep_X0_copyFrom : GoodIn wsX2_keep (wsV RX2 23 RX0 yX0_copyFrom wsX0_copyFrom) := goodIn_app (goodIn_of _ (by decide +kernel)) ggX2_keep_X0_copyFrom
theorem dX2_keep_0 : decode cX2_keep 0 = .ok (.aload_n 0, 1) := by decide +kernel
theorem dX2_keep_1 : decode cX2_keep 1 = .ok (.getfield 16, 3) := by decide +kernel
theorem dX2_keep_4 : decode cX2_keep 4 = .ok (.iconst 5, 1) := by decide +kernel
theorem dX2_keep_5 : decode cX2_keep 5 = .ok (.if_icmp .ne 7, 3) := by decide +kernel
theorem dX2_keep_8 : decode cX2_keep 8 = .ok (.aload_n 0, 1) := by decide +kernel
theorem dX2_keep_9 : decode cX2_keep 9 = .ok (.invokevirtual 20, 3) := by decide +kernel
theorem dX2_keep_12 : decode cX2_keep 12 = .ok (.aload_n 0, 1) := by decide +kernel
theorem dX2_keep_13 : decode cX2_keep 13 = .ok (.getfield 11, 3) := by decide +kernel
theorem dX2_keep_16 : decode cX2_keep 16 = .ok (.aload_n 0, 1) := by decide +kernel
theorem dX2_keep_17 : decode cX2_keep 17 = .ok (.getfield 16, 3) := by decide +kernel
theorem dX2_keep_20 : decode cX2_keep 20 = .ok (.aaload, 1) := by decide +kernel
theorem dX2_keep_21 : decode cX2_keep 21 = .ok (.aload_n 1, 1) := by decide +kernel
theorem dX2_keep_22 : decode cX2_keep 22 = .ok (.invokevirtual 23, 3) := by decide +kernel
theorem dX2_keep_25 : decode cX2_keep 25 = .ok (.aload_n 0, 1) := by decide +kernel
theorem dX2_keep_26 : decode cX2_keep 26 = .ok (.dup, 1) := by decide +kernel
theorem dX2_keep_27 : decode cX2_keep 27 = .ok (.getfield 16, 3) := by decide +kernel
theorem dX2_keep_30 : decode cX2_keep 30 = .ok (.iconst 1, 1) := by decide +kernel
theorem dX2_keep_31 : decode cX2_keep 31 = .ok (.iadd, 1) := by decide +kernel
theorem dX2_keep_32 : decode cX2_keep 32 = .ok (.putfield 16, 3) := by decide +kernel
theorem dX2_keep_35 : decode cX2_keep 35 = .ok (.return_, 1) := by decide +kernel
set_option maxRecDepth 20000 in
theorem ggX2_restore_X0_copyFrom : GoodIn wsX2_restore wsX0_copyFrom := goodIn_r _ [7, 8, 9, 10, 11, 12, 13, 14, 15, 16, 17, 18, 19, 20, 21, 24, 25, 26, 27, 28, 29, 30, 31, 32, 33] (by decide +kernel) (by decide +kernel)
set_option maxRecDepth 20000 in
theorem gX2_restore_X0_copyFrom : GoodIn wsX2_restore (wsV RX2 23 RX0 yX0_copyFrom wsX0_copyFrom) := goodIn_app (goodIn_of _ (by decide +kernel)) ggX2_restore_X0_copyFrom
theorem dX2_restore_0 : decode cX2_restore 0 = .ok (.aload_n 0, 1) := by decide +kernel
theorem dX2_restore_1 : decode cX2_restore 1 = .ok (.getfield 16, 3) := by decide +kernel
theorem dX2_restore_4 : decode cX2_restore 4 = .ok (.ifCond .le 26, 3) := by decide +kernel
theorem dX2_restore_7 : decode cX2_restore 7 = .ok (.aload_n 0, 1) := by decide +kernel
theorem dX2_restore_8 : decode cX2_restore 8 = .ok (.dup, 1) := by decide +kernel
theorem dX2_restore_9 : decode cX2_restore 9 = .ok (.getfield 16, 3) := by decide +kernel
theorem dX2_restore_12 : decode cX2_restore 12 = .ok (.iconst 1, 1) := by decide +kernel
theorem dX2_restore_13 : decode cX2_restore 13 = .ok (.isub, 1) := by decide +kernel
theorem dX2_restore_14 : decode cX2_restore 14 = .ok (.putfield 16, 3) := by decide +kernel
theorem dX2_restore_17 : decode cX2_restore 17 = .ok (.aload_n 1, 1) := by decide +kernel
theorem dX2_restore_18 : decode cX2_restore 18 = .ok (.aload_n 0, 1) := by decide +kernel
theorem dX2_restore_19 : decode cX2_restore 19 = .ok (.getfield 11, 3) := by decide +kernel
theorem dX2_restore_22 : decode cX2_restore 22 = .ok (.aload_n 0, 1) := by decide +kernel
theorem dX2_restore_23 : decode cX2_restore 23 = .ok (.getfield 16, 3) := by decide +kernel
theorem dX2_restore_26 : decode cX2_restore 26 = .ok (.aaload, 1) := by decide +kernel
theorem dX2_restore_27 : decode cX2_restore 27 = .ok (.invokevirtual 23, 3) := by decide +kernel
theorem dX2_restore_30 : decode cX2_restore 30 = .ok (.return_, 1) := by decide +kernel
theorem dX2_dropOldest_0 : decode cX2_dropOldest 0 = .ok (.aload_n 0, 1) := by decide +kernel
theorem dX2_dropOldest_1 : decode cX2_dropOldest 1 = .ok (.getfield 11, 3) := by decide +kernel
theorem dX2_dropOldest_4 : decode cX2_dropOldest 4 = .ok (.iconst 0, 1) := by decide +kernel
theorem dX2_dropOldest_5 : decode cX2_dropOldest 5 = .ok (.aaload, 1) := by decide +kernel
theorem dX2_dropOldest_6 : decode cX2_dropOldest 6 = .ok (.astore_n 1, 1) := by decide +kernel
theorem dX2_dropOldest_7 : decode cX2_dropOldest 7 = .ok (.iconst 1, 1) := by decide +kernel
theorem dX2_dropOldest_8 : decode cX2_dropOldest 8 = .ok (.istore_n 2, 1) := by decide +kernel
theorem dX2_dropOldest_9 : decode cX2_dropOldest 9 = .ok (.iload_n 2, 1) := by decide +kernel
theorem dX2_dropOldest_10 : decode cX2_dropOldest 10 = .ok (.iconst 5, 1) := by decide +kernel
theorem dX2_dropOldest_11 : decode cX2_dropOldest 11 = .ok (.if_icmp .ge 23, 3) := by decide +kernel
theorem dX2_dropOldest_14 : decode cX2_dropOldest 14 = .ok (.aload_n 0, 1) := by decide +kernel
theorem dX2_dropOldest_15 : decode cX2_dropOldest 15 = .ok (.getfield 11, 3) := by decide +kernel
theorem dX2_dropOldest_18 : decode cX2_dropOldest 18 = .ok (.iload_n 2, 1) := by decide +kernel
theorem dX2_dropOldest_19 : decode cX2_dropOldest 19 = .ok (.iconst 1, 1) := by decide +kernel
theorem dX2_dropOldest_20 : decode cX2_dropOldest 20 = .ok (.isub, 1) := by decide +kernel
theorem dX2_dropOldest_21 : decode cX2_dropOldest 21 = .ok (.aload_n 0, 1) := by decide +kernel
theorem dX2_dropOldest_22 : decode cX2_dropOldest 22 = .ok (.getfield 11, 3) := by decide +kernel
theorem dX2_dropOldest_25 : decode cX2_dropOldest 25 = .ok (.iload_n 2, 1) := by decide +kernel
theorem dX2_dropOldest_26 : decode cX2_dropOldest 26 = .ok (.aaload, 1) := by decide +kernel
theorem dX2_dropOldest_27 : decode cX2_dropOldest 27 = .ok (.aastore, 1) := by decide +kernel
theorem dX2_dropOldest_28 : decode cX2_dropOldest 28 = .ok (.iinc 2 1, 3) := by decide +kernel
theorem dX2_dropOldest_31 : decode cX2_dropOldest 31 = .ok (.goto (-22), 3) := by decide +kernel
theorem dX2_dropOldest_34 : decode cX2_dropOldest 34 = .ok (.aload_n 0, 1) := by decide +kernel
theorem dX2_dropOldest_35 : decode cX2_dropOldest 35 = .ok (.getfield 11, 3) := by decide +kernel
theorem dX2_dropOldest_38 : decode cX2_dropOldest 38 = .ok (.iconst 4, 1) := by decide +kernel
theorem dX2_dropOldest_39 : decode cX2_dropOldest 39 = .ok (.aload_n 1, 1) := by decide +kernel
theorem dX2_dropOldest_40 : decode cX2_dropOldest 40 = .ok (.aastore, 1) := by decide +kernel
theorem dX2_dropOldest_41 : decode cX2_dropOldest 41 = .ok (.aload_n 0, 1) := by decide +kernel
theorem dX2_dropOldest_42 : decode cX2_dropOldest 42 = .ok (.dup, 1) := by decide +kernel
theorem dX2_dropOldest_43 : decode cX2_dropOldest 43 = .ok (.getfield 16, 3) := by decide +kernel
theorem dX2_dropOldest_46 : decode cX2_dropOldest 46 = .ok (.iconst 1, 1) := by decide +kernel
theorem dX2_dropOldest_47 : decode cX2_dropOldest 47 = .ok (.isub, 1) := by decide +kernel
theorem dX2_dropOldest_48 : decode cX2_dropOldest 48 = .ok (.putfield 16, 3) := by decide +kernel
theorem dX2_dropOldest_51 : decode cX2_dropOldest 51 = .ok (.return_, 1) := by decide +kernel
theorem dX3_path_0 : decode cX3_path 0 = .ok (.iload_n 0, 1) := by decide +kernel
theorem dX3_path_1 : decode cX3_path 1 = .ok (.sipush 266, 3) := by decide +kernel
theorem dX3_path_4 : decode cX3_path 4 = .ok (.imul, 1) := by decide +kernel
theorem dX3_path_5 : decode cX3_path 5 = .ok (.bipush 100, 2) := by decide +kernel
theorem dX3_path_7 : decode cX3_path 7 = .ok (.idiv, 1) := by decide +kernel
theorem dX3_path_8 : decode cX3_path 8 = .ok (.ireturn, 1) := by decide +kernel
set_option maxRecDepth 20000 in
theorem ggX3_red_X3_brightness : GoodIn wsX3_red wsX3_brightness := goodIn_r _ [4] (by decide +kernel) (by decide +kernel)
set_option maxRecDepth 20000 in
theorem gX3_red_X3_brightness : GoodIn wsX3_red (va_wsS RX3 9 yX3_brightness wsX3_brightness) := goodIn_app (goodIn_of _ (by decide +kernel)) ggX3_red_X3_brightness
theorem dX3_red_0 : decode cX3_red 0 = .ok (.iload_n 0, 1) := by decide +kernel
theorem dX3_red_1 : decode cX3_red 1 = .ok (.sipush 1000, 3) := by decide +kernel
theorem dX3_red_4 : decode cX3_red 4 = .ok (.imul, 1) := by decide +kernel
theorem dX3_red_5 : decode cX3_red 5 = .ok (.sipush 650, 3) := by decide +kernel
theorem dX3_red_8 : decode cX3_red 8 = .ok (.idiv, 1) := by decide +kernel
theorem dX3_red_9 : decode cX3_red 9 = .ok (.invokestatic 9, 3) := by decide +kernel
theorem dX3_red_12 : decode cX3_red 12 = .ok (.ireturn, 1) := by decide +kernel
set_option maxRecDepth 20000 in
theorem ggX3_green_X3_brightness : GoodIn wsX3_green wsX3_brightness := goodIn_r _ [4] (by decide +kernel) (by decide +kernel)
set_option maxRecDepth 20000 in
theorem gX3_green_X3_brightness : GoodIn wsX3_green (va_wsS RX3 9 yX3_brightness wsX3_brightness) := goodIn_app (goodIn_of _ (by decide +kernel)) ggX3_green_X3_brightness
theorem dX3_green_0 : decode cX3_green 0 = .ok (.iload_n 0, 1) := by decide +kernel
theorem dX3_green_1 : decode cX3_green 1 = .ok (.sipush 1000, 3) := by decide +kernel
theorem dX3_green_4 : decode cX3_green 4 = .ok (.imul, 1) := by decide +kernel
theorem dX3_green_5 : decode cX3_green 5 = .ok (.sipush 530, 3) := by decide +kernel
theorem dX3_green_8 : decode cX3_green 8 = .ok (.idiv, 1) := by decide +kernel
theorem dX3_green_9 : decode cX3_green 9 = .ok (.invokestatic 9, 3) := by decide +kernel
theorem dX3_green_12 : decode cX3_green 12 = .ok (.ireturn, 1) := by decide +kernel
set_option maxRecDepth 20000 in
theorem ggX3_blue_X3_brightness : GoodIn wsX3_blue wsX3_brightness := goodIn_r _ [4] (by decide +kernel) (by decide +kernel)
set_option maxRecDepth 20000 in
theorem gX3_blue_X3_brightness : GoodIn wsX3_blue (va_wsS RX3 9 yX3_brightness wsX3_brightness) := goodIn_app (goodIn_of _ (by decide +kernel)) ggX3_blue_X3_brightness
theorem dX3_blue_0 : decode cX3_blue 0 = .ok (.iload_n 0, 1) := by decide +kernel
theorem dX3_blue_1 : decode cX3_blue 1 = .ok (.sipush 1000, 3) := by decide +kernel
theorem dX3_blue_4 : decode cX3_blue 4 = .ok (.imul, 1) := by decide +kernel
theorem dX3_blue_5 : decode cX3_blue 5 = .ok (.sipush 460, 3) := by decide +kernel
theorem dX3_blue_8 : decode cX3_blue 8 = .ok (.idiv, 1) := by decide +kernel
theorem dX3_blue_9 : decode cX3_blue 9 = .ok (.invokestatic 9, 3) := by decide +kernel
theorem dX3_blue_12 : decode cX3_blue 12 = .ok (.ireturn, 1) := by decide +kernel
theorem dX3_order_0 : decode cX3_order 0 = .ok (.iload_n 0, 1) := by decide +kernel
theorem dX3_order_1 : decode cX3_order 1 = .ok (.sipush 530, 3) := by decide +kernel
theorem dX3_order_4 : decode cX3_order 4 = .ok (.idiv, 1) := by decide +kernel
theorem dX3_order_5 : decode cX3_order 5 = .ok (.ireturn, 1) := by decide +kernel
set_option maxRecDepth 20000 in
theorem ggX3_colour_X3_path : GoodIn wsX3_colour wsX3_path := goodIn_r _ [4] (by decide +kernel) (by decide +kernel)
set_option maxRecDepth 20000 in
theorem gX3_colour_X3_path : GoodIn wsX3_colour (va_wsS RX3 13 yX3_path wsX3_path) := goodIn_app (goodIn_of _ (by decide +kernel)) ggX3_colour_X3_path
set_option maxRecDepth 20000 in
theorem ggX3_colour_X3_red : GoodIn wsX3_colour wsX3_red := goodIn_r _ [7, 8, 9, 3, 10] (by decide +kernel) (by decide +kernel)
set_option maxRecDepth 20000 in
theorem gX3_colour_X3_red : GoodIn wsX3_colour (va_wsS RX3 16 yX3_red wsX3_red) := goodIn_app (goodIn_of _ (by decide +kernel)) ggX3_colour_X3_red
set_option maxRecDepth 20000 in
theorem ggX3_colour_X3_green : GoodIn wsX3_colour wsX3_green := goodIn_r _ [13, 8, 9, 3, 10] (by decide +kernel) (by decide +kernel)
set_option maxRecDepth 20000 in
theorem gX3_colour_X3_green : GoodIn wsX3_colour (va_wsS RX3 19 yX3_green wsX3_green) := goodIn_app (goodIn_of _ (by decide +kernel)) ggX3_colour_X3_green
set_option maxRecDepth 20000 in
theorem ggX3_colour_X3_blue : GoodIn wsX3_colour wsX3_blue := goodIn_r _ [16, 8, 9, 3, 10] (by decide +kernel) (by decide +kernel)
set_option maxRecDepth 20000 in
theorem gX3_colour_X3_blue : GoodIn wsX3_colour (va_wsS RX3 22 yX3_blue wsX3_blue) := goodIn_app (goodIn_of _ (by decide +kernel)) ggX3_colour_X3_blue
theorem dX3_colour_0 : decode cX3_colour 0 = .ok (.iload_n 0, 1) := by decide +kernel
theorem dX3_colour_1 : decode cX3_colour 1 = .ok (.iload_n 1, 1) := by decide +kernel
theorem dX3_colour_2 : decode cX3_colour 2 = .ok (.if_icmp .ge 5, 3) := by decide +kernel
theorem dX3_colour_5 : decode cX3_colour 5 = .ok (.iconst 0, 1) := by decide +kernel
theorem dX3_colour_6 : decode cX3_colour 6 = .ok (.ireturn, 1) := by decide +kernel
theorem dX3_colour_7 : decode cX3_colour 7 = .ok (.iload_n 0, 1) := by decide +kernel
theorem dX3_colour_8 : decode cX3_colour 8 = .ok (.invokestatic 13, 3) := by decide +kernel
theorem dX3_colour_11 : decode cX3_colour 11 = .ok (.istore_n 2, 1) := by decide +kernel
theorem dX3_colour_12 : decode cX3_colour 12 = .ok (.iload_n 2, 1) := by decide +kernel
theorem dX3_colour_13 : decode cX3_colour 13 = .ok (.invokestatic 16, 3) := by decide +kernel
theorem dX3_colour_16 : decode cX3_colour 16 = .ok (.sipush 500, 3) := by decide +kernel
theorem dX3_colour_19 : decode cX3_colour 19 = .ok (.if_icmp .lt 7, 3) := by decide +kernel
theorem dX3_colour_22 : decode cX3_colour 22 = .ok (.iconst 4, 1) := by decide +kernel
theorem dX3_colour_23 : decode cX3_colour 23 = .ok (.goto 4, 3) := by decide +kernel
theorem dX3_colour_26 : decode cX3_colour 26 = .ok (.iconst 0, 1) := by decide +kernel
theorem dX3_colour_27 : decode cX3_colour 27 = .ok (.istore_n 3, 1) := by decide +kernel
theorem dX3_colour_28 : decode cX3_colour 28 = .ok (.iload_n 2, 1) := by decide +kernel
theorem dX3_colour_29 : decode cX3_colour 29 = .ok (.invokestatic 19, 3) := by decide +kernel
theorem dX3_colour_32 : decode cX3_colour 32 = .ok (.sipush 500, 3) := by decide +kernel
theorem dX3_colour_35 : decode cX3_colour 35 = .ok (.if_icmp .lt 6, 3) := by decide +kernel
theorem dX3_colour_38 : decode cX3_colour 38 = .ok (.iinc 3 2, 3) := by decide +kernel
theorem dX3_colour_41 : decode cX3_colour 41 = .ok (.iload_n 2, 1) := by decide +kernel
theorem dX3_colour_42 : decode cX3_colour 42 = .ok (.invokestatic 22, 3) := by decide +kernel
theorem dX3_colour_45 : decode cX3_colour 45 = .ok (.sipush 500, 3) := by decide +kernel
theorem dX3_colour_48 : decode cX3_colour 48 = .ok (.if_icmp .lt 6, 3) := by decide +kernel
theorem dX3_colour_51 : decode cX3_colour 51 = .ok (.iinc 3 1, 3) := by decide +kernel
theorem dX3_colour_54 : decode cX3_colour 54 = .ok (.iload_n 3, 1) := by decide +kernel
theorem dX3_colour_55 : decode cX3_colour 55 = .ok (.ireturn, 1) := by decide +kernel
theorem dX3_brightness_0 : decode cX3_brightness 0 = .ok (.iload_n 0, 1) := by decide +kernel
theorem dX3_brightness_1 : decode cX3_brightness 1 = .ok (.sipush 1000, 3) := by decide +kernel
theorem dX3_brightness_4 : decode cX3_brightness 4 = .ok (.irem, 1) := by decide +kernel
theorem dX3_brightness_5 : decode cX3_brightness 5 = .ok (.istore_n 1, 1) := by decide +kernel
theorem dX3_brightness_6 : decode cX3_brightness 6 = .ok (.iload_n 1, 1) := by decide +kernel
theorem dX3_brightness_7 : decode cX3_brightness 7 = .ok (.sipush 500, 3) := by decide +kernel
theorem dX3_brightness_10 : decode cX3_brightness 10 = .ok (.if_icmp .gt 9, 3) := by decide +kernel
theorem dX3_brightness_13 : decode cX3_brightness 13 = .ok (.iconst 2, 1) := by decide +kernel
theorem dX3_brightness_14 : decode cX3_brightness 14 = .ok (.iload_n 1, 1) := by decide +kernel
theorem dX3_brightness_15 : decode cX3_brightness 15 = .ok (.imul, 1) := by decide +kernel
theorem dX3_brightness_16 : decode cX3_brightness 16 = .ok (.goto 10, 3) := by decide +kernel
theorem dX3_brightness_19 : decode cX3_brightness 19 = .ok (.iconst 2, 1) := by decide +kernel
theorem dX3_brightness_20 : decode cX3_brightness 20 = .ok (.sipush 1000, 3) := by decide +kernel
theorem dX3_brightness_23 : decode cX3_brightness 23 = .ok (.iload_n 1, 1) := by decide +kernel
theorem dX3_brightness_24 : decode cX3_brightness 24 = .ok (.isub, 1) := by decide +kernel
theorem dX3_brightness_25 : decode cX3_brightness 25 = .ok (.imul, 1) := by decide +kernel
theorem dX3_brightness_26 : decode cX3_brightness 26 = .ok (.ireturn, 1) := by decide +kernel
set_option maxRecDepth 20000 in
theorem ggX4_init_X0_init : GoodIn wsX4_init wsX0_init := goodIn_r _ [19, 20, 2, 3, 21, 22, 23, 24, 25, 26, 27, 28, 42, 43, 44, 45, 46, 47, 48, 49, 50, 51] (by decide +kernel) (by decide +kernel)
set_option maxRecDepth 20000 in
theorem gX4_init_X0_init : GoodIn wsX4_init (wsX0_init) := ggX4_init_X0_init
set_option maxRecDepth 20000 in
theorem ggX4_init_X2_init : GoodIn wsX4_init wsX2_init := goodIn_r _ [31, 32, 2, 3, 33, 34, 5, 6, 35, 18, 19, 20, 21, 22, 23, 24, 25, 26, 27, 28, 56, 57, 42, 43, 44, 45, 46, 47, 48, 49, 50, 51] (by decide +kernel) (by decide +kernel)
set_option maxRecDepth 20000 in
theorem gX4_init_X2_init : GoodIn wsX4_init (wsX2_init) := ggX4_init_X2_init
set_option maxRecDepth 20000 in
theorem ggX4_init_X1_init : GoodIn wsX4_init wsX1_init := goodIn_r _ [37, 38, 2, 3, 39, 40, 21, 41, 58, 59, 60, 61, 62, 63] (by decide +kernel) (by decide +kernel)
set_option maxRecDepth 20000 in
theorem gX4_init_X1_init_n28 : GoodIn wsX4_init (wsX1_init) := ggX4_init_X1_init
theorem dX4_init_0 : decode cX4_init 0 = .ok (.aload_n 0, 1) := by decide +kernel
theorem dX4_init_1 : decode cX4_init 1 = .ok (.invokespecial 1, 3) := by decide +kernel
theorem dX4_init_4 : decode cX4_init 4 = .ok (.aload_n 0, 1) := by decide +kernel
theorem dX4_init_5 : decode cX4_init 5 = .ok (.new 7, 3) := by decide +kernel
theorem dX4_init_8 : decode cX4_init 8 = .ok (.dup, 1) := by decide +kernel
theorem dX4_init_9 : decode cX4_init 9 = .ok (.invokespecial 9, 3) := by decide +kernel
theorem dX4_init_12 : decode cX4_init 12 = .ok (.putfield 10, 3) := by decide +kernel
theorem dX4_init_15 : decode cX4_init 15 = .ok (.aload_n 0, 1) := by decide +kernel
theorem dX4_init_16 : decode cX4_init 16 = .ok (.new 7, 3) := by decide +kernel
theorem dX4_init_19 : decode cX4_init 19 = .ok (.dup, 1) := by decide +kernel
theorem dX4_init_20 : decode cX4_init 20 = .ok (.invokespecial 9, 3) := by decide +kernel
theorem dX4_init_23 : decode cX4_init 23 = .ok (.putfield 16, 3) := by decide +kernel
theorem dX4_init_26 : decode cX4_init 26 = .ok (.aload_n 0, 1) := by decide +kernel
theorem dX4_init_27 : decode cX4_init 27 = .ok (.new 19, 3) := by decide +kernel
theorem dX4_init_30 : decode cX4_init 30 = .ok (.dup, 1) := by decide +kernel
theorem dX4_init_31 : decode cX4_init 31 = .ok (.invokespecial 21, 3) := by decide +kernel
theorem dX4_init_34 : decode cX4_init 34 = .ok (.putfield 22, 3) := by decide +kernel
theorem dX4_init_37 : decode cX4_init 37 = .ok (.aload_n 0, 1) := by decide +kernel
theorem dX4_init_38 : decode cX4_init 38 = .ok (.new 26, 3) := by decide +kernel
theorem dX4_init_41 : decode cX4_init 41 = .ok (.dup, 1) := by decide +kernel
theorem dX4_init_42 : decode cX4_init 42 = .ok (.invokespecial 28, 3) := by decide +kernel
theorem dX4_init_45 : decode cX4_init 45 = .ok (.putfield 29, 3) := by decide +kernel
theorem dX4_init_48 : decode cX4_init 48 = .ok (.return_, 1) := by decide +kernel
set_option maxRecDepth 20000 in
theorem ggX4_set_X4_isBetween : GoodIn wsX4_set wsX4_isBetween := goodIn_r _ [9] (by decide +kernel) (by decide +kernel)
set_option maxRecDepth 20000 in
theorem gX4_set_X4_isBetween : GoodIn wsX4_set (va_wsS RX4 40 yX4_isBetween wsX4_isBetween) := goodIn_app (goodIn_of _ (by decide +kernel)) ggX4_set_X4_isBetween
set_option maxRecDepth 20000 in
theorem ggX4_set_X2_keep : GoodIn wsX4_set wsX2_keep := goodIn_r _ [14, 15, 16, 17, 18, 19, 13, 20, 21, 22, 23, 24, 25, 26, 27, 28, 29, 30, 31, 32, 33, 34, 35, 36, 37, 38, 39, 54, 55, 44, 45, 46, 47, 48, 49, 50, 51, 52, 53] (by decide +kernel) (by decide +kernel)
set_option maxRecDepth 20000 in
theorem gX4_set_X2_keep : GoodIn wsX4_set (wsV RX4 44 RX2 yX2_keep wsX2_keep) := goodIn_app (goodIn_of _ (by decide +kernel)) ggX4_set_X2_keep
theorem dX4_set_0 : decode cX4_set 0 = .ok (.iload_n 1, 1) := by decide +kernel
theorem dX4_set_1 : decode cX4_set 1 = .ok (.ifCond .lt 9, 3) := by decide +kernel
theorem dX4_set_4 : decode cX4_set 4 = .ok (.iload_n 1, 1) := by decide +kernel
theorem dX4_set_5 : decode cX4_set 5 = .ok (.bipush 7, 2) := by decide +kernel
theorem dX4_set_7 : decode cX4_set 7 = .ok (.if_icmp .lt 5, 3) := by decide +kernel
theorem dX4_set_10 : decode cX4_set 10 = .ok (.iconst (-1), 1) := by decide +kernel
theorem dX4_set_11 : decode cX4_set 11 = .ok (.ireturn, 1) := by decide +kernel
theorem dX4_set_12 : decode cX4_set 12 = .ok (.iload_n 2, 1) := by decide +kernel
theorem dX4_set_13 : decode cX4_set 13 = .ok (.getstatic 33, 3) := by decide +kernel
theorem dX4_set_16 : decode cX4_set 16 = .ok (.iload_n 1, 1) := by decide +kernel
theorem dX4_set_17 : decode cX4_set 17 = .ok (.iaload, 1) := by decide +kernel
theorem dX4_set_18 : decode cX4_set 18 = .ok (.getstatic 37, 3) := by decide +kernel
theorem dX4_set_21 : decode cX4_set 21 = .ok (.iload_n 1, 1) := by decide +kernel
theorem dX4_set_22 : decode cX4_set 22 = .ok (.iaload, 1) := by decide +kernel
theorem dX4_set_23 : decode cX4_set 23 = .ok (.invokestatic 40, 3) := by decide +kernel
theorem dX4_set_26 : decode cX4_set 26 = .ok (.ifCond .ne 5, 3) := by decide +kernel
theorem dX4_set_29 : decode cX4_set 29 = .ok (.iconst (-1), 1) := by decide +kernel
theorem dX4_set_30 : decode cX4_set 30 = .ok (.ireturn, 1) := by decide +kernel
theorem dX4_set_31 : decode cX4_set 31 = .ok (.aload_n 0, 1) := by decide +kernel
theorem dX4_set_32 : decode cX4_set 32 = .ok (.getfield 22, 3) := by decide +kernel
theorem dX4_set_35 : decode cX4_set 35 = .ok (.aload_n 0, 1) := by decide +kernel
theorem dX4_set_36 : decode cX4_set 36 = .ok (.getfield 10, 3) := by decide +kernel
theorem dX4_set_39 : decode cX4_set 39 = .ok (.invokevirtual 44, 3) := by decide +kernel
theorem dX4_set_42 : decode cX4_set 42 = .ok (.aload_n 0, 1) := by decide +kernel
theorem dX4_set_43 : decode cX4_set 43 = .ok (.getfield 10, 3) := by decide +kernel
theorem dX4_set_46 : decode cX4_set 46 = .ok (.getfield 48, 3) := by decide +kernel
theorem dX4_set_49 : decode cX4_set 49 = .ok (.iload_n 1, 1) := by decide +kernel
theorem dX4_set_50 : decode cX4_set 50 = .ok (.iaload, 1) := by decide +kernel
theorem dX4_set_51 : decode cX4_set 51 = .ok (.istore_n 3, 1) := by decide +kernel
theorem dX4_set_52 : decode cX4_set 52 = .ok (.aload_n 0, 1) := by decide +kernel
theorem dX4_set_53 : decode cX4_set 53 = .ok (.getfield 10, 3) := by decide +kernel
theorem dX4_set_56 : decode cX4_set 56 = .ok (.getfield 48, 3) := by decide +kernel
theorem dX4_set_59 : decode cX4_set 59 = .ok (.iload_n 1, 1) := by decide +kernel
theorem dX4_set_60 : decode cX4_set 60 = .ok (.iload_n 2, 1) := by decide +kernel
theorem dX4_set_61 : decode cX4_set 61 = .ok (.iastore, 1) := by decide +kernel
theorem dX4_set_62 : decode cX4_set 62 = .ok (.iload_n 3, 1) := by decide +kernel
theorem dX4_set_63 : decode cX4_set 63 = .ok (.ireturn, 1) := by decide +kernel
set_option maxRecDepth 20000 in
theorem ggX4_dip_X4_isBetween : GoodIn wsX4_dip wsX4_isBetween := goodIn_r _ [7] (by decide +kernel) (by decide +kernel)
set_option maxRecDepth 20000 in
theorem gX4_dip_X4_isBetween : GoodIn wsX4_dip (va_wsS RX4 40 yX4_isBetween wsX4_isBetween) := goodIn_app (goodIn_of _ (by decide +kernel)) ggX4_dip_X4_isBetween
set_option maxRecDepth 20000 in
theorem ggX4_dip_X4_isThickness : GoodIn wsX4_dip wsX4_isThickness := goodIn_r _ [10, 4, 5, 6, 7] (by decide +kernel) (by decide +kernel)
set_option maxRecDepth 20000 in
theorem gX4_dip_X4_isThickness : GoodIn wsX4_dip (va_wsS RX4 51 yX4_isThickness wsX4_isThickness) := goodIn_app (goodIn_of _ (by decide +kernel)) ggX4_dip_X4_isThickness
set_option maxRecDepth 20000 in
theorem ggX4_dip_X2_keep : GoodIn wsX4_dip wsX2_keep := goodIn_r _ [15, 16, 17, 18, 19, 20, 14, 21, 22, 23, 24, 25, 26, 27, 28, 29, 30, 31, 32, 33, 34, 35, 36, 37, 38, 39, 40, 75, 76, 65, 66, 67, 68, 69, 70, 71, 72, 73, 74] (by decide +kernel) (by decide +kernel)
set_option maxRecDepth 20000 in
theorem gX4_dip_X2_keep : GoodIn wsX4_dip (wsV RX4 44 RX2 yX2_keep wsX2_keep) := goodIn_app (goodIn_of _ (by decide +kernel)) ggX4_dip_X2_keep
set_option maxRecDepth 20000 in
theorem ggX4_dip_X0_takeAway : GoodIn wsX4_dip wsX0_takeAway := goodIn_r _ [44, 45, 46, 47, 25, 48, 33, 34, 49, 50, 51, 52, 65, 66, 67, 68, 69, 70, 71, 72, 73, 74] (by decide +kernel) (by decide +kernel)
set_option maxRecDepth 20000 in
theorem gX4_dip_X0_takeAway : GoodIn wsX4_dip (wsV RX4 55 RX0 yX0_takeAway wsX0_takeAway) := goodIn_app (goodIn_of _ (by decide +kernel)) ggX4_dip_X0_takeAway
set_option maxRecDepth 20000 in
theorem ggX4_dip_X0_appendRow : GoodIn wsX4_dip wsX0_appendRow := goodIn_r _ [56, 34, 27, 57, 58, 59, 25, 60, 33, 65, 66, 67, 68, 69, 70, 71, 72, 73, 74] (by decide +kernel) (by decide +kernel)
set_option maxRecDepth 20000 in
theorem gX4_dip_X0_appendRow : GoodIn wsX4_dip (wsV RX4 58 RX0 yX0_appendRow wsX0_appendRow) := goodIn_app (goodIn_of _ (by decide +kernel)) ggX4_dip_X0_appendRow
theorem dX4_dip_0 : decode cX4_dip 0 = .ok (.iload_n 1, 1) := by decide +kernel
theorem dX4_dip_1 : decode cX4_dip 1 = .ok (.iconst 1, 1) := by decide +kernel
theorem dX4_dip_2 : decode cX4_dip 2 = .ok (.bipush 24, 2) := by decide +kernel
theorem dX4_dip_4 : decode cX4_dip 4 = .ok (.invokestatic 40, 3) := by decide +kernel
theorem dX4_dip_7 : decode cX4_dip 7 = .ok (.ifCond .eq 21, 3) := by decide +kernel
theorem dX4_dip_10 : decode cX4_dip 10 = .ok (.iload_n 2, 1) := by decide +kernel
theorem dX4_dip_11 : decode cX4_dip 11 = .ok (.invokestatic 51, 3) := by decide +kernel
theorem dX4_dip_14 : decode cX4_dip 14 = .ok (.ifCond .eq 14, 3) := by decide +kernel
theorem dX4_dip_17 : decode cX4_dip 17 = .ok (.iload_n 3, 1) := by decide +kernel
theorem dX4_dip_18 : decode cX4_dip 18 = .ok (.iconst 0, 1) := by decide +kernel
theorem dX4_dip_19 : decode cX4_dip 19 = .ok (.sipush 500, 3) := by decide +kernel
theorem dX4_dip_22 : decode cX4_dip 22 = .ok (.invokestatic 40, 3) := by decide +kernel
theorem dX4_dip_25 : decode cX4_dip 25 = .ok (.ifCond .ne 5, 3) := by decide +kernel
theorem dX4_dip_28 : decode cX4_dip 28 = .ok (.iconst (-1), 1) := by decide +kernel
theorem dX4_dip_29 : decode cX4_dip 29 = .ok (.ireturn, 1) := by decide +kernel
theorem dX4_dip_30 : decode cX4_dip 30 = .ok (.iload_n 2, 1) := by decide +kernel
theorem dX4_dip_31 : decode cX4_dip 31 = .ok (.iload_n 3, 1) := by decide +kernel
theorem dX4_dip_32 : decode cX4_dip 32 = .ok (.iload_n 1, 1) := by decide +kernel
theorem dX4_dip_33 : decode cX4_dip 33 = .ok (.iconst 1, 1) := by decide +kernel
theorem dX4_dip_34 : decode cX4_dip 34 = .ok (.isub, 1) := by decide +kernel
theorem dX4_dip_35 : decode cX4_dip 35 = .ok (.imul, 1) := by decide +kernel
theorem dX4_dip_36 : decode cX4_dip 36 = .ok (.iadd, 1) := by decide +kernel
theorem dX4_dip_37 : decode cX4_dip 37 = .ok (.invokestatic 51, 3) := by decide +kernel
theorem dX4_dip_40 : decode cX4_dip 40 = .ok (.ifCond .ne 5, 3) := by decide +kernel
theorem dX4_dip_43 : decode cX4_dip 43 = .ok (.iconst (-1), 1) := by decide +kernel
theorem dX4_dip_44 : decode cX4_dip 44 = .ok (.ireturn, 1) := by decide +kernel
theorem dX4_dip_45 : decode cX4_dip 45 = .ok (.aload_n 0, 1) := by decide +kernel
theorem dX4_dip_46 : decode cX4_dip 46 = .ok (.getfield 22, 3) := by decide +kernel
theorem dX4_dip_49 : decode cX4_dip 49 = .ok (.aload_n 0, 1) := by decide +kernel
theorem dX4_dip_50 : decode cX4_dip 50 = .ok (.getfield 10, 3) := by decide +kernel
theorem dX4_dip_53 : decode cX4_dip 53 = .ok (.invokevirtual 44, 3) := by decide +kernel
theorem dX4_dip_56 : decode cX4_dip 56 = .ok (.aload_n 0, 1) := by decide +kernel
theorem dX4_dip_57 : decode cX4_dip 57 = .ok (.getfield 10, 3) := by decide +kernel
theorem dX4_dip_60 : decode cX4_dip 60 = .ok (.invokevirtual 55, 3) := by decide +kernel
theorem dX4_dip_63 : decode cX4_dip 63 = .ok (.iconst 0, 1) := by decide +kernel
theorem dX4_dip_64 : decode cX4_dip 64 = .ok (.istore 4, 2) := by decide +kernel
theorem dX4_dip_66 : decode cX4_dip 66 = .ok (.iload 4, 2) := by decide +kernel
theorem dX4_dip_68 : decode cX4_dip 68 = .ok (.iload_n 1, 1) := by decide +kernel
theorem dX4_dip_69 : decode cX4_dip 69 = .ok (.if_icmp .ge 22, 3) := by decide +kernel
theorem dX4_dip_72 : decode cX4_dip 72 = .ok (.aload_n 0, 1) := by decide +kernel
theorem dX4_dip_73 : decode cX4_dip 73 = .ok (.getfield 10, 3) := by decide +kernel
theorem dX4_dip_76 : decode cX4_dip 76 = .ok (.iload_n 2, 1) := by decide +kernel
theorem dX4_dip_77 : decode cX4_dip 77 = .ok (.iload_n 3, 1) := by decide +kernel
theorem dX4_dip_78 : decode cX4_dip 78 = .ok (.iload 4, 2) := by decide +kernel
theorem dX4_dip_80 : decode cX4_dip 80 = .ok (.imul, 1) := by decide +kernel
theorem dX4_dip_81 : decode cX4_dip 81 = .ok (.iadd, 1) := by decide +kernel
theorem dX4_dip_82 : decode cX4_dip 82 = .ok (.invokevirtual 58, 3) := by decide +kernel
theorem dX4_dip_85 : decode cX4_dip 85 = .ok (.iinc 4 1, 3) := by decide +kernel
theorem dX4_dip_88 : decode cX4_dip 88 = .ok (.goto (-22), 3) := by decide +kernel
theorem dX4_dip_91 : decode cX4_dip 91 = .ok (.aload_n 0, 1) := by decide +kernel
theorem dX4_dip_92 : decode cX4_dip 92 = .ok (.getfield 10, 3) := by decide +kernel
theorem dX4_dip_95 : decode cX4_dip 95 = .ok (.getfield 62, 3) := by decide +kernel
theorem dX4_dip_98 : decode cX4_dip 98 = .ok (.iconst 1, 1) := by decide +kernel
theorem dX4_dip_99 : decode cX4_dip 99 = .ok (.iaload, 1) := by decide +kernel
theorem dX4_dip_100 : decode cX4_dip 100 = .ok (.ireturn, 1) := by decide +kernel
set_option maxRecDepth 20000 in
theorem ggX4_pour_X0_hasRow : GoodIn wsX4_pour wsX0_hasRow := goodIn_r _ [8, 9, 53, 54, 55, 56, 57, 58, 59, 60, 61, 62] (by decide +kernel) (by decide +kernel)
set_option maxRecDepth 20000 in
theorem gX4_pour_X0_hasRow : GoodIn wsX4_pour (wsV RX4 65 RX0 yX0_hasRow wsX0_hasRow) := goodIn_app (goodIn_of _ (by decide +kernel)) ggX4_pour_X0_hasRow
set_option maxRecDepth 20000 in
theorem ggX4_pour_X4_isBetween : GoodIn wsX4_pour wsX4_isBetween := goodIn_r _ [13] (by decide +kernel) (by decide +kernel)
set_option maxRecDepth 20000 in
theorem gX4_pour_X4_isBetween : GoodIn wsX4_pour (va_wsS RX4 40 yX4_isBetween wsX4_isBetween) := goodIn_app (goodIn_of _ (by decide +kernel)) ggX4_pour_X4_isBetween
set_option maxRecDepth 20000 in
theorem ggX4_pour_X4_isThickness : GoodIn wsX4_pour wsX4_isThickness := goodIn_r _ [16, 10, 11, 12, 13] (by decide +kernel) (by decide +kernel)
set_option maxRecDepth 20000 in
theorem gX4_pour_X4_isThickness : GoodIn wsX4_pour (va_wsS RX4 51 yX4_isThickness wsX4_isThickness) := goodIn_app (goodIn_of _ (by decide +kernel)) ggX4_pour_X4_isThickness
set_option maxRecDepth 20000 in
theorem ggX4_pour_X2_keep : GoodIn wsX4_pour wsX2_keep := goodIn_r _ [21, 22, 23, 24, 25, 26, 20, 27, 28, 29, 30, 7, 31, 32, 33, 34, 35, 36, 37, 38, 9, 39, 40, 41, 42, 43, 44, 63, 64, 53, 54, 55, 56, 57, 58, 59, 60, 61, 62] (by decide +kernel) (by decide +kernel)
set_option maxRecDepth 20000 in
theorem gX4_pour_X2_keep : GoodIn wsX4_pour (wsV RX4 44 RX2 yX2_keep wsX2_keep) := goodIn_app (goodIn_of _ (by decide +kernel)) ggX4_pour_X2_keep
set_option maxRecDepth 20000 in
theorem ggX4_pour_X0_bring : GoodIn wsX4_pour wsX0_bring := goodIn_r _ [48, 38, 53, 54, 55, 56, 57, 58, 59, 60, 61, 62] (by decide +kernel) (by decide +kernel)
set_option maxRecDepth 20000 in
theorem gX4_pour_X0_bring : GoodIn wsX4_pour (wsV RX4 71 RX0 yX0_bring wsX0_bring) := goodIn_app (goodIn_of _ (by decide +kernel)) ggX4_pour_X0_bring
theorem dX4_pour_0 : decode cX4_pour 0 = .ok (.aload_n 0, 1) := by decide +kernel
theorem dX4_pour_1 : decode cX4_pour 1 = .ok (.getfield 10, 3) := by decide +kernel
theorem dX4_pour_4 : decode cX4_pour 4 = .ok (.iload_n 1, 1) := by decide +kernel
theorem dX4_pour_5 : decode cX4_pour 5 = .ok (.invokevirtual 65, 3) := by decide +kernel
theorem dX4_pour_8 : decode cX4_pour 8 = .ok (.ifCond .eq 14, 3) := by decide +kernel
theorem dX4_pour_11 : decode cX4_pour 11 = .ok (.iload_n 2, 1) := by decide +kernel
theorem dX4_pour_12 : decode cX4_pour 12 = .ok (.iconst 1, 1) := by decide +kernel
theorem dX4_pour_13 : decode cX4_pour 13 = .ok (.sipush 5000, 3) := by decide +kernel
theorem dX4_pour_16 : decode cX4_pour 16 = .ok (.invokestatic 40, 3) := by decide +kernel
theorem dX4_pour_19 : decode cX4_pour 19 = .ok (.ifCond .ne 5, 3) := by decide +kernel
theorem dX4_pour_22 : decode cX4_pour 22 = .ok (.iconst (-1), 1) := by decide +kernel
theorem dX4_pour_23 : decode cX4_pour 23 = .ok (.ireturn, 1) := by decide +kernel
theorem dX4_pour_24 : decode cX4_pour 24 = .ok (.aload_n 0, 1) := by decide +kernel
theorem dX4_pour_25 : decode cX4_pour 25 = .ok (.getfield 10, 3) := by decide +kernel
theorem dX4_pour_28 : decode cX4_pour 28 = .ok (.getfield 68, 3) := by decide +kernel
theorem dX4_pour_31 : decode cX4_pour 31 = .ok (.iload_n 1, 1) := by decide +kernel
theorem dX4_pour_32 : decode cX4_pour 32 = .ok (.iaload, 1) := by decide +kernel
theorem dX4_pour_33 : decode cX4_pour 33 = .ok (.iload_n 2, 1) := by decide +kernel
theorem dX4_pour_34 : decode cX4_pour 34 = .ok (.iadd, 1) := by decide +kernel
theorem dX4_pour_35 : decode cX4_pour 35 = .ok (.invokestatic 51, 3) := by decide +kernel
theorem dX4_pour_38 : decode cX4_pour 38 = .ok (.ifCond .ne 6, 3) := by decide +kernel
theorem dX4_pour_41 : decode cX4_pour 41 = .ok (.bipush (-3), 2) := by decide +kernel
theorem dX4_pour_43 : decode cX4_pour 43 = .ok (.ireturn, 1) := by decide +kernel
theorem dX4_pour_44 : decode cX4_pour 44 = .ok (.aload_n 0, 1) := by decide +kernel
theorem dX4_pour_45 : decode cX4_pour 45 = .ok (.getfield 22, 3) := by decide +kernel
theorem dX4_pour_48 : decode cX4_pour 48 = .ok (.aload_n 0, 1) := by decide +kernel
theorem dX4_pour_49 : decode cX4_pour 49 = .ok (.getfield 10, 3) := by decide +kernel
theorem dX4_pour_52 : decode cX4_pour 52 = .ok (.invokevirtual 44, 3) := by decide +kernel
theorem dX4_pour_55 : decode cX4_pour 55 = .ok (.aload_n 0, 1) := by decide +kernel
theorem dX4_pour_56 : decode cX4_pour 56 = .ok (.getfield 10, 3) := by decide +kernel
theorem dX4_pour_59 : decode cX4_pour 59 = .ok (.getfield 68, 3) := by decide +kernel
theorem dX4_pour_62 : decode cX4_pour 62 = .ok (.iload_n 1, 1) := by decide +kernel
theorem dX4_pour_63 : decode cX4_pour 63 = .ok (.dup2, 1) := by decide +kernel
theorem dX4_pour_64 : decode cX4_pour 64 = .ok (.iaload, 1) := by decide +kernel
theorem dX4_pour_65 : decode cX4_pour 65 = .ok (.iload_n 2, 1) := by decide +kernel
theorem dX4_pour_66 : decode cX4_pour 66 = .ok (.iadd, 1) := by decide +kernel
theorem dX4_pour_67 : decode cX4_pour 67 = .ok (.iastore, 1) := by decide +kernel
theorem dX4_pour_68 : decode cX4_pour 68 = .ok (.aload_n 0, 1) := by decide +kernel
theorem dX4_pour_69 : decode cX4_pour 69 = .ok (.getfield 10, 3) := by decide +kernel
theorem dX4_pour_72 : decode cX4_pour 72 = .ok (.iload_n 2, 1) := by decide +kernel
theorem dX4_pour_73 : decode cX4_pour 73 = .ok (.invokevirtual 71, 3) := by decide +kernel
theorem dX4_pour_76 : decode cX4_pour 76 = .ok (.aload_n 0, 1) := by decide +kernel
theorem dX4_pour_77 : decode cX4_pour 77 = .ok (.getfield 10, 3) := by decide +kernel
theorem dX4_pour_80 : decode cX4_pour 80 = .ok (.getfield 68, 3) := by decide +kernel
theorem dX4_pour_83 : decode cX4_pour 83 = .ok (.iload_n 1, 1) := by decide +kernel
theorem dX4_pour_84 : decode cX4_pour 84 = .ok (.iaload, 1) := by decide +kernel
theorem dX4_pour_85 : decode cX4_pour 85 = .ok (.ireturn, 1) := by decide +kernel
set_option maxRecDepth 20000 in
theorem ggX4_add_X4_isThickness : GoodIn wsX4_add wsX4_isThickness := goodIn_r _ [7, 8, 9, 6, 10] (by decide +kernel) (by decide +kernel)
set_option maxRecDepth 20000 in
theorem gX4_add_X4_isThickness : GoodIn wsX4_add (va_wsS RX4 51 yX4_isThickness wsX4_isThickness) := goodIn_app (goodIn_of _ (by decide +kernel)) ggX4_add_X4_isThickness
set_option maxRecDepth 20000 in
theorem ggX4_add_X2_keep : GoodIn wsX4_add wsX2_keep := goodIn_r _ [15, 16, 17, 18, 19, 20, 14, 21, 22, 23, 24, 25, 26, 27, 28, 29, 30, 31, 32, 33, 34, 35, 36, 37, 38, 39, 40, 63, 64, 53, 54, 55, 56, 57, 58, 59, 60, 61, 62] (by decide +kernel) (by decide +kernel)
set_option maxRecDepth 20000 in
theorem gX4_add_X2_keep : GoodIn wsX4_add (wsV RX4 44 RX2 yX2_keep wsX2_keep) := goodIn_app (goodIn_of _ (by decide +kernel)) ggX4_add_X2_keep
set_option maxRecDepth 20000 in
theorem ggX4_add_X0_appendRow : GoodIn wsX4_add wsX0_appendRow := goodIn_r _ [44, 34, 27, 45, 46, 47, 25, 48, 33, 53, 54, 55, 56, 57, 58, 59, 60, 61, 62] (by decide +kernel) (by decide +kernel)
set_option maxRecDepth 20000 in
theorem gX4_add_X0_appendRow : GoodIn wsX4_add (wsV RX4 58 RX0 yX0_appendRow wsX0_appendRow) := goodIn_app (goodIn_of _ (by decide +kernel)) ggX4_add_X0_appendRow
theorem dX4_add_0 : decode cX4_add 0 = .ok (.iload_n 1, 1) := by decide +kernel
theorem dX4_add_1 : decode cX4_add 1 = .ok (.invokestatic 51, 3) := by decide +kernel
theorem dX4_add_4 : decode cX4_add 4 = .ok (.ifCond .ne 5, 3) := by decide +kernel
theorem dX4_add_7 : decode cX4_add 7 = .ok (.iconst (-1), 1) := by decide +kernel
theorem dX4_add_8 : decode cX4_add 8 = .ok (.ireturn, 1) := by decide +kernel
theorem dX4_add_9 : decode cX4_add 9 = .ok (.aload_n 0, 1) := by decide +kernel
theorem dX4_add_10 : decode cX4_add 10 = .ok (.getfield 10, 3) := by decide +kernel
theorem dX4_add_13 : decode cX4_add 13 = .ok (.getfield 74, 3) := by decide +kernel
theorem dX4_add_16 : decode cX4_add 16 = .ok (.ifCond .ne 6, 3) := by decide +kernel
theorem dX4_add_19 : decode cX4_add 19 = .ok (.bipush (-2), 2) := by decide +kernel
theorem dX4_add_21 : decode cX4_add 21 = .ok (.ireturn, 1) := by decide +kernel
theorem dX4_add_22 : decode cX4_add 22 = .ok (.aload_n 0, 1) := by decide +kernel
theorem dX4_add_23 : decode cX4_add 23 = .ok (.getfield 10, 3) := by decide +kernel
theorem dX4_add_26 : decode cX4_add 26 = .ok (.getfield 74, 3) := by decide +kernel
theorem dX4_add_29 : decode cX4_add 29 = .ok (.bipush 24, 2) := by decide +kernel
theorem dX4_add_31 : decode cX4_add 31 = .ok (.if_icmp .ne 6, 3) := by decide +kernel
theorem dX4_add_34 : decode cX4_add 34 = .ok (.bipush (-3), 2) := by decide +kernel
theorem dX4_add_36 : decode cX4_add 36 = .ok (.ireturn, 1) := by decide +kernel
theorem dX4_add_37 : decode cX4_add 37 = .ok (.aload_n 0, 1) := by decide +kernel
theorem dX4_add_38 : decode cX4_add 38 = .ok (.getfield 22, 3) := by decide +kernel
theorem dX4_add_41 : decode cX4_add 41 = .ok (.aload_n 0, 1) := by decide +kernel
theorem dX4_add_42 : decode cX4_add 42 = .ok (.getfield 10, 3) := by decide +kernel
theorem dX4_add_45 : decode cX4_add 45 = .ok (.invokevirtual 44, 3) := by decide +kernel
theorem dX4_add_48 : decode cX4_add 48 = .ok (.aload_n 0, 1) := by decide +kernel
theorem dX4_add_49 : decode cX4_add 49 = .ok (.getfield 10, 3) := by decide +kernel
theorem dX4_add_52 : decode cX4_add 52 = .ok (.iload_n 1, 1) := by decide +kernel
theorem dX4_add_53 : decode cX4_add 53 = .ok (.invokevirtual 58, 3) := by decide +kernel
theorem dX4_add_56 : decode cX4_add 56 = .ok (.aload_n 0, 1) := by decide +kernel
theorem dX4_add_57 : decode cX4_add 57 = .ok (.getfield 10, 3) := by decide +kernel
theorem dX4_add_60 : decode cX4_add 60 = .ok (.getfield 74, 3) := by decide +kernel
theorem dX4_add_63 : decode cX4_add 63 = .ok (.ireturn, 1) := by decide +kernel
set_option maxRecDepth 20000 in
theorem ggX4_thin_X0_hasRow : GoodIn wsX4_thin wsX0_hasRow := goodIn_r _ [7, 8, 57, 58, 59, 60, 61, 62, 63, 64, 65, 66] (by decide +kernel) (by decide +kernel)
set_option maxRecDepth 20000 in
theorem gX4_thin_X0_hasRow : GoodIn wsX4_thin (wsV RX4 65 RX0 yX0_hasRow wsX0_hasRow) := goodIn_app (goodIn_of _ (by decide +kernel)) ggX4_thin_X0_hasRow
set_option maxRecDepth 20000 in
theorem ggX4_thin_X4_isBetween : GoodIn wsX4_thin wsX4_isBetween := goodIn_r _ [12] (by decide +kernel) (by decide +kernel)
set_option maxRecDepth 20000 in
theorem gX4_thin_X4_isBetween : GoodIn wsX4_thin (va_wsS RX4 40 yX4_isBetween wsX4_isBetween) := goodIn_app (goodIn_of _ (by decide +kernel)) ggX4_thin_X4_isBetween
set_option maxRecDepth 20000 in
theorem ggX4_thin_X2_keep : GoodIn wsX4_thin wsX2_keep := goodIn_r _ [17, 18, 19, 20, 21, 22, 16, 23, 24, 25, 26, 6, 27, 28, 29, 30, 31, 32, 33, 34, 8, 35, 36, 37, 38, 39, 40, 67, 68, 57, 58, 59, 60, 61, 62, 63, 64, 65, 66] (by decide +kernel) (by decide +kernel)
set_option maxRecDepth 20000 in
theorem gX4_thin_X2_keep : GoodIn wsX4_thin (wsV RX4 44 RX2 yX2_keep wsX2_keep) := goodIn_app (goodIn_of _ (by decide +kernel)) ggX4_thin_X2_keep
set_option maxRecDepth 20000 in
theorem ggX4_thin_X0_loseFrom : GoodIn wsX4_thin wsX0_loseFrom := goodIn_r _ [44, 28, 45, 46, 47, 48, 49, 50, 51, 6, 52, 34, 57, 58, 59, 60, 61, 62, 63, 64, 65, 66] (by decide +kernel) (by decide +kernel)
set_option maxRecDepth 20000 in
theorem gX4_thin_X0_loseFrom : GoodIn wsX4_thin (wsV RX4 78 RX0 yX0_loseFrom wsX0_loseFrom) := goodIn_app (goodIn_of _ (by decide +kernel)) ggX4_thin_X0_loseFrom
theorem dX4_thin_0 : decode cX4_thin 0 = .ok (.aload_n 0, 1) := by decide +kernel
theorem dX4_thin_1 : decode cX4_thin 1 = .ok (.getfield 10, 3) := by decide +kernel
theorem dX4_thin_4 : decode cX4_thin 4 = .ok (.iload_n 1, 1) := by decide +kernel
theorem dX4_thin_5 : decode cX4_thin 5 = .ok (.invokevirtual 65, 3) := by decide +kernel
theorem dX4_thin_8 : decode cX4_thin 8 = .ok (.ifCond .eq 14, 3) := by decide +kernel
theorem dX4_thin_11 : decode cX4_thin 11 = .ok (.iload_n 2, 1) := by decide +kernel
theorem dX4_thin_12 : decode cX4_thin 12 = .ok (.iconst 1, 1) := by decide +kernel
theorem dX4_thin_13 : decode cX4_thin 13 = .ok (.sipush 5000, 3) := by decide +kernel
theorem dX4_thin_16 : decode cX4_thin 16 = .ok (.invokestatic 40, 3) := by decide +kernel
theorem dX4_thin_19 : decode cX4_thin 19 = .ok (.ifCond .ne 5, 3) := by decide +kernel
theorem dX4_thin_22 : decode cX4_thin 22 = .ok (.iconst (-1), 1) := by decide +kernel
theorem dX4_thin_23 : decode cX4_thin 23 = .ok (.ireturn, 1) := by decide +kernel
theorem dX4_thin_24 : decode cX4_thin 24 = .ok (.aload_n 0, 1) := by decide +kernel
theorem dX4_thin_25 : decode cX4_thin 25 = .ok (.getfield 22, 3) := by decide +kernel
theorem dX4_thin_28 : decode cX4_thin 28 = .ok (.aload_n 0, 1) := by decide +kernel
theorem dX4_thin_29 : decode cX4_thin 29 = .ok (.getfield 10, 3) := by decide +kernel
theorem dX4_thin_32 : decode cX4_thin 32 = .ok (.invokevirtual 44, 3) := by decide +kernel
theorem dX4_thin_35 : decode cX4_thin 35 = .ok (.aload_n 0, 1) := by decide +kernel
theorem dX4_thin_36 : decode cX4_thin 36 = .ok (.getfield 10, 3) := by decide +kernel
theorem dX4_thin_39 : decode cX4_thin 39 = .ok (.iload_n 1, 1) := by decide +kernel
theorem dX4_thin_40 : decode cX4_thin 40 = .ok (.iload_n 2, 1) := by decide +kernel
theorem dX4_thin_41 : decode cX4_thin 41 = .ok (.bipush 6, 2) := by decide +kernel
theorem dX4_thin_43 : decode cX4_thin 43 = .ok (.invokevirtual 78, 3) := by decide +kernel
theorem dX4_thin_46 : decode cX4_thin 46 = .ok (.ireturn, 1) := by decide +kernel
set_option maxRecDepth 20000 in
theorem ggX4_cut_X2_keep : GoodIn wsX4_cut wsX2_keep := goodIn_r _ [8, 9, 10, 11, 12, 13, 7, 14, 15, 16, 17, 18, 19, 20, 21, 22, 23, 24, 25, 26, 27, 28, 29, 30, 31, 32, 33, 60, 61, 50, 51, 52, 53, 54, 55, 56, 57, 58, 59] (by decide +kernel) (by decide +kernel)
set_option maxRecDepth 20000 in
theorem gX4_cut_X2_keep : GoodIn wsX4_cut (wsV RX4 44 RX2 yX2_keep wsX2_keep) := goodIn_app (goodIn_of _ (by decide +kernel)) ggX4_cut_X2_keep
set_option maxRecDepth 20000 in
theorem ggX4_cut_X0_loseFrom : GoodIn wsX4_cut wsX0_loseFrom := goodIn_r _ [37, 20, 38, 39, 40, 41, 42, 43, 44, 18, 45, 26, 50, 51, 52, 53, 54, 55, 56, 57, 58, 59] (by decide +kernel) (by decide +kernel)
set_option maxRecDepth 20000 in
theorem gX4_cut_X0_loseFrom : GoodIn wsX4_cut (wsV RX4 78 RX0 yX0_loseFrom wsX0_loseFrom) := goodIn_app (goodIn_of _ (by decide +kernel)) ggX4_cut_X0_loseFrom
theorem dX4_cut_0 : decode cX4_cut 0 = .ok (.aload_n 0, 1) := by decide +kernel
theorem dX4_cut_1 : decode cX4_cut 1 = .ok (.getfield 10, 3) := by decide +kernel
theorem dX4_cut_4 : decode cX4_cut 4 = .ok (.getfield 74, 3) := by decide +kernel
theorem dX4_cut_7 : decode cX4_cut 7 = .ok (.iconst 2, 1) := by decide +kernel
theorem dX4_cut_8 : decode cX4_cut 8 = .ok (.if_icmp .ge 6, 3) := by decide +kernel
theorem dX4_cut_11 : decode cX4_cut 11 = .ok (.bipush (-2), 2) := by decide +kernel
theorem dX4_cut_13 : decode cX4_cut 13 = .ok (.ireturn, 1) := by decide +kernel
theorem dX4_cut_14 : decode cX4_cut 14 = .ok (.aload_n 0, 1) := by decide +kernel
theorem dX4_cut_15 : decode cX4_cut 15 = .ok (.getfield 22, 3) := by decide +kernel
theorem dX4_cut_18 : decode cX4_cut 18 = .ok (.aload_n 0, 1) := by decide +kernel
theorem dX4_cut_19 : decode cX4_cut 19 = .ok (.getfield 10, 3) := by decide +kernel
theorem dX4_cut_22 : decode cX4_cut 22 = .ok (.invokevirtual 44, 3) := by decide +kernel
theorem dX4_cut_25 : decode cX4_cut 25 = .ok (.aload_n 0, 1) := by decide +kernel
theorem dX4_cut_26 : decode cX4_cut 26 = .ok (.getfield 10, 3) := by decide +kernel
theorem dX4_cut_29 : decode cX4_cut 29 = .ok (.aload_n 0, 1) := by decide +kernel
theorem dX4_cut_30 : decode cX4_cut 30 = .ok (.getfield 10, 3) := by decide +kernel
theorem dX4_cut_33 : decode cX4_cut 33 = .ok (.getfield 74, 3) := by decide +kernel
theorem dX4_cut_36 : decode cX4_cut 36 = .ok (.iconst 1, 1) := by decide +kernel
theorem dX4_cut_37 : decode cX4_cut 37 = .ok (.isub, 1) := by decide +kernel
theorem dX4_cut_38 : decode cX4_cut 38 = .ok (.sipush 5000, 3) := by decide +kernel
theorem dX4_cut_41 : decode cX4_cut 41 = .ok (.bipush 6, 2) := by decide +kernel
theorem dX4_cut_43 : decode cX4_cut 43 = .ok (.invokevirtual 78, 3) := by decide +kernel
theorem dX4_cut_46 : decode cX4_cut 46 = .ok (.istore_n 1, 1) := by decide +kernel
theorem dX4_cut_47 : decode cX4_cut 47 = .ok (.aload_n 0, 1) := by decide +kernel
theorem dX4_cut_48 : decode cX4_cut 48 = .ok (.getfield 10, 3) := by decide +kernel
theorem dX4_cut_51 : decode cX4_cut 51 = .ok (.dup, 1) := by decide +kernel
theorem dX4_cut_52 : decode cX4_cut 52 = .ok (.getfield 74, 3) := by decide +kernel
theorem dX4_cut_55 : decode cX4_cut 55 = .ok (.iconst 1, 1) := by decide +kernel
theorem dX4_cut_56 : decode cX4_cut 56 = .ok (.isub, 1) := by decide +kernel
theorem dX4_cut_57 : decode cX4_cut 57 = .ok (.putfield 74, 3) := by decide +kernel
theorem dX4_cut_60 : decode cX4_cut 60 = .ok (.iload_n 1, 1) := by decide +kernel
theorem dX4_cut_61 : decode cX4_cut 61 = .ok (.ireturn, 1) := by decide +kernel
set_option maxRecDepth 20000 in
theorem ggX4_go_X4_isBetween : GoodIn wsX4_go wsX4_isBetween := goodIn_r _ [9] (by decide +kernel) (by decide +kernel)
set_option maxRecDepth 20000 in
theorem gX4_go_X4_isBetween : GoodIn wsX4_go (va_wsS RX4 40 yX4_isBetween wsX4_isBetween) := goodIn_app (goodIn_of _ (by decide +kernel)) ggX4_go_X4_isBetween
set_option maxRecDepth 20000 in
theorem ggX4_go_X2_keep : GoodIn wsX4_go wsX2_keep := goodIn_r _ [14, 15, 16, 17, 18, 19, 13, 20, 21, 22, 23, 24, 25, 26, 27, 28, 29, 30, 31, 32, 33, 34, 35, 36, 37, 38, 39, 115, 116, 105, 106, 107, 108, 109, 110, 111, 112, 113, 114] (by decide +kernel) (by decide +kernel)
set_option maxRecDepth 20000 in
theorem gX4_go_X2_keep : GoodIn wsX4_go (wsV RX4 44 RX2 yX2_keep wsX2_keep) := goodIn_app (goodIn_of _ (by decide +kernel)) ggX4_go_X2_keep
set_option maxRecDepth 20000 in
theorem ggX4_go_X0_tick : GoodIn wsX4_go wsX0_tick := goodIn_r _ [43, 33, 34, 44, 45, 46, 24, 47, 26, 31, 48, 49, 50, 51, 52, 53, 54, 55, 56, 57, 58, 59, 60, 61, 62, 63, 64, 32, 65, 66, 67, 68, 69, 70, 71, 72, 73, 74, 75, 76, 77, 78, 79, 80, 35, 81, 82, 83, 84, 85, 86, 87, 88, 89, 90, 91, 92, 93, 94, 95, 96, 36, 37, 38, 39, 97, 98, 99, 100, 105, 106, 107, 108, 109, 110, 111, 112, 113, 114] (by decide +kernel) (by decide +kernel)
set_option maxRecDepth 20000 in
theorem gX4_go_X0_tick : GoodIn wsX4_go (wsV RX4 86 RX0 yX0_tick wsX0_tick) := goodIn_app (goodIn_of _ (by decide +kernel)) ggX4_go_X0_tick
theorem dX4_go_0 : decode cX4_go 0 = .ok (.iload_n 1, 1) := by decide +kernel
theorem dX4_go_1 : decode cX4_go 1 = .ok (.iconst 1, 1) := by decide +kernel
theorem dX4_go_2 : decode cX4_go 2 = .ok (.sipush 1000, 3) := by decide +kernel
theorem dX4_go_5 : decode cX4_go 5 = .ok (.invokestatic 40, 3) := by decide +kernel
theorem dX4_go_8 : decode cX4_go 8 = .ok (.ifCond .ne 5, 3) := by decide +kernel
theorem dX4_go_11 : decode cX4_go 11 = .ok (.iconst (-1), 1) := by decide +kernel
theorem dX4_go_12 : decode cX4_go 12 = .ok (.ireturn, 1) := by decide +kernel
theorem dX4_go_13 : decode cX4_go 13 = .ok (.aload_n 0, 1) := by decide +kernel
theorem dX4_go_14 : decode cX4_go 14 = .ok (.getfield 10, 3) := by decide +kernel
theorem dX4_go_17 : decode cX4_go 17 = .ok (.getfield 82, 3) := by decide +kernel
theorem dX4_go_20 : decode cX4_go 20 = .ok (.iload_n 1, 1) := by decide +kernel
theorem dX4_go_21 : decode cX4_go 21 = .ok (.iadd, 1) := by decide +kernel
theorem dX4_go_22 : decode cX4_go 22 = .ok (.ldc 85, 2) := by decide +kernel
theorem dX4_go_24 : decode cX4_go 24 = .ok (.if_icmp .le 6, 3) := by decide +kernel
theorem dX4_go_27 : decode cX4_go 27 = .ok (.bipush (-3), 2) := by decide +kernel
theorem dX4_go_29 : decode cX4_go 29 = .ok (.ireturn, 1) := by decide +kernel
theorem dX4_go_30 : decode cX4_go 30 = .ok (.aload_n 0, 1) := by decide +kernel
theorem dX4_go_31 : decode cX4_go 31 = .ok (.getfield 22, 3) := by decide +kernel
theorem dX4_go_34 : decode cX4_go 34 = .ok (.aload_n 0, 1) := by decide +kernel
theorem dX4_go_35 : decode cX4_go 35 = .ok (.getfield 10, 3) := by decide +kernel
theorem dX4_go_38 : decode cX4_go 38 = .ok (.invokevirtual 44, 3) := by decide +kernel
theorem dX4_go_41 : decode cX4_go 41 = .ok (.iconst 0, 1) := by decide +kernel
theorem dX4_go_42 : decode cX4_go 42 = .ok (.istore_n 2, 1) := by decide +kernel
theorem dX4_go_43 : decode cX4_go 43 = .ok (.iconst 0, 1) := by decide +kernel
theorem dX4_go_44 : decode cX4_go 44 = .ok (.istore_n 3, 1) := by decide +kernel
theorem dX4_go_45 : decode cX4_go 45 = .ok (.iload_n 3, 1) := by decide +kernel
theorem dX4_go_46 : decode cX4_go 46 = .ok (.iload_n 1, 1) := by decide +kernel
theorem dX4_go_47 : decode cX4_go 47 = .ok (.if_icmp .ge 29, 3) := by decide +kernel
theorem dX4_go_50 : decode cX4_go 50 = .ok (.aload_n 0, 1) := by decide +kernel
theorem dX4_go_51 : decode cX4_go 51 = .ok (.getfield 10, 3) := by decide +kernel
theorem dX4_go_54 : decode cX4_go 54 = .ok (.getfield 74, 3) := by decide +kernel
theorem dX4_go_57 : decode cX4_go 57 = .ok (.ifCond .le 6, 3) := by decide +kernel
theorem dX4_go_60 : decode cX4_go 60 = .ok (.iinc 2 1, 3) := by decide +kernel
theorem dX4_go_63 : decode cX4_go 63 = .ok (.aload_n 0, 1) := by decide +kernel
theorem dX4_go_64 : decode cX4_go 64 = .ok (.getfield 10, 3) := by decide +kernel
theorem dX4_go_67 : decode cX4_go 67 = .ok (.invokevirtual 86, 3) := by decide +kernel
theorem dX4_go_70 : decode cX4_go 70 = .ok (.iinc 3 1, 3) := by decide +kernel
theorem dX4_go_73 : decode cX4_go 73 = .ok (.goto (-28), 3) := by decide +kernel
theorem dX4_go_76 : decode cX4_go 76 = .ok (.iload_n 2, 1) := by decide +kernel
theorem dX4_go_77 : decode cX4_go 77 = .ok (.ireturn, 1) := by decide +kernel
set_option maxRecDepth 20000 in
theorem ggX4_undo_X2_restore : GoodIn wsX4_undo wsX2_restore := goodIn_r _ [8, 9, 10, 11, 12, 13, 14, 15, 16, 17, 18, 19, 20, 21, 22, 23, 24, 25, 26, 27, 28, 29, 34, 35, 36, 37, 38, 39, 40, 41, 42, 43, 44, 45] (by decide +kernel) (by decide +kernel)
set_option maxRecDepth 20000 in
theorem gX4_undo_X2_restore : GoodIn wsX4_undo (wsV RX4 92 RX2 yX2_restore wsX2_restore) := goodIn_app (goodIn_of _ (by decide +kernel)) ggX4_undo_X2_restore
theorem dX4_undo_0 : decode cX4_undo 0 = .ok (.aload_n 0, 1) := by decide +kernel
theorem dX4_undo_1 : decode cX4_undo 1 = .ok (.getfield 22, 3) := by decide +kernel
theorem dX4_undo_4 : decode cX4_undo 4 = .ok (.getfield 89, 3) := by decide +kernel
theorem dX4_undo_7 : decode cX4_undo 7 = .ok (.ifCond .ne 6, 3) := by decide +kernel
theorem dX4_undo_10 : decode cX4_undo 10 = .ok (.bipush (-2), 2) := by decide +kernel
theorem dX4_undo_12 : decode cX4_undo 12 = .ok (.ireturn, 1) := by decide +kernel
theorem dX4_undo_13 : decode cX4_undo 13 = .ok (.aload_n 0, 1) := by decide +kernel
theorem dX4_undo_14 : decode cX4_undo 14 = .ok (.getfield 22, 3) := by decide +kernel
theorem dX4_undo_17 : decode cX4_undo 17 = .ok (.aload_n 0, 1) := by decide +kernel
theorem dX4_undo_18 : decode cX4_undo 18 = .ok (.getfield 10, 3) := by decide +kernel
theorem dX4_undo_21 : decode cX4_undo 21 = .ok (.invokevirtual 92, 3) := by decide +kernel
theorem dX4_undo_24 : decode cX4_undo 24 = .ok (.aload_n 0, 1) := by decide +kernel
theorem dX4_undo_25 : decode cX4_undo 25 = .ok (.getfield 22, 3) := by decide +kernel
theorem dX4_undo_28 : decode cX4_undo 28 = .ok (.getfield 89, 3) := by decide +kernel
theorem dX4_undo_31 : decode cX4_undo 31 = .ok (.ireturn, 1) := by decide +kernel
set_option maxRecDepth 20000 in
theorem ggX4_row_X0_hasRow : GoodIn wsX4_row wsX0_hasRow := goodIn_r _ [7, 8, 49, 50, 51, 52, 53, 54, 55, 56, 57, 58] (by decide +kernel) (by decide +kernel)
set_option maxRecDepth 20000 in
theorem gX4_row_X0_hasRow : GoodIn wsX4_row (wsV RX4 65 RX0 yX0_hasRow wsX0_hasRow) := goodIn_app (goodIn_of _ (by decide +kernel)) ggX4_row_X0_hasRow
set_option maxRecDepth 20000 in
theorem ggX4_row_X3_path : GoodIn wsX4_row wsX3_path := goodIn_r _ [12] (by decide +kernel) (by decide +kernel)
set_option maxRecDepth 20000 in
theorem gX4_row_X3_path : GoodIn wsX4_row (va_wsS RX4 95 yX3_path wsX3_path) := goodIn_app (goodIn_of _ (by decide +kernel)) ggX4_row_X3_path
set_option maxRecDepth 20000 in
theorem ggX4_row_X3_red : GoodIn wsX4_row wsX3_red := goodIn_r _ [15, 16, 17, 11, 18] (by decide +kernel) (by decide +kernel)
set_option maxRecDepth 20000 in
theorem gX4_row_X3_red : GoodIn wsX4_row (va_wsS RX4 101 yX3_red wsX3_red) := goodIn_app (goodIn_of _ (by decide +kernel)) ggX4_row_X3_red
set_option maxRecDepth 20000 in
theorem ggX4_row_X3_green : GoodIn wsX4_row wsX3_green := goodIn_r _ [21, 16, 17, 11, 18] (by decide +kernel) (by decide +kernel)
set_option maxRecDepth 20000 in
theorem gX4_row_X3_green : GoodIn wsX4_row (va_wsS RX4 104 yX3_green wsX3_green) := goodIn_app (goodIn_of _ (by decide +kernel)) ggX4_row_X3_green
set_option maxRecDepth 20000 in
theorem ggX4_row_X3_blue : GoodIn wsX4_row wsX3_blue := goodIn_r _ [24, 16, 17, 11, 18] (by decide +kernel) (by decide +kernel)
set_option maxRecDepth 20000 in
theorem gX4_row_X3_blue : GoodIn wsX4_row (va_wsS RX4 107 yX3_blue wsX3_blue) := goodIn_app (goodIn_of _ (by decide +kernel)) ggX4_row_X3_blue
set_option maxRecDepth 20000 in
theorem ggX4_row_X0_colourAt : GoodIn wsX4_row wsX0_colourAt := goodIn_r _ [28, 29, 30, 31, 32, 11, 33, 34, 10, 12, 35, 14, 15, 16, 17, 18, 36, 20, 21, 37, 23, 24, 49, 50, 51, 52, 53, 54, 55, 56, 57, 58] (by decide +kernel) (by decide +kernel)
set_option maxRecDepth 20000 in
theorem gX4_row_X0_colourAt : GoodIn wsX4_row (wsV RX4 110 RX0 yX0_colourAt wsX0_colourAt) := goodIn_app (goodIn_of _ (by decide +kernel)) ggX4_row_X0_colourAt
set_option maxRecDepth 20000 in
theorem ggX4_row_X3_order : GoodIn wsX4_row wsX3_order := goodIn_r _ [40] (by decide +kernel) (by decide +kernel)
set_option maxRecDepth 20000 in
theorem gX4_row_X3_order : GoodIn wsX4_row (va_wsS RX4 113 yX3_order wsX3_order) := goodIn_app (goodIn_of _ (by decide +kernel)) ggX4_row_X3_order
set_option maxRecDepth 20000 in
theorem ggX4_row_X0_isBlack : GoodIn wsX4_row wsX0_isBlack := goodIn_r _ [44, 29, 30, 49, 50, 51, 52, 53, 54, 55, 56, 57, 58] (by decide +kernel) (by decide +kernel)
set_option maxRecDepth 20000 in
theorem gX4_row_X0_isBlack : GoodIn wsX4_row (wsV RX4 116 RX0 yX0_isBlack wsX0_isBlack) := goodIn_app (goodIn_of _ (by decide +kernel)) ggX4_row_X0_isBlack
theorem dX4_row_0 : decode cX4_row 0 = .ok (.aload_n 0, 1) := by decide +kernel
theorem dX4_row_1 : decode cX4_row 1 = .ok (.getfield 10, 3) := by decide +kernel
theorem dX4_row_4 : decode cX4_row 4 = .ok (.iload_n 1, 1) := by decide +kernel
theorem dX4_row_5 : decode cX4_row 5 = .ok (.invokevirtual 65, 3) := by decide +kernel
theorem dX4_row_8 : decode cX4_row 8 = .ok (.ifCond .ne 5, 3) := by decide +kernel
theorem dX4_row_11 : decode cX4_row 11 = .ok (.iconst (-1), 1) := by decide +kernel
theorem dX4_row_12 : decode cX4_row 12 = .ok (.ireturn, 1) := by decide +kernel
theorem dX4_row_13 : decode cX4_row 13 = .ok (.aload_n 0, 1) := by decide +kernel
theorem dX4_row_14 : decode cX4_row 14 = .ok (.getfield 10, 3) := by decide +kernel
theorem dX4_row_17 : decode cX4_row 17 = .ok (.getfield 68, 3) := by decide +kernel
theorem dX4_row_20 : decode cX4_row 20 = .ok (.iload_n 1, 1) := by decide +kernel
theorem dX4_row_21 : decode cX4_row 21 = .ok (.iaload, 1) := by decide +kernel
theorem dX4_row_22 : decode cX4_row 22 = .ok (.istore_n 3, 1) := by decide +kernel
theorem dX4_row_23 : decode cX4_row 23 = .ok (.iload_n 3, 1) := by decide +kernel
theorem dX4_row_24 : decode cX4_row 24 = .ok (.invokestatic 95, 3) := by decide +kernel
theorem dX4_row_27 : decode cX4_row 27 = .ok (.istore 4, 2) := by decide +kernel
theorem dX4_row_29 : decode cX4_row 29 = .ok (.iload_n 2, 1) := by decide +kernel
theorem dX4_row_30 : decode cX4_row 30 = .ok (.tableswitch 101 0 7 #[46, 48, 51, 57, 63, 69, 78, 84], 46) := by decide +kernel
theorem dX4_row_76 : decode cX4_row 76 = .ok (.iload_n 3, 1) := by decide +kernel
theorem dX4_row_77 : decode cX4_row 77 = .ok (.ireturn, 1) := by decide +kernel
theorem dX4_row_78 : decode cX4_row 78 = .ok (.iload 4, 2) := by decide +kernel
theorem dX4_row_80 : decode cX4_row 80 = .ok (.ireturn, 1) := by decide +kernel
theorem dX4_row_81 : decode cX4_row 81 = .ok (.iload 4, 2) := by decide +kernel
theorem dX4_row_83 : decode cX4_row 83 = .ok (.invokestatic 101, 3) := by decide +kernel
theorem dX4_row_86 : decode cX4_row 86 = .ok (.ireturn, 1) := by decide +kernel
theorem dX4_row_87 : decode cX4_row 87 = .ok (.iload 4, 2) := by decide +kernel
theorem dX4_row_89 : decode cX4_row 89 = .ok (.invokestatic 104, 3) := by decide +kernel
theorem dX4_row_92 : decode cX4_row 92 = .ok (.ireturn, 1) := by decide +kernel
theorem dX4_row_93 : decode cX4_row 93 = .ok (.iload 4, 2) := by decide +kernel
theorem dX4_row_95 : decode cX4_row 95 = .ok (.invokestatic 107, 3) := by decide +kernel
theorem dX4_row_98 : decode cX4_row 98 = .ok (.ireturn, 1) := by decide +kernel
theorem dX4_row_99 : decode cX4_row 99 = .ok (.aload_n 0, 1) := by decide +kernel
theorem dX4_row_100 : decode cX4_row 100 = .ok (.getfield 10, 3) := by decide +kernel
theorem dX4_row_103 : decode cX4_row 103 = .ok (.iload_n 1, 1) := by decide +kernel
theorem dX4_row_104 : decode cX4_row 104 = .ok (.invokevirtual 110, 3) := by decide +kernel
theorem dX4_row_107 : decode cX4_row 107 = .ok (.ireturn, 1) := by decide +kernel
theorem dX4_row_108 : decode cX4_row 108 = .ok (.iload 4, 2) := by decide +kernel
theorem dX4_row_110 : decode cX4_row 110 = .ok (.invokestatic 113, 3) := by decide +kernel
theorem dX4_row_113 : decode cX4_row 113 = .ok (.ireturn, 1) := by decide +kernel
theorem dX4_row_114 : decode cX4_row 114 = .ok (.aload_n 0, 1) := by decide +kernel
theorem dX4_row_115 : decode cX4_row 115 = .ok (.getfield 10, 3) := by decide +kernel
theorem dX4_row_118 : decode cX4_row 118 = .ok (.iload_n 1, 1) := by decide +kernel
theorem dX4_row_119 : decode cX4_row 119 = .ok (.invokevirtual 116, 3) := by decide +kernel
theorem dX4_row_122 : decode cX4_row 122 = .ok (.ifCond .eq 7, 3) := by decide +kernel
theorem dX4_row_125 : decode cX4_row 125 = .ok (.iconst 1, 1) := by decide +kernel
theorem dX4_row_126 : decode cX4_row 126 = .ok (.goto 4, 3) := by decide +kernel
theorem dX4_row_129 : decode cX4_row 129 = .ok (.iconst 0, 1) := by decide +kernel
theorem dX4_row_130 : decode cX4_row 130 = .ok (.ireturn, 1) := by decide +kernel
theorem dX4_row_131 : decode cX4_row 131 = .ok (.iconst (-1), 1) := by decide +kernel
theorem dX4_row_132 : decode cX4_row 132 = .ok (.ireturn, 1) := by decide +kernel
set_option maxRecDepth 20000 in
theorem ggX4_count_X4_isBetween : GoodIn wsX4_count wsX4_isBetween := goodIn_r _ [18] (by decide +kernel) (by decide +kernel)
set_option maxRecDepth 20000 in
theorem gX4_count_X4_isBetween : GoodIn wsX4_count (va_wsS RX4 40 yX4_isBetween wsX4_isBetween) := goodIn_app (goodIn_of _ (by decide +kernel)) ggX4_count_X4_isBetween
set_option maxRecDepth 20000 in
theorem ggX4_count_X0_blackRows : GoodIn wsX4_count wsX0_blackRows := goodIn_r _ [23, 24, 25, 26, 27, 22, 28, 29, 30, 89, 90, 91, 92, 93, 94, 95, 96, 97, 98] (by decide +kernel) (by decide +kernel)
set_option maxRecDepth 20000 in
theorem gX4_count_X0_blackRows : GoodIn wsX4_count (wsV RX4 119 RX0 yX0_blackRows wsX0_blackRows) := goodIn_app (goodIn_of _ (by decide +kernel)) ggX4_count_X0_blackRows
set_option maxRecDepth 20000 in
theorem ggX4_count_X0_fringes : GoodIn wsX4_count wsX0_fringes := goodIn_r _ [34, 24, 35, 36, 37, 22, 38, 39, 40, 41, 42, 29, 30, 43, 44, 45, 46, 47, 48, 49, 50, 51, 52, 53, 54, 55, 56, 57, 58, 59, 60, 61, 89, 90, 91, 92, 93, 94, 95, 96, 97, 98] (by decide +kernel) (by decide +kernel)
set_option maxRecDepth 20000 in
theorem gX4_count_X0_fringes : GoodIn wsX4_count (wsV RX4 123 RX0 yX0_fringes wsX0_fringes) := goodIn_app (goodIn_of _ (by decide +kernel)) ggX4_count_X0_fringes
set_option maxRecDepth 20000 in
theorem ggX4_count_X0_differentColours : GoodIn wsX4_count wsX0_differentColours := goodIn_r _ [65, 24, 39, 40, 41, 22, 42, 29, 30, 43, 44, 45, 46, 47, 48, 49, 50, 51, 52, 53, 54, 55, 56, 57, 58, 59, 60, 61, 66, 67, 68, 69, 70, 71, 72, 89, 90, 91, 92, 93, 94, 95, 96, 97, 98] (by decide +kernel) (by decide +kernel)
set_option maxRecDepth 20000 in
theorem gX4_count_X0_differentColours : GoodIn wsX4_count (wsV RX4 126 RX0 yX0_differentColours wsX0_differentColours) := goodIn_app (goodIn_of _ (by decide +kernel)) ggX4_count_X0_differentColours
set_option maxRecDepth 20000 in
theorem ggX4_count_X0_greatestOrder : GoodIn wsX4_count wsX0_greatestOrder := goodIn_r _ [76, 24, 29, 77, 78, 79, 80, 81, 48, 45, 49, 82, 83, 84, 89, 90, 91, 92, 93, 94, 95, 96, 97, 98] (by decide +kernel) (by decide +kernel)
set_option maxRecDepth 20000 in
theorem gX4_count_X0_greatestOrder : GoodIn wsX4_count (wsV RX4 129 RX0 yX0_greatestOrder wsX0_greatestOrder) := goodIn_app (goodIn_of _ (by decide +kernel)) ggX4_count_X0_greatestOrder
theorem dX4_count_0 : decode cX4_count 0 = .ok (.iload_n 1, 1) := by decide +kernel
theorem dX4_count_1 : decode cX4_count 1 = .ok (.bipush 20, 2) := by decide +kernel
theorem dX4_count_3 : decode cX4_count 3 = .ok (.bipush 26, 2) := by decide +kernel
theorem dX4_count_5 : decode cX4_count 5 = .ok (.invokestatic 40, 3) := by decide +kernel
theorem dX4_count_8 : decode cX4_count 8 = .ok (.ifCond .eq 16, 3) := by decide +kernel
theorem dX4_count_11 : decode cX4_count 11 = .ok (.aload_n 0, 1) := by decide +kernel
theorem dX4_count_12 : decode cX4_count 12 = .ok (.getfield 10, 3) := by decide +kernel
theorem dX4_count_15 : decode cX4_count 15 = .ok (.getfield 62, 3) := by decide +kernel
theorem dX4_count_18 : decode cX4_count 18 = .ok (.iload_n 1, 1) := by decide +kernel
theorem dX4_count_19 : decode cX4_count 19 = .ok (.bipush 20, 2) := by decide +kernel
theorem dX4_count_21 : decode cX4_count 21 = .ok (.isub, 1) := by decide +kernel
theorem dX4_count_22 : decode cX4_count 22 = .ok (.iaload, 1) := by decide +kernel
theorem dX4_count_23 : decode cX4_count 23 = .ok (.ireturn, 1) := by decide +kernel
theorem dX4_count_24 : decode cX4_count 24 = .ok (.iload_n 1, 1) := by decide +kernel
theorem dX4_count_25 : decode cX4_count 25 = .ok (.bipush 30, 2) := by decide +kernel
theorem dX4_count_27 : decode cX4_count 27 = .ok (.bipush 36, 2) := by decide +kernel
theorem dX4_count_29 : decode cX4_count 29 = .ok (.invokestatic 40, 3) := by decide +kernel
theorem dX4_count_32 : decode cX4_count 32 = .ok (.ifCond .eq 16, 3) := by decide +kernel
theorem dX4_count_35 : decode cX4_count 35 = .ok (.aload_n 0, 1) := by decide +kernel
theorem dX4_count_36 : decode cX4_count 36 = .ok (.getfield 10, 3) := by decide +kernel
theorem dX4_count_39 : decode cX4_count 39 = .ok (.getfield 48, 3) := by decide +kernel
theorem dX4_count_42 : decode cX4_count 42 = .ok (.iload_n 1, 1) := by decide +kernel
theorem dX4_count_43 : decode cX4_count 43 = .ok (.bipush 30, 2) := by decide +kernel
theorem dX4_count_45 : decode cX4_count 45 = .ok (.isub, 1) := by decide +kernel
theorem dX4_count_46 : decode cX4_count 46 = .ok (.iaload, 1) := by decide +kernel
theorem dX4_count_47 : decode cX4_count 47 = .ok (.ireturn, 1) := by decide +kernel
theorem dX4_count_48 : decode cX4_count 48 = .ok (.iload_n 1, 1) := by decide +kernel
theorem dX4_count_49 : decode cX4_count 49 = .ok (.tableswitch 216 0 12 #[67, 75, 83, 91, 99, 107, 130, 138, 161, 184, 192, 200, 208], 67) := by decide +kernel
theorem dX4_count_116 : decode cX4_count 116 = .ok (.aload_n 0, 1) := by decide +kernel
theorem dX4_count_117 : decode cX4_count 117 = .ok (.getfield 10, 3) := by decide +kernel
theorem dX4_count_120 : decode cX4_count 120 = .ok (.getfield 74, 3) := by decide +kernel
theorem dX4_count_123 : decode cX4_count 123 = .ok (.ireturn, 1) := by decide +kernel
theorem dX4_count_124 : decode cX4_count 124 = .ok (.aload_n 0, 1) := by decide +kernel
theorem dX4_count_125 : decode cX4_count 125 = .ok (.getfield 10, 3) := by decide +kernel
theorem dX4_count_128 : decode cX4_count 128 = .ok (.getfield 82, 3) := by decide +kernel
theorem dX4_count_131 : decode cX4_count 131 = .ok (.ireturn, 1) := by decide +kernel
theorem dX4_count_132 : decode cX4_count 132 = .ok (.aload_n 0, 1) := by decide +kernel
theorem dX4_count_133 : decode cX4_count 133 = .ok (.getfield 10, 3) := by decide +kernel
theorem dX4_count_136 : decode cX4_count 136 = .ok (.invokevirtual 119, 3) := by decide +kernel
theorem dX4_count_139 : decode cX4_count 139 = .ok (.ireturn, 1) := by decide +kernel
theorem dX4_count_140 : decode cX4_count 140 = .ok (.aload_n 0, 1) := by decide +kernel
theorem dX4_count_141 : decode cX4_count 141 = .ok (.getfield 10, 3) := by decide +kernel
theorem dX4_count_144 : decode cX4_count 144 = .ok (.invokevirtual 123, 3) := by decide +kernel
theorem dX4_count_147 : decode cX4_count 147 = .ok (.ireturn, 1) := by decide +kernel
theorem dX4_count_148 : decode cX4_count 148 = .ok (.aload_n 0, 1) := by decide +kernel
theorem dX4_count_149 : decode cX4_count 149 = .ok (.getfield 10, 3) := by decide +kernel
theorem dX4_count_152 : decode cX4_count 152 = .ok (.invokevirtual 126, 3) := by decide +kernel
theorem dX4_count_155 : decode cX4_count 155 = .ok (.ireturn, 1) := by decide +kernel
theorem dX4_count_156 : decode cX4_count 156 = .ok (.aload_n 0, 1) := by decide +kernel
theorem dX4_count_157 : decode cX4_count 157 = .ok (.getfield 10, 3) := by decide +kernel
theorem dX4_count_160 : decode cX4_count 160 = .ok (.getfield 74, 3) := by decide +kernel
theorem dX4_count_163 : decode cX4_count 163 = .ok (.ifCond .ne 8, 3) := by decide +kernel
theorem dX4_count_166 : decode cX4_count 166 = .ok (.bipush (-4), 2) := by decide +kernel
theorem dX4_count_168 : decode cX4_count 168 = .ok (.goto 10, 3) := by decide +kernel
theorem dX4_count_171 : decode cX4_count 171 = .ok (.aload_n 0, 1) := by decide +kernel
theorem dX4_count_172 : decode cX4_count 172 = .ok (.getfield 10, 3) := by decide +kernel
theorem dX4_count_175 : decode cX4_count 175 = .ok (.invokevirtual 129, 3) := by decide +kernel
theorem dX4_count_178 : decode cX4_count 178 = .ok (.ireturn, 1) := by decide +kernel
theorem dX4_count_179 : decode cX4_count 179 = .ok (.aload_n 0, 1) := by decide +kernel
theorem dX4_count_180 : decode cX4_count 180 = .ok (.getfield 10, 3) := by decide +kernel
theorem dX4_count_183 : decode cX4_count 183 = .ok (.getfield 132, 3) := by decide +kernel
theorem dX4_count_186 : decode cX4_count 186 = .ok (.ireturn, 1) := by decide +kernel
theorem dX4_count_187 : decode cX4_count 187 = .ok (.aload_n 0, 1) := by decide +kernel
theorem dX4_count_188 : decode cX4_count 188 = .ok (.getfield 10, 3) := by decide +kernel
theorem dX4_count_191 : decode cX4_count 191 = .ok (.getfield 135, 3) := by decide +kernel
theorem dX4_count_194 : decode cX4_count 194 = .ok (.ifCond .ne 8, 3) := by decide +kernel
theorem dX4_count_197 : decode cX4_count 197 = .ok (.bipush (-4), 2) := by decide +kernel
theorem dX4_count_199 : decode cX4_count 199 = .ok (.goto 10, 3) := by decide +kernel
theorem dX4_count_202 : decode cX4_count 202 = .ok (.aload_n 0, 1) := by decide +kernel
theorem dX4_count_203 : decode cX4_count 203 = .ok (.getfield 10, 3) := by decide +kernel
theorem dX4_count_206 : decode cX4_count 206 = .ok (.getfield 138, 3) := by decide +kernel
theorem dX4_count_209 : decode cX4_count 209 = .ok (.ireturn, 1) := by decide +kernel
theorem dX4_count_210 : decode cX4_count 210 = .ok (.aload_n 0, 1) := by decide +kernel
theorem dX4_count_211 : decode cX4_count 211 = .ok (.getfield 10, 3) := by decide +kernel
theorem dX4_count_214 : decode cX4_count 214 = .ok (.getfield 135, 3) := by decide +kernel
theorem dX4_count_217 : decode cX4_count 217 = .ok (.ifCond .ne 8, 3) := by decide +kernel
theorem dX4_count_220 : decode cX4_count 220 = .ok (.bipush (-4), 2) := by decide +kernel
theorem dX4_count_222 : decode cX4_count 222 = .ok (.goto 10, 3) := by decide +kernel
theorem dX4_count_225 : decode cX4_count 225 = .ok (.aload_n 0, 1) := by decide +kernel
theorem dX4_count_226 : decode cX4_count 226 = .ok (.getfield 10, 3) := by decide +kernel
theorem dX4_count_229 : decode cX4_count 229 = .ok (.getfield 141, 3) := by decide +kernel
theorem dX4_count_232 : decode cX4_count 232 = .ok (.ireturn, 1) := by decide +kernel
theorem dX4_count_233 : decode cX4_count 233 = .ok (.aload_n 0, 1) := by decide +kernel
theorem dX4_count_234 : decode cX4_count 234 = .ok (.getfield 10, 3) := by decide +kernel
theorem dX4_count_237 : decode cX4_count 237 = .ok (.getfield 135, 3) := by decide +kernel
theorem dX4_count_240 : decode cX4_count 240 = .ok (.ireturn, 1) := by decide +kernel
theorem dX4_count_241 : decode cX4_count 241 = .ok (.aload_n 0, 1) := by decide +kernel
theorem dX4_count_242 : decode cX4_count 242 = .ok (.getfield 10, 3) := by decide +kernel
theorem dX4_count_245 : decode cX4_count 245 = .ok (.getfield 144, 3) := by decide +kernel
theorem dX4_count_248 : decode cX4_count 248 = .ok (.ireturn, 1) := by decide +kernel
theorem dX4_count_249 : decode cX4_count 249 = .ok (.aload_n 0, 1) := by decide +kernel
theorem dX4_count_250 : decode cX4_count 250 = .ok (.getfield 22, 3) := by decide +kernel
theorem dX4_count_253 : decode cX4_count 253 = .ok (.getfield 89, 3) := by decide +kernel
theorem dX4_count_256 : decode cX4_count 256 = .ok (.ireturn, 1) := by decide +kernel
theorem dX4_count_257 : decode cX4_count 257 = .ok (.aload_n 0, 1) := by decide +kernel
theorem dX4_count_258 : decode cX4_count 258 = .ok (.getfield 29, 3) := by decide +kernel
theorem dX4_count_261 : decode cX4_count 261 = .ok (.getfield 147, 3) := by decide +kernel
theorem dX4_count_264 : decode cX4_count 264 = .ok (.ireturn, 1) := by decide +kernel
theorem dX4_count_265 : decode cX4_count 265 = .ok (.iconst (-1), 1) := by decide +kernel
theorem dX4_count_266 : decode cX4_count 266 = .ok (.ireturn, 1) := by decide +kernel
set_option maxRecDepth 20000 in
theorem ggX4_ladder_X0_startsColour : GoodIn wsX4_ladder wsX0_startsColour := goodIn_r _ [7, 8, 9, 10, 6, 11, 12, 13, 14, 15, 16, 17, 18, 19, 20, 21, 22, 23, 24, 25, 26, 27, 28, 29, 30, 31, 32, 38, 39, 40, 41, 42, 43, 44, 45, 46, 47] (by decide +kernel) (by decide +kernel)
set_option maxRecDepth 20000 in
theorem gX4_ladder_X0_startsColour : GoodIn wsX4_ladder (wsV RX4 150 RX0 yX0_startsColour wsX0_startsColour) := goodIn_app (goodIn_of _ (by decide +kernel)) ggX4_ladder_X0_startsColour
set_option maxRecDepth 20000 in
theorem ggX4_ladder_X0_colourAt : GoodIn wsX4_ladder wsX0_colourAt := goodIn_r _ [11, 12, 13, 14, 15, 16, 17, 18, 19, 20, 21, 22, 23, 24, 25, 26, 27, 28, 29, 30, 31, 32, 38, 39, 40, 41, 42, 43, 44, 45, 46, 47] (by decide +kernel) (by decide +kernel)
set_option maxRecDepth 20000 in
theorem gX4_ladder_X0_colourAt : GoodIn wsX4_ladder (wsV RX4 110 RX0 yX0_colourAt wsX0_colourAt) := goodIn_app (goodIn_of _ (by decide +kernel)) ggX4_ladder_X0_colourAt
theorem dX4_ladder_0 : decode cX4_ladder 0 = .ok (.iload_n 1, 1) := by decide +kernel
theorem dX4_ladder_1 : decode cX4_ladder 1 = .ok (.ifCond .ge 5, 3) := by decide +kernel
theorem dX4_ladder_4 : decode cX4_ladder 4 = .ok (.iconst (-1), 1) := by decide +kernel
theorem dX4_ladder_5 : decode cX4_ladder 5 = .ok (.ireturn, 1) := by decide +kernel
theorem dX4_ladder_6 : decode cX4_ladder 6 = .ok (.iconst 0, 1) := by decide +kernel
theorem dX4_ladder_7 : decode cX4_ladder 7 = .ok (.istore_n 2, 1) := by decide +kernel
theorem dX4_ladder_8 : decode cX4_ladder 8 = .ok (.iconst 0, 1) := by decide +kernel
theorem dX4_ladder_9 : decode cX4_ladder 9 = .ok (.istore_n 3, 1) := by decide +kernel
theorem dX4_ladder_10 : decode cX4_ladder 10 = .ok (.iload_n 3, 1) := by decide +kernel
theorem dX4_ladder_11 : decode cX4_ladder 11 = .ok (.aload_n 0, 1) := by decide +kernel
theorem dX4_ladder_12 : decode cX4_ladder 12 = .ok (.getfield 10, 3) := by decide +kernel
theorem dX4_ladder_15 : decode cX4_ladder 15 = .ok (.getfield 74, 3) := by decide +kernel
theorem dX4_ladder_18 : decode cX4_ladder 18 = .ok (.if_icmp .ge 37, 3) := by decide +kernel
theorem dX4_ladder_21 : decode cX4_ladder 21 = .ok (.aload_n 0, 1) := by decide +kernel
theorem dX4_ladder_22 : decode cX4_ladder 22 = .ok (.getfield 10, 3) := by decide +kernel
theorem dX4_ladder_25 : decode cX4_ladder 25 = .ok (.iload_n 3, 1) := by decide +kernel
theorem dX4_ladder_26 : decode cX4_ladder 26 = .ok (.invokevirtual 150, 3) := by decide +kernel
theorem dX4_ladder_29 : decode cX4_ladder 29 = .ok (.ifCond .eq 20, 3) := by decide +kernel
theorem dX4_ladder_32 : decode cX4_ladder 32 = .ok (.iload_n 2, 1) := by decide +kernel
theorem dX4_ladder_33 : decode cX4_ladder 33 = .ok (.iload_n 1, 1) := by decide +kernel
theorem dX4_ladder_34 : decode cX4_ladder 34 = .ok (.if_icmp .ne 12, 3) := by decide +kernel
theorem dX4_ladder_37 : decode cX4_ladder 37 = .ok (.aload_n 0, 1) := by decide +kernel
theorem dX4_ladder_38 : decode cX4_ladder 38 = .ok (.getfield 10, 3) := by decide +kernel
theorem dX4_ladder_41 : decode cX4_ladder 41 = .ok (.iload_n 3, 1) := by decide +kernel
theorem dX4_ladder_42 : decode cX4_ladder 42 = .ok (.invokevirtual 110, 3) := by decide +kernel
theorem dX4_ladder_45 : decode cX4_ladder 45 = .ok (.ireturn, 1) := by decide +kernel
theorem dX4_ladder_46 : decode cX4_ladder 46 = .ok (.iinc 2 1, 3) := by decide +kernel
theorem dX4_ladder_49 : decode cX4_ladder 49 = .ok (.iinc 3 1, 3) := by decide +kernel
theorem dX4_ladder_52 : decode cX4_ladder 52 = .ok (.goto (-42), 3) := by decide +kernel
theorem dX4_ladder_55 : decode cX4_ladder 55 = .ok (.bipush (-4), 2) := by decide +kernel
theorem dX4_ladder_57 : decode cX4_ladder 57 = .ok (.ireturn, 1) := by decide +kernel
set_option maxRecDepth 20000 in
theorem ggX4_find_X4_isColour : GoodIn wsX4_find wsX4_isColour := goodIn_r _ [6, 7, 8, 5, 9] (by decide +kernel) (by decide +kernel)
set_option maxRecDepth 20000 in
theorem gX4_find_X4_isColour : GoodIn wsX4_find (va_wsS RX4 153 yX4_isColour wsX4_isColour) := goodIn_app (goodIn_of _ (by decide +kernel)) ggX4_find_X4_isColour
set_option maxRecDepth 20000 in
theorem ggX4_find_X0_colourAt : GoodIn wsX4_find wsX0_colourAt := goodIn_r _ [14, 15, 16, 17, 18, 19, 20, 21, 22, 23, 24, 25, 26, 27, 28, 29, 30, 31, 32, 33, 34, 35, 40, 41, 42, 43, 44, 45, 46, 47, 48, 49] (by decide +kernel) (by decide +kernel)
set_option maxRecDepth 20000 in
theorem gX4_find_X0_colourAt : GoodIn wsX4_find (wsV RX4 110 RX0 yX0_colourAt wsX0_colourAt) := goodIn_app (goodIn_of _ (by decide +kernel)) ggX4_find_X0_colourAt
theorem dX4_find_0 : decode cX4_find 0 = .ok (.iload_n 1, 1) := by decide +kernel
theorem dX4_find_1 : decode cX4_find 1 = .ok (.invokestatic 153, 3) := by decide +kernel
theorem dX4_find_4 : decode cX4_find 4 = .ok (.ifCond .eq 7, 3) := by decide +kernel
theorem dX4_find_7 : decode cX4_find 7 = .ok (.iload_n 2, 1) := by decide +kernel
theorem dX4_find_8 : decode cX4_find 8 = .ok (.ifCond .ge 5, 3) := by decide +kernel
theorem dX4_find_11 : decode cX4_find 11 = .ok (.iconst (-1), 1) := by decide +kernel
theorem dX4_find_12 : decode cX4_find 12 = .ok (.ireturn, 1) := by decide +kernel
theorem dX4_find_13 : decode cX4_find 13 = .ok (.iload_n 2, 1) := by decide +kernel
theorem dX4_find_14 : decode cX4_find 14 = .ok (.istore_n 3, 1) := by decide +kernel
theorem dX4_find_15 : decode cX4_find 15 = .ok (.iload_n 3, 1) := by decide +kernel
theorem dX4_find_16 : decode cX4_find 16 = .ok (.aload_n 0, 1) := by decide +kernel
theorem dX4_find_17 : decode cX4_find 17 = .ok (.getfield 10, 3) := by decide +kernel
theorem dX4_find_20 : decode cX4_find 20 = .ok (.getfield 74, 3) := by decide +kernel
theorem dX4_find_23 : decode cX4_find 23 = .ok (.if_icmp .ge 23, 3) := by decide +kernel
theorem dX4_find_26 : decode cX4_find 26 = .ok (.aload_n 0, 1) := by decide +kernel
theorem dX4_find_27 : decode cX4_find 27 = .ok (.getfield 10, 3) := by decide +kernel
theorem dX4_find_30 : decode cX4_find 30 = .ok (.iload_n 3, 1) := by decide +kernel
theorem dX4_find_31 : decode cX4_find 31 = .ok (.invokevirtual 110, 3) := by decide +kernel
theorem dX4_find_34 : decode cX4_find 34 = .ok (.iload_n 1, 1) := by decide +kernel
theorem dX4_find_35 : decode cX4_find 35 = .ok (.if_icmp .ne 5, 3) := by decide +kernel
theorem dX4_find_38 : decode cX4_find 38 = .ok (.iload_n 3, 1) := by decide +kernel
theorem dX4_find_39 : decode cX4_find 39 = .ok (.ireturn, 1) := by decide +kernel
theorem dX4_find_40 : decode cX4_find 40 = .ok (.iinc 3 1, 3) := by decide +kernel
theorem dX4_find_43 : decode cX4_find 43 = .ok (.goto (-28), 3) := by decide +kernel
theorem dX4_find_46 : decode cX4_find 46 = .ok (.bipush (-4), 2) := by decide +kernel
theorem dX4_find_48 : decode cX4_find 48 = .ok (.ireturn, 1) := by decide +kernel
set_option maxRecDepth 20000 in
theorem ggX4_colourOf_X4_isThickness : GoodIn wsX4_colourOf wsX4_isThickness := goodIn_r _ [6, 7, 8, 5, 9] (by decide +kernel) (by decide +kernel)
set_option maxRecDepth 20000 in
theorem gX4_colourOf_X4_isThickness : GoodIn wsX4_colourOf (va_wsS RX4 51 yX4_isThickness wsX4_isThickness) := goodIn_app (goodIn_of _ (by decide +kernel)) ggX4_colourOf_X4_isThickness
set_option maxRecDepth 20000 in
theorem ggX4_colourOf_X3_colour : GoodIn wsX4_colourOf wsX3_colour := goodIn_r _ [13, 14, 15, 12, 16, 17, 18, 19, 20, 21, 22, 23, 24, 25, 26, 27, 28] (by decide +kernel) (by decide +kernel)
set_option maxRecDepth 20000 in
theorem gX4_colourOf_X3_colour : GoodIn wsX4_colourOf (va_wsS RX4 156 yX3_colour wsX3_colour) := goodIn_app (goodIn_of _ (by decide +kernel)) ggX4_colourOf_X3_colour
theorem dX4_colourOf_0 : decode cX4_colourOf 0 = .ok (.iload_n 1, 1) := by decide +kernel
theorem dX4_colourOf_1 : decode cX4_colourOf 1 = .ok (.invokestatic 51, 3) := by decide +kernel
theorem dX4_colourOf_4 : decode cX4_colourOf 4 = .ok (.ifCond .ne 5, 3) := by decide +kernel
theorem dX4_colourOf_7 : decode cX4_colourOf 7 = .ok (.iconst (-1), 1) := by decide +kernel
theorem dX4_colourOf_8 : decode cX4_colourOf 8 = .ok (.ireturn, 1) := by decide +kernel
theorem dX4_colourOf_9 : decode cX4_colourOf 9 = .ok (.iload_n 1, 1) := by decide +kernel
theorem dX4_colourOf_10 : decode cX4_colourOf 10 = .ok (.aload_n 0, 1) := by decide +kernel
theorem dX4_colourOf_11 : decode cX4_colourOf 11 = .ok (.getfield 10, 3) := by decide +kernel
theorem dX4_colourOf_14 : decode cX4_colourOf 14 = .ok (.getfield 48, 3) := by decide +kernel
theorem dX4_colourOf_17 : decode cX4_colourOf 17 = .ok (.iconst 3, 1) := by decide +kernel
theorem dX4_colourOf_18 : decode cX4_colourOf 18 = .ok (.iaload, 1) := by decide +kernel
theorem dX4_colourOf_19 : decode cX4_colourOf 19 = .ok (.invokestatic 156, 3) := by decide +kernel
theorem dX4_colourOf_22 : decode cX4_colourOf 22 = .ok (.ireturn, 1) := by decide +kernel
set_option maxRecDepth 20000 in
theorem ggX4_thicknessFor_X4_isColour : GoodIn wsX4_thicknessFor wsX4_isColour := goodIn_r _ [6, 7, 8, 5, 9] (by decide +kernel) (by decide +kernel)
set_option maxRecDepth 20000 in
theorem gX4_thicknessFor_X4_isColour : GoodIn wsX4_thicknessFor (va_wsS RX4 153 yX4_isColour wsX4_isColour) := goodIn_app (goodIn_of _ (by decide +kernel)) ggX4_thicknessFor_X4_isColour
set_option maxRecDepth 20000 in
theorem ggX4_thicknessFor_X4_isThickness : GoodIn wsX4_thicknessFor wsX4_isThickness := goodIn_r _ [12, 7, 8, 5, 9] (by decide +kernel) (by decide +kernel)
set_option maxRecDepth 20000 in
theorem gX4_thicknessFor_X4_isThickness : GoodIn wsX4_thicknessFor (va_wsS RX4 51 yX4_isThickness wsX4_isThickness) := goodIn_app (goodIn_of _ (by decide +kernel)) ggX4_thicknessFor_X4_isThickness
set_option maxRecDepth 20000 in
theorem ggX4_thicknessFor_X3_colour : GoodIn wsX4_thicknessFor wsX3_colour := goodIn_r _ [16, 17, 18, 15, 19, 20, 21, 22, 23, 24, 25, 26, 27, 28, 29, 30, 31] (by decide +kernel) (by decide +kernel)
set_option maxRecDepth 20000 in
theorem gX4_thicknessFor_X3_colour : GoodIn wsX4_thicknessFor (va_wsS RX4 156 yX3_colour wsX3_colour) := goodIn_app (goodIn_of _ (by decide +kernel)) ggX4_thicknessFor_X3_colour
theorem dX4_thicknessFor_0 : decode cX4_thicknessFor 0 = .ok (.iload_n 1, 1) := by decide +kernel
theorem dX4_thicknessFor_1 : decode cX4_thicknessFor 1 = .ok (.invokestatic 153, 3) := by decide +kernel
theorem dX4_thicknessFor_4 : decode cX4_thicknessFor 4 = .ok (.ifCond .eq 10, 3) := by decide +kernel
theorem dX4_thicknessFor_7 : decode cX4_thicknessFor 7 = .ok (.iload_n 2, 1) := by decide +kernel
theorem dX4_thicknessFor_8 : decode cX4_thicknessFor 8 = .ok (.invokestatic 51, 3) := by decide +kernel
theorem dX4_thicknessFor_11 : decode cX4_thicknessFor 11 = .ok (.ifCond .ne 5, 3) := by decide +kernel
theorem dX4_thicknessFor_14 : decode cX4_thicknessFor 14 = .ok (.iconst (-1), 1) := by decide +kernel
theorem dX4_thicknessFor_15 : decode cX4_thicknessFor 15 = .ok (.ireturn, 1) := by decide +kernel
theorem dX4_thicknessFor_16 : decode cX4_thicknessFor 16 = .ok (.iload_n 2, 1) := by decide +kernel
theorem dX4_thicknessFor_17 : decode cX4_thicknessFor 17 = .ok (.istore_n 3, 1) := by decide +kernel
theorem dX4_thicknessFor_18 : decode cX4_thicknessFor 18 = .ok (.iload_n 3, 1) := by decide +kernel
theorem dX4_thicknessFor_19 : decode cX4_thicknessFor 19 = .ok (.sipush 5000, 3) := by decide +kernel
theorem dX4_thicknessFor_22 : decode cX4_thicknessFor 22 = .ok (.if_icmp .gt 28, 3) := by decide +kernel
theorem dX4_thicknessFor_25 : decode cX4_thicknessFor 25 = .ok (.iload_n 3, 1) := by decide +kernel
theorem dX4_thicknessFor_26 : decode cX4_thicknessFor 26 = .ok (.aload_n 0, 1) := by decide +kernel
theorem dX4_thicknessFor_27 : decode cX4_thicknessFor 27 = .ok (.getfield 10, 3) := by decide +kernel
theorem dX4_thicknessFor_30 : decode cX4_thicknessFor 30 = .ok (.getfield 48, 3) := by decide +kernel
theorem dX4_thicknessFor_33 : decode cX4_thicknessFor 33 = .ok (.iconst 3, 1) := by decide +kernel
theorem dX4_thicknessFor_34 : decode cX4_thicknessFor 34 = .ok (.iaload, 1) := by decide +kernel
theorem dX4_thicknessFor_35 : decode cX4_thicknessFor 35 = .ok (.invokestatic 156, 3) := by decide +kernel
theorem dX4_thicknessFor_38 : decode cX4_thicknessFor 38 = .ok (.iload_n 1, 1) := by decide +kernel
theorem dX4_thicknessFor_39 : decode cX4_thicknessFor 39 = .ok (.if_icmp .ne 5, 3) := by decide +kernel
theorem dX4_thicknessFor_42 : decode cX4_thicknessFor 42 = .ok (.iload_n 3, 1) := by decide +kernel
theorem dX4_thicknessFor_43 : decode cX4_thicknessFor 43 = .ok (.ireturn, 1) := by decide +kernel
theorem dX4_thicknessFor_44 : decode cX4_thicknessFor 44 = .ok (.iinc 3 1, 3) := by decide +kernel
theorem dX4_thicknessFor_47 : decode cX4_thicknessFor 47 = .ok (.goto (-29), 3) := by decide +kernel
theorem dX4_thicknessFor_50 : decode cX4_thicknessFor 50 = .ok (.bipush (-4), 2) := by decide +kernel
theorem dX4_thicknessFor_52 : decode cX4_thicknessFor 52 = .ok (.ireturn, 1) := by decide +kernel
set_option maxRecDepth 20000 in
theorem ggX4_until_X4_isQuestion : GoodIn wsX4_until wsX4_isQuestion := goodIn_r _ [7, 8, 9, 6, 10, 11, 12, 13] (by decide +kernel) (by decide +kernel)
set_option maxRecDepth 20000 in
theorem gX4_until_X4_isQuestion : GoodIn wsX4_until (va_wsS RX4 160 yX4_isQuestion wsX4_isQuestion) := goodIn_app (goodIn_of _ (by decide +kernel)) ggX4_until_X4_isQuestion
set_option maxRecDepth 20000 in
theorem ggX4_until_X0_copyFrom : GoodIn wsX4_until wsX0_copyFrom := goodIn_r _ [18, 19, 20, 21, 22, 23, 24, 25, 26, 27, 28, 29, 30, 31, 32, 127, 128, 129, 130, 131, 132, 133, 134, 135, 136] (by decide +kernel) (by decide +kernel)
set_option maxRecDepth 20000 in
theorem gX4_until_X0_copyFrom : GoodIn wsX4_until (wsV RX4 164 RX0 yX0_copyFrom wsX0_copyFrom) := goodIn_app (goodIn_of _ (by decide +kernel)) ggX4_until_X0_copyFrom
set_option maxRecDepth 20000 in
theorem ggX4_until_X4_isSo : GoodIn wsX4_until wsX4_isSo := goodIn_r _ [36, 1, 3, 37, 2, 38, 39, 40, 17, 41, 26, 42, 43, 44, 45, 19, 24, 46, 47, 48, 49, 50, 51, 52, 53, 54, 55, 56, 57, 58, 59, 60, 61, 62, 63, 64, 65, 66, 67, 68, 123, 124, 125, 126, 127, 128, 129, 130, 131, 132, 133, 134, 135, 136] (by decide +kernel) (by decide +kernel)
set_option maxRecDepth 20000 in
theorem gX4_until_X4_isSo : GoodIn wsX4_until (wsV RX4 167 RX4 yX4_isSo wsX4_isSo) := goodIn_app (goodIn_of _ (by decide +kernel)) ggX4_until_X4_isSo
set_option maxRecDepth 20000 in
theorem ggX4_until_X0_tick : GoodIn wsX4_until wsX0_tick := goodIn_r _ [72, 26, 27, 73, 74, 75, 17, 76, 19, 24, 77, 78, 79, 80, 81, 82, 83, 84, 85, 86, 87, 88, 89, 90, 91, 92, 93, 25, 94, 95, 96, 97, 42, 43, 44, 45, 98, 99, 100, 101, 102, 103, 104, 105, 28, 106, 107, 108, 109, 110, 111, 112, 113, 114, 39, 40, 41, 115, 116, 117, 118, 29, 30, 31, 32, 119, 120, 121, 122, 127, 128, 129, 130, 131, 132, 133, 134, 135, 136] (by decide +kernel) (by decide +kernel)
set_option maxRecDepth 20000 in
theorem gX4_until_X0_tick : GoodIn wsX4_until (wsV RX4 86 RX0 yX0_tick wsX0_tick) := goodIn_app (goodIn_of _ (by decide +kernel)) ggX4_until_X0_tick
theorem dX4_until_0 : decode cX4_until 0 = .ok (.iload_n 1, 1) := by decide +kernel
theorem dX4_until_1 : decode cX4_until 1 = .ok (.iload_n 2, 1) := by decide +kernel
theorem dX4_until_2 : decode cX4_until 2 = .ok (.invokestatic 160, 3) := by decide +kernel
theorem dX4_until_5 : decode cX4_until 5 = .ok (.ifCond .ne 5, 3) := by decide +kernel
theorem dX4_until_8 : decode cX4_until 8 = .ok (.iconst (-1), 1) := by decide +kernel
theorem dX4_until_9 : decode cX4_until 9 = .ok (.ireturn, 1) := by decide +kernel
theorem dX4_until_10 : decode cX4_until 10 = .ok (.aload_n 0, 1) := by decide +kernel
theorem dX4_until_11 : decode cX4_until 11 = .ok (.getfield 16, 3) := by decide +kernel
theorem dX4_until_14 : decode cX4_until 14 = .ok (.aload_n 0, 1) := by decide +kernel
theorem dX4_until_15 : decode cX4_until 15 = .ok (.getfield 10, 3) := by decide +kernel
theorem dX4_until_18 : decode cX4_until 18 = .ok (.invokevirtual 164, 3) := by decide +kernel
theorem dX4_until_21 : decode cX4_until 21 = .ok (.aload_n 0, 1) := by decide +kernel
theorem dX4_until_22 : decode cX4_until 22 = .ok (.iload_n 1, 1) := by decide +kernel
theorem dX4_until_23 : decode cX4_until 23 = .ok (.iload_n 2, 1) := by decide +kernel
theorem dX4_until_24 : decode cX4_until 24 = .ok (.invokevirtual 167, 3) := by decide +kernel
theorem dX4_until_27 : decode cX4_until 27 = .ok (.ifCond .eq 5, 3) := by decide +kernel
theorem dX4_until_30 : decode cX4_until 30 = .ok (.iconst 0, 1) := by decide +kernel
theorem dX4_until_31 : decode cX4_until 31 = .ok (.ireturn, 1) := by decide +kernel
theorem dX4_until_32 : decode cX4_until 32 = .ok (.iconst 1, 1) := by decide +kernel
theorem dX4_until_33 : decode cX4_until 33 = .ok (.istore_n 3, 1) := by decide +kernel
theorem dX4_until_34 : decode cX4_until 34 = .ok (.iload_n 3, 1) := by decide +kernel
theorem dX4_until_35 : decode cX4_until 35 = .ok (.sipush 1000, 3) := by decide +kernel
theorem dX4_until_38 : decode cX4_until 38 = .ok (.if_icmp .gt 37, 3) := by decide +kernel
theorem dX4_until_41 : decode cX4_until 41 = .ok (.aload_n 0, 1) := by decide +kernel
theorem dX4_until_42 : decode cX4_until 42 = .ok (.getfield 16, 3) := by decide +kernel
theorem dX4_until_45 : decode cX4_until 45 = .ok (.getfield 74, 3) := by decide +kernel
theorem dX4_until_48 : decode cX4_until 48 = .ok (.ifCond .le 27, 3) := by decide +kernel
theorem dX4_until_51 : decode cX4_until 51 = .ok (.aload_n 0, 1) := by decide +kernel
theorem dX4_until_52 : decode cX4_until 52 = .ok (.getfield 16, 3) := by decide +kernel
theorem dX4_until_55 : decode cX4_until 55 = .ok (.invokevirtual 86, 3) := by decide +kernel
theorem dX4_until_58 : decode cX4_until 58 = .ok (.aload_n 0, 1) := by decide +kernel
theorem dX4_until_59 : decode cX4_until 59 = .ok (.iload_n 1, 1) := by decide +kernel
theorem dX4_until_60 : decode cX4_until 60 = .ok (.iload_n 2, 1) := by decide +kernel
theorem dX4_until_61 : decode cX4_until 61 = .ok (.invokevirtual 167, 3) := by decide +kernel
theorem dX4_until_64 : decode cX4_until 64 = .ok (.ifCond .eq 5, 3) := by decide +kernel
theorem dX4_until_67 : decode cX4_until 67 = .ok (.iload_n 3, 1) := by decide +kernel
theorem dX4_until_68 : decode cX4_until 68 = .ok (.ireturn, 1) := by decide +kernel
theorem dX4_until_69 : decode cX4_until 69 = .ok (.iinc 3 1, 3) := by decide +kernel
theorem dX4_until_72 : decode cX4_until 72 = .ok (.goto (-38), 3) := by decide +kernel
theorem dX4_until_75 : decode cX4_until 75 = .ok (.bipush (-4), 2) := by decide +kernel
theorem dX4_until_77 : decode cX4_until 77 = .ok (.ireturn, 1) := by decide +kernel
set_option maxRecDepth 20000 in
theorem ggX4_ifGo_X0_hasRow : GoodIn wsX4_ifGo wsX0_hasRow := goodIn_r _ [9, 10, 97, 98, 99, 100, 101, 102, 103, 104, 105, 106] (by decide +kernel) (by decide +kernel)
set_option maxRecDepth 20000 in
theorem gX4_ifGo_X0_hasRow : GoodIn wsX4_ifGo (wsV RX4 65 RX0 yX0_hasRow wsX0_hasRow) := goodIn_app (goodIn_of _ (by decide +kernel)) ggX4_ifGo_X0_hasRow
set_option maxRecDepth 20000 in
theorem ggX4_ifGo_X4_isBetween : GoodIn wsX4_ifGo wsX4_isBetween := goodIn_r _ [14] (by decide +kernel) (by decide +kernel)
set_option maxRecDepth 20000 in
theorem gX4_ifGo_X4_isBetween : GoodIn wsX4_ifGo (va_wsS RX4 40 yX4_isBetween wsX4_isBetween) := goodIn_app (goodIn_of _ (by decide +kernel)) ggX4_ifGo_X4_isBetween
set_option maxRecDepth 20000 in
theorem ggX4_ifGo_X0_copyFrom : GoodIn wsX4_ifGo wsX0_copyFrom := goodIn_r _ [18, 19, 20, 21, 22, 23, 24, 25, 10, 26, 27, 28, 29, 30, 31, 97, 98, 99, 100, 101, 102, 103, 104, 105, 106] (by decide +kernel) (by decide +kernel)
set_option maxRecDepth 20000 in
theorem gX4_ifGo_X0_copyFrom : GoodIn wsX4_ifGo (wsV RX4 164 RX0 yX0_copyFrom wsX0_copyFrom) := goodIn_app (goodIn_of _ (by decide +kernel)) ggX4_ifGo_X0_copyFrom
set_option maxRecDepth 20000 in
theorem ggX4_ifGo_X0_tick : GoodIn wsX4_ifGo wsX0_tick := goodIn_r _ [35, 10, 26, 36, 37, 38, 8, 39, 19, 24, 40, 41, 42, 43, 44, 45, 46, 47, 48, 49, 50, 51, 52, 53, 54, 55, 56, 25, 57, 58, 59, 60, 61, 62, 63, 64, 65, 66, 67, 68, 69, 70, 71, 72, 27, 73, 74, 75, 76, 77, 78, 79, 80, 81, 82, 83, 84, 85, 86, 87, 88, 28, 29, 30, 31, 89, 90, 91, 92, 97, 98, 99, 100, 101, 102, 103, 104, 105, 106] (by decide +kernel) (by decide +kernel)
set_option maxRecDepth 20000 in
theorem gX4_ifGo_X0_tick : GoodIn wsX4_ifGo (wsV RX4 86 RX0 yX0_tick wsX0_tick) := goodIn_app (goodIn_of _ (by decide +kernel)) ggX4_ifGo_X0_tick
theorem dX4_ifGo_0 : decode cX4_ifGo 0 = .ok (.aload_n 0, 1) := by decide +kernel
theorem dX4_ifGo_1 : decode cX4_ifGo 1 = .ok (.getfield 10, 3) := by decide +kernel
theorem dX4_ifGo_4 : decode cX4_ifGo 4 = .ok (.iload_n 1, 1) := by decide +kernel
theorem dX4_ifGo_5 : decode cX4_ifGo 5 = .ok (.invokevirtual 65, 3) := by decide +kernel
theorem dX4_ifGo_8 : decode cX4_ifGo 8 = .ok (.ifCond .eq 14, 3) := by decide +kernel
theorem dX4_ifGo_11 : decode cX4_ifGo 11 = .ok (.iload_n 2, 1) := by decide +kernel
theorem dX4_ifGo_12 : decode cX4_ifGo 12 = .ok (.iconst 1, 1) := by decide +kernel
theorem dX4_ifGo_13 : decode cX4_ifGo 13 = .ok (.sipush 1000, 3) := by decide +kernel
theorem dX4_ifGo_16 : decode cX4_ifGo 16 = .ok (.invokestatic 40, 3) := by decide +kernel
theorem dX4_ifGo_19 : decode cX4_ifGo 19 = .ok (.ifCond .ne 5, 3) := by decide +kernel
theorem dX4_ifGo_22 : decode cX4_ifGo 22 = .ok (.iconst (-1), 1) := by decide +kernel
theorem dX4_ifGo_23 : decode cX4_ifGo 23 = .ok (.ireturn, 1) := by decide +kernel
theorem dX4_ifGo_24 : decode cX4_ifGo 24 = .ok (.aload_n 0, 1) := by decide +kernel
theorem dX4_ifGo_25 : decode cX4_ifGo 25 = .ok (.getfield 16, 3) := by decide +kernel
theorem dX4_ifGo_28 : decode cX4_ifGo 28 = .ok (.aload_n 0, 1) := by decide +kernel
theorem dX4_ifGo_29 : decode cX4_ifGo 29 = .ok (.getfield 10, 3) := by decide +kernel
theorem dX4_ifGo_32 : decode cX4_ifGo 32 = .ok (.invokevirtual 164, 3) := by decide +kernel
theorem dX4_ifGo_35 : decode cX4_ifGo 35 = .ok (.iconst 0, 1) := by decide +kernel
theorem dX4_ifGo_36 : decode cX4_ifGo 36 = .ok (.istore_n 3, 1) := by decide +kernel
theorem dX4_ifGo_37 : decode cX4_ifGo 37 = .ok (.iload_n 3, 1) := by decide +kernel
theorem dX4_ifGo_38 : decode cX4_ifGo 38 = .ok (.iload_n 2, 1) := by decide +kernel
theorem dX4_ifGo_39 : decode cX4_ifGo 39 = .ok (.if_icmp .ge 26, 3) := by decide +kernel
theorem dX4_ifGo_42 : decode cX4_ifGo 42 = .ok (.aload_n 0, 1) := by decide +kernel
theorem dX4_ifGo_43 : decode cX4_ifGo 43 = .ok (.getfield 16, 3) := by decide +kernel
theorem dX4_ifGo_46 : decode cX4_ifGo 46 = .ok (.getfield 74, 3) := by decide +kernel
theorem dX4_ifGo_49 : decode cX4_ifGo 49 = .ok (.ifCond .le 16, 3) := by decide +kernel
theorem dX4_ifGo_52 : decode cX4_ifGo 52 = .ok (.aload_n 0, 1) := by decide +kernel
theorem dX4_ifGo_53 : decode cX4_ifGo 53 = .ok (.getfield 16, 3) := by decide +kernel
theorem dX4_ifGo_56 : decode cX4_ifGo 56 = .ok (.invokevirtual 86, 3) := by decide +kernel
theorem dX4_ifGo_59 : decode cX4_ifGo 59 = .ok (.iinc 3 1, 3) := by decide +kernel
theorem dX4_ifGo_62 : decode cX4_ifGo 62 = .ok (.goto (-25), 3) := by decide +kernel
theorem dX4_ifGo_65 : decode cX4_ifGo 65 = .ok (.aload_n 0, 1) := by decide +kernel
theorem dX4_ifGo_66 : decode cX4_ifGo 66 = .ok (.getfield 16, 3) := by decide +kernel
theorem dX4_ifGo_69 : decode cX4_ifGo 69 = .ok (.iload_n 1, 1) := by decide +kernel
theorem dX4_ifGo_70 : decode cX4_ifGo 70 = .ok (.invokevirtual 65, 3) := by decide +kernel
theorem dX4_ifGo_73 : decode cX4_ifGo 73 = .ok (.ifCond .eq 15, 3) := by decide +kernel
theorem dX4_ifGo_76 : decode cX4_ifGo 76 = .ok (.aload_n 0, 1) := by decide +kernel
theorem dX4_ifGo_77 : decode cX4_ifGo 77 = .ok (.getfield 16, 3) := by decide +kernel
theorem dX4_ifGo_80 : decode cX4_ifGo 80 = .ok (.getfield 68, 3) := by decide +kernel
theorem dX4_ifGo_83 : decode cX4_ifGo 83 = .ok (.iload_n 1, 1) := by decide +kernel
theorem dX4_ifGo_84 : decode cX4_ifGo 84 = .ok (.iaload, 1) := by decide +kernel
theorem dX4_ifGo_85 : decode cX4_ifGo 85 = .ok (.goto 5, 3) := by decide +kernel
theorem dX4_ifGo_88 : decode cX4_ifGo 88 = .ok (.bipush (-4), 2) := by decide +kernel
theorem dX4_ifGo_90 : decode cX4_ifGo 90 = .ok (.ireturn, 1) := by decide +kernel
set_option maxRecDepth 20000 in
theorem ggX4_type_X4_isBetween : GoodIn wsX4_type wsX4_isBetween := goodIn_r _ [6] (by decide +kernel) (by decide +kernel)
set_option maxRecDepth 20000 in
theorem gX4_type_X4_isBetween : GoodIn wsX4_type (va_wsS RX4 40 yX4_isBetween wsX4_isBetween) := goodIn_app (goodIn_of _ (by decide +kernel)) ggX4_type_X4_isBetween
set_option maxRecDepth 20000 in
theorem ggX4_type_X1_append : GoodIn wsX4_type wsX1_append := goodIn_r _ [11, 12, 13, 18, 19, 20, 21, 22, 23] (by decide +kernel) (by decide +kernel)
set_option maxRecDepth 20000 in
theorem gX4_type_X1_append : GoodIn wsX4_type (wsV RX4 170 RX1 yX1_append wsX1_append) := goodIn_app (goodIn_of _ (by decide +kernel)) ggX4_type_X1_append
theorem dX4_type_0 : decode cX4_type 0 = .ok (.iload_n 1, 1) := by decide +kernel
theorem dX4_type_1 : decode cX4_type 1 = .ok (.bipush 32, 2) := by decide +kernel
theorem dX4_type_3 : decode cX4_type 3 = .ok (.bipush 126, 2) := by decide +kernel
theorem dX4_type_5 : decode cX4_type 5 = .ok (.invokestatic 40, 3) := by decide +kernel
theorem dX4_type_8 : decode cX4_type 8 = .ok (.ifCond .ne 5, 3) := by decide +kernel
theorem dX4_type_11 : decode cX4_type 11 = .ok (.iconst (-1), 1) := by decide +kernel
theorem dX4_type_12 : decode cX4_type 12 = .ok (.ireturn, 1) := by decide +kernel
theorem dX4_type_13 : decode cX4_type 13 = .ok (.aload_n 0, 1) := by decide +kernel
theorem dX4_type_14 : decode cX4_type 14 = .ok (.getfield 29, 3) := by decide +kernel
theorem dX4_type_17 : decode cX4_type 17 = .ok (.getfield 147, 3) := by decide +kernel
theorem dX4_type_20 : decode cX4_type 20 = .ok (.bipush 100, 2) := by decide +kernel
theorem dX4_type_22 : decode cX4_type 22 = .ok (.if_icmp .ne 6, 3) := by decide +kernel
theorem dX4_type_25 : decode cX4_type 25 = .ok (.bipush (-3), 2) := by decide +kernel
theorem dX4_type_27 : decode cX4_type 27 = .ok (.ireturn, 1) := by decide +kernel
theorem dX4_type_28 : decode cX4_type 28 = .ok (.aload_n 0, 1) := by decide +kernel
theorem dX4_type_29 : decode cX4_type 29 = .ok (.getfield 29, 3) := by decide +kernel
theorem dX4_type_32 : decode cX4_type 32 = .ok (.iload_n 1, 1) := by decide +kernel
theorem dX4_type_33 : decode cX4_type 33 = .ok (.i2c, 1) := by decide +kernel
theorem dX4_type_34 : decode cX4_type 34 = .ok (.invokevirtual 170, 3) := by decide +kernel
theorem dX4_type_37 : decode cX4_type 37 = .ok (.aload_n 0, 1) := by decide +kernel
theorem dX4_type_38 : decode cX4_type 38 = .ok (.getfield 29, 3) := by decide +kernel
theorem dX4_type_41 : decode cX4_type 41 = .ok (.getfield 147, 3) := by decide +kernel
theorem dX4_type_44 : decode cX4_type 44 = .ok (.ireturn, 1) := by decide +kernel
theorem dX4_clearText_0 : decode cX4_clearText 0 = .ok (.aload_n 0, 1) := by decide +kernel
theorem dX4_clearText_1 : decode cX4_clearText 1 = .ok (.getfield 29, 3) := by decide +kernel
theorem dX4_clearText_4 : decode cX4_clearText 4 = .ok (.getfield 147, 3) := by decide +kernel
theorem dX4_clearText_7 : decode cX4_clearText 7 = .ok (.istore_n 1, 1) := by decide +kernel
theorem dX4_clearText_8 : decode cX4_clearText 8 = .ok (.aload_n 0, 1) := by decide +kernel
theorem dX4_clearText_9 : decode cX4_clearText 9 = .ok (.getfield 29, 3) := by decide +kernel
theorem dX4_clearText_12 : decode cX4_clearText 12 = .ok (.iconst 0, 1) := by decide +kernel
theorem dX4_clearText_13 : decode cX4_clearText 13 = .ok (.putfield 147, 3) := by decide +kernel
theorem dX4_clearText_16 : decode cX4_clearText 16 = .ok (.iload_n 1, 1) := by decide +kernel
theorem dX4_clearText_17 : decode cX4_clearText 17 = .ok (.ireturn, 1) := by decide +kernel
set_option maxRecDepth 20000 in
theorem ggX4_fault_X4_isBetween : GoodIn wsX4_fault wsX4_isBetween := goodIn_r _ [7] (by decide +kernel) (by decide +kernel)
set_option maxRecDepth 20000 in
theorem gX4_fault_X4_isBetween : GoodIn wsX4_fault (va_wsS RX4 40 yX4_isBetween wsX4_isBetween) := goodIn_app (goodIn_of _ (by decide +kernel)) ggX4_fault_X4_isBetween
set_option maxRecDepth 20000 in
theorem ggX4_fault_X1_parse : GoodIn wsX4_fault wsX1_parse := goodIn_r _ [12, 13, 14, 15, 16, 17, 18, 19, 20, 11, 21, 22, 23, 24, 25, 26, 27, 28, 29, 30, 31, 6, 32, 4, 5, 7, 37, 38, 39, 40, 41, 42] (by decide +kernel) (by decide +kernel)
set_option maxRecDepth 20000 in
theorem gX4_fault_X1_parse : GoodIn wsX4_fault (wsV RX4 174 RX1 yX1_parse wsX1_parse) := goodIn_app (goodIn_of _ (by decide +kernel)) ggX4_fault_X1_parse
theorem dX4_fault_0 : decode cX4_fault 0 = .ok (.iload_n 1, 1) := by decide +kernel
theorem dX4_fault_1 : decode cX4_fault 1 = .ok (.iconst 0, 1) := by decide +kernel
theorem dX4_fault_2 : decode cX4_fault 2 = .ok (.iconst 1, 1) := by decide +kernel
theorem dX4_fault_3 : decode cX4_fault 3 = .ok (.invokestatic 40, 3) := by decide +kernel
theorem dX4_fault_6 : decode cX4_fault 6 = .ok (.ifCond .ne 5, 3) := by decide +kernel
theorem dX4_fault_9 : decode cX4_fault 9 = .ok (.iconst (-1), 1) := by decide +kernel
theorem dX4_fault_10 : decode cX4_fault 10 = .ok (.ireturn, 1) := by decide +kernel
theorem dX4_fault_11 : decode cX4_fault 11 = .ok (.aload_n 0, 1) := by decide +kernel
theorem dX4_fault_12 : decode cX4_fault 12 = .ok (.getfield 29, 3) := by decide +kernel
theorem dX4_fault_15 : decode cX4_fault 15 = .ok (.invokevirtual 174, 3) := by decide +kernel
theorem dX4_fault_18 : decode cX4_fault 18 = .ok (.aload_n 0, 1) := by decide +kernel
theorem dX4_fault_19 : decode cX4_fault 19 = .ok (.getfield 29, 3) := by decide +kernel
theorem dX4_fault_22 : decode cX4_fault 22 = .ok (.getfield 177, 3) := by decide +kernel
theorem dX4_fault_25 : decode cX4_fault 25 = .ok (.ifCond .ne 6, 3) := by decide +kernel
theorem dX4_fault_28 : decode cX4_fault 28 = .ok (.bipush (-4), 2) := by decide +kernel
theorem dX4_fault_30 : decode cX4_fault 30 = .ok (.ireturn, 1) := by decide +kernel
theorem dX4_fault_31 : decode cX4_fault 31 = .ok (.iload_n 1, 1) := by decide +kernel
theorem dX4_fault_32 : decode cX4_fault 32 = .ok (.ifCond .ne 13, 3) := by decide +kernel
theorem dX4_fault_35 : decode cX4_fault 35 = .ok (.aload_n 0, 1) := by decide +kernel
theorem dX4_fault_36 : decode cX4_fault 36 = .ok (.getfield 29, 3) := by decide +kernel
theorem dX4_fault_39 : decode cX4_fault 39 = .ok (.getfield 180, 3) := by decide +kernel
theorem dX4_fault_42 : decode cX4_fault 42 = .ok (.goto 10, 3) := by decide +kernel
theorem dX4_fault_45 : decode cX4_fault 45 = .ok (.aload_n 0, 1) := by decide +kernel
theorem dX4_fault_46 : decode cX4_fault 46 = .ok (.getfield 29, 3) := by decide +kernel
theorem dX4_fault_49 : decode cX4_fault 49 = .ok (.getfield 177, 3) := by decide +kernel
theorem dX4_fault_52 : decode cX4_fault 52 = .ok (.ireturn, 1) := by decide +kernel
set_option maxRecDepth 20000 in
theorem ggX4_read_X1_parse : GoodIn wsX4_read wsX1_parse := goodIn_r _ [12, 13, 14, 15, 16, 17, 18, 19, 20, 11, 21, 22, 23, 24, 25, 26, 27, 28, 29, 30, 31, 32, 33, 34, 35, 36, 91, 92, 93, 94, 95, 96] (by decide +kernel) (by decide +kernel)
set_option maxRecDepth 20000 in
theorem gX4_read_X1_parse : GoodIn wsX4_read (wsV RX4 174 RX1 yX1_parse wsX1_parse) := goodIn_app (goodIn_of _ (by decide +kernel)) ggX4_read_X1_parse
set_option maxRecDepth 20000 in
theorem ggX4_read_X2_keep : GoodIn wsX4_read wsX2_keep := goodIn_r _ [41, 42, 43, 44, 45, 46, 40, 47, 48, 49, 50, 51, 52, 53, 54, 55, 56, 57, 58, 59, 60, 61, 62, 63, 64, 65, 66, 107, 108, 97, 98, 99, 100, 101, 102, 103, 104, 105, 106] (by decide +kernel) (by decide +kernel)
set_option maxRecDepth 20000 in
theorem gX4_read_X2_keep : GoodIn wsX4_read (wsV RX4 44 RX2 yX2_keep wsX2_keep) := goodIn_app (goodIn_of _ (by decide +kernel)) ggX4_read_X2_keep
set_option maxRecDepth 20000 in
theorem ggX4_read_X0_takeAway : GoodIn wsX4_read wsX0_takeAway := goodIn_r _ [70, 71, 72, 73, 51, 74, 59, 60, 75, 76, 77, 78, 97, 98, 99, 100, 101, 102, 103, 104, 105, 106] (by decide +kernel) (by decide +kernel)
set_option maxRecDepth 20000 in
theorem gX4_read_X0_takeAway : GoodIn wsX4_read (wsV RX4 55 RX0 yX0_takeAway wsX0_takeAway) := goodIn_app (goodIn_of _ (by decide +kernel)) ggX4_read_X0_takeAway
set_option maxRecDepth 20000 in
theorem ggX4_read_X0_appendRow : GoodIn wsX4_read wsX0_appendRow := goodIn_r _ [82, 60, 53, 83, 84, 85, 51, 86, 59, 97, 98, 99, 100, 101, 102, 103, 104, 105, 106] (by decide +kernel) (by decide +kernel)
set_option maxRecDepth 20000 in
theorem gX4_read_X0_appendRow : GoodIn wsX4_read (wsV RX4 58 RX0 yX0_appendRow wsX0_appendRow) := goodIn_app (goodIn_of _ (by decide +kernel)) ggX4_read_X0_appendRow
theorem dX4_read_0 : decode cX4_read 0 = .ok (.aload_n 0, 1) := by decide +kernel
theorem dX4_read_1 : decode cX4_read 1 = .ok (.getfield 29, 3) := by decide +kernel
theorem dX4_read_4 : decode cX4_read 4 = .ok (.invokevirtual 174, 3) := by decide +kernel
theorem dX4_read_7 : decode cX4_read 7 = .ok (.aload_n 0, 1) := by decide +kernel
theorem dX4_read_8 : decode cX4_read 8 = .ok (.getfield 29, 3) := by decide +kernel
theorem dX4_read_11 : decode cX4_read 11 = .ok (.getfield 177, 3) := by decide +kernel
theorem dX4_read_14 : decode cX4_read 14 = .ok (.ifCond .eq 6, 3) := by decide +kernel
theorem dX4_read_17 : decode cX4_read 17 = .ok (.bipush (-2), 2) := by decide +kernel
theorem dX4_read_19 : decode cX4_read 19 = .ok (.ireturn, 1) := by decide +kernel
theorem dX4_read_20 : decode cX4_read 20 = .ok (.aload_n 0, 1) := by decide +kernel
theorem dX4_read_21 : decode cX4_read 21 = .ok (.getfield 22, 3) := by decide +kernel
theorem dX4_read_24 : decode cX4_read 24 = .ok (.aload_n 0, 1) := by decide +kernel
theorem dX4_read_25 : decode cX4_read 25 = .ok (.getfield 10, 3) := by decide +kernel
theorem dX4_read_28 : decode cX4_read 28 = .ok (.invokevirtual 44, 3) := by decide +kernel
theorem dX4_read_31 : decode cX4_read 31 = .ok (.aload_n 0, 1) := by decide +kernel
theorem dX4_read_32 : decode cX4_read 32 = .ok (.getfield 10, 3) := by decide +kernel
theorem dX4_read_35 : decode cX4_read 35 = .ok (.invokevirtual 55, 3) := by decide +kernel
theorem dX4_read_38 : decode cX4_read 38 = .ok (.iconst 0, 1) := by decide +kernel
theorem dX4_read_39 : decode cX4_read 39 = .ok (.istore_n 1, 1) := by decide +kernel
theorem dX4_read_40 : decode cX4_read 40 = .ok (.iload_n 1, 1) := by decide +kernel
theorem dX4_read_41 : decode cX4_read 41 = .ok (.aload_n 0, 1) := by decide +kernel
theorem dX4_read_42 : decode cX4_read 42 = .ok (.getfield 29, 3) := by decide +kernel
theorem dX4_read_45 : decode cX4_read 45 = .ok (.getfield 183, 3) := by decide +kernel
theorem dX4_read_48 : decode cX4_read 48 = .ok (.if_icmp .ge 25, 3) := by decide +kernel
theorem dX4_read_51 : decode cX4_read 51 = .ok (.aload_n 0, 1) := by decide +kernel
theorem dX4_read_52 : decode cX4_read 52 = .ok (.getfield 10, 3) := by decide +kernel
theorem dX4_read_55 : decode cX4_read 55 = .ok (.aload_n 0, 1) := by decide +kernel
theorem dX4_read_56 : decode cX4_read 56 = .ok (.getfield 29, 3) := by decide +kernel
theorem dX4_read_59 : decode cX4_read 59 = .ok (.getfield 184, 3) := by decide +kernel
theorem dX4_read_62 : decode cX4_read 62 = .ok (.iload_n 1, 1) := by decide +kernel
theorem dX4_read_63 : decode cX4_read 63 = .ok (.iaload, 1) := by decide +kernel
theorem dX4_read_64 : decode cX4_read 64 = .ok (.invokevirtual 58, 3) := by decide +kernel
theorem dX4_read_67 : decode cX4_read 67 = .ok (.iinc 1 1, 3) := by decide +kernel
theorem dX4_read_70 : decode cX4_read 70 = .ok (.goto (-30), 3) := by decide +kernel
theorem dX4_read_73 : decode cX4_read 73 = .ok (.aload_n 0, 1) := by decide +kernel
theorem dX4_read_74 : decode cX4_read 74 = .ok (.getfield 10, 3) := by decide +kernel
theorem dX4_read_77 : decode cX4_read 77 = .ok (.getfield 74, 3) := by decide +kernel
theorem dX4_read_80 : decode cX4_read 80 = .ok (.ireturn, 1) := by decide +kernel
theorem dX4_isBetween_0 : decode cX4_isBetween 0 = .ok (.iload_n 0, 1) := by decide +kernel
theorem dX4_isBetween_1 : decode cX4_isBetween 1 = .ok (.iload_n 1, 1) := by decide +kernel
theorem dX4_isBetween_2 : decode cX4_isBetween 2 = .ok (.if_icmp .lt 12, 3) := by decide +kernel
theorem dX4_isBetween_5 : decode cX4_isBetween 5 = .ok (.iload_n 0, 1) := by decide +kernel
theorem dX4_isBetween_6 : decode cX4_isBetween 6 = .ok (.iload_n 2, 1) := by decide +kernel
theorem dX4_isBetween_7 : decode cX4_isBetween 7 = .ok (.if_icmp .gt 7, 3) := by decide +kernel
theorem dX4_isBetween_10 : decode cX4_isBetween 10 = .ok (.iconst 1, 1) := by decide +kernel
theorem dX4_isBetween_11 : decode cX4_isBetween 11 = .ok (.goto 4, 3) := by decide +kernel
theorem dX4_isBetween_14 : decode cX4_isBetween 14 = .ok (.iconst 0, 1) := by decide +kernel
theorem dX4_isBetween_15 : decode cX4_isBetween 15 = .ok (.ireturn, 1) := by decide +kernel
set_option maxRecDepth 20000 in
theorem ggX4_isThickness_X4_isBetween : GoodIn wsX4_isThickness wsX4_isBetween := goodIn_r _ [4] (by decide +kernel) (by decide +kernel)
set_option maxRecDepth 20000 in
theorem gX4_isThickness_X4_isBetween : GoodIn wsX4_isThickness (va_wsS RX4 40 yX4_isBetween wsX4_isBetween) := goodIn_app (goodIn_of _ (by decide +kernel)) ggX4_isThickness_X4_isBetween
theorem dX4_isThickness_0 : decode cX4_isThickness 0 = .ok (.iload_n 0, 1) := by decide +kernel
theorem dX4_isThickness_1 : decode cX4_isThickness 1 = .ok (.iconst 0, 1) := by decide +kernel
theorem dX4_isThickness_2 : decode cX4_isThickness 2 = .ok (.sipush 5000, 3) := by decide +kernel
theorem dX4_isThickness_5 : decode cX4_isThickness 5 = .ok (.invokestatic 40, 3) := by decide +kernel
theorem dX4_isThickness_8 : decode cX4_isThickness 8 = .ok (.ireturn, 1) := by decide +kernel
set_option maxRecDepth 20000 in
theorem ggX4_isColour_X4_isBetween : GoodIn wsX4_isColour wsX4_isBetween := goodIn_r _ [4] (by decide +kernel) (by decide +kernel)
set_option maxRecDepth 20000 in
theorem gX4_isColour_X4_isBetween : GoodIn wsX4_isColour (va_wsS RX4 40 yX4_isBetween wsX4_isBetween) := goodIn_app (goodIn_of _ (by decide +kernel)) ggX4_isColour_X4_isBetween
theorem dX4_isColour_0 : decode cX4_isColour 0 = .ok (.iload_n 0, 1) := by decide +kernel
theorem dX4_isColour_1 : decode cX4_isColour 1 = .ok (.iconst 0, 1) := by decide +kernel
theorem dX4_isColour_2 : decode cX4_isColour 2 = .ok (.bipush 7, 2) := by decide +kernel
theorem dX4_isColour_4 : decode cX4_isColour 4 = .ok (.invokestatic 40, 3) := by decide +kernel
theorem dX4_isColour_7 : decode cX4_isColour 7 = .ok (.ireturn, 1) := by decide +kernel
set_option maxRecDepth 20000 in
theorem ggX4_isQuestion_X4_isBetween : GoodIn wsX4_isQuestion wsX4_isBetween := goodIn_r _ [4] (by decide +kernel) (by decide +kernel)
set_option maxRecDepth 20000 in
theorem gX4_isQuestion_X4_isBetween : GoodIn wsX4_isQuestion (va_wsS RX4 40 yX4_isBetween wsX4_isBetween) := goodIn_app (goodIn_of _ (by decide +kernel)) ggX4_isQuestion_X4_isBetween
set_option maxRecDepth 20000 in
theorem ggX4_isQuestion_X4_isColour : GoodIn wsX4_isQuestion wsX4_isColour := goodIn_r _ [7, 1, 2, 3, 4] (by decide +kernel) (by decide +kernel)
set_option maxRecDepth 20000 in
theorem gX4_isQuestion_X4_isColour : GoodIn wsX4_isQuestion (va_wsS RX4 153 yX4_isColour wsX4_isColour) := goodIn_app (goodIn_of _ (by decide +kernel)) ggX4_isQuestion_X4_isColour
theorem dX4_isQuestion_0 : decode cX4_isQuestion 0 = .ok (.iload_n 0, 1) := by decide +kernel
theorem dX4_isQuestion_1 : decode cX4_isQuestion 1 = .ok (.tableswitch 62 0 3 #[31, 41, 49, 54], 31) := by decide +kernel
theorem dX4_isQuestion_32 : decode cX4_isQuestion 32 = .ok (.iload_n 1, 1) := by decide +kernel
theorem dX4_isQuestion_33 : decode cX4_isQuestion 33 = .ok (.ifCond .ne 7, 3) := by decide +kernel
theorem dX4_isQuestion_36 : decode cX4_isQuestion 36 = .ok (.iconst 1, 1) := by decide +kernel
theorem dX4_isQuestion_37 : decode cX4_isQuestion 37 = .ok (.goto 4, 3) := by decide +kernel
theorem dX4_isQuestion_40 : decode cX4_isQuestion 40 = .ok (.iconst 0, 1) := by decide +kernel
theorem dX4_isQuestion_41 : decode cX4_isQuestion 41 = .ok (.ireturn, 1) := by decide +kernel
theorem dX4_isQuestion_42 : decode cX4_isQuestion 42 = .ok (.iload_n 1, 1) := by decide +kernel
theorem dX4_isQuestion_43 : decode cX4_isQuestion 43 = .ok (.iconst 1, 1) := by decide +kernel
theorem dX4_isQuestion_44 : decode cX4_isQuestion 44 = .ok (.bipush 24, 2) := by decide +kernel
theorem dX4_isQuestion_46 : decode cX4_isQuestion 46 = .ok (.invokestatic 40, 3) := by decide +kernel
theorem dX4_isQuestion_49 : decode cX4_isQuestion 49 = .ok (.ireturn, 1) := by decide +kernel
theorem dX4_isQuestion_50 : decode cX4_isQuestion 50 = .ok (.iload_n 1, 1) := by decide +kernel
theorem dX4_isQuestion_51 : decode cX4_isQuestion 51 = .ok (.invokestatic 153, 3) := by decide +kernel
theorem dX4_isQuestion_54 : decode cX4_isQuestion 54 = .ok (.ireturn, 1) := by decide +kernel
theorem dX4_isQuestion_55 : decode cX4_isQuestion 55 = .ok (.iload_n 1, 1) := by decide +kernel
theorem dX4_isQuestion_56 : decode cX4_isQuestion 56 = .ok (.iconst 1, 1) := by decide +kernel
theorem dX4_isQuestion_57 : decode cX4_isQuestion 57 = .ok (.bipush 100, 2) := by decide +kernel
theorem dX4_isQuestion_59 : decode cX4_isQuestion 59 = .ok (.invokestatic 40, 3) := by decide +kernel
theorem dX4_isQuestion_62 : decode cX4_isQuestion 62 = .ok (.ireturn, 1) := by decide +kernel
theorem dX4_isQuestion_63 : decode cX4_isQuestion 63 = .ok (.iconst 0, 1) := by decide +kernel
theorem dX4_isQuestion_64 : decode cX4_isQuestion 64 = .ok (.ireturn, 1) := by decide +kernel
set_option maxRecDepth 20000 in
theorem ggX4_isSo_X0_blackRows : GoodIn wsX4_isSo wsX0_blackRows := goodIn_r _ [9, 10, 11, 12, 13, 8, 14, 15, 16, 44, 45, 46, 47, 48, 49, 50, 51, 52, 53] (by decide +kernel) (by decide +kernel)
set_option maxRecDepth 20000 in
theorem gX4_isSo_X0_blackRows : GoodIn wsX4_isSo (wsV RX4 119 RX0 yX0_blackRows wsX0_blackRows) := goodIn_app (goodIn_of _ (by decide +kernel)) ggX4_isSo_X0_blackRows
set_option maxRecDepth 20000 in
theorem ggX4_isSo_X0_colourAt : GoodIn wsX4_isSo wsX0_colourAt := goodIn_r _ [20, 15, 16, 21, 22, 23, 24, 25, 26, 27, 28, 29, 30, 31, 32, 33, 34, 35, 36, 37, 38, 39, 44, 45, 46, 47, 48, 49, 50, 51, 52, 53] (by decide +kernel) (by decide +kernel)
set_option maxRecDepth 20000 in
theorem gX4_isSo_X0_colourAt : GoodIn wsX4_isSo (wsV RX4 110 RX0 yX0_colourAt wsX0_colourAt) := goodIn_app (goodIn_of _ (by decide +kernel)) ggX4_isSo_X0_colourAt
theorem dX4_isSo_0 : decode cX4_isSo 0 = .ok (.iload_n 1, 1) := by decide +kernel
theorem dX4_isSo_1 : decode cX4_isSo 1 = .ok (.tableswitch 117 0 3 #[31, 47, 64, 92], 31) := by decide +kernel
theorem dX4_isSo_32 : decode cX4_isSo 32 = .ok (.aload_n 0, 1) := by decide +kernel
theorem dX4_isSo_33 : decode cX4_isSo 33 = .ok (.getfield 16, 3) := by decide +kernel
theorem dX4_isSo_36 : decode cX4_isSo 36 = .ok (.getfield 74, 3) := by decide +kernel
theorem dX4_isSo_39 : decode cX4_isSo 39 = .ok (.ifCond .ne 7, 3) := by decide +kernel
theorem dX4_isSo_42 : decode cX4_isSo 42 = .ok (.iconst 1, 1) := by decide +kernel
theorem dX4_isSo_43 : decode cX4_isSo 43 = .ok (.goto 4, 3) := by decide +kernel
theorem dX4_isSo_46 : decode cX4_isSo 46 = .ok (.iconst 0, 1) := by decide +kernel
theorem dX4_isSo_47 : decode cX4_isSo 47 = .ok (.ireturn, 1) := by decide +kernel
theorem dX4_isSo_48 : decode cX4_isSo 48 = .ok (.aload_n 0, 1) := by decide +kernel
theorem dX4_isSo_49 : decode cX4_isSo 49 = .ok (.getfield 16, 3) := by decide +kernel
theorem dX4_isSo_52 : decode cX4_isSo 52 = .ok (.invokevirtual 119, 3) := by decide +kernel
theorem dX4_isSo_55 : decode cX4_isSo 55 = .ok (.iload_n 2, 1) := by decide +kernel
theorem dX4_isSo_56 : decode cX4_isSo 56 = .ok (.if_icmp .lt 7, 3) := by decide +kernel
theorem dX4_isSo_59 : decode cX4_isSo 59 = .ok (.iconst 1, 1) := by decide +kernel
theorem dX4_isSo_60 : decode cX4_isSo 60 = .ok (.goto 4, 3) := by decide +kernel
theorem dX4_isSo_63 : decode cX4_isSo 63 = .ok (.iconst 0, 1) := by decide +kernel
theorem dX4_isSo_64 : decode cX4_isSo 64 = .ok (.ireturn, 1) := by decide +kernel
theorem dX4_isSo_65 : decode cX4_isSo 65 = .ok (.aload_n 0, 1) := by decide +kernel
theorem dX4_isSo_66 : decode cX4_isSo 66 = .ok (.getfield 16, 3) := by decide +kernel
theorem dX4_isSo_69 : decode cX4_isSo 69 = .ok (.getfield 74, 3) := by decide +kernel
theorem dX4_isSo_72 : decode cX4_isSo 72 = .ok (.ifCond .le 19, 3) := by decide +kernel
theorem dX4_isSo_75 : decode cX4_isSo 75 = .ok (.aload_n 0, 1) := by decide +kernel
theorem dX4_isSo_76 : decode cX4_isSo 76 = .ok (.getfield 16, 3) := by decide +kernel
theorem dX4_isSo_79 : decode cX4_isSo 79 = .ok (.iconst 0, 1) := by decide +kernel
theorem dX4_isSo_80 : decode cX4_isSo 80 = .ok (.invokevirtual 110, 3) := by decide +kernel
theorem dX4_isSo_83 : decode cX4_isSo 83 = .ok (.iload_n 2, 1) := by decide +kernel
theorem dX4_isSo_84 : decode cX4_isSo 84 = .ok (.if_icmp .ne 7, 3) := by decide +kernel
theorem dX4_isSo_87 : decode cX4_isSo 87 = .ok (.iconst 1, 1) := by decide +kernel
theorem dX4_isSo_88 : decode cX4_isSo 88 = .ok (.goto 4, 3) := by decide +kernel
theorem dX4_isSo_91 : decode cX4_isSo 91 = .ok (.iconst 0, 1) := by decide +kernel
theorem dX4_isSo_92 : decode cX4_isSo 92 = .ok (.ireturn, 1) := by decide +kernel
theorem dX4_isSo_93 : decode cX4_isSo 93 = .ok (.aload_n 0, 1) := by decide +kernel
theorem dX4_isSo_94 : decode cX4_isSo 94 = .ok (.getfield 16, 3) := by decide +kernel
theorem dX4_isSo_97 : decode cX4_isSo 97 = .ok (.getfield 144, 3) := by decide +kernel
theorem dX4_isSo_100 : decode cX4_isSo 100 = .ok (.aload_n 0, 1) := by decide +kernel
theorem dX4_isSo_101 : decode cX4_isSo 101 = .ok (.getfield 10, 3) := by decide +kernel
theorem dX4_isSo_104 : decode cX4_isSo 104 = .ok (.getfield 144, 3) := by decide +kernel
theorem dX4_isSo_107 : decode cX4_isSo 107 = .ok (.isub, 1) := by decide +kernel
theorem dX4_isSo_108 : decode cX4_isSo 108 = .ok (.iload_n 2, 1) := by decide +kernel
theorem dX4_isSo_109 : decode cX4_isSo 109 = .ok (.if_icmp .lt 7, 3) := by decide +kernel
theorem dX4_isSo_112 : decode cX4_isSo 112 = .ok (.iconst 1, 1) := by decide +kernel
theorem dX4_isSo_113 : decode cX4_isSo 113 = .ok (.goto 4, 3) := by decide +kernel
theorem dX4_isSo_116 : decode cX4_isSo 116 = .ok (.iconst 0, 1) := by decide +kernel
theorem dX4_isSo_117 : decode cX4_isSo 117 = .ok (.ireturn, 1) := by decide +kernel
theorem dX4_isSo_118 : decode cX4_isSo 118 = .ok (.iconst 0, 1) := by decide +kernel
theorem dX4_isSo_119 : decode cX4_isSo 119 = .ok (.ireturn, 1) := by decide +kernel
theorem dX5_init_0 : decode cX5_init 0 = .ok (.aload_n 0, 1) := by decide +kernel
theorem dX5_init_1 : decode cX5_init 1 = .ok (.invokespecial 1, 3) := by decide +kernel
theorem dX5_init_4 : decode cX5_init 4 = .ok (.aload_n 0, 1) := by decide +kernel
theorem dX5_init_5 : decode cX5_init 5 = .ok (.bipush 44, 2) := by decide +kernel
theorem dX5_init_7 : decode cX5_init 7 = .ok (.newarray .int, 2) := by decide +kernel
theorem dX5_init_9 : decode cX5_init 9 = .ok (.putfield 7, 3) := by decide +kernel
theorem dX5_init_12 : decode cX5_init 12 = .ok (.aload_n 0, 1) := by decide +kernel
theorem dX5_init_13 : decode cX5_init 13 = .ok (.sipush 220, 3) := by decide +kernel
theorem dX5_init_16 : decode cX5_init 16 = .ok (.newarray .int, 2) := by decide +kernel
theorem dX5_init_18 : decode cX5_init 18 = .ok (.putfield 13, 3) := by decide +kernel
theorem dX5_init_21 : decode cX5_init 21 = .ok (.aload_n 0, 1) := by decide +kernel
theorem dX5_init_22 : decode cX5_init 22 = .ok (.bipush 44, 2) := by decide +kernel
theorem dX5_init_24 : decode cX5_init 24 = .ok (.newarray .int, 2) := by decide +kernel
theorem dX5_init_26 : decode cX5_init 26 = .ok (.putfield 16, 3) := by decide +kernel
theorem dX5_init_29 : decode cX5_init 29 = .ok (.aload_n 0, 1) := by decide +kernel
theorem dX5_init_30 : decode cX5_init 30 = .ok (.bipush 100, 2) := by decide +kernel
theorem dX5_init_32 : decode cX5_init 32 = .ok (.newarray .int, 2) := by decide +kernel
theorem dX5_init_34 : decode cX5_init 34 = .ok (.putfield 19, 3) := by decide +kernel
theorem dX5_init_37 : decode cX5_init 37 = .ok (.aload_n 0, 1) := by decide +kernel
theorem dX5_init_38 : decode cX5_init 38 = .ok (.getfield 7, 3) := by decide +kernel
theorem dX5_init_41 : decode cX5_init 41 = .ok (.bipush 13, 2) := by decide +kernel
theorem dX5_init_43 : decode cX5_init 43 = .ok (.bipush 20, 2) := by decide +kernel
theorem dX5_init_45 : decode cX5_init 45 = .ok (.iastore, 1) := by decide +kernel
theorem dX5_init_46 : decode cX5_init 46 = .ok (.aload_n 0, 1) := by decide +kernel
theorem dX5_init_47 : decode cX5_init 47 = .ok (.getfield 7, 3) := by decide +kernel
theorem dX5_init_50 : decode cX5_init 50 = .ok (.bipush 14, 2) := by decide +kernel
theorem dX5_init_52 : decode cX5_init 52 = .ok (.iconst 1, 1) := by decide +kernel
theorem dX5_init_53 : decode cX5_init 53 = .ok (.iastore, 1) := by decide +kernel
theorem dX5_init_54 : decode cX5_init 54 = .ok (.aload_n 0, 1) := by decide +kernel
theorem dX5_init_55 : decode cX5_init 55 = .ok (.getfield 7, 3) := by decide +kernel
theorem dX5_init_58 : decode cX5_init 58 = .ok (.bipush 15, 2) := by decide +kernel
theorem dX5_init_60 : decode cX5_init 60 = .ok (.bipush 10, 2) := by decide +kernel
theorem dX5_init_62 : decode cX5_init 62 = .ok (.iastore, 1) := by decide +kernel
theorem dX5_init_63 : decode cX5_init 63 = .ok (.aload_n 0, 1) := by decide +kernel
theorem dX5_init_64 : decode cX5_init 64 = .ok (.getfield 7, 3) := by decide +kernel
theorem dX5_init_67 : decode cX5_init 67 = .ok (.bipush 16, 2) := by decide +kernel
theorem dX5_init_69 : decode cX5_init 69 = .ok (.bipush 30, 2) := by decide +kernel
theorem dX5_init_71 : decode cX5_init 71 = .ok (.iastore, 1) := by decide +kernel
theorem dX5_init_72 : decode cX5_init 72 = .ok (.aload_n 0, 1) := by decide +kernel
theorem dX5_init_73 : decode cX5_init 73 = .ok (.getfield 7, 3) := by decide +kernel
theorem dX5_init_76 : decode cX5_init 76 = .ok (.bipush 17, 2) := by decide +kernel
theorem dX5_init_78 : decode cX5_init 78 = .ok (.iconst 5, 1) := by decide +kernel
theorem dX5_init_79 : decode cX5_init 79 = .ok (.iastore, 1) := by decide +kernel
theorem dX5_init_80 : decode cX5_init 80 = .ok (.aload_n 0, 1) := by decide +kernel
theorem dX5_init_81 : decode cX5_init 81 = .ok (.getfield 7, 3) := by decide +kernel
theorem dX5_init_84 : decode cX5_init 84 = .ok (.bipush 18, 2) := by decide +kernel
theorem dX5_init_86 : decode cX5_init 86 = .ok (.bipush 12, 2) := by decide +kernel
theorem dX5_init_88 : decode cX5_init 88 = .ok (.iastore, 1) := by decide +kernel
theorem dX5_init_89 : decode cX5_init 89 = .ok (.aload_n 0, 1) := by decide +kernel
theorem dX5_init_90 : decode cX5_init 90 = .ok (.getfield 7, 3) := by decide +kernel
theorem dX5_init_93 : decode cX5_init 93 = .ok (.bipush 19, 2) := by decide +kernel
theorem dX5_init_95 : decode cX5_init 95 = .ok (.sipush 3000, 3) := by decide +kernel
theorem dX5_init_98 : decode cX5_init 98 = .ok (.iastore, 1) := by decide +kernel
theorem dX5_init_99 : decode cX5_init 99 = .ok (.return_, 1) := by decide +kernel
theorem dX5_in_0 : decode cX5_in 0 = .ok (.iload_n 0, 1) := by decide +kernel
theorem dX5_in_1 : decode cX5_in 1 = .ok (.iload_n 1, 1) := by decide +kernel
theorem dX5_in_2 : decode cX5_in 2 = .ok (.if_icmp .lt 12, 3) := by decide +kernel
theorem dX5_in_5 : decode cX5_in 5 = .ok (.iload_n 0, 1) := by decide +kernel
theorem dX5_in_6 : decode cX5_in 6 = .ok (.iload_n 2, 1) := by decide +kernel
theorem dX5_in_7 : decode cX5_in 7 = .ok (.if_icmp .gt 7, 3) := by decide +kernel
theorem dX5_in_10 : decode cX5_in 10 = .ok (.iconst 1, 1) := by decide +kernel
theorem dX5_in_11 : decode cX5_in 11 = .ok (.goto 4, 3) := by decide +kernel
theorem dX5_in_14 : decode cX5_in 14 = .ok (.iconst 0, 1) := by decide +kernel
theorem dX5_in_15 : decode cX5_in 15 = .ok (.ireturn, 1) := by decide +kernel
theorem dX5_lesser_0 : decode cX5_lesser 0 = .ok (.iload_n 0, 1) := by decide +kernel
theorem dX5_lesser_1 : decode cX5_lesser 1 = .ok (.iload_n 1, 1) := by decide +kernel
theorem dX5_lesser_2 : decode cX5_lesser 2 = .ok (.if_icmp .ge 7, 3) := by decide +kernel
theorem dX5_lesser_5 : decode cX5_lesser 5 = .ok (.iload_n 0, 1) := by decide +kernel
theorem dX5_lesser_6 : decode cX5_lesser 6 = .ok (.goto 4, 3) := by decide +kernel
theorem dX5_lesser_9 : decode cX5_lesser 9 = .ok (.iload_n 1, 1) := by decide +kernel
theorem dX5_lesser_10 : decode cX5_lesser 10 = .ok (.ireturn, 1) := by decide +kernel
theorem dX5_records_0 : decode cX5_records 0 = .ok (.aload_n 0, 1) := by decide +kernel
theorem dX5_records_1 : decode cX5_records 1 = .ok (.getfield 22, 3) := by decide +kernel
theorem dX5_records_4 : decode cX5_records 4 = .ok (.iconst 5, 1) := by decide +kernel
theorem dX5_records_5 : decode cX5_records 5 = .ok (.if_icmp .ne 43, 3) := by decide +kernel
theorem dX5_records_8 : decode cX5_records 8 = .ok (.iconst 0, 1) := by decide +kernel
theorem dX5_records_9 : decode cX5_records 9 = .ok (.istore_n 1, 1) := by decide +kernel
theorem dX5_records_10 : decode cX5_records 10 = .ok (.iload_n 1, 1) := by decide +kernel
theorem dX5_records_11 : decode cX5_records 11 = .ok (.sipush 176, 3) := by decide +kernel
theorem dX5_records_14 : decode cX5_records 14 = .ok (.if_icmp .ge 24, 3) := by decide +kernel
theorem dX5_records_17 : decode cX5_records 17 = .ok (.aload_n 0, 1) := by decide +kernel
theorem dX5_records_18 : decode cX5_records 18 = .ok (.getfield 13, 3) := by decide +kernel
theorem dX5_records_21 : decode cX5_records 21 = .ok (.iload_n 1, 1) := by decide +kernel
theorem dX5_records_22 : decode cX5_records 22 = .ok (.aload_n 0, 1) := by decide +kernel
theorem dX5_records_23 : decode cX5_records 23 = .ok (.getfield 13, 3) := by decide +kernel
theorem dX5_records_26 : decode cX5_records 26 = .ok (.iload_n 1, 1) := by decide +kernel
theorem dX5_records_27 : decode cX5_records 27 = .ok (.bipush 44, 2) := by decide +kernel
theorem dX5_records_29 : decode cX5_records 29 = .ok (.iadd, 1) := by decide +kernel
theorem dX5_records_30 : decode cX5_records 30 = .ok (.iaload, 1) := by decide +kernel
theorem dX5_records_31 : decode cX5_records 31 = .ok (.iastore, 1) := by decide +kernel
theorem dX5_records_32 : decode cX5_records 32 = .ok (.iinc 1 1, 3) := by decide +kernel
theorem dX5_records_35 : decode cX5_records 35 = .ok (.goto (-25), 3) := by decide +kernel
theorem dX5_records_38 : decode cX5_records 38 = .ok (.aload_n 0, 1) := by decide +kernel
theorem dX5_records_39 : decode cX5_records 39 = .ok (.dup, 1) := by decide +kernel
theorem dX5_records_40 : decode cX5_records 40 = .ok (.getfield 22, 3) := by decide +kernel
theorem dX5_records_43 : decode cX5_records 43 = .ok (.iconst 1, 1) := by decide +kernel
theorem dX5_records_44 : decode cX5_records 44 = .ok (.isub, 1) := by decide +kernel
theorem dX5_records_45 : decode cX5_records 45 = .ok (.putfield 22, 3) := by decide +kernel
theorem dX5_records_48 : decode cX5_records 48 = .ok (.iconst 0, 1) := by decide +kernel
theorem dX5_records_49 : decode cX5_records 49 = .ok (.istore_n 1, 1) := by decide +kernel
theorem dX5_records_50 : decode cX5_records 50 = .ok (.iload_n 1, 1) := by decide +kernel
theorem dX5_records_51 : decode cX5_records 51 = .ok (.bipush 44, 2) := by decide +kernel
theorem dX5_records_53 : decode cX5_records 53 = .ok (.if_icmp .ge 29, 3) := by decide +kernel
theorem dX5_records_56 : decode cX5_records 56 = .ok (.aload_n 0, 1) := by decide +kernel
theorem dX5_records_57 : decode cX5_records 57 = .ok (.getfield 13, 3) := by decide +kernel
theorem dX5_records_60 : decode cX5_records 60 = .ok (.bipush 44, 2) := by decide +kernel
theorem dX5_records_62 : decode cX5_records 62 = .ok (.aload_n 0, 1) := by decide +kernel
theorem dX5_records_63 : decode cX5_records 63 = .ok (.getfield 22, 3) := by decide +kernel
theorem dX5_records_66 : decode cX5_records 66 = .ok (.imul, 1) := by decide +kernel
theorem dX5_records_67 : decode cX5_records 67 = .ok (.iload_n 1, 1) := by decide +kernel
theorem dX5_records_68 : decode cX5_records 68 = .ok (.iadd, 1) := by decide +kernel
theorem dX5_records_69 : decode cX5_records 69 = .ok (.aload_n 0, 1) := by decide +kernel
theorem dX5_records_70 : decode cX5_records 70 = .ok (.getfield 7, 3) := by decide +kernel
theorem dX5_records_73 : decode cX5_records 73 = .ok (.iload_n 1, 1) := by decide +kernel
theorem dX5_records_74 : decode cX5_records 74 = .ok (.iaload, 1) := by decide +kernel
theorem dX5_records_75 : decode cX5_records 75 = .ok (.iastore, 1) := by decide +kernel
theorem dX5_records_76 : decode cX5_records 76 = .ok (.iinc 1 1, 3) := by decide +kernel
theorem dX5_records_79 : decode cX5_records 79 = .ok (.goto (-29), 3) := by decide +kernel
theorem dX5_records_82 : decode cX5_records 82 = .ok (.aload_n 0, 1) := by decide +kernel
theorem dX5_records_83 : decode cX5_records 83 = .ok (.dup, 1) := by decide +kernel
theorem dX5_records_84 : decode cX5_records 84 = .ok (.getfield 22, 3) := by decide +kernel
theorem dX5_records_87 : decode cX5_records 87 = .ok (.iconst 1, 1) := by decide +kernel
theorem dX5_records_88 : decode cX5_records 88 = .ok (.iadd, 1) := by decide +kernel
theorem dX5_records_89 : decode cX5_records 89 = .ok (.putfield 22, 3) := by decide +kernel
theorem dX5_records_92 : decode cX5_records 92 = .ok (.return_, 1) := by decide +kernel
theorem dX5_undo_0 : decode cX5_undo 0 = .ok (.aload_n 0, 1) := by decide +kernel
theorem dX5_undo_1 : decode cX5_undo 1 = .ok (.getfield 22, 3) := by decide +kernel
theorem dX5_undo_4 : decode cX5_undo 4 = .ok (.ifCond .ne 6, 3) := by decide +kernel
theorem dX5_undo_7 : decode cX5_undo 7 = .ok (.bipush (-2), 2) := by decide +kernel
theorem dX5_undo_9 : decode cX5_undo 9 = .ok (.ireturn, 1) := by decide +kernel
theorem dX5_undo_10 : decode cX5_undo 10 = .ok (.aload_n 0, 1) := by decide +kernel
theorem dX5_undo_11 : decode cX5_undo 11 = .ok (.dup, 1) := by decide +kernel
theorem dX5_undo_12 : decode cX5_undo 12 = .ok (.getfield 22, 3) := by decide +kernel
theorem dX5_undo_15 : decode cX5_undo 15 = .ok (.iconst 1, 1) := by decide +kernel
theorem dX5_undo_16 : decode cX5_undo 16 = .ok (.isub, 1) := by decide +kernel
theorem dX5_undo_17 : decode cX5_undo 17 = .ok (.putfield 22, 3) := by decide +kernel
theorem dX5_undo_20 : decode cX5_undo 20 = .ok (.iconst 0, 1) := by decide +kernel
theorem dX5_undo_21 : decode cX5_undo 21 = .ok (.istore_n 1, 1) := by decide +kernel
theorem dX5_undo_22 : decode cX5_undo 22 = .ok (.iload_n 1, 1) := by decide +kernel
theorem dX5_undo_23 : decode cX5_undo 23 = .ok (.bipush 44, 2) := by decide +kernel
theorem dX5_undo_25 : decode cX5_undo 25 = .ok (.if_icmp .ge 29, 3) := by decide +kernel
theorem dX5_undo_28 : decode cX5_undo 28 = .ok (.aload_n 0, 1) := by decide +kernel
theorem dX5_undo_29 : decode cX5_undo 29 = .ok (.getfield 7, 3) := by decide +kernel
theorem dX5_undo_32 : decode cX5_undo 32 = .ok (.iload_n 1, 1) := by decide +kernel
theorem dX5_undo_33 : decode cX5_undo 33 = .ok (.aload_n 0, 1) := by decide +kernel
theorem dX5_undo_34 : decode cX5_undo 34 = .ok (.getfield 13, 3) := by decide +kernel
theorem dX5_undo_37 : decode cX5_undo 37 = .ok (.bipush 44, 2) := by decide +kernel
theorem dX5_undo_39 : decode cX5_undo 39 = .ok (.aload_n 0, 1) := by decide +kernel
theorem dX5_undo_40 : decode cX5_undo 40 = .ok (.getfield 22, 3) := by decide +kernel
theorem dX5_undo_43 : decode cX5_undo 43 = .ok (.imul, 1) := by decide +kernel
theorem dX5_undo_44 : decode cX5_undo 44 = .ok (.iload_n 1, 1) := by decide +kernel
theorem dX5_undo_45 : decode cX5_undo 45 = .ok (.iadd, 1) := by decide +kernel
theorem dX5_undo_46 : decode cX5_undo 46 = .ok (.iaload, 1) := by decide +kernel
theorem dX5_undo_47 : decode cX5_undo 47 = .ok (.iastore, 1) := by decide +kernel
theorem dX5_undo_48 : decode cX5_undo 48 = .ok (.iinc 1 1, 3) := by decide +kernel
theorem dX5_undo_51 : decode cX5_undo 51 = .ok (.goto (-29), 3) := by decide +kernel
theorem dX5_undo_54 : decode cX5_undo 54 = .ok (.aload_n 0, 1) := by decide +kernel
theorem dX5_undo_55 : decode cX5_undo 55 = .ok (.getfield 22, 3) := by decide +kernel
theorem dX5_undo_58 : decode cX5_undo 58 = .ok (.ireturn, 1) := by decide +kernel
theorem dX5_laysAside_0 : decode cX5_laysAside 0 = .ok (.iconst 0, 1) := by decide +kernel
theorem dX5_laysAside_1 : decode cX5_laysAside 1 = .ok (.istore_n 1, 1) := by decide +kernel
theorem dX5_laysAside_2 : decode cX5_laysAside 2 = .ok (.iload_n 1, 1) := by decide +kernel
theorem dX5_laysAside_3 : decode cX5_laysAside 3 = .ok (.bipush 44, 2) := by decide +kernel
theorem dX5_laysAside_5 : decode cX5_laysAside 5 = .ok (.if_icmp .ge 21, 3) := by decide +kernel
theorem dX5_laysAside_8 : decode cX5_laysAside 8 = .ok (.aload_n 0, 1) := by decide +kernel
theorem dX5_laysAside_9 : decode cX5_laysAside 9 = .ok (.getfield 16, 3) := by decide +kernel
theorem dX5_laysAside_12 : decode cX5_laysAside 12 = .ok (.iload_n 1, 1) := by decide +kernel
theorem dX5_laysAside_13 : decode cX5_laysAside 13 = .ok (.aload_n 0, 1) := by decide +kernel
theorem dX5_laysAside_14 : decode cX5_laysAside 14 = .ok (.getfield 7, 3) := by decide +kernel
theorem dX5_laysAside_17 : decode cX5_laysAside 17 = .ok (.iload_n 1, 1) := by decide +kernel
theorem dX5_laysAside_18 : decode cX5_laysAside 18 = .ok (.iaload, 1) := by decide +kernel
theorem dX5_laysAside_19 : decode cX5_laysAside 19 = .ok (.iastore, 1) := by decide +kernel
theorem dX5_laysAside_20 : decode cX5_laysAside 20 = .ok (.iinc 1 1, 3) := by decide +kernel
theorem dX5_laysAside_23 : decode cX5_laysAside 23 = .ok (.goto (-21), 3) := by decide +kernel
theorem dX5_laysAside_26 : decode cX5_laysAside 26 = .ok (.return_, 1) := by decide +kernel
theorem dX5_bringsBack_0 : decode cX5_bringsBack 0 = .ok (.iconst 0, 1) := by decide +kernel
theorem dX5_bringsBack_1 : decode cX5_bringsBack 1 = .ok (.istore_n 1, 1) := by decide +kernel
theorem dX5_bringsBack_2 : decode cX5_bringsBack 2 = .ok (.iload_n 1, 1) := by decide +kernel
theorem dX5_bringsBack_3 : decode cX5_bringsBack 3 = .ok (.bipush 44, 2) := by decide +kernel
theorem dX5_bringsBack_5 : decode cX5_bringsBack 5 = .ok (.if_icmp .ge 21, 3) := by decide +kernel
theorem dX5_bringsBack_8 : decode cX5_bringsBack 8 = .ok (.aload_n 0, 1) := by decide +kernel
theorem dX5_bringsBack_9 : decode cX5_bringsBack 9 = .ok (.getfield 7, 3) := by decide +kernel
theorem dX5_bringsBack_12 : decode cX5_bringsBack 12 = .ok (.iload_n 1, 1) := by decide +kernel
theorem dX5_bringsBack_13 : decode cX5_bringsBack 13 = .ok (.aload_n 0, 1) := by decide +kernel
theorem dX5_bringsBack_14 : decode cX5_bringsBack 14 = .ok (.getfield 16, 3) := by decide +kernel
theorem dX5_bringsBack_17 : decode cX5_bringsBack 17 = .ok (.iload_n 1, 1) := by decide +kernel
theorem dX5_bringsBack_18 : decode cX5_bringsBack 18 = .ok (.iaload, 1) := by decide +kernel
theorem dX5_bringsBack_19 : decode cX5_bringsBack 19 = .ok (.iastore, 1) := by decide +kernel
theorem dX5_bringsBack_20 : decode cX5_bringsBack 20 = .ok (.iinc 1 1, 3) := by decide +kernel
theorem dX5_bringsBack_23 : decode cX5_bringsBack 23 = .ok (.goto (-21), 3) := by decide +kernel
theorem dX5_bringsBack_26 : decode cX5_bringsBack 26 = .ok (.return_, 1) := by decide +kernel
theorem dX5_of_0 : decode cX5_of 0 = .ok (.aload_n 0, 1) := by decide +kernel
theorem dX5_of_1 : decode cX5_of 1 = .ok (.getfield 7, 3) := by decide +kernel
theorem dX5_of_4 : decode cX5_of 4 = .ok (.bipush 13, 2) := by decide +kernel
theorem dX5_of_6 : decode cX5_of 6 = .ok (.iload_n 1, 1) := by decide +kernel
theorem dX5_of_7 : decode cX5_of 7 = .ok (.iadd, 1) := by decide +kernel
theorem dX5_of_8 : decode cX5_of 8 = .ok (.iaload, 1) := by decide +kernel
theorem dX5_of_9 : decode cX5_of 9 = .ok (.ireturn, 1) := by decide +kernel
set_option maxRecDepth 20000 in
theorem ggX5_isRow_X5_in : GoodIn wsX5_isRow wsX5_in := goodIn_r _ [5] (by decide +kernel) (by decide +kernel)
set_option maxRecDepth 20000 in
theorem gX5_isRow_X5_in : GoodIn wsX5_isRow (va_wsS RX5 26 yX5_in wsX5_in) := goodIn_app (goodIn_of _ (by decide +kernel)) ggX5_isRow_X5_in
theorem dX5_isRow_0 : decode cX5_isRow 0 = .ok (.iload_n 1, 1) := by decide +kernel
theorem dX5_isRow_1 : decode cX5_isRow 1 = .ok (.iconst 0, 1) := by decide +kernel
theorem dX5_isRow_2 : decode cX5_isRow 2 = .ok (.aload_n 0, 1) := by decide +kernel
theorem dX5_isRow_3 : decode cX5_isRow 3 = .ok (.getfield 7, 3) := by decide +kernel
theorem dX5_isRow_6 : decode cX5_isRow 6 = .ok (.iconst 0, 1) := by decide +kernel
theorem dX5_isRow_7 : decode cX5_isRow 7 = .ok (.iaload, 1) := by decide +kernel
theorem dX5_isRow_8 : decode cX5_isRow 8 = .ok (.iconst 1, 1) := by decide +kernel
theorem dX5_isRow_9 : decode cX5_isRow 9 = .ok (.isub, 1) := by decide +kernel
theorem dX5_isRow_10 : decode cX5_isRow 10 = .ok (.invokestatic 26, 3) := by decide +kernel
theorem dX5_isRow_13 : decode cX5_isRow 13 = .ok (.ireturn, 1) := by decide +kernel
theorem dX5_path_0 : decode cX5_path 0 = .ok (.iload_n 0, 1) := by decide +kernel
theorem dX5_path_1 : decode cX5_path 1 = .ok (.sipush 266, 3) := by decide +kernel
theorem dX5_path_4 : decode cX5_path 4 = .ok (.imul, 1) := by decide +kernel
theorem dX5_path_5 : decode cX5_path 5 = .ok (.bipush 100, 2) := by decide +kernel
theorem dX5_path_7 : decode cX5_path 7 = .ok (.idiv, 1) := by decide +kernel
theorem dX5_path_8 : decode cX5_path 8 = .ok (.ireturn, 1) := by decide +kernel
set_option maxRecDepth 20000 in
theorem ggX5_brightness_X5_path : GoodIn wsX5_brightness wsX5_path := goodIn_r _ [4] (by decide +kernel) (by decide +kernel)
set_option maxRecDepth 20000 in
theorem gX5_brightness_X5_path : GoodIn wsX5_brightness (va_wsS RX5 30 yX5_path wsX5_path) := goodIn_app (goodIn_of _ (by decide +kernel)) ggX5_brightness_X5_path
theorem dX5_brightness_0 : decode cX5_brightness 0 = .ok (.iload_n 1, 1) := by decide +kernel
theorem dX5_brightness_1 : decode cX5_brightness 1 = .ok (.ifCond .ne 9, 3) := by decide +kernel
theorem dX5_brightness_4 : decode cX5_brightness 4 = .ok (.sipush 650, 3) := by decide +kernel
theorem dX5_brightness_7 : decode cX5_brightness 7 = .ok (.goto 17, 3) := by decide +kernel
theorem dX5_brightness_10 : decode cX5_brightness 10 = .ok (.iload_n 1, 1) := by decide +kernel
theorem dX5_brightness_11 : decode cX5_brightness 11 = .ok (.iconst 1, 1) := by decide +kernel
theorem dX5_brightness_12 : decode cX5_brightness 12 = .ok (.if_icmp .ne 9, 3) := by decide +kernel
theorem dX5_brightness_15 : decode cX5_brightness 15 = .ok (.sipush 530, 3) := by decide +kernel
theorem dX5_brightness_18 : decode cX5_brightness 18 = .ok (.goto 6, 3) := by decide +kernel
theorem dX5_brightness_21 : decode cX5_brightness 21 = .ok (.sipush 460, 3) := by decide +kernel
theorem dX5_brightness_24 : decode cX5_brightness 24 = .ok (.istore_n 2, 1) := by decide +kernel
theorem dX5_brightness_25 : decode cX5_brightness 25 = .ok (.iload_n 0, 1) := by decide +kernel
theorem dX5_brightness_26 : decode cX5_brightness 26 = .ok (.invokestatic 30, 3) := by decide +kernel
theorem dX5_brightness_29 : decode cX5_brightness 29 = .ok (.sipush 1000, 3) := by decide +kernel
theorem dX5_brightness_32 : decode cX5_brightness 32 = .ok (.imul, 1) := by decide +kernel
theorem dX5_brightness_33 : decode cX5_brightness 33 = .ok (.iload_n 2, 1) := by decide +kernel
theorem dX5_brightness_34 : decode cX5_brightness 34 = .ok (.idiv, 1) := by decide +kernel
theorem dX5_brightness_35 : decode cX5_brightness 35 = .ok (.sipush 1000, 3) := by decide +kernel
theorem dX5_brightness_38 : decode cX5_brightness 38 = .ok (.irem, 1) := by decide +kernel
theorem dX5_brightness_39 : decode cX5_brightness 39 = .ok (.istore_n 3, 1) := by decide +kernel
theorem dX5_brightness_40 : decode cX5_brightness 40 = .ok (.iload_n 3, 1) := by decide +kernel
theorem dX5_brightness_41 : decode cX5_brightness 41 = .ok (.sipush 500, 3) := by decide +kernel
theorem dX5_brightness_44 : decode cX5_brightness 44 = .ok (.if_icmp .gt 9, 3) := by decide +kernel
theorem dX5_brightness_47 : decode cX5_brightness 47 = .ok (.iconst 2, 1) := by decide +kernel
theorem dX5_brightness_48 : decode cX5_brightness 48 = .ok (.iload_n 3, 1) := by decide +kernel
theorem dX5_brightness_49 : decode cX5_brightness 49 = .ok (.imul, 1) := by decide +kernel
theorem dX5_brightness_50 : decode cX5_brightness 50 = .ok (.goto 10, 3) := by decide +kernel
theorem dX5_brightness_53 : decode cX5_brightness 53 = .ok (.iconst 2, 1) := by decide +kernel
theorem dX5_brightness_54 : decode cX5_brightness 54 = .ok (.sipush 1000, 3) := by decide +kernel
theorem dX5_brightness_57 : decode cX5_brightness 57 = .ok (.iload_n 3, 1) := by decide +kernel
theorem dX5_brightness_58 : decode cX5_brightness 58 = .ok (.isub, 1) := by decide +kernel
theorem dX5_brightness_59 : decode cX5_brightness 59 = .ok (.imul, 1) := by decide +kernel
theorem dX5_brightness_60 : decode cX5_brightness 60 = .ok (.ireturn, 1) := by decide +kernel
set_option maxRecDepth 20000 in
theorem ggX5_isBlack_X5_of : GoodIn wsX5_isBlack wsX5_of := goodIn_r _ [5, 6, 7, 8, 9, 10, 11, 12, 13, 14, 15, 16] (by decide +kernel) (by decide +kernel)
set_option maxRecDepth 20000 in
theorem gX5_isBlack_X5_of : GoodIn wsX5_isBlack (wsV RX5 34 RX5 yX5_of wsX5_of) := goodIn_app (goodIn_of _ (by decide +kernel)) ggX5_isBlack_X5_of
theorem dX5_isBlack_0 : decode cX5_isBlack 0 = .ok (.iload_n 1, 1) := by decide +kernel
theorem dX5_isBlack_1 : decode cX5_isBlack 1 = .ok (.aload_n 0, 1) := by decide +kernel
theorem dX5_isBlack_2 : decode cX5_isBlack 2 = .ok (.iconst 3, 1) := by decide +kernel
theorem dX5_isBlack_3 : decode cX5_isBlack 3 = .ok (.invokevirtual 34, 3) := by decide +kernel
theorem dX5_isBlack_6 : decode cX5_isBlack 6 = .ok (.if_icmp .ge 7, 3) := by decide +kernel
theorem dX5_isBlack_9 : decode cX5_isBlack 9 = .ok (.iconst 1, 1) := by decide +kernel
theorem dX5_isBlack_10 : decode cX5_isBlack 10 = .ok (.goto 4, 3) := by decide +kernel
theorem dX5_isBlack_13 : decode cX5_isBlack 13 = .ok (.iconst 0, 1) := by decide +kernel
theorem dX5_isBlack_14 : decode cX5_isBlack 14 = .ok (.ireturn, 1) := by decide +kernel
set_option maxRecDepth 20000 in
theorem ggX5_colour_X5_isBlack : GoodIn wsX5_colour wsX5_isBlack := goodIn_r _ [5, 6, 7, 8, 4, 9, 10, 17, 18, 19, 20, 21, 22, 23, 24, 25, 26] (by decide +kernel) (by decide +kernel)
set_option maxRecDepth 20000 in
theorem gX5_colour_X5_isBlack : GoodIn wsX5_colour (wsV RX5 37 RX5 yX5_isBlack wsX5_isBlack) := goodIn_app (goodIn_of _ (by decide +kernel)) ggX5_colour_X5_isBlack
set_option maxRecDepth 20000 in
theorem ggX5_colour_X5_brightness : GoodIn wsX5_colour wsX5_brightness := goodIn_r _ [13, 14, 15, 4, 16] (by decide +kernel) (by decide +kernel)
set_option maxRecDepth 20000 in
theorem gX5_colour_X5_brightness : GoodIn wsX5_colour (va_wsS RX5 41 yX5_brightness wsX5_brightness) := goodIn_app (goodIn_of _ (by decide +kernel)) ggX5_colour_X5_brightness
theorem dX5_colour_0 : decode cX5_colour 0 = .ok (.aload_n 0, 1) := by decide +kernel
theorem dX5_colour_1 : decode cX5_colour 1 = .ok (.iload_n 1, 1) := by decide +kernel
theorem dX5_colour_2 : decode cX5_colour 2 = .ok (.invokevirtual 37, 3) := by decide +kernel
theorem dX5_colour_5 : decode cX5_colour 5 = .ok (.ifCond .eq 5, 3) := by decide +kernel
theorem dX5_colour_8 : decode cX5_colour 8 = .ok (.iconst 0, 1) := by decide +kernel
theorem dX5_colour_9 : decode cX5_colour 9 = .ok (.ireturn, 1) := by decide +kernel
theorem dX5_colour_10 : decode cX5_colour 10 = .ok (.iconst 0, 1) := by decide +kernel
theorem dX5_colour_11 : decode cX5_colour 11 = .ok (.istore_n 2, 1) := by decide +kernel
theorem dX5_colour_12 : decode cX5_colour 12 = .ok (.iconst 0, 1) := by decide +kernel
theorem dX5_colour_13 : decode cX5_colour 13 = .ok (.istore_n 3, 1) := by decide +kernel
theorem dX5_colour_14 : decode cX5_colour 14 = .ok (.iload_n 3, 1) := by decide +kernel
theorem dX5_colour_15 : decode cX5_colour 15 = .ok (.iconst 3, 1) := by decide +kernel
theorem dX5_colour_16 : decode cX5_colour 16 = .ok (.if_icmp .ge 30, 3) := by decide +kernel
theorem dX5_colour_19 : decode cX5_colour 19 = .ok (.iload_n 2, 1) := by decide +kernel
theorem dX5_colour_20 : decode cX5_colour 20 = .ok (.iload_n 1, 1) := by decide +kernel
theorem dX5_colour_21 : decode cX5_colour 21 = .ok (.iload_n 3, 1) := by decide +kernel
theorem dX5_colour_22 : decode cX5_colour 22 = .ok (.invokestatic 41, 3) := by decide +kernel
theorem dX5_colour_25 : decode cX5_colour 25 = .ok (.sipush 500, 3) := by decide +kernel
theorem dX5_colour_28 : decode cX5_colour 28 = .ok (.if_icmp .lt 9, 3) := by decide +kernel
theorem dX5_colour_31 : decode cX5_colour 31 = .ok (.iconst 4, 1) := by decide +kernel
theorem dX5_colour_32 : decode cX5_colour 32 = .ok (.iload_n 3, 1) := by decide +kernel
theorem dX5_colour_33 : decode cX5_colour 33 = .ok (.ishr, 1) := by decide +kernel
theorem dX5_colour_34 : decode cX5_colour 34 = .ok (.goto 4, 3) := by decide +kernel
theorem dX5_colour_37 : decode cX5_colour 37 = .ok (.iconst 0, 1) := by decide +kernel
theorem dX5_colour_38 : decode cX5_colour 38 = .ok (.iadd, 1) := by decide +kernel
theorem dX5_colour_39 : decode cX5_colour 39 = .ok (.istore_n 2, 1) := by decide +kernel
theorem dX5_colour_40 : decode cX5_colour 40 = .ok (.iinc 3 1, 3) := by decide +kernel
theorem dX5_colour_43 : decode cX5_colour 43 = .ok (.goto (-29), 3) := by decide +kernel
theorem dX5_colour_46 : decode cX5_colour 46 = .ok (.iload_n 2, 1) := by decide +kernel
theorem dX5_colour_47 : decode cX5_colour 47 = .ok (.ireturn, 1) := by decide +kernel
set_option maxRecDepth 20000 in
theorem ggX5_colourAt_X5_colour : GoodIn wsX5_colourAt wsX5_colour := goodIn_r _ [6, 7, 8, 9, 5, 10, 11, 12, 13, 14, 1, 15, 16, 17, 18, 19, 20, 21, 22, 23, 24, 25, 26, 27, 28, 29, 30] (by decide +kernel) (by decide +kernel)
set_option maxRecDepth 20000 in
theorem gX5_colourAt_X5_colour : GoodIn wsX5_colourAt (wsV RX5 45 RX5 yX5_colour wsX5_colour) := goodIn_app (goodIn_of _ (by decide +kernel)) ggX5_colourAt_X5_colour
theorem dX5_colourAt_0 : decode cX5_colourAt 0 = .ok (.aload_n 0, 1) := by decide +kernel
theorem dX5_colourAt_1 : decode cX5_colourAt 1 = .ok (.aload_n 0, 1) := by decide +kernel
theorem dX5_colourAt_2 : decode cX5_colourAt 2 = .ok (.getfield 7, 3) := by decide +kernel
theorem dX5_colourAt_5 : decode cX5_colourAt 5 = .ok (.bipush 20, 2) := by decide +kernel
theorem dX5_colourAt_7 : decode cX5_colourAt 7 = .ok (.iload_n 1, 1) := by decide +kernel
theorem dX5_colourAt_8 : decode cX5_colourAt 8 = .ok (.iadd, 1) := by decide +kernel
theorem dX5_colourAt_9 : decode cX5_colourAt 9 = .ok (.iaload, 1) := by decide +kernel
theorem dX5_colourAt_10 : decode cX5_colourAt 10 = .ok (.invokevirtual 45, 3) := by decide +kernel
theorem dX5_colourAt_13 : decode cX5_colourAt 13 = .ok (.ireturn, 1) := by decide +kernel
set_option maxRecDepth 20000 in
theorem ggX5_canBe_X5_in : GoodIn wsX5_canBe wsX5_in := goodIn_r _ [5] (by decide +kernel) (by decide +kernel)
set_option maxRecDepth 20000 in
theorem gX5_canBe_X5_in : GoodIn wsX5_canBe (va_wsS RX5 26 yX5_in wsX5_in) := goodIn_app (goodIn_of _ (by decide +kernel)) ggX5_canBe_X5_in
theorem dX5_canBe_0 : decode cX5_canBe 0 = .ok (.iload_n 0, 1) := by decide +kernel
theorem dX5_canBe_1 : decode cX5_canBe 1 = .ok (.tableswitch 81 0 5 #[39, 47, 55, 64, 39, 73], 39) := by decide +kernel
theorem dX5_canBe_40 : decode cX5_canBe 40 = .ok (.iload_n 1, 1) := by decide +kernel
theorem dX5_canBe_41 : decode cX5_canBe 41 = .ok (.iconst 0, 1) := by decide +kernel
theorem dX5_canBe_42 : decode cX5_canBe 42 = .ok (.bipush 100, 2) := by decide +kernel
theorem dX5_canBe_44 : decode cX5_canBe 44 = .ok (.invokestatic 26, 3) := by decide +kernel
theorem dX5_canBe_47 : decode cX5_canBe 47 = .ok (.ireturn, 1) := by decide +kernel
theorem dX5_canBe_48 : decode cX5_canBe 48 = .ok (.iload_n 1, 1) := by decide +kernel
theorem dX5_canBe_49 : decode cX5_canBe 49 = .ok (.iconst 0, 1) := by decide +kernel
theorem dX5_canBe_50 : decode cX5_canBe 50 = .ok (.bipush 50, 2) := by decide +kernel
theorem dX5_canBe_52 : decode cX5_canBe 52 = .ok (.invokestatic 26, 3) := by decide +kernel
theorem dX5_canBe_55 : decode cX5_canBe 55 = .ok (.ireturn, 1) := by decide +kernel
theorem dX5_canBe_56 : decode cX5_canBe 56 = .ok (.iload_n 1, 1) := by decide +kernel
theorem dX5_canBe_57 : decode cX5_canBe 57 = .ok (.iconst 0, 1) := by decide +kernel
theorem dX5_canBe_58 : decode cX5_canBe 58 = .ok (.sipush 500, 3) := by decide +kernel
theorem dX5_canBe_61 : decode cX5_canBe 61 = .ok (.invokestatic 26, 3) := by decide +kernel
theorem dX5_canBe_64 : decode cX5_canBe 64 = .ok (.ireturn, 1) := by decide +kernel
theorem dX5_canBe_65 : decode cX5_canBe 65 = .ok (.iload_n 1, 1) := by decide +kernel
theorem dX5_canBe_66 : decode cX5_canBe 66 = .ok (.iconst 1, 1) := by decide +kernel
theorem dX5_canBe_67 : decode cX5_canBe 67 = .ok (.sipush 200, 3) := by decide +kernel
theorem dX5_canBe_70 : decode cX5_canBe 70 = .ok (.invokestatic 26, 3) := by decide +kernel
theorem dX5_canBe_73 : decode cX5_canBe 73 = .ok (.ireturn, 1) := by decide +kernel
theorem dX5_canBe_74 : decode cX5_canBe 74 = .ok (.iload_n 1, 1) := by decide +kernel
theorem dX5_canBe_75 : decode cX5_canBe 75 = .ok (.iconst 1, 1) := by decide +kernel
theorem dX5_canBe_76 : decode cX5_canBe 76 = .ok (.bipush 24, 2) := by decide +kernel
theorem dX5_canBe_78 : decode cX5_canBe 78 = .ok (.invokestatic 26, 3) := by decide +kernel
theorem dX5_canBe_81 : decode cX5_canBe 81 = .ok (.ireturn, 1) := by decide +kernel
theorem dX5_canBe_82 : decode cX5_canBe 82 = .ok (.iload_n 0, 1) := by decide +kernel
theorem dX5_canBe_83 : decode cX5_canBe 83 = .ok (.bipush 6, 2) := by decide +kernel
theorem dX5_canBe_85 : decode cX5_canBe 85 = .ok (.if_icmp .ne 17, 3) := by decide +kernel
theorem dX5_canBe_88 : decode cX5_canBe 88 = .ok (.iload_n 1, 1) := by decide +kernel
theorem dX5_canBe_89 : decode cX5_canBe 89 = .ok (.iconst 1, 1) := by decide +kernel
theorem dX5_canBe_90 : decode cX5_canBe 90 = .ok (.ldc 48, 2) := by decide +kernel
theorem dX5_canBe_92 : decode cX5_canBe 92 = .ok (.invokestatic 26, 3) := by decide +kernel
theorem dX5_canBe_95 : decode cX5_canBe 95 = .ok (.ifCond .eq 7, 3) := by decide +kernel
theorem dX5_canBe_98 : decode cX5_canBe 98 = .ok (.iconst 1, 1) := by decide +kernel
theorem dX5_canBe_99 : decode cX5_canBe 99 = .ok (.goto 4, 3) := by decide +kernel
theorem dX5_canBe_102 : decode cX5_canBe 102 = .ok (.iconst 0, 1) := by decide +kernel
theorem dX5_canBe_103 : decode cX5_canBe 103 = .ok (.ireturn, 1) := by decide +kernel
set_option maxRecDepth 20000 in
theorem ggX5_set_X5_canBe : GoodIn wsX5_set wsX5_canBe := goodIn_r _ [5, 6, 7, 8, 4, 9] (by decide +kernel) (by decide +kernel)
set_option maxRecDepth 20000 in
theorem gX5_set_X5_canBe : GoodIn wsX5_set (va_wsS RX5 49 yX5_canBe wsX5_canBe) := goodIn_app (goodIn_of _ (by decide +kernel)) ggX5_set_X5_canBe
set_option maxRecDepth 20000 in
theorem ggX5_set_X5_records : GoodIn wsX5_set wsX5_records := goodIn_r _ [13, 14, 15, 1, 20, 21, 22, 23, 24, 25, 26, 27, 28, 29] (by decide +kernel) (by decide +kernel)
set_option maxRecDepth 20000 in
theorem gX5_set_X5_records : GoodIn wsX5_set (wsV RX5 53 RX5 yX5_records wsX5_records) := goodIn_app (goodIn_of _ (by decide +kernel)) ggX5_set_X5_records
set_option maxRecDepth 20000 in
theorem ggX5_set_X5_of : GoodIn wsX5_set wsX5_of := goodIn_r _ [19, 1, 20, 21, 22, 23, 24, 25, 26, 27, 28, 29] (by decide +kernel) (by decide +kernel)
set_option maxRecDepth 20000 in
theorem gX5_set_X5_of : GoodIn wsX5_set (wsV RX5 34 RX5 yX5_of wsX5_of) := goodIn_app (goodIn_of _ (by decide +kernel)) ggX5_set_X5_of
theorem dX5_set_0 : decode cX5_set 0 = .ok (.iload_n 1, 1) := by decide +kernel
theorem dX5_set_1 : decode cX5_set 1 = .ok (.iload_n 2, 1) := by decide +kernel
theorem dX5_set_2 : decode cX5_set 2 = .ok (.invokestatic 49, 3) := by decide +kernel
theorem dX5_set_5 : decode cX5_set 5 = .ok (.ifCond .ne 5, 3) := by decide +kernel
theorem dX5_set_8 : decode cX5_set 8 = .ok (.iconst (-1), 1) := by decide +kernel
theorem dX5_set_9 : decode cX5_set 9 = .ok (.ireturn, 1) := by decide +kernel
theorem dX5_set_10 : decode cX5_set 10 = .ok (.aload_n 0, 1) := by decide +kernel
theorem dX5_set_11 : decode cX5_set 11 = .ok (.invokevirtual 53, 3) := by decide +kernel
theorem dX5_set_14 : decode cX5_set 14 = .ok (.aload_n 0, 1) := by decide +kernel
theorem dX5_set_15 : decode cX5_set 15 = .ok (.iload_n 1, 1) := by decide +kernel
theorem dX5_set_16 : decode cX5_set 16 = .ok (.invokevirtual 34, 3) := by decide +kernel
theorem dX5_set_19 : decode cX5_set 19 = .ok (.istore_n 3, 1) := by decide +kernel
theorem dX5_set_20 : decode cX5_set 20 = .ok (.aload_n 0, 1) := by decide +kernel
theorem dX5_set_21 : decode cX5_set 21 = .ok (.getfield 7, 3) := by decide +kernel
theorem dX5_set_24 : decode cX5_set 24 = .ok (.bipush 13, 2) := by decide +kernel
theorem dX5_set_26 : decode cX5_set 26 = .ok (.iload_n 1, 1) := by decide +kernel
theorem dX5_set_27 : decode cX5_set 27 = .ok (.iadd, 1) := by decide +kernel
theorem dX5_set_28 : decode cX5_set 28 = .ok (.iload_n 2, 1) := by decide +kernel
theorem dX5_set_29 : decode cX5_set 29 = .ok (.iastore, 1) := by decide +kernel
theorem dX5_set_30 : decode cX5_set 30 = .ok (.iload_n 3, 1) := by decide +kernel
theorem dX5_set_31 : decode cX5_set 31 = .ok (.ireturn, 1) := by decide +kernel
theorem dX5_liquid_0 : decode cX5_liquid 0 = .ok (.iconst 0, 1) := by decide +kernel
theorem dX5_liquid_1 : decode cX5_liquid 1 = .ok (.istore_n 1, 1) := by decide +kernel
theorem dX5_liquid_2 : decode cX5_liquid 2 = .ok (.iconst 0, 1) := by decide +kernel
theorem dX5_liquid_3 : decode cX5_liquid 3 = .ok (.istore_n 2, 1) := by decide +kernel
theorem dX5_liquid_4 : decode cX5_liquid 4 = .ok (.iload_n 2, 1) := by decide +kernel
theorem dX5_liquid_5 : decode cX5_liquid 5 = .ok (.aload_n 0, 1) := by decide +kernel
theorem dX5_liquid_6 : decode cX5_liquid 6 = .ok (.getfield 7, 3) := by decide +kernel
theorem dX5_liquid_9 : decode cX5_liquid 9 = .ok (.iconst 0, 1) := by decide +kernel
theorem dX5_liquid_10 : decode cX5_liquid 10 = .ok (.iaload, 1) := by decide +kernel
theorem dX5_liquid_11 : decode cX5_liquid 11 = .ok (.if_icmp .ge 21, 3) := by decide +kernel
theorem dX5_liquid_14 : decode cX5_liquid 14 = .ok (.iload_n 1, 1) := by decide +kernel
theorem dX5_liquid_15 : decode cX5_liquid 15 = .ok (.aload_n 0, 1) := by decide +kernel
theorem dX5_liquid_16 : decode cX5_liquid 16 = .ok (.getfield 7, 3) := by decide +kernel
theorem dX5_liquid_19 : decode cX5_liquid 19 = .ok (.bipush 20, 2) := by decide +kernel
theorem dX5_liquid_21 : decode cX5_liquid 21 = .ok (.iload_n 2, 1) := by decide +kernel
theorem dX5_liquid_22 : decode cX5_liquid 22 = .ok (.iadd, 1) := by decide +kernel
theorem dX5_liquid_23 : decode cX5_liquid 23 = .ok (.iaload, 1) := by decide +kernel
theorem dX5_liquid_24 : decode cX5_liquid 24 = .ok (.iadd, 1) := by decide +kernel
theorem dX5_liquid_25 : decode cX5_liquid 25 = .ok (.istore_n 1, 1) := by decide +kernel
theorem dX5_liquid_26 : decode cX5_liquid 26 = .ok (.iinc 2 1, 3) := by decide +kernel
theorem dX5_liquid_29 : decode cX5_liquid 29 = .ok (.goto (-25), 3) := by decide +kernel
theorem dX5_liquid_32 : decode cX5_liquid 32 = .ok (.iload_n 1, 1) := by decide +kernel
theorem dX5_liquid_33 : decode cX5_liquid 33 = .ok (.ireturn, 1) := by decide +kernel
set_option maxRecDepth 20000 in
theorem ggX5_takesAway_X5_liquid : GoodIn wsX5_takesAway wsX5_liquid := goodIn_r _ [6, 1, 7, 8, 9, 10, 11, 12, 13, 14, 15, 16] (by decide +kernel) (by decide +kernel)
set_option maxRecDepth 20000 in
theorem gX5_takesAway_X5_liquid : GoodIn wsX5_takesAway (wsV RX5 56 RX5 yX5_liquid wsX5_liquid) := goodIn_app (goodIn_of _ (by decide +kernel)) ggX5_takesAway_X5_liquid
theorem dX5_takesAway_0 : decode cX5_takesAway 0 = .ok (.aload_n 0, 1) := by decide +kernel
theorem dX5_takesAway_1 : decode cX5_takesAway 1 = .ok (.getfield 7, 3) := by decide +kernel
theorem dX5_takesAway_4 : decode cX5_takesAway 4 = .ok (.bipush 7, 2) := by decide +kernel
theorem dX5_takesAway_6 : decode cX5_takesAway 6 = .ok (.dup2, 1) := by decide +kernel
theorem dX5_takesAway_7 : decode cX5_takesAway 7 = .ok (.iaload, 1) := by decide +kernel
theorem dX5_takesAway_8 : decode cX5_takesAway 8 = .ok (.aload_n 0, 1) := by decide +kernel
theorem dX5_takesAway_9 : decode cX5_takesAway 9 = .ok (.invokevirtual 56, 3) := by decide +kernel
theorem dX5_takesAway_12 : decode cX5_takesAway 12 = .ok (.iadd, 1) := by decide +kernel
theorem dX5_takesAway_13 : decode cX5_takesAway 13 = .ok (.iastore, 1) := by decide +kernel
theorem dX5_takesAway_14 : decode cX5_takesAway 14 = .ok (.aload_n 0, 1) := by decide +kernel
theorem dX5_takesAway_15 : decode cX5_takesAway 15 = .ok (.getfield 7, 3) := by decide +kernel
theorem dX5_takesAway_18 : decode cX5_takesAway 18 = .ok (.iconst 0, 1) := by decide +kernel
theorem dX5_takesAway_19 : decode cX5_takesAway 19 = .ok (.iconst 0, 1) := by decide +kernel
theorem dX5_takesAway_20 : decode cX5_takesAway 20 = .ok (.iastore, 1) := by decide +kernel
theorem dX5_takesAway_21 : decode cX5_takesAway 21 = .ok (.return_, 1) := by decide +kernel
theorem dX5_newRow_0 : decode cX5_newRow 0 = .ok (.aload_n 0, 1) := by decide +kernel
theorem dX5_newRow_1 : decode cX5_newRow 1 = .ok (.getfield 7, 3) := by decide +kernel
theorem dX5_newRow_4 : decode cX5_newRow 4 = .ok (.bipush 20, 2) := by decide +kernel
theorem dX5_newRow_6 : decode cX5_newRow 6 = .ok (.aload_n 0, 1) := by decide +kernel
theorem dX5_newRow_7 : decode cX5_newRow 7 = .ok (.getfield 7, 3) := by decide +kernel
theorem dX5_newRow_10 : decode cX5_newRow 10 = .ok (.iconst 0, 1) := by decide +kernel
theorem dX5_newRow_11 : decode cX5_newRow 11 = .ok (.iaload, 1) := by decide +kernel
theorem dX5_newRow_12 : decode cX5_newRow 12 = .ok (.iadd, 1) := by decide +kernel
theorem dX5_newRow_13 : decode cX5_newRow 13 = .ok (.iload_n 1, 1) := by decide +kernel
theorem dX5_newRow_14 : decode cX5_newRow 14 = .ok (.iastore, 1) := by decide +kernel
theorem dX5_newRow_15 : decode cX5_newRow 15 = .ok (.aload_n 0, 1) := by decide +kernel
theorem dX5_newRow_16 : decode cX5_newRow 16 = .ok (.getfield 7, 3) := by decide +kernel
theorem dX5_newRow_19 : decode cX5_newRow 19 = .ok (.iconst 0, 1) := by decide +kernel
theorem dX5_newRow_20 : decode cX5_newRow 20 = .ok (.dup2, 1) := by decide +kernel
theorem dX5_newRow_21 : decode cX5_newRow 21 = .ok (.iaload, 1) := by decide +kernel
theorem dX5_newRow_22 : decode cX5_newRow 22 = .ok (.iconst 1, 1) := by decide +kernel
theorem dX5_newRow_23 : decode cX5_newRow 23 = .ok (.iadd, 1) := by decide +kernel
theorem dX5_newRow_24 : decode cX5_newRow 24 = .ok (.iastore, 1) := by decide +kernel
theorem dX5_newRow_25 : decode cX5_newRow 25 = .ok (.aload_n 0, 1) := by decide +kernel
theorem dX5_newRow_26 : decode cX5_newRow 26 = .ok (.getfield 7, 3) := by decide +kernel
theorem dX5_newRow_29 : decode cX5_newRow 29 = .ok (.iconst 3, 1) := by decide +kernel
theorem dX5_newRow_30 : decode cX5_newRow 30 = .ok (.dup2, 1) := by decide +kernel
theorem dX5_newRow_31 : decode cX5_newRow 31 = .ok (.iaload, 1) := by decide +kernel
theorem dX5_newRow_32 : decode cX5_newRow 32 = .ok (.iload_n 1, 1) := by decide +kernel
theorem dX5_newRow_33 : decode cX5_newRow 33 = .ok (.iadd, 1) := by decide +kernel
theorem dX5_newRow_34 : decode cX5_newRow 34 = .ok (.iastore, 1) := by decide +kernel
theorem dX5_newRow_35 : decode cX5_newRow 35 = .ok (.return_, 1) := by decide +kernel
set_option maxRecDepth 20000 in
theorem ggX5_dip_X5_in : GoodIn wsX5_dip wsX5_in := goodIn_r _ [4] (by decide +kernel) (by decide +kernel)
set_option maxRecDepth 20000 in
theorem gX5_dip_X5_in : GoodIn wsX5_dip (va_wsS RX5 26 yX5_in wsX5_in) := goodIn_app (goodIn_of _ (by decide +kernel)) ggX5_dip_X5_in
set_option maxRecDepth 20000 in
theorem ggX5_dip_X5_records : GoodIn wsX5_dip wsX5_records := goodIn_r _ [8, 9, 10, 11, 24, 25, 26, 27, 28, 29, 30, 31, 32, 33] (by decide +kernel) (by decide +kernel)
set_option maxRecDepth 20000 in
theorem gX5_dip_X5_records : GoodIn wsX5_dip (wsV RX5 53 RX5 yX5_records wsX5_records) := goodIn_app (goodIn_of _ (by decide +kernel)) ggX5_dip_X5_records
set_option maxRecDepth 20000 in
theorem ggX5_dip_X5_takesAway : GoodIn wsX5_dip wsX5_takesAway := goodIn_r _ [15, 11, 16, 17, 18, 3, 19, 24, 25, 26, 27, 28, 29, 30, 31, 32, 33] (by decide +kernel) (by decide +kernel)
set_option maxRecDepth 20000 in
theorem gX5_dip_X5_takesAway : GoodIn wsX5_dip (wsV RX5 60 RX5 yX5_takesAway wsX5_takesAway) := goodIn_app (goodIn_of _ (by decide +kernel)) ggX5_dip_X5_takesAway
set_option maxRecDepth 20000 in
theorem ggX5_dip_X5_newRow : GoodIn wsX5_dip wsX5_newRow := goodIn_r _ [23, 11, 24, 25, 26, 27, 28, 29, 30, 31, 32, 33] (by decide +kernel) (by decide +kernel)
set_option maxRecDepth 20000 in
theorem gX5_dip_X5_newRow : GoodIn wsX5_dip (wsV RX5 63 RX5 yX5_newRow wsX5_newRow) := goodIn_app (goodIn_of _ (by decide +kernel)) ggX5_dip_X5_newRow
set_option maxRecDepth 20000 in
theorem ggX5_dip_X5_liquid : GoodIn wsX5_dip wsX5_liquid := goodIn_r _ [19, 11, 24, 25, 26, 27, 28, 29, 30, 31, 32, 33] (by decide +kernel) (by decide +kernel)
set_option maxRecDepth 20000 in
theorem gX5_dip_X5_liquid : GoodIn wsX5_dip (wsV RX5 56 RX5 yX5_liquid wsX5_liquid) := goodIn_app (goodIn_of _ (by decide +kernel)) ggX5_dip_X5_liquid
theorem dX5_dip_0 : decode cX5_dip 0 = .ok (.iload_n 1, 1) := by decide +kernel
theorem dX5_dip_1 : decode cX5_dip 1 = .ok (.iconst 1, 1) := by decide +kernel
theorem dX5_dip_2 : decode cX5_dip 2 = .ok (.bipush 24, 2) := by decide +kernel
theorem dX5_dip_4 : decode cX5_dip 4 = .ok (.invokestatic 26, 3) := by decide +kernel
theorem dX5_dip_7 : decode cX5_dip 7 = .ok (.ifCond .eq 38, 3) := by decide +kernel
theorem dX5_dip_10 : decode cX5_dip 10 = .ok (.iload_n 2, 1) := by decide +kernel
theorem dX5_dip_11 : decode cX5_dip 11 = .ok (.iconst 0, 1) := by decide +kernel
theorem dX5_dip_12 : decode cX5_dip 12 = .ok (.sipush 5000, 3) := by decide +kernel
theorem dX5_dip_15 : decode cX5_dip 15 = .ok (.invokestatic 26, 3) := by decide +kernel
theorem dX5_dip_18 : decode cX5_dip 18 = .ok (.ifCond .eq 27, 3) := by decide +kernel
theorem dX5_dip_21 : decode cX5_dip 21 = .ok (.iload_n 3, 1) := by decide +kernel
theorem dX5_dip_22 : decode cX5_dip 22 = .ok (.iconst 0, 1) := by decide +kernel
theorem dX5_dip_23 : decode cX5_dip 23 = .ok (.sipush 500, 3) := by decide +kernel
theorem dX5_dip_26 : decode cX5_dip 26 = .ok (.invokestatic 26, 3) := by decide +kernel
theorem dX5_dip_29 : decode cX5_dip 29 = .ok (.ifCond .eq 16, 3) := by decide +kernel
theorem dX5_dip_32 : decode cX5_dip 32 = .ok (.iload_n 2, 1) := by decide +kernel
theorem dX5_dip_33 : decode cX5_dip 33 = .ok (.iload_n 1, 1) := by decide +kernel
theorem dX5_dip_34 : decode cX5_dip 34 = .ok (.iconst 1, 1) := by decide +kernel
theorem dX5_dip_35 : decode cX5_dip 35 = .ok (.isub, 1) := by decide +kernel
theorem dX5_dip_36 : decode cX5_dip 36 = .ok (.iload_n 3, 1) := by decide +kernel
theorem dX5_dip_37 : decode cX5_dip 37 = .ok (.imul, 1) := by decide +kernel
theorem dX5_dip_38 : decode cX5_dip 38 = .ok (.iadd, 1) := by decide +kernel
theorem dX5_dip_39 : decode cX5_dip 39 = .ok (.sipush 5000, 3) := by decide +kernel
theorem dX5_dip_42 : decode cX5_dip 42 = .ok (.if_icmp .le 5, 3) := by decide +kernel
theorem dX5_dip_45 : decode cX5_dip 45 = .ok (.iconst (-1), 1) := by decide +kernel
theorem dX5_dip_46 : decode cX5_dip 46 = .ok (.ireturn, 1) := by decide +kernel
theorem dX5_dip_47 : decode cX5_dip 47 = .ok (.aload_n 0, 1) := by decide +kernel
theorem dX5_dip_48 : decode cX5_dip 48 = .ok (.invokevirtual 53, 3) := by decide +kernel
theorem dX5_dip_51 : decode cX5_dip 51 = .ok (.aload_n 0, 1) := by decide +kernel
theorem dX5_dip_52 : decode cX5_dip 52 = .ok (.invokevirtual 60, 3) := by decide +kernel
theorem dX5_dip_55 : decode cX5_dip 55 = .ok (.iconst 0, 1) := by decide +kernel
theorem dX5_dip_56 : decode cX5_dip 56 = .ok (.istore 4, 2) := by decide +kernel
theorem dX5_dip_58 : decode cX5_dip 58 = .ok (.iload 4, 2) := by decide +kernel
theorem dX5_dip_60 : decode cX5_dip 60 = .ok (.iload_n 1, 1) := by decide +kernel
theorem dX5_dip_61 : decode cX5_dip 61 = .ok (.if_icmp .ge 19, 3) := by decide +kernel
theorem dX5_dip_64 : decode cX5_dip 64 = .ok (.aload_n 0, 1) := by decide +kernel
theorem dX5_dip_65 : decode cX5_dip 65 = .ok (.iload_n 2, 1) := by decide +kernel
theorem dX5_dip_66 : decode cX5_dip 66 = .ok (.iload 4, 2) := by decide +kernel
theorem dX5_dip_68 : decode cX5_dip 68 = .ok (.iload_n 3, 1) := by decide +kernel
theorem dX5_dip_69 : decode cX5_dip 69 = .ok (.imul, 1) := by decide +kernel
theorem dX5_dip_70 : decode cX5_dip 70 = .ok (.iadd, 1) := by decide +kernel
theorem dX5_dip_71 : decode cX5_dip 71 = .ok (.invokevirtual 63, 3) := by decide +kernel
theorem dX5_dip_74 : decode cX5_dip 74 = .ok (.iinc 4 1, 3) := by decide +kernel
theorem dX5_dip_77 : decode cX5_dip 77 = .ok (.goto (-19), 3) := by decide +kernel
theorem dX5_dip_80 : decode cX5_dip 80 = .ok (.aload_n 0, 1) := by decide +kernel
theorem dX5_dip_81 : decode cX5_dip 81 = .ok (.invokevirtual 56, 3) := by decide +kernel
theorem dX5_dip_84 : decode cX5_dip 84 = .ok (.ireturn, 1) := by decide +kernel
set_option maxRecDepth 20000 in
theorem ggX5_pour_X5_isRow : GoodIn wsX5_pour wsX5_isRow := goodIn_r _ [6, 1, 7, 8, 5, 9, 16, 17, 18, 19, 20, 21, 22, 23, 24, 25] (by decide +kernel) (by decide +kernel)
set_option maxRecDepth 20000 in
theorem gX5_pour_X5_isRow : GoodIn wsX5_pour (wsV RX5 67 RX5 yX5_isRow wsX5_isRow) := goodIn_app (goodIn_of _ (by decide +kernel)) ggX5_pour_X5_isRow
set_option maxRecDepth 20000 in
theorem ggX5_pour_X5_in : GoodIn wsX5_pour wsX5_in := goodIn_r _ [9] (by decide +kernel) (by decide +kernel)
set_option maxRecDepth 20000 in
theorem gX5_pour_X5_in : GoodIn wsX5_pour (va_wsS RX5 26 yX5_in wsX5_in) := goodIn_app (goodIn_of _ (by decide +kernel)) ggX5_pour_X5_in
set_option maxRecDepth 20000 in
theorem ggX5_pour_X5_records : GoodIn wsX5_pour wsX5_records := goodIn_r _ [13, 14, 15, 1, 16, 17, 18, 19, 20, 21, 22, 23, 24, 25] (by decide +kernel) (by decide +kernel)
set_option maxRecDepth 20000 in
theorem gX5_pour_X5_records : GoodIn wsX5_pour (wsV RX5 53 RX5 yX5_records wsX5_records) := goodIn_app (goodIn_of _ (by decide +kernel)) ggX5_pour_X5_records
theorem dX5_pour_0 : decode cX5_pour 0 = .ok (.aload_n 0, 1) := by decide +kernel
theorem dX5_pour_1 : decode cX5_pour 1 = .ok (.iload_n 1, 1) := by decide +kernel
theorem dX5_pour_2 : decode cX5_pour 2 = .ok (.invokevirtual 67, 3) := by decide +kernel
theorem dX5_pour_5 : decode cX5_pour 5 = .ok (.ifCond .eq 14, 3) := by decide +kernel
theorem dX5_pour_8 : decode cX5_pour 8 = .ok (.iload_n 2, 1) := by decide +kernel
theorem dX5_pour_9 : decode cX5_pour 9 = .ok (.iconst 1, 1) := by decide +kernel
theorem dX5_pour_10 : decode cX5_pour 10 = .ok (.sipush 5000, 3) := by decide +kernel
theorem dX5_pour_13 : decode cX5_pour 13 = .ok (.invokestatic 26, 3) := by decide +kernel
theorem dX5_pour_16 : decode cX5_pour 16 = .ok (.ifCond .ne 5, 3) := by decide +kernel
theorem dX5_pour_19 : decode cX5_pour 19 = .ok (.iconst (-1), 1) := by decide +kernel
theorem dX5_pour_20 : decode cX5_pour 20 = .ok (.ireturn, 1) := by decide +kernel
theorem dX5_pour_21 : decode cX5_pour 21 = .ok (.aload_n 0, 1) := by decide +kernel
theorem dX5_pour_22 : decode cX5_pour 22 = .ok (.getfield 7, 3) := by decide +kernel
theorem dX5_pour_25 : decode cX5_pour 25 = .ok (.bipush 20, 2) := by decide +kernel
theorem dX5_pour_27 : decode cX5_pour 27 = .ok (.iload_n 1, 1) := by decide +kernel
theorem dX5_pour_28 : decode cX5_pour 28 = .ok (.iadd, 1) := by decide +kernel
theorem dX5_pour_29 : decode cX5_pour 29 = .ok (.iaload, 1) := by decide +kernel
theorem dX5_pour_30 : decode cX5_pour 30 = .ok (.iload_n 2, 1) := by decide +kernel
theorem dX5_pour_31 : decode cX5_pour 31 = .ok (.iadd, 1) := by decide +kernel
theorem dX5_pour_32 : decode cX5_pour 32 = .ok (.sipush 5000, 3) := by decide +kernel
theorem dX5_pour_35 : decode cX5_pour 35 = .ok (.if_icmp .le 6, 3) := by decide +kernel
theorem dX5_pour_38 : decode cX5_pour 38 = .ok (.bipush (-3), 2) := by decide +kernel
theorem dX5_pour_40 : decode cX5_pour 40 = .ok (.ireturn, 1) := by decide +kernel
theorem dX5_pour_41 : decode cX5_pour 41 = .ok (.aload_n 0, 1) := by decide +kernel
theorem dX5_pour_42 : decode cX5_pour 42 = .ok (.invokevirtual 53, 3) := by decide +kernel
theorem dX5_pour_45 : decode cX5_pour 45 = .ok (.aload_n 0, 1) := by decide +kernel
theorem dX5_pour_46 : decode cX5_pour 46 = .ok (.getfield 7, 3) := by decide +kernel
theorem dX5_pour_49 : decode cX5_pour 49 = .ok (.bipush 20, 2) := by decide +kernel
theorem dX5_pour_51 : decode cX5_pour 51 = .ok (.iload_n 1, 1) := by decide +kernel
theorem dX5_pour_52 : decode cX5_pour 52 = .ok (.iadd, 1) := by decide +kernel
theorem dX5_pour_53 : decode cX5_pour 53 = .ok (.dup2, 1) := by decide +kernel
theorem dX5_pour_54 : decode cX5_pour 54 = .ok (.iaload, 1) := by decide +kernel
theorem dX5_pour_55 : decode cX5_pour 55 = .ok (.iload_n 2, 1) := by decide +kernel
theorem dX5_pour_56 : decode cX5_pour 56 = .ok (.iadd, 1) := by decide +kernel
theorem dX5_pour_57 : decode cX5_pour 57 = .ok (.iastore, 1) := by decide +kernel
theorem dX5_pour_58 : decode cX5_pour 58 = .ok (.aload_n 0, 1) := by decide +kernel
theorem dX5_pour_59 : decode cX5_pour 59 = .ok (.getfield 7, 3) := by decide +kernel
theorem dX5_pour_62 : decode cX5_pour 62 = .ok (.iconst 3, 1) := by decide +kernel
theorem dX5_pour_63 : decode cX5_pour 63 = .ok (.dup2, 1) := by decide +kernel
theorem dX5_pour_64 : decode cX5_pour 64 = .ok (.iaload, 1) := by decide +kernel
theorem dX5_pour_65 : decode cX5_pour 65 = .ok (.iload_n 2, 1) := by decide +kernel
theorem dX5_pour_66 : decode cX5_pour 66 = .ok (.iadd, 1) := by decide +kernel
theorem dX5_pour_67 : decode cX5_pour 67 = .ok (.iastore, 1) := by decide +kernel
theorem dX5_pour_68 : decode cX5_pour 68 = .ok (.aload_n 0, 1) := by decide +kernel
theorem dX5_pour_69 : decode cX5_pour 69 = .ok (.getfield 7, 3) := by decide +kernel
theorem dX5_pour_72 : decode cX5_pour 72 = .ok (.bipush 20, 2) := by decide +kernel
theorem dX5_pour_74 : decode cX5_pour 74 = .ok (.iload_n 1, 1) := by decide +kernel
theorem dX5_pour_75 : decode cX5_pour 75 = .ok (.iadd, 1) := by decide +kernel
theorem dX5_pour_76 : decode cX5_pour 76 = .ok (.iaload, 1) := by decide +kernel
theorem dX5_pour_77 : decode cX5_pour 77 = .ok (.ireturn, 1) := by decide +kernel
set_option maxRecDepth 20000 in
theorem ggX5_add_X5_in : GoodIn wsX5_add wsX5_in := goodIn_r _ [5] (by decide +kernel) (by decide +kernel)
set_option maxRecDepth 20000 in
theorem gX5_add_X5_in : GoodIn wsX5_add (va_wsS RX5 26 yX5_in wsX5_in) := goodIn_app (goodIn_of _ (by decide +kernel)) ggX5_add_X5_in
set_option maxRecDepth 20000 in
theorem ggX5_add_X5_records : GoodIn wsX5_add wsX5_records := goodIn_r _ [9, 10, 11, 1, 16, 17, 18, 19, 20, 21, 22, 23, 24, 25] (by decide +kernel) (by decide +kernel)
set_option maxRecDepth 20000 in
theorem gX5_add_X5_records : GoodIn wsX5_add (wsV RX5 53 RX5 yX5_records wsX5_records) := goodIn_app (goodIn_of _ (by decide +kernel)) ggX5_add_X5_records
set_option maxRecDepth 20000 in
theorem ggX5_add_X5_newRow : GoodIn wsX5_add wsX5_newRow := goodIn_r _ [15, 1, 16, 17, 18, 19, 20, 21, 22, 23, 24, 25] (by decide +kernel) (by decide +kernel)
set_option maxRecDepth 20000 in
theorem gX5_add_X5_newRow : GoodIn wsX5_add (wsV RX5 63 RX5 yX5_newRow wsX5_newRow) := goodIn_app (goodIn_of _ (by decide +kernel)) ggX5_add_X5_newRow
theorem dX5_add_0 : decode cX5_add 0 = .ok (.iload_n 1, 1) := by decide +kernel
theorem dX5_add_1 : decode cX5_add 1 = .ok (.iconst 0, 1) := by decide +kernel
theorem dX5_add_2 : decode cX5_add 2 = .ok (.sipush 5000, 3) := by decide +kernel
theorem dX5_add_5 : decode cX5_add 5 = .ok (.invokestatic 26, 3) := by decide +kernel
theorem dX5_add_8 : decode cX5_add 8 = .ok (.ifCond .ne 5, 3) := by decide +kernel
theorem dX5_add_11 : decode cX5_add 11 = .ok (.iconst (-1), 1) := by decide +kernel
theorem dX5_add_12 : decode cX5_add 12 = .ok (.ireturn, 1) := by decide +kernel
theorem dX5_add_13 : decode cX5_add 13 = .ok (.aload_n 0, 1) := by decide +kernel
theorem dX5_add_14 : decode cX5_add 14 = .ok (.getfield 7, 3) := by decide +kernel
theorem dX5_add_17 : decode cX5_add 17 = .ok (.iconst 0, 1) := by decide +kernel
theorem dX5_add_18 : decode cX5_add 18 = .ok (.iaload, 1) := by decide +kernel
theorem dX5_add_19 : decode cX5_add 19 = .ok (.ifCond .ne 6, 3) := by decide +kernel
theorem dX5_add_22 : decode cX5_add 22 = .ok (.bipush (-2), 2) := by decide +kernel
theorem dX5_add_24 : decode cX5_add 24 = .ok (.ireturn, 1) := by decide +kernel
theorem dX5_add_25 : decode cX5_add 25 = .ok (.aload_n 0, 1) := by decide +kernel
theorem dX5_add_26 : decode cX5_add 26 = .ok (.getfield 7, 3) := by decide +kernel
theorem dX5_add_29 : decode cX5_add 29 = .ok (.iconst 0, 1) := by decide +kernel
theorem dX5_add_30 : decode cX5_add 30 = .ok (.iaload, 1) := by decide +kernel
theorem dX5_add_31 : decode cX5_add 31 = .ok (.bipush 24, 2) := by decide +kernel
theorem dX5_add_33 : decode cX5_add 33 = .ok (.if_icmp .ne 6, 3) := by decide +kernel
theorem dX5_add_36 : decode cX5_add 36 = .ok (.bipush (-3), 2) := by decide +kernel
theorem dX5_add_38 : decode cX5_add 38 = .ok (.ireturn, 1) := by decide +kernel
theorem dX5_add_39 : decode cX5_add 39 = .ok (.aload_n 0, 1) := by decide +kernel
theorem dX5_add_40 : decode cX5_add 40 = .ok (.invokevirtual 53, 3) := by decide +kernel
theorem dX5_add_43 : decode cX5_add 43 = .ok (.aload_n 0, 1) := by decide +kernel
theorem dX5_add_44 : decode cX5_add 44 = .ok (.iload_n 1, 1) := by decide +kernel
theorem dX5_add_45 : decode cX5_add 45 = .ok (.invokevirtual 63, 3) := by decide +kernel
theorem dX5_add_48 : decode cX5_add 48 = .ok (.aload_n 0, 1) := by decide +kernel
theorem dX5_add_49 : decode cX5_add 49 = .ok (.getfield 7, 3) := by decide +kernel
theorem dX5_add_52 : decode cX5_add 52 = .ok (.iconst 0, 1) := by decide +kernel
theorem dX5_add_53 : decode cX5_add 53 = .ok (.iaload, 1) := by decide +kernel
theorem dX5_add_54 : decode cX5_add 54 = .ok (.ireturn, 1) := by decide +kernel
set_option maxRecDepth 20000 in
theorem ggX5_thin_X5_isRow : GoodIn wsX5_thin wsX5_isRow := goodIn_r _ [6, 1, 7, 8, 5, 9, 19, 20, 21, 22, 23, 24, 25, 26, 27, 28] (by decide +kernel) (by decide +kernel)
set_option maxRecDepth 20000 in
theorem gX5_thin_X5_isRow : GoodIn wsX5_thin (wsV RX5 67 RX5 yX5_isRow wsX5_isRow) := goodIn_app (goodIn_of _ (by decide +kernel)) ggX5_thin_X5_isRow
set_option maxRecDepth 20000 in
theorem ggX5_thin_X5_in : GoodIn wsX5_thin wsX5_in := goodIn_r _ [9] (by decide +kernel) (by decide +kernel)
set_option maxRecDepth 20000 in
theorem gX5_thin_X5_in : GoodIn wsX5_thin (va_wsS RX5 26 yX5_in wsX5_in) := goodIn_app (goodIn_of _ (by decide +kernel)) ggX5_thin_X5_in
set_option maxRecDepth 20000 in
theorem ggX5_thin_X5_records : GoodIn wsX5_thin wsX5_records := goodIn_r _ [13, 14, 15, 1, 19, 20, 21, 22, 23, 24, 25, 26, 27, 28] (by decide +kernel) (by decide +kernel)
set_option maxRecDepth 20000 in
theorem gX5_thin_X5_records : GoodIn wsX5_thin (wsV RX5 53 RX5 yX5_records wsX5_records) := goodIn_app (goodIn_of _ (by decide +kernel)) ggX5_thin_X5_records
set_option maxRecDepth 20000 in
theorem ggX5_thin_X5_lesser : GoodIn wsX5_thin wsX5_lesser := goodIn_r _ [18] (by decide +kernel) (by decide +kernel)
set_option maxRecDepth 20000 in
theorem gX5_thin_X5_lesser : GoodIn wsX5_thin (va_wsS RX5 70 yX5_lesser wsX5_lesser) := goodIn_app (goodIn_of _ (by decide +kernel)) ggX5_thin_X5_lesser
theorem dX5_thin_0 : decode cX5_thin 0 = .ok (.aload_n 0, 1) := by decide +kernel
theorem dX5_thin_1 : decode cX5_thin 1 = .ok (.iload_n 1, 1) := by decide +kernel
theorem dX5_thin_2 : decode cX5_thin 2 = .ok (.invokevirtual 67, 3) := by decide +kernel
theorem dX5_thin_5 : decode cX5_thin 5 = .ok (.ifCond .eq 14, 3) := by decide +kernel
theorem dX5_thin_8 : decode cX5_thin 8 = .ok (.iload_n 2, 1) := by decide +kernel
theorem dX5_thin_9 : decode cX5_thin 9 = .ok (.iconst 1, 1) := by decide +kernel
theorem dX5_thin_10 : decode cX5_thin 10 = .ok (.sipush 5000, 3) := by decide +kernel
theorem dX5_thin_13 : decode cX5_thin 13 = .ok (.invokestatic 26, 3) := by decide +kernel
theorem dX5_thin_16 : decode cX5_thin 16 = .ok (.ifCond .ne 5, 3) := by decide +kernel
theorem dX5_thin_19 : decode cX5_thin 19 = .ok (.iconst (-1), 1) := by decide +kernel
theorem dX5_thin_20 : decode cX5_thin 20 = .ok (.ireturn, 1) := by decide +kernel
theorem dX5_thin_21 : decode cX5_thin 21 = .ok (.aload_n 0, 1) := by decide +kernel
theorem dX5_thin_22 : decode cX5_thin 22 = .ok (.invokevirtual 53, 3) := by decide +kernel
theorem dX5_thin_25 : decode cX5_thin 25 = .ok (.iload_n 2, 1) := by decide +kernel
theorem dX5_thin_26 : decode cX5_thin 26 = .ok (.aload_n 0, 1) := by decide +kernel
theorem dX5_thin_27 : decode cX5_thin 27 = .ok (.getfield 7, 3) := by decide +kernel
theorem dX5_thin_30 : decode cX5_thin 30 = .ok (.bipush 20, 2) := by decide +kernel
theorem dX5_thin_32 : decode cX5_thin 32 = .ok (.iload_n 1, 1) := by decide +kernel
theorem dX5_thin_33 : decode cX5_thin 33 = .ok (.iadd, 1) := by decide +kernel
theorem dX5_thin_34 : decode cX5_thin 34 = .ok (.iaload, 1) := by decide +kernel
theorem dX5_thin_35 : decode cX5_thin 35 = .ok (.invokestatic 70, 3) := by decide +kernel
theorem dX5_thin_38 : decode cX5_thin 38 = .ok (.istore_n 3, 1) := by decide +kernel
theorem dX5_thin_39 : decode cX5_thin 39 = .ok (.aload_n 0, 1) := by decide +kernel
theorem dX5_thin_40 : decode cX5_thin 40 = .ok (.getfield 7, 3) := by decide +kernel
theorem dX5_thin_43 : decode cX5_thin 43 = .ok (.bipush 20, 2) := by decide +kernel
theorem dX5_thin_45 : decode cX5_thin 45 = .ok (.iload_n 1, 1) := by decide +kernel
theorem dX5_thin_46 : decode cX5_thin 46 = .ok (.iadd, 1) := by decide +kernel
theorem dX5_thin_47 : decode cX5_thin 47 = .ok (.dup2, 1) := by decide +kernel
theorem dX5_thin_48 : decode cX5_thin 48 = .ok (.iaload, 1) := by decide +kernel
theorem dX5_thin_49 : decode cX5_thin 49 = .ok (.iload_n 3, 1) := by decide +kernel
theorem dX5_thin_50 : decode cX5_thin 50 = .ok (.isub, 1) := by decide +kernel
theorem dX5_thin_51 : decode cX5_thin 51 = .ok (.iastore, 1) := by decide +kernel
theorem dX5_thin_52 : decode cX5_thin 52 = .ok (.aload_n 0, 1) := by decide +kernel
theorem dX5_thin_53 : decode cX5_thin 53 = .ok (.getfield 7, 3) := by decide +kernel
theorem dX5_thin_56 : decode cX5_thin 56 = .ok (.bipush 7, 2) := by decide +kernel
theorem dX5_thin_58 : decode cX5_thin 58 = .ok (.dup2, 1) := by decide +kernel
theorem dX5_thin_59 : decode cX5_thin 59 = .ok (.iaload, 1) := by decide +kernel
theorem dX5_thin_60 : decode cX5_thin 60 = .ok (.iload_n 3, 1) := by decide +kernel
theorem dX5_thin_61 : decode cX5_thin 61 = .ok (.iadd, 1) := by decide +kernel
theorem dX5_thin_62 : decode cX5_thin 62 = .ok (.iastore, 1) := by decide +kernel
theorem dX5_thin_63 : decode cX5_thin 63 = .ok (.iload_n 3, 1) := by decide +kernel
theorem dX5_thin_64 : decode cX5_thin 64 = .ok (.ireturn, 1) := by decide +kernel
set_option maxRecDepth 20000 in
theorem ggX5_cut_X5_records : GoodIn wsX5_cut wsX5_records := goodIn_r _ [6, 7, 8, 1, 9, 10, 11, 12, 13, 14, 15, 16, 17, 18] (by decide +kernel) (by decide +kernel)
set_option maxRecDepth 20000 in
theorem gX5_cut_X5_records : GoodIn wsX5_cut (wsV RX5 53 RX5 yX5_records wsX5_records) := goodIn_app (goodIn_of _ (by decide +kernel)) ggX5_cut_X5_records
theorem dX5_cut_0 : decode cX5_cut 0 = .ok (.aload_n 0, 1) := by decide +kernel
theorem dX5_cut_1 : decode cX5_cut 1 = .ok (.getfield 7, 3) := by decide +kernel
theorem dX5_cut_4 : decode cX5_cut 4 = .ok (.iconst 0, 1) := by decide +kernel
theorem dX5_cut_5 : decode cX5_cut 5 = .ok (.iaload, 1) := by decide +kernel
theorem dX5_cut_6 : decode cX5_cut 6 = .ok (.iconst 2, 1) := by decide +kernel
theorem dX5_cut_7 : decode cX5_cut 7 = .ok (.if_icmp .ge 6, 3) := by decide +kernel
theorem dX5_cut_10 : decode cX5_cut 10 = .ok (.bipush (-2), 2) := by decide +kernel
theorem dX5_cut_12 : decode cX5_cut 12 = .ok (.ireturn, 1) := by decide +kernel
theorem dX5_cut_13 : decode cX5_cut 13 = .ok (.aload_n 0, 1) := by decide +kernel
theorem dX5_cut_14 : decode cX5_cut 14 = .ok (.invokevirtual 53, 3) := by decide +kernel
theorem dX5_cut_17 : decode cX5_cut 17 = .ok (.aload_n 0, 1) := by decide +kernel
theorem dX5_cut_18 : decode cX5_cut 18 = .ok (.getfield 7, 3) := by decide +kernel
theorem dX5_cut_21 : decode cX5_cut 21 = .ok (.iconst 0, 1) := by decide +kernel
theorem dX5_cut_22 : decode cX5_cut 22 = .ok (.dup2, 1) := by decide +kernel
theorem dX5_cut_23 : decode cX5_cut 23 = .ok (.iaload, 1) := by decide +kernel
theorem dX5_cut_24 : decode cX5_cut 24 = .ok (.iconst 1, 1) := by decide +kernel
theorem dX5_cut_25 : decode cX5_cut 25 = .ok (.isub, 1) := by decide +kernel
theorem dX5_cut_26 : decode cX5_cut 26 = .ok (.iastore, 1) := by decide +kernel
theorem dX5_cut_27 : decode cX5_cut 27 = .ok (.aload_n 0, 1) := by decide +kernel
theorem dX5_cut_28 : decode cX5_cut 28 = .ok (.getfield 7, 3) := by decide +kernel
theorem dX5_cut_31 : decode cX5_cut 31 = .ok (.bipush 7, 2) := by decide +kernel
theorem dX5_cut_33 : decode cX5_cut 33 = .ok (.dup2, 1) := by decide +kernel
theorem dX5_cut_34 : decode cX5_cut 34 = .ok (.iaload, 1) := by decide +kernel
theorem dX5_cut_35 : decode cX5_cut 35 = .ok (.aload_n 0, 1) := by decide +kernel
theorem dX5_cut_36 : decode cX5_cut 36 = .ok (.getfield 7, 3) := by decide +kernel
theorem dX5_cut_39 : decode cX5_cut 39 = .ok (.bipush 20, 2) := by decide +kernel
theorem dX5_cut_41 : decode cX5_cut 41 = .ok (.aload_n 0, 1) := by decide +kernel
theorem dX5_cut_42 : decode cX5_cut 42 = .ok (.getfield 7, 3) := by decide +kernel
theorem dX5_cut_45 : decode cX5_cut 45 = .ok (.iconst 0, 1) := by decide +kernel
theorem dX5_cut_46 : decode cX5_cut 46 = .ok (.iaload, 1) := by decide +kernel
theorem dX5_cut_47 : decode cX5_cut 47 = .ok (.iadd, 1) := by decide +kernel
theorem dX5_cut_48 : decode cX5_cut 48 = .ok (.iaload, 1) := by decide +kernel
theorem dX5_cut_49 : decode cX5_cut 49 = .ok (.iadd, 1) := by decide +kernel
theorem dX5_cut_50 : decode cX5_cut 50 = .ok (.iastore, 1) := by decide +kernel
theorem dX5_cut_51 : decode cX5_cut 51 = .ok (.aload_n 0, 1) := by decide +kernel
theorem dX5_cut_52 : decode cX5_cut 52 = .ok (.getfield 7, 3) := by decide +kernel
theorem dX5_cut_55 : decode cX5_cut 55 = .ok (.bipush 20, 2) := by decide +kernel
theorem dX5_cut_57 : decode cX5_cut 57 = .ok (.aload_n 0, 1) := by decide +kernel
theorem dX5_cut_58 : decode cX5_cut 58 = .ok (.getfield 7, 3) := by decide +kernel
theorem dX5_cut_61 : decode cX5_cut 61 = .ok (.iconst 0, 1) := by decide +kernel
theorem dX5_cut_62 : decode cX5_cut 62 = .ok (.iaload, 1) := by decide +kernel
theorem dX5_cut_63 : decode cX5_cut 63 = .ok (.iadd, 1) := by decide +kernel
theorem dX5_cut_64 : decode cX5_cut 64 = .ok (.iaload, 1) := by decide +kernel
theorem dX5_cut_65 : decode cX5_cut 65 = .ok (.ireturn, 1) := by decide +kernel
set_option maxRecDepth 20000 in
theorem ggX5_gives_X5_lesser : GoodIn wsX5_gives wsX5_lesser := goodIn_r _ [5] (by decide +kernel) (by decide +kernel)
set_option maxRecDepth 20000 in
theorem gX5_gives_X5_lesser : GoodIn wsX5_gives (va_wsS RX5 70 yX5_lesser wsX5_lesser) := goodIn_app (goodIn_of _ (by decide +kernel)) ggX5_gives_X5_lesser
theorem dX5_gives_0 : decode cX5_gives 0 = .ok (.aload_n 0, 1) := by decide +kernel
theorem dX5_gives_1 : decode cX5_gives 1 = .ok (.getfield 7, 3) := by decide +kernel
theorem dX5_gives_4 : decode cX5_gives 4 = .ok (.bipush 20, 2) := by decide +kernel
theorem dX5_gives_6 : decode cX5_gives 6 = .ok (.iload_n 1, 1) := by decide +kernel
theorem dX5_gives_7 : decode cX5_gives 7 = .ok (.iadd, 1) := by decide +kernel
theorem dX5_gives_8 : decode cX5_gives 8 = .ok (.iaload, 1) := by decide +kernel
theorem dX5_gives_9 : decode cX5_gives 9 = .ok (.istore 4, 2) := by decide +kernel
theorem dX5_gives_11 : decode cX5_gives 11 = .ok (.lload_n 2, 1) := by decide +kernel
theorem dX5_gives_12 : decode cX5_gives 12 = .ok (.iload 4, 2) := by decide +kernel
theorem dX5_gives_14 : decode cX5_gives 14 = .ok (.i2l, 1) := by decide +kernel
theorem dX5_gives_15 : decode cX5_gives 15 = .ok (.lcmp, 1) := by decide +kernel
theorem dX5_gives_16 : decode cX5_gives 16 = .ok (.ifCond .ge 8, 3) := by decide +kernel
theorem dX5_gives_19 : decode cX5_gives 19 = .ok (.lload_n 2, 1) := by decide +kernel
theorem dX5_gives_20 : decode cX5_gives 20 = .ok (.l2i, 1) := by decide +kernel
theorem dX5_gives_21 : decode cX5_gives 21 = .ok (.goto 5, 3) := by decide +kernel
theorem dX5_gives_24 : decode cX5_gives 24 = .ok (.iload 4, 2) := by decide +kernel
theorem dX5_gives_26 : decode cX5_gives 26 = .ok (.istore 4, 2) := by decide +kernel
theorem dX5_gives_28 : decode cX5_gives 28 = .ok (.iload_n 1, 1) := by decide +kernel
theorem dX5_gives_29 : decode cX5_gives 29 = .ok (.aload_n 0, 1) := by decide +kernel
theorem dX5_gives_30 : decode cX5_gives 30 = .ok (.getfield 7, 3) := by decide +kernel
theorem dX5_gives_33 : decode cX5_gives 33 = .ok (.iconst 0, 1) := by decide +kernel
theorem dX5_gives_34 : decode cX5_gives 34 = .ok (.iaload, 1) := by decide +kernel
theorem dX5_gives_35 : decode cX5_gives 35 = .ok (.iconst 1, 1) := by decide +kernel
theorem dX5_gives_36 : decode cX5_gives 36 = .ok (.isub, 1) := by decide +kernel
theorem dX5_gives_37 : decode cX5_gives 37 = .ok (.if_icmp .ne 17, 3) := by decide +kernel
theorem dX5_gives_40 : decode cX5_gives 40 = .ok (.aload_n 0, 1) := by decide +kernel
theorem dX5_gives_41 : decode cX5_gives 41 = .ok (.getfield 7, 3) := by decide +kernel
theorem dX5_gives_44 : decode cX5_gives 44 = .ok (.iconst 2, 1) := by decide +kernel
theorem dX5_gives_45 : decode cX5_gives 45 = .ok (.dup2, 1) := by decide +kernel
theorem dX5_gives_46 : decode cX5_gives 46 = .ok (.iaload, 1) := by decide +kernel
theorem dX5_gives_47 : decode cX5_gives 47 = .ok (.iload 4, 2) := by decide +kernel
theorem dX5_gives_49 : decode cX5_gives 49 = .ok (.iadd, 1) := by decide +kernel
theorem dX5_gives_50 : decode cX5_gives 50 = .ok (.iastore, 1) := by decide +kernel
theorem dX5_gives_51 : decode cX5_gives 51 = .ok (.goto 41, 3) := by decide +kernel
theorem dX5_gives_54 : decode cX5_gives 54 = .ok (.iload 4, 2) := by decide +kernel
theorem dX5_gives_56 : decode cX5_gives 56 = .ok (.sipush 5000, 3) := by decide +kernel
theorem dX5_gives_59 : decode cX5_gives 59 = .ok (.aload_n 0, 1) := by decide +kernel
theorem dX5_gives_60 : decode cX5_gives 60 = .ok (.getfield 7, 3) := by decide +kernel
theorem dX5_gives_63 : decode cX5_gives 63 = .ok (.bipush 20, 2) := by decide +kernel
theorem dX5_gives_65 : decode cX5_gives 65 = .ok (.iload_n 1, 1) := by decide +kernel
theorem dX5_gives_66 : decode cX5_gives 66 = .ok (.iadd, 1) := by decide +kernel
theorem dX5_gives_67 : decode cX5_gives 67 = .ok (.iconst 1, 1) := by decide +kernel
theorem dX5_gives_68 : decode cX5_gives 68 = .ok (.iadd, 1) := by decide +kernel
theorem dX5_gives_69 : decode cX5_gives 69 = .ok (.iaload, 1) := by decide +kernel
theorem dX5_gives_70 : decode cX5_gives 70 = .ok (.isub, 1) := by decide +kernel
theorem dX5_gives_71 : decode cX5_gives 71 = .ok (.invokestatic 70, 3) := by decide +kernel
theorem dX5_gives_74 : decode cX5_gives 74 = .ok (.istore 4, 2) := by decide +kernel
theorem dX5_gives_76 : decode cX5_gives 76 = .ok (.aload_n 0, 1) := by decide +kernel
theorem dX5_gives_77 : decode cX5_gives 77 = .ok (.getfield 7, 3) := by decide +kernel
theorem dX5_gives_80 : decode cX5_gives 80 = .ok (.bipush 20, 2) := by decide +kernel
theorem dX5_gives_82 : decode cX5_gives 82 = .ok (.iload_n 1, 1) := by decide +kernel
theorem dX5_gives_83 : decode cX5_gives 83 = .ok (.iadd, 1) := by decide +kernel
theorem dX5_gives_84 : decode cX5_gives 84 = .ok (.iconst 1, 1) := by decide +kernel
theorem dX5_gives_85 : decode cX5_gives 85 = .ok (.iadd, 1) := by decide +kernel
theorem dX5_gives_86 : decode cX5_gives 86 = .ok (.dup2, 1) := by decide +kernel
theorem dX5_gives_87 : decode cX5_gives 87 = .ok (.iaload, 1) := by decide +kernel
theorem dX5_gives_88 : decode cX5_gives 88 = .ok (.iload 4, 2) := by decide +kernel
theorem dX5_gives_90 : decode cX5_gives 90 = .ok (.iadd, 1) := by decide +kernel
theorem dX5_gives_91 : decode cX5_gives 91 = .ok (.iastore, 1) := by decide +kernel
theorem dX5_gives_92 : decode cX5_gives 92 = .ok (.aload_n 0, 1) := by decide +kernel
theorem dX5_gives_93 : decode cX5_gives 93 = .ok (.getfield 7, 3) := by decide +kernel
theorem dX5_gives_96 : decode cX5_gives 96 = .ok (.bipush 20, 2) := by decide +kernel
theorem dX5_gives_98 : decode cX5_gives 98 = .ok (.iload_n 1, 1) := by decide +kernel
theorem dX5_gives_99 : decode cX5_gives 99 = .ok (.iadd, 1) := by decide +kernel
theorem dX5_gives_100 : decode cX5_gives 100 = .ok (.dup2, 1) := by decide +kernel
theorem dX5_gives_101 : decode cX5_gives 101 = .ok (.iaload, 1) := by decide +kernel
theorem dX5_gives_102 : decode cX5_gives 102 = .ok (.iload 4, 2) := by decide +kernel
theorem dX5_gives_104 : decode cX5_gives 104 = .ok (.isub, 1) := by decide +kernel
theorem dX5_gives_105 : decode cX5_gives 105 = .ok (.iastore, 1) := by decide +kernel
theorem dX5_gives_106 : decode cX5_gives 106 = .ok (.return_, 1) := by decide +kernel
set_option maxRecDepth 20000 in
theorem ggX5_blackOnes_X5_isBlack : GoodIn wsX5_blackOnes wsX5_isBlack := goodIn_r _ [6, 7, 8, 9, 5, 10, 1, 11, 12, 13, 14, 15, 16, 17, 18, 19, 20] (by decide +kernel) (by decide +kernel)
set_option maxRecDepth 20000 in
theorem gX5_blackOnes_X5_isBlack : GoodIn wsX5_blackOnes (wsV RX5 37 RX5 yX5_isBlack wsX5_isBlack) := goodIn_app (goodIn_of _ (by decide +kernel)) ggX5_blackOnes_X5_isBlack
theorem dX5_blackOnes_0 : decode cX5_blackOnes 0 = .ok (.iconst 0, 1) := by decide +kernel
theorem dX5_blackOnes_1 : decode cX5_blackOnes 1 = .ok (.istore_n 1, 1) := by decide +kernel
theorem dX5_blackOnes_2 : decode cX5_blackOnes 2 = .ok (.iconst 0, 1) := by decide +kernel
theorem dX5_blackOnes_3 : decode cX5_blackOnes 3 = .ok (.istore_n 2, 1) := by decide +kernel
theorem dX5_blackOnes_4 : decode cX5_blackOnes 4 = .ok (.iload_n 2, 1) := by decide +kernel
theorem dX5_blackOnes_5 : decode cX5_blackOnes 5 = .ok (.aload_n 0, 1) := by decide +kernel
theorem dX5_blackOnes_6 : decode cX5_blackOnes 6 = .ok (.getfield 7, 3) := by decide +kernel
theorem dX5_blackOnes_9 : decode cX5_blackOnes 9 = .ok (.iconst 0, 1) := by decide +kernel
theorem dX5_blackOnes_10 : decode cX5_blackOnes 10 = .ok (.iaload, 1) := by decide +kernel
theorem dX5_blackOnes_11 : decode cX5_blackOnes 11 = .ok (.if_icmp .ge 35, 3) := by decide +kernel
theorem dX5_blackOnes_14 : decode cX5_blackOnes 14 = .ok (.iload_n 1, 1) := by decide +kernel
theorem dX5_blackOnes_15 : decode cX5_blackOnes 15 = .ok (.aload_n 0, 1) := by decide +kernel
theorem dX5_blackOnes_16 : decode cX5_blackOnes 16 = .ok (.aload_n 0, 1) := by decide +kernel
theorem dX5_blackOnes_17 : decode cX5_blackOnes 17 = .ok (.getfield 7, 3) := by decide +kernel
theorem dX5_blackOnes_20 : decode cX5_blackOnes 20 = .ok (.bipush 20, 2) := by decide +kernel
theorem dX5_blackOnes_22 : decode cX5_blackOnes 22 = .ok (.iload_n 2, 1) := by decide +kernel
theorem dX5_blackOnes_23 : decode cX5_blackOnes 23 = .ok (.iadd, 1) := by decide +kernel
theorem dX5_blackOnes_24 : decode cX5_blackOnes 24 = .ok (.iaload, 1) := by decide +kernel
theorem dX5_blackOnes_25 : decode cX5_blackOnes 25 = .ok (.invokevirtual 37, 3) := by decide +kernel
theorem dX5_blackOnes_28 : decode cX5_blackOnes 28 = .ok (.ifCond .eq 9, 3) := by decide +kernel
theorem dX5_blackOnes_31 : decode cX5_blackOnes 31 = .ok (.iconst 1, 1) := by decide +kernel
theorem dX5_blackOnes_32 : decode cX5_blackOnes 32 = .ok (.iload_n 2, 1) := by decide +kernel
theorem dX5_blackOnes_33 : decode cX5_blackOnes 33 = .ok (.ishl, 1) := by decide +kernel
theorem dX5_blackOnes_34 : decode cX5_blackOnes 34 = .ok (.goto 4, 3) := by decide +kernel
theorem dX5_blackOnes_37 : decode cX5_blackOnes 37 = .ok (.iconst 0, 1) := by decide +kernel
theorem dX5_blackOnes_38 : decode cX5_blackOnes 38 = .ok (.ior, 1) := by decide +kernel
theorem dX5_blackOnes_39 : decode cX5_blackOnes 39 = .ok (.istore_n 1, 1) := by decide +kernel
theorem dX5_blackOnes_40 : decode cX5_blackOnes 40 = .ok (.iinc 2 1, 3) := by decide +kernel
theorem dX5_blackOnes_43 : decode cX5_blackOnes 43 = .ok (.goto (-39), 3) := by decide +kernel
theorem dX5_blackOnes_46 : decode cX5_blackOnes 46 = .ok (.iload_n 1, 1) := by decide +kernel
theorem dX5_blackOnes_47 : decode cX5_blackOnes 47 = .ok (.ireturn, 1) := by decide +kernel
theorem dX5_bits_0 : decode cX5_bits 0 = .ok (.iconst 0, 1) := by decide +kernel
theorem dX5_bits_1 : decode cX5_bits 1 = .ok (.istore_n 1, 1) := by decide +kernel
theorem dX5_bits_2 : decode cX5_bits 2 = .ok (.iload_n 0, 1) := by decide +kernel
theorem dX5_bits_3 : decode cX5_bits 3 = .ok (.istore_n 2, 1) := by decide +kernel
theorem dX5_bits_4 : decode cX5_bits 4 = .ok (.iload_n 2, 1) := by decide +kernel
theorem dX5_bits_5 : decode cX5_bits 5 = .ok (.ifCond .eq 15, 3) := by decide +kernel
theorem dX5_bits_8 : decode cX5_bits 8 = .ok (.iinc 1 1, 3) := by decide +kernel
theorem dX5_bits_11 : decode cX5_bits 11 = .ok (.iload_n 2, 1) := by decide +kernel
theorem dX5_bits_12 : decode cX5_bits 12 = .ok (.iload_n 2, 1) := by decide +kernel
theorem dX5_bits_13 : decode cX5_bits 13 = .ok (.iconst 1, 1) := by decide +kernel
theorem dX5_bits_14 : decode cX5_bits 14 = .ok (.isub, 1) := by decide +kernel
theorem dX5_bits_15 : decode cX5_bits 15 = .ok (.iand, 1) := by decide +kernel
theorem dX5_bits_16 : decode cX5_bits 16 = .ok (.istore_n 2, 1) := by decide +kernel
theorem dX5_bits_17 : decode cX5_bits 17 = .ok (.goto (-13), 3) := by decide +kernel
theorem dX5_bits_20 : decode cX5_bits 20 = .ok (.iload_n 1, 1) := by decide +kernel
theorem dX5_bits_21 : decode cX5_bits 21 = .ok (.ireturn, 1) := by decide +kernel
set_option maxRecDepth 20000 in
theorem ggX5_bursts_X5_liquid : GoodIn wsX5_bursts wsX5_liquid := goodIn_r _ [6, 1, 7, 8, 9, 10, 11, 12, 13, 14, 15, 16] (by decide +kernel) (by decide +kernel)
set_option maxRecDepth 20000 in
theorem gX5_bursts_X5_liquid : GoodIn wsX5_bursts (wsV RX5 56 RX5 yX5_liquid wsX5_liquid) := goodIn_app (goodIn_of _ (by decide +kernel)) ggX5_bursts_X5_liquid
theorem dX5_bursts_0 : decode cX5_bursts 0 = .ok (.aload_n 0, 1) := by decide +kernel
theorem dX5_bursts_1 : decode cX5_bursts 1 = .ok (.getfield 7, 3) := by decide +kernel
theorem dX5_bursts_4 : decode cX5_bursts 4 = .ok (.bipush 10, 2) := by decide +kernel
theorem dX5_bursts_6 : decode cX5_bursts 6 = .ok (.iload_n 1, 1) := by decide +kernel
theorem dX5_bursts_7 : decode cX5_bursts 7 = .ok (.iastore, 1) := by decide +kernel
theorem dX5_bursts_8 : decode cX5_bursts 8 = .ok (.aload_n 0, 1) := by decide +kernel
theorem dX5_bursts_9 : decode cX5_bursts 9 = .ok (.getfield 7, 3) := by decide +kernel
theorem dX5_bursts_12 : decode cX5_bursts 12 = .ok (.bipush 11, 2) := by decide +kernel
theorem dX5_bursts_14 : decode cX5_bursts 14 = .ok (.iload_n 2, 1) := by decide +kernel
theorem dX5_bursts_15 : decode cX5_bursts 15 = .ok (.iastore, 1) := by decide +kernel
theorem dX5_bursts_16 : decode cX5_bursts 16 = .ok (.aload_n 0, 1) := by decide +kernel
theorem dX5_bursts_17 : decode cX5_bursts 17 = .ok (.getfield 7, 3) := by decide +kernel
theorem dX5_bursts_20 : decode cX5_bursts 20 = .ok (.bipush 12, 2) := by decide +kernel
theorem dX5_bursts_22 : decode cX5_bursts 22 = .ok (.aload_n 0, 1) := by decide +kernel
theorem dX5_bursts_23 : decode cX5_bursts 23 = .ok (.getfield 7, 3) := by decide +kernel
theorem dX5_bursts_26 : decode cX5_bursts 26 = .ok (.iconst 1, 1) := by decide +kernel
theorem dX5_bursts_27 : decode cX5_bursts 27 = .ok (.iaload, 1) := by decide +kernel
theorem dX5_bursts_28 : decode cX5_bursts 28 = .ok (.iastore, 1) := by decide +kernel
theorem dX5_bursts_29 : decode cX5_bursts 29 = .ok (.aload_n 0, 1) := by decide +kernel
theorem dX5_bursts_30 : decode cX5_bursts 30 = .ok (.getfield 7, 3) := by decide +kernel
theorem dX5_bursts_33 : decode cX5_bursts 33 = .ok (.bipush 8, 2) := by decide +kernel
theorem dX5_bursts_35 : decode cX5_bursts 35 = .ok (.dup2, 1) := by decide +kernel
theorem dX5_bursts_36 : decode cX5_bursts 36 = .ok (.iaload, 1) := by decide +kernel
theorem dX5_bursts_37 : decode cX5_bursts 37 = .ok (.iconst 1, 1) := by decide +kernel
theorem dX5_bursts_38 : decode cX5_bursts 38 = .ok (.iadd, 1) := by decide +kernel
theorem dX5_bursts_39 : decode cX5_bursts 39 = .ok (.iastore, 1) := by decide +kernel
theorem dX5_bursts_40 : decode cX5_bursts 40 = .ok (.aload_n 0, 1) := by decide +kernel
theorem dX5_bursts_41 : decode cX5_bursts 41 = .ok (.getfield 7, 3) := by decide +kernel
theorem dX5_bursts_44 : decode cX5_bursts 44 = .ok (.bipush 6, 2) := by decide +kernel
theorem dX5_bursts_46 : decode cX5_bursts 46 = .ok (.dup2, 1) := by decide +kernel
theorem dX5_bursts_47 : decode cX5_bursts 47 = .ok (.iaload, 1) := by decide +kernel
theorem dX5_bursts_48 : decode cX5_bursts 48 = .ok (.aload_n 0, 1) := by decide +kernel
theorem dX5_bursts_49 : decode cX5_bursts 49 = .ok (.invokevirtual 56, 3) := by decide +kernel
theorem dX5_bursts_52 : decode cX5_bursts 52 = .ok (.iadd, 1) := by decide +kernel
theorem dX5_bursts_53 : decode cX5_bursts 53 = .ok (.iastore, 1) := by decide +kernel
theorem dX5_bursts_54 : decode cX5_bursts 54 = .ok (.aload_n 0, 1) := by decide +kernel
theorem dX5_bursts_55 : decode cX5_bursts 55 = .ok (.getfield 7, 3) := by decide +kernel
theorem dX5_bursts_58 : decode cX5_bursts 58 = .ok (.iconst 0, 1) := by decide +kernel
theorem dX5_bursts_59 : decode cX5_bursts 59 = .ok (.iconst 0, 1) := by decide +kernel
theorem dX5_bursts_60 : decode cX5_bursts 60 = .ok (.iastore, 1) := by decide +kernel
theorem dX5_bursts_61 : decode cX5_bursts 61 = .ok (.return_, 1) := by decide +kernel
set_option maxRecDepth 20000 in
theorem ggX5_mayBurst_X5_of : GoodIn wsX5_mayBurst wsX5_of := goodIn_r _ [6, 1, 26, 27, 28, 29, 30, 31, 32, 33, 34, 35] (by decide +kernel) (by decide +kernel)
set_option maxRecDepth 20000 in
theorem gX5_mayBurst_X5_of : GoodIn wsX5_mayBurst (wsV RX5 34 RX5 yX5_of wsX5_of) := goodIn_app (goodIn_of _ (by decide +kernel)) ggX5_mayBurst_X5_of
set_option maxRecDepth 20000 in
theorem ggX5_mayBurst_X5_bursts : GoodIn wsX5_mayBurst wsX5_bursts := goodIn_r _ [10, 1, 11, 12, 13, 5, 14, 26, 27, 28, 29, 30, 31, 32, 33, 34, 35] (by decide +kernel) (by decide +kernel)
set_option maxRecDepth 20000 in
theorem gX5_mayBurst_X5_bursts : GoodIn wsX5_mayBurst (wsV RX5 73 RX5 yX5_bursts wsX5_bursts) := goodIn_app (goodIn_of _ (by decide +kernel)) ggX5_mayBurst_X5_bursts
set_option maxRecDepth 20000 in
theorem ggX5_mayBurst_X5_blackOnes : GoodIn wsX5_mayBurst wsX5_blackOnes := goodIn_r _ [18, 1, 19, 20, 21, 5, 22, 2, 3, 4, 6, 26, 27, 28, 29, 30, 31, 32, 33, 34, 35] (by decide +kernel) (by decide +kernel)
set_option maxRecDepth 20000 in
theorem gX5_mayBurst_X5_blackOnes : GoodIn wsX5_mayBurst (wsV RX5 77 RX5 yX5_blackOnes wsX5_blackOnes) := goodIn_app (goodIn_of _ (by decide +kernel)) ggX5_mayBurst_X5_blackOnes
set_option maxRecDepth 20000 in
theorem ggX5_mayBurst_X5_bits : GoodIn wsX5_mayBurst wsX5_bits := goodIn_r _ [25] (by decide +kernel) (by decide +kernel)
set_option maxRecDepth 20000 in
theorem gX5_mayBurst_X5_bits : GoodIn wsX5_mayBurst (va_wsS RX5 80 yX5_bits wsX5_bits) := goodIn_app (goodIn_of _ (by decide +kernel)) ggX5_mayBurst_X5_bits
theorem dX5_mayBurst_0 : decode cX5_mayBurst 0 = .ok (.iconst 0, 1) := by decide +kernel
theorem dX5_mayBurst_1 : decode cX5_mayBurst 1 = .ok (.istore_n 1, 1) := by decide +kernel
theorem dX5_mayBurst_2 : decode cX5_mayBurst 2 = .ok (.iload_n 1, 1) := by decide +kernel
theorem dX5_mayBurst_3 : decode cX5_mayBurst 3 = .ok (.aload_n 0, 1) := by decide +kernel
theorem dX5_mayBurst_4 : decode cX5_mayBurst 4 = .ok (.getfield 7, 3) := by decide +kernel
theorem dX5_mayBurst_7 : decode cX5_mayBurst 7 = .ok (.iconst 0, 1) := by decide +kernel
theorem dX5_mayBurst_8 : decode cX5_mayBurst 8 = .ok (.iaload, 1) := by decide +kernel
theorem dX5_mayBurst_9 : decode cX5_mayBurst 9 = .ok (.if_icmp .ge 33, 3) := by decide +kernel
theorem dX5_mayBurst_12 : decode cX5_mayBurst 12 = .ok (.aload_n 0, 1) := by decide +kernel
theorem dX5_mayBurst_13 : decode cX5_mayBurst 13 = .ok (.getfield 7, 3) := by decide +kernel
theorem dX5_mayBurst_16 : decode cX5_mayBurst 16 = .ok (.bipush 20, 2) := by decide +kernel
theorem dX5_mayBurst_18 : decode cX5_mayBurst 18 = .ok (.iload_n 1, 1) := by decide +kernel
theorem dX5_mayBurst_19 : decode cX5_mayBurst 19 = .ok (.iadd, 1) := by decide +kernel
theorem dX5_mayBurst_20 : decode cX5_mayBurst 20 = .ok (.iaload, 1) := by decide +kernel
theorem dX5_mayBurst_21 : decode cX5_mayBurst 21 = .ok (.aload_n 0, 1) := by decide +kernel
theorem dX5_mayBurst_22 : decode cX5_mayBurst 22 = .ok (.iconst 4, 1) := by decide +kernel
theorem dX5_mayBurst_23 : decode cX5_mayBurst 23 = .ok (.invokevirtual 34, 3) := by decide +kernel
theorem dX5_mayBurst_26 : decode cX5_mayBurst 26 = .ok (.if_icmp .ge 10, 3) := by decide +kernel
theorem dX5_mayBurst_29 : decode cX5_mayBurst 29 = .ok (.aload_n 0, 1) := by decide +kernel
theorem dX5_mayBurst_30 : decode cX5_mayBurst 30 = .ok (.iconst 1, 1) := by decide +kernel
theorem dX5_mayBurst_31 : decode cX5_mayBurst 31 = .ok (.iload_n 1, 1) := by decide +kernel
theorem dX5_mayBurst_32 : decode cX5_mayBurst 32 = .ok (.invokevirtual 73, 3) := by decide +kernel
theorem dX5_mayBurst_35 : decode cX5_mayBurst 35 = .ok (.return_, 1) := by decide +kernel
theorem dX5_mayBurst_36 : decode cX5_mayBurst 36 = .ok (.iinc 1 1, 3) := by decide +kernel
theorem dX5_mayBurst_39 : decode cX5_mayBurst 39 = .ok (.goto (-37), 3) := by decide +kernel
theorem dX5_mayBurst_42 : decode cX5_mayBurst 42 = .ok (.aload_n 0, 1) := by decide +kernel
theorem dX5_mayBurst_43 : decode cX5_mayBurst 43 = .ok (.invokevirtual 77, 3) := by decide +kernel
theorem dX5_mayBurst_46 : decode cX5_mayBurst 46 = .ok (.invokestatic 80, 3) := by decide +kernel
theorem dX5_mayBurst_49 : decode cX5_mayBurst 49 = .ok (.istore_n 1, 1) := by decide +kernel
theorem dX5_mayBurst_50 : decode cX5_mayBurst 50 = .ok (.iload_n 1, 1) := by decide +kernel
theorem dX5_mayBurst_51 : decode cX5_mayBurst 51 = .ok (.aload_n 0, 1) := by decide +kernel
theorem dX5_mayBurst_52 : decode cX5_mayBurst 52 = .ok (.iconst 5, 1) := by decide +kernel
theorem dX5_mayBurst_53 : decode cX5_mayBurst 53 = .ok (.invokevirtual 34, 3) := by decide +kernel
theorem dX5_mayBurst_56 : decode cX5_mayBurst 56 = .ok (.if_icmp .le 9, 3) := by decide +kernel
theorem dX5_mayBurst_59 : decode cX5_mayBurst 59 = .ok (.aload_n 0, 1) := by decide +kernel
theorem dX5_mayBurst_60 : decode cX5_mayBurst 60 = .ok (.iconst 2, 1) := by decide +kernel
theorem dX5_mayBurst_61 : decode cX5_mayBurst 61 = .ok (.iload_n 1, 1) := by decide +kernel
theorem dX5_mayBurst_62 : decode cX5_mayBurst 62 = .ok (.invokevirtual 73, 3) := by decide +kernel
theorem dX5_mayBurst_65 : decode cX5_mayBurst 65 = .ok (.return_, 1) := by decide +kernel
set_option maxRecDepth 20000 in
theorem ggX5_changesFilm_X5_of : GoodIn wsX5_changesFilm wsX5_of := goodIn_r _ [7, 1, 38, 39, 40, 41, 42, 43, 44, 45, 46, 47] (by decide +kernel) (by decide +kernel)
set_option maxRecDepth 20000 in
theorem gX5_changesFilm_X5_of : GoodIn wsX5_changesFilm (wsV RX5 34 RX5 yX5_of wsX5_of) := goodIn_app (goodIn_of _ (by decide +kernel)) ggX5_changesFilm_X5_of
set_option maxRecDepth 20000 in
theorem ggX5_changesFilm_X5_gives : GoodIn wsX5_changesFilm wsX5_gives := goodIn_r _ [11, 1, 12, 13, 6, 14, 38, 39, 40, 41, 42, 43, 44, 45, 46, 47] (by decide +kernel) (by decide +kernel)
set_option maxRecDepth 20000 in
theorem gX5_changesFilm_X5_gives : GoodIn wsX5_changesFilm (wsV RX5 85 RX5 yX5_gives wsX5_gives) := goodIn_app (goodIn_of _ (by decide +kernel)) ggX5_changesFilm_X5_gives
set_option maxRecDepth 20000 in
theorem ggX5_changesFilm_X5_blackOnes : GoodIn wsX5_changesFilm wsX5_blackOnes := goodIn_r _ [18, 1, 19, 20, 21, 6, 22, 3, 4, 5, 7, 38, 39, 40, 41, 42, 43, 44, 45, 46, 47] (by decide +kernel) (by decide +kernel)
set_option maxRecDepth 20000 in
theorem gX5_changesFilm_X5_blackOnes : GoodIn wsX5_changesFilm (wsV RX5 77 RX5 yX5_blackOnes wsX5_blackOnes) := goodIn_app (goodIn_of _ (by decide +kernel)) ggX5_changesFilm_X5_blackOnes
set_option maxRecDepth 20000 in
theorem ggX5_changesFilm_X5_lesser : GoodIn wsX5_changesFilm wsX5_lesser := goodIn_r _ [14] (by decide +kernel) (by decide +kernel)
set_option maxRecDepth 20000 in
theorem gX5_changesFilm_X5_lesser : GoodIn wsX5_changesFilm (va_wsS RX5 70 yX5_lesser wsX5_lesser) := goodIn_app (goodIn_of _ (by decide +kernel)) ggX5_changesFilm_X5_lesser
set_option maxRecDepth 20000 in
theorem ggX5_changesFilm_X5_mayBurst : GoodIn wsX5_changesFilm wsX5_mayBurst := goodIn_r _ [26, 1, 3, 4, 5, 6, 7, 27, 28, 29, 30, 31, 32, 33, 34, 15, 16, 17, 18, 19, 20, 21, 22, 35, 36, 37, 38, 39, 40, 41, 42, 43, 44, 45, 46, 47] (by decide +kernel) (by decide +kernel)
set_option maxRecDepth 20000 in
theorem gX5_changesFilm_X5_mayBurst : GoodIn wsX5_changesFilm (wsV RX5 89 RX5 yX5_mayBurst wsX5_mayBurst) := goodIn_app (goodIn_of _ (by decide +kernel)) ggX5_changesFilm_X5_mayBurst
theorem dX5_changesFilm_0 : decode cX5_changesFilm 0 = .ok (.aload_n 0, 1) := by decide +kernel
theorem dX5_changesFilm_1 : decode cX5_changesFilm 1 = .ok (.getfield 7, 3) := by decide +kernel
theorem dX5_changesFilm_4 : decode cX5_changesFilm 4 = .ok (.iconst 0, 1) := by decide +kernel
theorem dX5_changesFilm_5 : decode cX5_changesFilm 5 = .ok (.iaload, 1) := by decide +kernel
theorem dX5_changesFilm_6 : decode cX5_changesFilm 6 = .ok (.iconst 1, 1) := by decide +kernel
theorem dX5_changesFilm_7 : decode cX5_changesFilm 7 = .ok (.isub, 1) := by decide +kernel
theorem dX5_changesFilm_8 : decode cX5_changesFilm 8 = .ok (.istore_n 1, 1) := by decide +kernel
theorem dX5_changesFilm_9 : decode cX5_changesFilm 9 = .ok (.iload_n 1, 1) := by decide +kernel
theorem dX5_changesFilm_10 : decode cX5_changesFilm 10 = .ok (.ifCond .lt 39, 3) := by decide +kernel
theorem dX5_changesFilm_13 : decode cX5_changesFilm 13 = .ok (.aload_n 0, 1) := by decide +kernel
theorem dX5_changesFilm_14 : decode cX5_changesFilm 14 = .ok (.getfield 7, 3) := by decide +kernel
theorem dX5_changesFilm_17 : decode cX5_changesFilm 17 = .ok (.bipush 20, 2) := by decide +kernel
theorem dX5_changesFilm_19 : decode cX5_changesFilm 19 = .ok (.iload_n 1, 1) := by decide +kernel
theorem dX5_changesFilm_20 : decode cX5_changesFilm 20 = .ok (.iadd, 1) := by decide +kernel
theorem dX5_changesFilm_21 : decode cX5_changesFilm 21 = .ok (.iaload, 1) := by decide +kernel
theorem dX5_changesFilm_22 : decode cX5_changesFilm 22 = .ok (.i2l, 1) := by decide +kernel
theorem dX5_changesFilm_23 : decode cX5_changesFilm 23 = .ok (.lstore_n 2, 1) := by decide +kernel
theorem dX5_changesFilm_24 : decode cX5_changesFilm 24 = .ok (.aload_n 0, 1) := by decide +kernel
theorem dX5_changesFilm_25 : decode cX5_changesFilm 25 = .ok (.iload_n 1, 1) := by decide +kernel
theorem dX5_changesFilm_26 : decode cX5_changesFilm 26 = .ok (.lload_n 2, 1) := by decide +kernel
theorem dX5_changesFilm_27 : decode cX5_changesFilm 27 = .ok (.lload_n 2, 1) := by decide +kernel
theorem dX5_changesFilm_28 : decode cX5_changesFilm 28 = .ok (.lmul, 1) := by decide +kernel
theorem dX5_changesFilm_29 : decode cX5_changesFilm 29 = .ok (.aload_n 0, 1) := by decide +kernel
theorem dX5_changesFilm_30 : decode cX5_changesFilm 30 = .ok (.iconst 0, 1) := by decide +kernel
theorem dX5_changesFilm_31 : decode cX5_changesFilm 31 = .ok (.invokevirtual 34, 3) := by decide +kernel
theorem dX5_changesFilm_34 : decode cX5_changesFilm 34 = .ok (.i2l, 1) := by decide +kernel
theorem dX5_changesFilm_35 : decode cX5_changesFilm 35 = .ok (.lmul, 1) := by decide +kernel
theorem dX5_changesFilm_36 : decode cX5_changesFilm 36 = .ok (.ldc2_w 83, 3) := by decide +kernel
theorem dX5_changesFilm_39 : decode cX5_changesFilm 39 = .ok (.ldiv, 1) := by decide +kernel
theorem dX5_changesFilm_40 : decode cX5_changesFilm 40 = .ok (.invokevirtual 85, 3) := by decide +kernel
theorem dX5_changesFilm_43 : decode cX5_changesFilm 43 = .ok (.iinc 1 (-1), 3) := by decide +kernel
theorem dX5_changesFilm_46 : decode cX5_changesFilm 46 = .ok (.goto (-37), 3) := by decide +kernel
theorem dX5_changesFilm_49 : decode cX5_changesFilm 49 = .ok (.aload_n 0, 1) := by decide +kernel
theorem dX5_changesFilm_50 : decode cX5_changesFilm 50 = .ok (.invokevirtual 77, 3) := by decide +kernel
theorem dX5_changesFilm_53 : decode cX5_changesFilm 53 = .ok (.istore_n 1, 1) := by decide +kernel
theorem dX5_changesFilm_54 : decode cX5_changesFilm 54 = .ok (.iconst 1, 1) := by decide +kernel
theorem dX5_changesFilm_55 : decode cX5_changesFilm 55 = .ok (.istore_n 2, 1) := by decide +kernel
theorem dX5_changesFilm_56 : decode cX5_changesFilm 56 = .ok (.iload_n 2, 1) := by decide +kernel
theorem dX5_changesFilm_57 : decode cX5_changesFilm 57 = .ok (.aload_n 0, 1) := by decide +kernel
theorem dX5_changesFilm_58 : decode cX5_changesFilm 58 = .ok (.getfield 7, 3) := by decide +kernel
theorem dX5_changesFilm_61 : decode cX5_changesFilm 61 = .ok (.iconst 0, 1) := by decide +kernel
theorem dX5_changesFilm_62 : decode cX5_changesFilm 62 = .ok (.iaload, 1) := by decide +kernel
theorem dX5_changesFilm_63 : decode cX5_changesFilm 63 = .ok (.if_icmp .ge 39, 3) := by decide +kernel
theorem dX5_changesFilm_66 : decode cX5_changesFilm 66 = .ok (.iload_n 1, 1) := by decide +kernel
theorem dX5_changesFilm_67 : decode cX5_changesFilm 67 = .ok (.iload_n 2, 1) := by decide +kernel
theorem dX5_changesFilm_68 : decode cX5_changesFilm 68 = .ok (.ishr, 1) := by decide +kernel
theorem dX5_changesFilm_69 : decode cX5_changesFilm 69 = .ok (.iconst 1, 1) := by decide +kernel
theorem dX5_changesFilm_70 : decode cX5_changesFilm 70 = .ok (.iand, 1) := by decide +kernel
theorem dX5_changesFilm_71 : decode cX5_changesFilm 71 = .ok (.ifCond .ne 25, 3) := by decide +kernel
theorem dX5_changesFilm_74 : decode cX5_changesFilm 74 = .ok (.iload_n 1, 1) := by decide +kernel
theorem dX5_changesFilm_75 : decode cX5_changesFilm 75 = .ok (.iload_n 2, 1) := by decide +kernel
theorem dX5_changesFilm_76 : decode cX5_changesFilm 76 = .ok (.iconst 1, 1) := by decide +kernel
theorem dX5_changesFilm_77 : decode cX5_changesFilm 77 = .ok (.isub, 1) := by decide +kernel
theorem dX5_changesFilm_78 : decode cX5_changesFilm 78 = .ok (.ishr, 1) := by decide +kernel
theorem dX5_changesFilm_79 : decode cX5_changesFilm 79 = .ok (.iconst 1, 1) := by decide +kernel
theorem dX5_changesFilm_80 : decode cX5_changesFilm 80 = .ok (.iand, 1) := by decide +kernel
theorem dX5_changesFilm_81 : decode cX5_changesFilm 81 = .ok (.iconst 1, 1) := by decide +kernel
theorem dX5_changesFilm_82 : decode cX5_changesFilm 82 = .ok (.if_icmp .ne 14, 3) := by decide +kernel
theorem dX5_changesFilm_85 : decode cX5_changesFilm 85 = .ok (.aload_n 0, 1) := by decide +kernel
theorem dX5_changesFilm_86 : decode cX5_changesFilm 86 = .ok (.iload_n 2, 1) := by decide +kernel
theorem dX5_changesFilm_87 : decode cX5_changesFilm 87 = .ok (.aload_n 0, 1) := by decide +kernel
theorem dX5_changesFilm_88 : decode cX5_changesFilm 88 = .ok (.iconst 2, 1) := by decide +kernel
theorem dX5_changesFilm_89 : decode cX5_changesFilm 89 = .ok (.invokevirtual 34, 3) := by decide +kernel
theorem dX5_changesFilm_92 : decode cX5_changesFilm 92 = .ok (.i2l, 1) := by decide +kernel
theorem dX5_changesFilm_93 : decode cX5_changesFilm 93 = .ok (.invokevirtual 85, 3) := by decide +kernel
theorem dX5_changesFilm_96 : decode cX5_changesFilm 96 = .ok (.iinc 2 1, 3) := by decide +kernel
theorem dX5_changesFilm_99 : decode cX5_changesFilm 99 = .ok (.goto (-43), 3) := by decide +kernel
theorem dX5_changesFilm_102 : decode cX5_changesFilm 102 = .ok (.iconst 0, 1) := by decide +kernel
theorem dX5_changesFilm_103 : decode cX5_changesFilm 103 = .ok (.istore_n 2, 1) := by decide +kernel
theorem dX5_changesFilm_104 : decode cX5_changesFilm 104 = .ok (.iload_n 2, 1) := by decide +kernel
theorem dX5_changesFilm_105 : decode cX5_changesFilm 105 = .ok (.aload_n 0, 1) := by decide +kernel
theorem dX5_changesFilm_106 : decode cX5_changesFilm 106 = .ok (.getfield 7, 3) := by decide +kernel
theorem dX5_changesFilm_109 : decode cX5_changesFilm 109 = .ok (.iconst 0, 1) := by decide +kernel
theorem dX5_changesFilm_110 : decode cX5_changesFilm 110 = .ok (.iaload, 1) := by decide +kernel
theorem dX5_changesFilm_111 : decode cX5_changesFilm 111 = .ok (.if_icmp .ge 50, 3) := by decide +kernel
theorem dX5_changesFilm_114 : decode cX5_changesFilm 114 = .ok (.aload_n 0, 1) := by decide +kernel
theorem dX5_changesFilm_115 : decode cX5_changesFilm 115 = .ok (.iconst 1, 1) := by decide +kernel
theorem dX5_changesFilm_116 : decode cX5_changesFilm 116 = .ok (.invokevirtual 34, 3) := by decide +kernel
theorem dX5_changesFilm_119 : decode cX5_changesFilm 119 = .ok (.aload_n 0, 1) := by decide +kernel
theorem dX5_changesFilm_120 : decode cX5_changesFilm 120 = .ok (.getfield 7, 3) := by decide +kernel
theorem dX5_changesFilm_123 : decode cX5_changesFilm 123 = .ok (.bipush 20, 2) := by decide +kernel
theorem dX5_changesFilm_125 : decode cX5_changesFilm 125 = .ok (.iload_n 2, 1) := by decide +kernel
theorem dX5_changesFilm_126 : decode cX5_changesFilm 126 = .ok (.iadd, 1) := by decide +kernel
theorem dX5_changesFilm_127 : decode cX5_changesFilm 127 = .ok (.iaload, 1) := by decide +kernel
theorem dX5_changesFilm_128 : decode cX5_changesFilm 128 = .ok (.invokestatic 70, 3) := by decide +kernel
theorem dX5_changesFilm_131 : decode cX5_changesFilm 131 = .ok (.istore_n 3, 1) := by decide +kernel
theorem dX5_changesFilm_132 : decode cX5_changesFilm 132 = .ok (.aload_n 0, 1) := by decide +kernel
theorem dX5_changesFilm_133 : decode cX5_changesFilm 133 = .ok (.getfield 7, 3) := by decide +kernel
theorem dX5_changesFilm_136 : decode cX5_changesFilm 136 = .ok (.bipush 20, 2) := by decide +kernel
theorem dX5_changesFilm_138 : decode cX5_changesFilm 138 = .ok (.iload_n 2, 1) := by decide +kernel
theorem dX5_changesFilm_139 : decode cX5_changesFilm 139 = .ok (.iadd, 1) := by decide +kernel
theorem dX5_changesFilm_140 : decode cX5_changesFilm 140 = .ok (.dup2, 1) := by decide +kernel
theorem dX5_changesFilm_141 : decode cX5_changesFilm 141 = .ok (.iaload, 1) := by decide +kernel
theorem dX5_changesFilm_142 : decode cX5_changesFilm 142 = .ok (.iload_n 3, 1) := by decide +kernel
theorem dX5_changesFilm_143 : decode cX5_changesFilm 143 = .ok (.isub, 1) := by decide +kernel
theorem dX5_changesFilm_144 : decode cX5_changesFilm 144 = .ok (.iastore, 1) := by decide +kernel
theorem dX5_changesFilm_145 : decode cX5_changesFilm 145 = .ok (.aload_n 0, 1) := by decide +kernel
theorem dX5_changesFilm_146 : decode cX5_changesFilm 146 = .ok (.getfield 7, 3) := by decide +kernel
theorem dX5_changesFilm_149 : decode cX5_changesFilm 149 = .ok (.iconst 5, 1) := by decide +kernel
theorem dX5_changesFilm_150 : decode cX5_changesFilm 150 = .ok (.dup2, 1) := by decide +kernel
theorem dX5_changesFilm_151 : decode cX5_changesFilm 151 = .ok (.iaload, 1) := by decide +kernel
theorem dX5_changesFilm_152 : decode cX5_changesFilm 152 = .ok (.iload_n 3, 1) := by decide +kernel
theorem dX5_changesFilm_153 : decode cX5_changesFilm 153 = .ok (.iadd, 1) := by decide +kernel
theorem dX5_changesFilm_154 : decode cX5_changesFilm 154 = .ok (.iastore, 1) := by decide +kernel
theorem dX5_changesFilm_155 : decode cX5_changesFilm 155 = .ok (.iinc 2 1, 3) := by decide +kernel
theorem dX5_changesFilm_158 : decode cX5_changesFilm 158 = .ok (.goto (-54), 3) := by decide +kernel
theorem dX5_changesFilm_161 : decode cX5_changesFilm 161 = .ok (.aload_n 0, 1) := by decide +kernel
theorem dX5_changesFilm_162 : decode cX5_changesFilm 162 = .ok (.getfield 7, 3) := by decide +kernel
theorem dX5_changesFilm_165 : decode cX5_changesFilm 165 = .ok (.iconst 2, 1) := by decide +kernel
theorem dX5_changesFilm_166 : decode cX5_changesFilm 166 = .ok (.iaload, 1) := by decide +kernel
theorem dX5_changesFilm_167 : decode cX5_changesFilm 167 = .ok (.aload_n 0, 1) := by decide +kernel
theorem dX5_changesFilm_168 : decode cX5_changesFilm 168 = .ok (.bipush 6, 2) := by decide +kernel
theorem dX5_changesFilm_170 : decode cX5_changesFilm 170 = .ok (.invokevirtual 34, 3) := by decide +kernel
theorem dX5_changesFilm_173 : decode cX5_changesFilm 173 = .ok (.if_icmp .lt 36, 3) := by decide +kernel
theorem dX5_changesFilm_176 : decode cX5_changesFilm 176 = .ok (.aload_n 0, 1) := by decide +kernel
theorem dX5_changesFilm_177 : decode cX5_changesFilm 177 = .ok (.getfield 7, 3) := by decide +kernel
theorem dX5_changesFilm_180 : decode cX5_changesFilm 180 = .ok (.iconst 4, 1) := by decide +kernel
theorem dX5_changesFilm_181 : decode cX5_changesFilm 181 = .ok (.dup2, 1) := by decide +kernel
theorem dX5_changesFilm_182 : decode cX5_changesFilm 182 = .ok (.iaload, 1) := by decide +kernel
theorem dX5_changesFilm_183 : decode cX5_changesFilm 183 = .ok (.aload_n 0, 1) := by decide +kernel
theorem dX5_changesFilm_184 : decode cX5_changesFilm 184 = .ok (.getfield 7, 3) := by decide +kernel
theorem dX5_changesFilm_187 : decode cX5_changesFilm 187 = .ok (.iconst 2, 1) := by decide +kernel
theorem dX5_changesFilm_188 : decode cX5_changesFilm 188 = .ok (.iaload, 1) := by decide +kernel
theorem dX5_changesFilm_189 : decode cX5_changesFilm 189 = .ok (.iadd, 1) := by decide +kernel
theorem dX5_changesFilm_190 : decode cX5_changesFilm 190 = .ok (.iastore, 1) := by decide +kernel
theorem dX5_changesFilm_191 : decode cX5_changesFilm 191 = .ok (.aload_n 0, 1) := by decide +kernel
theorem dX5_changesFilm_192 : decode cX5_changesFilm 192 = .ok (.getfield 7, 3) := by decide +kernel
theorem dX5_changesFilm_195 : decode cX5_changesFilm 195 = .ok (.iconst 2, 1) := by decide +kernel
theorem dX5_changesFilm_196 : decode cX5_changesFilm 196 = .ok (.iconst 0, 1) := by decide +kernel
theorem dX5_changesFilm_197 : decode cX5_changesFilm 197 = .ok (.iastore, 1) := by decide +kernel
theorem dX5_changesFilm_198 : decode cX5_changesFilm 198 = .ok (.aload_n 0, 1) := by decide +kernel
theorem dX5_changesFilm_199 : decode cX5_changesFilm 199 = .ok (.getfield 7, 3) := by decide +kernel
theorem dX5_changesFilm_202 : decode cX5_changesFilm 202 = .ok (.bipush 9, 2) := by decide +kernel
theorem dX5_changesFilm_204 : decode cX5_changesFilm 204 = .ok (.dup2, 1) := by decide +kernel
theorem dX5_changesFilm_205 : decode cX5_changesFilm 205 = .ok (.iaload, 1) := by decide +kernel
theorem dX5_changesFilm_206 : decode cX5_changesFilm 206 = .ok (.iconst 1, 1) := by decide +kernel
theorem dX5_changesFilm_207 : decode cX5_changesFilm 207 = .ok (.iadd, 1) := by decide +kernel
theorem dX5_changesFilm_208 : decode cX5_changesFilm 208 = .ok (.iastore, 1) := by decide +kernel
theorem dX5_changesFilm_209 : decode cX5_changesFilm 209 = .ok (.aload_n 0, 1) := by decide +kernel
theorem dX5_changesFilm_210 : decode cX5_changesFilm 210 = .ok (.invokevirtual 89, 3) := by decide +kernel
theorem dX5_changesFilm_213 : decode cX5_changesFilm 213 = .ok (.return_, 1) := by decide +kernel
set_option maxRecDepth 20000 in
theorem ggX5_tick_X5_changesFilm : GoodIn wsX5_tick wsX5_changesFilm := goodIn_r _ [6, 1, 7, 8, 9, 10, 5, 11, 12, 13, 14, 15, 16, 17, 18, 19, 20, 21, 22, 23, 24, 25, 26, 27, 28, 29, 30, 31, 32, 33, 34, 35, 36, 37, 38, 39, 40, 41, 42, 43, 44, 45, 46, 47, 48, 49, 50, 51] (by decide +kernel) (by decide +kernel)
set_option maxRecDepth 20000 in
theorem gX5_tick_X5_changesFilm : GoodIn wsX5_tick (wsV RX5 92 RX5 yX5_changesFilm wsX5_changesFilm) := goodIn_app (goodIn_of _ (by decide +kernel)) ggX5_tick_X5_changesFilm
theorem dX5_tick_0 : decode cX5_tick 0 = .ok (.aload_n 0, 1) := by decide +kernel
theorem dX5_tick_1 : decode cX5_tick 1 = .ok (.getfield 7, 3) := by decide +kernel
theorem dX5_tick_4 : decode cX5_tick 4 = .ok (.iconst 0, 1) := by decide +kernel
theorem dX5_tick_5 : decode cX5_tick 5 = .ok (.iaload, 1) := by decide +kernel
theorem dX5_tick_6 : decode cX5_tick 6 = .ok (.ifCond .le 7, 3) := by decide +kernel
theorem dX5_tick_9 : decode cX5_tick 9 = .ok (.iconst 1, 1) := by decide +kernel
theorem dX5_tick_10 : decode cX5_tick 10 = .ok (.goto 4, 3) := by decide +kernel
theorem dX5_tick_13 : decode cX5_tick 13 = .ok (.iconst 0, 1) := by decide +kernel
theorem dX5_tick_14 : decode cX5_tick 14 = .ok (.istore_n 1, 1) := by decide +kernel
theorem dX5_tick_15 : decode cX5_tick 15 = .ok (.iload_n 1, 1) := by decide +kernel
theorem dX5_tick_16 : decode cX5_tick 16 = .ok (.ifCond .eq 7, 3) := by decide +kernel
theorem dX5_tick_19 : decode cX5_tick 19 = .ok (.aload_n 0, 1) := by decide +kernel
theorem dX5_tick_20 : decode cX5_tick 20 = .ok (.invokevirtual 92, 3) := by decide +kernel
theorem dX5_tick_23 : decode cX5_tick 23 = .ok (.aload_n 0, 1) := by decide +kernel
theorem dX5_tick_24 : decode cX5_tick 24 = .ok (.getfield 7, 3) := by decide +kernel
theorem dX5_tick_27 : decode cX5_tick 27 = .ok (.iconst 1, 1) := by decide +kernel
theorem dX5_tick_28 : decode cX5_tick 28 = .ok (.dup2, 1) := by decide +kernel
theorem dX5_tick_29 : decode cX5_tick 29 = .ok (.iaload, 1) := by decide +kernel
theorem dX5_tick_30 : decode cX5_tick 30 = .ok (.iconst 1, 1) := by decide +kernel
theorem dX5_tick_31 : decode cX5_tick 31 = .ok (.iadd, 1) := by decide +kernel
theorem dX5_tick_32 : decode cX5_tick 32 = .ok (.iastore, 1) := by decide +kernel
theorem dX5_tick_33 : decode cX5_tick 33 = .ok (.iload_n 1, 1) := by decide +kernel
theorem dX5_tick_34 : decode cX5_tick 34 = .ok (.ireturn, 1) := by decide +kernel
set_option maxRecDepth 20000 in
theorem ggX5_go_X5_in : GoodIn wsX5_go wsX5_in := goodIn_r _ [6] (by decide +kernel) (by decide +kernel)
set_option maxRecDepth 20000 in
theorem gX5_go_X5_in : GoodIn wsX5_go (va_wsS RX5 26 yX5_in wsX5_in) := goodIn_app (goodIn_of _ (by decide +kernel)) ggX5_go_X5_in
set_option maxRecDepth 20000 in
theorem ggX5_go_X5_records : GoodIn wsX5_go wsX5_records := goodIn_r _ [10, 11, 12, 1, 56, 57, 58, 59, 60, 61, 62, 63, 64, 65] (by decide +kernel) (by decide +kernel)
set_option maxRecDepth 20000 in
theorem gX5_go_X5_records : GoodIn wsX5_go (wsV RX5 53 RX5 yX5_records wsX5_records) := goodIn_app (goodIn_of _ (by decide +kernel)) ggX5_go_X5_records
set_option maxRecDepth 20000 in
theorem ggX5_go_X5_tick : GoodIn wsX5_go wsX5_tick := goodIn_r _ [16, 1, 17, 18, 19, 5, 20, 21, 22, 23, 24, 25, 26, 27, 28, 29, 30, 31, 32, 33, 34, 35, 36, 37, 38, 39, 40, 41, 42, 43, 44, 45, 46, 47, 48, 49, 50, 51, 52, 53, 54, 55, 56, 57, 58, 59, 60, 61, 62, 63, 64, 65] (by decide +kernel) (by decide +kernel)
set_option maxRecDepth 20000 in
theorem gX5_go_X5_tick : GoodIn wsX5_go (wsV RX5 95 RX5 yX5_tick wsX5_tick) := goodIn_app (goodIn_of _ (by decide +kernel)) ggX5_go_X5_tick
theorem dX5_go_0 : decode cX5_go 0 = .ok (.iload_n 1, 1) := by decide +kernel
theorem dX5_go_1 : decode cX5_go 1 = .ok (.iconst 1, 1) := by decide +kernel
theorem dX5_go_2 : decode cX5_go 2 = .ok (.sipush 1000, 3) := by decide +kernel
theorem dX5_go_5 : decode cX5_go 5 = .ok (.invokestatic 26, 3) := by decide +kernel
theorem dX5_go_8 : decode cX5_go 8 = .ok (.ifCond .ne 5, 3) := by decide +kernel
theorem dX5_go_11 : decode cX5_go 11 = .ok (.iconst (-1), 1) := by decide +kernel
theorem dX5_go_12 : decode cX5_go 12 = .ok (.ireturn, 1) := by decide +kernel
theorem dX5_go_13 : decode cX5_go 13 = .ok (.aload_n 0, 1) := by decide +kernel
theorem dX5_go_14 : decode cX5_go 14 = .ok (.getfield 7, 3) := by decide +kernel
theorem dX5_go_17 : decode cX5_go 17 = .ok (.iconst 1, 1) := by decide +kernel
theorem dX5_go_18 : decode cX5_go 18 = .ok (.iaload, 1) := by decide +kernel
theorem dX5_go_19 : decode cX5_go 19 = .ok (.iload_n 1, 1) := by decide +kernel
theorem dX5_go_20 : decode cX5_go 20 = .ok (.iadd, 1) := by decide +kernel
theorem dX5_go_21 : decode cX5_go 21 = .ok (.ldc 48, 2) := by decide +kernel
theorem dX5_go_23 : decode cX5_go 23 = .ok (.if_icmp .le 6, 3) := by decide +kernel
theorem dX5_go_26 : decode cX5_go 26 = .ok (.bipush (-3), 2) := by decide +kernel
theorem dX5_go_28 : decode cX5_go 28 = .ok (.ireturn, 1) := by decide +kernel
theorem dX5_go_29 : decode cX5_go 29 = .ok (.aload_n 0, 1) := by decide +kernel
theorem dX5_go_30 : decode cX5_go 30 = .ok (.invokevirtual 53, 3) := by decide +kernel
theorem dX5_go_33 : decode cX5_go 33 = .ok (.iconst 0, 1) := by decide +kernel
theorem dX5_go_34 : decode cX5_go 34 = .ok (.istore_n 2, 1) := by decide +kernel
theorem dX5_go_35 : decode cX5_go 35 = .ok (.iconst 0, 1) := by decide +kernel
theorem dX5_go_36 : decode cX5_go 36 = .ok (.istore_n 3, 1) := by decide +kernel
theorem dX5_go_37 : decode cX5_go 37 = .ok (.iload_n 3, 1) := by decide +kernel
theorem dX5_go_38 : decode cX5_go 38 = .ok (.iload_n 1, 1) := by decide +kernel
theorem dX5_go_39 : decode cX5_go 39 = .ok (.if_icmp .ge 24, 3) := by decide +kernel
theorem dX5_go_42 : decode cX5_go 42 = .ok (.iload_n 2, 1) := by decide +kernel
theorem dX5_go_43 : decode cX5_go 43 = .ok (.aload_n 0, 1) := by decide +kernel
theorem dX5_go_44 : decode cX5_go 44 = .ok (.invokevirtual 95, 3) := by decide +kernel
theorem dX5_go_47 : decode cX5_go 47 = .ok (.ifCond .eq 7, 3) := by decide +kernel
theorem dX5_go_50 : decode cX5_go 50 = .ok (.iconst 1, 1) := by decide +kernel
theorem dX5_go_51 : decode cX5_go 51 = .ok (.goto 4, 3) := by decide +kernel
theorem dX5_go_54 : decode cX5_go 54 = .ok (.iconst 0, 1) := by decide +kernel
theorem dX5_go_55 : decode cX5_go 55 = .ok (.iadd, 1) := by decide +kernel
theorem dX5_go_56 : decode cX5_go 56 = .ok (.istore_n 2, 1) := by decide +kernel
theorem dX5_go_57 : decode cX5_go 57 = .ok (.iinc 3 1, 3) := by decide +kernel
theorem dX5_go_60 : decode cX5_go 60 = .ok (.goto (-23), 3) := by decide +kernel
theorem dX5_go_63 : decode cX5_go 63 = .ok (.iload_n 2, 1) := by decide +kernel
theorem dX5_go_64 : decode cX5_go 64 = .ok (.ireturn, 1) := by decide +kernel
set_option maxRecDepth 20000 in
theorem ggX5_valueOf_X5_path : GoodIn wsX5_valueOf wsX5_path := goodIn_r _ [4] (by decide +kernel) (by decide +kernel)
set_option maxRecDepth 20000 in
theorem gX5_valueOf_X5_path : GoodIn wsX5_valueOf (va_wsS RX5 30 yX5_path wsX5_path) := goodIn_app (goodIn_of _ (by decide +kernel)) ggX5_valueOf_X5_path
set_option maxRecDepth 20000 in
theorem ggX5_valueOf_X5_brightness : GoodIn wsX5_valueOf wsX5_brightness := goodIn_r _ [7, 1, 2, 3, 4] (by decide +kernel) (by decide +kernel)
set_option maxRecDepth 20000 in
theorem gX5_valueOf_X5_brightness : GoodIn wsX5_valueOf (va_wsS RX5 41 yX5_brightness wsX5_brightness) := goodIn_app (goodIn_of _ (by decide +kernel)) ggX5_valueOf_X5_brightness
set_option maxRecDepth 20000 in
theorem ggX5_valueOf_X5_colour : GoodIn wsX5_valueOf wsX5_colour := goodIn_r _ [11, 12, 13, 14, 3, 15, 16, 17, 18, 19, 20, 5, 6, 7, 1, 2, 4, 21, 22, 23, 24, 25, 26, 27, 28, 29, 30] (by decide +kernel) (by decide +kernel)
set_option maxRecDepth 20000 in
theorem gX5_valueOf_X5_colour : GoodIn wsX5_valueOf (wsV RX5 45 RX5 yX5_colour wsX5_colour) := goodIn_app (goodIn_of _ (by decide +kernel)) ggX5_valueOf_X5_colour
set_option maxRecDepth 20000 in
theorem ggX5_valueOf_X5_isBlack : GoodIn wsX5_valueOf wsX5_isBlack := goodIn_r _ [15, 16, 17, 18, 3, 19, 20, 21, 22, 23, 24, 25, 26, 27, 28, 29, 30] (by decide +kernel) (by decide +kernel)
set_option maxRecDepth 20000 in
theorem gX5_valueOf_X5_isBlack : GoodIn wsX5_valueOf (wsV RX5 37 RX5 yX5_isBlack wsX5_isBlack) := goodIn_app (goodIn_of _ (by decide +kernel)) ggX5_valueOf_X5_isBlack
theorem dX5_valueOf_0 : decode cX5_valueOf 0 = .ok (.iload_n 2, 1) := by decide +kernel
theorem dX5_valueOf_1 : decode cX5_valueOf 1 = .ok (.tableswitch 73 0 6 #[43, 45, 50, 50, 50, 58, 64], 43) := by decide +kernel
theorem dX5_valueOf_44 : decode cX5_valueOf 44 = .ok (.iload_n 1, 1) := by decide +kernel
theorem dX5_valueOf_45 : decode cX5_valueOf 45 = .ok (.ireturn, 1) := by decide +kernel
theorem dX5_valueOf_46 : decode cX5_valueOf 46 = .ok (.iload_n 1, 1) := by decide +kernel
theorem dX5_valueOf_47 : decode cX5_valueOf 47 = .ok (.invokestatic 30, 3) := by decide +kernel
theorem dX5_valueOf_50 : decode cX5_valueOf 50 = .ok (.ireturn, 1) := by decide +kernel
theorem dX5_valueOf_51 : decode cX5_valueOf 51 = .ok (.iload_n 1, 1) := by decide +kernel
theorem dX5_valueOf_52 : decode cX5_valueOf 52 = .ok (.iload_n 2, 1) := by decide +kernel
theorem dX5_valueOf_53 : decode cX5_valueOf 53 = .ok (.iconst 2, 1) := by decide +kernel
theorem dX5_valueOf_54 : decode cX5_valueOf 54 = .ok (.isub, 1) := by decide +kernel
theorem dX5_valueOf_55 : decode cX5_valueOf 55 = .ok (.invokestatic 41, 3) := by decide +kernel
theorem dX5_valueOf_58 : decode cX5_valueOf 58 = .ok (.ireturn, 1) := by decide +kernel
theorem dX5_valueOf_59 : decode cX5_valueOf 59 = .ok (.aload_n 0, 1) := by decide +kernel
theorem dX5_valueOf_60 : decode cX5_valueOf 60 = .ok (.iload_n 1, 1) := by decide +kernel
theorem dX5_valueOf_61 : decode cX5_valueOf 61 = .ok (.invokevirtual 45, 3) := by decide +kernel
theorem dX5_valueOf_64 : decode cX5_valueOf 64 = .ok (.ireturn, 1) := by decide +kernel
theorem dX5_valueOf_65 : decode cX5_valueOf 65 = .ok (.iload_n 1, 1) := by decide +kernel
theorem dX5_valueOf_66 : decode cX5_valueOf 66 = .ok (.invokestatic 30, 3) := by decide +kernel
theorem dX5_valueOf_69 : decode cX5_valueOf 69 = .ok (.sipush 530, 3) := by decide +kernel
theorem dX5_valueOf_72 : decode cX5_valueOf 72 = .ok (.idiv, 1) := by decide +kernel
theorem dX5_valueOf_73 : decode cX5_valueOf 73 = .ok (.ireturn, 1) := by decide +kernel
theorem dX5_valueOf_74 : decode cX5_valueOf 74 = .ok (.aload_n 0, 1) := by decide +kernel
theorem dX5_valueOf_75 : decode cX5_valueOf 75 = .ok (.iload_n 1, 1) := by decide +kernel
theorem dX5_valueOf_76 : decode cX5_valueOf 76 = .ok (.invokevirtual 37, 3) := by decide +kernel
theorem dX5_valueOf_79 : decode cX5_valueOf 79 = .ok (.ifCond .eq 7, 3) := by decide +kernel
theorem dX5_valueOf_82 : decode cX5_valueOf 82 = .ok (.iconst 1, 1) := by decide +kernel
theorem dX5_valueOf_83 : decode cX5_valueOf 83 = .ok (.goto 4, 3) := by decide +kernel
theorem dX5_valueOf_86 : decode cX5_valueOf 86 = .ok (.iconst 0, 1) := by decide +kernel
theorem dX5_valueOf_87 : decode cX5_valueOf 87 = .ok (.ireturn, 1) := by decide +kernel
set_option maxRecDepth 20000 in
theorem ggX5_row_X5_isRow : GoodIn wsX5_row wsX5_isRow := goodIn_r _ [6, 1, 7, 8, 5, 9, 32, 33, 34, 35, 36, 37, 38, 39, 40, 41] (by decide +kernel) (by decide +kernel)
set_option maxRecDepth 20000 in
theorem gX5_row_X5_isRow : GoodIn wsX5_row (wsV RX5 67 RX5 yX5_isRow wsX5_isRow) := goodIn_app (goodIn_of _ (by decide +kernel)) ggX5_row_X5_isRow
set_option maxRecDepth 20000 in
theorem ggX5_row_X5_in : GoodIn wsX5_row wsX5_in := goodIn_r _ [9] (by decide +kernel) (by decide +kernel)
set_option maxRecDepth 20000 in
theorem gX5_row_X5_in : GoodIn wsX5_row (va_wsS RX5 26 yX5_in wsX5_in) := goodIn_app (goodIn_of _ (by decide +kernel)) ggX5_row_X5_in
set_option maxRecDepth 20000 in
theorem ggX5_row_X5_valueOf : GoodIn wsX5_row wsX5_valueOf := goodIn_r _ [13, 14, 15, 5, 16, 17, 18, 19, 20, 21, 22, 23, 24, 25, 26, 27, 28, 29, 30, 31, 1, 32, 33, 34, 35, 36, 37, 38, 39, 40, 41] (by decide +kernel) (by decide +kernel)
set_option maxRecDepth 20000 in
theorem gX5_row_X5_valueOf : GoodIn wsX5_row (wsV RX5 99 RX5 yX5_valueOf wsX5_valueOf) := goodIn_app (goodIn_of _ (by decide +kernel)) ggX5_row_X5_valueOf
theorem dX5_row_0 : decode cX5_row 0 = .ok (.aload_n 0, 1) := by decide +kernel
theorem dX5_row_1 : decode cX5_row 1 = .ok (.iload_n 1, 1) := by decide +kernel
theorem dX5_row_2 : decode cX5_row 2 = .ok (.invokevirtual 67, 3) := by decide +kernel
theorem dX5_row_5 : decode cX5_row 5 = .ok (.ifCond .eq 30, 3) := by decide +kernel
theorem dX5_row_8 : decode cX5_row 8 = .ok (.iload_n 2, 1) := by decide +kernel
theorem dX5_row_9 : decode cX5_row 9 = .ok (.iconst 0, 1) := by decide +kernel
theorem dX5_row_10 : decode cX5_row 10 = .ok (.bipush 7, 2) := by decide +kernel
theorem dX5_row_12 : decode cX5_row 12 = .ok (.invokestatic 26, 3) := by decide +kernel
theorem dX5_row_15 : decode cX5_row 15 = .ok (.ifCond .eq 20, 3) := by decide +kernel
theorem dX5_row_18 : decode cX5_row 18 = .ok (.aload_n 0, 1) := by decide +kernel
theorem dX5_row_19 : decode cX5_row 19 = .ok (.aload_n 0, 1) := by decide +kernel
theorem dX5_row_20 : decode cX5_row 20 = .ok (.getfield 7, 3) := by decide +kernel
theorem dX5_row_23 : decode cX5_row 23 = .ok (.bipush 20, 2) := by decide +kernel
theorem dX5_row_25 : decode cX5_row 25 = .ok (.iload_n 1, 1) := by decide +kernel
theorem dX5_row_26 : decode cX5_row 26 = .ok (.iadd, 1) := by decide +kernel
theorem dX5_row_27 : decode cX5_row 27 = .ok (.iaload, 1) := by decide +kernel
theorem dX5_row_28 : decode cX5_row 28 = .ok (.iload_n 2, 1) := by decide +kernel
theorem dX5_row_29 : decode cX5_row 29 = .ok (.invokevirtual 99, 3) := by decide +kernel
theorem dX5_row_32 : decode cX5_row 32 = .ok (.goto 4, 3) := by decide +kernel
theorem dX5_row_35 : decode cX5_row 35 = .ok (.iconst (-1), 1) := by decide +kernel
theorem dX5_row_36 : decode cX5_row 36 = .ok (.ireturn, 1) := by decide +kernel
set_option maxRecDepth 20000 in
theorem ggX5_runsTo_X5_colourAt : GoodIn wsX5_runsTo wsX5_colourAt := goodIn_r _ [5, 6, 7, 8, 9, 4, 10, 11, 12, 13, 14, 15, 16, 17, 18, 19, 20, 21, 22, 23, 24, 25, 26, 27, 28, 29, 30, 31, 32, 33, 34] (by decide +kernel) (by decide +kernel)
set_option maxRecDepth 20000 in
theorem gX5_runsTo_X5_colourAt : GoodIn wsX5_runsTo (wsV RX5 102 RX5 yX5_colourAt wsX5_colourAt) := goodIn_app (goodIn_of _ (by decide +kernel)) ggX5_runsTo_X5_colourAt
theorem dX5_runsTo_0 : decode cX5_runsTo 0 = .ok (.iconst 0, 1) := by decide +kernel
theorem dX5_runsTo_1 : decode cX5_runsTo 1 = .ok (.istore_n 2, 1) := by decide +kernel
theorem dX5_runsTo_2 : decode cX5_runsTo 2 = .ok (.iconst 0, 1) := by decide +kernel
theorem dX5_runsTo_3 : decode cX5_runsTo 3 = .ok (.istore_n 3, 1) := by decide +kernel
theorem dX5_runsTo_4 : decode cX5_runsTo 4 = .ok (.iload_n 3, 1) := by decide +kernel
theorem dX5_runsTo_5 : decode cX5_runsTo 5 = .ok (.iload_n 1, 1) := by decide +kernel
theorem dX5_runsTo_6 : decode cX5_runsTo 6 = .ok (.if_icmp .gt 36, 3) := by decide +kernel
theorem dX5_runsTo_9 : decode cX5_runsTo 9 = .ok (.iload_n 2, 1) := by decide +kernel
theorem dX5_runsTo_10 : decode cX5_runsTo 10 = .ok (.iload_n 3, 1) := by decide +kernel
theorem dX5_runsTo_11 : decode cX5_runsTo 11 = .ok (.ifCond .eq 18, 3) := by decide +kernel
theorem dX5_runsTo_14 : decode cX5_runsTo 14 = .ok (.aload_n 0, 1) := by decide +kernel
theorem dX5_runsTo_15 : decode cX5_runsTo 15 = .ok (.iload_n 3, 1) := by decide +kernel
theorem dX5_runsTo_16 : decode cX5_runsTo 16 = .ok (.invokevirtual 102, 3) := by decide +kernel
theorem dX5_runsTo_19 : decode cX5_runsTo 19 = .ok (.aload_n 0, 1) := by decide +kernel
theorem dX5_runsTo_20 : decode cX5_runsTo 20 = .ok (.iload_n 3, 1) := by decide +kernel
theorem dX5_runsTo_21 : decode cX5_runsTo 21 = .ok (.iconst 1, 1) := by decide +kernel
theorem dX5_runsTo_22 : decode cX5_runsTo 22 = .ok (.isub, 1) := by decide +kernel
theorem dX5_runsTo_23 : decode cX5_runsTo 23 = .ok (.invokevirtual 102, 3) := by decide +kernel
theorem dX5_runsTo_26 : decode cX5_runsTo 26 = .ok (.if_icmp .eq 7, 3) := by decide +kernel
theorem dX5_runsTo_29 : decode cX5_runsTo 29 = .ok (.iconst 1, 1) := by decide +kernel
theorem dX5_runsTo_30 : decode cX5_runsTo 30 = .ok (.goto 4, 3) := by decide +kernel
theorem dX5_runsTo_33 : decode cX5_runsTo 33 = .ok (.iconst 0, 1) := by decide +kernel
theorem dX5_runsTo_34 : decode cX5_runsTo 34 = .ok (.iadd, 1) := by decide +kernel
theorem dX5_runsTo_35 : decode cX5_runsTo 35 = .ok (.istore_n 2, 1) := by decide +kernel
theorem dX5_runsTo_36 : decode cX5_runsTo 36 = .ok (.iinc 3 1, 3) := by decide +kernel
theorem dX5_runsTo_39 : decode cX5_runsTo 39 = .ok (.goto (-35), 3) := by decide +kernel
theorem dX5_runsTo_42 : decode cX5_runsTo 42 = .ok (.iload_n 2, 1) := by decide +kernel
theorem dX5_runsTo_43 : decode cX5_runsTo 43 = .ok (.ireturn, 1) := by decide +kernel
set_option maxRecDepth 20000 in
theorem ggX5_colours_X5_colourAt : GoodIn wsX5_colours wsX5_colourAt := goodIn_r _ [6, 1, 7, 8, 9, 5, 10, 11, 12, 13, 14, 15, 16, 17, 18, 19, 20, 21, 22, 23, 24, 28, 29, 30, 31, 32, 33, 34, 35, 36, 37] (by decide +kernel) (by decide +kernel)
set_option maxRecDepth 20000 in
theorem gX5_colours_X5_colourAt : GoodIn wsX5_colours (wsV RX5 102 RX5 yX5_colourAt wsX5_colourAt) := goodIn_app (goodIn_of _ (by decide +kernel)) ggX5_colours_X5_colourAt
set_option maxRecDepth 20000 in
theorem ggX5_colours_X5_bits : GoodIn wsX5_colours wsX5_bits := goodIn_r _ [27] (by decide +kernel) (by decide +kernel)
set_option maxRecDepth 20000 in
theorem gX5_colours_X5_bits : GoodIn wsX5_colours (va_wsS RX5 80 yX5_bits wsX5_bits) := goodIn_app (goodIn_of _ (by decide +kernel)) ggX5_colours_X5_bits
theorem dX5_colours_0 : decode cX5_colours 0 = .ok (.iconst 0, 1) := by decide +kernel
theorem dX5_colours_1 : decode cX5_colours 1 = .ok (.istore_n 1, 1) := by decide +kernel
theorem dX5_colours_2 : decode cX5_colours 2 = .ok (.iconst 0, 1) := by decide +kernel
theorem dX5_colours_3 : decode cX5_colours 3 = .ok (.istore_n 2, 1) := by decide +kernel
theorem dX5_colours_4 : decode cX5_colours 4 = .ok (.iload_n 2, 1) := by decide +kernel
theorem dX5_colours_5 : decode cX5_colours 5 = .ok (.aload_n 0, 1) := by decide +kernel
theorem dX5_colours_6 : decode cX5_colours 6 = .ok (.getfield 7, 3) := by decide +kernel
theorem dX5_colours_9 : decode cX5_colours 9 = .ok (.iconst 0, 1) := by decide +kernel
theorem dX5_colours_10 : decode cX5_colours 10 = .ok (.iaload, 1) := by decide +kernel
theorem dX5_colours_11 : decode cX5_colours 11 = .ok (.if_icmp .ge 19, 3) := by decide +kernel
theorem dX5_colours_14 : decode cX5_colours 14 = .ok (.iload_n 1, 1) := by decide +kernel
theorem dX5_colours_15 : decode cX5_colours 15 = .ok (.iconst 1, 1) := by decide +kernel
theorem dX5_colours_16 : decode cX5_colours 16 = .ok (.aload_n 0, 1) := by decide +kernel
theorem dX5_colours_17 : decode cX5_colours 17 = .ok (.iload_n 2, 1) := by decide +kernel
theorem dX5_colours_18 : decode cX5_colours 18 = .ok (.invokevirtual 102, 3) := by decide +kernel
theorem dX5_colours_21 : decode cX5_colours 21 = .ok (.ishl, 1) := by decide +kernel
theorem dX5_colours_22 : decode cX5_colours 22 = .ok (.ior, 1) := by decide +kernel
theorem dX5_colours_23 : decode cX5_colours 23 = .ok (.istore_n 1, 1) := by decide +kernel
theorem dX5_colours_24 : decode cX5_colours 24 = .ok (.iinc 2 1, 3) := by decide +kernel
theorem dX5_colours_27 : decode cX5_colours 27 = .ok (.goto (-23), 3) := by decide +kernel
theorem dX5_colours_30 : decode cX5_colours 30 = .ok (.iload_n 1, 1) := by decide +kernel
theorem dX5_colours_31 : decode cX5_colours 31 = .ok (.invokestatic 80, 3) := by decide +kernel
theorem dX5_colours_34 : decode cX5_colours 34 = .ok (.ireturn, 1) := by decide +kernel
set_option maxRecDepth 20000 in
theorem ggX5_greatestOrder_X5_path : GoodIn wsX5_greatestOrder wsX5_path := goodIn_r _ [5] (by decide +kernel) (by decide +kernel)
set_option maxRecDepth 20000 in
theorem gX5_greatestOrder_X5_path : GoodIn wsX5_greatestOrder (va_wsS RX5 30 yX5_path wsX5_path) := goodIn_app (goodIn_of _ (by decide +kernel)) ggX5_greatestOrder_X5_path
theorem dX5_greatestOrder_0 : decode cX5_greatestOrder 0 = .ok (.bipush (-4), 2) := by decide +kernel
theorem dX5_greatestOrder_2 : decode cX5_greatestOrder 2 = .ok (.istore_n 1, 1) := by decide +kernel
theorem dX5_greatestOrder_3 : decode cX5_greatestOrder 3 = .ok (.iconst 0, 1) := by decide +kernel
theorem dX5_greatestOrder_4 : decode cX5_greatestOrder 4 = .ok (.istore_n 2, 1) := by decide +kernel
theorem dX5_greatestOrder_5 : decode cX5_greatestOrder 5 = .ok (.iload_n 2, 1) := by decide +kernel
theorem dX5_greatestOrder_6 : decode cX5_greatestOrder 6 = .ok (.aload_n 0, 1) := by decide +kernel
theorem dX5_greatestOrder_7 : decode cX5_greatestOrder 7 = .ok (.getfield 7, 3) := by decide +kernel
theorem dX5_greatestOrder_10 : decode cX5_greatestOrder 10 = .ok (.iconst 0, 1) := by decide +kernel
theorem dX5_greatestOrder_11 : decode cX5_greatestOrder 11 = .ok (.iaload, 1) := by decide +kernel
theorem dX5_greatestOrder_12 : decode cX5_greatestOrder 12 = .ok (.if_icmp .ge 37, 3) := by decide +kernel
theorem dX5_greatestOrder_15 : decode cX5_greatestOrder 15 = .ok (.aload_n 0, 1) := by decide +kernel
theorem dX5_greatestOrder_16 : decode cX5_greatestOrder 16 = .ok (.getfield 7, 3) := by decide +kernel
theorem dX5_greatestOrder_19 : decode cX5_greatestOrder 19 = .ok (.bipush 20, 2) := by decide +kernel
theorem dX5_greatestOrder_21 : decode cX5_greatestOrder 21 = .ok (.iload_n 2, 1) := by decide +kernel
theorem dX5_greatestOrder_22 : decode cX5_greatestOrder 22 = .ok (.iadd, 1) := by decide +kernel
theorem dX5_greatestOrder_23 : decode cX5_greatestOrder 23 = .ok (.iaload, 1) := by decide +kernel
theorem dX5_greatestOrder_24 : decode cX5_greatestOrder 24 = .ok (.invokestatic 30, 3) := by decide +kernel
theorem dX5_greatestOrder_27 : decode cX5_greatestOrder 27 = .ok (.sipush 530, 3) := by decide +kernel
theorem dX5_greatestOrder_30 : decode cX5_greatestOrder 30 = .ok (.idiv, 1) := by decide +kernel
theorem dX5_greatestOrder_31 : decode cX5_greatestOrder 31 = .ok (.istore_n 3, 1) := by decide +kernel
theorem dX5_greatestOrder_32 : decode cX5_greatestOrder 32 = .ok (.iload_n 3, 1) := by decide +kernel
theorem dX5_greatestOrder_33 : decode cX5_greatestOrder 33 = .ok (.iload_n 1, 1) := by decide +kernel
theorem dX5_greatestOrder_34 : decode cX5_greatestOrder 34 = .ok (.if_icmp .le 7, 3) := by decide +kernel
theorem dX5_greatestOrder_37 : decode cX5_greatestOrder 37 = .ok (.iload_n 3, 1) := by decide +kernel
theorem dX5_greatestOrder_38 : decode cX5_greatestOrder 38 = .ok (.goto 4, 3) := by decide +kernel
theorem dX5_greatestOrder_41 : decode cX5_greatestOrder 41 = .ok (.iload_n 1, 1) := by decide +kernel
theorem dX5_greatestOrder_42 : decode cX5_greatestOrder 42 = .ok (.istore_n 1, 1) := by decide +kernel
theorem dX5_greatestOrder_43 : decode cX5_greatestOrder 43 = .ok (.iinc 2 1, 3) := by decide +kernel
theorem dX5_greatestOrder_46 : decode cX5_greatestOrder 46 = .ok (.goto (-41), 3) := by decide +kernel
theorem dX5_greatestOrder_49 : decode cX5_greatestOrder 49 = .ok (.iload_n 1, 1) := by decide +kernel
theorem dX5_greatestOrder_50 : decode cX5_greatestOrder 50 = .ok (.ireturn, 1) := by decide +kernel
set_option maxRecDepth 20000 in
theorem ggX5_account_X5_liquid : GoodIn wsX5_account wsX5_liquid := goodIn_r _ [6, 1, 7, 8, 9, 10, 11, 12, 13, 14, 15, 16] (by decide +kernel) (by decide +kernel)
set_option maxRecDepth 20000 in
theorem gX5_account_X5_liquid : GoodIn wsX5_account (wsV RX5 56 RX5 yX5_liquid wsX5_liquid) := goodIn_app (goodIn_of _ (by decide +kernel)) ggX5_account_X5_liquid
theorem dX5_account_0 : decode cX5_account 0 = .ok (.iload_n 1, 1) := by decide +kernel
theorem dX5_account_1 : decode cX5_account 1 = .ok (.ifCond .ne 12, 3) := by decide +kernel
theorem dX5_account_4 : decode cX5_account 4 = .ok (.aload_n 0, 1) := by decide +kernel
theorem dX5_account_5 : decode cX5_account 5 = .ok (.getfield 7, 3) := by decide +kernel
theorem dX5_account_8 : decode cX5_account 8 = .ok (.iconst 3, 1) := by decide +kernel
theorem dX5_account_9 : decode cX5_account 9 = .ok (.iaload, 1) := by decide +kernel
theorem dX5_account_10 : decode cX5_account 10 = .ok (.goto 39, 3) := by decide +kernel
theorem dX5_account_13 : decode cX5_account 13 = .ok (.iload_n 1, 1) := by decide +kernel
theorem dX5_account_14 : decode cX5_account 14 = .ok (.iconst 1, 1) := by decide +kernel
theorem dX5_account_15 : decode cX5_account 15 = .ok (.if_icmp .ne 10, 3) := by decide +kernel
theorem dX5_account_18 : decode cX5_account 18 = .ok (.aload_n 0, 1) := by decide +kernel
theorem dX5_account_19 : decode cX5_account 19 = .ok (.invokevirtual 56, 3) := by decide +kernel
theorem dX5_account_22 : decode cX5_account 22 = .ok (.goto 27, 3) := by decide +kernel
theorem dX5_account_25 : decode cX5_account 25 = .ok (.iload_n 1, 1) := by decide +kernel
theorem dX5_account_26 : decode cX5_account 26 = .ok (.iconst 2, 1) := by decide +kernel
theorem dX5_account_27 : decode cX5_account 27 = .ok (.if_icmp .ne 12, 3) := by decide +kernel
theorem dX5_account_30 : decode cX5_account 30 = .ok (.aload_n 0, 1) := by decide +kernel
theorem dX5_account_31 : decode cX5_account 31 = .ok (.getfield 7, 3) := by decide +kernel
theorem dX5_account_34 : decode cX5_account 34 = .ok (.iconst 2, 1) := by decide +kernel
theorem dX5_account_35 : decode cX5_account 35 = .ok (.iaload, 1) := by decide +kernel
theorem dX5_account_36 : decode cX5_account 36 = .ok (.goto 13, 3) := by decide +kernel
theorem dX5_account_39 : decode cX5_account 39 = .ok (.aload_n 0, 1) := by decide +kernel
theorem dX5_account_40 : decode cX5_account 40 = .ok (.getfield 7, 3) := by decide +kernel
theorem dX5_account_43 : decode cX5_account 43 = .ok (.iconst 4, 1) := by decide +kernel
theorem dX5_account_44 : decode cX5_account 44 = .ok (.iload_n 1, 1) := by decide +kernel
theorem dX5_account_45 : decode cX5_account 45 = .ok (.iadd, 1) := by decide +kernel
theorem dX5_account_46 : decode cX5_account 46 = .ok (.iconst 3, 1) := by decide +kernel
theorem dX5_account_47 : decode cX5_account 47 = .ok (.isub, 1) := by decide +kernel
theorem dX5_account_48 : decode cX5_account 48 = .ok (.iaload, 1) := by decide +kernel
theorem dX5_account_49 : decode cX5_account 49 = .ok (.ireturn, 1) := by decide +kernel
theorem dX5_ofBurst_0 : decode cX5_ofBurst 0 = .ok (.aload_n 0, 1) := by decide +kernel
theorem dX5_ofBurst_1 : decode cX5_ofBurst 1 = .ok (.getfield 7, 3) := by decide +kernel
theorem dX5_ofBurst_4 : decode cX5_ofBurst 4 = .ok (.bipush 8, 2) := by decide +kernel
theorem dX5_ofBurst_6 : decode cX5_ofBurst 6 = .ok (.iaload, 1) := by decide +kernel
theorem dX5_ofBurst_7 : decode cX5_ofBurst 7 = .ok (.ifCond .ne 8, 3) := by decide +kernel
theorem dX5_ofBurst_10 : decode cX5_ofBurst 10 = .ok (.bipush (-4), 2) := by decide +kernel
theorem dX5_ofBurst_12 : decode cX5_ofBurst 12 = .ok (.goto 9, 3) := by decide +kernel
theorem dX5_ofBurst_15 : decode cX5_ofBurst 15 = .ok (.aload_n 0, 1) := by decide +kernel
theorem dX5_ofBurst_16 : decode cX5_ofBurst 16 = .ok (.getfield 7, 3) := by decide +kernel
theorem dX5_ofBurst_19 : decode cX5_ofBurst 19 = .ok (.iload_n 1, 1) := by decide +kernel
theorem dX5_ofBurst_20 : decode cX5_ofBurst 20 = .ok (.iaload, 1) := by decide +kernel
theorem dX5_ofBurst_21 : decode cX5_ofBurst 21 = .ok (.ireturn, 1) := by decide +kernel
set_option maxRecDepth 20000 in
theorem ggX5_count_X5_blackOnes : GoodIn wsX5_count wsX5_blackOnes := goodIn_r _ [8, 1, 9, 10, 11, 7, 12, 13, 14, 15, 16, 61, 62, 63, 64, 65, 66, 67, 68, 69, 70] (by decide +kernel) (by decide +kernel)
set_option maxRecDepth 20000 in
theorem gX5_count_X5_blackOnes : GoodIn wsX5_count (wsV RX5 77 RX5 yX5_blackOnes wsX5_blackOnes) := goodIn_app (goodIn_of _ (by decide +kernel)) ggX5_count_X5_blackOnes
set_option maxRecDepth 20000 in
theorem ggX5_count_X5_bits : GoodIn wsX5_count wsX5_bits := goodIn_r _ [19] (by decide +kernel) (by decide +kernel)
set_option maxRecDepth 20000 in
theorem gX5_count_X5_bits : GoodIn wsX5_count (va_wsS RX5 80 yX5_bits wsX5_bits) := goodIn_app (goodIn_of _ (by decide +kernel)) ggX5_count_X5_bits
set_option maxRecDepth 20000 in
theorem ggX5_count_X5_runsTo : GoodIn wsX5_count wsX5_runsTo := goodIn_r _ [23, 24, 25, 26, 7, 27, 1, 28, 29, 30, 31, 9, 10, 11, 12, 13, 14, 15, 16, 32, 33, 34, 35, 36, 37, 61, 62, 63, 64, 65, 66, 67, 68, 69, 70] (by decide +kernel) (by decide +kernel)
set_option maxRecDepth 20000 in
theorem gX5_count_X5_runsTo : GoodIn wsX5_count (wsV RX5 105 RX5 yX5_runsTo wsX5_runsTo) := goodIn_app (goodIn_of _ (by decide +kernel)) ggX5_count_X5_runsTo
set_option maxRecDepth 20000 in
theorem ggX5_count_X5_colours : GoodIn wsX5_count wsX5_colours := goodIn_r _ [41, 1, 24, 25, 26, 7, 27, 28, 29, 30, 31, 9, 10, 11, 12, 13, 14, 15, 16, 32, 33, 34, 35, 36, 37, 17, 18, 19, 61, 62, 63, 64, 65, 66, 67, 68, 69, 70] (by decide +kernel) (by decide +kernel)
set_option maxRecDepth 20000 in
theorem gX5_count_X5_colours : GoodIn wsX5_count (wsV RX5 108 RX5 yX5_colours wsX5_colours) := goodIn_app (goodIn_of _ (by decide +kernel)) ggX5_count_X5_colours
set_option maxRecDepth 20000 in
theorem ggX5_count_X5_greatestOrder : GoodIn wsX5_count wsX5_greatestOrder := goodIn_r _ [45, 1, 35, 36, 7, 37, 61, 62, 63, 64, 65, 66, 67, 68, 69, 70] (by decide +kernel) (by decide +kernel)
set_option maxRecDepth 20000 in
theorem gX5_count_X5_greatestOrder : GoodIn wsX5_count (wsV RX5 111 RX5 yX5_greatestOrder wsX5_greatestOrder) := goodIn_app (goodIn_of _ (by decide +kernel)) ggX5_count_X5_greatestOrder
set_option maxRecDepth 20000 in
theorem ggX5_count_X5_ofBurst : GoodIn wsX5_count wsX5_ofBurst := goodIn_r _ [49, 1, 61, 62, 63, 64, 65, 66, 67, 68, 69, 70] (by decide +kernel) (by decide +kernel)
set_option maxRecDepth 20000 in
theorem gX5_count_X5_ofBurst : GoodIn wsX5_count (wsV RX5 114 RX5 yX5_ofBurst wsX5_ofBurst) := goodIn_app (goodIn_of _ (by decide +kernel)) ggX5_count_X5_ofBurst
set_option maxRecDepth 20000 in
theorem ggX5_count_X5_in : GoodIn wsX5_count wsX5_in := goodIn_r _ [52] (by decide +kernel) (by decide +kernel)
set_option maxRecDepth 20000 in
theorem gX5_count_X5_in : GoodIn wsX5_count (va_wsS RX5 26 yX5_in wsX5_in) := goodIn_app (goodIn_of _ (by decide +kernel)) ggX5_count_X5_in
set_option maxRecDepth 20000 in
theorem ggX5_count_X5_account : GoodIn wsX5_count wsX5_account := goodIn_r _ [56, 1, 57, 58, 59, 7, 60, 61, 62, 63, 64, 65, 66, 67, 68, 69, 70] (by decide +kernel) (by decide +kernel)
set_option maxRecDepth 20000 in
theorem gX5_count_X5_account : GoodIn wsX5_count (wsV RX5 120 RX5 yX5_account wsX5_account) := goodIn_app (goodIn_of _ (by decide +kernel)) ggX5_count_X5_account
set_option maxRecDepth 20000 in
theorem ggX5_count_X5_of : GoodIn wsX5_count wsX5_of := goodIn_r _ [16, 1, 61, 62, 63, 64, 65, 66, 67, 68, 69, 70] (by decide +kernel) (by decide +kernel)
set_option maxRecDepth 20000 in
theorem gX5_count_X5_of : GoodIn wsX5_count (wsV RX5 34 RX5 yX5_of wsX5_of) := goodIn_app (goodIn_of _ (by decide +kernel)) ggX5_count_X5_of
theorem dX5_count_0 : decode cX5_count 0 = .ok (.iload_n 1, 1) := by decide +kernel
theorem dX5_count_1 : decode cX5_count 1 = .ok (.tableswitch 175 0 12 #[67, 74, 81, 89, 117, 122, 127, 135, 142, 149, 157, 165, 170], 67) := by decide +kernel
theorem dX5_count_68 : decode cX5_count 68 = .ok (.aload_n 0, 1) := by decide +kernel
theorem dX5_count_69 : decode cX5_count 69 = .ok (.getfield 7, 3) := by decide +kernel
theorem dX5_count_72 : decode cX5_count 72 = .ok (.iconst 0, 1) := by decide +kernel
theorem dX5_count_73 : decode cX5_count 73 = .ok (.iaload, 1) := by decide +kernel
theorem dX5_count_74 : decode cX5_count 74 = .ok (.ireturn, 1) := by decide +kernel
theorem dX5_count_75 : decode cX5_count 75 = .ok (.aload_n 0, 1) := by decide +kernel
theorem dX5_count_76 : decode cX5_count 76 = .ok (.getfield 7, 3) := by decide +kernel
theorem dX5_count_79 : decode cX5_count 79 = .ok (.iconst 1, 1) := by decide +kernel
theorem dX5_count_80 : decode cX5_count 80 = .ok (.iaload, 1) := by decide +kernel
theorem dX5_count_81 : decode cX5_count 81 = .ok (.ireturn, 1) := by decide +kernel
theorem dX5_count_82 : decode cX5_count 82 = .ok (.aload_n 0, 1) := by decide +kernel
theorem dX5_count_83 : decode cX5_count 83 = .ok (.invokevirtual 77, 3) := by decide +kernel
theorem dX5_count_86 : decode cX5_count 86 = .ok (.invokestatic 80, 3) := by decide +kernel
theorem dX5_count_89 : decode cX5_count 89 = .ok (.ireturn, 1) := by decide +kernel
theorem dX5_count_90 : decode cX5_count 90 = .ok (.aload_n 0, 1) := by decide +kernel
theorem dX5_count_91 : decode cX5_count 91 = .ok (.getfield 7, 3) := by decide +kernel
theorem dX5_count_94 : decode cX5_count 94 = .ok (.iconst 0, 1) := by decide +kernel
theorem dX5_count_95 : decode cX5_count 95 = .ok (.iaload, 1) := by decide +kernel
theorem dX5_count_96 : decode cX5_count 96 = .ok (.ifCond .ne 7, 3) := by decide +kernel
theorem dX5_count_99 : decode cX5_count 99 = .ok (.iconst 0, 1) := by decide +kernel
theorem dX5_count_100 : decode cX5_count 100 = .ok (.goto 17, 3) := by decide +kernel
theorem dX5_count_103 : decode cX5_count 103 = .ok (.aload_n 0, 1) := by decide +kernel
theorem dX5_count_104 : decode cX5_count 104 = .ok (.aload_n 0, 1) := by decide +kernel
theorem dX5_count_105 : decode cX5_count 105 = .ok (.getfield 7, 3) := by decide +kernel
theorem dX5_count_108 : decode cX5_count 108 = .ok (.iconst 0, 1) := by decide +kernel
theorem dX5_count_109 : decode cX5_count 109 = .ok (.iaload, 1) := by decide +kernel
theorem dX5_count_110 : decode cX5_count 110 = .ok (.iconst 1, 1) := by decide +kernel
theorem dX5_count_111 : decode cX5_count 111 = .ok (.isub, 1) := by decide +kernel
theorem dX5_count_112 : decode cX5_count 112 = .ok (.invokevirtual 105, 3) := by decide +kernel
theorem dX5_count_115 : decode cX5_count 115 = .ok (.iconst 1, 1) := by decide +kernel
theorem dX5_count_116 : decode cX5_count 116 = .ok (.isub, 1) := by decide +kernel
theorem dX5_count_117 : decode cX5_count 117 = .ok (.ireturn, 1) := by decide +kernel
theorem dX5_count_118 : decode cX5_count 118 = .ok (.aload_n 0, 1) := by decide +kernel
theorem dX5_count_119 : decode cX5_count 119 = .ok (.invokevirtual 108, 3) := by decide +kernel
theorem dX5_count_122 : decode cX5_count 122 = .ok (.ireturn, 1) := by decide +kernel
theorem dX5_count_123 : decode cX5_count 123 = .ok (.aload_n 0, 1) := by decide +kernel
theorem dX5_count_124 : decode cX5_count 124 = .ok (.invokevirtual 111, 3) := by decide +kernel
theorem dX5_count_127 : decode cX5_count 127 = .ok (.ireturn, 1) := by decide +kernel
theorem dX5_count_128 : decode cX5_count 128 = .ok (.aload_n 0, 1) := by decide +kernel
theorem dX5_count_129 : decode cX5_count 129 = .ok (.getfield 7, 3) := by decide +kernel
theorem dX5_count_132 : decode cX5_count 132 = .ok (.bipush 10, 2) := by decide +kernel
theorem dX5_count_134 : decode cX5_count 134 = .ok (.iaload, 1) := by decide +kernel
theorem dX5_count_135 : decode cX5_count 135 = .ok (.ireturn, 1) := by decide +kernel
theorem dX5_count_136 : decode cX5_count 136 = .ok (.aload_n 0, 1) := by decide +kernel
theorem dX5_count_137 : decode cX5_count 137 = .ok (.bipush 11, 2) := by decide +kernel
theorem dX5_count_139 : decode cX5_count 139 = .ok (.invokevirtual 114, 3) := by decide +kernel
theorem dX5_count_142 : decode cX5_count 142 = .ok (.ireturn, 1) := by decide +kernel
theorem dX5_count_143 : decode cX5_count 143 = .ok (.aload_n 0, 1) := by decide +kernel
theorem dX5_count_144 : decode cX5_count 144 = .ok (.bipush 12, 2) := by decide +kernel
theorem dX5_count_146 : decode cX5_count 146 = .ok (.invokevirtual 114, 3) := by decide +kernel
theorem dX5_count_149 : decode cX5_count 149 = .ok (.ireturn, 1) := by decide +kernel
theorem dX5_count_150 : decode cX5_count 150 = .ok (.aload_n 0, 1) := by decide +kernel
theorem dX5_count_151 : decode cX5_count 151 = .ok (.getfield 7, 3) := by decide +kernel
theorem dX5_count_154 : decode cX5_count 154 = .ok (.bipush 8, 2) := by decide +kernel
theorem dX5_count_156 : decode cX5_count 156 = .ok (.iaload, 1) := by decide +kernel
theorem dX5_count_157 : decode cX5_count 157 = .ok (.ireturn, 1) := by decide +kernel
theorem dX5_count_158 : decode cX5_count 158 = .ok (.aload_n 0, 1) := by decide +kernel
theorem dX5_count_159 : decode cX5_count 159 = .ok (.getfield 7, 3) := by decide +kernel
theorem dX5_count_162 : decode cX5_count 162 = .ok (.bipush 9, 2) := by decide +kernel
theorem dX5_count_164 : decode cX5_count 164 = .ok (.iaload, 1) := by decide +kernel
theorem dX5_count_165 : decode cX5_count 165 = .ok (.ireturn, 1) := by decide +kernel
theorem dX5_count_166 : decode cX5_count 166 = .ok (.aload_n 0, 1) := by decide +kernel
theorem dX5_count_167 : decode cX5_count 167 = .ok (.getfield 22, 3) := by decide +kernel
theorem dX5_count_170 : decode cX5_count 170 = .ok (.ireturn, 1) := by decide +kernel
theorem dX5_count_171 : decode cX5_count 171 = .ok (.aload_n 0, 1) := by decide +kernel
theorem dX5_count_172 : decode cX5_count 172 = .ok (.getfield 117, 3) := by decide +kernel
theorem dX5_count_175 : decode cX5_count 175 = .ok (.ireturn, 1) := by decide +kernel
theorem dX5_count_176 : decode cX5_count 176 = .ok (.iload_n 1, 1) := by decide +kernel
theorem dX5_count_177 : decode cX5_count 177 = .ok (.bipush 20, 2) := by decide +kernel
theorem dX5_count_179 : decode cX5_count 179 = .ok (.bipush 26, 2) := by decide +kernel
theorem dX5_count_181 : decode cX5_count 181 = .ok (.invokestatic 26, 3) := by decide +kernel
theorem dX5_count_184 : decode cX5_count 184 = .ok (.ifCond .eq 14, 3) := by decide +kernel
theorem dX5_count_187 : decode cX5_count 187 = .ok (.aload_n 0, 1) := by decide +kernel
theorem dX5_count_188 : decode cX5_count 188 = .ok (.iload_n 1, 1) := by decide +kernel
theorem dX5_count_189 : decode cX5_count 189 = .ok (.bipush 20, 2) := by decide +kernel
theorem dX5_count_191 : decode cX5_count 191 = .ok (.isub, 1) := by decide +kernel
theorem dX5_count_192 : decode cX5_count 192 = .ok (.invokevirtual 120, 3) := by decide +kernel
theorem dX5_count_195 : decode cX5_count 195 = .ok (.goto 26, 3) := by decide +kernel
theorem dX5_count_198 : decode cX5_count 198 = .ok (.iload_n 1, 1) := by decide +kernel
theorem dX5_count_199 : decode cX5_count 199 = .ok (.bipush 30, 2) := by decide +kernel
theorem dX5_count_201 : decode cX5_count 201 = .ok (.bipush 36, 2) := by decide +kernel
theorem dX5_count_203 : decode cX5_count 203 = .ok (.invokestatic 26, 3) := by decide +kernel
theorem dX5_count_206 : decode cX5_count 206 = .ok (.ifCond .eq 14, 3) := by decide +kernel
theorem dX5_count_209 : decode cX5_count 209 = .ok (.aload_n 0, 1) := by decide +kernel
theorem dX5_count_210 : decode cX5_count 210 = .ok (.iload_n 1, 1) := by decide +kernel
theorem dX5_count_211 : decode cX5_count 211 = .ok (.bipush 30, 2) := by decide +kernel
theorem dX5_count_213 : decode cX5_count 213 = .ok (.isub, 1) := by decide +kernel
theorem dX5_count_214 : decode cX5_count 214 = .ok (.invokevirtual 34, 3) := by decide +kernel
theorem dX5_count_217 : decode cX5_count 217 = .ok (.goto 4, 3) := by decide +kernel
theorem dX5_count_220 : decode cX5_count 220 = .ok (.iconst (-1), 1) := by decide +kernel
theorem dX5_count_221 : decode cX5_count 221 = .ok (.ireturn, 1) := by decide +kernel
set_option maxRecDepth 20000 in
theorem ggX5_ladder_X5_runsTo : GoodIn wsX5_ladder wsX5_runsTo := goodIn_r _ [6, 7, 8, 9, 5, 10, 1, 11, 12, 13, 14, 15, 16, 17, 18, 19, 20, 21, 22, 23, 24, 25, 26, 27, 28, 29, 30, 31, 32, 33, 34, 35, 36, 37, 38] (by decide +kernel) (by decide +kernel)
set_option maxRecDepth 20000 in
theorem gX5_ladder_X5_runsTo : GoodIn wsX5_ladder (wsV RX5 105 RX5 yX5_runsTo wsX5_runsTo) := goodIn_app (goodIn_of _ (by decide +kernel)) ggX5_ladder_X5_runsTo
set_option maxRecDepth 20000 in
theorem ggX5_ladder_X5_colourAt : GoodIn wsX5_ladder wsX5_colourAt := goodIn_r _ [10, 1, 11, 12, 13, 5, 14, 15, 16, 17, 18, 19, 20, 21, 22, 23, 24, 25, 26, 27, 28, 29, 30, 31, 32, 33, 34, 35, 36, 37, 38] (by decide +kernel) (by decide +kernel)
set_option maxRecDepth 20000 in
theorem gX5_ladder_X5_colourAt : GoodIn wsX5_ladder (wsV RX5 102 RX5 yX5_colourAt wsX5_colourAt) := goodIn_app (goodIn_of _ (by decide +kernel)) ggX5_ladder_X5_colourAt
theorem dX5_ladder_0 : decode cX5_ladder 0 = .ok (.iload_n 1, 1) := by decide +kernel
theorem dX5_ladder_1 : decode cX5_ladder 1 = .ok (.ifCond .ge 5, 3) := by decide +kernel
theorem dX5_ladder_4 : decode cX5_ladder 4 = .ok (.iconst (-1), 1) := by decide +kernel
theorem dX5_ladder_5 : decode cX5_ladder 5 = .ok (.ireturn, 1) := by decide +kernel
theorem dX5_ladder_6 : decode cX5_ladder 6 = .ok (.iconst 0, 1) := by decide +kernel
theorem dX5_ladder_7 : decode cX5_ladder 7 = .ok (.istore_n 2, 1) := by decide +kernel
theorem dX5_ladder_8 : decode cX5_ladder 8 = .ok (.iload_n 2, 1) := by decide +kernel
theorem dX5_ladder_9 : decode cX5_ladder 9 = .ok (.aload_n 0, 1) := by decide +kernel
theorem dX5_ladder_10 : decode cX5_ladder 10 = .ok (.getfield 7, 3) := by decide +kernel
theorem dX5_ladder_13 : decode cX5_ladder 13 = .ok (.iconst 0, 1) := by decide +kernel
theorem dX5_ladder_14 : decode cX5_ladder 14 = .ok (.iaload, 1) := by decide +kernel
theorem dX5_ladder_15 : decode cX5_ladder 15 = .ok (.if_icmp .ge 26, 3) := by decide +kernel
theorem dX5_ladder_18 : decode cX5_ladder 18 = .ok (.aload_n 0, 1) := by decide +kernel
theorem dX5_ladder_19 : decode cX5_ladder 19 = .ok (.iload_n 2, 1) := by decide +kernel
theorem dX5_ladder_20 : decode cX5_ladder 20 = .ok (.invokevirtual 105, 3) := by decide +kernel
theorem dX5_ladder_23 : decode cX5_ladder 23 = .ok (.iconst 1, 1) := by decide +kernel
theorem dX5_ladder_24 : decode cX5_ladder 24 = .ok (.isub, 1) := by decide +kernel
theorem dX5_ladder_25 : decode cX5_ladder 25 = .ok (.iload_n 1, 1) := by decide +kernel
theorem dX5_ladder_26 : decode cX5_ladder 26 = .ok (.if_icmp .ne 9, 3) := by decide +kernel
theorem dX5_ladder_29 : decode cX5_ladder 29 = .ok (.aload_n 0, 1) := by decide +kernel
theorem dX5_ladder_30 : decode cX5_ladder 30 = .ok (.iload_n 2, 1) := by decide +kernel
theorem dX5_ladder_31 : decode cX5_ladder 31 = .ok (.invokevirtual 102, 3) := by decide +kernel
theorem dX5_ladder_34 : decode cX5_ladder 34 = .ok (.ireturn, 1) := by decide +kernel
theorem dX5_ladder_35 : decode cX5_ladder 35 = .ok (.iinc 2 1, 3) := by decide +kernel
theorem dX5_ladder_38 : decode cX5_ladder 38 = .ok (.goto (-30), 3) := by decide +kernel
theorem dX5_ladder_41 : decode cX5_ladder 41 = .ok (.bipush (-4), 2) := by decide +kernel
theorem dX5_ladder_43 : decode cX5_ladder 43 = .ok (.ireturn, 1) := by decide +kernel
set_option maxRecDepth 20000 in
theorem ggX5_isColour_X5_in : GoodIn wsX5_isColour wsX5_in := goodIn_r _ [4] (by decide +kernel) (by decide +kernel)
set_option maxRecDepth 20000 in
theorem gX5_isColour_X5_in : GoodIn wsX5_isColour (va_wsS RX5 26 yX5_in wsX5_in) := goodIn_app (goodIn_of _ (by decide +kernel)) ggX5_isColour_X5_in
theorem dX5_isColour_0 : decode cX5_isColour 0 = .ok (.iload_n 0, 1) := by decide +kernel
theorem dX5_isColour_1 : decode cX5_isColour 1 = .ok (.iconst 0, 1) := by decide +kernel
theorem dX5_isColour_2 : decode cX5_isColour 2 = .ok (.bipush 7, 2) := by decide +kernel
theorem dX5_isColour_4 : decode cX5_isColour 4 = .ok (.invokestatic 26, 3) := by decide +kernel
theorem dX5_isColour_7 : decode cX5_isColour 7 = .ok (.ireturn, 1) := by decide +kernel
set_option maxRecDepth 20000 in
theorem ggX5_find_X5_isColour : GoodIn wsX5_find wsX5_isColour := goodIn_r _ [5, 6, 7, 4, 8] (by decide +kernel) (by decide +kernel)
set_option maxRecDepth 20000 in
theorem gX5_find_X5_isColour : GoodIn wsX5_find (va_wsS RX5 123 yX5_isColour wsX5_isColour) := goodIn_app (goodIn_of _ (by decide +kernel)) ggX5_find_X5_isColour
set_option maxRecDepth 20000 in
theorem ggX5_find_X5_colourAt : GoodIn wsX5_find wsX5_colourAt := goodIn_r _ [12, 1, 13, 14, 15, 4, 16, 17, 18, 19, 20, 21, 22, 23, 24, 25, 26, 27, 28, 29, 30, 31, 32, 33, 34, 35, 36, 37, 38, 39, 40] (by decide +kernel) (by decide +kernel)
set_option maxRecDepth 20000 in
theorem gX5_find_X5_colourAt : GoodIn wsX5_find (wsV RX5 102 RX5 yX5_colourAt wsX5_colourAt) := goodIn_app (goodIn_of _ (by decide +kernel)) ggX5_find_X5_colourAt
theorem dX5_find_0 : decode cX5_find 0 = .ok (.iload_n 1, 1) := by decide +kernel
theorem dX5_find_1 : decode cX5_find 1 = .ok (.invokestatic 123, 3) := by decide +kernel
theorem dX5_find_4 : decode cX5_find 4 = .ok (.ifCond .eq 7, 3) := by decide +kernel
theorem dX5_find_7 : decode cX5_find 7 = .ok (.iload_n 2, 1) := by decide +kernel
theorem dX5_find_8 : decode cX5_find 8 = .ok (.ifCond .ge 5, 3) := by decide +kernel
theorem dX5_find_11 : decode cX5_find 11 = .ok (.iconst (-1), 1) := by decide +kernel
theorem dX5_find_12 : decode cX5_find 12 = .ok (.ireturn, 1) := by decide +kernel
theorem dX5_find_13 : decode cX5_find 13 = .ok (.iload_n 2, 1) := by decide +kernel
theorem dX5_find_14 : decode cX5_find 14 = .ok (.istore_n 3, 1) := by decide +kernel
theorem dX5_find_15 : decode cX5_find 15 = .ok (.iload_n 3, 1) := by decide +kernel
theorem dX5_find_16 : decode cX5_find 16 = .ok (.aload_n 0, 1) := by decide +kernel
theorem dX5_find_17 : decode cX5_find 17 = .ok (.getfield 7, 3) := by decide +kernel
theorem dX5_find_20 : decode cX5_find 20 = .ok (.iconst 0, 1) := by decide +kernel
theorem dX5_find_21 : decode cX5_find 21 = .ok (.iaload, 1) := by decide +kernel
theorem dX5_find_22 : decode cX5_find 22 = .ok (.if_icmp .ge 20, 3) := by decide +kernel
theorem dX5_find_25 : decode cX5_find 25 = .ok (.aload_n 0, 1) := by decide +kernel
theorem dX5_find_26 : decode cX5_find 26 = .ok (.iload_n 3, 1) := by decide +kernel
theorem dX5_find_27 : decode cX5_find 27 = .ok (.invokevirtual 102, 3) := by decide +kernel
theorem dX5_find_30 : decode cX5_find 30 = .ok (.iload_n 1, 1) := by decide +kernel
theorem dX5_find_31 : decode cX5_find 31 = .ok (.if_icmp .ne 5, 3) := by decide +kernel
theorem dX5_find_34 : decode cX5_find 34 = .ok (.iload_n 3, 1) := by decide +kernel
theorem dX5_find_35 : decode cX5_find 35 = .ok (.ireturn, 1) := by decide +kernel
theorem dX5_find_36 : decode cX5_find 36 = .ok (.iinc 3 1, 3) := by decide +kernel
theorem dX5_find_39 : decode cX5_find 39 = .ok (.goto (-24), 3) := by decide +kernel
theorem dX5_find_42 : decode cX5_find 42 = .ok (.bipush (-4), 2) := by decide +kernel
theorem dX5_find_44 : decode cX5_find 44 = .ok (.ireturn, 1) := by decide +kernel
set_option maxRecDepth 20000 in
theorem ggX5_colourOf_X5_in : GoodIn wsX5_colourOf wsX5_in := goodIn_r _ [4] (by decide +kernel) (by decide +kernel)
set_option maxRecDepth 20000 in
theorem gX5_colourOf_X5_in : GoodIn wsX5_colourOf (va_wsS RX5 26 yX5_in wsX5_in) := goodIn_app (goodIn_of _ (by decide +kernel)) ggX5_colourOf_X5_in
set_option maxRecDepth 20000 in
theorem ggX5_colourOf_X5_colour : GoodIn wsX5_colourOf wsX5_colour := goodIn_r _ [8, 9, 10, 11, 3, 12, 13, 14, 15, 16, 17, 18, 19, 20, 21, 22, 23, 24, 25, 26, 27, 28, 29, 30, 31, 32, 33] (by decide +kernel) (by decide +kernel)
set_option maxRecDepth 20000 in
theorem gX5_colourOf_X5_colour : GoodIn wsX5_colourOf (wsV RX5 45 RX5 yX5_colour wsX5_colour) := goodIn_app (goodIn_of _ (by decide +kernel)) ggX5_colourOf_X5_colour
theorem dX5_colourOf_0 : decode cX5_colourOf 0 = .ok (.iload_n 1, 1) := by decide +kernel
theorem dX5_colourOf_1 : decode cX5_colourOf 1 = .ok (.iconst 0, 1) := by decide +kernel
theorem dX5_colourOf_2 : decode cX5_colourOf 2 = .ok (.sipush 5000, 3) := by decide +kernel
theorem dX5_colourOf_5 : decode cX5_colourOf 5 = .ok (.invokestatic 26, 3) := by decide +kernel
theorem dX5_colourOf_8 : decode cX5_colourOf 8 = .ok (.ifCond .eq 11, 3) := by decide +kernel
theorem dX5_colourOf_11 : decode cX5_colourOf 11 = .ok (.aload_n 0, 1) := by decide +kernel
theorem dX5_colourOf_12 : decode cX5_colourOf 12 = .ok (.iload_n 1, 1) := by decide +kernel
theorem dX5_colourOf_13 : decode cX5_colourOf 13 = .ok (.invokevirtual 45, 3) := by decide +kernel
theorem dX5_colourOf_16 : decode cX5_colourOf 16 = .ok (.goto 4, 3) := by decide +kernel
theorem dX5_colourOf_19 : decode cX5_colourOf 19 = .ok (.iconst (-1), 1) := by decide +kernel
theorem dX5_colourOf_20 : decode cX5_colourOf 20 = .ok (.ireturn, 1) := by decide +kernel
set_option maxRecDepth 20000 in
theorem ggX5_thicknessFor_X5_isColour : GoodIn wsX5_thicknessFor wsX5_isColour := goodIn_r _ [4, 5, 6, 3, 7] (by decide +kernel) (by decide +kernel)
set_option maxRecDepth 20000 in
theorem gX5_thicknessFor_X5_isColour : GoodIn wsX5_thicknessFor (va_wsS RX5 123 yX5_isColour wsX5_isColour) := goodIn_app (goodIn_of _ (by decide +kernel)) ggX5_thicknessFor_X5_isColour
set_option maxRecDepth 20000 in
theorem ggX5_thicknessFor_X5_in : GoodIn wsX5_thicknessFor wsX5_in := goodIn_r _ [7] (by decide +kernel) (by decide +kernel)
set_option maxRecDepth 20000 in
theorem gX5_thicknessFor_X5_in : GoodIn wsX5_thicknessFor (va_wsS RX5 26 yX5_in wsX5_in) := goodIn_app (goodIn_of _ (by decide +kernel)) ggX5_thicknessFor_X5_in
set_option maxRecDepth 20000 in
theorem ggX5_thicknessFor_X5_colour : GoodIn wsX5_thicknessFor wsX5_colour := goodIn_r _ [11, 12, 13, 14, 3, 15, 16, 17, 18, 19, 20, 21, 22, 23, 24, 25, 26, 27, 28, 29, 30, 31, 32, 33, 34, 35, 36] (by decide +kernel) (by decide +kernel)
set_option maxRecDepth 20000 in
theorem gX5_thicknessFor_X5_colour : GoodIn wsX5_thicknessFor (wsV RX5 45 RX5 yX5_colour wsX5_colour) := goodIn_app (goodIn_of _ (by decide +kernel)) ggX5_thicknessFor_X5_colour
theorem dX5_thicknessFor_0 : decode cX5_thicknessFor 0 = .ok (.iload_n 1, 1) := by decide +kernel
theorem dX5_thicknessFor_1 : decode cX5_thicknessFor 1 = .ok (.invokestatic 123, 3) := by decide +kernel
theorem dX5_thicknessFor_4 : decode cX5_thicknessFor 4 = .ok (.ifCond .eq 14, 3) := by decide +kernel
theorem dX5_thicknessFor_7 : decode cX5_thicknessFor 7 = .ok (.iload_n 2, 1) := by decide +kernel
theorem dX5_thicknessFor_8 : decode cX5_thicknessFor 8 = .ok (.iconst 0, 1) := by decide +kernel
theorem dX5_thicknessFor_9 : decode cX5_thicknessFor 9 = .ok (.sipush 5000, 3) := by decide +kernel
theorem dX5_thicknessFor_12 : decode cX5_thicknessFor 12 = .ok (.invokestatic 26, 3) := by decide +kernel
theorem dX5_thicknessFor_15 : decode cX5_thicknessFor 15 = .ok (.ifCond .ne 5, 3) := by decide +kernel
theorem dX5_thicknessFor_18 : decode cX5_thicknessFor 18 = .ok (.iconst (-1), 1) := by decide +kernel
theorem dX5_thicknessFor_19 : decode cX5_thicknessFor 19 = .ok (.ireturn, 1) := by decide +kernel
theorem dX5_thicknessFor_20 : decode cX5_thicknessFor 20 = .ok (.iload_n 2, 1) := by decide +kernel
theorem dX5_thicknessFor_21 : decode cX5_thicknessFor 21 = .ok (.istore_n 3, 1) := by decide +kernel
theorem dX5_thicknessFor_22 : decode cX5_thicknessFor 22 = .ok (.iload_n 3, 1) := by decide +kernel
theorem dX5_thicknessFor_23 : decode cX5_thicknessFor 23 = .ok (.sipush 5000, 3) := by decide +kernel
theorem dX5_thicknessFor_26 : decode cX5_thicknessFor 26 = .ok (.if_icmp .gt 20, 3) := by decide +kernel
theorem dX5_thicknessFor_29 : decode cX5_thicknessFor 29 = .ok (.aload_n 0, 1) := by decide +kernel
theorem dX5_thicknessFor_30 : decode cX5_thicknessFor 30 = .ok (.iload_n 3, 1) := by decide +kernel
theorem dX5_thicknessFor_31 : decode cX5_thicknessFor 31 = .ok (.invokevirtual 45, 3) := by decide +kernel
theorem dX5_thicknessFor_34 : decode cX5_thicknessFor 34 = .ok (.iload_n 1, 1) := by decide +kernel
theorem dX5_thicknessFor_35 : decode cX5_thicknessFor 35 = .ok (.if_icmp .ne 5, 3) := by decide +kernel
theorem dX5_thicknessFor_38 : decode cX5_thicknessFor 38 = .ok (.iload_n 3, 1) := by decide +kernel
theorem dX5_thicknessFor_39 : decode cX5_thicknessFor 39 = .ok (.ireturn, 1) := by decide +kernel
theorem dX5_thicknessFor_40 : decode cX5_thicknessFor 40 = .ok (.iinc 3 1, 3) := by decide +kernel
theorem dX5_thicknessFor_43 : decode cX5_thicknessFor 43 = .ok (.goto (-21), 3) := by decide +kernel
theorem dX5_thicknessFor_46 : decode cX5_thicknessFor 46 = .ok (.bipush (-4), 2) := by decide +kernel
theorem dX5_thicknessFor_48 : decode cX5_thicknessFor 48 = .ok (.ireturn, 1) := by decide +kernel
set_option maxRecDepth 20000 in
theorem ggX5_isQuestion_X5_in : GoodIn wsX5_isQuestion wsX5_in := goodIn_r _ [4] (by decide +kernel) (by decide +kernel)
set_option maxRecDepth 20000 in
theorem gX5_isQuestion_X5_in : GoodIn wsX5_isQuestion (va_wsS RX5 26 yX5_in wsX5_in) := goodIn_app (goodIn_of _ (by decide +kernel)) ggX5_isQuestion_X5_in
set_option maxRecDepth 20000 in
theorem ggX5_isQuestion_X5_isColour : GoodIn wsX5_isQuestion wsX5_isColour := goodIn_r _ [7, 1, 2, 3, 4] (by decide +kernel) (by decide +kernel)
set_option maxRecDepth 20000 in
theorem gX5_isQuestion_X5_isColour : GoodIn wsX5_isQuestion (va_wsS RX5 123 yX5_isColour wsX5_isColour) := goodIn_app (goodIn_of _ (by decide +kernel)) ggX5_isQuestion_X5_isColour
theorem dX5_isQuestion_0 : decode cX5_isQuestion 0 = .ok (.iload_n 0, 1) := by decide +kernel
theorem dX5_isQuestion_1 : decode cX5_isQuestion 1 = .ok (.tableswitch 50 0 2 #[27, 37, 45], 27) := by decide +kernel
theorem dX5_isQuestion_28 : decode cX5_isQuestion 28 = .ok (.iload_n 1, 1) := by decide +kernel
theorem dX5_isQuestion_29 : decode cX5_isQuestion 29 = .ok (.ifCond .ne 7, 3) := by decide +kernel
theorem dX5_isQuestion_32 : decode cX5_isQuestion 32 = .ok (.iconst 1, 1) := by decide +kernel
theorem dX5_isQuestion_33 : decode cX5_isQuestion 33 = .ok (.goto 4, 3) := by decide +kernel
theorem dX5_isQuestion_36 : decode cX5_isQuestion 36 = .ok (.iconst 0, 1) := by decide +kernel
theorem dX5_isQuestion_37 : decode cX5_isQuestion 37 = .ok (.ireturn, 1) := by decide +kernel
theorem dX5_isQuestion_38 : decode cX5_isQuestion 38 = .ok (.iload_n 1, 1) := by decide +kernel
theorem dX5_isQuestion_39 : decode cX5_isQuestion 39 = .ok (.iconst 1, 1) := by decide +kernel
theorem dX5_isQuestion_40 : decode cX5_isQuestion 40 = .ok (.bipush 24, 2) := by decide +kernel
theorem dX5_isQuestion_42 : decode cX5_isQuestion 42 = .ok (.invokestatic 26, 3) := by decide +kernel
theorem dX5_isQuestion_45 : decode cX5_isQuestion 45 = .ok (.ireturn, 1) := by decide +kernel
theorem dX5_isQuestion_46 : decode cX5_isQuestion 46 = .ok (.iload_n 1, 1) := by decide +kernel
theorem dX5_isQuestion_47 : decode cX5_isQuestion 47 = .ok (.invokestatic 123, 3) := by decide +kernel
theorem dX5_isQuestion_50 : decode cX5_isQuestion 50 = .ok (.ireturn, 1) := by decide +kernel
theorem dX5_isQuestion_51 : decode cX5_isQuestion 51 = .ok (.iload_n 0, 1) := by decide +kernel
theorem dX5_isQuestion_52 : decode cX5_isQuestion 52 = .ok (.iconst 3, 1) := by decide +kernel
theorem dX5_isQuestion_53 : decode cX5_isQuestion 53 = .ok (.if_icmp .ne 17, 3) := by decide +kernel
theorem dX5_isQuestion_56 : decode cX5_isQuestion 56 = .ok (.iload_n 1, 1) := by decide +kernel
theorem dX5_isQuestion_57 : decode cX5_isQuestion 57 = .ok (.iconst 1, 1) := by decide +kernel
theorem dX5_isQuestion_58 : decode cX5_isQuestion 58 = .ok (.bipush 100, 2) := by decide +kernel
theorem dX5_isQuestion_60 : decode cX5_isQuestion 60 = .ok (.invokestatic 26, 3) := by decide +kernel
theorem dX5_isQuestion_63 : decode cX5_isQuestion 63 = .ok (.ifCond .eq 7, 3) := by decide +kernel
theorem dX5_isQuestion_66 : decode cX5_isQuestion 66 = .ok (.iconst 1, 1) := by decide +kernel
theorem dX5_isQuestion_67 : decode cX5_isQuestion 67 = .ok (.goto 4, 3) := by decide +kernel
theorem dX5_isQuestion_70 : decode cX5_isQuestion 70 = .ok (.iconst 0, 1) := by decide +kernel
theorem dX5_isQuestion_71 : decode cX5_isQuestion 71 = .ok (.ireturn, 1) := by decide +kernel
set_option maxRecDepth 20000 in
theorem ggX5_isSo_X5_blackOnes : GoodIn wsX5_isSo wsX5_blackOnes := goodIn_r _ [7, 1, 8, 9, 10, 6, 11, 12, 13, 14, 15, 33, 34, 35, 36, 37, 38, 39, 40, 41, 42] (by decide +kernel) (by decide +kernel)
set_option maxRecDepth 20000 in
theorem gX5_isSo_X5_blackOnes : GoodIn wsX5_isSo (wsV RX5 77 RX5 yX5_blackOnes wsX5_blackOnes) := goodIn_app (goodIn_of _ (by decide +kernel)) ggX5_isSo_X5_blackOnes
set_option maxRecDepth 20000 in
theorem ggX5_isSo_X5_bits : GoodIn wsX5_isSo wsX5_bits := goodIn_r _ [18] (by decide +kernel) (by decide +kernel)
set_option maxRecDepth 20000 in
theorem gX5_isSo_X5_bits : GoodIn wsX5_isSo (va_wsS RX5 80 yX5_bits wsX5_bits) := goodIn_app (goodIn_of _ (by decide +kernel)) ggX5_isSo_X5_bits
set_option maxRecDepth 20000 in
theorem ggX5_isSo_X5_colourAt : GoodIn wsX5_isSo wsX5_colourAt := goodIn_r _ [22, 1, 23, 24, 25, 6, 26, 8, 9, 10, 11, 12, 13, 14, 15, 27, 28, 29, 30, 31, 32, 33, 34, 35, 36, 37, 38, 39, 40, 41, 42] (by decide +kernel) (by decide +kernel)
set_option maxRecDepth 20000 in
theorem gX5_isSo_X5_colourAt : GoodIn wsX5_isSo (wsV RX5 102 RX5 yX5_colourAt wsX5_colourAt) := goodIn_app (goodIn_of _ (by decide +kernel)) ggX5_isSo_X5_colourAt
theorem dX5_isSo_0 : decode cX5_isSo 0 = .ok (.iload_n 1, 1) := by decide +kernel
theorem dX5_isSo_1 : decode cX5_isSo 1 = .ok (.tableswitch 83 0 2 #[27, 42, 59], 27) := by decide +kernel
theorem dX5_isSo_28 : decode cX5_isSo 28 = .ok (.aload_n 0, 1) := by decide +kernel
theorem dX5_isSo_29 : decode cX5_isSo 29 = .ok (.getfield 7, 3) := by decide +kernel
theorem dX5_isSo_32 : decode cX5_isSo 32 = .ok (.iconst 0, 1) := by decide +kernel
theorem dX5_isSo_33 : decode cX5_isSo 33 = .ok (.iaload, 1) := by decide +kernel
theorem dX5_isSo_34 : decode cX5_isSo 34 = .ok (.ifCond .ne 7, 3) := by decide +kernel
theorem dX5_isSo_37 : decode cX5_isSo 37 = .ok (.iconst 1, 1) := by decide +kernel
theorem dX5_isSo_38 : decode cX5_isSo 38 = .ok (.goto 4, 3) := by decide +kernel
theorem dX5_isSo_41 : decode cX5_isSo 41 = .ok (.iconst 0, 1) := by decide +kernel
theorem dX5_isSo_42 : decode cX5_isSo 42 = .ok (.ireturn, 1) := by decide +kernel
theorem dX5_isSo_43 : decode cX5_isSo 43 = .ok (.aload_n 0, 1) := by decide +kernel
theorem dX5_isSo_44 : decode cX5_isSo 44 = .ok (.invokevirtual 77, 3) := by decide +kernel
theorem dX5_isSo_47 : decode cX5_isSo 47 = .ok (.invokestatic 80, 3) := by decide +kernel
theorem dX5_isSo_50 : decode cX5_isSo 50 = .ok (.iload_n 2, 1) := by decide +kernel
theorem dX5_isSo_51 : decode cX5_isSo 51 = .ok (.if_icmp .lt 7, 3) := by decide +kernel
theorem dX5_isSo_54 : decode cX5_isSo 54 = .ok (.iconst 1, 1) := by decide +kernel
theorem dX5_isSo_55 : decode cX5_isSo 55 = .ok (.goto 4, 3) := by decide +kernel
theorem dX5_isSo_58 : decode cX5_isSo 58 = .ok (.iconst 0, 1) := by decide +kernel
theorem dX5_isSo_59 : decode cX5_isSo 59 = .ok (.ireturn, 1) := by decide +kernel
theorem dX5_isSo_60 : decode cX5_isSo 60 = .ok (.aload_n 0, 1) := by decide +kernel
theorem dX5_isSo_61 : decode cX5_isSo 61 = .ok (.getfield 7, 3) := by decide +kernel
theorem dX5_isSo_64 : decode cX5_isSo 64 = .ok (.iconst 0, 1) := by decide +kernel
theorem dX5_isSo_65 : decode cX5_isSo 65 = .ok (.iaload, 1) := by decide +kernel
theorem dX5_isSo_66 : decode cX5_isSo 66 = .ok (.ifCond .le 16, 3) := by decide +kernel
theorem dX5_isSo_69 : decode cX5_isSo 69 = .ok (.aload_n 0, 1) := by decide +kernel
theorem dX5_isSo_70 : decode cX5_isSo 70 = .ok (.iconst 0, 1) := by decide +kernel
theorem dX5_isSo_71 : decode cX5_isSo 71 = .ok (.invokevirtual 102, 3) := by decide +kernel
theorem dX5_isSo_74 : decode cX5_isSo 74 = .ok (.iload_n 2, 1) := by decide +kernel
theorem dX5_isSo_75 : decode cX5_isSo 75 = .ok (.if_icmp .ne 7, 3) := by decide +kernel
theorem dX5_isSo_78 : decode cX5_isSo 78 = .ok (.iconst 1, 1) := by decide +kernel
theorem dX5_isSo_79 : decode cX5_isSo 79 = .ok (.goto 4, 3) := by decide +kernel
theorem dX5_isSo_82 : decode cX5_isSo 82 = .ok (.iconst 0, 1) := by decide +kernel
theorem dX5_isSo_83 : decode cX5_isSo 83 = .ok (.ireturn, 1) := by decide +kernel
theorem dX5_isSo_84 : decode cX5_isSo 84 = .ok (.aload_n 0, 1) := by decide +kernel
theorem dX5_isSo_85 : decode cX5_isSo 85 = .ok (.getfield 7, 3) := by decide +kernel
theorem dX5_isSo_88 : decode cX5_isSo 88 = .ok (.bipush 9, 2) := by decide +kernel
theorem dX5_isSo_90 : decode cX5_isSo 90 = .ok (.iaload, 1) := by decide +kernel
theorem dX5_isSo_91 : decode cX5_isSo 91 = .ok (.aload_n 0, 1) := by decide +kernel
theorem dX5_isSo_92 : decode cX5_isSo 92 = .ok (.getfield 16, 3) := by decide +kernel
theorem dX5_isSo_95 : decode cX5_isSo 95 = .ok (.bipush 9, 2) := by decide +kernel
theorem dX5_isSo_97 : decode cX5_isSo 97 = .ok (.iaload, 1) := by decide +kernel
theorem dX5_isSo_98 : decode cX5_isSo 98 = .ok (.isub, 1) := by decide +kernel
theorem dX5_isSo_99 : decode cX5_isSo 99 = .ok (.iload_n 2, 1) := by decide +kernel
theorem dX5_isSo_100 : decode cX5_isSo 100 = .ok (.if_icmp .lt 7, 3) := by decide +kernel
theorem dX5_isSo_103 : decode cX5_isSo 103 = .ok (.iconst 1, 1) := by decide +kernel
theorem dX5_isSo_104 : decode cX5_isSo 104 = .ok (.goto 4, 3) := by decide +kernel
theorem dX5_isSo_107 : decode cX5_isSo 107 = .ok (.iconst 0, 1) := by decide +kernel
theorem dX5_isSo_108 : decode cX5_isSo 108 = .ok (.ireturn, 1) := by decide +kernel
set_option maxRecDepth 20000 in
theorem ggX5_until_X5_isQuestion : GoodIn wsX5_until wsX5_isQuestion := goodIn_r _ [4, 5, 6, 3, 7, 8, 9, 10] (by decide +kernel) (by decide +kernel)
set_option maxRecDepth 20000 in
theorem gX5_until_X5_isQuestion : GoodIn wsX5_until (va_wsS RX5 126 yX5_isQuestion wsX5_isQuestion) := goodIn_app (goodIn_of _ (by decide +kernel)) ggX5_until_X5_isQuestion
set_option maxRecDepth 20000 in
theorem ggX5_until_X5_laysAside : GoodIn wsX5_until wsX5_laysAside := goodIn_r _ [14, 15, 16, 82, 83, 84, 85, 86, 87, 88, 89, 90, 91] (by decide +kernel) (by decide +kernel)
set_option maxRecDepth 20000 in
theorem gX5_until_X5_laysAside : GoodIn wsX5_until (wsV RX5 129 RX5 yX5_laysAside wsX5_laysAside) := goodIn_app (goodIn_of _ (by decide +kernel)) ggX5_until_X5_laysAside
set_option maxRecDepth 20000 in
theorem ggX5_until_X5_isSo : GoodIn wsX5_until wsX5_isSo := goodIn_r _ [20, 16, 15, 21, 22, 23, 3, 24, 25, 26, 27, 28, 29, 30, 31, 32, 33, 34, 35, 36, 37, 38, 39, 40, 41, 42, 43, 44, 45, 46, 47, 48, 49, 82, 83, 84, 85, 86, 87, 88, 89, 90, 91] (by decide +kernel) (by decide +kernel)
set_option maxRecDepth 20000 in
theorem gX5_until_X5_isSo : GoodIn wsX5_until (wsV RX5 132 RX5 yX5_isSo wsX5_isSo) := goodIn_app (goodIn_of _ (by decide +kernel)) ggX5_until_X5_isSo
set_option maxRecDepth 20000 in
theorem ggX5_until_X5_tick : GoodIn wsX5_until wsX5_tick := goodIn_r _ [53, 16, 54, 55, 56, 3, 57, 58, 29, 30, 31, 32, 59, 60, 61, 62, 63, 64, 65, 21, 22, 23, 24, 25, 26, 27, 28, 66, 67, 68, 69, 70, 71, 72, 73, 74, 75, 76, 77, 33, 34, 35, 82, 83, 84, 85, 86, 87, 88, 89, 90, 91] (by decide +kernel) (by decide +kernel)
set_option maxRecDepth 20000 in
theorem gX5_until_X5_tick : GoodIn wsX5_until (wsV RX5 95 RX5 yX5_tick wsX5_tick) := goodIn_app (goodIn_of _ (by decide +kernel)) ggX5_until_X5_tick
set_option maxRecDepth 20000 in
theorem ggX5_until_X5_bringsBack : GoodIn wsX5_until wsX5_bringsBack := goodIn_r _ [81, 16, 15, 82, 83, 84, 85, 86, 87, 88, 89, 90, 91] (by decide +kernel) (by decide +kernel)
set_option maxRecDepth 20000 in
theorem gX5_until_X5_bringsBack : GoodIn wsX5_until (wsV RX5 135 RX5 yX5_bringsBack wsX5_bringsBack) := goodIn_app (goodIn_of _ (by decide +kernel)) ggX5_until_X5_bringsBack
theorem dX5_until_0 : decode cX5_until 0 = .ok (.iload_n 1, 1) := by decide +kernel
theorem dX5_until_1 : decode cX5_until 1 = .ok (.iload_n 2, 1) := by decide +kernel
theorem dX5_until_2 : decode cX5_until 2 = .ok (.invokestatic 126, 3) := by decide +kernel
theorem dX5_until_5 : decode cX5_until 5 = .ok (.ifCond .ne 5, 3) := by decide +kernel
theorem dX5_until_8 : decode cX5_until 8 = .ok (.iconst (-1), 1) := by decide +kernel
theorem dX5_until_9 : decode cX5_until 9 = .ok (.ireturn, 1) := by decide +kernel
theorem dX5_until_10 : decode cX5_until 10 = .ok (.aload_n 0, 1) := by decide +kernel
theorem dX5_until_11 : decode cX5_until 11 = .ok (.invokevirtual 129, 3) := by decide +kernel
theorem dX5_until_14 : decode cX5_until 14 = .ok (.bipush (-4), 2) := by decide +kernel
theorem dX5_until_16 : decode cX5_until 16 = .ok (.istore_n 3, 1) := by decide +kernel
theorem dX5_until_17 : decode cX5_until 17 = .ok (.iconst 0, 1) := by decide +kernel
theorem dX5_until_18 : decode cX5_until 18 = .ok (.istore 4, 2) := by decide +kernel
theorem dX5_until_20 : decode cX5_until 20 = .ok (.iload 4, 2) := by decide +kernel
theorem dX5_until_22 : decode cX5_until 22 = .ok (.sipush 1000, 3) := by decide +kernel
theorem dX5_until_25 : decode cX5_until 25 = .ok (.if_icmp .gt 36, 3) := by decide +kernel
theorem dX5_until_28 : decode cX5_until 28 = .ok (.iload_n 3, 1) := by decide +kernel
theorem dX5_until_29 : decode cX5_until 29 = .ok (.ifCond .ge 32, 3) := by decide +kernel
theorem dX5_until_32 : decode cX5_until 32 = .ok (.aload_n 0, 1) := by decide +kernel
theorem dX5_until_33 : decode cX5_until 33 = .ok (.iload_n 1, 1) := by decide +kernel
theorem dX5_until_34 : decode cX5_until 34 = .ok (.iload_n 2, 1) := by decide +kernel
theorem dX5_until_35 : decode cX5_until 35 = .ok (.invokevirtual 132, 3) := by decide +kernel
theorem dX5_until_38 : decode cX5_until 38 = .ok (.ifCond .eq 8, 3) := by decide +kernel
theorem dX5_until_41 : decode cX5_until 41 = .ok (.iload 4, 2) := by decide +kernel
theorem dX5_until_43 : decode cX5_until 43 = .ok (.goto 5, 3) := by decide +kernel
theorem dX5_until_46 : decode cX5_until 46 = .ok (.bipush (-4), 2) := by decide +kernel
theorem dX5_until_48 : decode cX5_until 48 = .ok (.istore_n 3, 1) := by decide +kernel
theorem dX5_until_49 : decode cX5_until 49 = .ok (.aload_n 0, 1) := by decide +kernel
theorem dX5_until_50 : decode cX5_until 50 = .ok (.invokevirtual 95, 3) := by decide +kernel
theorem dX5_until_53 : decode cX5_until 53 = .ok (.istore 5, 2) := by decide +kernel
theorem dX5_until_55 : decode cX5_until 55 = .ok (.iinc 4 1, 3) := by decide +kernel
theorem dX5_until_58 : decode cX5_until 58 = .ok (.goto (-38), 3) := by decide +kernel
theorem dX5_until_61 : decode cX5_until 61 = .ok (.aload_n 0, 1) := by decide +kernel
theorem dX5_until_62 : decode cX5_until 62 = .ok (.invokevirtual 135, 3) := by decide +kernel
theorem dX5_until_65 : decode cX5_until 65 = .ok (.iload_n 3, 1) := by decide +kernel
theorem dX5_until_66 : decode cX5_until 66 = .ok (.ireturn, 1) := by decide +kernel
set_option maxRecDepth 20000 in
theorem ggX5_ifGo_X5_isRow : GoodIn wsX5_ifGo wsX5_isRow := goodIn_r _ [6, 1, 7, 8, 5, 9, 62, 63, 64, 65, 66, 67, 68, 69, 70, 71] (by decide +kernel) (by decide +kernel)
set_option maxRecDepth 20000 in
theorem gX5_ifGo_X5_isRow : GoodIn wsX5_ifGo (wsV RX5 67 RX5 yX5_isRow wsX5_isRow) := goodIn_app (goodIn_of _ (by decide +kernel)) ggX5_ifGo_X5_isRow
set_option maxRecDepth 20000 in
theorem ggX5_ifGo_X5_in : GoodIn wsX5_ifGo wsX5_in := goodIn_r _ [9] (by decide +kernel) (by decide +kernel)
set_option maxRecDepth 20000 in
theorem gX5_ifGo_X5_in : GoodIn wsX5_ifGo (va_wsS RX5 26 yX5_in wsX5_in) := goodIn_app (goodIn_of _ (by decide +kernel)) ggX5_ifGo_X5_in
set_option maxRecDepth 20000 in
theorem ggX5_ifGo_X5_laysAside : GoodIn wsX5_ifGo wsX5_laysAside := goodIn_r _ [13, 14, 1, 62, 63, 64, 65, 66, 67, 68, 69, 70, 71] (by decide +kernel) (by decide +kernel)
set_option maxRecDepth 20000 in
theorem gX5_ifGo_X5_laysAside : GoodIn wsX5_ifGo (wsV RX5 129 RX5 yX5_laysAside wsX5_laysAside) := goodIn_app (goodIn_of _ (by decide +kernel)) ggX5_ifGo_X5_laysAside
set_option maxRecDepth 20000 in
theorem ggX5_ifGo_X5_tick : GoodIn wsX5_ifGo wsX5_tick := goodIn_r _ [18, 1, 19, 20, 21, 5, 22, 23, 24, 25, 26, 27, 28, 29, 30, 31, 32, 33, 34, 35, 36, 37, 38, 39, 40, 41, 42, 43, 44, 45, 46, 47, 48, 49, 50, 51, 52, 53, 54, 55, 56, 57, 62, 63, 64, 65, 66, 67, 68, 69, 70, 71] (by decide +kernel) (by decide +kernel)
set_option maxRecDepth 20000 in
theorem gX5_ifGo_X5_tick : GoodIn wsX5_ifGo (wsV RX5 95 RX5 yX5_tick wsX5_tick) := goodIn_app (goodIn_of _ (by decide +kernel)) ggX5_ifGo_X5_tick
set_option maxRecDepth 20000 in
theorem ggX5_ifGo_X5_bringsBack : GoodIn wsX5_ifGo wsX5_bringsBack := goodIn_r _ [61, 1, 14, 62, 63, 64, 65, 66, 67, 68, 69, 70, 71] (by decide +kernel) (by decide +kernel)
set_option maxRecDepth 20000 in
theorem gX5_ifGo_X5_bringsBack : GoodIn wsX5_ifGo (wsV RX5 135 RX5 yX5_bringsBack wsX5_bringsBack) := goodIn_app (goodIn_of _ (by decide +kernel)) ggX5_ifGo_X5_bringsBack
theorem dX5_ifGo_0 : decode cX5_ifGo 0 = .ok (.aload_n 0, 1) := by decide +kernel
theorem dX5_ifGo_1 : decode cX5_ifGo 1 = .ok (.iload_n 1, 1) := by decide +kernel
theorem dX5_ifGo_2 : decode cX5_ifGo 2 = .ok (.invokevirtual 67, 3) := by decide +kernel
theorem dX5_ifGo_5 : decode cX5_ifGo 5 = .ok (.ifCond .eq 14, 3) := by decide +kernel
theorem dX5_ifGo_8 : decode cX5_ifGo 8 = .ok (.iload_n 2, 1) := by decide +kernel
theorem dX5_ifGo_9 : decode cX5_ifGo 9 = .ok (.iconst 1, 1) := by decide +kernel
theorem dX5_ifGo_10 : decode cX5_ifGo 10 = .ok (.sipush 1000, 3) := by decide +kernel
theorem dX5_ifGo_13 : decode cX5_ifGo 13 = .ok (.invokestatic 26, 3) := by decide +kernel
theorem dX5_ifGo_16 : decode cX5_ifGo 16 = .ok (.ifCond .ne 5, 3) := by decide +kernel
theorem dX5_ifGo_19 : decode cX5_ifGo 19 = .ok (.iconst (-1), 1) := by decide +kernel
theorem dX5_ifGo_20 : decode cX5_ifGo 20 = .ok (.ireturn, 1) := by decide +kernel
theorem dX5_ifGo_21 : decode cX5_ifGo 21 = .ok (.aload_n 0, 1) := by decide +kernel
theorem dX5_ifGo_22 : decode cX5_ifGo 22 = .ok (.invokevirtual 129, 3) := by decide +kernel
theorem dX5_ifGo_25 : decode cX5_ifGo 25 = .ok (.iconst 0, 1) := by decide +kernel
theorem dX5_ifGo_26 : decode cX5_ifGo 26 = .ok (.istore_n 3, 1) := by decide +kernel
theorem dX5_ifGo_27 : decode cX5_ifGo 27 = .ok (.iload_n 3, 1) := by decide +kernel
theorem dX5_ifGo_28 : decode cX5_ifGo 28 = .ok (.iload_n 2, 1) := by decide +kernel
theorem dX5_ifGo_29 : decode cX5_ifGo 29 = .ok (.if_icmp .ge 15, 3) := by decide +kernel
theorem dX5_ifGo_32 : decode cX5_ifGo 32 = .ok (.aload_n 0, 1) := by decide +kernel
theorem dX5_ifGo_33 : decode cX5_ifGo 33 = .ok (.invokevirtual 95, 3) := by decide +kernel
theorem dX5_ifGo_36 : decode cX5_ifGo 36 = .ok (.istore 4, 2) := by decide +kernel
theorem dX5_ifGo_38 : decode cX5_ifGo 38 = .ok (.iinc 3 1, 3) := by decide +kernel
theorem dX5_ifGo_41 : decode cX5_ifGo 41 = .ok (.goto (-14), 3) := by decide +kernel
theorem dX5_ifGo_44 : decode cX5_ifGo 44 = .ok (.aload_n 0, 1) := by decide +kernel
theorem dX5_ifGo_45 : decode cX5_ifGo 45 = .ok (.getfield 7, 3) := by decide +kernel
theorem dX5_ifGo_48 : decode cX5_ifGo 48 = .ok (.iconst 0, 1) := by decide +kernel
theorem dX5_ifGo_49 : decode cX5_ifGo 49 = .ok (.iaload, 1) := by decide +kernel
theorem dX5_ifGo_50 : decode cX5_ifGo 50 = .ok (.ifCond .ne 8, 3) := by decide +kernel
theorem dX5_ifGo_53 : decode cX5_ifGo 53 = .ok (.bipush (-4), 2) := by decide +kernel
theorem dX5_ifGo_55 : decode cX5_ifGo 55 = .ok (.goto 12, 3) := by decide +kernel
theorem dX5_ifGo_58 : decode cX5_ifGo 58 = .ok (.aload_n 0, 1) := by decide +kernel
theorem dX5_ifGo_59 : decode cX5_ifGo 59 = .ok (.getfield 7, 3) := by decide +kernel
theorem dX5_ifGo_62 : decode cX5_ifGo 62 = .ok (.bipush 20, 2) := by decide +kernel
theorem dX5_ifGo_64 : decode cX5_ifGo 64 = .ok (.iload_n 1, 1) := by decide +kernel
theorem dX5_ifGo_65 : decode cX5_ifGo 65 = .ok (.iadd, 1) := by decide +kernel
theorem dX5_ifGo_66 : decode cX5_ifGo 66 = .ok (.iaload, 1) := by decide +kernel
theorem dX5_ifGo_67 : decode cX5_ifGo 67 = .ok (.istore_n 3, 1) := by decide +kernel
theorem dX5_ifGo_68 : decode cX5_ifGo 68 = .ok (.aload_n 0, 1) := by decide +kernel
theorem dX5_ifGo_69 : decode cX5_ifGo 69 = .ok (.invokevirtual 135, 3) := by decide +kernel
theorem dX5_ifGo_72 : decode cX5_ifGo 72 = .ok (.iload_n 3, 1) := by decide +kernel
theorem dX5_ifGo_73 : decode cX5_ifGo 73 = .ok (.ireturn, 1) := by decide +kernel
set_option maxRecDepth 20000 in
theorem ggX5_type_X5_in : GoodIn wsX5_type wsX5_in := goodIn_r _ [6] (by decide +kernel) (by decide +kernel)
set_option maxRecDepth 20000 in
theorem gX5_type_X5_in : GoodIn wsX5_type (va_wsS RX5 26 yX5_in wsX5_in) := goodIn_app (goodIn_of _ (by decide +kernel)) ggX5_type_X5_in
theorem dX5_type_0 : decode cX5_type 0 = .ok (.iload_n 1, 1) := by decide +kernel
theorem dX5_type_1 : decode cX5_type 1 = .ok (.bipush 32, 2) := by decide +kernel
theorem dX5_type_3 : decode cX5_type 3 = .ok (.bipush 126, 2) := by decide +kernel
theorem dX5_type_5 : decode cX5_type 5 = .ok (.invokestatic 26, 3) := by decide +kernel
theorem dX5_type_8 : decode cX5_type 8 = .ok (.ifCond .ne 5, 3) := by decide +kernel
theorem dX5_type_11 : decode cX5_type 11 = .ok (.iconst (-1), 1) := by decide +kernel
theorem dX5_type_12 : decode cX5_type 12 = .ok (.ireturn, 1) := by decide +kernel
theorem dX5_type_13 : decode cX5_type 13 = .ok (.aload_n 0, 1) := by decide +kernel
theorem dX5_type_14 : decode cX5_type 14 = .ok (.getfield 117, 3) := by decide +kernel
theorem dX5_type_17 : decode cX5_type 17 = .ok (.bipush 100, 2) := by decide +kernel
theorem dX5_type_19 : decode cX5_type 19 = .ok (.if_icmp .ne 6, 3) := by decide +kernel
theorem dX5_type_22 : decode cX5_type 22 = .ok (.bipush (-3), 2) := by decide +kernel
theorem dX5_type_24 : decode cX5_type 24 = .ok (.ireturn, 1) := by decide +kernel
theorem dX5_type_25 : decode cX5_type 25 = .ok (.aload_n 0, 1) := by decide +kernel
theorem dX5_type_26 : decode cX5_type 26 = .ok (.getfield 19, 3) := by decide +kernel
theorem dX5_type_29 : decode cX5_type 29 = .ok (.aload_n 0, 1) := by decide +kernel
theorem dX5_type_30 : decode cX5_type 30 = .ok (.getfield 117, 3) := by decide +kernel
theorem dX5_type_33 : decode cX5_type 33 = .ok (.iload_n 1, 1) := by decide +kernel
theorem dX5_type_34 : decode cX5_type 34 = .ok (.iastore, 1) := by decide +kernel
theorem dX5_type_35 : decode cX5_type 35 = .ok (.aload_n 0, 1) := by decide +kernel
theorem dX5_type_36 : decode cX5_type 36 = .ok (.dup, 1) := by decide +kernel
theorem dX5_type_37 : decode cX5_type 37 = .ok (.getfield 117, 3) := by decide +kernel
theorem dX5_type_40 : decode cX5_type 40 = .ok (.iconst 1, 1) := by decide +kernel
theorem dX5_type_41 : decode cX5_type 41 = .ok (.iadd, 1) := by decide +kernel
theorem dX5_type_42 : decode cX5_type 42 = .ok (.putfield 117, 3) := by decide +kernel
theorem dX5_type_45 : decode cX5_type 45 = .ok (.aload_n 0, 1) := by decide +kernel
theorem dX5_type_46 : decode cX5_type 46 = .ok (.getfield 117, 3) := by decide +kernel
theorem dX5_type_49 : decode cX5_type 49 = .ok (.ireturn, 1) := by decide +kernel
theorem dX5_clearText_0 : decode cX5_clearText 0 = .ok (.aload_n 0, 1) := by decide +kernel
theorem dX5_clearText_1 : decode cX5_clearText 1 = .ok (.getfield 117, 3) := by decide +kernel
theorem dX5_clearText_4 : decode cX5_clearText 4 = .ok (.istore_n 1, 1) := by decide +kernel
theorem dX5_clearText_5 : decode cX5_clearText 5 = .ok (.aload_n 0, 1) := by decide +kernel
theorem dX5_clearText_6 : decode cX5_clearText 6 = .ok (.iconst 0, 1) := by decide +kernel
theorem dX5_clearText_7 : decode cX5_clearText 7 = .ok (.putfield 117, 3) := by decide +kernel
theorem dX5_clearText_10 : decode cX5_clearText 10 = .ok (.iload_n 1, 1) := by decide +kernel
theorem dX5_clearText_11 : decode cX5_clearText 11 = .ok (.ireturn, 1) := by decide +kernel
set_option maxRecDepth 20000 in
theorem ggX5_isAt_X5_in : GoodIn wsX5_isAt wsX5_in := goodIn_r _ [7] (by decide +kernel) (by decide +kernel)
set_option maxRecDepth 20000 in
theorem gX5_isAt_X5_in : GoodIn wsX5_isAt (va_wsS RX5 26 yX5_in wsX5_in) := goodIn_app (goodIn_of _ (by decide +kernel)) ggX5_isAt_X5_in
theorem dX5_isAt_0 : decode cX5_isAt 0 = .ok (.aload_n 0, 1) := by decide +kernel
theorem dX5_isAt_1 : decode cX5_isAt 1 = .ok (.getfield 138, 3) := by decide +kernel
theorem dX5_isAt_4 : decode cX5_isAt 4 = .ok (.aload_n 0, 1) := by decide +kernel
theorem dX5_isAt_5 : decode cX5_isAt 5 = .ok (.getfield 117, 3) := by decide +kernel
theorem dX5_isAt_8 : decode cX5_isAt 8 = .ok (.if_icmp .ge 24, 3) := by decide +kernel
theorem dX5_isAt_11 : decode cX5_isAt 11 = .ok (.aload_n 0, 1) := by decide +kernel
theorem dX5_isAt_12 : decode cX5_isAt 12 = .ok (.getfield 19, 3) := by decide +kernel
theorem dX5_isAt_15 : decode cX5_isAt 15 = .ok (.aload_n 0, 1) := by decide +kernel
theorem dX5_isAt_16 : decode cX5_isAt 16 = .ok (.getfield 138, 3) := by decide +kernel
theorem dX5_isAt_19 : decode cX5_isAt 19 = .ok (.iaload, 1) := by decide +kernel
theorem dX5_isAt_20 : decode cX5_isAt 20 = .ok (.iload_n 1, 1) := by decide +kernel
theorem dX5_isAt_21 : decode cX5_isAt 21 = .ok (.iload_n 2, 1) := by decide +kernel
theorem dX5_isAt_22 : decode cX5_isAt 22 = .ok (.invokestatic 26, 3) := by decide +kernel
theorem dX5_isAt_25 : decode cX5_isAt 25 = .ok (.ifCond .eq 7, 3) := by decide +kernel
theorem dX5_isAt_28 : decode cX5_isAt 28 = .ok (.iconst 1, 1) := by decide +kernel
theorem dX5_isAt_29 : decode cX5_isAt 29 = .ok (.goto 4, 3) := by decide +kernel
theorem dX5_isAt_32 : decode cX5_isAt 32 = .ok (.iconst 0, 1) := by decide +kernel
theorem dX5_isAt_33 : decode cX5_isAt 33 = .ok (.ireturn, 1) := by decide +kernel
set_option maxRecDepth 20000 in
theorem ggX5_digits_X5_isAt : GoodIn wsX5_digits wsX5_isAt := goodIn_r _ [7, 1, 8, 2, 9, 10, 6, 11, 12, 13, 14, 15, 16, 17, 18, 19, 20, 21] (by decide +kernel) (by decide +kernel)
set_option maxRecDepth 20000 in
theorem gX5_digits_X5_isAt : GoodIn wsX5_digits (wsV RX5 141 RX5 yX5_isAt wsX5_isAt) := goodIn_app (goodIn_of _ (by decide +kernel)) ggX5_digits_X5_isAt
theorem dX5_digits_0 : decode cX5_digits 0 = .ok (.iconst 0, 1) := by decide +kernel
theorem dX5_digits_1 : decode cX5_digits 1 = .ok (.istore_n 2, 1) := by decide +kernel
theorem dX5_digits_2 : decode cX5_digits 2 = .ok (.aload_n 0, 1) := by decide +kernel
theorem dX5_digits_3 : decode cX5_digits 3 = .ok (.getfield 138, 3) := by decide +kernel
theorem dX5_digits_6 : decode cX5_digits 6 = .ok (.istore_n 3, 1) := by decide +kernel
theorem dX5_digits_7 : decode cX5_digits 7 = .ok (.aload_n 0, 1) := by decide +kernel
theorem dX5_digits_8 : decode cX5_digits 8 = .ok (.getfield 138, 3) := by decide +kernel
theorem dX5_digits_11 : decode cX5_digits 11 = .ok (.iload_n 3, 1) := by decide +kernel
theorem dX5_digits_12 : decode cX5_digits 12 = .ok (.iload_n 1, 1) := by decide +kernel
theorem dX5_digits_13 : decode cX5_digits 13 = .ok (.iadd, 1) := by decide +kernel
theorem dX5_digits_14 : decode cX5_digits 14 = .ok (.if_icmp .ge 45, 3) := by decide +kernel
theorem dX5_digits_17 : decode cX5_digits 17 = .ok (.aload_n 0, 1) := by decide +kernel
theorem dX5_digits_18 : decode cX5_digits 18 = .ok (.bipush 48, 2) := by decide +kernel
theorem dX5_digits_20 : decode cX5_digits 20 = .ok (.bipush 57, 2) := by decide +kernel
theorem dX5_digits_22 : decode cX5_digits 22 = .ok (.invokevirtual 141, 3) := by decide +kernel
theorem dX5_digits_25 : decode cX5_digits 25 = .ok (.ifCond .eq 34, 3) := by decide +kernel
theorem dX5_digits_28 : decode cX5_digits 28 = .ok (.bipush 10, 2) := by decide +kernel
theorem dX5_digits_30 : decode cX5_digits 30 = .ok (.iload_n 2, 1) := by decide +kernel
theorem dX5_digits_31 : decode cX5_digits 31 = .ok (.imul, 1) := by decide +kernel
theorem dX5_digits_32 : decode cX5_digits 32 = .ok (.aload_n 0, 1) := by decide +kernel
theorem dX5_digits_33 : decode cX5_digits 33 = .ok (.getfield 19, 3) := by decide +kernel
theorem dX5_digits_36 : decode cX5_digits 36 = .ok (.aload_n 0, 1) := by decide +kernel
theorem dX5_digits_37 : decode cX5_digits 37 = .ok (.getfield 138, 3) := by decide +kernel
theorem dX5_digits_40 : decode cX5_digits 40 = .ok (.iaload, 1) := by decide +kernel
theorem dX5_digits_41 : decode cX5_digits 41 = .ok (.iadd, 1) := by decide +kernel
theorem dX5_digits_42 : decode cX5_digits 42 = .ok (.bipush 48, 2) := by decide +kernel
theorem dX5_digits_44 : decode cX5_digits 44 = .ok (.isub, 1) := by decide +kernel
theorem dX5_digits_45 : decode cX5_digits 45 = .ok (.istore_n 2, 1) := by decide +kernel
theorem dX5_digits_46 : decode cX5_digits 46 = .ok (.aload_n 0, 1) := by decide +kernel
theorem dX5_digits_47 : decode cX5_digits 47 = .ok (.dup, 1) := by decide +kernel
theorem dX5_digits_48 : decode cX5_digits 48 = .ok (.getfield 138, 3) := by decide +kernel
theorem dX5_digits_51 : decode cX5_digits 51 = .ok (.iconst 1, 1) := by decide +kernel
theorem dX5_digits_52 : decode cX5_digits 52 = .ok (.iadd, 1) := by decide +kernel
theorem dX5_digits_53 : decode cX5_digits 53 = .ok (.putfield 138, 3) := by decide +kernel
theorem dX5_digits_56 : decode cX5_digits 56 = .ok (.goto (-49), 3) := by decide +kernel
theorem dX5_digits_59 : decode cX5_digits 59 = .ok (.aload_n 0, 1) := by decide +kernel
theorem dX5_digits_60 : decode cX5_digits 60 = .ok (.getfield 138, 3) := by decide +kernel
theorem dX5_digits_63 : decode cX5_digits 63 = .ok (.iload_n 3, 1) := by decide +kernel
theorem dX5_digits_64 : decode cX5_digits 64 = .ok (.if_icmp .ne 7, 3) := by decide +kernel
theorem dX5_digits_67 : decode cX5_digits 67 = .ok (.iconst (-1), 1) := by decide +kernel
theorem dX5_digits_68 : decode cX5_digits 68 = .ok (.goto 4, 3) := by decide +kernel
theorem dX5_digits_71 : decode cX5_digits 71 = .ok (.iload_n 2, 1) := by decide +kernel
theorem dX5_digits_72 : decode cX5_digits 72 = .ok (.ireturn, 1) := by decide +kernel
set_option maxRecDepth 20000 in
theorem ggX5_isFormed_X5_digits : GoodIn wsX5_isFormed wsX5_digits := goodIn_r _ [9, 3, 10, 11, 12, 13, 8, 14, 4, 15, 16, 17, 18, 19, 20, 21, 22, 23, 24, 25, 26, 27] (by decide +kernel) (by decide +kernel)
set_option maxRecDepth 20000 in
theorem gX5_isFormed_X5_digits : GoodIn wsX5_isFormed (wsV RX5 144 RX5 yX5_digits wsX5_digits) := goodIn_app (goodIn_of _ (by decide +kernel)) ggX5_isFormed_X5_digits
set_option maxRecDepth 20000 in
theorem ggX5_isFormed_X5_isAt : GoodIn wsX5_isFormed wsX5_isAt := goodIn_r _ [14, 3, 4, 10, 15, 16, 8, 17, 18, 19, 20, 21, 22, 23, 24, 25, 26, 27] (by decide +kernel) (by decide +kernel)
set_option maxRecDepth 20000 in
theorem gX5_isFormed_X5_isAt : GoodIn wsX5_isFormed (wsV RX5 141 RX5 yX5_isAt wsX5_isAt) := goodIn_app (goodIn_of _ (by decide +kernel)) ggX5_isFormed_X5_isAt
theorem dX5_isFormed_0 : decode cX5_isFormed 0 = .ok (.aload_n 0, 1) := by decide +kernel
theorem dX5_isFormed_1 : decode cX5_isFormed 1 = .ok (.aload_n 0, 1) := by decide +kernel
theorem dX5_isFormed_2 : decode cX5_isFormed 2 = .ok (.iconst 4, 1) := by decide +kernel
theorem dX5_isFormed_3 : decode cX5_isFormed 3 = .ok (.invokevirtual 144, 3) := by decide +kernel
theorem dX5_isFormed_6 : decode cX5_isFormed 6 = .ok (.putfield 147, 3) := by decide +kernel
theorem dX5_isFormed_9 : decode cX5_isFormed 9 = .ok (.aload_n 0, 1) := by decide +kernel
theorem dX5_isFormed_10 : decode cX5_isFormed 10 = .ok (.iconst 1, 1) := by decide +kernel
theorem dX5_isFormed_11 : decode cX5_isFormed 11 = .ok (.putfield 150, 3) := by decide +kernel
theorem dX5_isFormed_14 : decode cX5_isFormed 14 = .ok (.aload_n 0, 1) := by decide +kernel
theorem dX5_isFormed_15 : decode cX5_isFormed 15 = .ok (.getfield 147, 3) := by decide +kernel
theorem dX5_isFormed_18 : decode cX5_isFormed 18 = .ok (.ifCond .lt 33, 3) := by decide +kernel
theorem dX5_isFormed_21 : decode cX5_isFormed 21 = .ok (.aload_n 0, 1) := by decide +kernel
theorem dX5_isFormed_22 : decode cX5_isFormed 22 = .ok (.bipush 120, 2) := by decide +kernel
theorem dX5_isFormed_24 : decode cX5_isFormed 24 = .ok (.bipush 120, 2) := by decide +kernel
theorem dX5_isFormed_26 : decode cX5_isFormed 26 = .ok (.invokevirtual 141, 3) := by decide +kernel
theorem dX5_isFormed_29 : decode cX5_isFormed 29 = .ok (.ifCond .eq 22, 3) := by decide +kernel
theorem dX5_isFormed_32 : decode cX5_isFormed 32 = .ok (.aload_n 0, 1) := by decide +kernel
theorem dX5_isFormed_33 : decode cX5_isFormed 33 = .ok (.dup, 1) := by decide +kernel
theorem dX5_isFormed_34 : decode cX5_isFormed 34 = .ok (.getfield 138, 3) := by decide +kernel
theorem dX5_isFormed_37 : decode cX5_isFormed 37 = .ok (.iconst 1, 1) := by decide +kernel
theorem dX5_isFormed_38 : decode cX5_isFormed 38 = .ok (.iadd, 1) := by decide +kernel
theorem dX5_isFormed_39 : decode cX5_isFormed 39 = .ok (.putfield 138, 3) := by decide +kernel
theorem dX5_isFormed_42 : decode cX5_isFormed 42 = .ok (.aload_n 0, 1) := by decide +kernel
theorem dX5_isFormed_43 : decode cX5_isFormed 43 = .ok (.aload_n 0, 1) := by decide +kernel
theorem dX5_isFormed_44 : decode cX5_isFormed 44 = .ok (.iconst 2, 1) := by decide +kernel
theorem dX5_isFormed_45 : decode cX5_isFormed 45 = .ok (.invokevirtual 144, 3) := by decide +kernel
theorem dX5_isFormed_48 : decode cX5_isFormed 48 = .ok (.putfield 150, 3) := by decide +kernel
theorem dX5_isFormed_51 : decode cX5_isFormed 51 = .ok (.aload_n 0, 1) := by decide +kernel
theorem dX5_isFormed_52 : decode cX5_isFormed 52 = .ok (.getfield 147, 3) := by decide +kernel
theorem dX5_isFormed_55 : decode cX5_isFormed 55 = .ok (.ifCond .lt 36, 3) := by decide +kernel
theorem dX5_isFormed_58 : decode cX5_isFormed 58 = .ok (.aload_n 0, 1) := by decide +kernel
theorem dX5_isFormed_59 : decode cX5_isFormed 59 = .ok (.getfield 150, 3) := by decide +kernel
theorem dX5_isFormed_62 : decode cX5_isFormed 62 = .ok (.ifCond .lt 29, 3) := by decide +kernel
theorem dX5_isFormed_65 : decode cX5_isFormed 65 = .ok (.aload_n 0, 1) := by decide +kernel
theorem dX5_isFormed_66 : decode cX5_isFormed 66 = .ok (.getfield 138, 3) := by decide +kernel
theorem dX5_isFormed_69 : decode cX5_isFormed 69 = .ok (.aload_n 0, 1) := by decide +kernel
theorem dX5_isFormed_70 : decode cX5_isFormed 70 = .ok (.getfield 117, 3) := by decide +kernel
theorem dX5_isFormed_73 : decode cX5_isFormed 73 = .ok (.if_icmp .eq 14, 3) := by decide +kernel
theorem dX5_isFormed_76 : decode cX5_isFormed 76 = .ok (.aload_n 0, 1) := by decide +kernel
theorem dX5_isFormed_77 : decode cX5_isFormed 77 = .ok (.bipush 44, 2) := by decide +kernel
theorem dX5_isFormed_79 : decode cX5_isFormed 79 = .ok (.bipush 44, 2) := by decide +kernel
theorem dX5_isFormed_81 : decode cX5_isFormed 81 = .ok (.invokevirtual 141, 3) := by decide +kernel
theorem dX5_isFormed_84 : decode cX5_isFormed 84 = .ok (.ifCond .eq 7, 3) := by decide +kernel
theorem dX5_isFormed_87 : decode cX5_isFormed 87 = .ok (.iconst 1, 1) := by decide +kernel
theorem dX5_isFormed_88 : decode cX5_isFormed 88 = .ok (.goto 4, 3) := by decide +kernel
theorem dX5_isFormed_91 : decode cX5_isFormed 91 = .ok (.iconst 0, 1) := by decide +kernel
theorem dX5_isFormed_92 : decode cX5_isFormed 92 = .ok (.ireturn, 1) := by decide +kernel
set_option maxRecDepth 20000 in
theorem ggX5_reasonOfText_X5_isFormed : GoodIn wsX5_reasonOfText wsX5_isFormed := goodIn_r _ [10, 3, 4, 1, 5, 11, 12, 13, 9, 14, 15, 16, 17, 18, 19, 20, 21, 22, 23, 24, 25, 26, 27, 28, 29, 30, 31, 32] (by decide +kernel) (by decide +kernel)
set_option maxRecDepth 20000 in
theorem gX5_reasonOfText_X5_isFormed : GoodIn wsX5_reasonOfText (wsV RX5 156 RX5 yX5_isFormed wsX5_isFormed) := goodIn_app (goodIn_of _ (by decide +kernel)) ggX5_reasonOfText_X5_isFormed
set_option maxRecDepth 20000 in
theorem ggX5_reasonOfText_X5_in : GoodIn wsX5_reasonOfText wsX5_in := goodIn_r _ [22] (by decide +kernel) (by decide +kernel)
set_option maxRecDepth 20000 in
theorem gX5_reasonOfText_X5_in : GoodIn wsX5_reasonOfText (va_wsS RX5 26 yX5_in wsX5_in) := goodIn_app (goodIn_of _ (by decide +kernel)) ggX5_reasonOfText_X5_in
theorem dX5_reasonOfText_0 : decode cX5_reasonOfText 0 = .ok (.aload_n 0, 1) := by decide +kernel
theorem dX5_reasonOfText_1 : decode cX5_reasonOfText 1 = .ok (.iconst 0, 1) := by decide +kernel
theorem dX5_reasonOfText_2 : decode cX5_reasonOfText 2 = .ok (.putfield 138, 3) := by decide +kernel
theorem dX5_reasonOfText_5 : decode cX5_reasonOfText 5 = .ok (.aload_n 0, 1) := by decide +kernel
theorem dX5_reasonOfText_6 : decode cX5_reasonOfText 6 = .ok (.iconst 0, 1) := by decide +kernel
theorem dX5_reasonOfText_7 : decode cX5_reasonOfText 7 = .ok (.putfield 153, 3) := by decide +kernel
theorem dX5_reasonOfText_10 : decode cX5_reasonOfText 10 = .ok (.iconst 0, 1) := by decide +kernel
theorem dX5_reasonOfText_11 : decode cX5_reasonOfText 11 = .ok (.istore_n 1, 1) := by decide +kernel
theorem dX5_reasonOfText_12 : decode cX5_reasonOfText 12 = .ok (.iconst 1, 1) := by decide +kernel
theorem dX5_reasonOfText_13 : decode cX5_reasonOfText 13 = .ok (.istore_n 2, 1) := by decide +kernel
theorem dX5_reasonOfText_14 : decode cX5_reasonOfText 14 = .ok (.iload_n 2, 1) := by decide +kernel
theorem dX5_reasonOfText_15 : decode cX5_reasonOfText 15 = .ok (.ifCond .eq 94, 3) := by decide +kernel
theorem dX5_reasonOfText_18 : decode cX5_reasonOfText 18 = .ok (.aload_n 0, 1) := by decide +kernel
theorem dX5_reasonOfText_19 : decode cX5_reasonOfText 19 = .ok (.aload_n 0, 1) := by decide +kernel
theorem dX5_reasonOfText_20 : decode cX5_reasonOfText 20 = .ok (.getfield 138, 3) := by decide +kernel
theorem dX5_reasonOfText_23 : decode cX5_reasonOfText 23 = .ok (.putfield 153, 3) := by decide +kernel
theorem dX5_reasonOfText_26 : decode cX5_reasonOfText 26 = .ok (.aload_n 0, 1) := by decide +kernel
theorem dX5_reasonOfText_27 : decode cX5_reasonOfText 27 = .ok (.invokevirtual 156, 3) := by decide +kernel
theorem dX5_reasonOfText_30 : decode cX5_reasonOfText 30 = .ok (.ifCond .ne 5, 3) := by decide +kernel
theorem dX5_reasonOfText_33 : decode cX5_reasonOfText 33 = .ok (.iconst 1, 1) := by decide +kernel
theorem dX5_reasonOfText_34 : decode cX5_reasonOfText 34 = .ok (.ireturn, 1) := by decide +kernel
theorem dX5_reasonOfText_35 : decode cX5_reasonOfText 35 = .ok (.aload_n 0, 1) := by decide +kernel
theorem dX5_reasonOfText_36 : decode cX5_reasonOfText 36 = .ok (.getfield 147, 3) := by decide +kernel
theorem dX5_reasonOfText_39 : decode cX5_reasonOfText 39 = .ok (.iconst 0, 1) := by decide +kernel
theorem dX5_reasonOfText_40 : decode cX5_reasonOfText 40 = .ok (.sipush 5000, 3) := by decide +kernel
theorem dX5_reasonOfText_43 : decode cX5_reasonOfText 43 = .ok (.invokestatic 26, 3) := by decide +kernel
theorem dX5_reasonOfText_46 : decode cX5_reasonOfText 46 = .ok (.ifCond .eq 16, 3) := by decide +kernel
theorem dX5_reasonOfText_49 : decode cX5_reasonOfText 49 = .ok (.aload_n 0, 1) := by decide +kernel
theorem dX5_reasonOfText_50 : decode cX5_reasonOfText 50 = .ok (.getfield 150, 3) := by decide +kernel
theorem dX5_reasonOfText_53 : decode cX5_reasonOfText 53 = .ok (.iconst 1, 1) := by decide +kernel
theorem dX5_reasonOfText_54 : decode cX5_reasonOfText 54 = .ok (.bipush 24, 2) := by decide +kernel
theorem dX5_reasonOfText_56 : decode cX5_reasonOfText 56 = .ok (.invokestatic 26, 3) := by decide +kernel
theorem dX5_reasonOfText_59 : decode cX5_reasonOfText 59 = .ok (.ifCond .ne 5, 3) := by decide +kernel
theorem dX5_reasonOfText_62 : decode cX5_reasonOfText 62 = .ok (.iconst 2, 1) := by decide +kernel
theorem dX5_reasonOfText_63 : decode cX5_reasonOfText 63 = .ok (.ireturn, 1) := by decide +kernel
theorem dX5_reasonOfText_64 : decode cX5_reasonOfText 64 = .ok (.iload_n 1, 1) := by decide +kernel
theorem dX5_reasonOfText_65 : decode cX5_reasonOfText 65 = .ok (.aload_n 0, 1) := by decide +kernel
theorem dX5_reasonOfText_66 : decode cX5_reasonOfText 66 = .ok (.getfield 150, 3) := by decide +kernel
theorem dX5_reasonOfText_69 : decode cX5_reasonOfText 69 = .ok (.iadd, 1) := by decide +kernel
theorem dX5_reasonOfText_70 : decode cX5_reasonOfText 70 = .ok (.istore_n 1, 1) := by decide +kernel
theorem dX5_reasonOfText_71 : decode cX5_reasonOfText 71 = .ok (.iload_n 1, 1) := by decide +kernel
theorem dX5_reasonOfText_72 : decode cX5_reasonOfText 72 = .ok (.bipush 24, 2) := by decide +kernel
theorem dX5_reasonOfText_74 : decode cX5_reasonOfText 74 = .ok (.if_icmp .le 5, 3) := by decide +kernel
theorem dX5_reasonOfText_77 : decode cX5_reasonOfText 77 = .ok (.iconst 3, 1) := by decide +kernel
theorem dX5_reasonOfText_78 : decode cX5_reasonOfText 78 = .ok (.ireturn, 1) := by decide +kernel
theorem dX5_reasonOfText_79 : decode cX5_reasonOfText 79 = .ok (.aload_n 0, 1) := by decide +kernel
theorem dX5_reasonOfText_80 : decode cX5_reasonOfText 80 = .ok (.getfield 138, 3) := by decide +kernel
theorem dX5_reasonOfText_83 : decode cX5_reasonOfText 83 = .ok (.aload_n 0, 1) := by decide +kernel
theorem dX5_reasonOfText_84 : decode cX5_reasonOfText 84 = .ok (.getfield 117, 3) := by decide +kernel
theorem dX5_reasonOfText_87 : decode cX5_reasonOfText 87 = .ok (.if_icmp .ge 7, 3) := by decide +kernel
theorem dX5_reasonOfText_90 : decode cX5_reasonOfText 90 = .ok (.iconst 1, 1) := by decide +kernel
theorem dX5_reasonOfText_91 : decode cX5_reasonOfText 91 = .ok (.goto 4, 3) := by decide +kernel
theorem dX5_reasonOfText_94 : decode cX5_reasonOfText 94 = .ok (.iconst 0, 1) := by decide +kernel
theorem dX5_reasonOfText_95 : decode cX5_reasonOfText 95 = .ok (.istore_n 2, 1) := by decide +kernel
theorem dX5_reasonOfText_96 : decode cX5_reasonOfText 96 = .ok (.aload_n 0, 1) := by decide +kernel
theorem dX5_reasonOfText_97 : decode cX5_reasonOfText 97 = .ok (.dup, 1) := by decide +kernel
theorem dX5_reasonOfText_98 : decode cX5_reasonOfText 98 = .ok (.getfield 138, 3) := by decide +kernel
theorem dX5_reasonOfText_101 : decode cX5_reasonOfText 101 = .ok (.iconst 1, 1) := by decide +kernel
theorem dX5_reasonOfText_102 : decode cX5_reasonOfText 102 = .ok (.iadd, 1) := by decide +kernel
theorem dX5_reasonOfText_103 : decode cX5_reasonOfText 103 = .ok (.putfield 138, 3) := by decide +kernel
theorem dX5_reasonOfText_106 : decode cX5_reasonOfText 106 = .ok (.goto (-92), 3) := by decide +kernel
theorem dX5_reasonOfText_109 : decode cX5_reasonOfText 109 = .ok (.iconst 0, 1) := by decide +kernel
theorem dX5_reasonOfText_110 : decode cX5_reasonOfText 110 = .ok (.ireturn, 1) := by decide +kernel
set_option maxRecDepth 20000 in
theorem ggX5_fault_X5_in : GoodIn wsX5_fault wsX5_in := goodIn_r _ [5] (by decide +kernel) (by decide +kernel)
set_option maxRecDepth 20000 in
theorem gX5_fault_X5_in : GoodIn wsX5_fault (va_wsS RX5 26 yX5_in wsX5_in) := goodIn_app (goodIn_of _ (by decide +kernel)) ggX5_fault_X5_in
set_option maxRecDepth 20000 in
theorem ggX5_fault_X5_reasonOfText : GoodIn wsX5_fault wsX5_reasonOfText := goodIn_r _ [9, 10, 1, 11, 12, 13, 14, 15, 16, 4, 17, 18, 19, 20, 21, 22, 23, 24, 25, 26, 2, 3, 5, 27, 28, 29, 30, 31, 32, 33, 34, 35, 36] (by decide +kernel) (by decide +kernel)
set_option maxRecDepth 20000 in
theorem gX5_fault_X5_reasonOfText : GoodIn wsX5_fault (wsV RX5 159 RX5 yX5_reasonOfText wsX5_reasonOfText) := goodIn_app (goodIn_of _ (by decide +kernel)) ggX5_fault_X5_reasonOfText
theorem dX5_fault_0 : decode cX5_fault 0 = .ok (.iload_n 1, 1) := by decide +kernel
theorem dX5_fault_1 : decode cX5_fault 1 = .ok (.iconst 0, 1) := by decide +kernel
theorem dX5_fault_2 : decode cX5_fault 2 = .ok (.iconst 1, 1) := by decide +kernel
theorem dX5_fault_3 : decode cX5_fault 3 = .ok (.invokestatic 26, 3) := by decide +kernel
theorem dX5_fault_6 : decode cX5_fault 6 = .ok (.ifCond .ne 5, 3) := by decide +kernel
theorem dX5_fault_9 : decode cX5_fault 9 = .ok (.iconst (-1), 1) := by decide +kernel
theorem dX5_fault_10 : decode cX5_fault 10 = .ok (.ireturn, 1) := by decide +kernel
theorem dX5_fault_11 : decode cX5_fault 11 = .ok (.aload_n 0, 1) := by decide +kernel
theorem dX5_fault_12 : decode cX5_fault 12 = .ok (.invokevirtual 159, 3) := by decide +kernel
theorem dX5_fault_15 : decode cX5_fault 15 = .ok (.istore_n 2, 1) := by decide +kernel
theorem dX5_fault_16 : decode cX5_fault 16 = .ok (.iload_n 2, 1) := by decide +kernel
theorem dX5_fault_17 : decode cX5_fault 17 = .ok (.ifCond .ne 8, 3) := by decide +kernel
theorem dX5_fault_20 : decode cX5_fault 20 = .ok (.bipush (-4), 2) := by decide +kernel
theorem dX5_fault_22 : decode cX5_fault 22 = .ok (.goto 15, 3) := by decide +kernel
theorem dX5_fault_25 : decode cX5_fault 25 = .ok (.iload_n 1, 1) := by decide +kernel
theorem dX5_fault_26 : decode cX5_fault 26 = .ok (.ifCond .ne 10, 3) := by decide +kernel
theorem dX5_fault_29 : decode cX5_fault 29 = .ok (.aload_n 0, 1) := by decide +kernel
theorem dX5_fault_30 : decode cX5_fault 30 = .ok (.getfield 153, 3) := by decide +kernel
theorem dX5_fault_33 : decode cX5_fault 33 = .ok (.goto 4, 3) := by decide +kernel
theorem dX5_fault_36 : decode cX5_fault 36 = .ok (.iload_n 2, 1) := by decide +kernel
theorem dX5_fault_37 : decode cX5_fault 37 = .ok (.ireturn, 1) := by decide +kernel
set_option maxRecDepth 20000 in
theorem ggX5_read_X5_reasonOfText : GoodIn wsX5_read wsX5_reasonOfText := goodIn_r _ [10, 1, 11, 4, 3, 2, 12, 13, 14, 9, 15, 16, 17, 18, 19, 20, 21, 22, 23, 24, 25, 26, 27, 46, 47, 48, 49, 50, 51, 52, 53, 54, 55] (by decide +kernel) (by decide +kernel)
set_option maxRecDepth 20000 in
theorem gX5_read_X5_reasonOfText : GoodIn wsX5_read (wsV RX5 159 RX5 yX5_reasonOfText wsX5_reasonOfText) := goodIn_app (goodIn_of _ (by decide +kernel)) ggX5_read_X5_reasonOfText
set_option maxRecDepth 20000 in
theorem ggX5_read_X5_records : GoodIn wsX5_read wsX5_records := goodIn_r _ [31, 32, 33, 5, 46, 47, 48, 49, 50, 51, 52, 53, 54, 55] (by decide +kernel) (by decide +kernel)
set_option maxRecDepth 20000 in
theorem gX5_read_X5_records : GoodIn wsX5_read (wsV RX5 53 RX5 yX5_records wsX5_records) := goodIn_app (goodIn_of _ (by decide +kernel)) ggX5_read_X5_records
set_option maxRecDepth 20000 in
theorem ggX5_read_X5_takesAway : GoodIn wsX5_read wsX5_takesAway := goodIn_r _ [37, 5, 38, 39, 40, 9, 41, 46, 47, 48, 49, 50, 51, 52, 53, 54, 55] (by decide +kernel) (by decide +kernel)
set_option maxRecDepth 20000 in
theorem gX5_read_X5_takesAway : GoodIn wsX5_read (wsV RX5 60 RX5 yX5_takesAway wsX5_takesAway) := goodIn_app (goodIn_of _ (by decide +kernel)) ggX5_read_X5_takesAway
set_option maxRecDepth 20000 in
theorem ggX5_read_X5_isFormed : GoodIn wsX5_read wsX5_isFormed := goodIn_r _ [15, 4, 3, 1, 2, 16, 17, 18, 9, 19, 20, 21, 22, 23, 24, 25, 26, 27, 46, 47, 48, 49, 50, 51, 52, 53, 54, 55] (by decide +kernel) (by decide +kernel)
set_option maxRecDepth 20000 in
theorem gX5_read_X5_isFormed : GoodIn wsX5_read (wsV RX5 156 RX5 yX5_isFormed wsX5_isFormed) := goodIn_app (goodIn_of _ (by decide +kernel)) ggX5_read_X5_isFormed
set_option maxRecDepth 20000 in
theorem ggX5_read_X5_newRow : GoodIn wsX5_read wsX5_newRow := goodIn_r _ [45, 5, 46, 47, 48, 49, 50, 51, 52, 53, 54, 55] (by decide +kernel) (by decide +kernel)
set_option maxRecDepth 20000 in
theorem gX5_read_X5_newRow : GoodIn wsX5_read (wsV RX5 63 RX5 yX5_newRow wsX5_newRow) := goodIn_app (goodIn_of _ (by decide +kernel)) ggX5_read_X5_newRow
theorem dX5_read_0 : decode cX5_read 0 = .ok (.aload_n 0, 1) := by decide +kernel
theorem dX5_read_1 : decode cX5_read 1 = .ok (.invokevirtual 159, 3) := by decide +kernel
theorem dX5_read_4 : decode cX5_read 4 = .ok (.ifCond .eq 6, 3) := by decide +kernel
theorem dX5_read_7 : decode cX5_read 7 = .ok (.bipush (-2), 2) := by decide +kernel
theorem dX5_read_9 : decode cX5_read 9 = .ok (.ireturn, 1) := by decide +kernel
theorem dX5_read_10 : decode cX5_read 10 = .ok (.aload_n 0, 1) := by decide +kernel
theorem dX5_read_11 : decode cX5_read 11 = .ok (.invokevirtual 53, 3) := by decide +kernel
theorem dX5_read_14 : decode cX5_read 14 = .ok (.aload_n 0, 1) := by decide +kernel
theorem dX5_read_15 : decode cX5_read 15 = .ok (.invokevirtual 60, 3) := by decide +kernel
theorem dX5_read_18 : decode cX5_read 18 = .ok (.aload_n 0, 1) := by decide +kernel
theorem dX5_read_19 : decode cX5_read 19 = .ok (.iconst 0, 1) := by decide +kernel
theorem dX5_read_20 : decode cX5_read 20 = .ok (.putfield 138, 3) := by decide +kernel
theorem dX5_read_23 : decode cX5_read 23 = .ok (.aload_n 0, 1) := by decide +kernel
theorem dX5_read_24 : decode cX5_read 24 = .ok (.getfield 138, 3) := by decide +kernel
theorem dX5_read_27 : decode cX5_read 27 = .ok (.aload_n 0, 1) := by decide +kernel
theorem dX5_read_28 : decode cX5_read 28 = .ok (.getfield 117, 3) := by decide +kernel
theorem dX5_read_31 : decode cX5_read 31 = .ok (.if_icmp .ge 47, 3) := by decide +kernel
theorem dX5_read_34 : decode cX5_read 34 = .ok (.aload_n 0, 1) := by decide +kernel
theorem dX5_read_35 : decode cX5_read 35 = .ok (.invokevirtual 156, 3) := by decide +kernel
theorem dX5_read_38 : decode cX5_read 38 = .ok (.ifCond .eq 40, 3) := by decide +kernel
theorem dX5_read_41 : decode cX5_read 41 = .ok (.iconst 0, 1) := by decide +kernel
theorem dX5_read_42 : decode cX5_read 42 = .ok (.istore_n 1, 1) := by decide +kernel
theorem dX5_read_43 : decode cX5_read 43 = .ok (.iload_n 1, 1) := by decide +kernel
theorem dX5_read_44 : decode cX5_read 44 = .ok (.aload_n 0, 1) := by decide +kernel
theorem dX5_read_45 : decode cX5_read 45 = .ok (.getfield 150, 3) := by decide +kernel
theorem dX5_read_48 : decode cX5_read 48 = .ok (.if_icmp .ge 17, 3) := by decide +kernel
theorem dX5_read_51 : decode cX5_read 51 = .ok (.aload_n 0, 1) := by decide +kernel
theorem dX5_read_52 : decode cX5_read 52 = .ok (.aload_n 0, 1) := by decide +kernel
theorem dX5_read_53 : decode cX5_read 53 = .ok (.getfield 147, 3) := by decide +kernel
theorem dX5_read_56 : decode cX5_read 56 = .ok (.invokevirtual 63, 3) := by decide +kernel
theorem dX5_read_59 : decode cX5_read 59 = .ok (.iinc 1 1, 3) := by decide +kernel
theorem dX5_read_62 : decode cX5_read 62 = .ok (.goto (-19), 3) := by decide +kernel
theorem dX5_read_65 : decode cX5_read 65 = .ok (.aload_n 0, 1) := by decide +kernel
theorem dX5_read_66 : decode cX5_read 66 = .ok (.dup, 1) := by decide +kernel
theorem dX5_read_67 : decode cX5_read 67 = .ok (.getfield 138, 3) := by decide +kernel
theorem dX5_read_70 : decode cX5_read 70 = .ok (.iconst 1, 1) := by decide +kernel
theorem dX5_read_71 : decode cX5_read 71 = .ok (.iadd, 1) := by decide +kernel
theorem dX5_read_72 : decode cX5_read 72 = .ok (.putfield 138, 3) := by decide +kernel
theorem dX5_read_75 : decode cX5_read 75 = .ok (.goto (-52), 3) := by decide +kernel
theorem dX5_read_78 : decode cX5_read 78 = .ok (.aload_n 0, 1) := by decide +kernel
theorem dX5_read_79 : decode cX5_read 79 = .ok (.getfield 7, 3) := by decide +kernel
theorem dX5_read_82 : decode cX5_read 82 = .ok (.iconst 0, 1) := by decide +kernel
theorem dX5_read_83 : decode cX5_read 83 = .ok (.iaload, 1) := by decide +kernel
theorem dX5_read_84 : decode cX5_read 84 = .ok (.ireturn, 1) := by decide +kernel
theorem dJ6_bitCount_0f7a4_0 : decode cJ6_bitCount_0f7a4 0 = .ok (.iload_n 0, 1) := by decide +kernel
theorem dJ6_bitCount_0f7a4_1 : decode cJ6_bitCount_0f7a4 1 = .ok (.iload_n 0, 1) := by decide +kernel
theorem dJ6_bitCount_0f7a4_2 : decode cJ6_bitCount_0f7a4 2 = .ok (.iconst 1, 1) := by decide +kernel
theorem dJ6_bitCount_0f7a4_3 : decode cJ6_bitCount_0f7a4 3 = .ok (.iushr, 1) := by decide +kernel
theorem dJ6_bitCount_0f7a4_4 : decode cJ6_bitCount_0f7a4 4 = .ok (.ldc_w 265, 3) := by decide +kernel
theorem dJ6_bitCount_0f7a4_7 : decode cJ6_bitCount_0f7a4 7 = .ok (.iand, 1) := by decide +kernel
theorem dJ6_bitCount_0f7a4_8 : decode cJ6_bitCount_0f7a4 8 = .ok (.isub, 1) := by decide +kernel
theorem dJ6_bitCount_0f7a4_9 : decode cJ6_bitCount_0f7a4 9 = .ok (.istore_n 0, 1) := by decide +kernel
theorem dJ6_bitCount_0f7a4_10 : decode cJ6_bitCount_0f7a4 10 = .ok (.iload_n 0, 1) := by decide +kernel
theorem dJ6_bitCount_0f7a4_11 : decode cJ6_bitCount_0f7a4 11 = .ok (.ldc_w 266, 3) := by decide +kernel
theorem dJ6_bitCount_0f7a4_14 : decode cJ6_bitCount_0f7a4 14 = .ok (.iand, 1) := by decide +kernel
theorem dJ6_bitCount_0f7a4_15 : decode cJ6_bitCount_0f7a4 15 = .ok (.iload_n 0, 1) := by decide +kernel
theorem dJ6_bitCount_0f7a4_16 : decode cJ6_bitCount_0f7a4 16 = .ok (.iconst 2, 1) := by decide +kernel
theorem dJ6_bitCount_0f7a4_17 : decode cJ6_bitCount_0f7a4 17 = .ok (.iushr, 1) := by decide +kernel
theorem dJ6_bitCount_0f7a4_18 : decode cJ6_bitCount_0f7a4 18 = .ok (.ldc_w 266, 3) := by decide +kernel
theorem dJ6_bitCount_0f7a4_21 : decode cJ6_bitCount_0f7a4 21 = .ok (.iand, 1) := by decide +kernel
theorem dJ6_bitCount_0f7a4_22 : decode cJ6_bitCount_0f7a4 22 = .ok (.iadd, 1) := by decide +kernel
theorem dJ6_bitCount_0f7a4_23 : decode cJ6_bitCount_0f7a4 23 = .ok (.istore_n 0, 1) := by decide +kernel
theorem dJ6_bitCount_0f7a4_24 : decode cJ6_bitCount_0f7a4 24 = .ok (.iload_n 0, 1) := by decide +kernel
theorem dJ6_bitCount_0f7a4_25 : decode cJ6_bitCount_0f7a4 25 = .ok (.iload_n 0, 1) := by decide +kernel
theorem dJ6_bitCount_0f7a4_26 : decode cJ6_bitCount_0f7a4 26 = .ok (.iconst 4, 1) := by decide +kernel
theorem dJ6_bitCount_0f7a4_27 : decode cJ6_bitCount_0f7a4 27 = .ok (.iushr, 1) := by decide +kernel
theorem dJ6_bitCount_0f7a4_28 : decode cJ6_bitCount_0f7a4 28 = .ok (.iadd, 1) := by decide +kernel
theorem dJ6_bitCount_0f7a4_29 : decode cJ6_bitCount_0f7a4 29 = .ok (.ldc_w 267, 3) := by decide +kernel
theorem dJ6_bitCount_0f7a4_32 : decode cJ6_bitCount_0f7a4 32 = .ok (.iand, 1) := by decide +kernel
theorem dJ6_bitCount_0f7a4_33 : decode cJ6_bitCount_0f7a4 33 = .ok (.istore_n 0, 1) := by decide +kernel
theorem dJ6_bitCount_0f7a4_34 : decode cJ6_bitCount_0f7a4 34 = .ok (.iload_n 0, 1) := by decide +kernel
theorem dJ6_bitCount_0f7a4_35 : decode cJ6_bitCount_0f7a4 35 = .ok (.iload_n 0, 1) := by decide +kernel
theorem dJ6_bitCount_0f7a4_36 : decode cJ6_bitCount_0f7a4 36 = .ok (.bipush 8, 2) := by decide +kernel
theorem dJ6_bitCount_0f7a4_38 : decode cJ6_bitCount_0f7a4 38 = .ok (.iushr, 1) := by decide +kernel
theorem dJ6_bitCount_0f7a4_39 : decode cJ6_bitCount_0f7a4 39 = .ok (.iadd, 1) := by decide +kernel
theorem dJ6_bitCount_0f7a4_40 : decode cJ6_bitCount_0f7a4 40 = .ok (.istore_n 0, 1) := by decide +kernel
theorem dJ6_bitCount_0f7a4_41 : decode cJ6_bitCount_0f7a4 41 = .ok (.iload_n 0, 1) := by decide +kernel
theorem dJ6_bitCount_0f7a4_42 : decode cJ6_bitCount_0f7a4 42 = .ok (.iload_n 0, 1) := by decide +kernel
theorem dJ6_bitCount_0f7a4_43 : decode cJ6_bitCount_0f7a4 43 = .ok (.bipush 16, 2) := by decide +kernel
theorem dJ6_bitCount_0f7a4_45 : decode cJ6_bitCount_0f7a4 45 = .ok (.iushr, 1) := by decide +kernel
theorem dJ6_bitCount_0f7a4_46 : decode cJ6_bitCount_0f7a4 46 = .ok (.iadd, 1) := by decide +kernel
theorem dJ6_bitCount_0f7a4_47 : decode cJ6_bitCount_0f7a4 47 = .ok (.istore_n 0, 1) := by decide +kernel
theorem dJ6_bitCount_0f7a4_48 : decode cJ6_bitCount_0f7a4 48 = .ok (.iload_n 0, 1) := by decide +kernel
theorem dJ6_bitCount_0f7a4_49 : decode cJ6_bitCount_0f7a4 49 = .ok (.bipush 63, 2) := by decide +kernel
theorem dJ6_bitCount_0f7a4_51 : decode cJ6_bitCount_0f7a4 51 = .ok (.iand, 1) := by decide +kernel
theorem dJ6_bitCount_0f7a4_52 : decode cJ6_bitCount_0f7a4 52 = .ok (.ireturn, 1) := by decide +kernel
theorem dJ9_max_7cf53_0 : decode cJ9_max_7cf53 0 = .ok (.iload_n 0, 1) := by decide +kernel
theorem dJ9_max_7cf53_1 : decode cJ9_max_7cf53 1 = .ok (.iload_n 1, 1) := by decide +kernel
theorem dJ9_max_7cf53_2 : decode cJ9_max_7cf53 2 = .ok (.if_icmp .lt 7, 3) := by decide +kernel
theorem dJ9_max_7cf53_5 : decode cJ9_max_7cf53 5 = .ok (.iload_n 0, 1) := by decide +kernel
theorem dJ9_max_7cf53_6 : decode cJ9_max_7cf53 6 = .ok (.goto 4, 3) := by decide +kernel
theorem dJ9_max_7cf53_9 : decode cJ9_max_7cf53 9 = .ok (.iload_n 1, 1) := by decide +kernel
theorem dJ9_max_7cf53_10 : decode cJ9_max_7cf53 10 = .ok (.ireturn, 1) := by decide +kernel
theorem dJ9_min_7cf53_0 : decode cJ9_min_7cf53 0 = .ok (.iload_n 0, 1) := by decide +kernel
theorem dJ9_min_7cf53_1 : decode cJ9_min_7cf53 1 = .ok (.iload_n 1, 1) := by decide +kernel
theorem dJ9_min_7cf53_2 : decode cJ9_min_7cf53 2 = .ok (.if_icmp .gt 7, 3) := by decide +kernel
theorem dJ9_min_7cf53_5 : decode cJ9_min_7cf53 5 = .ok (.iload_n 0, 1) := by decide +kernel
theorem dJ9_min_7cf53_6 : decode cJ9_min_7cf53 6 = .ok (.goto 4, 3) := by decide +kernel
theorem dJ9_min_7cf53_9 : decode cJ9_min_7cf53 9 = .ok (.iload_n 1, 1) := by decide +kernel
theorem dJ9_min_7cf53_10 : decode cJ9_min_7cf53 10 = .ok (.ireturn, 1) := by decide +kernel
set_option maxRecDepth 20000 in
theorem ggL_law_X4_init : GoodIn wsL_law wsX4_init := goodIn_r _ [8, 9, 10, 11, 12, 13, 14, 15, 16, 17, 18, 19, 20, 21, 22, 23, 24, 25, 26, 27, 28, 29, 30, 31, 32, 33, 34, 35, 36, 37, 38, 39, 40, 41, 42, 43, 44, 45, 46, 47, 48, 49, 602, 603, 604, 605, 606, 607, 608, 609, 610, 611, 588, 589, 590, 591, 612, 613, 614, 615, 616, 617, 618, 619] (by decide +kernel) (by decide +kernel)
set_option maxRecDepth 20000 in
theorem gL_law_X4_init : GoodIn wsL_law (wsX4_init) := ggL_law_X4_init
set_option maxRecDepth 20000 in
theorem ggL_law_X5_init : GoodIn wsL_law wsX5_init := goodIn_r _ [52, 53, 10, 11, 29, 54, 55, 56, 57, 592, 593, 594, 595, 596, 597, 598, 599, 600, 601] (by decide +kernel) (by decide +kernel)
set_option maxRecDepth 20000 in
theorem gL_law_X5_init : GoodIn wsL_law (wsX5_init) := ggL_law_X5_init
set_option maxRecDepth 20000 in
theorem ggL_law_X4_set : GoodIn wsL_law wsX4_set := goodIn_r _ [61, 62, 63, 20, 15, 64, 65, 66, 2, 67, 68, 69, 70, 19, 71, 72, 42, 73, 74, 75, 76, 77, 78, 79, 14, 80, 30, 33, 34, 35, 36, 31, 32, 81, 82, 83, 84, 85, 86, 87, 588, 589, 590, 591, 602, 603, 604, 605, 606, 607, 608, 609, 610, 611, 612, 613] (by decide +kernel) (by decide +kernel)
set_option maxRecDepth 20000 in
theorem gL_law_X4_set : GoodIn wsL_law (wsV RL 13 RX4 yX4_set wsX4_set) := goodIn_app (goodIn_of _ (by decide +kernel)) ggL_law_X4_set
set_option maxRecDepth 20000 in
theorem ggL_law_X5_set : GoodIn wsL_law wsX5_set := goodIn_r _ [91, 54, 92, 93, 5, 94, 95, 96, 97, 98, 99, 100, 101, 102, 103, 55, 104, 105, 106, 107, 592, 593, 594, 595, 596, 597, 598, 599, 600, 601] (by decide +kernel) (by decide +kernel)
set_option maxRecDepth 20000 in
theorem gL_law_X5_set : GoodIn wsL_law (wsV RL 17 RX5 yX5_set wsX5_set) := goodIn_app (goodIn_of _ (by decide +kernel)) ggL_law_X5_set
set_option maxRecDepth 20000 in
theorem ggL_law_X4_dip : GoodIn wsL_law wsX4_dip := goodIn_r _ [111, 20, 15, 112, 65, 66, 2, 67, 113, 114, 115, 68, 69, 70, 19, 71, 72, 42, 73, 74, 75, 76, 77, 78, 79, 14, 80, 30, 33, 34, 35, 36, 31, 32, 81, 82, 83, 84, 85, 86, 87, 116, 117, 118, 119, 120, 121, 122, 123, 124, 125, 126, 127, 128, 129, 130, 131, 132, 133, 134, 135, 588, 589, 590, 591, 602, 603, 604, 605, 606, 607, 608, 609, 610, 611, 612, 613] (by decide +kernel) (by decide +kernel)
set_option maxRecDepth 20000 in
theorem gL_law_X4_dip : GoodIn wsL_law (wsV RL 18 RX4 yX4_dip wsX4_dip) := goodIn_app (goodIn_of _ (by decide +kernel)) ggL_law_X4_dip
set_option maxRecDepth 20000 in
theorem ggL_law_X5_dip : GoodIn wsL_law wsX5_dip := goodIn_r _ [139, 96, 97, 5, 98, 99, 100, 101, 102, 103, 55, 54, 140, 141, 142, 143, 144, 145, 146, 147, 148, 149, 150, 151, 592, 593, 594, 595, 596, 597, 598, 599, 600, 601] (by decide +kernel) (by decide +kernel)
set_option maxRecDepth 20000 in
theorem gL_law_X5_dip : GoodIn wsL_law (wsV RL 22 RX5 yX5_dip wsX5_dip) := goodIn_app (goodIn_of _ (by decide +kernel)) ggL_law_X5_dip
set_option maxRecDepth 20000 in
theorem ggL_law_X4_pour : GoodIn wsL_law wsX4_pour := goodIn_r _ [155, 15, 156, 20, 157, 158, 159, 14, 160, 81, 65, 66, 2, 67, 113, 114, 115, 68, 69, 70, 19, 71, 72, 42, 73, 74, 75, 76, 77, 78, 79, 80, 30, 33, 34, 35, 36, 31, 32, 82, 83, 84, 85, 86, 87, 161, 133, 134, 135, 588, 589, 590, 591, 602, 603, 604, 605, 606, 607, 608, 609, 610, 611, 612, 613] (by decide +kernel) (by decide +kernel)
set_option maxRecDepth 20000 in
theorem gL_law_X4_pour : GoodIn wsL_law (wsV RL 23 RX4 yX4_pour wsX4_pour) := goodIn_app (goodIn_of _ (by decide +kernel)) ggL_law_X4_pour
set_option maxRecDepth 20000 in
theorem ggL_law_X5_pour : GoodIn wsL_law wsX5_pour := goodIn_r _ [165, 54, 166, 167, 168, 5, 169, 96, 97, 98, 99, 100, 101, 102, 103, 55, 592, 593, 594, 595, 596, 597, 598, 599, 600, 601] (by decide +kernel) (by decide +kernel)
set_option maxRecDepth 20000 in
theorem gL_law_X5_pour : GoodIn wsL_law (wsV RL 26 RX5 yX5_pour wsX5_pour) := goodIn_app (goodIn_of _ (by decide +kernel)) ggL_law_X5_pour
set_option maxRecDepth 20000 in
theorem ggL_law_X4_add : GoodIn wsL_law wsX4_add := goodIn_r _ [173, 15, 174, 20, 113, 114, 2, 115, 65, 66, 67, 68, 69, 70, 19, 71, 72, 42, 73, 74, 75, 76, 77, 78, 79, 14, 80, 30, 33, 34, 35, 36, 31, 32, 81, 82, 83, 84, 85, 86, 87, 128, 129, 130, 131, 132, 133, 134, 135, 588, 589, 590, 591, 602, 603, 604, 605, 606, 607, 608, 609, 610, 611, 612, 613] (by decide +kernel) (by decide +kernel)
set_option maxRecDepth 20000 in
theorem gL_law_X4_add : GoodIn wsL_law (wsV RL 27 RX4 yX4_add wsX4_add) := goodIn_app (goodIn_of _ (by decide +kernel)) ggL_law_X4_add
set_option maxRecDepth 20000 in
theorem ggL_law_X5_add : GoodIn wsL_law wsX5_add := goodIn_r _ [178, 54, 96, 97, 5, 98, 99, 100, 101, 102, 103, 55, 148, 149, 150, 151, 592, 593, 594, 595, 596, 597, 598, 599, 600, 601] (by decide +kernel) (by decide +kernel)
set_option maxRecDepth 20000 in
theorem gL_law_X5_add : GoodIn wsL_law (wsV RL 31 RX5 yX5_add wsX5_add) := goodIn_app (goodIn_of _ (by decide +kernel)) ggL_law_X5_add
set_option maxRecDepth 20000 in
theorem ggL_law_X4_thin : GoodIn wsL_law wsX4_thin := goodIn_r _ [182, 15, 20, 157, 158, 159, 14, 160, 81, 65, 66, 2, 67, 68, 69, 70, 19, 71, 72, 42, 73, 74, 75, 76, 77, 78, 79, 80, 30, 33, 34, 35, 36, 31, 32, 82, 83, 84, 85, 86, 87, 183, 184, 185, 186, 187, 188, 189, 190, 124, 125, 126, 127, 588, 589, 590, 591, 602, 603, 604, 605, 606, 607, 608, 609, 610, 611, 612, 613] (by decide +kernel) (by decide +kernel)
set_option maxRecDepth 20000 in
theorem gL_law_X4_thin : GoodIn wsL_law (wsV RL 32 RX4 yX4_thin wsX4_thin) := goodIn_app (goodIn_of _ (by decide +kernel)) ggL_law_X4_thin
set_option maxRecDepth 20000 in
theorem ggL_law_X5_thin : GoodIn wsL_law wsX5_thin := goodIn_r _ [194, 54, 166, 167, 168, 5, 169, 96, 97, 98, 99, 100, 101, 102, 103, 55, 195, 196, 197, 592, 593, 594, 595, 596, 597, 598, 599, 600, 601] (by decide +kernel) (by decide +kernel)
set_option maxRecDepth 20000 in
theorem gL_law_X5_thin : GoodIn wsL_law (wsV RL 35 RX5 yX5_thin wsX5_thin) := goodIn_app (goodIn_of _ (by decide +kernel)) ggL_law_X5_thin
set_option maxRecDepth 20000 in
theorem ggL_law_X4_cut : GoodIn wsL_law wsX4_cut := goodIn_r _ [201, 15, 174, 20, 68, 69, 70, 19, 71, 72, 42, 73, 74, 75, 76, 77, 78, 79, 14, 80, 30, 33, 34, 35, 36, 31, 32, 81, 82, 83, 84, 85, 86, 87, 183, 184, 185, 186, 187, 188, 189, 190, 124, 125, 126, 127, 588, 589, 590, 591, 602, 603, 604, 605, 606, 607, 608, 609, 610, 611, 612, 613] (by decide +kernel) (by decide +kernel)
set_option maxRecDepth 20000 in
theorem gL_law_X4_cut : GoodIn wsL_law (wsV RL 36 RX4 yX4_cut wsX4_cut) := goodIn_app (goodIn_of _ (by decide +kernel)) ggL_law_X4_cut
set_option maxRecDepth 20000 in
theorem ggL_law_X5_cut : GoodIn wsL_law wsX5_cut := goodIn_r _ [205, 54, 99, 100, 101, 5, 102, 103, 55, 592, 593, 594, 595, 596, 597, 598, 599, 600, 601] (by decide +kernel) (by decide +kernel)
set_option maxRecDepth 20000 in
theorem gL_law_X5_cut : GoodIn wsL_law (wsV RL 40 RX5 yX5_cut wsX5_cut) := goodIn_app (goodIn_of _ (by decide +kernel)) ggL_law_X5_cut
set_option maxRecDepth 20000 in
theorem ggL_law_X4_go : GoodIn wsL_law wsX4_go := goodIn_r _ [209, 15, 210, 211, 20, 174, 65, 66, 2, 67, 68, 69, 70, 19, 71, 72, 42, 73, 74, 75, 76, 77, 78, 79, 14, 80, 30, 33, 34, 35, 36, 31, 32, 81, 82, 83, 84, 85, 86, 87, 212, 213, 214, 215, 216, 217, 218, 219, 220, 221, 222, 223, 224, 187, 188, 189, 190, 225, 184, 185, 186, 124, 125, 126, 127, 226, 227, 228, 229, 230, 231, 232, 233, 234, 235, 236, 237, 238, 239, 240, 241, 242, 243, 244, 245, 246, 247, 248, 249, 250, 251, 252, 253, 254, 255, 256, 257, 120, 121, 122, 123, 588, 589, 590, 591, 602, 603, 604, 605, 606, 607, 608, 609, 610, 611, 612, 613] (by decide +kernel) (by decide +kernel)
set_option maxRecDepth 20000 in
theorem gL_law_X4_go : GoodIn wsL_law (wsV RL 41 RX4 yX4_go wsX4_go) := goodIn_app (goodIn_of _ (by decide +kernel)) ggL_law_X4_go
set_option maxRecDepth 20000 in
theorem ggL_law_X5_go : GoodIn wsL_law wsX5_go := goodIn_r _ [261, 54, 95, 96, 97, 5, 98, 99, 100, 101, 102, 103, 55, 262, 263, 264, 265, 266, 267, 268, 269, 270, 104, 105, 106, 107, 271, 272, 273, 274, 195, 196, 197, 275, 276, 277, 278, 279, 280, 281, 282, 283, 284, 285, 286, 287, 288, 289, 290, 144, 145, 146, 147, 291, 292, 293, 592, 593, 594, 595, 596, 597, 598, 599, 600, 601] (by decide +kernel) (by decide +kernel)
set_option maxRecDepth 20000 in
theorem gL_law_X5_go : GoodIn wsL_law (wsV RL 44 RX5 yX5_go wsX5_go) := goodIn_app (goodIn_of _ (by decide +kernel)) ggL_law_X5_go
set_option maxRecDepth 20000 in
theorem ggL_law_X4_undo : GoodIn wsL_law wsX4_undo := goodIn_r _ [297, 20, 298, 15, 299, 300, 301, 19, 302, 72, 42, 77, 78, 79, 14, 80, 30, 33, 34, 35, 36, 31, 32, 81, 82, 83, 84, 85, 86, 87, 588, 589, 590, 591, 612, 613, 602, 603, 604, 605, 606, 607, 608, 609, 610, 611] (by decide +kernel) (by decide +kernel)
set_option maxRecDepth 20000 in
theorem gL_law_X4_undo : GoodIn wsL_law (wsV RL 45 RX4 yX4_undo wsX4_undo) := goodIn_app (goodIn_of _ (by decide +kernel)) ggL_law_X4_undo
set_option maxRecDepth 20000 in
theorem ggL_law_X5_undo : GoodIn wsL_law wsX5_undo := goodIn_r _ [306, 103, 54, 55, 592, 593, 594, 595, 596, 597, 598, 599, 600, 601] (by decide +kernel) (by decide +kernel)
set_option maxRecDepth 20000 in
theorem gL_law_X5_undo : GoodIn wsL_law (wsV RL 48 RX5 yX5_undo wsX5_undo) := goodIn_app (goodIn_of _ (by decide +kernel)) ggL_law_X5_undo
set_option maxRecDepth 20000 in
theorem ggL_law_X4_row : GoodIn wsL_law wsX4_row := goodIn_r _ [310, 15, 156, 157, 158, 159, 14, 160, 81, 311, 312, 313, 314, 315, 316, 317, 318, 319, 320, 321, 322, 323, 324, 325, 326, 327, 328, 329, 330, 30, 31, 331, 332, 333, 334, 335, 336, 337, 338, 339, 340, 341, 231, 232, 233, 588, 589, 590, 591, 602, 603, 604, 605, 606, 607, 608, 609, 610, 611] (by decide +kernel) (by decide +kernel)
set_option maxRecDepth 20000 in
theorem gL_law_X4_row : GoodIn wsL_law (wsV RL 49 RX4 yX4_row wsX4_row) := goodIn_app (goodIn_of _ (by decide +kernel)) ggL_law_X4_row
set_option maxRecDepth 20000 in
theorem ggL_law_X5_row : GoodIn wsL_law wsX5_row := goodIn_r _ [345, 54, 166, 167, 168, 5, 169, 96, 97, 98, 346, 347, 348, 349, 350, 351, 352, 353, 354, 355, 356, 357, 358, 359, 279, 280, 281, 282, 104, 105, 106, 107, 592, 593, 594, 595, 596, 597, 598, 599, 600, 601] (by decide +kernel) (by decide +kernel)
set_option maxRecDepth 20000 in
theorem gL_law_X5_row : GoodIn wsL_law (wsV RL 52 RX5 yX5_row wsX5_row) := goodIn_app (goodIn_of _ (by decide +kernel)) ggL_law_X5_row
set_option maxRecDepth 20000 in
theorem ggL_law_X4_count : GoodIn wsL_law wsX4_count := goodIn_r _ [363, 15, 112, 64, 174, 210, 364, 365, 366, 367, 368, 20, 298, 24, 369, 65, 66, 2, 67, 370, 251, 252, 14, 253, 81, 230, 231, 232, 233, 30, 31, 371, 372, 373, 374, 375, 376, 377, 378, 379, 328, 329, 330, 331, 332, 313, 333, 334, 312, 314, 335, 316, 317, 318, 319, 320, 336, 322, 323, 337, 325, 326, 380, 381, 382, 383, 384, 385, 386, 387, 388, 389, 390, 391, 392, 393, 394, 395, 396, 189, 397, 398, 399, 339, 340, 588, 589, 590, 591, 602, 603, 604, 605, 606, 607, 608, 609, 610, 611, 612, 613, 614, 615, 616, 617, 618, 619] (by decide +kernel) (by decide +kernel)
set_option maxRecDepth 20000 in
theorem gL_law_X4_count : GoodIn wsL_law (wsV RL 53 RX4 yX4_count wsX4_count) := goodIn_app (goodIn_of _ (by decide +kernel)) ggL_law_X4_count
set_option maxRecDepth 20000 in
theorem ggL_law_X5_count : GoodIn wsL_law wsX5_count := goodIn_r _ [403, 54, 103, 404, 275, 276, 277, 5, 278, 279, 280, 281, 282, 104, 105, 106, 107, 291, 292, 293, 405, 406, 407, 408, 409, 410, 411, 412, 356, 357, 358, 359, 353, 354, 355, 350, 351, 352, 413, 414, 415, 416, 417, 418, 419, 420, 421, 422, 423, 424, 96, 97, 98, 425, 426, 427, 428, 144, 145, 146, 147, 592, 593, 594, 595, 596, 597, 598, 599, 600, 601] (by decide +kernel) (by decide +kernel)
set_option maxRecDepth 20000 in
theorem gL_law_X5_count : GoodIn wsL_law (wsV RL 56 RX5 yX5_count wsX5_count) := goodIn_app (goodIn_of _ (by decide +kernel)) ggL_law_X5_count
set_option maxRecDepth 20000 in
theorem ggL_law_X4_ladder : GoodIn wsL_law wsX4_ladder := goodIn_r _ [432, 15, 174, 433, 376, 377, 14, 378, 379, 328, 329, 330, 30, 31, 331, 332, 313, 333, 334, 312, 314, 335, 316, 317, 318, 319, 320, 336, 322, 323, 337, 325, 326, 327, 588, 589, 590, 591, 602, 603, 604, 605, 606, 607, 608, 609, 610, 611] (by decide +kernel) (by decide +kernel)
set_option maxRecDepth 20000 in
theorem gL_law_X4_ladder : GoodIn wsL_law (wsV RL 57 RX4 yX4_ladder wsX4_ladder) := goodIn_app (goodIn_of _ (by decide +kernel)) ggL_law_X4_ladder
set_option maxRecDepth 20000 in
theorem ggL_law_X5_ladder : GoodIn wsL_law wsX5_ladder := goodIn_r _ [437, 54, 405, 406, 407, 5, 408, 409, 410, 411, 412, 356, 357, 358, 359, 279, 280, 281, 282, 104, 105, 106, 107, 353, 354, 355, 350, 351, 352, 592, 593, 594, 595, 596, 597, 598, 599, 600, 601] (by decide +kernel) (by decide +kernel)
set_option maxRecDepth 20000 in
theorem gL_law_X5_ladder : GoodIn wsL_law (wsV RL 60 RX5 yX5_ladder wsX5_ladder) := goodIn_app (goodIn_of _ (by decide +kernel)) ggL_law_X5_ladder
set_option maxRecDepth 20000 in
theorem ggL_law_X4_find : GoodIn wsL_law wsX4_find := goodIn_r _ [441, 15, 174, 442, 443, 2, 444, 65, 66, 67, 327, 328, 329, 14, 330, 30, 31, 331, 332, 313, 333, 334, 312, 314, 335, 316, 317, 318, 319, 320, 336, 322, 323, 337, 325, 326, 588, 589, 590, 591, 602, 603, 604, 605, 606, 607, 608, 609, 610, 611] (by decide +kernel) (by decide +kernel)
set_option maxRecDepth 20000 in
theorem gL_law_X4_find : GoodIn wsL_law (wsV RL 61 RX4 yX4_find wsX4_find) := goodIn_app (goodIn_of _ (by decide +kernel)) ggL_law_X4_find
set_option maxRecDepth 20000 in
theorem ggL_law_X5_find : GoodIn wsL_law wsX5_find := goodIn_r _ [448, 54, 449, 450, 5, 451, 96, 97, 98, 409, 410, 411, 412, 356, 357, 358, 359, 279, 280, 281, 282, 104, 105, 106, 107, 353, 354, 355, 350, 351, 352, 592, 593, 594, 595, 596, 597, 598, 599, 600, 601] (by decide +kernel) (by decide +kernel)
set_option maxRecDepth 20000 in
theorem gL_law_X5_find : GoodIn wsL_law (wsV RL 64 RX5 yX5_find wsX5_find) := goodIn_app (goodIn_of _ (by decide +kernel)) ggL_law_X5_find
set_option maxRecDepth 20000 in
theorem ggL_law_X4_colourOf : GoodIn wsL_law wsX4_colourOf := goodIn_r _ [455, 15, 64, 113, 114, 2, 115, 65, 66, 67, 456, 332, 313, 333, 334, 312, 314, 335, 316, 317, 318, 319, 320, 336, 322, 323, 337, 325, 326, 588, 589, 590, 591, 602, 603, 604, 605, 606, 607, 608, 609, 610, 611] (by decide +kernel) (by decide +kernel)
set_option maxRecDepth 20000 in
theorem gL_law_X4_colourOf : GoodIn wsL_law (wsV RL 65 RX4 yX4_colourOf wsX4_colourOf) := goodIn_app (goodIn_of _ (by decide +kernel)) ggL_law_X4_colourOf
set_option maxRecDepth 20000 in
theorem ggL_law_X5_colourOf : GoodIn wsL_law wsX5_colourOf := goodIn_r _ [460, 96, 97, 5, 98, 356, 357, 358, 359, 279, 280, 281, 282, 104, 105, 106, 107, 54, 353, 354, 355, 350, 351, 352, 592, 593, 594, 595, 596, 597, 598, 599, 600, 601] (by decide +kernel) (by decide +kernel)
set_option maxRecDepth 20000 in
theorem gL_law_X5_colourOf : GoodIn wsL_law (wsV RL 68 RX5 yX5_colourOf wsX5_colourOf) := goodIn_app (goodIn_of _ (by decide +kernel)) ggL_law_X5_colourOf
set_option maxRecDepth 20000 in
theorem ggL_law_X4_thicknessFor : GoodIn wsL_law wsX4_thicknessFor := goodIn_r _ [464, 15, 64, 442, 443, 2, 444, 65, 66, 67, 113, 114, 115, 456, 332, 313, 333, 334, 312, 314, 335, 316, 317, 318, 319, 320, 336, 322, 323, 337, 325, 326, 588, 589, 590, 591, 602, 603, 604, 605, 606, 607, 608, 609, 610, 611] (by decide +kernel) (by decide +kernel)
set_option maxRecDepth 20000 in
theorem gL_law_X4_thicknessFor : GoodIn wsL_law (wsV RL 69 RX4 yX4_thicknessFor wsX4_thicknessFor) := goodIn_app (goodIn_of _ (by decide +kernel)) ggL_law_X4_thicknessFor
set_option maxRecDepth 20000 in
theorem ggL_law_X5_thicknessFor : GoodIn wsL_law wsX5_thicknessFor := goodIn_r _ [468, 449, 450, 5, 451, 96, 97, 98, 356, 357, 358, 359, 279, 280, 281, 282, 104, 105, 106, 107, 54, 353, 354, 355, 350, 351, 352, 592, 593, 594, 595, 596, 597, 598, 599, 600, 601] (by decide +kernel) (by decide +kernel)
set_option maxRecDepth 20000 in
theorem gL_law_X5_thicknessFor : GoodIn wsL_law (wsV RL 72 RX5 yX5_thicknessFor wsX5_thicknessFor) := goodIn_app (goodIn_of _ (by decide +kernel)) ggL_law_X5_thicknessFor
set_option maxRecDepth 20000 in
theorem ggL_law_X4_until : GoodIn wsL_law wsX4_until := goodIn_r _ [472, 16, 15, 174, 473, 474, 2, 475, 65, 66, 67, 442, 443, 444, 476, 78, 79, 14, 80, 30, 33, 34, 35, 36, 31, 32, 81, 82, 83, 84, 85, 86, 87, 477, 478, 479, 480, 368, 370, 251, 252, 253, 230, 231, 232, 233, 327, 328, 329, 330, 331, 332, 313, 333, 334, 312, 314, 335, 316, 317, 318, 319, 320, 336, 322, 323, 337, 325, 326, 212, 213, 214, 215, 216, 217, 218, 219, 220, 221, 222, 223, 224, 187, 188, 189, 190, 225, 184, 185, 186, 124, 125, 126, 127, 226, 227, 228, 229, 234, 235, 236, 237, 238, 239, 240, 241, 242, 243, 244, 245, 246, 247, 248, 249, 250, 254, 255, 256, 257, 120, 121, 122, 123, 588, 589, 590, 591, 602, 603, 604, 605, 606, 607, 608, 609, 610, 611] (by decide +kernel) (by decide +kernel)
set_option maxRecDepth 20000 in
theorem gL_law_X4_until : GoodIn wsL_law (wsV RL 73 RX4 yX4_until wsX4_until) := goodIn_app (goodIn_of _ (by decide +kernel)) ggL_law_X4_until
set_option maxRecDepth 20000 in
theorem ggL_law_X5_until : GoodIn wsL_law wsX5_until := goodIn_r _ [484, 485, 486, 5, 487, 96, 97, 98, 449, 450, 451, 488, 489, 490, 491, 56, 54, 492, 493, 494, 495, 275, 276, 277, 278, 279, 280, 281, 282, 104, 105, 106, 107, 291, 292, 293, 409, 410, 411, 412, 356, 357, 358, 359, 353, 354, 355, 350, 351, 352, 262, 263, 264, 265, 266, 267, 268, 269, 270, 271, 272, 273, 274, 195, 196, 197, 283, 284, 285, 286, 287, 288, 289, 290, 144, 145, 146, 147, 496, 497, 498, 499, 592, 593, 594, 595, 596, 597, 598, 599, 600, 601] (by decide +kernel) (by decide +kernel)
set_option maxRecDepth 20000 in
theorem gL_law_X5_until : GoodIn wsL_law (wsV RL 76 RX5 yX5_until wsX5_until) := goodIn_app (goodIn_of _ (by decide +kernel)) ggL_law_X5_until
set_option maxRecDepth 20000 in
theorem ggL_law_X4_ifGo : GoodIn wsL_law wsX4_ifGo := goodIn_r _ [503, 15, 16, 174, 156, 157, 158, 159, 14, 160, 81, 65, 66, 2, 67, 476, 78, 79, 80, 30, 33, 34, 35, 36, 31, 32, 82, 83, 84, 85, 86, 87, 212, 213, 214, 215, 216, 217, 218, 219, 220, 221, 222, 223, 224, 187, 188, 189, 190, 225, 184, 185, 186, 124, 125, 126, 127, 226, 227, 228, 229, 230, 231, 232, 233, 234, 235, 236, 237, 238, 239, 240, 241, 242, 243, 244, 245, 246, 247, 248, 249, 250, 251, 252, 253, 254, 255, 256, 257, 120, 121, 122, 123, 588, 589, 590, 591, 602, 603, 604, 605, 606, 607, 608, 609, 610, 611] (by decide +kernel) (by decide +kernel)
set_option maxRecDepth 20000 in
theorem gL_law_X4_ifGo : GoodIn wsL_law (wsV RL 77 RX4 yX4_ifGo wsX4_ifGo) := goodIn_app (goodIn_of _ (by decide +kernel)) ggL_law_X4_ifGo
set_option maxRecDepth 20000 in
theorem ggL_law_X5_ifGo : GoodIn wsL_law wsX5_ifGo := goodIn_r _ [507, 54, 166, 167, 168, 5, 169, 96, 97, 98, 488, 489, 490, 491, 56, 262, 263, 264, 265, 266, 267, 268, 269, 270, 104, 105, 106, 107, 271, 272, 273, 274, 195, 196, 197, 275, 276, 277, 278, 279, 280, 281, 282, 283, 284, 285, 286, 287, 288, 289, 290, 144, 145, 146, 147, 291, 292, 293, 496, 497, 498, 499, 592, 593, 594, 595, 596, 597, 598, 599, 600, 601] (by decide +kernel) (by decide +kernel)
set_option maxRecDepth 20000 in
theorem gL_law_X5_ifGo : GoodIn wsL_law (wsV RL 80 RX5 yX5_ifGo wsX5_ifGo) := goodIn_app (goodIn_of _ (by decide +kernel)) ggL_law_X5_ifGo
set_option maxRecDepth 20000 in
theorem ggL_law_X4_type : GoodIn wsL_law wsX4_type := goodIn_r _ [511, 24, 369, 65, 66, 2, 67, 512, 513, 514, 23, 515, 516, 48, 588, 589, 590, 591, 614, 615, 616, 617, 618, 619] (by decide +kernel) (by decide +kernel)
set_option maxRecDepth 20000 in
theorem gL_law_X4_type : GoodIn wsL_law (wsV RL 81 RX4 yX4_type wsX4_type) := goodIn_app (goodIn_of _ (by decide +kernel)) ggL_law_X4_type
set_option maxRecDepth 20000 in
theorem ggL_law_X5_type : GoodIn wsL_law wsX5_type := goodIn_r _ [520, 404, 57, 96, 97, 5, 98, 592, 593, 594, 595, 596, 597, 598, 599, 600, 601] (by decide +kernel) (by decide +kernel)
set_option maxRecDepth 20000 in
theorem gL_law_X5_type : GoodIn wsL_law (wsV RL 84 RX5 yX5_type wsX5_type) := goodIn_app (goodIn_of _ (by decide +kernel)) ggL_law_X5_type
set_option maxRecDepth 20000 in
theorem ggL_law_X4_clearText : GoodIn wsL_law wsX4_clearText := goodIn_r _ [524, 24, 369, 588, 589, 590, 591, 614, 615, 616, 617, 618, 619] (by decide +kernel) (by decide +kernel)
set_option maxRecDepth 20000 in
theorem gL_law_X4_clearText : GoodIn wsL_law (wsV RL 85 RX4 yX4_clearText wsX4_clearText) := goodIn_app (goodIn_of _ (by decide +kernel)) ggL_law_X4_clearText
set_option maxRecDepth 20000 in
theorem ggL_law_X5_clearText : GoodIn wsL_law wsX5_clearText := goodIn_r _ [528, 404, 592, 593, 594, 595, 596, 597, 598, 599, 600, 601] (by decide +kernel) (by decide +kernel)
set_option maxRecDepth 20000 in
theorem gL_law_X5_clearText : GoodIn wsL_law (wsV RL 88 RX5 yX5_clearText wsX5_clearText) := goodIn_app (goodIn_of _ (by decide +kernel)) ggL_law_X5_clearText
set_option maxRecDepth 20000 in
theorem ggL_law_X4_fault : GoodIn wsL_law wsX4_fault := goodIn_r _ [532, 24, 533, 534, 65, 66, 2, 67, 535, 536, 537, 23, 538, 539, 540, 516, 48, 541, 542, 543, 544, 545, 49, 546, 547, 548, 549, 550, 551, 552, 553, 114, 115, 588, 589, 590, 591, 614, 615, 616, 617, 618, 619] (by decide +kernel) (by decide +kernel)
set_option maxRecDepth 20000 in
theorem gL_law_X4_fault : GoodIn wsL_law (wsV RL 89 RX4 yX4_fault wsX4_fault) := goodIn_app (goodIn_of _ (by decide +kernel)) ggL_law_X4_fault
set_option maxRecDepth 20000 in
theorem ggL_law_X5_fault : GoodIn wsL_law wsX5_fault := goodIn_r _ [557, 558, 96, 97, 5, 98, 559, 560, 561, 562, 563, 564, 565, 404, 566, 567, 568, 569, 570, 571, 572, 573, 57, 574, 575, 576, 577, 592, 593, 594, 595, 596, 597, 598, 599, 600, 601] (by decide +kernel) (by decide +kernel)
set_option maxRecDepth 20000 in
theorem gL_law_X5_fault : GoodIn wsL_law (wsV RL 92 RX5 yX5_fault wsX5_fault) := goodIn_app (goodIn_of _ (by decide +kernel)) ggL_law_X5_fault
set_option maxRecDepth 20000 in
theorem ggL_law_X4_read : GoodIn wsL_law wsX4_read := goodIn_r _ [581, 24, 533, 20, 15, 582, 583, 174, 535, 536, 537, 23, 538, 539, 540, 516, 48, 541, 542, 543, 544, 545, 49, 546, 547, 548, 549, 550, 551, 552, 553, 114, 2, 115, 65, 66, 67, 68, 69, 70, 19, 71, 72, 42, 73, 74, 75, 76, 77, 78, 79, 14, 80, 30, 33, 34, 35, 36, 31, 32, 81, 82, 83, 84, 85, 86, 87, 116, 117, 118, 119, 120, 121, 122, 123, 124, 125, 126, 127, 128, 129, 130, 131, 132, 133, 134, 135, 588, 589, 590, 591, 614, 615, 616, 617, 618, 619, 602, 603, 604, 605, 606, 607, 608, 609, 610, 611, 612, 613] (by decide +kernel) (by decide +kernel)
set_option maxRecDepth 20000 in
theorem gL_law_X4_read : GoodIn wsL_law (wsV RL 93 RX4 yX4_read wsX4_read) := goodIn_app (goodIn_of _ (by decide +kernel)) ggL_law_X4_read
set_option maxRecDepth 20000 in
theorem ggL_law_X5_read : GoodIn wsL_law wsX5_read := goodIn_r _ [587, 563, 404, 565, 564, 54, 559, 560, 561, 5, 562, 558, 566, 567, 568, 569, 570, 571, 572, 573, 57, 574, 575, 576, 577, 96, 97, 98, 99, 100, 101, 102, 103, 55, 140, 141, 142, 143, 144, 145, 146, 147, 148, 149, 150, 151, 592, 593, 594, 595, 596, 597, 598, 599, 600, 601] (by decide +kernel) (by decide +kernel)
set_option maxRecDepth 20000 in
theorem gL_law_X5_read : GoodIn wsL_law (wsV RL 96 RX5 yX5_read wsX5_read) := goodIn_app (goodIn_of _ (by decide +kernel)) ggL_law_X5_read
theorem dL_law_0 : decode cL_law 0 = .ok (.new 7, 3) := by decide +kernel
theorem dL_law_3 : decode cL_law 3 = .ok (.dup, 1) := by decide +kernel
theorem dL_law_4 : decode cL_law 4 = .ok (.invokespecial 9, 3) := by decide +kernel
theorem dL_law_7 : decode cL_law 7 = .ok (.astore_n 1, 1) := by decide +kernel
theorem dL_law_8 : decode cL_law 8 = .ok (.new 10, 3) := by decide +kernel
theorem dL_law_11 : decode cL_law 11 = .ok (.dup, 1) := by decide +kernel
theorem dL_law_12 : decode cL_law 12 = .ok (.invokespecial 12, 3) := by decide +kernel
theorem dL_law_15 : decode cL_law 15 = .ok (.astore_n 2, 1) := by decide +kernel
theorem dL_law_16 : decode cL_law 16 = .ok (.iconst 0, 1) := by decide +kernel
theorem dL_law_17 : decode cL_law 17 = .ok (.istore_n 3, 1) := by decide +kernel
theorem dL_law_18 : decode cL_law 18 = .ok (.iload_n 3, 1) := by decide +kernel
theorem dL_law_19 : decode cL_law 19 = .ok (.aload_n 0, 1) := by decide +kernel
theorem dL_law_20 : decode cL_law 20 = .ok (.arraylength, 1) := by decide +kernel
theorem dL_law_21 : decode cL_law 21 = .ok (.iconst 4, 1) := by decide +kernel
theorem dL_law_22 : decode cL_law 22 = .ok (.isub, 1) := by decide +kernel
theorem dL_law_23 : decode cL_law 23 = .ok (.if_icmp .gt 631, 3) := by decide +kernel
theorem dL_law_26 : decode cL_law 26 = .ok (.aload_n 0, 1) := by decide +kernel
theorem dL_law_27 : decode cL_law 27 = .ok (.iload_n 3, 1) := by decide +kernel
theorem dL_law_28 : decode cL_law 28 = .ok (.iaload, 1) := by decide +kernel
theorem dL_law_29 : decode cL_law 29 = .ok (.bipush 31, 2) := by decide +kernel
theorem dL_law_31 : decode cL_law 31 = .ok (.iand, 1) := by decide +kernel
theorem dL_law_32 : decode cL_law 32 = .ok (.tableswitch 616 0 19 #[96, 129, 172, 205, 228, 261, 274, 297, 310, 343, 366, 389, 422, 445, 478, 511, 544, 567, 580, 603], 96) := by decide +kernel
theorem dL_law_128 : decode cL_law 128 = .ok (.aload_n 1, 1) := by decide +kernel
theorem dL_law_129 : decode cL_law 129 = .ok (.aload_n 0, 1) := by decide +kernel
theorem dL_law_130 : decode cL_law 130 = .ok (.iload_n 3, 1) := by decide +kernel
theorem dL_law_131 : decode cL_law 131 = .ok (.iconst 1, 1) := by decide +kernel
theorem dL_law_132 : decode cL_law 132 = .ok (.iadd, 1) := by decide +kernel
theorem dL_law_133 : decode cL_law 133 = .ok (.iaload, 1) := by decide +kernel
theorem dL_law_134 : decode cL_law 134 = .ok (.aload_n 0, 1) := by decide +kernel
theorem dL_law_135 : decode cL_law 135 = .ok (.iload_n 3, 1) := by decide +kernel
theorem dL_law_136 : decode cL_law 136 = .ok (.iconst 2, 1) := by decide +kernel
theorem dL_law_137 : decode cL_law 137 = .ok (.iadd, 1) := by decide +kernel
theorem dL_law_138 : decode cL_law 138 = .ok (.iaload, 1) := by decide +kernel
theorem dL_law_139 : decode cL_law 139 = .ok (.invokevirtual 13, 3) := by decide +kernel
theorem dL_law_142 : decode cL_law 142 = .ok (.aload_n 2, 1) := by decide +kernel
theorem dL_law_143 : decode cL_law 143 = .ok (.aload_n 0, 1) := by decide +kernel
theorem dL_law_144 : decode cL_law 144 = .ok (.iload_n 3, 1) := by decide +kernel
theorem dL_law_145 : decode cL_law 145 = .ok (.iconst 1, 1) := by decide +kernel
theorem dL_law_146 : decode cL_law 146 = .ok (.iadd, 1) := by decide +kernel
theorem dL_law_147 : decode cL_law 147 = .ok (.iaload, 1) := by decide +kernel
theorem dL_law_148 : decode cL_law 148 = .ok (.aload_n 0, 1) := by decide +kernel
theorem dL_law_149 : decode cL_law 149 = .ok (.iload_n 3, 1) := by decide +kernel
theorem dL_law_150 : decode cL_law 150 = .ok (.iconst 2, 1) := by decide +kernel
theorem dL_law_151 : decode cL_law 151 = .ok (.iadd, 1) := by decide +kernel
theorem dL_law_152 : decode cL_law 152 = .ok (.iaload, 1) := by decide +kernel
theorem dL_law_153 : decode cL_law 153 = .ok (.invokevirtual 17, 3) := by decide +kernel
theorem dL_law_156 : decode cL_law 156 = .ok (.if_icmp .eq 492, 3) := by decide +kernel
theorem dL_law_159 : decode cL_law 159 = .ok (.iconst 0, 1) := by decide +kernel
theorem dL_law_160 : decode cL_law 160 = .ok (.ireturn, 1) := by decide +kernel
theorem dL_law_161 : decode cL_law 161 = .ok (.aload_n 1, 1) := by decide +kernel
theorem dL_law_162 : decode cL_law 162 = .ok (.aload_n 0, 1) := by decide +kernel
theorem dL_law_163 : decode cL_law 163 = .ok (.iload_n 3, 1) := by decide +kernel
theorem dL_law_164 : decode cL_law 164 = .ok (.iconst 1, 1) := by decide +kernel
theorem dL_law_165 : decode cL_law 165 = .ok (.iadd, 1) := by decide +kernel
theorem dL_law_166 : decode cL_law 166 = .ok (.iaload, 1) := by decide +kernel
theorem dL_law_167 : decode cL_law 167 = .ok (.aload_n 0, 1) := by decide +kernel
theorem dL_law_168 : decode cL_law 168 = .ok (.iload_n 3, 1) := by decide +kernel
theorem dL_law_169 : decode cL_law 169 = .ok (.iconst 2, 1) := by decide +kernel
theorem dL_law_170 : decode cL_law 170 = .ok (.iadd, 1) := by decide +kernel
theorem dL_law_171 : decode cL_law 171 = .ok (.iaload, 1) := by decide +kernel
theorem dL_law_172 : decode cL_law 172 = .ok (.aload_n 0, 1) := by decide +kernel
theorem dL_law_173 : decode cL_law 173 = .ok (.iload_n 3, 1) := by decide +kernel
theorem dL_law_174 : decode cL_law 174 = .ok (.iconst 3, 1) := by decide +kernel
theorem dL_law_175 : decode cL_law 175 = .ok (.iadd, 1) := by decide +kernel
theorem dL_law_176 : decode cL_law 176 = .ok (.iaload, 1) := by decide +kernel
theorem dL_law_177 : decode cL_law 177 = .ok (.invokevirtual 18, 3) := by decide +kernel
theorem dL_law_180 : decode cL_law 180 = .ok (.aload_n 2, 1) := by decide +kernel
theorem dL_law_181 : decode cL_law 181 = .ok (.aload_n 0, 1) := by decide +kernel
theorem dL_law_182 : decode cL_law 182 = .ok (.iload_n 3, 1) := by decide +kernel
theorem dL_law_183 : decode cL_law 183 = .ok (.iconst 1, 1) := by decide +kernel
theorem dL_law_184 : decode cL_law 184 = .ok (.iadd, 1) := by decide +kernel
theorem dL_law_185 : decode cL_law 185 = .ok (.iaload, 1) := by decide +kernel
theorem dL_law_186 : decode cL_law 186 = .ok (.aload_n 0, 1) := by decide +kernel
theorem dL_law_187 : decode cL_law 187 = .ok (.iload_n 3, 1) := by decide +kernel
theorem dL_law_188 : decode cL_law 188 = .ok (.iconst 2, 1) := by decide +kernel
theorem dL_law_189 : decode cL_law 189 = .ok (.iadd, 1) := by decide +kernel
theorem dL_law_190 : decode cL_law 190 = .ok (.iaload, 1) := by decide +kernel
theorem dL_law_191 : decode cL_law 191 = .ok (.aload_n 0, 1) := by decide +kernel
theorem dL_law_192 : decode cL_law 192 = .ok (.iload_n 3, 1) := by decide +kernel
theorem dL_law_193 : decode cL_law 193 = .ok (.iconst 3, 1) := by decide +kernel
theorem dL_law_194 : decode cL_law 194 = .ok (.iadd, 1) := by decide +kernel
theorem dL_law_195 : decode cL_law 195 = .ok (.iaload, 1) := by decide +kernel
theorem dL_law_196 : decode cL_law 196 = .ok (.invokevirtual 22, 3) := by decide +kernel
theorem dL_law_199 : decode cL_law 199 = .ok (.if_icmp .eq 449, 3) := by decide +kernel
theorem dL_law_202 : decode cL_law 202 = .ok (.iconst 0, 1) := by decide +kernel
theorem dL_law_203 : decode cL_law 203 = .ok (.ireturn, 1) := by decide +kernel
theorem dL_law_204 : decode cL_law 204 = .ok (.aload_n 1, 1) := by decide +kernel
theorem dL_law_205 : decode cL_law 205 = .ok (.aload_n 0, 1) := by decide +kernel
theorem dL_law_206 : decode cL_law 206 = .ok (.iload_n 3, 1) := by decide +kernel
theorem dL_law_207 : decode cL_law 207 = .ok (.iconst 1, 1) := by decide +kernel
theorem dL_law_208 : decode cL_law 208 = .ok (.iadd, 1) := by decide +kernel
theorem dL_law_209 : decode cL_law 209 = .ok (.iaload, 1) := by decide +kernel
theorem dL_law_210 : decode cL_law 210 = .ok (.aload_n 0, 1) := by decide +kernel
theorem dL_law_211 : decode cL_law 211 = .ok (.iload_n 3, 1) := by decide +kernel
theorem dL_law_212 : decode cL_law 212 = .ok (.iconst 2, 1) := by decide +kernel
theorem dL_law_213 : decode cL_law 213 = .ok (.iadd, 1) := by decide +kernel
theorem dL_law_214 : decode cL_law 214 = .ok (.iaload, 1) := by decide +kernel
theorem dL_law_215 : decode cL_law 215 = .ok (.invokevirtual 23, 3) := by decide +kernel
theorem dL_law_218 : decode cL_law 218 = .ok (.aload_n 2, 1) := by decide +kernel
theorem dL_law_219 : decode cL_law 219 = .ok (.aload_n 0, 1) := by decide +kernel
theorem dL_law_220 : decode cL_law 220 = .ok (.iload_n 3, 1) := by decide +kernel
theorem dL_law_221 : decode cL_law 221 = .ok (.iconst 1, 1) := by decide +kernel
theorem dL_law_222 : decode cL_law 222 = .ok (.iadd, 1) := by decide +kernel
theorem dL_law_223 : decode cL_law 223 = .ok (.iaload, 1) := by decide +kernel
theorem dL_law_224 : decode cL_law 224 = .ok (.aload_n 0, 1) := by decide +kernel
theorem dL_law_225 : decode cL_law 225 = .ok (.iload_n 3, 1) := by decide +kernel
theorem dL_law_226 : decode cL_law 226 = .ok (.iconst 2, 1) := by decide +kernel
theorem dL_law_227 : decode cL_law 227 = .ok (.iadd, 1) := by decide +kernel
theorem dL_law_228 : decode cL_law 228 = .ok (.iaload, 1) := by decide +kernel
theorem dL_law_229 : decode cL_law 229 = .ok (.invokevirtual 26, 3) := by decide +kernel
theorem dL_law_232 : decode cL_law 232 = .ok (.if_icmp .eq 416, 3) := by decide +kernel
theorem dL_law_235 : decode cL_law 235 = .ok (.iconst 0, 1) := by decide +kernel
theorem dL_law_236 : decode cL_law 236 = .ok (.ireturn, 1) := by decide +kernel
theorem dL_law_237 : decode cL_law 237 = .ok (.aload_n 1, 1) := by decide +kernel
theorem dL_law_238 : decode cL_law 238 = .ok (.aload_n 0, 1) := by decide +kernel
theorem dL_law_239 : decode cL_law 239 = .ok (.iload_n 3, 1) := by decide +kernel
theorem dL_law_240 : decode cL_law 240 = .ok (.iconst 1, 1) := by decide +kernel
theorem dL_law_241 : decode cL_law 241 = .ok (.iadd, 1) := by decide +kernel
theorem dL_law_242 : decode cL_law 242 = .ok (.iaload, 1) := by decide +kernel
theorem dL_law_243 : decode cL_law 243 = .ok (.invokevirtual 27, 3) := by decide +kernel
theorem dL_law_246 : decode cL_law 246 = .ok (.aload_n 2, 1) := by decide +kernel
theorem dL_law_247 : decode cL_law 247 = .ok (.aload_n 0, 1) := by decide +kernel
theorem dL_law_248 : decode cL_law 248 = .ok (.iload_n 3, 1) := by decide +kernel
theorem dL_law_249 : decode cL_law 249 = .ok (.iconst 1, 1) := by decide +kernel
theorem dL_law_250 : decode cL_law 250 = .ok (.iadd, 1) := by decide +kernel
theorem dL_law_251 : decode cL_law 251 = .ok (.iaload, 1) := by decide +kernel
theorem dL_law_252 : decode cL_law 252 = .ok (.invokevirtual 31, 3) := by decide +kernel
theorem dL_law_255 : decode cL_law 255 = .ok (.if_icmp .eq 393, 3) := by decide +kernel
theorem dL_law_258 : decode cL_law 258 = .ok (.iconst 0, 1) := by decide +kernel
theorem dL_law_259 : decode cL_law 259 = .ok (.ireturn, 1) := by decide +kernel
theorem dL_law_260 : decode cL_law 260 = .ok (.aload_n 1, 1) := by decide +kernel
theorem dL_law_261 : decode cL_law 261 = .ok (.aload_n 0, 1) := by decide +kernel
theorem dL_law_262 : decode cL_law 262 = .ok (.iload_n 3, 1) := by decide +kernel
theorem dL_law_263 : decode cL_law 263 = .ok (.iconst 1, 1) := by decide +kernel
theorem dL_law_264 : decode cL_law 264 = .ok (.iadd, 1) := by decide +kernel
theorem dL_law_265 : decode cL_law 265 = .ok (.iaload, 1) := by decide +kernel
theorem dL_law_266 : decode cL_law 266 = .ok (.aload_n 0, 1) := by decide +kernel
theorem dL_law_267 : decode cL_law 267 = .ok (.iload_n 3, 1) := by decide +kernel
theorem dL_law_268 : decode cL_law 268 = .ok (.iconst 2, 1) := by decide +kernel
theorem dL_law_269 : decode cL_law 269 = .ok (.iadd, 1) := by decide +kernel
theorem dL_law_270 : decode cL_law 270 = .ok (.iaload, 1) := by decide +kernel
theorem dL_law_271 : decode cL_law 271 = .ok (.invokevirtual 32, 3) := by decide +kernel
theorem dL_law_274 : decode cL_law 274 = .ok (.aload_n 2, 1) := by decide +kernel
theorem dL_law_275 : decode cL_law 275 = .ok (.aload_n 0, 1) := by decide +kernel
theorem dL_law_276 : decode cL_law 276 = .ok (.iload_n 3, 1) := by decide +kernel
theorem dL_law_277 : decode cL_law 277 = .ok (.iconst 1, 1) := by decide +kernel
theorem dL_law_278 : decode cL_law 278 = .ok (.iadd, 1) := by decide +kernel
theorem dL_law_279 : decode cL_law 279 = .ok (.iaload, 1) := by decide +kernel
theorem dL_law_280 : decode cL_law 280 = .ok (.aload_n 0, 1) := by decide +kernel
theorem dL_law_281 : decode cL_law 281 = .ok (.iload_n 3, 1) := by decide +kernel
theorem dL_law_282 : decode cL_law 282 = .ok (.iconst 2, 1) := by decide +kernel
theorem dL_law_283 : decode cL_law 283 = .ok (.iadd, 1) := by decide +kernel
theorem dL_law_284 : decode cL_law 284 = .ok (.iaload, 1) := by decide +kernel
theorem dL_law_285 : decode cL_law 285 = .ok (.invokevirtual 35, 3) := by decide +kernel
theorem dL_law_288 : decode cL_law 288 = .ok (.if_icmp .eq 360, 3) := by decide +kernel
theorem dL_law_291 : decode cL_law 291 = .ok (.iconst 0, 1) := by decide +kernel
theorem dL_law_292 : decode cL_law 292 = .ok (.ireturn, 1) := by decide +kernel
theorem dL_law_293 : decode cL_law 293 = .ok (.aload_n 1, 1) := by decide +kernel
theorem dL_law_294 : decode cL_law 294 = .ok (.invokevirtual 36, 3) := by decide +kernel
theorem dL_law_297 : decode cL_law 297 = .ok (.aload_n 2, 1) := by decide +kernel
theorem dL_law_298 : decode cL_law 298 = .ok (.invokevirtual 40, 3) := by decide +kernel
theorem dL_law_301 : decode cL_law 301 = .ok (.if_icmp .eq 347, 3) := by decide +kernel
theorem dL_law_304 : decode cL_law 304 = .ok (.iconst 0, 1) := by decide +kernel
theorem dL_law_305 : decode cL_law 305 = .ok (.ireturn, 1) := by decide +kernel
theorem dL_law_306 : decode cL_law 306 = .ok (.aload_n 1, 1) := by decide +kernel
theorem dL_law_307 : decode cL_law 307 = .ok (.aload_n 0, 1) := by decide +kernel
theorem dL_law_308 : decode cL_law 308 = .ok (.iload_n 3, 1) := by decide +kernel
theorem dL_law_309 : decode cL_law 309 = .ok (.iconst 1, 1) := by decide +kernel
theorem dL_law_310 : decode cL_law 310 = .ok (.iadd, 1) := by decide +kernel
theorem dL_law_311 : decode cL_law 311 = .ok (.iaload, 1) := by decide +kernel
theorem dL_law_312 : decode cL_law 312 = .ok (.invokevirtual 41, 3) := by decide +kernel
theorem dL_law_315 : decode cL_law 315 = .ok (.aload_n 2, 1) := by decide +kernel
theorem dL_law_316 : decode cL_law 316 = .ok (.aload_n 0, 1) := by decide +kernel
theorem dL_law_317 : decode cL_law 317 = .ok (.iload_n 3, 1) := by decide +kernel
theorem dL_law_318 : decode cL_law 318 = .ok (.iconst 1, 1) := by decide +kernel
theorem dL_law_319 : decode cL_law 319 = .ok (.iadd, 1) := by decide +kernel
theorem dL_law_320 : decode cL_law 320 = .ok (.iaload, 1) := by decide +kernel
theorem dL_law_321 : decode cL_law 321 = .ok (.invokevirtual 44, 3) := by decide +kernel
theorem dL_law_324 : decode cL_law 324 = .ok (.if_icmp .eq 324, 3) := by decide +kernel
theorem dL_law_327 : decode cL_law 327 = .ok (.iconst 0, 1) := by decide +kernel
theorem dL_law_328 : decode cL_law 328 = .ok (.ireturn, 1) := by decide +kernel
theorem dL_law_329 : decode cL_law 329 = .ok (.aload_n 1, 1) := by decide +kernel
theorem dL_law_330 : decode cL_law 330 = .ok (.invokevirtual 45, 3) := by decide +kernel
theorem dL_law_333 : decode cL_law 333 = .ok (.aload_n 2, 1) := by decide +kernel
theorem dL_law_334 : decode cL_law 334 = .ok (.invokevirtual 48, 3) := by decide +kernel
theorem dL_law_337 : decode cL_law 337 = .ok (.if_icmp .eq 311, 3) := by decide +kernel
theorem dL_law_340 : decode cL_law 340 = .ok (.iconst 0, 1) := by decide +kernel
theorem dL_law_341 : decode cL_law 341 = .ok (.ireturn, 1) := by decide +kernel
theorem dL_law_342 : decode cL_law 342 = .ok (.aload_n 1, 1) := by decide +kernel
theorem dL_law_343 : decode cL_law 343 = .ok (.aload_n 0, 1) := by decide +kernel
theorem dL_law_344 : decode cL_law 344 = .ok (.iload_n 3, 1) := by decide +kernel
theorem dL_law_345 : decode cL_law 345 = .ok (.iconst 1, 1) := by decide +kernel
theorem dL_law_346 : decode cL_law 346 = .ok (.iadd, 1) := by decide +kernel
theorem dL_law_347 : decode cL_law 347 = .ok (.iaload, 1) := by decide +kernel
theorem dL_law_348 : decode cL_law 348 = .ok (.aload_n 0, 1) := by decide +kernel
theorem dL_law_349 : decode cL_law 349 = .ok (.iload_n 3, 1) := by decide +kernel
theorem dL_law_350 : decode cL_law 350 = .ok (.iconst 2, 1) := by decide +kernel
theorem dL_law_351 : decode cL_law 351 = .ok (.iadd, 1) := by decide +kernel
theorem dL_law_352 : decode cL_law 352 = .ok (.iaload, 1) := by decide +kernel
theorem dL_law_353 : decode cL_law 353 = .ok (.invokevirtual 49, 3) := by decide +kernel
theorem dL_law_356 : decode cL_law 356 = .ok (.aload_n 2, 1) := by decide +kernel
theorem dL_law_357 : decode cL_law 357 = .ok (.aload_n 0, 1) := by decide +kernel
theorem dL_law_358 : decode cL_law 358 = .ok (.iload_n 3, 1) := by decide +kernel
theorem dL_law_359 : decode cL_law 359 = .ok (.iconst 1, 1) := by decide +kernel
theorem dL_law_360 : decode cL_law 360 = .ok (.iadd, 1) := by decide +kernel
theorem dL_law_361 : decode cL_law 361 = .ok (.iaload, 1) := by decide +kernel
theorem dL_law_362 : decode cL_law 362 = .ok (.aload_n 0, 1) := by decide +kernel
theorem dL_law_363 : decode cL_law 363 = .ok (.iload_n 3, 1) := by decide +kernel
theorem dL_law_364 : decode cL_law 364 = .ok (.iconst 2, 1) := by decide +kernel
theorem dL_law_365 : decode cL_law 365 = .ok (.iadd, 1) := by decide +kernel
theorem dL_law_366 : decode cL_law 366 = .ok (.iaload, 1) := by decide +kernel
theorem dL_law_367 : decode cL_law 367 = .ok (.invokevirtual 52, 3) := by decide +kernel
theorem dL_law_370 : decode cL_law 370 = .ok (.if_icmp .eq 278, 3) := by decide +kernel
theorem dL_law_373 : decode cL_law 373 = .ok (.iconst 0, 1) := by decide +kernel
theorem dL_law_374 : decode cL_law 374 = .ok (.ireturn, 1) := by decide +kernel
theorem dL_law_375 : decode cL_law 375 = .ok (.aload_n 1, 1) := by decide +kernel
theorem dL_law_376 : decode cL_law 376 = .ok (.aload_n 0, 1) := by decide +kernel
theorem dL_law_377 : decode cL_law 377 = .ok (.iload_n 3, 1) := by decide +kernel
theorem dL_law_378 : decode cL_law 378 = .ok (.iconst 1, 1) := by decide +kernel
theorem dL_law_379 : decode cL_law 379 = .ok (.iadd, 1) := by decide +kernel
theorem dL_law_380 : decode cL_law 380 = .ok (.iaload, 1) := by decide +kernel
theorem dL_law_381 : decode cL_law 381 = .ok (.invokevirtual 53, 3) := by decide +kernel
theorem dL_law_384 : decode cL_law 384 = .ok (.aload_n 2, 1) := by decide +kernel
theorem dL_law_385 : decode cL_law 385 = .ok (.aload_n 0, 1) := by decide +kernel
theorem dL_law_386 : decode cL_law 386 = .ok (.iload_n 3, 1) := by decide +kernel
theorem dL_law_387 : decode cL_law 387 = .ok (.iconst 1, 1) := by decide +kernel
theorem dL_law_388 : decode cL_law 388 = .ok (.iadd, 1) := by decide +kernel
theorem dL_law_389 : decode cL_law 389 = .ok (.iaload, 1) := by decide +kernel
theorem dL_law_390 : decode cL_law 390 = .ok (.invokevirtual 56, 3) := by decide +kernel
theorem dL_law_393 : decode cL_law 393 = .ok (.if_icmp .eq 255, 3) := by decide +kernel
theorem dL_law_396 : decode cL_law 396 = .ok (.iconst 0, 1) := by decide +kernel
theorem dL_law_397 : decode cL_law 397 = .ok (.ireturn, 1) := by decide +kernel
theorem dL_law_398 : decode cL_law 398 = .ok (.aload_n 1, 1) := by decide +kernel
theorem dL_law_399 : decode cL_law 399 = .ok (.aload_n 0, 1) := by decide +kernel
theorem dL_law_400 : decode cL_law 400 = .ok (.iload_n 3, 1) := by decide +kernel
theorem dL_law_401 : decode cL_law 401 = .ok (.iconst 1, 1) := by decide +kernel
theorem dL_law_402 : decode cL_law 402 = .ok (.iadd, 1) := by decide +kernel
theorem dL_law_403 : decode cL_law 403 = .ok (.iaload, 1) := by decide +kernel
theorem dL_law_404 : decode cL_law 404 = .ok (.invokevirtual 57, 3) := by decide +kernel
theorem dL_law_407 : decode cL_law 407 = .ok (.aload_n 2, 1) := by decide +kernel
theorem dL_law_408 : decode cL_law 408 = .ok (.aload_n 0, 1) := by decide +kernel
theorem dL_law_409 : decode cL_law 409 = .ok (.iload_n 3, 1) := by decide +kernel
theorem dL_law_410 : decode cL_law 410 = .ok (.iconst 1, 1) := by decide +kernel
theorem dL_law_411 : decode cL_law 411 = .ok (.iadd, 1) := by decide +kernel
theorem dL_law_412 : decode cL_law 412 = .ok (.iaload, 1) := by decide +kernel
theorem dL_law_413 : decode cL_law 413 = .ok (.invokevirtual 60, 3) := by decide +kernel
theorem dL_law_416 : decode cL_law 416 = .ok (.if_icmp .eq 232, 3) := by decide +kernel
theorem dL_law_419 : decode cL_law 419 = .ok (.iconst 0, 1) := by decide +kernel
theorem dL_law_420 : decode cL_law 420 = .ok (.ireturn, 1) := by decide +kernel
theorem dL_law_421 : decode cL_law 421 = .ok (.aload_n 1, 1) := by decide +kernel
theorem dL_law_422 : decode cL_law 422 = .ok (.aload_n 0, 1) := by decide +kernel
theorem dL_law_423 : decode cL_law 423 = .ok (.iload_n 3, 1) := by decide +kernel
theorem dL_law_424 : decode cL_law 424 = .ok (.iconst 1, 1) := by decide +kernel
theorem dL_law_425 : decode cL_law 425 = .ok (.iadd, 1) := by decide +kernel
theorem dL_law_426 : decode cL_law 426 = .ok (.iaload, 1) := by decide +kernel
theorem dL_law_427 : decode cL_law 427 = .ok (.aload_n 0, 1) := by decide +kernel
theorem dL_law_428 : decode cL_law 428 = .ok (.iload_n 3, 1) := by decide +kernel
theorem dL_law_429 : decode cL_law 429 = .ok (.iconst 2, 1) := by decide +kernel
theorem dL_law_430 : decode cL_law 430 = .ok (.iadd, 1) := by decide +kernel
theorem dL_law_431 : decode cL_law 431 = .ok (.iaload, 1) := by decide +kernel
theorem dL_law_432 : decode cL_law 432 = .ok (.invokevirtual 61, 3) := by decide +kernel
theorem dL_law_435 : decode cL_law 435 = .ok (.aload_n 2, 1) := by decide +kernel
theorem dL_law_436 : decode cL_law 436 = .ok (.aload_n 0, 1) := by decide +kernel
theorem dL_law_437 : decode cL_law 437 = .ok (.iload_n 3, 1) := by decide +kernel
theorem dL_law_438 : decode cL_law 438 = .ok (.iconst 1, 1) := by decide +kernel
theorem dL_law_439 : decode cL_law 439 = .ok (.iadd, 1) := by decide +kernel
theorem dL_law_440 : decode cL_law 440 = .ok (.iaload, 1) := by decide +kernel
theorem dL_law_441 : decode cL_law 441 = .ok (.aload_n 0, 1) := by decide +kernel
theorem dL_law_442 : decode cL_law 442 = .ok (.iload_n 3, 1) := by decide +kernel
theorem dL_law_443 : decode cL_law 443 = .ok (.iconst 2, 1) := by decide +kernel
theorem dL_law_444 : decode cL_law 444 = .ok (.iadd, 1) := by decide +kernel
theorem dL_law_445 : decode cL_law 445 = .ok (.iaload, 1) := by decide +kernel
theorem dL_law_446 : decode cL_law 446 = .ok (.invokevirtual 64, 3) := by decide +kernel
theorem dL_law_449 : decode cL_law 449 = .ok (.if_icmp .eq 199, 3) := by decide +kernel
theorem dL_law_452 : decode cL_law 452 = .ok (.iconst 0, 1) := by decide +kernel
theorem dL_law_453 : decode cL_law 453 = .ok (.ireturn, 1) := by decide +kernel
theorem dL_law_454 : decode cL_law 454 = .ok (.aload_n 1, 1) := by decide +kernel
theorem dL_law_455 : decode cL_law 455 = .ok (.aload_n 0, 1) := by decide +kernel
theorem dL_law_456 : decode cL_law 456 = .ok (.iload_n 3, 1) := by decide +kernel
theorem dL_law_457 : decode cL_law 457 = .ok (.iconst 1, 1) := by decide +kernel
theorem dL_law_458 : decode cL_law 458 = .ok (.iadd, 1) := by decide +kernel
theorem dL_law_459 : decode cL_law 459 = .ok (.iaload, 1) := by decide +kernel
theorem dL_law_460 : decode cL_law 460 = .ok (.invokevirtual 65, 3) := by decide +kernel
theorem dL_law_463 : decode cL_law 463 = .ok (.aload_n 2, 1) := by decide +kernel
theorem dL_law_464 : decode cL_law 464 = .ok (.aload_n 0, 1) := by decide +kernel
theorem dL_law_465 : decode cL_law 465 = .ok (.iload_n 3, 1) := by decide +kernel
theorem dL_law_466 : decode cL_law 466 = .ok (.iconst 1, 1) := by decide +kernel
theorem dL_law_467 : decode cL_law 467 = .ok (.iadd, 1) := by decide +kernel
theorem dL_law_468 : decode cL_law 468 = .ok (.iaload, 1) := by decide +kernel
theorem dL_law_469 : decode cL_law 469 = .ok (.invokevirtual 68, 3) := by decide +kernel
theorem dL_law_472 : decode cL_law 472 = .ok (.if_icmp .eq 176, 3) := by decide +kernel
theorem dL_law_475 : decode cL_law 475 = .ok (.iconst 0, 1) := by decide +kernel
theorem dL_law_476 : decode cL_law 476 = .ok (.ireturn, 1) := by decide +kernel
theorem dL_law_477 : decode cL_law 477 = .ok (.aload_n 1, 1) := by decide +kernel
theorem dL_law_478 : decode cL_law 478 = .ok (.aload_n 0, 1) := by decide +kernel
theorem dL_law_479 : decode cL_law 479 = .ok (.iload_n 3, 1) := by decide +kernel
theorem dL_law_480 : decode cL_law 480 = .ok (.iconst 1, 1) := by decide +kernel
theorem dL_law_481 : decode cL_law 481 = .ok (.iadd, 1) := by decide +kernel
theorem dL_law_482 : decode cL_law 482 = .ok (.iaload, 1) := by decide +kernel
theorem dL_law_483 : decode cL_law 483 = .ok (.aload_n 0, 1) := by decide +kernel
theorem dL_law_484 : decode cL_law 484 = .ok (.iload_n 3, 1) := by decide +kernel
theorem dL_law_485 : decode cL_law 485 = .ok (.iconst 2, 1) := by decide +kernel
theorem dL_law_486 : decode cL_law 486 = .ok (.iadd, 1) := by decide +kernel
theorem dL_law_487 : decode cL_law 487 = .ok (.iaload, 1) := by decide +kernel
theorem dL_law_488 : decode cL_law 488 = .ok (.invokevirtual 69, 3) := by decide +kernel
theorem dL_law_491 : decode cL_law 491 = .ok (.aload_n 2, 1) := by decide +kernel
theorem dL_law_492 : decode cL_law 492 = .ok (.aload_n 0, 1) := by decide +kernel
theorem dL_law_493 : decode cL_law 493 = .ok (.iload_n 3, 1) := by decide +kernel
theorem dL_law_494 : decode cL_law 494 = .ok (.iconst 1, 1) := by decide +kernel
theorem dL_law_495 : decode cL_law 495 = .ok (.iadd, 1) := by decide +kernel
theorem dL_law_496 : decode cL_law 496 = .ok (.iaload, 1) := by decide +kernel
theorem dL_law_497 : decode cL_law 497 = .ok (.aload_n 0, 1) := by decide +kernel
theorem dL_law_498 : decode cL_law 498 = .ok (.iload_n 3, 1) := by decide +kernel
theorem dL_law_499 : decode cL_law 499 = .ok (.iconst 2, 1) := by decide +kernel
theorem dL_law_500 : decode cL_law 500 = .ok (.iadd, 1) := by decide +kernel
theorem dL_law_501 : decode cL_law 501 = .ok (.iaload, 1) := by decide +kernel
theorem dL_law_502 : decode cL_law 502 = .ok (.invokevirtual 72, 3) := by decide +kernel
theorem dL_law_505 : decode cL_law 505 = .ok (.if_icmp .eq 143, 3) := by decide +kernel
theorem dL_law_508 : decode cL_law 508 = .ok (.iconst 0, 1) := by decide +kernel
theorem dL_law_509 : decode cL_law 509 = .ok (.ireturn, 1) := by decide +kernel
theorem dL_law_510 : decode cL_law 510 = .ok (.aload_n 1, 1) := by decide +kernel
theorem dL_law_511 : decode cL_law 511 = .ok (.aload_n 0, 1) := by decide +kernel
theorem dL_law_512 : decode cL_law 512 = .ok (.iload_n 3, 1) := by decide +kernel
theorem dL_law_513 : decode cL_law 513 = .ok (.iconst 1, 1) := by decide +kernel
theorem dL_law_514 : decode cL_law 514 = .ok (.iadd, 1) := by decide +kernel
theorem dL_law_515 : decode cL_law 515 = .ok (.iaload, 1) := by decide +kernel
theorem dL_law_516 : decode cL_law 516 = .ok (.aload_n 0, 1) := by decide +kernel
theorem dL_law_517 : decode cL_law 517 = .ok (.iload_n 3, 1) := by decide +kernel
theorem dL_law_518 : decode cL_law 518 = .ok (.iconst 2, 1) := by decide +kernel
theorem dL_law_519 : decode cL_law 519 = .ok (.iadd, 1) := by decide +kernel
theorem dL_law_520 : decode cL_law 520 = .ok (.iaload, 1) := by decide +kernel
theorem dL_law_521 : decode cL_law 521 = .ok (.invokevirtual 73, 3) := by decide +kernel
theorem dL_law_524 : decode cL_law 524 = .ok (.aload_n 2, 1) := by decide +kernel
theorem dL_law_525 : decode cL_law 525 = .ok (.aload_n 0, 1) := by decide +kernel
theorem dL_law_526 : decode cL_law 526 = .ok (.iload_n 3, 1) := by decide +kernel
theorem dL_law_527 : decode cL_law 527 = .ok (.iconst 1, 1) := by decide +kernel
theorem dL_law_528 : decode cL_law 528 = .ok (.iadd, 1) := by decide +kernel
theorem dL_law_529 : decode cL_law 529 = .ok (.iaload, 1) := by decide +kernel
theorem dL_law_530 : decode cL_law 530 = .ok (.aload_n 0, 1) := by decide +kernel
theorem dL_law_531 : decode cL_law 531 = .ok (.iload_n 3, 1) := by decide +kernel
theorem dL_law_532 : decode cL_law 532 = .ok (.iconst 2, 1) := by decide +kernel
theorem dL_law_533 : decode cL_law 533 = .ok (.iadd, 1) := by decide +kernel
theorem dL_law_534 : decode cL_law 534 = .ok (.iaload, 1) := by decide +kernel
theorem dL_law_535 : decode cL_law 535 = .ok (.invokevirtual 76, 3) := by decide +kernel
theorem dL_law_538 : decode cL_law 538 = .ok (.if_icmp .eq 110, 3) := by decide +kernel
theorem dL_law_541 : decode cL_law 541 = .ok (.iconst 0, 1) := by decide +kernel
theorem dL_law_542 : decode cL_law 542 = .ok (.ireturn, 1) := by decide +kernel
theorem dL_law_543 : decode cL_law 543 = .ok (.aload_n 1, 1) := by decide +kernel
theorem dL_law_544 : decode cL_law 544 = .ok (.aload_n 0, 1) := by decide +kernel
theorem dL_law_545 : decode cL_law 545 = .ok (.iload_n 3, 1) := by decide +kernel
theorem dL_law_546 : decode cL_law 546 = .ok (.iconst 1, 1) := by decide +kernel
theorem dL_law_547 : decode cL_law 547 = .ok (.iadd, 1) := by decide +kernel
theorem dL_law_548 : decode cL_law 548 = .ok (.iaload, 1) := by decide +kernel
theorem dL_law_549 : decode cL_law 549 = .ok (.aload_n 0, 1) := by decide +kernel
theorem dL_law_550 : decode cL_law 550 = .ok (.iload_n 3, 1) := by decide +kernel
theorem dL_law_551 : decode cL_law 551 = .ok (.iconst 2, 1) := by decide +kernel
theorem dL_law_552 : decode cL_law 552 = .ok (.iadd, 1) := by decide +kernel
theorem dL_law_553 : decode cL_law 553 = .ok (.iaload, 1) := by decide +kernel
theorem dL_law_554 : decode cL_law 554 = .ok (.invokevirtual 77, 3) := by decide +kernel
theorem dL_law_557 : decode cL_law 557 = .ok (.aload_n 2, 1) := by decide +kernel
theorem dL_law_558 : decode cL_law 558 = .ok (.aload_n 0, 1) := by decide +kernel
theorem dL_law_559 : decode cL_law 559 = .ok (.iload_n 3, 1) := by decide +kernel
theorem dL_law_560 : decode cL_law 560 = .ok (.iconst 1, 1) := by decide +kernel
theorem dL_law_561 : decode cL_law 561 = .ok (.iadd, 1) := by decide +kernel
theorem dL_law_562 : decode cL_law 562 = .ok (.iaload, 1) := by decide +kernel
theorem dL_law_563 : decode cL_law 563 = .ok (.aload_n 0, 1) := by decide +kernel
theorem dL_law_564 : decode cL_law 564 = .ok (.iload_n 3, 1) := by decide +kernel
theorem dL_law_565 : decode cL_law 565 = .ok (.iconst 2, 1) := by decide +kernel
theorem dL_law_566 : decode cL_law 566 = .ok (.iadd, 1) := by decide +kernel
theorem dL_law_567 : decode cL_law 567 = .ok (.iaload, 1) := by decide +kernel
theorem dL_law_568 : decode cL_law 568 = .ok (.invokevirtual 80, 3) := by decide +kernel
theorem dL_law_571 : decode cL_law 571 = .ok (.if_icmp .eq 77, 3) := by decide +kernel
theorem dL_law_574 : decode cL_law 574 = .ok (.iconst 0, 1) := by decide +kernel
theorem dL_law_575 : decode cL_law 575 = .ok (.ireturn, 1) := by decide +kernel
theorem dL_law_576 : decode cL_law 576 = .ok (.aload_n 1, 1) := by decide +kernel
theorem dL_law_577 : decode cL_law 577 = .ok (.aload_n 0, 1) := by decide +kernel
theorem dL_law_578 : decode cL_law 578 = .ok (.iload_n 3, 1) := by decide +kernel
theorem dL_law_579 : decode cL_law 579 = .ok (.iconst 1, 1) := by decide +kernel
theorem dL_law_580 : decode cL_law 580 = .ok (.iadd, 1) := by decide +kernel
theorem dL_law_581 : decode cL_law 581 = .ok (.iaload, 1) := by decide +kernel
theorem dL_law_582 : decode cL_law 582 = .ok (.invokevirtual 81, 3) := by decide +kernel
theorem dL_law_585 : decode cL_law 585 = .ok (.aload_n 2, 1) := by decide +kernel
theorem dL_law_586 : decode cL_law 586 = .ok (.aload_n 0, 1) := by decide +kernel
theorem dL_law_587 : decode cL_law 587 = .ok (.iload_n 3, 1) := by decide +kernel
theorem dL_law_588 : decode cL_law 588 = .ok (.iconst 1, 1) := by decide +kernel
theorem dL_law_589 : decode cL_law 589 = .ok (.iadd, 1) := by decide +kernel
theorem dL_law_590 : decode cL_law 590 = .ok (.iaload, 1) := by decide +kernel
theorem dL_law_591 : decode cL_law 591 = .ok (.invokevirtual 84, 3) := by decide +kernel
theorem dL_law_594 : decode cL_law 594 = .ok (.if_icmp .eq 54, 3) := by decide +kernel
theorem dL_law_597 : decode cL_law 597 = .ok (.iconst 0, 1) := by decide +kernel
theorem dL_law_598 : decode cL_law 598 = .ok (.ireturn, 1) := by decide +kernel
theorem dL_law_599 : decode cL_law 599 = .ok (.aload_n 1, 1) := by decide +kernel
theorem dL_law_600 : decode cL_law 600 = .ok (.invokevirtual 85, 3) := by decide +kernel
theorem dL_law_603 : decode cL_law 603 = .ok (.aload_n 2, 1) := by decide +kernel
theorem dL_law_604 : decode cL_law 604 = .ok (.invokevirtual 88, 3) := by decide +kernel
theorem dL_law_607 : decode cL_law 607 = .ok (.if_icmp .eq 41, 3) := by decide +kernel
theorem dL_law_610 : decode cL_law 610 = .ok (.iconst 0, 1) := by decide +kernel
theorem dL_law_611 : decode cL_law 611 = .ok (.ireturn, 1) := by decide +kernel
theorem dL_law_612 : decode cL_law 612 = .ok (.aload_n 1, 1) := by decide +kernel
theorem dL_law_613 : decode cL_law 613 = .ok (.aload_n 0, 1) := by decide +kernel
theorem dL_law_614 : decode cL_law 614 = .ok (.iload_n 3, 1) := by decide +kernel
theorem dL_law_615 : decode cL_law 615 = .ok (.iconst 1, 1) := by decide +kernel
theorem dL_law_616 : decode cL_law 616 = .ok (.iadd, 1) := by decide +kernel
theorem dL_law_617 : decode cL_law 617 = .ok (.iaload, 1) := by decide +kernel
theorem dL_law_618 : decode cL_law 618 = .ok (.invokevirtual 89, 3) := by decide +kernel
theorem dL_law_621 : decode cL_law 621 = .ok (.aload_n 2, 1) := by decide +kernel
theorem dL_law_622 : decode cL_law 622 = .ok (.aload_n 0, 1) := by decide +kernel
theorem dL_law_623 : decode cL_law 623 = .ok (.iload_n 3, 1) := by decide +kernel
theorem dL_law_624 : decode cL_law 624 = .ok (.iconst 1, 1) := by decide +kernel
theorem dL_law_625 : decode cL_law 625 = .ok (.iadd, 1) := by decide +kernel
theorem dL_law_626 : decode cL_law 626 = .ok (.iaload, 1) := by decide +kernel
theorem dL_law_627 : decode cL_law 627 = .ok (.invokevirtual 92, 3) := by decide +kernel
theorem dL_law_630 : decode cL_law 630 = .ok (.if_icmp .eq 18, 3) := by decide +kernel
theorem dL_law_633 : decode cL_law 633 = .ok (.iconst 0, 1) := by decide +kernel
theorem dL_law_634 : decode cL_law 634 = .ok (.ireturn, 1) := by decide +kernel
theorem dL_law_635 : decode cL_law 635 = .ok (.aload_n 1, 1) := by decide +kernel
theorem dL_law_636 : decode cL_law 636 = .ok (.invokevirtual 93, 3) := by decide +kernel
theorem dL_law_639 : decode cL_law 639 = .ok (.aload_n 2, 1) := by decide +kernel
theorem dL_law_640 : decode cL_law 640 = .ok (.invokevirtual 96, 3) := by decide +kernel
theorem dL_law_643 : decode cL_law 643 = .ok (.if_icmp .eq 5, 3) := by decide +kernel
theorem dL_law_646 : decode cL_law 646 = .ok (.iconst 0, 1) := by decide +kernel
theorem dL_law_647 : decode cL_law 647 = .ok (.ireturn, 1) := by decide +kernel
theorem dL_law_648 : decode cL_law 648 = .ok (.iinc 3 4, 3) := by decide +kernel
theorem dL_law_651 : decode cL_law 651 = .ok (.goto (-633), 3) := by decide +kernel
theorem dL_law_654 : decode cL_law 654 = .ok (.iconst 1, 1) := by decide +kernel
theorem dL_law_655 : decode cL_law 655 = .ok (.ireturn, 1) := by decide +kernel
abbrev vwCl : List vw_C := [(RX0, TX0, 10), (RX1, TX1, 6), (RX2, TX2, 2), (RX4, TX4, 4), (RX5, TX5, 10)]
