/-! The second writing of the film (promises alone, as pure functions: a ghost beside the film). -/
def p_X5_in (k : Nat) (x0 : Int32) (x1 : Int32) (x2 : Int32) : Option (Int32) :=
  if x0 < x1 then (some 0) else (if x2 < x0 then (some 0) else (some 1))
def p_X5_lesser (k : Nat) (x0 : Int32) (x1 : Int32) : Option (Int32) :=
  if x1 ≤ x0 then (some x1) else (some x0)
def p_X5_of (k : Nat) (M : MD) (x1 : Int32) : Option (Int32) :=
  (ald (MD.st M) 44 (13 + x1)).bind fun v1 => some v1
def p_X5_isRow (k : Nat) (M : MD) (x1 : Int32) : Option (Int32) :=
  (ald (MD.st M) 44 0).bind fun v1 => (p_X5_in k x1 0 (v1 - 1)).bind fun v2 => some v2
def p_X5_path (k : Nat) (x0 : Int32) : Option (Int32) :=
  some ((x0 * 266) / 100)
def p_X5_brightness (k : Nat) (x0 : Int32) (x1 : Int32) : Option (Int32) :=
  if x1 = 0 then ((p_X5_path k x0).bind fun v7 => if 500 < (((v7 * 1000) / 650) - ((v7 * 1000) / 650) / 1000 * 1000) then (some (2 * (1000 - (((v7 * 1000) / 650) - ((v7 * 1000) / 650) / 1000 * 1000)))) else (some (2 * (((v7 * 1000) / 650) - ((v7 * 1000) / 650) / 1000 * 1000)))) else (if x1 = 1 then ((p_X5_path k x0).bind fun v5 => if 500 < (((v5 * 1000) / 530) - ((v5 * 1000) / 530) / 1000 * 1000) then (some (2 * (1000 - (((v5 * 1000) / 530) - ((v5 * 1000) / 530) / 1000 * 1000)))) else (some (2 * (((v5 * 1000) / 530) - ((v5 * 1000) / 530) / 1000 * 1000)))) else ((p_X5_path k x0).bind fun v3 => if 500 < (((v3 * 1000) / 460) - ((v3 * 1000) / 460) / 1000 * 1000) then (some (2 * (1000 - (((v3 * 1000) / 460) - ((v3 * 1000) / 460) / 1000 * 1000)))) else (some (2 * (((v3 * 1000) / 460) - ((v3 * 1000) / 460) / 1000 * 1000)))))
def p_X5_isBlack (k : Nat) (M : MD) (x1 : Int32) : Option (Int32) :=
  (p_X5_of k M 3).bind fun v1 => if v1 ≤ x1 then (some 0) else (some 1)
def p_X5_colour (k : Nat) (M : MD) (x1 : Int32) : Option (Int32) :=
  (p_X5_isBlack k M x1).bind fun v1 => if v1 = 0 then ((p_X5_brightness k x1 0).bind fun v3 => if v3 < 500 then ((p_X5_brightness k x1 1).bind fun v5 => if v5 < 500 then ((p_X5_brightness k x1 2).bind fun v7 => if v7 < 500 then (some 0) else (some (0 + (jshr 4 2)))) else ((p_X5_brightness k x1 2).bind fun v9 => if v9 < 500 then (some ((0 + (jshr 4 1)) + 0)) else (some ((0 + (jshr 4 1)) + (jshr 4 2))))) else ((p_X5_brightness k x1 1).bind fun v11 => if v11 < 500 then ((p_X5_brightness k x1 2).bind fun v13 => if v13 < 500 then (some (((0 + (jshr 4 0)) + 0) + 0)) else (some (((0 + (jshr 4 0)) + 0) + (jshr 4 2)))) else ((p_X5_brightness k x1 2).bind fun v15 => if v15 < 500 then (some (((0 + (jshr 4 0)) + (jshr 4 1)) + 0)) else (some (((0 + (jshr 4 0)) + (jshr 4 1)) + (jshr 4 2)))))) else (some 0)
def p_X5_colourAt (k : Nat) (M : MD) (x1 : Int32) : Option (Int32) :=
  (ald (MD.st M) 44 (20 + x1)).bind fun v1 => (p_X5_colour k M v1).bind fun v2 => some v2
def p_X5_canBe (k : Nat) (x0 : Int32) (x1 : Int32) : Option (Int32) :=
  if x0 = 0 then ((p_X5_in k x1 0 100).bind fun v2 => some v2) else (if x0 = 1 then ((p_X5_in k x1 0 50).bind fun v4 => some v4) else (if x0 = 2 then ((p_X5_in k x1 0 500).bind fun v6 => some v6) else (if x0 = 3 then ((p_X5_in k x1 1 200).bind fun v8 => some v8) else (if x0 = 4 then ((p_X5_in k x1 0 100).bind fun v10 => some v10) else (if x0 = 5 then ((p_X5_in k x1 1 24).bind fun v12 => some v12) else (if x0 = 6 then ((p_X5_in k x1 1 100000).bind fun v14 => if v14 = 0 then (some 0) else (some 1)) else (some 0)))))))
def p_X5_records_L50 (k : Nat) : Nat → (MD) → (Int32) → Option (MD)
  | 0, _, _ => none
  | n + 1, M, x1 =>
    if 44 ≤ x1 then (some (mkMD (MD.st M) (MD.past M) (MD.aside M) (MD.text M) ((MD.pasts M) + 1) (MD.length M) (MD.spot M) (MD.itsThickness M) (MD.itsRows M) (MD.from_ M))) else ((ald (MD.st M) 44 x1).bind fun v2 => (ast (MD.past M) 220 ((44 * (MD.pasts M)) + x1) v2).bind fun f3 => p_X5_records_L50 k n (mkMD (MD.st M) f3 (MD.aside M) (MD.text M) (MD.pasts M) (MD.length M) (MD.spot M) (MD.itsThickness M) (MD.itsRows M) (MD.from_ M)) (x1 + 1))
def p_X5_records_L10 (k : Nat) : Nat → (MD) → (Int32) → Option (MD)
  | 0, _, _ => none
  | n + 1, M, x1 =>
    if 176 ≤ x1 then (p_X5_records_L50 k k (mkMD (MD.st M) (MD.past M) (MD.aside M) (MD.text M) ((MD.pasts M) - 1) (MD.length M) (MD.spot M) (MD.itsThickness M) (MD.itsRows M) (MD.from_ M)) 0) else ((ald (MD.past M) 220 (x1 + 44)).bind fun v5 => (ast (MD.past M) 220 x1 v5).bind fun f6 => p_X5_records_L10 k n (mkMD (MD.st M) f6 (MD.aside M) (MD.text M) (MD.pasts M) (MD.length M) (MD.spot M) (MD.itsThickness M) (MD.itsRows M) (MD.from_ M)) (x1 + 1))
def p_X5_records (k : Nat) (M : MD) : Option (MD) :=
  if (MD.pasts M) = 5 then (p_X5_records_L10 k k M 0) else (p_X5_records_L50 k k M 0)
def p_X5_laysAside_L2 (k : Nat) : Nat → (MD) → (Int32) → Option (MD)
  | 0, _, _ => none
  | n + 1, M, x1 =>
    if 44 ≤ x1 then (some M) else ((ald (MD.st M) 44 x1).bind fun v2 => (ast (MD.aside M) 44 x1 v2).bind fun f3 => p_X5_laysAside_L2 k n (mkMD (MD.st M) (MD.past M) f3 (MD.text M) (MD.pasts M) (MD.length M) (MD.spot M) (MD.itsThickness M) (MD.itsRows M) (MD.from_ M)) (x1 + 1))
def p_X5_laysAside (k : Nat) (M : MD) : Option (MD) :=
  p_X5_laysAside_L2 k k M 0
def p_X5_bringsBack_L2 (k : Nat) : Nat → (MD) → (Int32) → Option (MD)
  | 0, _, _ => none
  | n + 1, M, x1 =>
    if 44 ≤ x1 then (some M) else ((ald (MD.aside M) 44 x1).bind fun v2 => (ast (MD.st M) 44 x1 v2).bind fun f3 => p_X5_bringsBack_L2 k n (mkMD f3 (MD.past M) (MD.aside M) (MD.text M) (MD.pasts M) (MD.length M) (MD.spot M) (MD.itsThickness M) (MD.itsRows M) (MD.from_ M)) (x1 + 1))
def p_X5_bringsBack (k : Nat) (M : MD) : Option (MD) :=
  p_X5_bringsBack_L2 k k M 0
def p_X5_liquid_L4 (k : Nat) (M : MD) : Nat → (Int32) → (Int32) → Option (Int32)
  | 0, _, _ => none
  | n + 1, x1, x2 =>
    (ald (MD.st M) 44 0).bind fun v1 => if v1 ≤ x2 then (some x1) else ((ald (MD.st M) 44 (20 + x2)).bind fun v3 => p_X5_liquid_L4 k M n (x1 + v3) (x2 + 1))
def p_X5_liquid (k : Nat) (M : MD) : Option (Int32) :=
  p_X5_liquid_L4 k M k 0 0
def p_X5_takesAway (k : Nat) (M : MD) : Option (MD) :=
  (ald (MD.st M) 44 7).bind fun v1 => (p_X5_liquid k M).bind fun v2 => (ast (MD.st M) 44 7 (v1 + v2)).bind fun f3 => (ast f3 44 0 0).bind fun f4 => some (mkMD f4 (MD.past M) (MD.aside M) (MD.text M) (MD.pasts M) (MD.length M) (MD.spot M) (MD.itsThickness M) (MD.itsRows M) (MD.from_ M))
def p_X5_newRow (k : Nat) (M : MD) (x1 : Int32) : Option (MD) :=
  (ald (MD.st M) 44 0).bind fun v1 => (ast (MD.st M) 44 (20 + v1) x1).bind fun f2 => (ald f2 44 0).bind fun v3 => (ast f2 44 0 (v3 + 1)).bind fun f4 => (ald f4 44 3).bind fun v5 => (ast f4 44 3 (v5 + x1)).bind fun f6 => some (mkMD f6 (MD.past M) (MD.aside M) (MD.text M) (MD.pasts M) (MD.length M) (MD.spot M) (MD.itsThickness M) (MD.itsRows M) (MD.from_ M))
def p_X5_gives (k : Nat) (M : MD) (x1 : Int32) (x2 : Int64) : Option (MD) :=
  (ald (MD.st M) 44 (20 + x1)).bind fun v1 => if 0 ≤ (lg_cmp x2 (Int32.toInt64 v1)) then ((ald (MD.st M) 44 0).bind fun v3 => if x1 = (v3 - 1) then ((ald (MD.st M) 44 2).bind fun v11 => (ast (MD.st M) 44 2 (v11 + v1)).bind fun f12 => (ald f12 44 (20 + x1)).bind fun v13 => (ast f12 44 (20 + x1) (v13 - v1)).bind fun f14 => some (mkMD f14 (MD.past M) (MD.aside M) (MD.text M) (MD.pasts M) (MD.length M) (MD.spot M) (MD.itsThickness M) (MD.itsRows M) (MD.from_ M))) else ((ald (MD.st M) 44 ((20 + x1) + 1)).bind fun v5 => (p_X5_lesser k v1 (5000 - v5)).bind fun v6 => (ald (MD.st M) 44 ((20 + x1) + 1)).bind fun v7 => (ast (MD.st M) 44 ((20 + x1) + 1) (v7 + v6)).bind fun f8 => (ald f8 44 (20 + x1)).bind fun v9 => (ast f8 44 (20 + x1) (v9 - v6)).bind fun f10 => some (mkMD f10 (MD.past M) (MD.aside M) (MD.text M) (MD.pasts M) (MD.length M) (MD.spot M) (MD.itsThickness M) (MD.itsRows M) (MD.from_ M)))) else ((ald (MD.st M) 44 0).bind fun v15 => if x1 = (v15 - 1) then ((ald (MD.st M) 44 2).bind fun v23 => (ast (MD.st M) 44 2 (v23 + (Int64.toInt32 x2))).bind fun f24 => (ald f24 44 (20 + x1)).bind fun v25 => (ast f24 44 (20 + x1) (v25 - (Int64.toInt32 x2))).bind fun f26 => some (mkMD f26 (MD.past M) (MD.aside M) (MD.text M) (MD.pasts M) (MD.length M) (MD.spot M) (MD.itsThickness M) (MD.itsRows M) (MD.from_ M))) else ((ald (MD.st M) 44 ((20 + x1) + 1)).bind fun v17 => (p_X5_lesser k (Int64.toInt32 x2) (5000 - v17)).bind fun v18 => (ald (MD.st M) 44 ((20 + x1) + 1)).bind fun v19 => (ast (MD.st M) 44 ((20 + x1) + 1) (v19 + v18)).bind fun f20 => (ald f20 44 (20 + x1)).bind fun v21 => (ast f20 44 (20 + x1) (v21 - v18)).bind fun f22 => some (mkMD f22 (MD.past M) (MD.aside M) (MD.text M) (MD.pasts M) (MD.length M) (MD.spot M) (MD.itsThickness M) (MD.itsRows M) (MD.from_ M))))
def p_X5_blackOnes_L4 (k : Nat) (M : MD) : Nat → (Int32) → (Int32) → Option (Int32)
  | 0, _, _ => none
  | n + 1, x1, x2 =>
    (ald (MD.st M) 44 0).bind fun v1 => if v1 ≤ x2 then (some x1) else ((ald (MD.st M) 44 (20 + x2)).bind fun v3 => (p_X5_isBlack k M v3).bind fun v4 => if v4 = 0 then (p_X5_blackOnes_L4 k M n (x1 ||| 0) (x2 + 1)) else (p_X5_blackOnes_L4 k M n (x1 ||| (jshl 1 x2)) (x2 + 1)))
def p_X5_blackOnes (k : Nat) (M : MD) : Option (Int32) :=
  p_X5_blackOnes_L4 k M k 0 0
def p_X5_bits_L4 (k : Nat) : Nat → (Int32) → (Int32) → Option (Int32)
  | 0, _, _ => none
  | n + 1, x1, x2 =>
    if x2 = 0 then (some x1) else (p_X5_bits_L4 k n (x1 + 1) (x2 &&& (x2 - 1)))
def p_X5_bits (k : Nat) (x0 : Int32) : Option (Int32) :=
  p_X5_bits_L4 k k 0 x0
def p_X5_bursts (k : Nat) (M : MD) (x1 : Int32) (x2 : Int32) : Option (MD) :=
  (ast (MD.st M) 44 10 x1).bind fun f1 => (ast f1 44 11 x2).bind fun f2 => (ald f2 44 1).bind fun v3 => (ast f2 44 12 v3).bind fun f4 => (ald f4 44 8).bind fun v5 => (ast f4 44 8 (v5 + 1)).bind fun f6 => (ald f6 44 6).bind fun v7 => (p_X5_liquid k (mkMD f6 (MD.past M) (MD.aside M) (MD.text M) (MD.pasts M) (MD.length M) (MD.spot M) (MD.itsThickness M) (MD.itsRows M) (MD.from_ M))).bind fun v8 => (ast f6 44 6 (v7 + v8)).bind fun f9 => (ast f9 44 0 0).bind fun f10 => some (mkMD f10 (MD.past M) (MD.aside M) (MD.text M) (MD.pasts M) (MD.length M) (MD.spot M) (MD.itsThickness M) (MD.itsRows M) (MD.from_ M))
def p_X5_mayBurst_L2 (k : Nat) (M : MD) : Nat → (Int32) → Option (MD)
  | 0, _ => none
  | n + 1, x1 =>
    (ald (MD.st M) 44 0).bind fun v1 => if v1 ≤ x1 then ((p_X5_blackOnes k M).bind fun v3 => (p_X5_bits k v3).bind fun v4 => (p_X5_of k M 5).bind fun v5 => if v4 ≤ v5 then (some M) else ((p_X5_bursts k M 2 v4).bind fun M7 => some M7)) else ((ald (MD.st M) 44 (20 + x1)).bind fun v8 => (p_X5_of k M 4).bind fun v9 => if v9 ≤ v8 then (p_X5_mayBurst_L2 k M n (x1 + 1)) else ((p_X5_bursts k M 1 x1).bind fun M11 => some M11))
def p_X5_mayBurst (k : Nat) (M : MD) : Option (MD) :=
  p_X5_mayBurst_L2 k M k 0
def p_X5_changesFilm_L104 (k : Nat) : Nat → (MD) → (Int32) → Option (MD)
  | 0, _, _ => none
  | n + 1, M, x2 =>
    (ald (MD.st M) 44 0).bind fun v1 => if v1 ≤ x2 then ((ald (MD.st M) 44 2).bind fun v3 => (p_X5_of k M 6).bind fun v4 => if v3 < v4 then ((p_X5_mayBurst k M).bind fun M6 => some M6) else ((ald (MD.st M) 44 4).bind fun v7 => (ald (MD.st M) 44 2).bind fun v8 => (ast (MD.st M) 44 4 (v7 + v8)).bind fun f9 => (ast f9 44 2 0).bind fun f10 => (ald f10 44 9).bind fun v11 => (ast f10 44 9 (v11 + 1)).bind fun f12 => (p_X5_mayBurst k (mkMD f12 (MD.past M) (MD.aside M) (MD.text M) (MD.pasts M) (MD.length M) (MD.spot M) (MD.itsThickness M) (MD.itsRows M) (MD.from_ M))).bind fun M13 => some M13)) else ((p_X5_of k M 1).bind fun v14 => (ald (MD.st M) 44 (20 + x2)).bind fun v15 => (p_X5_lesser k v14 v15).bind fun v16 => (ald (MD.st M) 44 (20 + x2)).bind fun v17 => (ast (MD.st M) 44 (20 + x2) (v17 - v16)).bind fun f18 => (ald f18 44 5).bind fun v19 => (ast f18 44 5 (v19 + v16)).bind fun f20 => p_X5_changesFilm_L104 k n (mkMD f20 (MD.past M) (MD.aside M) (MD.text M) (MD.pasts M) (MD.length M) (MD.spot M) (MD.itsThickness M) (MD.itsRows M) (MD.from_ M)) (x2 + 1))
def p_X5_changesFilm_L56 (k : Nat) (y1 : Int32) : Nat → (MD) → (Int32) → Option (MD)
  | 0, _, _ => none
  | n + 1, M, x2 =>
    (ald (MD.st M) 44 0).bind fun v1 => if v1 ≤ x2 then (p_X5_changesFilm_L104 k k M 0) else (if ((jshr y1 x2) &&& 1) = 0 then (if ((jshr y1 (x2 - 1)) &&& 1) = 1 then ((p_X5_of k M 2).bind fun v25 => (p_X5_gives k M x2 (Int32.toInt64 v25)).bind fun M26 => p_X5_changesFilm_L56 k y1 n M26 (x2 + 1)) else (p_X5_changesFilm_L56 k y1 n M (x2 + 1))) else (p_X5_changesFilm_L56 k y1 n M (x2 + 1)))
def p_X5_changesFilm_L9 (k : Nat) : Nat → (MD) → (Int32) → Option (MD)
  | 0, _, _ => none
  | n + 1, M, x1 =>
    if x1 < 0 then ((p_X5_blackOnes k M).bind fun v2 => p_X5_changesFilm_L56 k v2 k M 1) else ((ald (MD.st M) 44 (20 + x1)).bind fun v29 => (p_X5_of k M 0).bind fun v30 => (p_X5_gives k M x1 ((((Int32.toInt64 v29) * (Int32.toInt64 v29)) * (Int32.toInt64 v30)) / 1000000)).bind fun M31 => p_X5_changesFilm_L9 k n M31 (x1 + (-1)))
def p_X5_changesFilm (k : Nat) (M : MD) : Option (MD) :=
  (ald (MD.st M) 44 0).bind fun v1 => p_X5_changesFilm_L9 k k M (v1 - 1)
def p_X5_tick (k : Nat) (M : MD) : Option (Int32 × MD) :=
  (ald (MD.st M) 44 0).bind fun v1 => if v1 ≤ 0 then ((ald (MD.st M) 44 1).bind fun v3 => (ast (MD.st M) 44 1 (v3 + 1)).bind fun f4 => some (0, (mkMD f4 (MD.past M) (MD.aside M) (MD.text M) (MD.pasts M) (MD.length M) (MD.spot M) (MD.itsThickness M) (MD.itsRows M) (MD.from_ M)))) else ((p_X5_changesFilm k M).bind fun M5 => (ald (MD.st M5) 44 1).bind fun v6 => (ast (MD.st M5) 44 1 (v6 + 1)).bind fun f7 => some (1, (mkMD f7 (MD.past M5) (MD.aside M5) (MD.text M5) (MD.pasts M5) (MD.length M5) (MD.spot M5) (MD.itsThickness M5) (MD.itsRows M5) (MD.from_ M5))))
def p_X5_undo_L22 (k : Nat) : Nat → (MD) → (Int32) → Option (Int32 × MD)
  | 0, _, _ => none
  | n + 1, M, x1 =>
    if 44 ≤ x1 then (some ((MD.pasts M), M)) else ((ald (MD.past M) 220 ((44 * (MD.pasts M)) + x1)).bind fun v2 => (ast (MD.st M) 44 x1 v2).bind fun f3 => p_X5_undo_L22 k n (mkMD f3 (MD.past M) (MD.aside M) (MD.text M) (MD.pasts M) (MD.length M) (MD.spot M) (MD.itsThickness M) (MD.itsRows M) (MD.from_ M)) (x1 + 1))
def p_X5_undo (k : Nat) (M : MD) : Option (Int32 × MD) :=
  if (MD.pasts M) = 0 then (some ((-2), M)) else (p_X5_undo_L22 k k (mkMD (MD.st M) (MD.past M) (MD.aside M) (MD.text M) ((MD.pasts M) - 1) (MD.length M) (MD.spot M) (MD.itsThickness M) (MD.itsRows M) (MD.from_ M)) 0)
def p_X5_set (k : Nat) (M : MD) (x1 : Int32) (x2 : Int32) : Option (Int32 × MD) :=
  (p_X5_canBe k x1 x2).bind fun v1 => if v1 = 0 then (some ((-1), M)) else ((p_X5_records k M).bind fun M3 => (p_X5_of k M3 x1).bind fun v4 => (ast (MD.st M3) 44 (13 + x1) x2).bind fun f5 => some (v4, (mkMD f5 (MD.past M3) (MD.aside M3) (MD.text M3) (MD.pasts M3) (MD.length M3) (MD.spot M3) (MD.itsThickness M3) (MD.itsRows M3) (MD.from_ M3))))
def p_X5_dip_L58 (k : Nat) (y1 : Int32) (y2 : Int32) (y3 : Int32) : Nat → (MD) → (Int32) → Option (Int32 × MD)
  | 0, _, _ => none
  | n + 1, M, x4 =>
    if y1 ≤ x4 then ((p_X5_liquid k M).bind fun v2 => some (v2, M)) else ((p_X5_newRow k M (y2 + (x4 * y3))).bind fun M3 => p_X5_dip_L58 k y1 y2 y3 n M3 (x4 + 1))
def p_X5_dip (k : Nat) (M : MD) (x1 : Int32) (x2 : Int32) (x3 : Int32) : Option (Int32 × MD) :=
  (p_X5_in k x1 1 24).bind fun v1 => if v1 = 0 then (some ((-1), M)) else ((p_X5_in k x2 0 5000).bind fun v3 => if v3 = 0 then (some ((-1), M)) else ((p_X5_in k x3 0 500).bind fun v5 => if v5 = 0 then (some ((-1), M)) else (if (x2 + ((x1 - 1) * x3)) ≤ 5000 then ((p_X5_records k M).bind fun M8 => (p_X5_takesAway k M8).bind fun M9 => p_X5_dip_L58 k x1 x2 x3 k M9 0) else (some ((-1), M)))))
def p_X5_pour (k : Nat) (M : MD) (x1 : Int32) (x2 : Int32) : Option (Int32 × MD) :=
  (p_X5_isRow k M x1).bind fun v1 => if v1 = 0 then (some ((-1), M)) else ((p_X5_in k x2 1 5000).bind fun v3 => if v3 = 0 then (some ((-1), M)) else ((ald (MD.st M) 44 (20 + x1)).bind fun v5 => if (v5 + x2) ≤ 5000 then ((p_X5_records k M).bind fun M7 => (ald (MD.st M7) 44 (20 + x1)).bind fun v8 => (ast (MD.st M7) 44 (20 + x1) (v8 + x2)).bind fun f9 => (ald f9 44 3).bind fun v10 => (ast f9 44 3 (v10 + x2)).bind fun f11 => (ald f11 44 (20 + x1)).bind fun v12 => some (v12, (mkMD f11 (MD.past M7) (MD.aside M7) (MD.text M7) (MD.pasts M7) (MD.length M7) (MD.spot M7) (MD.itsThickness M7) (MD.itsRows M7) (MD.from_ M7)))) else (some ((-3), M))))
def p_X5_add (k : Nat) (M : MD) (x1 : Int32) : Option (Int32 × MD) :=
  (p_X5_in k x1 0 5000).bind fun v1 => if v1 = 0 then (some ((-1), M)) else ((ald (MD.st M) 44 0).bind fun v3 => if v3 = 0 then (some ((-2), M)) else ((ald (MD.st M) 44 0).bind fun v5 => if v5 = 24 then (some ((-3), M)) else ((p_X5_records k M).bind fun M7 => (p_X5_newRow k M7 x1).bind fun M8 => (ald (MD.st M8) 44 0).bind fun v9 => some (v9, M8))))
def p_X5_thin (k : Nat) (M : MD) (x1 : Int32) (x2 : Int32) : Option (Int32 × MD) :=
  (p_X5_isRow k M x1).bind fun v1 => if v1 = 0 then (some ((-1), M)) else ((p_X5_in k x2 1 5000).bind fun v3 => if v3 = 0 then (some ((-1), M)) else ((p_X5_records k M).bind fun M5 => (ald (MD.st M5) 44 (20 + x1)).bind fun v6 => (p_X5_lesser k x2 v6).bind fun v7 => (ald (MD.st M5) 44 (20 + x1)).bind fun v8 => (ast (MD.st M5) 44 (20 + x1) (v8 - v7)).bind fun f9 => (ald f9 44 7).bind fun v10 => (ast f9 44 7 (v10 + v7)).bind fun f11 => some (v7, (mkMD f11 (MD.past M5) (MD.aside M5) (MD.text M5) (MD.pasts M5) (MD.length M5) (MD.spot M5) (MD.itsThickness M5) (MD.itsRows M5) (MD.from_ M5)))))
def p_X5_cut (k : Nat) (M : MD) : Option (Int32 × MD) :=
  (ald (MD.st M) 44 0).bind fun v1 => if 2 ≤ v1 then ((p_X5_records k M).bind fun M3 => (ald (MD.st M3) 44 0).bind fun v4 => (ast (MD.st M3) 44 0 (v4 - 1)).bind fun f5 => (ald f5 44 7).bind fun v6 => (ald f5 44 0).bind fun v7 => (ald f5 44 (20 + v7)).bind fun v8 => (ast f5 44 7 (v6 + v8)).bind fun f9 => (ald f9 44 0).bind fun v10 => (ald f9 44 (20 + v10)).bind fun v11 => some (v11, (mkMD f9 (MD.past M3) (MD.aside M3) (MD.text M3) (MD.pasts M3) (MD.length M3) (MD.spot M3) (MD.itsThickness M3) (MD.itsRows M3) (MD.from_ M3)))) else (some ((-2), M))
def p_X5_go_L37 (k : Nat) (y1 : Int32) : Nat → (MD) → (Int32) → (Int32) → Option (Int32 × MD)
  | 0, _, _, _ => none
  | n + 1, M, x2, x3 =>
    if y1 ≤ x3 then (some (x2, M)) else (bind2 (p_X5_tick k M) fun v2 M3 => if v2 = 0 then (p_X5_go_L37 k y1 n M3 (x2 + 0) (x3 + 1)) else (p_X5_go_L37 k y1 n M3 (x2 + 1) (x3 + 1)))
def p_X5_go (k : Nat) (M : MD) (x1 : Int32) : Option (Int32 × MD) :=
  (p_X5_in k x1 1 1000).bind fun v1 => if v1 = 0 then (some ((-1), M)) else ((ald (MD.st M) 44 1).bind fun v3 => if (v3 + x1) ≤ 100000 then ((p_X5_records k M).bind fun M5 => p_X5_go_L37 k x1 k M5 0 0) else (some ((-3), M)))
def p_X5_valueOf (k : Nat) (M : MD) (x1 : Int32) (x2 : Int32) : Option (Int32) :=
  if x2 = 0 then (some x1) else (if x2 = 1 then ((p_X5_path k x1).bind fun v3 => some v3) else (if x2 = 2 then ((p_X5_brightness k x1 (x2 - 2)).bind fun v5 => some v5) else (if x2 = 3 then ((p_X5_brightness k x1 (x2 - 2)).bind fun v7 => some v7) else (if x2 = 4 then ((p_X5_brightness k x1 (x2 - 2)).bind fun v9 => some v9) else (if x2 = 5 then ((p_X5_colour k M x1).bind fun v11 => some v11) else (if x2 = 6 then ((p_X5_path k x1).bind fun v13 => some (v13 / 530)) else ((p_X5_isBlack k M x1).bind fun v14 => if v14 = 0 then (some 0) else (some 1))))))))
def p_X5_row (k : Nat) (M : MD) (x1 : Int32) (x2 : Int32) : Option (Int32) :=
  (p_X5_isRow k M x1).bind fun v1 => if v1 = 0 then (some (-1)) else ((p_X5_in k x2 0 7).bind fun v3 => if v3 = 0 then (some (-1)) else ((ald (MD.st M) 44 (20 + x1)).bind fun v5 => (p_X5_valueOf k M v5 x2).bind fun v6 => some v6))
def p_X5_runsTo_L4 (k : Nat) (M : MD) (y1 : Int32) : Nat → (Int32) → (Int32) → Option (Int32)
  | 0, _, _ => none
  | n + 1, x2, x3 =>
    if y1 < x3 then (some x2) else (if x3 = 0 then (p_X5_runsTo_L4 k M y1 n (x2 + 1) (x3 + 1)) else ((p_X5_colourAt k M x3).bind fun v3 => (p_X5_colourAt k M (x3 - 1)).bind fun v4 => if v3 = v4 then (p_X5_runsTo_L4 k M y1 n (x2 + 0) (x3 + 1)) else (p_X5_runsTo_L4 k M y1 n (x2 + 1) (x3 + 1))))
def p_X5_runsTo (k : Nat) (M : MD) (x1 : Int32) : Option (Int32) :=
  p_X5_runsTo_L4 k M x1 k 0 0
def p_X5_colours_L4 (k : Nat) (M : MD) : Nat → (Int32) → (Int32) → Option (Int32)
  | 0, _, _ => none
  | n + 1, x1, x2 =>
    (ald (MD.st M) 44 0).bind fun v1 => if v1 ≤ x2 then ((p_X5_bits k x1).bind fun v3 => some v3) else ((p_X5_colourAt k M x2).bind fun v4 => p_X5_colours_L4 k M n (x1 ||| (jshl 1 v4)) (x2 + 1))
def p_X5_colours (k : Nat) (M : MD) : Option (Int32) :=
  p_X5_colours_L4 k M k 0 0
def p_X5_greatestOrder_L5 (k : Nat) (M : MD) : Nat → (Int32) → (Int32) → Option (Int32)
  | 0, _, _ => none
  | n + 1, x1, x2 =>
    (ald (MD.st M) 44 0).bind fun v1 => if v1 ≤ x2 then (some x1) else ((ald (MD.st M) 44 (20 + x2)).bind fun v3 => (p_X5_path k v3).bind fun v4 => if (v4 / 530) ≤ x1 then (p_X5_greatestOrder_L5 k M n x1 (x2 + 1)) else (p_X5_greatestOrder_L5 k M n (v4 / 530) (x2 + 1)))
def p_X5_greatestOrder (k : Nat) (M : MD) : Option (Int32) :=
  p_X5_greatestOrder_L5 k M k (-4) 0
def p_X5_account (k : Nat) (M : MD) (x1 : Int32) : Option (Int32) :=
  if x1 = 0 then ((ald (MD.st M) 44 3).bind fun v7 => some v7) else (if x1 = 1 then ((p_X5_liquid k M).bind fun v6 => some v6) else (if x1 = 2 then ((ald (MD.st M) 44 2).bind fun v5 => some v5) else ((ald (MD.st M) 44 ((4 + x1) - 3)).bind fun v4 => some v4)))
def p_X5_ofBurst (k : Nat) (M : MD) (x1 : Int32) : Option (Int32) :=
  (ald (MD.st M) 44 8).bind fun v1 => if v1 = 0 then (some (-4)) else ((ald (MD.st M) 44 x1).bind fun v3 => some v3)
def p_X5_count (k : Nat) (M : MD) (x1 : Int32) : Option (Int32) :=
  if x1 = 0 then ((ald (MD.st M) 44 0).bind fun v2 => some v2) else (if x1 = 1 then ((ald (MD.st M) 44 1).bind fun v4 => some v4) else (if x1 = 2 then ((p_X5_blackOnes k M).bind fun v6 => (p_X5_bits k v6).bind fun v7 => some v7) else (if x1 = 3 then ((ald (MD.st M) 44 0).bind fun v9 => if v9 = 0 then (some 0) else ((ald (MD.st M) 44 0).bind fun v11 => (p_X5_runsTo k M (v11 - 1)).bind fun v12 => some (v12 - 1))) else (if x1 = 4 then ((p_X5_colours k M).bind fun v14 => some v14) else (if x1 = 5 then ((p_X5_greatestOrder k M).bind fun v16 => some v16) else (if x1 = 6 then ((ald (MD.st M) 44 10).bind fun v18 => some v18) else (if x1 = 7 then ((p_X5_ofBurst k M 11).bind fun v20 => some v20) else (if x1 = 8 then ((p_X5_ofBurst k M 12).bind fun v22 => some v22) else (if x1 = 9 then ((ald (MD.st M) 44 8).bind fun v24 => some v24) else (if x1 = 10 then ((ald (MD.st M) 44 9).bind fun v26 => some v26) else (if x1 = 11 then (some (MD.pasts M)) else (if x1 = 12 then (some (MD.length M)) else ((p_X5_in k x1 20 26).bind fun v29 => if v29 = 0 then ((p_X5_in k x1 30 36).bind fun v31 => if v31 = 0 then (some (-1)) else ((p_X5_of k M (x1 - 30)).bind fun v33 => some v33)) else ((p_X5_account k M (x1 - 20)).bind fun v34 => some v34))))))))))))))
def p_X5_ladder_L8 (k : Nat) (M : MD) (y1 : Int32) : Nat → (Int32) → Option (Int32)
  | 0, _ => none
  | n + 1, x2 =>
    (ald (MD.st M) 44 0).bind fun v1 => if v1 ≤ x2 then (some (-4)) else ((p_X5_runsTo k M x2).bind fun v3 => if (v3 - 1) = y1 then ((p_X5_colourAt k M x2).bind fun v5 => some v5) else (p_X5_ladder_L8 k M y1 n (x2 + 1)))
def p_X5_ladder (k : Nat) (M : MD) (x1 : Int32) : Option (Int32) :=
  if 0 ≤ x1 then (p_X5_ladder_L8 k M x1 k 0) else (some (-1))
def p_X5_isColour (k : Nat) (x0 : Int32) : Option (Int32) :=
  (p_X5_in k x0 0 7).bind fun v1 => some v1
def p_X5_find_L15 (k : Nat) (M : MD) (y1 : Int32) : Nat → (Int32) → Option (Int32)
  | 0, _ => none
  | n + 1, x3 =>
    (ald (MD.st M) 44 0).bind fun v1 => if v1 ≤ x3 then (some (-4)) else ((p_X5_colourAt k M x3).bind fun v3 => if v3 = y1 then (some x3) else (p_X5_find_L15 k M y1 n (x3 + 1)))
def p_X5_find (k : Nat) (M : MD) (x1 : Int32) (x2 : Int32) : Option (Int32) :=
  (p_X5_isColour k x1).bind fun v1 => if v1 = 0 then (some (-1)) else (if 0 ≤ x2 then (p_X5_find_L15 k M x1 k x2) else (some (-1)))
def p_X5_colourOf (k : Nat) (M : MD) (x1 : Int32) : Option (Int32) :=
  (p_X5_in k x1 0 5000).bind fun v1 => if v1 = 0 then (some (-1)) else ((p_X5_colour k M x1).bind fun v3 => some v3)
def p_X5_thicknessFor_L22 (k : Nat) (M : MD) (y1 : Int32) : Nat → (Int32) → Option (Int32)
  | 0, _ => none
  | n + 1, x3 =>
    if 5000 < x3 then (some (-4)) else ((p_X5_colour k M x3).bind fun v2 => if v2 = y1 then (some x3) else (p_X5_thicknessFor_L22 k M y1 n (x3 + 1)))
def p_X5_thicknessFor (k : Nat) (M : MD) (x1 : Int32) (x2 : Int32) : Option (Int32) :=
  (p_X5_isColour k x1).bind fun v1 => if v1 = 0 then (some (-1)) else ((p_X5_in k x2 0 5000).bind fun v3 => if v3 = 0 then (some (-1)) else (p_X5_thicknessFor_L22 k M x1 k x2))
def p_X5_isQuestion (k : Nat) (x0 : Int32) (x1 : Int32) : Option (Int32) :=
  if x0 = 0 then (if x1 = 0 then (some 1) else (some 0)) else (if x0 = 1 then ((p_X5_in k x1 1 24).bind fun v4 => some v4) else (if x0 = 2 then ((p_X5_isColour k x1).bind fun v6 => some v6) else (if x0 = 3 then ((p_X5_in k x1 1 100).bind fun v8 => if v8 = 0 then (some 0) else (some 1)) else (some 0))))
def p_X5_isSo (k : Nat) (M : MD) (x1 : Int32) (x2 : Int32) : Option (Int32) :=
  if x1 = 0 then ((ald (MD.st M) 44 0).bind fun v2 => if v2 = 0 then (some 1) else (some 0)) else (if x1 = 1 then ((p_X5_blackOnes k M).bind fun v5 => (p_X5_bits k v5).bind fun v6 => if v6 < x2 then (some 0) else (some 1)) else (if x1 = 2 then ((ald (MD.st M) 44 0).bind fun v9 => if v9 ≤ 0 then (some 0) else ((p_X5_colourAt k M 0).bind fun v11 => if v11 = x2 then (some 1) else (some 0))) else ((ald (MD.st M) 44 9).bind fun v13 => (ald (MD.aside M) 44 9).bind fun v14 => if (v13 - v14) < x2 then (some 0) else (some 1))))
def p_X5_until_L20 (k : Nat) (y1 : Int32) (y2 : Int32) : Nat → (MD) → (Int32) → (Int32) → Option (Int32 × MD)
  | 0, _, _, _ => none
  | n + 1, M, x3, x4 =>
    if 1000 < x4 then ((p_X5_bringsBack k M).bind fun M2 => some (x3, M2)) else (if 0 ≤ x3 then ((p_X5_bringsBack k M).bind fun M4 => some (x3, M4)) else ((p_X5_isSo k M y1 y2).bind fun v5 => if v5 = 0 then (bind2 (p_X5_tick k M) fun v7 M8 => p_X5_until_L20 k y1 y2 n M8 (-4) (x4 + 1)) else (bind2 (p_X5_tick k M) fun v9 M10 => p_X5_until_L20 k y1 y2 n M10 x4 (x4 + 1))))
def p_X5_until (k : Nat) (M : MD) (x1 : Int32) (x2 : Int32) : Option (Int32 × MD) :=
  (p_X5_isQuestion k x1 x2).bind fun v1 => if v1 = 0 then (some ((-1), M)) else ((p_X5_laysAside k M).bind fun M3 => p_X5_until_L20 k x1 x2 k M3 (-4) 0)
def p_X5_ifGo_L27 (k : Nat) (y1 : Int32) (y2 : Int32) : Nat → (MD) → (Int32) → Option (Int32 × MD)
  | 0, _, _ => none
  | n + 1, M, x3 =>
    if y2 ≤ x3 then ((ald (MD.st M) 44 0).bind fun v2 => if v2 = 0 then ((p_X5_bringsBack k M).bind fun M6 => some ((-4), M6)) else ((ald (MD.st M) 44 (20 + y1)).bind fun v4 => (p_X5_bringsBack k M).bind fun M5 => some (v4, M5))) else (bind2 (p_X5_tick k M) fun v7 M8 => p_X5_ifGo_L27 k y1 y2 n M8 (x3 + 1))
def p_X5_ifGo (k : Nat) (M : MD) (x1 : Int32) (x2 : Int32) : Option (Int32 × MD) :=
  (p_X5_isRow k M x1).bind fun v1 => if v1 = 0 then (some ((-1), M)) else ((p_X5_in k x2 1 1000).bind fun v3 => if v3 = 0 then (some ((-1), M)) else ((p_X5_laysAside k M).bind fun M5 => p_X5_ifGo_L27 k x1 x2 k M5 0))
def p_X5_type (k : Nat) (M : MD) (x1 : Int32) : Option (Int32 × MD) :=
  (p_X5_in k x1 32 126).bind fun v1 => if v1 = 0 then (some ((-1), M)) else (if (MD.length M) = 100 then (some ((-3), M)) else ((ast (MD.text M) 100 (MD.length M) x1).bind fun f4 => some (((MD.length M) + 1), (mkMD (MD.st M) (MD.past M) (MD.aside M) f4 (MD.pasts M) ((MD.length M) + 1) (MD.spot M) (MD.itsThickness M) (MD.itsRows M) (MD.from_ M)))))
def p_X5_clearText (k : Nat) (M : MD) : Option (Int32 × MD) :=
  some ((MD.length M), (mkMD (MD.st M) (MD.past M) (MD.aside M) (MD.text M) (MD.pasts M) 0 (MD.spot M) (MD.itsThickness M) (MD.itsRows M) (MD.from_ M)))
def p_X5_isAt (k : Nat) (M : MD) (x1 : Int32) (x2 : Int32) : Option (Int32) :=
  if (MD.length M) ≤ (MD.spot M) then (some 0) else ((ald (MD.text M) 100 (MD.spot M)).bind fun v2 => (p_X5_in k v2 x1 x2).bind fun v3 => if v3 = 0 then (some 0) else (some 1))
def p_X5_digits_L7 (k : Nat) (y1 : Int32) (y3 : Int32) : Nat → (MD) → (Int32) → Option (Int32 × MD)
  | 0, _, _ => none
  | n + 1, M, x2 =>
    if (y3 + y1) ≤ (MD.spot M) then (if (MD.spot M) = y3 then (some ((-1), M)) else (some (x2, M))) else ((p_X5_isAt k M 48 57).bind fun v3 => if v3 = 0 then (if (MD.spot M) = y3 then (some ((-1), M)) else (some (x2, M))) else ((ald (MD.text M) 100 (MD.spot M)).bind fun v6 => p_X5_digits_L7 k y1 y3 n (mkMD (MD.st M) (MD.past M) (MD.aside M) (MD.text M) (MD.pasts M) (MD.length M) ((MD.spot M) + 1) (MD.itsThickness M) (MD.itsRows M) (MD.from_ M)) (((10 * x2) + v6) - 48)))
def p_X5_digits (k : Nat) (M : MD) (x1 : Int32) : Option (Int32 × MD) :=
  p_X5_digits_L7 k x1 (MD.spot M) k M 0
def p_X5_isFormed (k : Nat) (M : MD) : Option (Int32 × MD) :=
  bind2 (p_X5_digits k M 4) fun v1 M2 => if v1 < 0 then (if v1 < 0 then (some (0, (mkMD (MD.st M2) (MD.past M2) (MD.aside M2) (MD.text M2) (MD.pasts M2) (MD.length M2) (MD.spot M2) v1 1 (MD.from_ M2)))) else (if (MD.spot M2) = (MD.length M2) then (some (1, (mkMD (MD.st M2) (MD.past M2) (MD.aside M2) (MD.text M2) (MD.pasts M2) (MD.length M2) (MD.spot M2) v1 1 (MD.from_ M2)))) else ((p_X5_isAt k (mkMD (MD.st M2) (MD.past M2) (MD.aside M2) (MD.text M2) (MD.pasts M2) (MD.length M2) (MD.spot M2) v1 1 (MD.from_ M2)) 44 44).bind fun v6 => if v6 = 0 then (some (0, (mkMD (MD.st M2) (MD.past M2) (MD.aside M2) (MD.text M2) (MD.pasts M2) (MD.length M2) (MD.spot M2) v1 1 (MD.from_ M2)))) else (some (1, (mkMD (MD.st M2) (MD.past M2) (MD.aside M2) (MD.text M2) (MD.pasts M2) (MD.length M2) (MD.spot M2) v1 1 (MD.from_ M2))))))) else ((p_X5_isAt k (mkMD (MD.st M2) (MD.past M2) (MD.aside M2) (MD.text M2) (MD.pasts M2) (MD.length M2) (MD.spot M2) v1 1 (MD.from_ M2)) 120 120).bind fun v8 => if v8 = 0 then (if v1 < 0 then (some (0, (mkMD (MD.st M2) (MD.past M2) (MD.aside M2) (MD.text M2) (MD.pasts M2) (MD.length M2) (MD.spot M2) v1 1 (MD.from_ M2)))) else (if (MD.spot M2) = (MD.length M2) then (some (1, (mkMD (MD.st M2) (MD.past M2) (MD.aside M2) (MD.text M2) (MD.pasts M2) (MD.length M2) (MD.spot M2) v1 1 (MD.from_ M2)))) else ((p_X5_isAt k (mkMD (MD.st M2) (MD.past M2) (MD.aside M2) (MD.text M2) (MD.pasts M2) (MD.length M2) (MD.spot M2) v1 1 (MD.from_ M2)) 44 44).bind fun v12 => if v12 = 0 then (some (0, (mkMD (MD.st M2) (MD.past M2) (MD.aside M2) (MD.text M2) (MD.pasts M2) (MD.length M2) (MD.spot M2) v1 1 (MD.from_ M2)))) else (some (1, (mkMD (MD.st M2) (MD.past M2) (MD.aside M2) (MD.text M2) (MD.pasts M2) (MD.length M2) (MD.spot M2) v1 1 (MD.from_ M2))))))) else (bind2 (p_X5_digits k (mkMD (MD.st M2) (MD.past M2) (MD.aside M2) (MD.text M2) (MD.pasts M2) (MD.length M2) ((MD.spot M2) + 1) v1 1 (MD.from_ M2)) 2) fun v14 M15 => if (MD.itsThickness M15) < 0 then (some (0, (mkMD (MD.st M15) (MD.past M15) (MD.aside M15) (MD.text M15) (MD.pasts M15) (MD.length M15) (MD.spot M15) (MD.itsThickness M15) v14 (MD.from_ M15)))) else (if v14 < 0 then (some (0, (mkMD (MD.st M15) (MD.past M15) (MD.aside M15) (MD.text M15) (MD.pasts M15) (MD.length M15) (MD.spot M15) (MD.itsThickness M15) v14 (MD.from_ M15)))) else (if (MD.spot M15) = (MD.length M15) then (some (1, (mkMD (MD.st M15) (MD.past M15) (MD.aside M15) (MD.text M15) (MD.pasts M15) (MD.length M15) (MD.spot M15) (MD.itsThickness M15) v14 (MD.from_ M15)))) else ((p_X5_isAt k (mkMD (MD.st M15) (MD.past M15) (MD.aside M15) (MD.text M15) (MD.pasts M15) (MD.length M15) (MD.spot M15) (MD.itsThickness M15) v14 (MD.from_ M15)) 44 44).bind fun v19 => if v19 = 0 then (some (0, (mkMD (MD.st M15) (MD.past M15) (MD.aside M15) (MD.text M15) (MD.pasts M15) (MD.length M15) (MD.spot M15) (MD.itsThickness M15) v14 (MD.from_ M15)))) else (some (1, (mkMD (MD.st M15) (MD.past M15) (MD.aside M15) (MD.text M15) (MD.pasts M15) (MD.length M15) (MD.spot M15) (MD.itsThickness M15) v14 (MD.from_ M15)))))))))
def p_X5_reasonOfText_L14 (k : Nat) : Nat → (MD) → (Int32) → (Int32) → Option (Int32 × MD)
  | 0, _, _, _ => none
  | n + 1, M, x1, x2 =>
    if x2 = 0 then (some (0, M)) else (bind2 (p_X5_isFormed k (mkMD (MD.st M) (MD.past M) (MD.aside M) (MD.text M) (MD.pasts M) (MD.length M) (MD.spot M) (MD.itsThickness M) (MD.itsRows M) (MD.spot M))) fun v2 M3 => if v2 = 0 then (some (1, M3)) else ((p_X5_in k (MD.itsThickness M3) 0 5000).bind fun v5 => if v5 = 0 then (some (2, M3)) else ((p_X5_in k (MD.itsRows M3) 1 24).bind fun v7 => if v7 = 0 then (some (2, M3)) else (if (x1 + (MD.itsRows M3)) ≤ 24 then (if (MD.length M3) ≤ (MD.spot M3) then (p_X5_reasonOfText_L14 k n (mkMD (MD.st M3) (MD.past M3) (MD.aside M3) (MD.text M3) (MD.pasts M3) (MD.length M3) ((MD.spot M3) + 1) (MD.itsThickness M3) (MD.itsRows M3) (MD.from_ M3)) (x1 + (MD.itsRows M3)) 0) else (p_X5_reasonOfText_L14 k n (mkMD (MD.st M3) (MD.past M3) (MD.aside M3) (MD.text M3) (MD.pasts M3) (MD.length M3) ((MD.spot M3) + 1) (MD.itsThickness M3) (MD.itsRows M3) (MD.from_ M3)) (x1 + (MD.itsRows M3)) 1)) else (some (3, M3))))))
def p_X5_reasonOfText (k : Nat) (M : MD) : Option (Int32 × MD) :=
  p_X5_reasonOfText_L14 k k (mkMD (MD.st M) (MD.past M) (MD.aside M) (MD.text M) (MD.pasts M) (MD.length M) 0 (MD.itsThickness M) (MD.itsRows M) 0) 0 1
def p_X5_fault (k : Nat) (M : MD) (x1 : Int32) : Option (Int32 × MD) :=
  (p_X5_in k x1 0 1).bind fun v1 => if v1 = 0 then (some ((-1), M)) else (bind2 (p_X5_reasonOfText k M) fun v3 M4 => if v3 = 0 then (some ((-4), M4)) else (if x1 = 0 then (some ((MD.from_ M4), M4)) else (some (v3, M4))))
def p_X5_read_L43 (k : Nat) : Nat → (MD) → (Int32) → Option (MD)
  | 0, _, _ => none
  | n + 1, M, x1 =>
    if (MD.itsRows M) ≤ x1 then (some M) else ((p_X5_newRow k M (MD.itsThickness M)).bind fun M2 => p_X5_read_L43 k n M2 (x1 + 1))
def p_X5_read_L23 (k : Nat) : Nat → (MD) → Option (Int32 × MD)
  | 0, _ => none
  | n + 1, M =>
    if (MD.length M) ≤ (MD.spot M) then ((ald (MD.st M) 44 0).bind fun v2 => some (v2, M)) else (bind2 (p_X5_isFormed k M) fun v3 M4 => if v3 = 0 then ((ald (MD.st M4) 44 0).bind fun v6 => some (v6, M4)) else ((p_X5_read_L43 k k M4 0).bind fun oM9 => p_X5_read_L23 k n (mkMD (MD.st oM9) (MD.past oM9) (MD.aside oM9) (MD.text oM9) (MD.pasts oM9) (MD.length oM9) ((MD.spot oM9) + 1) (MD.itsThickness oM9) (MD.itsRows oM9) (MD.from_ oM9))))
def p_X5_read (k : Nat) (M : MD) : Option (Int32 × MD) :=
  bind2 (p_X5_reasonOfText k M) fun v1 M2 => if v1 = 0 then ((p_X5_records k M2).bind fun M4 => (p_X5_takesAway k M4).bind fun M5 => p_X5_read_L23 k k (mkMD (MD.st M5) (MD.past M5) (MD.aside M5) (MD.text M5) (MD.pasts M5) (MD.length M5) 0 (MD.itsThickness M5) (MD.itsRows M5) (MD.from_ M5))) else (some ((-2), M2))
