/-! the whole object, method by method, as partial functions that follow its bytecode where it throws nothing (by wip/tools/rworld.py) -/
def fX8_append_j21  (y1 : Int32) (w0 : Int32) (σ : cSt) : Option (Int32 × cSt) :=
  (if w0 = 0 then none else
  (c_sb σ (σ 7 0 0) y1.toInt8.toInt32).bind fun σ1 =>
  (c_sf σ1 7 0 ((σ1 7 0 0) + (nI 1))).bind fun σ2 =>
  some (σ2 7 0 0, σ2))
def fX8_append (a0 : Int32) (σ : cSt) : Option (Int32 × cSt) :=
  (if a0 < (nI 0) ∨ (nI 127) < a0 then none else
  (if (nI 100) ≤ (σ 7 0 0) then
  fX8_append_j21 a0 (nI 0) σ
  else
  fX8_append_j21 a0 (nI 1) σ))
def fX8_begin (a0 : Int32) (a1 : Int32) (a2 : Int32) (σ : cSt) : Option (Int32 × cSt) :=
  (if a0 < (nI 2) ∨ (nI 6) < a0 then none else
  (if a1 < (nI 1) ∨ (nI 8) < a1 then none else
  (if a2 < (nI 1) ∨ (nI 16) < a2 then none else
  (fX2_save  σ).bind fun σ1 =>
  c_b1 σ1 0 (fX4_startAnew a0 a1 a2 (σ1 0)) fun σ2 =>
  some (σ1 0 21 0, σ2))))
def fX8_isPossible (a0 : Int32) (σ : cSt) : Option (Int32) :=
  (fX5_isTicks a0 (σ 6)).bind fun x1 =>
  (if x1 = 0 then
  (z_ag (σ 6 0) 34 a0).bind fun x2 =>
  (if (σ 0 19 0) ≤ x2 then
  z_bz (nI 0)
  else
  (fX7_isPending x2 (σ 0)).bind fun x3 =>
  (if x3 = 0 then
  z_bz (nI 1)
  else
  z_bz (nI 0)))
  else
  (z_ag (σ 6 2) 34 a0).bind fun x4 =>
  (fX4_hasTimeFor x4 (σ 0)).bind fun x5 =>
  z_bz x5)
def fX8_carryOut_l39 (K39 : cSt → Option (Int32 × cSt)) : Nat → Int32 → cSt → Option (Int32 × cSt)
  | 0, _, _ => none
  | n + 1, y2, σ =>
  (if (σ 6 3 0) ≤ y2 then
  K39 σ
  else
  (fX8_isPossible y2 σ).bind fun x4 =>
  (if x4 = 0 then
  some (y2, σ)
  else
  (fX5_isTicks y2 (σ 6)).bind fun x5 =>
  (if x5 = 0 then
  (z_ag (σ 6 0) 34 y2).bind fun x6 =>
  (z_ag (σ 6 1) 34 y2).bind fun x7 =>
  (z_ag (σ 6 2) 34 y2).bind fun x8 =>
  c_b1 σ 0 (fX7_ask x6 x7 x8 (σ 0)) fun σ9 =>
  (fX8_carryOut_l39 K39 n) (y2 + nI 1) σ9
  else
  (z_ag (σ 6 2) 34 y2).bind fun x10 =>
  c_b2 σ 0 (fX4_letPass x10 (σ 0)) fun x11 σ12 =>
  (fX8_carryOut_l39 K39 n) (y2 + nI 1) σ12)))
def fX8_carryOut (σ : cSt) : Option (Int32 × cSt) :=
  c_b2 σ 6 (fX5_readAll (σ 7 0 0) (σ 6)) fun x1 σ2 =>
  (if x1 = (-1) then
  (fX2_save  σ2).bind fun σ3 =>
  fX8_carryOut_l39 (fun σ13 => some (σ13 6 3 0, σ13)) z_fu (nI 0) σ3
  else
  some ((-10) - x1, σ2))
def fX8_clearText (σ : cSt) : Option (Int32 × cSt) :=
  (c_sf σ 7 0 (nI 0)).bind fun σ1 =>
  some (σ 7 0 0, σ1)
def fX8_copy (a0 : Int32) (a1 : Int32) (a2 : Int32) (σ : cSt) : Option (Int32) :=
  (if a0 < 0 ∨ (σ 0 19 0) ≤ a0 then none else
  (if a1 < 0 ∨ (nI 32) ≤ a1 then none else
  (if a2 < (nI 0) ∨ (nI 3) < a2 then none else
  (fX0_fact a0 a1 a2 (σ 0)).bind fun x1 =>
  some x1)))
def fX8_hashLine_l6 (σ : cSt) (K6 : Int32 → Int64 → Option (Int64)) : Nat → Int32 → Int64 → Int32 → Option (Int64)
  | 0, _, _, _ => none
  | n + 1, y3, y4, y6 =>
  (if (nI 8) ≤ y6 then
  K6 y3 y4
  else
  (fX4_lineFact y3 y6 (σ 0)).bind fun x1 =>
  (fX8_hashLine_l6 σ K6 n) y3 (((31 : Int64) * y4) + x1.toInt64) (y6 + nI 1))
def fX8_hashLine_l57 (σ : cSt) (K57 : Int32 → Int64 → Int32 → Option (Int64)) : Nat → Int32 → Int64 → Int32 → Int32 → Option (Int64)
  | 0, _, _, _, _ => none
  | n + 1, y3, y4, y6, y7 =>
  (if (nI 4) ≤ y7 then
  K57 y3 y4 y6
  else
  (fX0_fact y6 y3 y7 (σ 0)).bind fun x4 =>
  (fX8_hashLine_l57 σ K57 n) y3 (((31 : Int64) * y4) + x4.toInt64) y6 (y7 + nI 1))
def fX8_hashLine_l42 (σ : cSt) (K42 : Int64 → Option (Int64)) : Nat → Int32 → Int64 → Int32 → Option (Int64)
  | 0, _, _, _ => none
  | n + 1, y3, y4, y6 =>
  (if (σ 0 19 0) ≤ y6 then
  K42 y4
  else
  fX8_hashLine_l57 σ (fun x5 x6 x7 => (fX8_hashLine_l42 σ K42 n) x5 x6 (x7 + nI 1)) z_fu y3 y4 y6 (nI 0))
def fX8_hashLine (a0 : Int64) (a1 : Int32) (σ : cSt) : Option (Int64) :=
  fX8_hashLine_l6 σ (fun x2 x3 => fX8_hashLine_l42 σ (fun x8 => some x8) z_fu x2 x3 (nI 0)) z_fu a1 a0 (nI 0)
def fX8_digest_l12 (σ : cSt) (K12 : Int64 → Option (Int64)) : Nat → Int64 → Int32 → Option (Int64)
  | 0, _, _ => none
  | n + 1, y1, y3 =>
  (if (nI 14) ≤ y3 then
  K12 y1
  else
  (fX4_number y3 (σ 0)).bind fun x1 =>
  (fX8_digest_l12 σ K12 n) (((31 : Int64) * y1) + x1.toInt64) (y3 + nI 1))
def fX8_digest_l42 (σ : cSt) (K42 : Int64 → Option (Int64)) : Nat → Int64 → Int32 → Option (Int64)
  | 0, _, _ => none
  | n + 1, y1, y3 =>
  (if (nI 32) ≤ y3 then
  K42 y1
  else
  (fX8_hashLine y1 y3 σ).bind fun x3 =>
  (fX8_digest_l42 σ K42 n) x3 (y3 + nI 1))
def fX8_digest_l77 (σ : cSt) (K77 : Int64 → Int32 → Option (Int64)) : Nat → Int64 → Int32 → Int32 → Option (Int64)
  | 0, _, _, _ => none
  | n + 1, y1, y3, y4 =>
  (if (nI 3) ≤ y4 then
  K77 y1 y3
  else
  (fX7_fact y3 y4 (σ 0)).bind fun x5 =>
  (fX8_digest_l77 σ K77 n) (((31 : Int64) * y1) + x5.toInt64) y3 (y4 + nI 1))
def fX8_digest_l63 (σ : cSt) (K63 : Int64 → Option (Int64)) : Nat → Int64 → Int32 → Option (Int64)
  | 0, _, _ => none
  | n + 1, y1, y3 =>
  (if (σ 0 19 0) ≤ y3 then
  K63 y1
  else
  fX8_digest_l77 σ (fun x6 x7 => (fX8_digest_l63 σ K63 n) x6 (x7 + nI 1)) z_fu y1 y3 (nI 0))
def fX8_digest_l135 (σ : cSt) (K135 : Int64 → Int32 → Option (Int64)) : Nat → Int64 → Int32 → Int32 → Option (Int64)
  | 0, _, _, _ => none
  | n + 1, y1, y3, y4 =>
  (if (nI 6) ≤ y4 then
  K135 y1 y3
  else
  (fX3_fact y3 y4 (σ 0)).bind fun x9 =>
  (fX8_digest_l135 σ K135 n) (((31 : Int64) * y1) + x9.toInt64) y3 (y4 + nI 1))
def fX8_digest_l118 (σ : cSt) (K118 : Int64 → Option (Int64)) : Nat → Int64 → Int32 → Option (Int64)
  | 0, _, _ => none
  | n + 1, y1, y3 =>
  (if (σ 0 18 0) ≤ y3 then
  K118 y1
  else
  fX8_digest_l135 σ (fun x10 x11 => (fX8_digest_l118 σ K118 n) x10 (x11 + nI 1)) z_fu y1 y3 (nI 0))
def fX8_digest (σ : cSt) : Option (Int64) :=
  fX8_digest_l12 σ (fun x2 => fX8_digest_l42 σ (fun x4 => fX8_digest_l63 σ (fun x8 => fX8_digest_l118 σ (fun x12 => (fX1_lineToTear (σ 0)).bind fun x13 =>
  some (((31 : Int64) * (((31 : Int64) * x12) + x13.toInt64)) + ((σ 7 1 0).toInt64))) z_fu x8 (nI 0)) z_fu x4 (nI 0)) z_fu x2 (nI 0)) z_fu ((113987 : Int64) + ((σ 7 0 0).toInt64)) (nI 0)
def fX8_drop_j72  (y1 : Int32) (y2 : Int32) (w0 : Int32) (σ : cSt) : Option (Int32 × cSt) :=
  c_b1 σ 0 (fX4_throwAway y1 y2 (σ 0)) fun σ4 =>
  (c_sf σ4 0 22 ((σ4 0 22 0) + w0)).bind fun σ5 =>
  some (w0, σ5)
def fX8_drop_j37  (y1 : Int32) (y2 : Int32) (w0 : Int32) (σ : cSt) : Option (Int32 × cSt) :=
  (if w0 = 0 then none else
  (fX2_save  σ).bind fun σ2 =>
  (fX0_kindOf y1 y2 (σ2 0)).bind fun x3 =>
  (if x3 = (nI 2) then
  fX8_drop_j72 y1 y2 (nI 1) σ2
  else
  fX8_drop_j72 y1 y2 (nI 0) σ2))
def fX8_drop (a0 : Int32) (a1 : Int32) (σ : cSt) : Option (Int32 × cSt) :=
  (if a0 < 0 ∨ (σ 0 19 0) ≤ a0 then none else
  (if a1 < 0 ∨ (nI 32) ≤ a1 then none else
  (fX0_kindOf a0 a1 (σ 0)).bind fun x1 =>
  (if x1 = 0 then
  fX8_drop_j37 a0 a1 (nI 0) σ
  else
  fX8_drop_j37 a0 a1 (nI 1) σ)))
def fX8_line (a0 : Int32) (a1 : Int32) (σ : cSt) : Option (Int32) :=
  (if a0 < 0 ∨ (nI 32) ≤ a0 then none else
  (if a1 < (nI 0) ∨ (nI 7) < a1 then none else
  (fX4_lineFact a0 a1 (σ 0)).bind fun x1 =>
  some x1))
def fX8_nextDropped (a0 : Int32) (σ : cSt) : Option (Int32) :=
  (if a0 < 0 ∨ (σ 0 19 0) ≤ a0 then none else
  (fX4_lineToDrop a0 (σ 0)).bind fun x1 =>
  some x1)
def fX8_nextTorn (σ : cSt) : Option (Int32) :=
  (fX1_lineToTear (σ 0)).bind fun x1 =>
  some x1
def fX8_pass (a0 : Int32) (σ : cSt) : Option (Int32 × cSt) :=
  (if a0 < (nI 1) ∨ (nI 100) < a0 then none else
  (fX4_hasTimeFor a0 (σ 0)).bind fun x1 =>
  (if x1 = 0 then none else
  (fX2_save  σ).bind fun σ2 =>
  c_b2 σ2 0 (fX4_letPass a0 (σ2 0)) fun x3 σ4 =>
  some (x3, σ4)))
def fX8_pending (a0 : Int32) (a1 : Int32) (σ : cSt) : Option (Int32) :=
  (if a0 < 0 ∨ (σ 0 19 0) ≤ a0 then none else
  (if a1 < (nI 0) ∨ (nI 2) < a1 then none else
  (fX7_fact a0 a1 (σ 0)).bind fun x1 =>
  some x1))
def fX8_read_j36  (y1 : Int32) (y2 : Int32) (w0 : Int32) (σ : cSt) : Option (Int32 × cSt) :=
  (if w0 = 0 then none else
  (fX2_save  σ).bind fun σ2 =>
  c_b1 σ2 0 (fX7_ask y1 y2 (-1) (σ2 0)) fun σ3 =>
  (fX4_isHit y1 y2 (nI 0) (σ3 0)).bind fun x4 =>
  (if x4 = 0 then
  some (nI 0, σ3)
  else
  some (nI 1, σ3)))
def fX8_read (a0 : Int32) (a1 : Int32) (σ : cSt) : Option (Int32 × cSt) :=
  (if a0 < 0 ∨ (σ 0 19 0) ≤ a0 then none else
  (if a1 < 0 ∨ (nI 32) ≤ a1 then none else
  (fX7_isPending a0 (σ 0)).bind fun x1 =>
  (if x1 = 0 then
  fX8_read_j36 a0 a1 (nI 1) σ
  else
  fX8_read_j36 a0 a1 (nI 0) σ)))
def fX8_tear_j60  (y2 : Int32) (w0 : Int32) (w1 : Int32) (σ : cSt) : Option (Int32 × cSt) :=
  c_b1 σ 0 (fX1_tearOut w1 w0 (σ 0)) fun σ4 =>
  some (y2, σ4)
def fX8_tear (a0 : Int32) (σ : cSt) : Option (Int32 × cSt) :=
  (if a0 < 0 ∨ (nI 32) ≤ a0 then none else
  (fX1_hasPage a0 (σ 0)).bind fun x1 =>
  (if x1 = 0 then none else
  (fX2_save  σ).bind fun σ2 =>
  (fX0_countOf a0 (σ2 0)).bind fun x3 =>
  (if x3 ≤ 0 then
  fX8_tear_j60 x3 (nI 0) a0 σ2
  else
  fX8_tear_j60 x3 (nI 1) a0 σ2)))
def fX8_undo_j15  (w0 : Int32) (σ : cSt) : Option (Int32 × cSt) :=
  (if w0 = 0 then none else
  (fX2_restore  σ).bind fun σ1 =>
  some (σ1 7 1 0, σ1))
def fX8_undo (σ : cSt) : Option (Int32 × cSt) :=
  (if (σ 7 1 0) ≤ 0 then
  fX8_undo_j15 (nI 0) σ
  else
  fX8_undo_j15 (nI 1) σ)
def fX8_value (a0 : Int32) (σ : cSt) : Option (Int32) :=
  (if a0 < (nI 0) ∨ (nI 13) < a0 then none else
  (fX4_number a0 (σ 0)).bind fun x1 =>
  some x1)
def fX8_write_j44  (y1 : Int32) (y2 : Int32) (y3 : Int32) (w0 : Int32) (σ : cSt) : Option (Int32 × cSt) :=
  (if w0 = 0 then none else
  (fX2_save  σ).bind fun σ2 =>
  c_b1 σ2 0 (fX7_ask y1 y2 y3 (σ2 0)) fun σ3 =>
  (fX4_isHit y1 y2 (nI 1) (σ3 0)).bind fun x4 =>
  (if x4 = 0 then
  some (nI 0, σ3)
  else
  some (nI 1, σ3)))
def fX8_write (a0 : Int32) (a1 : Int32) (a2 : Int32) (σ : cSt) : Option (Int32 × cSt) :=
  (if a0 < 0 ∨ (σ 0 19 0) ≤ a0 then none else
  (if a1 < 0 ∨ (nI 32) ≤ a1 then none else
  (if a2 < (nI 0) ∨ (nI 999) < a2 then none else
  (fX7_isPending a0 (σ 0)).bind fun x1 =>
  (if x1 = 0 then
  fX8_write_j44 a0 a1 a2 (nI 1) σ
  else
  fX8_write_j44 a0 a1 a2 (nI 0) σ))))
