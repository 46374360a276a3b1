/-! a machine, method by method, as partial functions that follow its bytecode (by wip/tools/gworld.py) -/
def fJ6_bitCount_0f7a4 (a0 : Int32) (σ : zSt) : Option (Int32) :=
  some ((((((((a0 - (((a0.toUInt32 >>> ((nI 1).toUInt32 &&& Int32.toUInt32 31)).toInt32) &&& (nI 1431655765))) &&& (nI 858993459)) + ((((a0 - (((a0.toUInt32 >>> ((nI 1).toUInt32 &&& Int32.toUInt32 31)).toInt32) &&& (nI 1431655765))).toUInt32 >>> ((nI 2).toUInt32 &&& Int32.toUInt32 31)).toInt32) &&& (nI 858993459))) + (((((a0 - (((a0.toUInt32 >>> ((nI 1).toUInt32 &&& Int32.toUInt32 31)).toInt32) &&& (nI 1431655765))) &&& (nI 858993459)) + ((((a0 - (((a0.toUInt32 >>> ((nI 1).toUInt32 &&& Int32.toUInt32 31)).toInt32) &&& (nI 1431655765))).toUInt32 >>> ((nI 2).toUInt32 &&& Int32.toUInt32 31)).toInt32) &&& (nI 858993459))).toUInt32 >>> ((nI 4).toUInt32 &&& Int32.toUInt32 31)).toInt32)) &&& (nI 252645135)) + (((((((a0 - (((a0.toUInt32 >>> ((nI 1).toUInt32 &&& Int32.toUInt32 31)).toInt32) &&& (nI 1431655765))) &&& (nI 858993459)) + ((((a0 - (((a0.toUInt32 >>> ((nI 1).toUInt32 &&& Int32.toUInt32 31)).toInt32) &&& (nI 1431655765))).toUInt32 >>> ((nI 2).toUInt32 &&& Int32.toUInt32 31)).toInt32) &&& (nI 858993459))) + (((((a0 - (((a0.toUInt32 >>> ((nI 1).toUInt32 &&& Int32.toUInt32 31)).toInt32) &&& (nI 1431655765))) &&& (nI 858993459)) + ((((a0 - (((a0.toUInt32 >>> ((nI 1).toUInt32 &&& Int32.toUInt32 31)).toInt32) &&& (nI 1431655765))).toUInt32 >>> ((nI 2).toUInt32 &&& Int32.toUInt32 31)).toInt32) &&& (nI 858993459))).toUInt32 >>> ((nI 4).toUInt32 &&& Int32.toUInt32 31)).toInt32)) &&& (nI 252645135)).toUInt32 >>> ((nI 8).toUInt32 &&& Int32.toUInt32 31)).toInt32)) + ((((((((a0 - (((a0.toUInt32 >>> ((nI 1).toUInt32 &&& Int32.toUInt32 31)).toInt32) &&& (nI 1431655765))) &&& (nI 858993459)) + ((((a0 - (((a0.toUInt32 >>> ((nI 1).toUInt32 &&& Int32.toUInt32 31)).toInt32) &&& (nI 1431655765))).toUInt32 >>> ((nI 2).toUInt32 &&& Int32.toUInt32 31)).toInt32) &&& (nI 858993459))) + (((((a0 - (((a0.toUInt32 >>> ((nI 1).toUInt32 &&& Int32.toUInt32 31)).toInt32) &&& (nI 1431655765))) &&& (nI 858993459)) + ((((a0 - (((a0.toUInt32 >>> ((nI 1).toUInt32 &&& Int32.toUInt32 31)).toInt32) &&& (nI 1431655765))).toUInt32 >>> ((nI 2).toUInt32 &&& Int32.toUInt32 31)).toInt32) &&& (nI 858993459))).toUInt32 >>> ((nI 4).toUInt32 &&& Int32.toUInt32 31)).toInt32)) &&& (nI 252645135)) + (((((((a0 - (((a0.toUInt32 >>> ((nI 1).toUInt32 &&& Int32.toUInt32 31)).toInt32) &&& (nI 1431655765))) &&& (nI 858993459)) + ((((a0 - (((a0.toUInt32 >>> ((nI 1).toUInt32 &&& Int32.toUInt32 31)).toInt32) &&& (nI 1431655765))).toUInt32 >>> ((nI 2).toUInt32 &&& Int32.toUInt32 31)).toInt32) &&& (nI 858993459))) + (((((a0 - (((a0.toUInt32 >>> ((nI 1).toUInt32 &&& Int32.toUInt32 31)).toInt32) &&& (nI 1431655765))) &&& (nI 858993459)) + ((((a0 - (((a0.toUInt32 >>> ((nI 1).toUInt32 &&& Int32.toUInt32 31)).toInt32) &&& (nI 1431655765))).toUInt32 >>> ((nI 2).toUInt32 &&& Int32.toUInt32 31)).toInt32) &&& (nI 858993459))).toUInt32 >>> ((nI 4).toUInt32 &&& Int32.toUInt32 31)).toInt32)) &&& (nI 252645135)).toUInt32 >>> ((nI 8).toUInt32 &&& Int32.toUInt32 31)).toInt32)).toUInt32 >>> ((nI 16).toUInt32 &&& Int32.toUInt32 31)).toInt32)) &&& (nI 63))
def fX0_add (a0 : Int32) (a1 : Int32) (a2 : Int32) (a3 : Int32) (σ : zSt) : Option (zSt) :=
  (z_sg σ 2 192 ((a0 * (nI 32)) + a1) (nI 1)).bind fun σ1 =>
  (z_sg σ1 3 192 ((a0 * (nI 32)) + a1) a2).bind fun σ2 =>
  (z_sg σ2 4 192 ((a0 * (nI 32)) + a1) a3).bind fun σ3 =>
  some σ3
def fX0_countOf_l4 (σ : zSt) (K4 : Int32 → Option (Int32)) : Nat → Int32 → Int32 → Int32 → Option (Int32)
  | 0, _, _, _ => none
  | n + 1, y1, y2, y3 =>
  (if (nI 6) ≤ y3 then
  K4 y2
  else
  (z_ag (σ 2) 192 ((y3 * (nI 32)) + y1)).bind fun x1 =>
  (if x1 = 0 then
  (fX0_countOf_l4 σ K4 n) y1 y2 (y3 + nI 1)
  else
  (fX0_countOf_l4 σ K4 n) y1 (y2 + nI 1) (y3 + nI 1)))
def fX0_countOf (a0 : Int32) (σ : zSt) : Option (Int32) :=
  fX0_countOf_l4 σ (fun x2 => some x2) z_fu a0 (nI 0) (nI 0)
def fX0_usedLater_l18 (σ : zSt) (K18 : Int32 → Option (Int32)) : Nat → Int32 → Int32 → Int32 → Int32 → Option (Int32)
  | 0, _, _, _, _ => none
  | n + 1, y1, y3, y4, y5 =>
  (if (nI 32) ≤ y5 then
  K18 y4
  else
  (z_ag (σ 2) 192 ((y1 * (nI 32)) + y5)).bind fun x2 =>
  (if x2 = 0 then
  (fX0_usedLater_l18 σ K18 n) y1 y3 y4 (y5 + nI 1)
  else
  (z_ag (σ 5) 192 ((y1 * (nI 32)) + y5)).bind fun x3 =>
  (if x3 ≤ y3 then
  (fX0_usedLater_l18 σ K18 n) y1 y3 y4 (y5 + nI 1)
  else
  (fX0_usedLater_l18 σ K18 n) y1 y3 (y4 + nI 1) (y5 + nI 1))))
def fX0_usedLater (a0 : Int32) (a1 : Int32) (σ : zSt) : Option (Int32) :=
  (z_ag (σ 5) 192 ((a0 * (nI 32)) + a1)).bind fun x1 =>
  fX0_usedLater_l18 σ (fun x4 => some x4) z_fu a0 x1 (nI 0) (nI 0)
def fX0_fact (a0 : Int32) (a1 : Int32) (a2 : Int32) (σ : zSt) : Option (Int32) :=
  (if a2 = 0 then
  (z_ag (σ 2) 192 ((a0 * (nI 32)) + a1)).bind fun x5 =>
  some x5
  else
  (z_ag (σ 2) 192 ((a0 * (nI 32)) + a1)).bind fun x1 =>
  (if x1 = 0 then
  some (-1)
  else
  (if a2 = nI 1 then
  (z_ag (σ 3) 192 ((a0 * (nI 32)) + a1)).bind fun x2 =>
  some x2
  else
  (if a2 = nI 2 then
  (z_ag (σ 4) 192 ((a0 * (nI 32)) + a1)).bind fun x3 =>
  some x3
  else
  (fX0_usedLater a0 a1 σ).bind fun x4 =>
  some x4))))
def fX0_freeSlot_l5 (σ : zSt) (K5 : Int32 → Int32 → Option (Int32)) : Nat → Int32 → Int32 → Int32 → Int32 → Option (Int32)
  | 0, _, _, _, _ => none
  | n + 1, y1, y2, y3, y4 =>
  (if (nI 32) ≤ y4 then
  K5 y2 y3
  else
  (z_ag (σ 2) 192 ((y1 * (nI 32)) + y4)).bind fun x1 =>
  (if x1 = 0 then
  (fX0_freeSlot_l5 σ K5 n) y1 y2 y3 (y4 + nI 1)
  else
  (z_ag (σ 4) 192 ((y1 * (nI 32)) + y4)).bind fun x2 =>
  (fX0_freeSlot_l5 σ K5 n) y1 y2 (y3 ||| ((nI 1) <<< (x2 &&& 31))) (y4 + nI 1)))
def fX0_freeSlot_l53 (σ : zSt) (K53 : Option (Int32)) : Nat → Int32 → Int32 → Int32 → Option (Int32)
  | 0, _, _, _ => none
  | n + 1, y2, y3, y4 =>
  (if y2 ≤ y4 then
  K53
  else
  (if ((y3 >>> (y4 &&& 31)) &&& (nI 1)) = 0 then
  some y4
  else
  (fX0_freeSlot_l53 σ K53 n) y2 y3 (y4 + nI 1)))
def fX0_freeSlot (a0 : Int32) (a1 : Int32) (σ : zSt) : Option (Int32) :=
  fX0_freeSlot_l5 σ (fun x3 x4 => fX0_freeSlot_l53 σ (some (-1)) z_fu x3 x4 (nI 0)) z_fu a0 a1 (nI 0) (nI 0)
def fX0_kindOf (a0 : Int32) (a1 : Int32) (σ : zSt) : Option (Int32) :=
  (z_ag (σ 2) 192 ((a0 * (nI 32)) + a1)).bind fun x1 =>
  some x1
def fX0_leastUsed_j49 (σ : zSt) (C7 : Int32 → Int32 → Int32 → Int32 → Option (Int32)) (y1 : Int32) (y4 : Int32) (y5 : Int32) : Option (Int32) :=
  (z_ag (σ 5) 192 y5).bind fun x2 =>
  C7 y1 y4 x2 (y4 + nI 1)
def fX0_leastUsed_l7 (σ : zSt) (K7 : Int32 → Option (Int32)) : Nat → Int32 → Int32 → Int32 → Int32 → Option (Int32)
  | 0, _, _, _, _ => none
  | n + 1, y1, y2, y3, y4 =>
  (if (nI 32) ≤ y4 then
  K7 y2
  else
  (z_ag (σ 2) 192 ((y1 * (nI 32)) + y4)).bind fun x1 =>
  (if x1 = 0 then
  (fX0_leastUsed_l7 σ K7 n) y1 y2 y3 (y4 + nI 1)
  else
  (if y2 = (-1) then
  fX0_leastUsed_j49 σ (fX0_leastUsed_l7 σ K7 n) y1 y4 ((y1 * (nI 32)) + y4)
  else
  (z_ag (σ 5) 192 ((y1 * (nI 32)) + y4)).bind fun x3 =>
  (if y3 ≤ x3 then
  (fX0_leastUsed_l7 σ K7 n) y1 y2 y3 (y4 + nI 1)
  else
  fX0_leastUsed_j49 σ (fX0_leastUsed_l7 σ K7 n) y1 y4 ((y1 * (nI 32)) + y4)))))
def fX0_leastUsed (a0 : Int32) (σ : zSt) : Option (Int32) :=
  fX0_leastUsed_l7 σ (fun x4 => some x4) z_fu a0 (-1) (nI 0) (nI 0)
def fX0_own (a0 : Int32) (a1 : Int32) (a2 : Int32) (σ : zSt) : Option (zSt) :=
  (z_sg σ 2 192 ((a0 * (nI 32)) + a1) (nI 2)).bind fun σ1 =>
  (z_sg σ1 3 192 ((a0 * (nI 32)) + a1) a2).bind fun σ2 =>
  some σ2
def fX0_ownerOf_l2 (σ : zSt) (K2 : Option (Int32)) : Nat → Int32 → Int32 → Option (Int32)
  | 0, _, _ => none
  | n + 1, y1, y2 =>
  (if (nI 6) ≤ y2 then
  K2
  else
  (z_ag (σ 2) 192 ((y2 * (nI 32)) + y1)).bind fun x1 =>
  (if x1 = (nI 2) then
  some y2
  else
  (fX0_ownerOf_l2 σ K2 n) y1 (y2 + nI 1)))
def fX0_ownerOf (a0 : Int32) (σ : zSt) : Option (Int32) :=
  fX0_ownerOf_l2 σ (some (-1)) z_fu a0 (nI 0)
def fX0_remove (a0 : Int32) (a1 : Int32) (σ : zSt) : Option (zSt) :=
  (z_sg σ 2 192 ((a0 * (nI 32)) + a1) (nI 0)).bind fun σ1 =>
  some σ1
def fX0_removeAll (σ : zSt) : Option (zSt) :=
  (z_fl σ 2 192 (nI 0)).bind fun σ1 =>
  (z_sf σ1 11 (nI 0)).bind fun σ2 =>
  some σ2
def fX0_removeOthers_l2 (K2 : zSt → Option (zSt)) : Nat → Int32 → Int32 → Int32 → zSt → Option (zSt)
  | 0, _, _, _, _ => none
  | n + 1, y1, y2, y3, σ =>
  (if (nI 6) ≤ y3 then
  K2 σ
  else
  (if y3 = y1 then
  (fX0_removeOthers_l2 K2 n) y1 y2 (y3 + nI 1) σ
  else
  (z_sg σ 2 192 ((y3 * (nI 32)) + y2) (nI 0)).bind fun σ1 =>
  (fX0_removeOthers_l2 K2 n) y1 y2 (y3 + nI 1) σ1))
def fX0_removeOthers (a0 : Int32) (a1 : Int32) (σ : zSt) : Option (zSt) :=
  fX0_removeOthers_l2 (fun σ2 => some σ2) z_fu a0 a1 (nI 0) σ
def fX0_share (a0 : Int32) (a1 : Int32) (σ : zSt) : Option (zSt) :=
  (z_sg σ 2 192 ((a0 * (nI 32)) + a1) (nI 1)).bind fun σ1 =>
  some σ1
def fX0_sharersOf_l4 (σ : zSt) (K4 : Int32 → Option (Int32)) : Nat → Int32 → Int32 → Int32 → Option (Int32)
  | 0, _, _, _ => none
  | n + 1, y1, y2, y3 =>
  (if (nI 6) ≤ y3 then
  K4 y2
  else
  (z_ag (σ 2) 192 ((y3 * (nI 32)) + y1)).bind fun x1 =>
  (if x1 = (nI 1) then
  (fX0_sharersOf_l4 σ K4 n) y1 (y2 ||| ((nI 1) <<< (y3 &&& 31))) (y3 + nI 1)
  else
  (fX0_sharersOf_l4 σ K4 n) y1 y2 (y3 + nI 1)))
def fX0_sharersOf (a0 : Int32) (σ : zSt) : Option (Int32) :=
  fX0_sharersOf_l4 σ (fun x2 => some x2) z_fu a0 (nI 0) (nI 0)
def fX0_use (a0 : Int32) (a1 : Int32) (σ : zSt) : Option (zSt) :=
  (z_sf σ 11 ((σ 11 0) + (nI 1))).bind fun σ1 =>
  (z_sg σ1 5 192 ((a0 * (nI 32)) + a1) (σ1 11 0)).bind fun σ2 =>
  some σ2
def fX0_valueOf (a0 : Int32) (a1 : Int32) (σ : zSt) : Option (Int32) :=
  (z_ag (σ 3) 192 ((a0 * (nI 32)) + a1)).bind fun x1 =>
  some x1
def fX1_empty (a0 : Int32) (σ : zSt) : Option (zSt) :=
  (z_fl σ 6 32 (nI 0)).bind fun σ1 =>
  (z_sf σ1 12 (nI 0)).bind fun σ2 =>
  (z_sf σ2 13 (nI 0)).bind fun σ3 =>
  (z_sf σ3 14 a0).bind fun σ4 =>
  (z_sf σ4 15 (nI 0)).bind fun σ5 =>
  (z_sf σ5 16 (nI 0)).bind fun σ6 =>
  (z_sf σ6 17 (nI 0)).bind fun σ7 =>
  some σ7
def fX1_hasPage (a0 : Int32) (σ : zSt) : Option (Int32) :=
  (z_ag (σ 6) 32 a0).bind fun x1 =>
  (if x1 ≤ 0 then
  z_bz (nI 0)
  else
  z_bz (nI 1))
def fX1_isMarked (a0 : Int32) (σ : zSt) : Option (Int32) :=
  (if (((σ 13 0) >>> (a0 &&& 31)) &&& (nI 1)) = 0 then
  z_bz (nI 0)
  else
  z_bz (nI 1))
def fX1_lineToTear_j49 (σ : zSt) (C19 : Int32 → Int32 → Int32 → Option (Int32)) (y3 : Int32) : Option (Int32) :=
  (z_ag (σ 6) 32 y3).bind fun x2 =>
  C19 y3 x2 (y3 + nI 1)
def fX1_lineToTear_l19 (σ : zSt) (K19 : Int32 → Option (Int32)) : Nat → Int32 → Int32 → Int32 → Option (Int32)
  | 0, _, _, _ => none
  | n + 1, y1, y2, y3 =>
  (if (nI 32) ≤ y3 then
  K19 y1
  else
  (z_ag (σ 6) 32 y3).bind fun x1 =>
  (if x1 ≤ 0 then
  (fX1_lineToTear_l19 σ K19 n) y1 y2 (y3 + nI 1)
  else
  (if y1 = (-1) then
  fX1_lineToTear_j49 σ (fX1_lineToTear_l19 σ K19 n) y3
  else
  (z_ag (σ 6) 32 y3).bind fun x3 =>
  (if y2 ≤ x3 then
  (fX1_lineToTear_l19 σ K19 n) y1 y2 (y3 + nI 1)
  else
  fX1_lineToTear_j49 σ (fX1_lineToTear_l19 σ K19 n) y3))))
def fX1_lineToTear (σ : zSt) : Option (Int32) :=
  (if (σ 14 0) ≤ (σ 15 0) then
  fX1_lineToTear_l19 σ (fun x4 => some x4) z_fu (-1) (nI 0) (nI 0)
  else
  some (-1))
def fX1_use (a0 : Int32) (σ : zSt) : Option (zSt) :=
  (z_sf σ 12 ((σ 12 0) + (nI 1))).bind fun σ1 =>
  (z_sg σ1 6 32 a0 (σ1 12 0)).bind fun σ2 =>
  some σ2
def fX1_makePage_j32  (y1 : Int32) (σ : zSt) : Option (zSt) :=
  (z_sf σ 15 ((σ 15 0) + (nI 1))).bind fun σ2 =>
  (fX1_use y1 σ2).bind fun σ3 =>
  some σ3
def fX1_makePage (a0 : Int32) (σ : zSt) : Option (zSt) :=
  (fX1_isMarked a0 σ).bind fun x1 =>
  (if x1 = 0 then
  fX1_makePage_j32 a0 σ
  else
  (z_sf σ 16 ((σ 16 0) + (nI 1))).bind fun σ4 =>
  (z_sf σ4 13 ((σ4 13 0) &&& (((nI 1) <<< (a0 &&& 31)) ^^^ (-1)))).bind fun σ5 =>
  fX1_makePage_j32 a0 σ5)
def fX1_tearOut (a0 : Int32) (a1 : Int32) (σ : zSt) : Option (zSt) :=
  (z_sg σ 6 32 a0 (nI 0)).bind fun σ1 =>
  (z_sf σ1 15 ((σ1 15 0) - (nI 1))).bind fun σ2 =>
  (z_sf σ2 17 ((σ2 17 0) + (nI 1))).bind fun σ3 =>
  (if a1 = 0 then
  some σ3
  else
  (z_sf σ3 13 ((σ3 13 0) ||| ((nI 1) <<< (a0 &&& 31)))).bind fun σ4 =>
  some σ4)
def fX3_add_l9 (K9 : Int32 → Int32 → Int32 → Int32 → Int32 → Int32 → zSt → Option (zSt)) : Nat → Int32 → Int32 → Int32 → Int32 → Int32 → Int32 → Int32 → zSt → Option (zSt)
  | 0, _, _, _, _, _, _, _, _ => none
  | n + 1, y1, y2, y3, y4, y5, y6, y7, σ =>
  (if y7 < (nI 6) then
  K9 y1 y2 y3 y4 y5 y6 σ
  else
  (z_ag (σ 10) 72 (y7 - (nI 6))).bind fun x1 =>
  (z_sg σ 10 72 y7 x1).bind fun σ2 =>
  (fX3_add_l9 K9 n) y1 y2 y3 y4 y5 y6 (y7 + (-1)) σ2)
def fX3_add (a0 : Int32) (a1 : Int32) (a2 : Int32) (a3 : Int32) (a4 : Int32) (a5 : Int32) (σ : zSt) : Option (zSt) :=
  fX3_add_l9 (fun x3 x4 x5 x6 x7 x8 σ9 => (z_sg σ9 10 72 (nI 0) x3).bind fun σ10 =>
  (z_sg σ10 10 72 (nI 1) x4).bind fun σ11 =>
  (z_sg σ11 10 72 (nI 2) x5).bind fun σ12 =>
  (z_sg σ12 10 72 (nI 3) x6).bind fun σ13 =>
  (z_sg σ13 10 72 (nI 4) x7).bind fun σ14 =>
  (z_sg σ14 10 72 (nI 5) x8).bind fun σ15 =>
  (if (nI 12) ≤ (σ15 18 0) then
  some σ15
  else
  (z_sf σ15 18 ((σ15 18 0) + (nI 1))).bind fun σ16 =>
  some σ16)) z_fu a0 a1 a2 a3 a4 a5 ((nI 72) - (nI 1)) σ
def fX3_fact (a0 : Int32) (a1 : Int32) (σ : zSt) : Option (Int32) :=
  (z_ag (σ 10) 72 ((a0 * (nI 6)) + a1)).bind fun x1 =>
  some x1
def fX4_bringBack (a0 : Int32) (a1 : Int32) (σ : zSt) : Option (zSt) :=
  (fX0_valueOf a0 a1 σ).bind fun x1 =>
  (z_sg σ 0 32 a1 x1).bind fun σ2 =>
  (z_sf σ2 26 ((σ2 26 0) + (nI 1))).bind fun σ3 =>
  some σ3
def fX4_isHit (a0 : Int32) (a1 : Int32) (a2 : Int32) (σ : zSt) : Option (Int32) :=
  (fX0_kindOf a0 a1 σ).bind fun x1 =>
  (if a2 = 0 then
  (if x1 = 0 then
  z_bz (nI 0)
  else
  z_bz (nI 1))
  else
  (if x1 = (nI 2) then
  z_bz (nI 1)
  else
  z_bz (nI 0)))
def fX4_lineToDrop (a0 : Int32) (σ : zSt) : Option (Int32) :=
  (fX0_freeSlot a0 (σ 20 0) σ).bind fun x1 =>
  (if x1 = (-1) then
  (fX0_leastUsed a0 σ).bind fun x2 =>
  some x2
  else
  some (-1))
def fX4_costOf_j87 (σ : zSt) (y1 : Int32) (y2 : Int32) (y4 : Int32) : Option (Int32) :=
  (fX0_kindOf y1 y2 σ).bind fun x4 =>
  (if x4 = 0 then
  (fX4_lineToDrop y1 σ).bind fun x5 =>
  (if x5 = (-1) then
  some y4
  else
  (fX0_kindOf y1 x5 σ).bind fun x6 =>
  (if x6 = (nI 2) then
  some (y4 + nI 1)
  else
  some y4))
  else
  some y4)
def fX4_costOf_j61 (σ : zSt) (y1 : Int32) (y2 : Int32) (y3 : Int32) (y4 : Int32) : Option (Int32) :=
  (if y3 = 0 then
  fX4_costOf_j87 σ y1 y2 y4
  else
  (fX0_sharersOf y2 σ).bind fun x7 =>
  (fJ6_bitCount_0f7a4 (x7 &&& (((nI 1) <<< (y1 &&& 31)) ^^^ (-1))) σ).bind fun x8 =>
  fX4_costOf_j87 σ y1 y2 (y4 + x8))
def fX4_costOf_j44 (σ : zSt) (y1 : Int32) (y2 : Int32) (y3 : Int32) (w0 : Int32) : Option (Int32) :=
  (fX0_ownerOf y2 σ).bind fun x3 =>
  (if x3 = (-1) then
  fX4_costOf_j61 σ y1 y2 y3 w0
  else
  fX4_costOf_j61 σ y1 y2 y3 (w0 + nI 2))
def fX4_costOf_j43 (σ : zSt) (y1 : Int32) (y2 : Int32) (y3 : Int32) : Option (Int32) :=
  fX4_costOf_j44 σ y1 y2 y3 (nI 1)
def fX4_costOf (a0 : Int32) (a1 : Int32) (a2 : Int32) (σ : zSt) : Option (Int32) :=
  (fX4_isHit a0 a1 a2 σ).bind fun x1 =>
  (if x1 = 0 then
  (fX1_hasPage a1 σ).bind fun x2 =>
  (if x2 = 0 then
  (fX1_isMarked a1 σ).bind fun x9 =>
  (if x9 = 0 then
  fX4_costOf_j43 σ a0 a1 a2
  else
  fX4_costOf_j44 σ a0 a1 a2 ((σ 19 0) - (nI 1)))
  else
  fX4_costOf_j43 σ a0 a1 a2)
  else
  some (nI 0))
def fX4_makeRoomInDiary_j34  (w0 : Int32) (w1 : Int32) (σ : zSt) : Option (zSt) :=
  (fX1_tearOut w1 w0 σ).bind fun σ3 =>
  some σ3
def fX4_makeRoomInDiary (σ : zSt) : Option (zSt) :=
  (fX1_lineToTear  σ).bind fun x1 =>
  (if x1 = (-1) then
  some σ
  else
  (fX0_countOf x1 σ).bind fun x2 =>
  (if x2 ≤ 0 then
  fX4_makeRoomInDiary_j34 (nI 0) x1 σ
  else
  fX4_makeRoomInDiary_j34 (nI 1) x1 σ))
def fX4_throwAway_j19  (y1 : Int32) (y2 : Int32) (σ : zSt) : Option (zSt) :=
  (fX0_remove y1 y2 σ).bind fun σ2 =>
  some σ2
def fX4_throwAway (a0 : Int32) (a1 : Int32) (σ : zSt) : Option (zSt) :=
  (fX0_kindOf a0 a1 σ).bind fun x1 =>
  (if x1 = (nI 2) then
  (fX4_bringBack a0 a1 σ).bind fun σ3 =>
  fX4_throwAway_j19 a0 a1 σ3
  else
  fX4_throwAway_j19 a0 a1 σ)
def fX4_fetch_j128  (y2 : Int32) (σ : zSt) : Option (zSt) :=
  (fX1_use y2 σ).bind fun σ4 =>
  some σ4
def fX4_fetch_j101  (y1 : Int32) (y2 : Int32) (σ : zSt) : Option (zSt) :=
  (z_ag (σ 0) 32 y2).bind fun x6 =>
  (fX0_freeSlot y1 (σ 20 0) σ).bind fun x7 =>
  (fX0_add y1 y2 x6 x7 σ).bind fun σ8 =>
  fX4_fetch_j128 y2 σ8
def fX4_fetch_j69  (y1 : Int32) (y2 : Int32) (σ : zSt) : Option (zSt) :=
  (fX0_kindOf y1 y2 σ).bind fun x3 =>
  (if x3 = 0 then
  (fX4_lineToDrop y1 σ).bind fun x5 =>
  (if x5 = (-1) then
  fX4_fetch_j101 y1 y2 σ
  else
  (fX4_throwAway y1 x5 σ).bind fun σ9 =>
  fX4_fetch_j101 y1 y2 σ9)
  else
  fX4_fetch_j128 y2 σ)
def fX4_fetch_j56  (y1 : Int32) (y2 : Int32) (y3 : Int32) (σ : zSt) : Option (zSt) :=
  (if y3 = 0 then
  fX4_fetch_j69 y1 y2 σ
  else
  (fX0_removeOthers y1 y2 σ).bind fun σ10 =>
  fX4_fetch_j69 y1 y2 σ10)
def fX4_fetch_j23  (y1 : Int32) (y2 : Int32) (y3 : Int32) (σ : zSt) : Option (zSt) :=
  (fX0_ownerOf y2 σ).bind fun x2 =>
  (if x2 = (-1) then
  fX4_fetch_j56 y1 y2 y3 σ
  else
  (fX4_bringBack x2 y2 σ).bind fun σ11 =>
  (fX0_share x2 y2 σ11).bind fun σ12 =>
  fX4_fetch_j56 y1 y2 y3 σ12)
def fX4_fetch (a0 : Int32) (a1 : Int32) (a2 : Int32) (σ : zSt) : Option (zSt) :=
  (fX1_hasPage a1 σ).bind fun x1 =>
  (if x1 = 0 then
  (fX4_makeRoomInDiary  σ).bind fun σ13 =>
  (fX1_makePage a1 σ13).bind fun σ14 =>
  fX4_fetch_j23 a0 a1 a2 σ14
  else
  fX4_fetch_j23 a0 a1 a2 σ)
def fX4_hasTimeFor (a0 : Int32) (σ : zSt) : Option (Int32) :=
  (if ((nI 100000) - (σ 21 0)) < a0 then
  z_bz (nI 0)
  else
  z_bz (nI 1))
def fX7_count_l4 (σ : zSt) (K4 : Int32 → Option (Int32)) : Nat → Int32 → Int32 → Option (Int32)
  | 0, _, _ => none
  | n + 1, y1, y2 =>
  (if (nI 6) ≤ y2 then
  K4 y1
  else
  (z_ag (σ 7) 6 y2).bind fun x1 =>
  (if x1 = (-1) then
  (fX7_count_l4 σ K4 n) y1 (y2 + nI 1)
  else
  (fX7_count_l4 σ K4 n) (y1 + nI 1) (y2 + nI 1)))
def fX7_count (σ : zSt) : Option (Int32) :=
  fX7_count_l4 σ (fun x2 => some x2) z_fu (nI 0) (nI 0)
def fX7_isPending (a0 : Int32) (σ : zSt) : Option (Int32) :=
  (z_ag (σ 7) 6 a0).bind fun x1 =>
  (if x1 = (-1) then
  z_bz (nI 0)
  else
  z_bz (nI 1))
def fX7_isWrite (a0 : Int32) (σ : zSt) : Option (Int32) :=
  (z_ag (σ 8) 6 a0).bind fun x1 =>
  (if x1 = (-1) then
  z_bz (nI 0)
  else
  z_bz (nI 1))
def fX7_forget (a0 : Int32) (σ : zSt) : Option (zSt) :=
  (z_sg σ 7 6 a0 (-1)).bind fun σ1 =>
  some σ1
def fX4_serve_j129  (y1 : Int32) (y2 : Int32) (y5 : Int32) (w0 : Int32) (w1 : Int32) (w2 : Int32) (σ : zSt) : Option (zSt) :=
  (fX0_valueOf y1 y2 σ).bind fun x7 =>
  (fX3_add w2 w1 w0 x7 y5 (σ 21 0) σ).bind fun σ8 =>
  (fX7_forget y1 σ8).bind fun σ9 =>
  some σ9
def fX4_serve_j104  (y1 : Int32) (y2 : Int32) (y4 : Int32) (y5 : Int32) (σ : zSt) : Option (zSt) :=
  (fX0_use y1 y2 σ).bind fun σ6 =>
  (if y4 = 0 then
  fX4_serve_j129 y1 y2 y5 (nI 0) y2 y1 σ6
  else
  fX4_serve_j129 y1 y2 y5 (nI 1) y2 y1 σ6)
def fX4_serve_j66  (y1 : Int32) (y2 : Int32) (y4 : Int32) (y5 : Int32) (σ : zSt) : Option (zSt) :=
  (if y4 = 0 then
  fX4_serve_j104 y1 y2 y4 y5 σ
  else
  (z_ag (σ 8) 6 y1).bind fun x10 =>
  (fX0_own y1 y2 x10 σ).bind fun σ11 =>
  (z_ag (σ11 8) 6 y1).bind fun x12 =>
  (z_sg σ11 1 32 y2 x12).bind fun σ13 =>
  fX4_serve_j104 y1 y2 y4 y5 σ13)
def fX4_serve (a0 : Int32) (a1 : Int32) (a2 : Int32) (σ : zSt) : Option (zSt) :=
  (fX7_isWrite a0 σ).bind fun x1 =>
  (fX4_costOf a0 a1 x1 σ).bind fun x2 =>
  (z_sf σ 22 ((σ 22 0) + x2)).bind fun σ3 =>
  (if a2 = 0 then
  (z_sf σ3 24 ((σ3 24 0) + (nI 1))).bind fun σ4 =>
  (fX4_fetch a0 a1 x1 σ4).bind fun σ5 =>
  fX4_serve_j66 a0 a1 x1 x2 σ5
  else
  (z_sf σ3 23 ((σ3 23 0) + (nI 1))).bind fun σ14 =>
  fX4_serve_j66 a0 a1 x1 x2 σ14)
def fX4_tick_j165  (C28 : Int32 → Int32 → Int32 → Int32 → zSt → Option (Int32 × zSt)) (y1 : Int32) (y2 : Int32) (y3 : Int32) (y4 : Int32) (y5 : Int32) (y6 : Int32) (y7 : Int32) (σ : zSt) : Option (Int32 × zSt) :=
  (fX4_serve y5 y6 y7 σ).bind fun σ5 =>
  C28 y1 y2 (y3 + nI 1) (y4 + nI 1) σ5
def fX4_tick_j153  (C28 : Int32 → Int32 → Int32 → Int32 → zSt → Option (Int32 × zSt)) (y1 : Int32) (y2 : Int32) (y3 : Int32) (y4 : Int32) (y5 : Int32) (y6 : Int32) (y7 : Int32) (σ : zSt) : Option (Int32 × zSt) :=
  (if y7 = 0 then
  fX4_tick_j165 C28 y1 (y2 ||| ((nI 1) <<< (y6 &&& 31))) y3 y4 y5 y6 y7 σ
  else
  fX4_tick_j165 C28 y1 y2 y3 y4 y5 y6 y7 σ)
def fX4_tick_j64  (C28 : Int32 → Int32 → Int32 → Int32 → zSt → Option (Int32 × zSt)) (y1 : Int32) (y2 : Int32) (y3 : Int32) (y4 : Int32) (w0 : Int32) (σ : zSt) : Option (Int32 × zSt) :=
  (fX7_isPending w0 σ).bind fun x1 =>
  (if x1 = 0 then
  C28 y1 y2 y3 (y4 + nI 1) σ
  else
  (z_ag (σ 7) 6 w0).bind fun x2 =>
  (fX7_isWrite w0 σ).bind fun x3 =>
  (fX4_isHit w0 x2 x3 σ).bind fun x4 =>
  (if x4 = 0 then
  (if ((y2 >>> (x2 &&& 31)) &&& (nI 1)) = 0 then
  fX4_tick_j153 C28 y1 y2 y3 y4 w0 x2 x4 σ
  else
  (z_ag (σ 9) 6 w0).bind fun x6 =>
  (z_sg σ 9 6 w0 (x6 + (nI 1))).bind fun σ7 =>
  (z_sf σ7 25 ((σ7 25 0) + (nI 1))).bind fun σ8 =>
  C28 y1 y2 y3 (y4 + nI 1) σ8)
  else
  fX4_tick_j153 C28 y1 y2 y3 y4 w0 x2 x4 σ))
def fX4_tick_l28 (K28 : Int32 → zSt → Option (Int32 × zSt)) : Nat → Int32 → Int32 → Int32 → Int32 → zSt → Option (Int32 × zSt)
  | 0, _, _, _, _, _ => none
  | n + 1, y1, y2, y3, y4, σ =>
  (if (σ 19 0) ≤ y4 then
  K28 y3 σ
  else
  (if (σ 19 0) ≤ (y1 + y4) then
  fX4_tick_j64 (fX4_tick_l28 K28 n) y1 y2 y3 y4 ((y1 + y4) - (σ 19 0)) σ
  else
  fX4_tick_j64 (fX4_tick_l28 K28 n) y1 y2 y3 y4 (y1 + y4) σ))
def fX4_tick_j20  (w0 : Int32) (σ : zSt) : Option (Int32 × zSt) :=
  fX4_tick_l28 (fun x9 σ10 => (z_sf σ10 21 ((σ10 21 0) + (nI 1))).bind fun σ11 =>
  some (x9, σ11)) z_fu w0 (nI 0) (nI 0) (nI 0) σ
def fX4_tick (σ : zSt) : Option (Int32 × zSt) :=
  (if (σ 19 0) ≤ 0 then
  fX4_tick_j20 (nI 0) σ
  else
  (z_rm (σ 21 0) (σ 19 0)).bind fun x12 =>
  fX4_tick_j20 x12 σ)
def fX4_letPass_l12 (K12 : Int32 → Int32 → zSt → Option (Int32 × zSt)) : Nat → Int32 → Int32 → Int32 → Int32 → zSt → Option (Int32 × zSt)
  | 0, _, _, _, _, _ => none
  | n + 1, y1, y2, y3, y4, σ =>
  (if y1 ≤ y4 then
  K12 y2 y3 σ
  else
  (fX7_count  σ).bind fun x1 =>
  (if x1 ≤ 0 then
  K12 y2 y3 σ
  else
  z_b2 (fX4_tick  σ) fun x2 σ3 =>
  (fX4_letPass_l12 K12 n) y1 y2 (y3 + x2) (y4 + nI 1) σ3))
def fX4_letPass (a0 : Int32) (σ : zSt) : Option (Int32 × zSt) :=
  fX4_letPass_l12 (fun x4 x5 σ6 => (z_sf σ6 21 x4).bind fun σ7 =>
  some (x5, σ7)) z_fu a0 ((σ 21 0) + a0) (nI 0) (nI 0) σ
def fX4_lineFact (a0 : Int32) (a1 : Int32) (σ : zSt) : Option (Int32) :=
  (if a1 = nI 0 then
  (z_ag (σ 0) 32 a0).bind fun x1 =>
  some x1
  else
  (if a1 = nI 1 then
  (z_ag (σ 1) 32 a0).bind fun x2 =>
  some x2
  else
  (if a1 = nI 2 then
  (fX0_ownerOf a0 σ).bind fun x3 =>
  some x3
  else
  (if a1 = nI 3 then
  (fX0_sharersOf a0 σ).bind fun x4 =>
  some x4
  else
  (if a1 = nI 4 then
  (fX1_hasPage a0 σ).bind fun x5 =>
  (if x5 = 0 then
  some (nI 0)
  else
  some (nI 1))
  else
  (if a1 = nI 5 then
  (fX1_hasPage a0 σ).bind fun x6 =>
  (if x6 = 0 then
  some (-1)
  else
  (fX0_ownerOf a0 σ).bind fun x7 =>
  some x7)
  else
  (if a1 = nI 6 then
  (fX1_hasPage a0 σ).bind fun x8 =>
  (if x8 = 0 then
  some (-1)
  else
  (fX0_sharersOf a0 σ).bind fun x9 =>
  some x9)
  else
  (fX1_isMarked a0 σ).bind fun x10 =>
  (if x10 = 0 then
  some (nI 0)
  else
  some (nI 1)))))))))
def fX4_number (a0 : Int32) (σ : zSt) : Option (Int32) :=
  (if a0 = nI 0 then
  some (σ 19 0)
  else
  (if a0 = nI 1 then
  some (σ 20 0)
  else
  (if a0 = nI 2 then
  some (σ 14 0)
  else
  (if a0 = nI 3 then
  some (σ 15 0)
  else
  (if a0 = nI 4 then
  some (σ 21 0)
  else
  (if a0 = nI 5 then
  some (σ 22 0)
  else
  (if a0 = nI 6 then
  some (σ 23 0)
  else
  (if a0 = nI 7 then
  some (σ 24 0)
  else
  (if a0 = nI 8 then
  some (σ 25 0)
  else
  (if a0 = nI 9 then
  some (σ 16 0)
  else
  (if a0 = nI 10 then
  some (σ 17 0)
  else
  (if a0 = nI 11 then
  some (σ 26 0)
  else
  (if a0 = nI 12 then
  (fX7_count  σ).bind fun x1 =>
  some x1
  else
  some (σ 18 0))))))))))))))
def fX7_forgetAll (σ : zSt) : Option (zSt) :=
  (z_fl σ 7 6 (-1)).bind fun σ1 =>
  some σ1
def fX4_startAnew (a0 : Int32) (a1 : Int32) (a2 : Int32) (σ : zSt) : Option (zSt) :=
  (z_fl σ 0 32 (nI 0)).bind fun σ1 =>
  (z_fl σ1 1 32 (nI 0)).bind fun σ2 =>
  (fX0_removeAll  σ2).bind fun σ3 =>
  (fX1_empty a2 σ3).bind fun σ4 =>
  (fX7_forgetAll  σ4).bind fun σ5 =>
  (z_sf σ5 18 (nI 0)).bind fun σ6 =>
  (z_sf σ6 19 a0).bind fun σ7 =>
  (z_sf σ7 20 a1).bind fun σ8 =>
  (z_sf σ8 21 (nI 0)).bind fun σ9 =>
  (z_sf σ9 22 (nI 0)).bind fun σ10 =>
  (z_sf σ10 23 (nI 0)).bind fun σ11 =>
  (z_sf σ11 24 (nI 0)).bind fun σ12 =>
  (z_sf σ12 25 (nI 0)).bind fun σ13 =>
  (z_sf σ13 26 (nI 0)).bind fun σ14 =>
  some σ14
def fX7_ask (a0 : Int32) (a1 : Int32) (a2 : Int32) (σ : zSt) : Option (zSt) :=
  (z_sg σ 7 6 a0 a1).bind fun σ1 =>
  (z_sg σ1 8 6 a0 a2).bind fun σ2 =>
  (z_sg σ2 9 6 a0 (nI 0)).bind fun σ3 =>
  some σ3
def fX7_fact (a0 : Int32) (a1 : Int32) (σ : zSt) : Option (Int32) :=
  (z_ag (σ 7) 6 a0).bind fun x1 =>
  (if x1 = (-1) then
  some (-1)
  else
  (if a1 = nI 0 then
  (z_ag (σ 7) 6 a0).bind fun x2 =>
  some x2
  else
  (if a1 = nI 1 then
  (z_ag (σ 8) 6 a0).bind fun x3 =>
  some x3
  else
  (z_ag (σ 9) 6 a0).bind fun x4 =>
  some x4)))
