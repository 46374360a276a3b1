/-! the reference, method by method, as partial functions that follow its bytecode (by wip/tools/walk.py) -/
def fX9_slotAt (a0 : Int32) (a1 : Int32) (σ : zSt) : Option (Int32) :=
  some ((nI 110) + ((nI 4) * (((nI 8) * a0) + a1)))
def fX9_copyOf_l2 (σ : zSt) (K2 : Option (Int32)) : Nat → Int32 → Int32 → Int32 → Option (Int32)
  | 0, _, _, _ => none
  | n + 1, y1, y2, y3 =>
  (z_ag (σ 0) 456 (nI 1)).bind fun x1 =>
  (if x1 ≤ y3 then
  K2
  else
  (fX9_slotAt y1 y3 σ).bind fun x2 =>
  (z_ag (σ 0) 456 x2).bind fun x3 =>
  (if x3 = y2 then
  (fX9_slotAt y1 y3 σ).bind fun x4 =>
  some x4
  else
  (fX9_copyOf_l2 σ K2 n) y1 y2 (y3 + nI 1)))
def fX9_copyOf (a0 : Int32) (a1 : Int32) (σ : zSt) : Option (Int32) :=
  fX9_copyOf_l2 σ (some (-1)) z_fu a0 a1 (nI 0)
def fX9_aboutCopy_j102 (σ : zSt) (C45 : Int32 → Int32 → Int32 → Int32 → Int32 → Option (Int32)) (y1 : Int32) (y3 : Int32) (y4 : Int32) (y6 : Int32) (w0 : Int32) (w1 : Int32) : Option (Int32) :=
  C45 y1 y3 y4 (w1 + w0) (y6 + nI 1)
def fX9_aboutCopy_j101 (σ : zSt) (C45 : Int32 → Int32 → Int32 → Int32 → Int32 → Option (Int32)) (y1 : Int32) (y3 : Int32) (y4 : Int32) (y6 : Int32) (w0 : Int32) : Option (Int32) :=
  fX9_aboutCopy_j102 σ C45 y1 y3 y4 y6 (nI 0) w0
def fX9_aboutCopy_l45 (σ : zSt) (K45 : Int32 → Int32 → Int32 → Option (Int32)) : Nat → Int32 → Int32 → Int32 → Int32 → Int32 → Option (Int32)
  | 0, _, _, _, _, _ => none
  | n + 1, y1, y3, y4, y5, y6 =>
  (z_ag (σ 0) 456 (nI 1)).bind fun x2 =>
  (if x2 ≤ y6 then
  K45 y3 y4 y5
  else
  (fX9_slotAt y1 y6 σ).bind fun x3 =>
  (z_ag (σ 0) 456 x3).bind fun x4 =>
  (if x4 < 0 then
  fX9_aboutCopy_j101 σ (fX9_aboutCopy_l45 σ K45 n) y1 y3 y4 y6 y5
  else
  (fX9_slotAt y1 y6 σ).bind fun x5 =>
  (z_ag (σ 0) 456 (x5 + (nI 3))).bind fun x6 =>
  (z_ag (σ 0) 456 (y4 + (nI 3))).bind fun x7 =>
  (if x6 ≤ x7 then
  fX9_aboutCopy_j101 σ (fX9_aboutCopy_l45 σ K45 n) y1 y3 y4 y6 y5
  else
  fX9_aboutCopy_j102 σ (fX9_aboutCopy_l45 σ K45 n) y1 y3 y4 y6 (nI 1) y5)))
def fX9_aboutCopy (a0 : Int32) (a1 : Int32) (a2 : Int32) (σ : zSt) : Option (Int32) :=
  (fX9_copyOf a0 a1 σ).bind fun x1 =>
  (if 0 ≤ x1 then
  (if a2 = (nI 2) then
  (fX9_slotAt a0 (nI 0) σ).bind fun x13 =>
  (z_dv (x1 - x13) (nI 4)).bind fun x14 =>
  some x14
  else
  fX9_aboutCopy_l45 σ (fun x8 x9 x10 => (if x8 = 0 then
  (z_ag (σ 0) 456 (x9 + (nI 1))).bind fun x12 =>
  some x12
  else
  (if x8 = (nI 1) then
  (z_ag (σ 0) 456 (x9 + (nI 2))).bind fun x11 =>
  some x11
  else
  some x10))) z_fu a0 a2 x1 (nI 0) (nI 0))
  else
  (if a2 = 0 then
  some (nI 0)
  else
  some (-1)))
def fX9_pageOf_l2 (σ : zSt) (K2 : Option (Int32)) : Nat → Int32 → Int32 → Option (Int32)
  | 0, _, _ => none
  | n + 1, y1, y2 =>
  (z_ag (σ 0) 456 (nI 3)).bind fun x1 =>
  (if x1 ≤ y2 then
  K2
  else
  (z_ag (σ 0) 456 ((nI 302) + ((nI 4) * y2))).bind fun x2 =>
  (if x2 = y1 then
  some ((nI 302) + ((nI 4) * y2))
  else
  (fX9_pageOf_l2 σ K2 n) y1 (y2 + nI 1)))
def fX9_pageOf (a0 : Int32) (σ : zSt) : Option (Int32) :=
  fX9_pageOf_l2 σ (some (-1)) z_fu a0 (nI 0)
def fX9_ownerOf_l2 (σ : zSt) (K2 : Option (Int32)) : Nat → Int32 → Int32 → Option (Int32)
  | 0, _, _ => none
  | n + 1, y1, y2 =>
  (z_ag (σ 0) 456 (nI 0)).bind fun x1 =>
  (if x1 ≤ y2 then
  K2
  else
  (fX9_copyOf y2 y1 σ).bind fun x2 =>
  (if x2 < 0 then
  (fX9_ownerOf_l2 σ K2 n) y1 (y2 + nI 1)
  else
  (z_ag (σ 0) 456 (x2 + (nI 1))).bind fun x3 =>
  (if x3 = (nI 2) then
  some y2
  else
  (fX9_ownerOf_l2 σ K2 n) y1 (y2 + nI 1))))
def fX9_ownerOf (a0 : Int32) (σ : zSt) : Option (Int32) :=
  fX9_ownerOf_l2 σ (some (-1)) z_fu a0 (nI 0)
def fX9_sharersOf_j48 (σ : zSt) (C4 : Int32 → Int32 → Int32 → Option (Int32)) (y1 : Int32) (y3 : Int32) (w0 : Int32) (w1 : Int32) : Option (Int32) :=
  C4 y1 (w1 ||| w0) (y3 + nI 1)
def fX9_sharersOf_j47 (σ : zSt) (C4 : Int32 → Int32 → Int32 → Option (Int32)) (y1 : Int32) (y3 : Int32) (w0 : Int32) : Option (Int32) :=
  fX9_sharersOf_j48 σ C4 y1 y3 (nI 0) w0
def fX9_sharersOf_l4 (σ : zSt) (K4 : Int32 → Option (Int32)) : Nat → Int32 → Int32 → Int32 → Option (Int32)
  | 0, _, _, _ => none
  | n + 1, y1, y2, y3 =>
  (z_ag (σ 0) 456 (nI 0)).bind fun x1 =>
  (if x1 ≤ y3 then
  K4 y2
  else
  (fX9_copyOf y3 y1 σ).bind fun x2 =>
  (if x2 < 0 then
  fX9_sharersOf_j47 σ (fX9_sharersOf_l4 σ K4 n) y1 y3 y2
  else
  (z_ag (σ 0) 456 (x2 + (nI 1))).bind fun x3 =>
  (if x3 = (nI 1) then
  fX9_sharersOf_j48 σ (fX9_sharersOf_l4 σ K4 n) y1 y3 ((nI 1) <<< (y3 &&& 31)) y2
  else
  fX9_sharersOf_j47 σ (fX9_sharersOf_l4 σ K4 n) y1 y3 y2)))
def fX9_sharersOf (a0 : Int32) (σ : zSt) : Option (Int32) :=
  fX9_sharersOf_l4 σ (fun x4 => some x4) z_fu a0 (nI 0) (nI 0)
def fX9_aboutLine (a0 : Int32) (a1 : Int32) (σ : zSt) : Option (Int32) :=
  (fX9_pageOf a0 σ).bind fun x1 =>
  (if a1 = nI 0 then
  (z_ag (σ 0) 456 ((nI 14) + a0)).bind fun x2 =>
  some x2
  else
  (if a1 = nI 1 then
  (z_ag (σ 0) 456 ((nI 46) + a0)).bind fun x3 =>
  some x3
  else
  (if a1 = nI 2 then
  (fX9_ownerOf a0 σ).bind fun x4 =>
  some x4
  else
  (if a1 = nI 3 then
  (fX9_sharersOf a0 σ).bind fun x5 =>
  some x5
  else
  (if a1 = nI 4 then
  (if x1 < 0 then
  some (nI 0)
  else
  some (nI 1))
  else
  (if a1 = nI 5 then
  (if x1 < 0 then
  some (-1)
  else
  (z_ag (σ 0) 456 (x1 + (nI 1))).bind fun x6 =>
  some x6)
  else
  (if a1 = nI 6 then
  (if x1 < 0 then
  some (-1)
  else
  (z_ag (σ 0) 456 (x1 + (nI 2))).bind fun x7 =>
  some x7)
  else
  (z_ag (σ 0) 456 ((nI 78) + a0)).bind fun x8 =>
  some x8)))))))
def fX9_isAsking (a0 : Int32) (σ : zSt) : Option (Int32) :=
  (z_ag (σ 0) 456 ((nI 366) + ((nI 3) * a0))).bind fun x1 =>
  (if x1 < 0 then
  z_bz (nI 0)
  else
  z_bz (nI 1))
def fX9_aboutPending (a0 : Int32) (a1 : Int32) (σ : zSt) : Option (Int32) :=
  (fX9_isAsking a0 σ).bind fun x1 =>
  (if x1 = 0 then
  some (-1)
  else
  (z_ag (σ 0) 456 (((nI 366) + ((nI 3) * a0)) + a1)).bind fun x2 =>
  some x2)
def fX9_anew_l3 (K3 : Int32 → Int32 → Int32 → zSt → Option (zSt)) : Nat → Int32 → Int32 → Int32 → Int32 → zSt → Option (zSt)
  | 0, _, _, _, _, _ => none
  | n + 1, y1, y2, y3, y4, σ =>
  (if (nI 456) ≤ y4 then
  K3 y1 y2 y3 σ
  else
  (z_sg σ 0 456 y4 (nI 0)).bind fun σ1 =>
  (fX9_anew_l3 K3 n) y1 y2 y3 (y4 + nI 1) σ1)
def fX9_anew_l49 (K49 : zSt → Option (zSt)) : Nat → Int32 → zSt → Option (zSt)
  | 0, _, _ => none
  | n + 1, y4, σ =>
  (if (nI 48) ≤ y4 then
  K49 σ
  else
  (z_sg σ 0 456 ((nI 110) + ((nI 4) * y4)) (-1)).bind fun σ9 =>
  (fX9_anew_l49 K49 n) (y4 + nI 1) σ9)
def fX9_anew_l78 (K78 : zSt → Option (zSt)) : Nat → Int32 → zSt → Option (zSt)
  | 0, _, _ => none
  | n + 1, y4, σ =>
  (if (nI 6) ≤ y4 then
  K78 σ
  else
  (z_sg σ 0 456 ((nI 366) + ((nI 3) * y4)) (-1)).bind fun σ11 =>
  (fX9_anew_l78 K78 n) (y4 + nI 1) σ11)
def fX9_anew (a0 : Int32) (a1 : Int32) (a2 : Int32) (σ : zSt) : Option (zSt) :=
  fX9_anew_l3 (fun x2 x3 x4 σ5 => (z_sg σ5 0 456 (nI 0) x2).bind fun σ6 =>
  (z_sg σ6 0 456 (nI 1) x3).bind fun σ7 =>
  (z_sg σ7 0 456 (nI 2) x4).bind fun σ8 =>
  fX9_anew_l49 (fun σ10 => fX9_anew_l78 (fun σ12 => some σ12) z_fu (nI 0) σ10) z_fu (nI 0) σ8) z_fu a0 a1 a2 (nI 0) σ
def fX9_in (a0 : Int32) (a1 : Int32) (a2 : Int32) (σ : zSt) : Option (Int32) :=
  (if a0 < a1 then
  z_bz (nI 0)
  else
  (if a2 < a0 then
  z_bz (nI 0)
  else
  z_bz (nI 1)))
def fX9_fails (a0 : Int32) (σ : zSt) : Option (Int32 × zSt) :=
  (z_sf σ 7 a0).bind fun σ1 =>
  some (nI 0, σ1)
def fX9_append (a0 : Int32) (σ : zSt) : Option (Int32 × zSt) :=
  (z_sf σ 7 (nI 0)).bind fun σ1 =>
  (fX9_in a0 (nI 0) (nI 127) σ1).bind fun x2 =>
  (if x2 = 0 then
  z_b2 (fX9_fails (nI 1) σ1) fun x7 σ8 =>
  some (x7, σ8)
  else
  (if (σ1 6 0) = (nI 100) then
  z_b2 (fX9_fails (nI 2) σ1) fun x5 σ6 =>
  some (x5, σ6)
  else
  (z_sg σ1 3 100 (σ1 6 0) a0).bind fun σ3 =>
  (z_sf σ3 6 ((σ3 6 0) + (nI 1))).bind fun σ4 =>
  some (σ4 6 0, σ4)))
def fX9_isHit_j30 (σ : zSt) : Option (Int32) :=
  z_bz (nI 1)
def fX9_isHit (a0 : Int32) (a1 : Int32) (a2 : Int32) (σ : zSt) : Option (Int32) :=
  (fX9_copyOf a0 a1 σ).bind fun x1 =>
  (if x1 < 0 then
  z_bz (nI 0)
  else
  (if a2 = 0 then
  fX9_isHit_j30 σ
  else
  (z_ag (σ 0) 456 (x1 + (nI 1))).bind fun x2 =>
  (if x2 = (nI 2) then
  fX9_isHit_j30 σ
  else
  z_bz (nI 0))))
def fX9_asks_j55  (w0 : Int32) (w1 : Int32) (w2 : Int32) (σ : zSt) : Option (Int32 × zSt) :=
  (fX9_isHit w2 w1 w0 σ).bind fun x4 =>
  (if x4 = 0 then
  some (nI 0, σ)
  else
  some (nI 1, σ))
def fX9_asks (a0 : Int32) (a1 : Int32) (a2 : Int32) (σ : zSt) : Option (Int32 × zSt) :=
  (z_sg σ 0 456 ((nI 366) + ((nI 3) * a0)) a1).bind fun σ1 =>
  (z_sg σ1 0 456 (((nI 366) + ((nI 3) * a0)) + (nI 1)) a2).bind fun σ2 =>
  (z_sg σ2 0 456 (((nI 366) + ((nI 3) * a0)) + (nI 2)) (nI 0)).bind fun σ3 =>
  (if a2 < 0 then
  fX9_asks_j55 (nI 0) a1 a0 σ3
  else
  fX9_asks_j55 (nI 1) a1 a0 σ3)
def fX9_save_l51 (K51 : zSt → Option (zSt)) : Nat → Int32 → zSt → Option (zSt)
  | 0, _, _ => none
  | n + 1, y1, σ =>
  (if (nI 456) ≤ y1 then
  K51 σ
  else
  (z_ag (σ 0) 456 y1).bind fun x1 =>
  (z_sg σ 2 1824 (((nI 456) * (σ 5 0)) + y1) x1).bind fun σ2 =>
  (fX9_save_l51 K51 n) (y1 + nI 1) σ2)
def fX9_save_l10 (K10 : zSt → Option (zSt)) : Nat → Int32 → zSt → Option (zSt)
  | 0, _, _ => none
  | n + 1, y1, σ =>
  (if (nI 1368) ≤ y1 then
  K10 σ
  else
  (z_ag (σ 2) 1824 (y1 + (nI 456))).bind fun x5 =>
  (z_sg σ 2 1824 y1 x5).bind fun σ6 =>
  (fX9_save_l10 K10 n) (y1 + nI 1) σ6)
def fX9_save (σ : zSt) : Option (zSt) :=
  (if (σ 5 0) = (nI 4) then
  fX9_save_l10 (fun σ7 => (z_sf σ7 5 ((σ7 5 0) - (nI 1))).bind fun σ8 =>
  fX9_save_l51 (fun σ9 => (z_sf σ9 5 ((σ9 5 0) + (nI 1))).bind fun σ10 =>
  some σ10) z_fu (nI 0) σ8) z_fu (nI 0) σ
  else
  fX9_save_l51 (fun σ3 => (z_sf σ3 5 ((σ3 5 0) + (nI 1))).bind fun σ4 =>
  some σ4) z_fu (nI 0) σ)
def fX9_begin_j35  (σ : zSt) : Option (Int32 × zSt) :=
  z_b2 (fX9_fails (nI 1) σ) fun x3 σ4 =>
  some (x3, σ4)
def fX9_begin (a0 : Int32) (a1 : Int32) (a2 : Int32) (σ : zSt) : Option (Int32 × zSt) :=
  (z_sf σ 7 (nI 0)).bind fun σ1 =>
  (fX9_in a0 (nI 2) (nI 6) σ1).bind fun x2 =>
  (if x2 = 0 then
  fX9_begin_j35 σ1
  else
  (fX9_in a1 (nI 1) (nI 8) σ1).bind fun x5 =>
  (if x5 = 0 then
  fX9_begin_j35 σ1
  else
  (fX9_in a2 (nI 1) (nI 16) σ1).bind fun x6 =>
  (if x6 = 0 then
  fX9_begin_j35 σ1
  else
  (fX9_save  σ1).bind fun σ7 =>
  (z_ag (σ7 0) 456 (nI 4)).bind fun x8 =>
  (fX9_anew a0 a1 a2 σ7).bind fun σ9 =>
  some (x8, σ9))))
def fX9_bringBack_l2 (K2 : zSt → Option (zSt)) : Nat → Int32 → zSt → Option (zSt)
  | 0, _, _ => none
  | n + 1, y1, σ =>
  (if (nI 456) ≤ y1 then
  K2 σ
  else
  (z_ag (σ 1) 456 y1).bind fun x1 =>
  (z_sg σ 0 456 y1 x1).bind fun σ2 =>
  (fX9_bringBack_l2 K2 n) (y1 + nI 1) σ2)
def fX9_bringBack (σ : zSt) : Option (zSt) :=
  fX9_bringBack_l2 (fun σ3 => some σ3) z_fu (nI 0) σ
def fX9_sign_j44  (y2 : Int32) (w0 : Int32) (w1 : Int32) (σ : zSt) : Option (Int32 × zSt) :=
  (z_sf σ 8 (w1 + w0)).bind fun σ1 =>
  (z_bz y2).bind fun r => some (r, σ1)
def fX9_sign_j29  (w0 : Int32) (σ : zSt) : Option (Int32 × zSt) :=
  (if w0 = 0 then
  fX9_sign_j44 w0 (nI 0) (σ 8 0) σ
  else
  fX9_sign_j44 w0 (nI 1) (σ 8 0) σ)
def fX9_sign_j28  (σ : zSt) : Option (Int32 × zSt) :=
  fX9_sign_j29 (nI 0) σ
def fX9_sign (a0 : Int32) (σ : zSt) : Option (Int32 × zSt) :=
  (if (σ 6 0) ≤ (σ 8 0) then
  fX9_sign_j28 σ
  else
  (z_ag (σ 3) 100 (σ 8 0)).bind fun x2 =>
  (if x2 = a0 then
  fX9_sign_j29 (nI 1) σ
  else
  fX9_sign_j28 σ))
def fX9_isDigit (a0 : Int32) (σ : zSt) : Option (Int32) :=
  (if (σ 6 0) ≤ (σ 8 0) then
  z_bz (nI 0)
  else
  (z_ag (σ 3) 100 (σ 8 0)).bind fun x1 =>
  (fX9_in x1 (nI 48) a0 σ).bind fun x2 =>
  (if x2 = 0 then
  z_bz (nI 0)
  else
  z_bz (nI 1)))
def fX9_numberInto_l9 (K9 : Int32 → Int32 → Int32 → Int32 → Int32 → zSt → Option (Int32 × zSt)) : Nat → Int32 → Int32 → Int32 → Int32 → Int32 → Int32 → zSt → Option (Int32 × zSt)
  | 0, _, _, _, _, _, _, _ => none
  | n + 1, y1, y2, y3, y4, y5, y6, σ =>
  (fX9_isDigit (nI 57) σ).bind fun x1 =>
  (if x1 = 0 then
  K9 y1 y3 y4 y5 y6 σ
  else
  (if (y5 + y2) ≤ (σ 8 0) then
  K9 y1 y3 y4 y5 y6 σ
  else
  (z_ag (σ 3) 100 (σ 8 0)).bind fun x2 =>
  (z_sf σ 8 ((σ 8 0) + (nI 1))).bind fun σ3 =>
  (fX9_numberInto_l9 K9 n) y1 y2 y3 y4 y5 ((((nI 10) * y6) + x2) - (nI 48)) σ3))
def fX9_numberInto (a0 : Int32) (a1 : Int32) (a2 : Int32) (a3 : Int32) (σ : zSt) : Option (Int32 × zSt) :=
  fX9_numberInto_l9 (fun x4 x5 x6 x7 x8 σ9 => (if (σ9 8 0) = x7 then
  (z_bz (nI 0)).bind fun r => some (r, σ9)
  else
  (fX9_isDigit (nI 57) σ9).bind fun x10 =>
  (if x10 = 0 then
  (fX9_in x8 x5 x6 σ9).bind fun x11 =>
  (if x11 = 0 then
  (z_sf σ9 8 x7).bind fun σ13 =>
  (z_bz (nI 0)).bind fun r => some (r, σ13)
  else
  (z_sg σ9 4 4 x4 x8).bind fun σ12 =>
  (z_bz (nI 1)).bind fun r => some (r, σ12))
  else
  (z_bz (nI 0)).bind fun r => some (r, σ9)))) z_fu a0 a1 a2 a3 (σ 8 0) (nI 0) σ
def fX9_readOrder_j182  (σ : zSt) : Option (Int32 × zSt) :=
  z_b2 (fX9_sign (nI 59) σ) fun x17 σ18 =>
  (if x17 = 0 then
  (z_bz (nI 0)).bind fun r => some (r, σ18)
  else
  (z_bz (nI 1)).bind fun r => some (r, σ18))
def fX9_readOrder_j89  (σ : zSt) : Option (Int32 × zSt) :=
  (fX9_isDigit (nI 53) σ).bind fun x8 =>
  (if x8 = 0 then
  (z_bz (nI 0)).bind fun r => some (r, σ)
  else
  (z_ag (σ 3) 100 (σ 8 0)).bind fun x9 =>
  (z_sg σ 4 4 (nI 1) (x9 - (nI 48))).bind fun σ10 =>
  (z_sf σ10 8 ((σ10 8 0) + (nI 1))).bind fun σ11 =>
  z_b2 (fX9_sign (nI 58) σ11) fun x12 σ13 =>
  (if x12 = 0 then
  (z_bz (nI 0)).bind fun r => some (r, σ13)
  else
  z_b2 (fX9_numberInto (nI 2) (nI 2) (nI 0) (nI 31) σ13) fun x14 σ15 =>
  (if x14 = 0 then
  (z_bz (nI 0)).bind fun r => some (r, σ15)
  else
  (z_ag (σ15 4) 4 (nI 0)).bind fun x16 =>
  (if x16 = 0 then
  fX9_readOrder_j182 σ15
  else
  z_b2 (fX9_sign (nI 61) σ15) fun x19 σ20 =>
  (if x19 = 0 then
  (z_bz (nI 0)).bind fun r => some (r, σ20)
  else
  z_b2 (fX9_numberInto (nI 3) (nI 3) (nI 0) (nI 999) σ20) fun x21 σ22 =>
  (if x21 = 0 then
  (z_bz (nI 0)).bind fun r => some (r, σ22)
  else
  fX9_readOrder_j182 σ22))))))
def fX9_readOrder_j62  (w0 : Int32) (w1 : Int32) (σ : zSt) : Option (Int32 × zSt) :=
  (z_sg σ 4 4 w1 w0).bind fun σ5 =>
  (z_sg σ5 4 4 (nI 3) (-1)).bind fun σ6 =>
  (z_ag (σ6 4) 4 (nI 0)).bind fun x7 =>
  (if x7 = (nI 1) then
  z_b2 (fX9_sign (nI 119) σ6) fun x23 σ24 =>
  (if x23 = 0 then
  (z_bz (nI 0)).bind fun r => some (r, σ24)
  else
  fX9_readOrder_j89 σ24)
  else
  fX9_readOrder_j89 σ6)
def fX9_readOrder (σ : zSt) : Option (Int32 × zSt) :=
  z_b2 (fX9_sign (nI 116) σ) fun x1 σ2 =>
  (if x1 = 0 then
  z_b2 (fX9_sign (nI 114) σ2) fun x3 σ4 =>
  (if x3 = 0 then
  fX9_readOrder_j62 (nI 1) (nI 0) σ4
  else
  fX9_readOrder_j62 (nI 0) (nI 0) σ4)
  else
  (z_sg σ2 4 4 (nI 0) (nI 2)).bind fun σ25 =>
  z_b2 (fX9_numberInto (nI 3) (nI 2) (nI 1) (nI 50) σ25) fun x26 σ27 =>
  (if x26 = 0 then
  (z_bz (nI 0)).bind fun r => some (r, σ27)
  else
  z_b2 (fX9_sign (nI 59) σ27) fun x28 σ29 =>
  (if x28 = 0 then
  (z_bz (nI 0)).bind fun r => some (r, σ29)
  else
  (z_bz (nI 1)).bind fun r => some (r, σ29))))
def fX9_oldestPage_l6 (σ : zSt) (K6 : Int32 → Option (Int32)) : Nat → Int32 → Int32 → Option (Int32)
  | 0, _, _ => none
  | n + 1, y1, y2 =>
  (z_ag (σ 0) 456 (nI 3)).bind fun x1 =>
  (if x1 ≤ y2 then
  K6 y1
  else
  (z_ag (σ 0) 456 (((nI 302) + ((nI 4) * y2)) + (nI 3))).bind fun x2 =>
  (z_ag (σ 0) 456 (y1 + (nI 3))).bind fun x3 =>
  (if x3 ≤ x2 then
  (fX9_oldestPage_l6 σ K6 n) y1 (y2 + nI 1)
  else
  (fX9_oldestPage_l6 σ K6 n) ((nI 302) + ((nI 4) * y2)) (y2 + nI 1)))
def fX9_oldestPage (σ : zSt) : Option (Int32) :=
  fX9_oldestPage_l6 σ (fun x4 => some x4) z_fu (nI 302) (nI 1)
def fX9_tearOut_l60 (K60 : zSt → Option (zSt)) : Nat → Int32 → Int32 → zSt → Option (zSt)
  | 0, _, _, _ => none
  | n + 1, y1, y2, σ =>
  (if (nI 4) ≤ y2 then
  K60 σ
  else
  (z_ag (σ 0) 456 (nI 3)).bind fun x8 =>
  (z_ag (σ 0) 456 (((nI 302) + ((nI 4) * x8)) + y2)).bind fun x9 =>
  (z_sg σ 0 456 (y1 + y2) x9).bind fun σ10 =>
  (fX9_tearOut_l60 K60 n) y1 (y2 + nI 1) σ10)
def fX9_tearOut_j37  (y1 : Int32) (σ : zSt) : Option (zSt) :=
  (z_ag (σ 0) 456 (nI 10)).bind fun x4 =>
  (z_sg σ 0 456 (nI 10) (x4 + (nI 1))).bind fun σ5 =>
  (z_ag (σ5 0) 456 (nI 3)).bind fun x6 =>
  (z_sg σ5 0 456 (nI 3) (x6 - (nI 1))).bind fun σ7 =>
  fX9_tearOut_l60 (fun σ11 => some σ11) z_fu y1 (nI 0) σ7
def fX9_tearOut_j22  (y1 : Int32) (σ : zSt) : Option (zSt) :=
  (z_ag (σ 0) 456 y1).bind fun x2 =>
  (z_sg σ 0 456 ((nI 78) + x2) (nI 1)).bind fun σ3 =>
  fX9_tearOut_j37 y1 σ3
def fX9_tearOut (a0 : Int32) (σ : zSt) : Option (zSt) :=
  (z_ag (σ 0) 456 (a0 + (nI 1))).bind fun x1 =>
  (if 0 ≤ x1 then
  fX9_tearOut_j22 a0 σ
  else
  (z_ag (σ 0) 456 (a0 + (nI 2))).bind fun x12 =>
  (if x12 = 0 then
  fX9_tearOut_j37 a0 σ
  else
  fX9_tearOut_j22 a0 σ))
def fX9_opensPage_j151  (y2 : Int32) (w0 : Int32) (w1 : Int32) (w2 : Int32) (σ : zSt) : Option (Int32 × zSt) :=
  (z_sg σ 0 456 w2 (w1 + w0)).bind fun σ13 =>
  (if y2 = 0 then
  some (nI 1, σ13)
  else
  (z_ag (σ13 0) 456 (nI 0)).bind fun x14 =>
  some (x14 - (nI 1), σ13))
def fX9_opensPage_j113  (y1 : Int32) (y2 : Int32) (w0 : Int32) (w1 : Int32) (σ : zSt) : Option (Int32 × zSt) :=
  (z_sg σ 0 456 w1 w0).bind fun σ8 =>
  (z_ag (σ8 0) 456 (nI 3)).bind fun x9 =>
  (z_sg σ8 0 456 (nI 3) (x9 + (nI 1))).bind fun σ10 =>
  (z_sg σ10 0 456 ((nI 78) + y1) (nI 0)).bind fun σ11 =>
  (z_ag (σ11 0) 456 (nI 9)).bind fun x12 =>
  (if y2 = 0 then
  fX9_opensPage_j151 y2 (nI 0) x12 (nI 9) σ11
  else
  fX9_opensPage_j151 y2 (nI 1) x12 (nI 9) σ11)
def fX9_opensPage_j92  (y1 : Int32) (y2 : Int32) (y3 : Int32) (w0 : Int32) (w1 : Int32) (σ : zSt) : Option (Int32 × zSt) :=
  (z_sg σ 0 456 w1 w0).bind fun σ7 =>
  (if y2 = 0 then
  fX9_opensPage_j113 y1 y2 (nI 0) (y3 + (nI 2)) σ7
  else
  (fX9_sharersOf y1 σ7).bind fun x15 =>
  fX9_opensPage_j113 y1 y2 x15 (y3 + (nI 2)) σ7)
def fX9_opensPage_j51  (y1 : Int32) (w0 : Int32) (σ : zSt) : Option (Int32 × zSt) :=
  (z_ag (σ 0) 456 (nI 3)).bind fun x5 =>
  (z_sg σ 0 456 ((nI 302) + ((nI 4) * x5)) y1).bind fun σ6 =>
  (if w0 = 0 then
  fX9_opensPage_j92 y1 w0 ((nI 302) + ((nI 4) * x5)) (-1) (((nI 302) + ((nI 4) * x5)) + (nI 1)) σ6
  else
  (fX9_ownerOf y1 σ6).bind fun x16 =>
  fX9_opensPage_j92 y1 w0 ((nI 302) + ((nI 4) * x5)) x16 (((nI 302) + ((nI 4) * x5)) + (nI 1)) σ6)
def fX9_opensPage_j33  (y1 : Int32) (σ : zSt) : Option (Int32 × zSt) :=
  (z_ag (σ 0) 456 ((nI 78) + y1)).bind fun x4 =>
  (if x4 = (nI 1) then
  fX9_opensPage_j51 y1 (nI 1) σ
  else
  fX9_opensPage_j51 y1 (nI 0) σ)
def fX9_opensPage (a0 : Int32) (σ : zSt) : Option (Int32 × zSt) :=
  (fX9_pageOf a0 σ).bind fun x1 =>
  (if x1 < 0 then
  (z_ag (σ 0) 456 (nI 3)).bind fun x2 =>
  (z_ag (σ 0) 456 (nI 2)).bind fun x3 =>
  (if x2 = x3 then
  (fX9_oldestPage  σ).bind fun x17 =>
  (fX9_tearOut x17 σ).bind fun σ18 =>
  fX9_opensPage_j33 a0 σ18
  else
  fX9_opensPage_j33 a0 σ)
  else
  some (nI 1, σ))
def fX9_toMemory (a0 : Int32) (σ : zSt) : Option (zSt) :=
  (z_ag (σ 0) 456 a0).bind fun x1 =>
  (z_ag (σ 0) 456 (a0 + (nI 2))).bind fun x2 =>
  (z_sg σ 0 456 ((nI 14) + x1) x2).bind fun σ3 =>
  (z_ag (σ3 0) 456 (nI 11)).bind fun x4 =>
  (z_sg σ3 0 456 (nI 11) (x4 + (nI 1))).bind fun σ5 =>
  some σ5
def fX9_reachesOthers_j108  (C6 : Int32 → Int32 → Int32 → Int32 → Int32 → zSt → Option (Int32 × zSt)) (y1 : Int32) (y2 : Int32) (y3 : Int32) (y4 : Int32) (y5 : Int32) (w0 : Int32) (w1 : Int32) (σ : zSt) : Option (Int32 × zSt) :=
  (z_sg σ 0 456 w1 w0).bind fun σ4 =>
  C6 y1 y2 y3 y4 (y5 + nI 1) σ4
def fX9_reachesOthers_j78  (C6 : Int32 → Int32 → Int32 → Int32 → Int32 → zSt → Option (Int32 × zSt)) (y1 : Int32) (y2 : Int32) (y3 : Int32) (y4 : Int32) (y5 : Int32) (y6 : Int32) (σ : zSt) : Option (Int32 × zSt) :=
  (if y6 < 0 then
  C6 y1 y2 y3 y4 (y5 + nI 1) σ
  else
  (z_sg σ 0 456 (y6 + (nI 1)) (nI 1)).bind fun σ3 =>
  (if y3 = 0 then
  fX9_reachesOthers_j108 C6 y1 y2 y3 y4 y5 y2 y6 σ3
  else
  fX9_reachesOthers_j108 C6 y1 y2 y3 y4 y5 (-1) y6 σ3))
def fX9_reachesOthers_j66  (C6 : Int32 → Int32 → Int32 → Int32 → Int32 → zSt → Option (Int32 × zSt)) (y1 : Int32) (y2 : Int32) (y3 : Int32) (y4 : Int32) (y5 : Int32) (y6 : Int32) (σ : zSt) : Option (Int32 × zSt) :=
  (if y6 < 0 then
  fX9_reachesOthers_j78 C6 y1 y2 y3 y4 y5 y6 σ
  else
  (if y3 = 0 then
  fX9_reachesOthers_j78 C6 y1 y2 y3 y4 y5 y6 σ
  else
  fX9_reachesOthers_j78 C6 y1 y2 y3 (y4 + nI 1) y5 y6 σ))
def fX9_reachesOthers_j34  (C6 : Int32 → Int32 → Int32 → Int32 → Int32 → zSt → Option (Int32 × zSt)) (y1 : Int32) (y2 : Int32) (y3 : Int32) (y4 : Int32) (y5 : Int32) (w0 : Int32) (σ : zSt) : Option (Int32 × zSt) :=
  (if w0 < 0 then
  fX9_reachesOthers_j66 C6 y1 y2 y3 y4 y5 w0 σ
  else
  (z_ag (σ 0) 456 (w0 + (nI 1))).bind fun x5 =>
  (if x5 = (nI 2) then
  (fX9_toMemory w0 σ).bind fun σ6 =>
  fX9_reachesOthers_j78 C6 y1 y2 y3 (y4 + nI 2) y5 w0 σ6
  else
  fX9_reachesOthers_j66 C6 y1 y2 y3 y4 y5 w0 σ))
def fX9_reachesOthers_l6 (K6 : Int32 → zSt → Option (Int32 × zSt)) : Nat → Int32 → Int32 → Int32 → Int32 → Int32 → zSt → Option (Int32 × zSt)
  | 0, _, _, _, _, _, _ => none
  | n + 1, y1, y2, y3, y4, y5, σ =>
  (z_ag (σ 0) 456 (nI 0)).bind fun x1 =>
  (if x1 ≤ y5 then
  K6 y4 σ
  else
  (if y5 = y1 then
  fX9_reachesOthers_j34 (fX9_reachesOthers_l6 K6 n) y1 y2 y3 y4 y5 (-1) σ
  else
  (fX9_copyOf y5 y2 σ).bind fun x2 =>
  fX9_reachesOthers_j34 (fX9_reachesOthers_l6 K6 n) y1 y2 y3 y4 y5 x2 σ))
def fX9_reachesOthers (a0 : Int32) (a1 : Int32) (a2 : Int32) (σ : zSt) : Option (Int32 × zSt) :=
  fX9_reachesOthers_l6 (fun x7 σ8 => some (x7, σ8)) z_fu a0 a1 a2 (nI 0) (nI 0) σ
def fX9_oldestCopy_l8 (σ : zSt) (K8 : Int32 → Option (Int32)) : Nat → Int32 → Int32 → Int32 → Option (Int32)
  | 0, _, _, _ => none
  | n + 1, y1, y2, y3 =>
  (z_ag (σ 0) 456 (nI 1)).bind fun x2 =>
  (if x2 ≤ y3 then
  K8 y2
  else
  (fX9_slotAt y1 y3 σ).bind fun x3 =>
  (z_ag (σ 0) 456 (x3 + (nI 3))).bind fun x4 =>
  (z_ag (σ 0) 456 (y2 + (nI 3))).bind fun x5 =>
  (if x5 ≤ x4 then
  (fX9_oldestCopy_l8 σ K8 n) y1 y2 (y3 + nI 1)
  else
  (fX9_slotAt y1 y3 σ).bind fun x6 =>
  (fX9_oldestCopy_l8 σ K8 n) y1 x6 (y3 + nI 1)))
def fX9_oldestCopy (a0 : Int32) (σ : zSt) : Option (Int32) :=
  (fX9_slotAt a0 (nI 0) σ).bind fun x1 =>
  fX9_oldestCopy_l8 σ (fun x7 => some x7) z_fu a0 x1 (nI 1)
def fX9_throwAway_j96  (y2 : Int32) (y3 : Int32) (σ : zSt) : Option (Int32 × zSt) :=
  (z_sg σ 0 456 y2 (-1)).bind fun σ4 =>
  (if y3 = 0 then
  some (nI 0, σ4)
  else
  some (nI 1, σ4))
def fX9_throwAway_j78  (y1 : Int32) (y2 : Int32) (y3 : Int32) (y4 : Int32) (w0 : Int32) (w1 : Int32) (σ : zSt) : Option (Int32 × zSt) :=
  (z_sg σ 0 456 w1 w0).bind fun σ7 =>
  (z_ag (σ7 0) 456 (y4 + (nI 2))).bind fun x8 =>
  (z_sg σ7 0 456 (y4 + (nI 2)) (x8 &&& (((nI 1) <<< (y1 &&& 31)) ^^^ (-1)))).bind fun σ9 =>
  fX9_throwAway_j96 y2 y3 σ9
def fX9_throwAway_j27  (y1 : Int32) (y2 : Int32) (y3 : Int32) (σ : zSt) : Option (Int32 × zSt) :=
  (z_ag (σ 0) 456 y2).bind fun x2 =>
  (fX9_pageOf x2 σ).bind fun x3 =>
  (if x3 < 0 then
  fX9_throwAway_j96 y2 y3 σ
  else
  (z_ag (σ 0) 456 (x3 + (nI 1))).bind fun x5 =>
  (if x5 = y1 then
  fX9_throwAway_j78 y1 y2 y3 x3 (-1) (x3 + (nI 1)) σ
  else
  (z_ag (σ 0) 456 (x3 + (nI 1))).bind fun x6 =>
  fX9_throwAway_j78 y1 y2 y3 x3 x6 (x3 + (nI 1)) σ))
def fX9_throwAway_j17  (y1 : Int32) (y2 : Int32) (w0 : Int32) (σ : zSt) : Option (Int32 × zSt) :=
  (if w0 = 0 then
  fX9_throwAway_j27 y1 y2 w0 σ
  else
  (fX9_toMemory y2 σ).bind fun σ10 =>
  fX9_throwAway_j27 y1 y2 w0 σ10)
def fX9_throwAway (a0 : Int32) (a1 : Int32) (σ : zSt) : Option (Int32 × zSt) :=
  (z_ag (σ 0) 456 (a1 + (nI 1))).bind fun x1 =>
  (if x1 = (nI 2) then
  fX9_throwAway_j17 a0 a1 (nI 1) σ
  else
  fX9_throwAway_j17 a0 a1 (nI 0) σ)
def fX9_misses_j165  (y5 : Int32) (y7 : Int32) (w0 : Int32) (w1 : Int32) (σ : zSt) : Option (Int32 × zSt) :=
  (z_sg σ 0 456 w1 w0).bind fun σ13 =>
  (z_ag (σ13 0) 456 (nI 13)).bind fun x14 =>
  (z_sg σ13 0 456 (y7 + (nI 3)) (x14 + (nI 1))).bind fun σ15 =>
  some (y5, σ15)
def fX9_misses_j142  (y2 : Int32) (y4 : Int32) (y5 : Int32) (y7 : Int32) (w0 : Int32) (w1 : Int32) (σ : zSt) : Option (Int32 × zSt) :=
  (z_sg σ 0 456 w1 w0).bind fun σ11 =>
  (if y4 = 0 then
  (fX9_sharersOf y2 σ11).bind fun x12 =>
  fX9_misses_j165 y5 y7 x12 (y7 + (nI 2)) σ11
  else
  fX9_misses_j165 y5 y7 (nI 0) (y7 + (nI 2)) σ11)
def fX9_misses_j98  (y1 : Int32) (y2 : Int32) (y4 : Int32) (y5 : Int32) (y6 : Int32) (w0 : Int32) (w1 : Int32) (σ : zSt) : Option (Int32 × zSt) :=
  (z_sg σ 0 456 w1 w0).bind fun σ7 =>
  (z_ag (σ7 0) 456 ((nI 14) + y2)).bind fun x8 =>
  (z_sg σ7 0 456 (y6 + (nI 2)) x8).bind fun σ9 =>
  (fX9_pageOf y2 σ9).bind fun x10 =>
  (if y4 = 0 then
  fX9_misses_j142 y2 y4 y5 x10 (-1) (x10 + (nI 1)) σ9
  else
  fX9_misses_j142 y2 y4 y5 x10 y1 (x10 + (nI 1)) σ9)
def fX9_misses_j72  (y1 : Int32) (y2 : Int32) (y4 : Int32) (y5 : Int32) (y6 : Int32) (σ : zSt) : Option (Int32 × zSt) :=
  (z_sg σ 0 456 y6 y2).bind fun σ6 =>
  (if y4 = 0 then
  fX9_misses_j98 y1 y2 y4 y5 y6 (nI 1) (y6 + (nI 1)) σ6
  else
  fX9_misses_j98 y1 y2 y4 y5 y6 (nI 2) (y6 + (nI 1)) σ6)
def fX9_misses_j48  (y1 : Int32) (y2 : Int32) (y4 : Int32) (y5 : Int32) (y6 : Int32) (σ : zSt) : Option (Int32 × zSt) :=
  (if 0 ≤ y6 then
  fX9_misses_j72 y1 y2 y4 y5 y6 σ
  else
  (fX9_oldestCopy y1 σ).bind fun x16 =>
  z_b2 (fX9_throwAway y1 x16 σ) fun x17 σ18 =>
  fX9_misses_j72 y1 y2 y4 (y5 + x17) x16 σ18)
def fX9_misses_j9  (y1 : Int32) (y2 : Int32) (w0 : Int32) (σ : zSt) : Option (Int32 × zSt) :=
  z_b2 (fX9_opensPage y2 σ) fun x1 σ2 =>
  z_b2 (fX9_reachesOthers y1 y2 w0 σ2) fun x3 σ4 =>
  (fX9_copyOf y1 y2 σ4).bind fun x5 =>
  (if 0 ≤ x5 then
  fX9_misses_j48 y1 y2 w0 (x1 + x3) x5 σ4
  else
  (fX9_copyOf y1 (-1) σ4).bind fun x19 =>
  fX9_misses_j48 y1 y2 w0 (x1 + x3) x19 σ4)
def fX9_misses (a0 : Int32) (a1 : Int32) (a2 : Int32) (σ : zSt) : Option (Int32 × zSt) :=
  (if a2 < 0 then
  fX9_misses_j9 a0 a1 (nI 0) σ
  else
  fX9_misses_j9 a0 a1 (nI 1) σ)
def fX9_serves_l149 (K149 : Int32 → Int32 → Int32 → Int32 → Int32 → zSt → Option (Int32 × zSt)) : Nat → Int32 → Int32 → Int32 → Int32 → Int32 → Int32 → zSt → Option (Int32 × zSt)
  | 0, _, _, _, _, _, _, _ => none
  | n + 1, y1, y2, y3, y5, y6, y7, σ =>
  (if y7 ≤ (nI 5) then
  K149 y1 y2 y3 y5 y6 σ
  else
  (z_ag (σ 0) 456 (((nI 384) + y7) - (nI 6))).bind fun x15 =>
  (z_sg σ 0 456 ((nI 384) + y7) x15).bind fun σ16 =>
  (fX9_serves_l149 K149 n) y1 y2 y3 y5 y6 (y7 + (-1)) σ16)
def fX9_serves_j287  (y5 : Int32) (w0 : Int32) (w1 : Int32) (w2 : Int32) (σ : zSt) : Option (Int32 × zSt) :=
  (z_sg σ 0 456 w2 (w1 + w0)).bind fun σ33 =>
  some (y5, σ33)
def fX9_serves_j220  (y5 : Int32) (y6 : Int32) (w0 : Int32) (w1 : Int32) (σ : zSt) : Option (Int32 × zSt) :=
  (z_sg σ 0 456 w1 w0).bind fun σ25 =>
  (z_ag (σ25 0) 456 (y6 + (nI 2))).bind fun x26 =>
  (z_sg σ25 0 456 (nI 387) x26).bind fun σ27 =>
  (z_sg σ27 0 456 (nI 388) y5).bind fun σ28 =>
  (z_ag (σ28 0) 456 (nI 4)).bind fun x29 =>
  (z_sg σ28 0 456 (nI 389) x29).bind fun σ30 =>
  (z_ag (σ30 0) 456 (nI 12)).bind fun x31 =>
  (z_ag (σ30 0) 456 (nI 12)).bind fun x32 =>
  (if (nI 12) ≤ x32 then
  fX9_serves_j287 y5 (nI 0) x31 (nI 12) σ30
  else
  fX9_serves_j287 y5 (nI 1) x31 (nI 12) σ30)
def fX9_serves_j132  (y1 : Int32) (y2 : Int32) (y3 : Int32) (y5 : Int32) (y6 : Int32) (w0 : Int32) (w1 : Int32) (w2 : Int32) (σ : zSt) : Option (Int32 × zSt) :=
  (z_sg σ 0 456 w2 (w1 + w0)).bind fun σ12 =>
  (z_ag (σ12 0) 456 (nI 5)).bind fun x13 =>
  (z_sg σ12 0 456 (nI 5) (x13 + y5)).bind fun σ14 =>
  fX9_serves_l149 (fun x17 x18 x19 x20 x21 σ22 => (z_sg σ22 0 456 (nI 384) x17).bind fun σ23 =>
  (z_sg σ23 0 456 (nI 385) x18).bind fun σ24 =>
  (if x19 < 0 then
  fX9_serves_j220 x20 x21 (nI 0) (nI 386) σ24
  else
  fX9_serves_j220 x20 x21 (nI 1) (nI 386) σ24)) z_fu y1 y2 y3 y5 y6 (nI 71) σ14
def fX9_serves_j112  (y1 : Int32) (y2 : Int32) (y3 : Int32) (y4 : Int32) (y5 : Int32) (y6 : Int32) (w0 : Int32) (w1 : Int32) (w2 : Int32) (σ : zSt) : Option (Int32 × zSt) :=
  (z_sg σ 0 456 w2 (w1 + w0)).bind fun σ10 =>
  (z_ag (σ10 0) 456 (nI 7)).bind fun x11 =>
  (if y4 = 0 then
  fX9_serves_j132 y1 y2 y3 y5 y6 (nI 1) x11 (nI 7) σ10
  else
  fX9_serves_j132 y1 y2 y3 y5 y6 (nI 0) x11 (nI 7) σ10)
def fX9_serves_j67  (y1 : Int32) (y2 : Int32) (y3 : Int32) (y4 : Int32) (y5 : Int32) (y6 : Int32) (σ : zSt) : Option (Int32 × zSt) :=
  (z_ag (σ 0) 456 (nI 13)).bind fun x5 =>
  (z_sg σ 0 456 (nI 13) (x5 + (nI 1))).bind fun σ6 =>
  (z_ag (σ6 0) 456 (nI 13)).bind fun x7 =>
  (z_sg σ6 0 456 (y6 + (nI 3)) x7).bind fun σ8 =>
  (z_ag (σ8 0) 456 (nI 6)).bind fun x9 =>
  (if y4 = 0 then
  fX9_serves_j112 y1 y2 y3 y4 y5 y6 (nI 0) x9 (nI 6) σ8
  else
  fX9_serves_j112 y1 y2 y3 y4 y5 y6 (nI 1) x9 (nI 6) σ8)
def fX9_serves_j33  (y1 : Int32) (y2 : Int32) (y3 : Int32) (y4 : Int32) (w0 : Int32) (σ : zSt) : Option (Int32 × zSt) :=
  (fX9_copyOf y1 y2 σ).bind fun x4 =>
  (if y3 < 0 then
  fX9_serves_j67 y1 y2 y3 y4 w0 x4 σ
  else
  (z_sg σ 0 456 (x4 + (nI 2)) y3).bind fun σ34 =>
  (z_sg σ34 0 456 ((nI 46) + y2) y3).bind fun σ35 =>
  fX9_serves_j67 y1 y2 y3 y4 w0 x4 σ35)
def fX9_serves_j12  (y1 : Int32) (y2 : Int32) (y3 : Int32) (w0 : Int32) (w1 : Int32) (w2 : Int32) (σ : zSt) : Option (Int32 × zSt) :=
  (fX9_isHit w2 w1 w0 σ).bind fun x1 =>
  (if x1 = 0 then
  z_b2 (fX9_misses y1 y2 y3 σ) fun x2 σ3 =>
  fX9_serves_j33 y1 y2 y3 x1 x2 σ3
  else
  fX9_serves_j33 y1 y2 y3 x1 (nI 0) σ)
def fX9_serves (a0 : Int32) (a1 : Int32) (a2 : Int32) (σ : zSt) : Option (Int32 × zSt) :=
  (if a2 < 0 then
  fX9_serves_j12 a0 a1 a2 (nI 0) a1 a0 σ
  else
  fX9_serves_j12 a0 a1 a2 (nI 1) a1 a0 σ)
def fX9_tick_j112  (C6 : Int32 → Int32 → Int32 → zSt → Option (Int32 × zSt)) (y2 : Int32) (y3 : Int32) (y4 : Int32) (y5 : Int32) (y6 : Int32) (w0 : Int32) (w1 : Int32) (σ : zSt) : Option (Int32 × zSt) :=
  (z_ag (σ 0) 456 (y5 + (nI 1))).bind fun x8 =>
  z_b2 (fX9_serves y4 y6 x8 σ) fun x9 σ10 =>
  (z_sg σ10 0 456 y5 (-1)).bind fun σ11 =>
  C6 (w1 ||| w0) (y2 + nI 1) (y3 + nI 1) σ11
def fX9_tick_j98  (C6 : Int32 → Int32 → Int32 → zSt → Option (Int32 × zSt)) (y1 : Int32) (y2 : Int32) (y3 : Int32) (y4 : Int32) (y5 : Int32) (y6 : Int32) (y7 : Int32) (σ : zSt) : Option (Int32 × zSt) :=
  (if y7 = 0 then
  fX9_tick_j112 C6 y2 y3 y4 y5 y6 ((nI 1) <<< (y6 &&& 31)) y1 σ
  else
  fX9_tick_j112 C6 y2 y3 y4 y5 y6 (nI 0) y1 σ)
def fX9_tick_j79  (C6 : Int32 → Int32 → Int32 → zSt → Option (Int32 × zSt)) (y1 : Int32) (y2 : Int32) (y3 : Int32) (y4 : Int32) (y5 : Int32) (y6 : Int32) (w0 : Int32) (w1 : Int32) (w2 : Int32) (σ : zSt) : Option (Int32 × zSt) :=
  (fX9_isHit w2 w1 w0 σ).bind fun x7 =>
  (if x7 = 0 then
  (if (((y1.toUInt32 >>> (y6.toUInt32 &&& Int32.toUInt32 31)).toInt32) &&& (nI 1)) = 0 then
  fX9_tick_j98 C6 y1 y2 y3 y4 y5 y6 x7 σ
  else
  (z_ag (σ 0) 456 (y5 + (nI 2))).bind fun x12 =>
  (z_sg σ 0 456 (y5 + (nI 2)) (x12 + (nI 1))).bind fun σ13 =>
  (z_ag (σ13 0) 456 (nI 8)).bind fun x14 =>
  (z_sg σ13 0 456 (nI 8) (x14 + (nI 1))).bind fun σ15 =>
  C6 y1 y2 (y3 + nI 1) σ15)
  else
  fX9_tick_j98 C6 y1 y2 y3 y4 y5 y6 x7 σ)
def fX9_tick_l6 (K6 : Int32 → zSt → Option (Int32 × zSt)) : Nat → Int32 → Int32 → Int32 → zSt → Option (Int32 × zSt)
  | 0, _, _, _, _ => none
  | n + 1, y1, y2, y3, σ =>
  (z_ag (σ 0) 456 (nI 0)).bind fun x1 =>
  (if x1 ≤ y3 then
  K6 y2 σ
  else
  (z_ag (σ 0) 456 (nI 4)).bind fun x2 =>
  (z_ag (σ 0) 456 (nI 0)).bind fun x3 =>
  (z_rm (x2 + y3) x3).bind fun x4 =>
  (z_ag (σ 0) 456 ((nI 366) + ((nI 3) * x4))).bind fun x5 =>
  (if x5 < 0 then
  (fX9_tick_l6 K6 n) y1 y2 (y3 + nI 1) σ
  else
  (z_ag (σ 0) 456 (((nI 366) + ((nI 3) * x4)) + (nI 1))).bind fun x6 =>
  (if x6 < 0 then
  fX9_tick_j79 (fX9_tick_l6 K6 n) y1 y2 y3 x4 ((nI 366) + ((nI 3) * x4)) x5 (nI 0) x5 x4 σ
  else
  fX9_tick_j79 (fX9_tick_l6 K6 n) y1 y2 y3 x4 ((nI 366) + ((nI 3) * x4)) x5 (nI 1) x5 x4 σ)))
def fX9_tick (σ : zSt) : Option (Int32 × zSt) :=
  fX9_tick_l6 (fun x16 σ17 => (z_ag (σ17 0) 456 (nI 4)).bind fun x18 =>
  (z_sg σ17 0 456 (nI 4) (x18 + (nI 1))).bind fun σ19 =>
  some (x16, σ19)) z_fu (nI 0) (nI 0) (nI 0) σ
def fX9_ticks_l4 (K4 : Int32 → zSt → Option (Int32 × zSt)) : Nat → Int32 → Int32 → Int32 → zSt → Option (Int32 × zSt)
  | 0, _, _, _, _ => none
  | n + 1, y1, y2, y3, σ =>
  (if y1 ≤ y3 then
  K4 y2 σ
  else
  z_b2 (fX9_tick  σ) fun x1 σ2 =>
  (fX9_ticks_l4 K4 n) y1 (y2 + x1) (y3 + nI 1) σ2)
def fX9_ticks (a0 : Int32) (σ : zSt) : Option (Int32 × zSt) :=
  fX9_ticks_l4 (fun x3 σ4 => some (x3, σ4)) z_fu a0 (nI 0) (nI 0) σ
def fX9_isCache (a0 : Int32) (σ : zSt) : Option (Int32) :=
  (z_ag (σ 0) 456 (nI 0)).bind fun x1 =>
  (fX9_in a0 (nI 0) (x1 - (nI 1)) σ).bind fun x2 =>
  z_bz x2
def fX9_doOrder_j86  (w0 : Int32) (σ : zSt) : Option (Int32 × zSt) :=
  (if w0 = 0 then
  (z_bz w0).bind fun r => some (r, σ)
  else
  (z_ag (σ 4) 4 (nI 1)).bind fun x4 =>
  (z_ag (σ 4) 4 (nI 2)).bind fun x5 =>
  (z_ag (σ 4) 4 (nI 3)).bind fun x6 =>
  z_b2 (fX9_asks x4 x5 x6 σ) fun x7 σ8 =>
  (z_bz w0).bind fun r => some (r, σ8))
def fX9_doOrder_j85  (σ : zSt) : Option (Int32 × zSt) :=
  fX9_doOrder_j86 (nI 0) σ
def fX9_doOrder_j49  (y1 : Int32) (w0 : Int32) (σ : zSt) : Option (Int32 × zSt) :=
  z_b2 (fX9_ticks w0 σ) fun x13 σ14 =>
  (z_bz y1).bind fun r => some (r, σ14)
def fX9_doOrder_j33  (w0 : Int32) (σ : zSt) : Option (Int32 × zSt) :=
  (if w0 = 0 then
  fX9_doOrder_j49 w0 (nI 0) σ
  else
  (z_ag (σ 4) 4 (nI 3)).bind fun x15 =>
  fX9_doOrder_j49 w0 x15 σ)
def fX9_doOrder (σ : zSt) : Option (Int32 × zSt) :=
  (z_ag (σ 4) 4 (nI 0)).bind fun x1 =>
  (if x1 = (nI 2) then
  (z_ag (σ 0) 456 (nI 4)).bind fun x11 =>
  (z_ag (σ 4) 4 (nI 3)).bind fun x12 =>
  (if (nI 100000) < (x11 + x12) then
  fX9_doOrder_j33 (nI 0) σ
  else
  fX9_doOrder_j33 (nI 1) σ)
  else
  (z_ag (σ 4) 4 (nI 1)).bind fun x2 =>
  (fX9_isCache x2 σ).bind fun x3 =>
  (if x3 = 0 then
  fX9_doOrder_j85 σ
  else
  (z_ag (σ 4) 4 (nI 1)).bind fun x9 =>
  (fX9_isAsking x9 σ).bind fun x10 =>
  (if x10 = 0 then
  fX9_doOrder_j86 (nI 1) σ
  else
  fX9_doOrder_j85 σ)))
def fX9_carryOut_l12 (K12 : Int32 → zSt → Option (Int32 × zSt)) : Nat → Int32 → zSt → Option (Int32 × zSt)
  | 0, _, _ => none
  | n + 1, y1, σ =>
  (if y1 = 0 then
  K12 y1 σ
  else
  (if (σ 6 0) ≤ (σ 8 0) then
  K12 y1 σ
  else
  z_b2 (fX9_readOrder  σ) fun x3 σ4 =>
  (fX9_carryOut_l12 K12 n) x3 σ4))
def fX9_carryOut_j93  (C58 : Int32 → Int32 → zSt → Option (Int32 × zSt)) (y1 : Int32) (w0 : Int32) (w1 : Int32) (σ : zSt) : Option (Int32 × zSt) :=
  C58 y1 (w1 + w0) σ
def fX9_carryOut_l58 (K58 : Int32 → zSt → Option (Int32 × zSt)) : Nat → Int32 → Int32 → zSt → Option (Int32 × zSt)
  | 0, _, _, _ => none
  | n + 1, y1, y2, σ =>
  (if y1 = 0 then
  K58 y2 σ
  else
  (if (σ 6 0) ≤ (σ 8 0) then
  K58 y2 σ
  else
  z_b2 (fX9_readOrder  σ) fun x9 σ10 =>
  z_b2 (fX9_doOrder  σ10) fun x11 σ12 =>
  (if x11 = 0 then
  fX9_carryOut_j93 (fX9_carryOut_l58 K58 n) x11 (nI 0) y2 σ12
  else
  fX9_carryOut_j93 (fX9_carryOut_l58 K58 n) x11 (nI 1) y2 σ12)))
def fX9_carryOut (σ : zSt) : Option (Int32 × zSt) :=
  (z_sf σ 7 (nI 0)).bind fun σ1 =>
  (z_sf σ1 8 (nI 0)).bind fun σ2 =>
  fX9_carryOut_l12 (fun x5 σ6 => (if x5 = 0 then
  some ((-10) - (σ6 8 0), σ6)
  else
  (fX9_save  σ6).bind fun σ7 =>
  (z_sf σ7 8 (nI 0)).bind fun σ8 =>
  fX9_carryOut_l58 (fun x13 σ14 => some (x13, σ14)) z_fu x5 (nI 0) σ8)) z_fu (nI 1) σ2
def fX9_isLine (a0 : Int32) (σ : zSt) : Option (Int32) :=
  (fX9_in a0 (nI 0) (nI 31) σ).bind fun x1 =>
  z_bz x1
def fX9_keep_l2 (K2 : zSt → Option (zSt)) : Nat → Int32 → zSt → Option (zSt)
  | 0, _, _ => none
  | n + 1, y1, σ =>
  (if (nI 456) ≤ y1 then
  K2 σ
  else
  (z_ag (σ 0) 456 y1).bind fun x1 =>
  (z_sg σ 1 456 y1 x1).bind fun σ2 =>
  (fX9_keep_l2 K2 n) (y1 + nI 1) σ2)
def fX9_keep (σ : zSt) : Option (zSt) :=
  fX9_keep_l2 (fun σ3 => some σ3) z_fu (nI 0) σ
def fX9_costOf_j16  (w0 : Int32) (w1 : Int32) (w2 : Int32) (σ : zSt) : Option (Int32 × zSt) :=
  z_b2 (fX9_serves w2 w1 w0 σ) fun x2 σ3 =>
  (fX9_bringBack  σ3).bind fun σ4 =>
  some (x2, σ4)
def fX9_costOf (a0 : Int32) (a1 : Int32) (a2 : Int32) (σ : zSt) : Option (Int32 × zSt) :=
  (fX9_keep  σ).bind fun σ1 =>
  (if a2 = 0 then
  fX9_costOf_j16 (-1) a1 a0 σ1
  else
  fX9_costOf_j16 (nI 0) a1 a0 σ1)
def fX9_cheapest_j66  (C32 : Int32 → Int32 → Int32 → Int32 → Int32 → zSt → Option (Int32 × zSt)) (y1 : Int32) (y2 : Int32) (y4 : Int32) (y5 : Int32) (y6 : Int32) (w0 : Int32) (σ : zSt) : Option (Int32 × zSt) :=
  (if y4 ≤ y6 then
  C32 y1 y2 w0 y4 (y5 + nI 1) σ
  else
  C32 y1 y2 w0 y6 (y5 + nI 1) σ)
def fX9_cheapest_l32 (K32 : Int32 → zSt → Option (Int32 × zSt)) : Nat → Int32 → Int32 → Int32 → Int32 → Int32 → zSt → Option (Int32 × zSt)
  | 0, _, _, _, _, _, _ => none
  | n + 1, y1, y2, y3, y4, y5, σ =>
  (z_ag (σ 0) 456 (nI 0)).bind fun x5 =>
  (if x5 ≤ y5 then
  K32 y3 σ
  else
  z_b2 (fX9_costOf y5 y1 y2 σ) fun x6 σ7 =>
  (if y4 ≤ x6 then
  fX9_cheapest_j66 (fX9_cheapest_l32 K32 n) y1 y2 y4 y5 x6 y3 σ7
  else
  fX9_cheapest_j66 (fX9_cheapest_l32 K32 n) y1 y2 y4 y5 x6 y5 σ7))
def fX9_cheapest (a0 : Int32) (a1 : Int32) (σ : zSt) : Option (Int32 × zSt) :=
  (z_sf σ 7 (nI 0)).bind fun σ1 =>
  (fX9_isLine a0 σ1).bind fun x2 =>
  (if x2 = 0 then
  z_b2 (fX9_fails (nI 1) σ1) fun x10 σ11 =>
  some (x10, σ11)
  else
  z_b2 (fX9_costOf (nI 0) a0 a1 σ1) fun x3 σ4 =>
  fX9_cheapest_l32 (fun x8 σ9 => some (x8, σ9)) z_fu a0 a1 (nI 0) x3 (nI 1) σ4)
def fX9_clearText (σ : zSt) : Option (Int32 × zSt) :=
  (z_sf σ 7 (nI 0)).bind fun σ1 =>
  (z_sf σ1 6 (nI 0)).bind fun σ2 =>
  some (σ1 6 0, σ2)
def fX9_copy_j20  (σ : zSt) : Option (Int32 × zSt) :=
  z_b2 (fX9_fails (nI 1) σ) fun x3 σ4 =>
  some (x3, σ4)
def fX9_copy (a0 : Int32) (a1 : Int32) (a2 : Int32) (σ : zSt) : Option (Int32 × zSt) :=
  (z_sf σ 7 (nI 0)).bind fun σ1 =>
  (fX9_isCache a0 σ1).bind fun x2 =>
  (if x2 = 0 then
  fX9_copy_j20 σ1
  else
  (fX9_isLine a1 σ1).bind fun x5 =>
  (if x5 = 0 then
  fX9_copy_j20 σ1
  else
  (fX9_in a2 (nI 0) (nI 3) σ1).bind fun x6 =>
  (if x6 = 0 then
  z_b2 (fX9_fails (nI 2) σ1) fun x7 σ8 =>
  some (x7, σ8)
  else
  (fX9_aboutCopy a0 a1 a2 σ1).bind fun x9 =>
  some (x9, σ1))))
def fX9_cost_j30  (σ : zSt) : Option (Int32 × zSt) :=
  z_b2 (fX9_fails (nI 1) σ) fun x3 σ4 =>
  some (x3, σ4)
def fX9_cost (a0 : Int32) (a1 : Int32) (a2 : Int32) (σ : zSt) : Option (Int32 × zSt) :=
  (z_sf σ 7 (nI 0)).bind fun σ1 =>
  (fX9_isCache a0 σ1).bind fun x2 =>
  (if x2 = 0 then
  fX9_cost_j30 σ1
  else
  (fX9_isLine a1 σ1).bind fun x5 =>
  (if x5 = 0 then
  fX9_cost_j30 σ1
  else
  z_b2 (fX9_costOf a0 a1 a2 σ1) fun x6 σ7 =>
  some (x6, σ7)))
def fX9_waiting_j28 (σ : zSt) (C4 : Int32 → Int32 → Option (Int32)) (y2 : Int32) (w0 : Int32) (w1 : Int32) : Option (Int32) :=
  C4 (w1 + w0) (y2 + nI 1)
def fX9_waiting_l4 (σ : zSt) (K4 : Int32 → Option (Int32)) : Nat → Int32 → Int32 → Option (Int32)
  | 0, _, _ => none
  | n + 1, y1, y2 =>
  (z_ag (σ 0) 456 (nI 0)).bind fun x1 =>
  (if x1 ≤ y2 then
  K4 y1
  else
  (fX9_isAsking y2 σ).bind fun x2 =>
  (if x2 = 0 then
  fX9_waiting_j28 σ (fX9_waiting_l4 σ K4 n) y2 (nI 0) y1
  else
  fX9_waiting_j28 σ (fX9_waiting_l4 σ K4 n) y2 (nI 1) y1))
def fX9_waiting (σ : zSt) : Option (Int32) :=
  fX9_waiting_l4 σ (fun x3 => some x3) z_fu (nI 0) (nI 0)
def fX9_number (a0 : Int32) (σ : zSt) : Option (Int32) :=
  (if a0 = (nI 12) then
  (fX9_waiting  σ).bind fun x3 =>
  some x3
  else
  (if a0 = (nI 13) then
  (z_ag (σ 0) 456 (nI 12)).bind fun x2 =>
  some x2
  else
  (z_ag (σ 0) 456 a0).bind fun x1 =>
  some x1))
def fX9_nextTorn (σ : zSt) : Option (Int32 × zSt) :=
  (z_sf σ 7 (nI 0)).bind fun σ1 =>
  (z_ag (σ1 0) 456 (nI 3)).bind fun x2 =>
  (z_ag (σ1 0) 456 (nI 2)).bind fun x3 =>
  (if x2 = x3 then
  (fX9_oldestPage  σ1).bind fun x4 =>
  (z_ag (σ1 0) 456 x4).bind fun x5 =>
  some (x5, σ1)
  else
  some ((-1), σ1))
def fX9_digest_l17 (K17 : Int64 → zSt → Option (Int64 × zSt)) : Nat → Int64 → Int32 → zSt → Option (Int64 × zSt)
  | 0, _, _, _ => none
  | n + 1, y1, y3, σ =>
  (if (nI 14) ≤ y3 then
  K17 y1 σ
  else
  (fX9_number y3 σ).bind fun x2 =>
  (fX9_digest_l17 K17 n) (((31 : Int64) * y1) + x2.toInt64) (y3 + nI 1) σ)
def fX9_digest_l53 (K53 : Int64 → Int32 → zSt → Option (Int64 × zSt)) : Nat → Int64 → Int32 → Int32 → zSt → Option (Int64 × zSt)
  | 0, _, _, _, _ => none
  | n + 1, y1, y3, y4, σ =>
  (if (nI 8) ≤ y4 then
  K53 y1 y3 σ
  else
  (fX9_aboutLine y3 y4 σ).bind fun x5 =>
  (fX9_digest_l53 K53 n) (((31 : Int64) * y1) + x5.toInt64) y3 (y4 + nI 1) σ)
def fX9_digest_l84 (K84 : Int64 → Int32 → zSt → Option (Int64 × zSt)) : Nat → Int64 → Int32 → Int32 → zSt → Option (Int64 × zSt)
  | 0, _, _, _, _ => none
  | n + 1, y1, y3, y4, σ =>
  (z_ag (σ 0) 456 (nI 0)).bind fun x9 =>
  (if ((nI 4) * x9) ≤ y4 then
  K84 y1 y3 σ
  else
  (z_dv y4 (nI 4)).bind fun x10 =>
  (z_rm y4 (nI 4)).bind fun x11 =>
  (fX9_aboutCopy x10 y3 x11 σ).bind fun x12 =>
  (fX9_digest_l84 K84 n) (((31 : Int64) * y1) + x12.toInt64) y3 (y4 + nI 1) σ)
def fX9_digest_l44 (K44 : Int64 → zSt → Option (Int64 × zSt)) : Nat → Int64 → Int32 → zSt → Option (Int64 × zSt)
  | 0, _, _, _ => none
  | n + 1, y1, y3, σ =>
  (if (nI 32) ≤ y3 then
  K44 y1 σ
  else
  fX9_digest_l53 (fun x6 x7 σ8 => fX9_digest_l84 (fun x13 x14 σ15 => (fX9_digest_l44 K44 n) x13 (x14 + nI 1) σ15) z_fu x6 x7 (nI 0) σ8) z_fu y1 y3 (nI 0) σ)
def fX9_digest_l132 (K132 : Int64 → zSt → Option (Int64 × zSt)) : Nat → Int64 → Int32 → zSt → Option (Int64 × zSt)
  | 0, _, _, _ => none
  | n + 1, y1, y3, σ =>
  (z_ag (σ 0) 456 (nI 0)).bind fun x18 =>
  (if ((nI 3) * x18) ≤ y3 then
  K132 y1 σ
  else
  (z_dv y3 (nI 3)).bind fun x19 =>
  (z_rm y3 (nI 3)).bind fun x20 =>
  (fX9_aboutPending x19 x20 σ).bind fun x21 =>
  (fX9_digest_l132 K132 n) (((31 : Int64) * y1) + x21.toInt64) (y3 + nI 1) σ)
def fX9_digest_l170 (K170 : Int64 → zSt → Option (Int64 × zSt)) : Nat → Int64 → Int32 → zSt → Option (Int64 × zSt)
  | 0, _, _, _ => none
  | n + 1, y1, y3, σ =>
  (z_ag (σ 0) 456 (nI 12)).bind fun x24 =>
  (if ((nI 6) * x24) ≤ y3 then
  K170 y1 σ
  else
  (z_ag (σ 0) 456 ((nI 384) + y3)).bind fun x25 =>
  (fX9_digest_l170 K170 n) (((31 : Int64) * y1) + x25.toInt64) (y3 + nI 1) σ)
def fX9_digest (σ : zSt) : Option (Int64 × zSt) :=
  (z_sf σ 7 (nI 0)).bind fun σ1 =>
  fX9_digest_l17 (fun x3 σ4 => fX9_digest_l44 (fun x16 σ17 => fX9_digest_l132 (fun x22 σ23 => fX9_digest_l170 (fun x26 σ27 => z_b2 (fX9_nextTorn  σ27) fun x28 σ29 =>
  some (((31 : Int64) * (((31 : Int64) * x26) + x28.toInt64)) + ((σ29 5 0).toInt64), σ29)) z_fu x22 (nI 0) σ23) z_fu x16 (nI 0) σ17) z_fu x3 (nI 0) σ4) z_fu ((113987 : Int64) + ((σ1 6 0).toInt64)) (nI 0) σ1
def fX9_drop_j20  (σ : zSt) : Option (Int32 × zSt) :=
  z_b2 (fX9_fails (nI 1) σ) fun x3 σ4 =>
  some (x3, σ4)
def fX9_drop (a0 : Int32) (a1 : Int32) (σ : zSt) : Option (Int32 × zSt) :=
  (z_sf σ 7 (nI 0)).bind fun σ1 =>
  (fX9_isCache a0 σ1).bind fun x2 =>
  (if x2 = 0 then
  fX9_drop_j20 σ1
  else
  (fX9_isLine a1 σ1).bind fun x5 =>
  (if x5 = 0 then
  fX9_drop_j20 σ1
  else
  (fX9_copyOf a0 a1 σ1).bind fun x6 =>
  (if 0 ≤ x6 then
  (fX9_save  σ1).bind fun σ7 =>
  z_b2 (fX9_throwAway a0 x6 σ7) fun x8 σ9 =>
  (z_ag (σ9 0) 456 (nI 5)).bind fun x10 =>
  (z_sg σ9 0 456 (nI 5) (x10 + x8)).bind fun σ11 =>
  some (x8, σ11)
  else
  z_b2 (fX9_fails (nI 2) σ1) fun x12 σ13 =>
  some (x12, σ13))))
def fX9_entry (a0 : Int32) (a1 : Int32) (σ : zSt) : Option (Int32 × zSt) :=
  (z_sf σ 7 (nI 0)).bind fun σ1 =>
  (z_ag (σ1 0) 456 (nI 12)).bind fun x2 =>
  (fX9_in a0 (nI 0) (x2 - (nI 1)) σ1).bind fun x3 =>
  (if x3 = 0 then
  z_b2 (fX9_fails (nI 1) σ1) fun x8 σ9 =>
  some (x8, σ9)
  else
  (fX9_in a1 (nI 0) (nI 5) σ1).bind fun x4 =>
  (if x4 = 0 then
  z_b2 (fX9_fails (nI 2) σ1) fun x5 σ6 =>
  some (x5, σ6)
  else
  (z_ag (σ1 0) 456 (((nI 384) + ((nI 6) * a0)) + a1)).bind fun x7 =>
  some (x7, σ1)))
def fX9_line (a0 : Int32) (a1 : Int32) (σ : zSt) : Option (Int32 × zSt) :=
  (z_sf σ 7 (nI 0)).bind fun σ1 =>
  (fX9_isLine a0 σ1).bind fun x2 =>
  (if x2 = 0 then
  z_b2 (fX9_fails (nI 1) σ1) fun x7 σ8 =>
  some (x7, σ8)
  else
  (fX9_in a1 (nI 0) (nI 7) σ1).bind fun x3 =>
  (if x3 = 0 then
  z_b2 (fX9_fails (nI 2) σ1) fun x4 σ5 =>
  some (x4, σ5)
  else
  (fX9_aboutLine a0 a1 σ1).bind fun x6 =>
  some (x6, σ1)))
def fX9_nextDropped (a0 : Int32) (σ : zSt) : Option (Int32 × zSt) :=
  (z_sf σ 7 (nI 0)).bind fun σ1 =>
  (fX9_isCache a0 σ1).bind fun x2 =>
  (if x2 = 0 then
  z_b2 (fX9_fails (nI 1) σ1) fun x6 σ7 =>
  some (x6, σ7)
  else
  (fX9_copyOf a0 (-1) σ1).bind fun x3 =>
  (if x3 < 0 then
  (fX9_oldestCopy a0 σ1).bind fun x4 =>
  (z_ag (σ1 0) 456 x4).bind fun x5 =>
  some (x5, σ1)
  else
  some ((-1), σ1)))
def fX9_ones_l4 (σ : zSt) (K4 : Int32 → Option (Int32)) : Nat → Int32 → Int32 → Option (Int32)
  | 0, _, _ => none
  | n + 1, y1, y2 =>
  (if y2 = 0 then
  K4 y1
  else
  (fX9_ones_l4 σ K4 n) (y1 + nI 1) (y2 &&& (y2 - (nI 1))))
def fX9_ones (a0 : Int32) (σ : zSt) : Option (Int32) :=
  fX9_ones_l4 σ (fun x1 => some x1) z_fu (nI 0) a0
def fX9_pass (a0 : Int32) (σ : zSt) : Option (Int32 × zSt) :=
  (z_sf σ 7 (nI 0)).bind fun σ1 =>
  (fX9_in a0 (nI 1) (nI 100) σ1).bind fun x2 =>
  (if x2 = 0 then
  z_b2 (fX9_fails (nI 1) σ1) fun x9 σ10 =>
  some (x9, σ10)
  else
  (z_ag (σ1 0) 456 (nI 4)).bind fun x3 =>
  (if (x3 + a0) ≤ (nI 100000) then
  (fX9_save  σ1).bind fun σ4 =>
  z_b2 (fX9_ticks a0 σ4) fun x5 σ6 =>
  some (x5, σ6)
  else
  z_b2 (fX9_fails (nI 2) σ1) fun x7 σ8 =>
  some (x7, σ8)))
def fX9_pending (a0 : Int32) (a1 : Int32) (σ : zSt) : Option (Int32 × zSt) :=
  (z_sf σ 7 (nI 0)).bind fun σ1 =>
  (fX9_isCache a0 σ1).bind fun x2 =>
  (if x2 = 0 then
  z_b2 (fX9_fails (nI 1) σ1) fun x7 σ8 =>
  some (x7, σ8)
  else
  (fX9_in a1 (nI 0) (nI 2) σ1).bind fun x3 =>
  (if x3 = 0 then
  z_b2 (fX9_fails (nI 2) σ1) fun x4 σ5 =>
  some (x4, σ5)
  else
  (fX9_aboutPending a0 a1 σ1).bind fun x6 =>
  some (x6, σ1)))
def fX9_read_j20  (σ : zSt) : Option (Int32 × zSt) :=
  z_b2 (fX9_fails (nI 1) σ) fun x3 σ4 =>
  some (x3, σ4)
def fX9_read (a0 : Int32) (a1 : Int32) (σ : zSt) : Option (Int32 × zSt) :=
  (z_sf σ 7 (nI 0)).bind fun σ1 =>
  (fX9_isCache a0 σ1).bind fun x2 =>
  (if x2 = 0 then
  fX9_read_j20 σ1
  else
  (fX9_isLine a1 σ1).bind fun x5 =>
  (if x5 = 0 then
  fX9_read_j20 σ1
  else
  (fX9_isAsking a0 σ1).bind fun x6 =>
  (if x6 = 0 then
  (fX9_save  σ1).bind fun σ7 =>
  z_b2 (fX9_asks a0 a1 (-1) σ7) fun x8 σ9 =>
  some (x8, σ9)
  else
  z_b2 (fX9_fails (nI 2) σ1) fun x10 σ11 =>
  some (x10, σ11))))
def fX9_takeBack (a0 : Int32) (σ : zSt) : Option (Int32 × zSt) :=
  (z_sf σ 7 (nI 0)).bind fun σ1 =>
  (fX9_isCache a0 σ1).bind fun x2 =>
  (if x2 = 0 then
  z_b2 (fX9_fails (nI 1) σ1) fun x9 σ10 =>
  some (x9, σ10)
  else
  (fX9_isAsking a0 σ1).bind fun x3 =>
  (if x3 = 0 then
  z_b2 (fX9_fails (nI 2) σ1) fun x7 σ8 =>
  some (x7, σ8)
  else
  (fX9_save  σ1).bind fun σ4 =>
  (z_ag (σ4 0) 456 ((nI 366) + ((nI 3) * a0))).bind fun x5 =>
  (z_sg σ4 0 456 ((nI 366) + ((nI 3) * a0)) (-1)).bind fun σ6 =>
  some (x5, σ6)))
def fX9_tear_j65  (y2 : Int32) (w0 : Int32) (w1 : Int32) (σ : zSt) : Option (Int32 × zSt) :=
  (fX9_tearOut y2 σ).bind fun σ8 =>
  some (w1 + w0, σ8)
def fX9_tear (a0 : Int32) (σ : zSt) : Option (Int32 × zSt) :=
  (z_sf σ 7 (nI 0)).bind fun σ1 =>
  (fX9_isLine a0 σ1).bind fun x2 =>
  (if x2 = 0 then
  z_b2 (fX9_fails (nI 1) σ1) fun x11 σ12 =>
  some (x11, σ12)
  else
  (fX9_pageOf a0 σ1).bind fun x3 =>
  (if 0 ≤ x3 then
  (fX9_save  σ1).bind fun σ4 =>
  (z_ag (σ4 0) 456 (x3 + (nI 2))).bind fun x5 =>
  (fX9_ones x5 σ4).bind fun x6 =>
  (z_ag (σ4 0) 456 (x3 + (nI 1))).bind fun x7 =>
  (if x7 < 0 then
  fX9_tear_j65 x3 (nI 0) x6 σ4
  else
  fX9_tear_j65 x3 (nI 1) x6 σ4)
  else
  z_b2 (fX9_fails (nI 2) σ1) fun x9 σ10 =>
  some (x9, σ10)))
def fX9_thrown (σ : zSt) : Option (Int32) :=
  some (σ 7 0)
def fX9_ticksToServe_l11 (K11 : Int32 → zSt → Option (Int32 × zSt)) : Nat → Int32 → zSt → Option (Int32 × zSt)
  | 0, _, _ => none
  | n + 1, y1, σ =>
  (fX9_waiting  σ).bind fun x3 =>
  (if x3 ≤ 0 then
  K11 y1 σ
  else
  (if (nI 6) ≤ y1 then
  K11 y1 σ
  else
  z_b2 (fX9_tick  σ) fun x4 σ5 =>
  (fX9_ticksToServe_l11 K11 n) (y1 + nI 1) σ5))
def fX9_ticksToServe (σ : zSt) : Option (Int32 × zSt) :=
  (z_sf σ 7 (nI 0)).bind fun σ1 =>
  (fX9_keep  σ1).bind fun σ2 =>
  fX9_ticksToServe_l11 (fun x6 σ7 => (fX9_bringBack  σ7).bind fun σ8 =>
  some (x6, σ8)) z_fu (nI 0) σ2
def fX9_undo_l30 (K30 : zSt → Option (Int32 × zSt)) : Nat → Int32 → zSt → Option (Int32 × zSt)
  | 0, _, _ => none
  | n + 1, y1, σ =>
  (if (nI 456) ≤ y1 then
  K30 σ
  else
  (z_ag (σ 2) 1824 (((nI 456) * (σ 5 0)) + y1)).bind fun x3 =>
  (z_sg σ 0 456 y1 x3).bind fun σ4 =>
  (fX9_undo_l30 K30 n) (y1 + nI 1) σ4)
def fX9_undo (σ : zSt) : Option (Int32 × zSt) :=
  (z_sf σ 7 (nI 0)).bind fun σ1 =>
  (if (σ1 5 0) = 0 then
  z_b2 (fX9_fails (nI 1) σ1) fun x6 σ7 =>
  some (x6, σ7)
  else
  (z_sf σ1 5 ((σ1 5 0) - (nI 1))).bind fun σ2 =>
  fX9_undo_l30 (fun σ5 => some (σ5 5 0, σ5)) z_fu (nI 0) σ2)
def fX9_value (a0 : Int32) (σ : zSt) : Option (Int32 × zSt) :=
  (z_sf σ 7 (nI 0)).bind fun σ1 =>
  (fX9_in a0 (nI 0) (nI 13) σ1).bind fun x2 =>
  (if x2 = 0 then
  z_b2 (fX9_fails (nI 1) σ1) fun x3 σ4 =>
  some (x3, σ4)
  else
  (fX9_number a0 σ1).bind fun x5 =>
  some (x5, σ1))
def fX9_write_j20  (σ : zSt) : Option (Int32 × zSt) :=
  z_b2 (fX9_fails (nI 1) σ) fun x3 σ4 =>
  some (x3, σ4)
def fX9_write (a0 : Int32) (a1 : Int32) (a2 : Int32) (σ : zSt) : Option (Int32 × zSt) :=
  (z_sf σ 7 (nI 0)).bind fun σ1 =>
  (fX9_isCache a0 σ1).bind fun x2 =>
  (if x2 = 0 then
  fX9_write_j20 σ1
  else
  (fX9_isLine a1 σ1).bind fun x5 =>
  (if x5 = 0 then
  fX9_write_j20 σ1
  else
  (fX9_in a2 (nI 0) (nI 999) σ1).bind fun x6 =>
  (if x6 = 0 then
  z_b2 (fX9_fails (nI 2) σ1) fun x13 σ14 =>
  some (x13, σ14)
  else
  (fX9_isAsking a0 σ1).bind fun x7 =>
  (if x7 = 0 then
  (fX9_save  σ1).bind fun σ8 =>
  z_b2 (fX9_asks a0 a1 a2 σ8) fun x9 σ10 =>
  some (x9, σ10)
  else
  z_b2 (fX9_fails (nI 3) σ1) fun x11 σ12 =>
  some (x11, σ12)))))
