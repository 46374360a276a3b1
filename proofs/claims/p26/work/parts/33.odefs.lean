/-! a machine, method by method, as partial functions that follow its bytecode (by wip/tools/gworld.py) -/
def fX5_isTicks (a0 : Int32) (σ : zSt) : Option (Int32) :=
  (z_ag (σ 0) 34 a0).bind fun x1 =>
  (if x1 = (-1) then
  z_bz (nI 1)
  else
  z_bz (nI 0))
def fX5_keepOrder_j72  (σ : zSt) : Option (zSt) :=
  (z_sf σ 4 (nI 0)).bind fun σ1 =>
  some σ1
def fX5_keepOrder_j61  (w0 : Int32) (w1 : Int32) (σ : zSt) : Option (zSt) :=
  (z_sg σ 2 34 w1 w0).bind fun σ4 =>
  (z_sf σ4 3 ((σ4 3 0) + (nI 1))).bind fun σ5 =>
  fX5_keepOrder_j72 σ5
def fX5_keepOrder (σ : zSt) : Option (zSt) :=
  (if (nI 34) ≤ (σ 3 0) then
  fX5_keepOrder_j72 σ
  else
  (z_sg σ 0 34 (σ 3 0) (σ 6 0)).bind fun σ2 =>
  (z_sg σ2 1 34 (σ2 3 0) (σ2 7 0)).bind fun σ3 =>
  (z_pq (σ3 4 0) (nI 3)).bind fun b => (if b = true then
  fX5_keepOrder_j61 (-1) (σ3 3 0) σ3
  else
  fX5_keepOrder_j61 (σ3 8 0) (σ3 3 0) σ3))
def fX5_startNumber (a0 : Int32) (σ : zSt) : Option (zSt) :=
  (z_sf σ 4 a0).bind fun σ1 =>
  (z_sf σ1 8 (nI 0)).bind fun σ2 =>
  (z_sf σ2 9 (nI 0)).bind fun σ3 =>
  some σ3
def fX5_takeKind_j44  (w0 : Int32) (σ : zSt) : Option (Int32 × zSt) :=
  (z_sz σ 5 w0).bind fun σ1 =>
  (z_sf σ1 4 (nI 1)).bind fun σ2 =>
  (z_bz (nI 1)).bind fun r => some (r, σ2)
def fX5_takeKind_j32  (y1 : Int32) (σ : zSt) : Option (Int32 × zSt) :=
  (if y1 = (nI 119) then
  fX5_takeKind_j44 (nI 1) σ
  else
  fX5_takeKind_j44 (nI 0) σ)
def fX5_takeKind (a0 : Int32) (σ : zSt) : Option (Int32 × zSt) :=
  (if a0 = (nI 116) then
  (z_sf σ 6 (-1)).bind fun σ3 =>
  (fX5_startNumber (nI 5) σ3).bind fun σ4 =>
  (z_bz (nI 1)).bind fun r => some (r, σ4)
  else
  (if a0 = (nI 114) then
  fX5_takeKind_j32 a0 σ
  else
  (if a0 = (nI 119) then
  fX5_takeKind_j32 a0 σ
  else
  (if a0 = (-1) then
  (z_bz (nI 1)).bind fun r => some (r, σ)
  else
  (z_bz (nI 0)).bind fun r => some (r, σ)))))
def fX5_takeCache (a0 : Int32) (σ : zSt) : Option (Int32 × zSt) :=
  (if a0 < (nI 48) then
  (z_bz (nI 0)).bind fun r => some (r, σ)
  else
  (if a0 ≤ (nI 53) then
  (z_sf σ 6 (a0 - (nI 48))).bind fun σ1 =>
  (z_sf σ1 4 (nI 2)).bind fun σ2 =>
  (z_bz (nI 1)).bind fun r => some (r, σ2)
  else
  (z_bz (nI 0)).bind fun r => some (r, σ)))
def fX5_takeColon (a0 : Int32) (σ : zSt) : Option (Int32 × zSt) :=
  (if a0 = (nI 58) then
  (fX5_startNumber (nI 3) σ).bind fun σ1 =>
  (z_bz (nI 1)).bind fun r => some (r, σ1)
  else
  (z_bz (nI 0)).bind fun r => some (r, σ))
def fX5_takeDigit_j28  (y1 : Int32) (σ : zSt) : Option (Int32 × zSt) :=
  (z_sf σ 8 (((σ 8 0) * (nI 10)) + y1)).bind fun σ2 =>
  (z_sf σ2 9 ((σ2 9 0) + (nI 1))).bind fun σ3 =>
  some ((-1), σ3)
def fX5_takeDigit (a0 : Int32) (a1 : Int32) (σ : zSt) : Option (Int32 × zSt) :=
  (z_tab [0, 0, 0, 2, 3, 2] (σ 4 0)).bind fun x1 =>
  (if (σ 9 0) = x1 then
  some (a1, σ)
  else
  (if (σ 9 0) = 0 then
  (z_sf σ 10 a1).bind fun σ4 =>
  fX5_takeDigit_j28 a0 σ4
  else
  fX5_takeDigit_j28 a0 σ))
def fX5_takeOfNumber_j59  (σ : zSt) : Option (Int32 × zSt) :=
  some (σ 10 0, σ)
def fX5_takeOfNumber_j122  (y3 : Int32) (σ : zSt) : Option (Int32 × zSt) :=
  (if y3 = 0 then
  (fX5_keepOrder  σ).bind fun σ3 =>
  some ((-1), σ3)
  else
  (fX5_startNumber (nI 4) σ).bind fun σ4 =>
  some ((-1), σ4))
def fX5_takeOfNumber_j99  (y2 : Int32) (y3 : Int32) (w0 : Int32) (w1 : Int32) (σ : zSt) : Option (Int32 × zSt) :=
  (if w1 = w0 then
  (z_pq (σ 4 0) (nI 3)).bind fun b => (if b = true then
  (z_sf σ 7 (σ 8 0)).bind fun σ5 =>
  fX5_takeOfNumber_j122 y3 σ5
  else
  fX5_takeOfNumber_j122 y3 σ)
  else
  some (y2, σ))
def fX5_takeOfNumber_j86  (y1 : Int32) (y2 : Int32) (w0 : Int32) (σ : zSt) : Option (Int32 × zSt) :=
  (if w0 = 0 then
  fX5_takeOfNumber_j99 y2 w0 (nI 59) y1 σ
  else
  fX5_takeOfNumber_j99 y2 w0 (nI 61) y1 σ)
def fX5_takeOfNumber_j85  (y1 : Int32) (y2 : Int32) (σ : zSt) : Option (Int32 × zSt) :=
  fX5_takeOfNumber_j86 y1 y2 (nI 0) σ
def fX5_takeOfNumber_j22  (y1 : Int32) (y2 : Int32) (σ : zSt) : Option (Int32 × zSt) :=
  (if (σ 9 0) = 0 then
  some (y2, σ)
  else
  (z_tab [0, 0, 0, 0, 0, 1] (σ 4 0)).bind fun x1 =>
  (if (σ 8 0) < x1 then
  fX5_takeOfNumber_j59 σ
  else
  (z_tab [0, 0, 0, 31, 999, 50] (σ 4 0)).bind fun x2 =>
  (if (σ 8 0) ≤ x2 then
  (if (σ 5 0) = 0 then
  fX5_takeOfNumber_j85 y1 y2 σ
  else
  (z_pq (σ 4 0) (nI 3)).bind fun b => (if b = true then
  fX5_takeOfNumber_j86 y1 y2 (nI 1) σ
  else
  fX5_takeOfNumber_j85 y1 y2 σ))
  else
  fX5_takeOfNumber_j59 σ)))
def fX5_takeOfNumber (a0 : Int32) (a1 : Int32) (σ : zSt) : Option (Int32 × zSt) :=
  (if a0 < (nI 48) then
  fX5_takeOfNumber_j22 a0 a1 σ
  else
  (if (nI 57) < a0 then
  fX5_takeOfNumber_j22 a0 a1 σ
  else
  z_b2 (fX5_takeDigit (a0 - (nI 48)) a1 σ) fun x6 σ7 =>
  some (x6, σ7)))
def fX5_take (a0 : Int32) (a1 : Int32) (σ : zSt) : Option (Int32 × zSt) :=
  (z_pq (σ 4 0) (nI 0)).bind fun b => (if b = true then
  z_b2 (fX5_takeKind a0 σ) fun x7 σ8 =>
  (if x7 = 0 then
  some (a1, σ8)
  else
  some ((-1), σ8))
  else
  (z_pq (σ 4 0) (nI 1)).bind fun b => (if b = true then
  z_b2 (fX5_takeCache a0 σ) fun x5 σ6 =>
  (if x5 = 0 then
  some (a1, σ6)
  else
  some ((-1), σ6))
  else
  (z_pq (σ 4 0) (nI 2)).bind fun b => (if b = true then
  z_b2 (fX5_takeColon a0 σ) fun x3 σ4 =>
  (if x3 = 0 then
  some (a1, σ4)
  else
  some ((-1), σ4))
  else
  z_b2 (fX5_takeOfNumber a0 a1 σ) fun x1 σ2 =>
  some (x1, σ2))))
def fX5_readAll_j37  (C14 : Int32 → Int32 → zSt → Option (Int32 × zSt)) (y2 : Int32) (y3 : Int32) (w0 : Int32) (σ : zSt) : Option (Int32 × zSt) :=
  z_b2 (fX5_take w0 y3 σ) fun x3 σ4 =>
  (if x3 = (-1) then
  C14 y2 (y3 + nI 1) σ4
  else
  some (x3, σ4))
def fX5_readAll_j36  (C14 : Int32 → Int32 → zSt → Option (Int32 × zSt)) (y2 : Int32) (y3 : Int32) (σ : zSt) : Option (Int32 × zSt) :=
  fX5_readAll_j37 C14 y2 y3 (-1) σ
def fX5_readAll_l14 (K14 : zSt → Option (Int32 × zSt)) : Nat → Int32 → Int32 → zSt → Option (Int32 × zSt)
  | 0, _, _, _ => none
  | n + 1, y2, y3, σ =>
  (if y2 < y3 then
  K14 σ
  else
  (if y2 ≤ y3 then
  fX5_readAll_j36 (fX5_readAll_l14 K14 n) y2 y3 σ
  else
  (if (nI 100) ≤ y3 then
  fX5_readAll_j36 (fX5_readAll_l14 K14 n) y2 y3 σ
  else
  (z_ag (σ 11) 100 y3).bind fun x5 =>
  fX5_readAll_j37 (fX5_readAll_l14 K14 n) y2 y3 x5 σ)))
def fX5_readAll (a1 : Int32) (σ : zSt) : Option (Int32 × zSt) :=
  (z_sf σ 3 (nI 0)).bind fun σ1 =>
  (z_sf σ1 4 (nI 0)).bind fun σ2 =>
  fX5_readAll_l14 (fun σ6 => some ((-1), σ6)) z_fu a1 (nI 0) σ2
