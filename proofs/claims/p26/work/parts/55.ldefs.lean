/-! the law, method by method, as partial functions that follow its bytecode (by wip/tools/rworld.py) -/
def fL_ones_l4 (σ : cSt) (K4 : Int32 → Option (Int32)) : Nat → Int32 → Int32 → Int32 → Option (Int32)
  | 0, _, _, _ => none
  | n + 1, y0, y1, y2 =>
  (if (nI 8) ≤ y2 then
  K4 y1
  else
  (fL_ones_l4 σ K4 n) y0 (y1 + ((y0 >>> (y2 &&& 31)) &&& (nI 1))) (y2 + nI 1))
def fL_ones (a0 : Int32) (σ : cSt) : Option (Int32) :=
  fL_ones_l4 σ (fun x1 => some x1) z_fu a0 (nI 0) (nI 0)
def fL_acts_j269  (y1 : Int32) (σ : cSt) : Option (Int32 × cSt) :=
  (z_rm (y1 >>> ((nI 11) &&& 31)) (nI 2)).bind fun x5 =>
  z_b2 (fX8_pass ((nI 1) + x5) σ) fun x6 σ7 =>
  some (x6, σ7)
def fL_acts_j259  (w0 : Int32) (w1 : Int32) (σ : cSt) : Option (Int32 × cSt) :=
  (if w1 = w0 then
  some (nI 0, σ)
  else
  some ((-2), σ))
def fL_acts_j229  (y3 : Int32) (w0 : Int32) (w1 : Int32) (σ : cSt) : Option (Int32 × cSt) :=
  z_b2 (fX8_tear y3 σ) fun x12 σ13 =>
  (if x12 = (w1 + w0) then
  (fX8_line y3 (nI 7) σ13).bind fun x14 =>
  (if (w1 + w0) ≤ 0 then
  fL_acts_j259 (nI 0) x14 σ13
  else
  fL_acts_j259 (nI 1) x14 σ13)
  else
  some ((-2), σ13))
def fL_acts_j189  (y1 : Int32) (y3 : Int32) (y4 : Int32) (σ : cSt) : Option (Int32 × cSt) :=
  (if y4 = (nI 7) then
  (fX8_line y3 (nI 4) σ).bind fun x8 =>
  (if x8 = (nI 1) then
  (fX8_line y3 (nI 3) σ).bind fun x9 =>
  (fL_ones x9 σ).bind fun x10 =>
  (fX8_line y3 (nI 2) σ).bind fun x11 =>
  (if x11 < 0 then
  fL_acts_j229 y3 (nI 0) x10 σ
  else
  fL_acts_j229 y3 (nI 1) x10 σ)
  else
  fL_acts_j269 y1 σ)
  else
  fL_acts_j269 y1 σ)
def fL_acts_j133  (y1 : Int32) (y2 : Int32) (y3 : Int32) (y4 : Int32) (σ : cSt) : Option (Int32 × cSt) :=
  (if y4 = (nI 6) then
  (fX8_copy y2 y3 (nI 0) σ).bind fun x15 =>
  (if x15 ≤ 0 then
  fL_acts_j189 y1 y3 y4 σ
  else
  (fX8_copy y2 y3 (nI 0) σ).bind fun x16 =>
  z_b2 (fX8_drop y2 y3 σ) fun x17 σ18 =>
  (if x17 = (x16 - (nI 1)) then
  (fX8_copy y2 y3 (nI 0) σ18).bind fun x19 =>
  (if x19 = 0 then
  some (nI 0, σ18)
  else
  some ((-2), σ18))
  else
  some ((-2), σ18)))
  else
  fL_acts_j189 y1 y3 y4 σ)
def fL_acts_j123  (w0 : Int32) (w1 : Int32) (σ : cSt) : Option (Int32 × cSt) :=
  (if w1 = w0 then
  some (nI 0, σ)
  else
  some ((-2), σ))
def fL_acts_j82  (y1 : Int32) (y2 : Int32) (y3 : Int32) (y4 : Int32) (y5 : Int32) (σ : cSt) : Option (Int32 × cSt) :=
  (if (nI 5) ≤ y4 then
  fL_acts_j133 y1 y2 y3 y4 σ
  else
  (if y5 = 0 then
  fL_acts_j133 y1 y2 y3 y4 σ
  else
  (z_rm (y1 >>> ((nI 11) &&& 31)) (nI 1000)).bind fun x20 =>
  z_b2 (fX8_write y2 y3 x20 σ) fun x21 σ22 =>
  (fX8_copy y2 y3 (nI 0) σ22).bind fun x23 =>
  (if x23 = (nI 2) then
  fL_acts_j123 (nI 1) x21 σ22
  else
  fL_acts_j123 (nI 0) x21 σ22)))
def fL_acts_j72  (w0 : Int32) (w1 : Int32) (σ : cSt) : Option (Int32 × cSt) :=
  (if w1 = w0 then
  some (nI 0, σ)
  else
  some ((-2), σ))
def fL_acts_j38  (y1 : Int32) (y2 : Int32) (y3 : Int32) (y4 : Int32) (w0 : Int32) (σ : cSt) : Option (Int32 × cSt) :=
  (if (nI 3) ≤ y4 then
  fL_acts_j82 y1 y2 y3 y4 w0 σ
  else
  (if w0 = 0 then
  fL_acts_j82 y1 y2 y3 y4 w0 σ
  else
  z_b2 (fX8_read y2 y3 σ) fun x24 σ25 =>
  (fX8_copy y2 y3 (nI 0) σ25).bind fun x26 =>
  (if x26 ≤ 0 then
  fL_acts_j72 (nI 0) x24 σ25
  else
  fL_acts_j72 (nI 1) x24 σ25)))
def fL_acts (a1 : Int32) (σ : cSt) : Option (Int32 × cSt) :=
  (fX8_value (nI 0) σ).bind fun x1 =>
  (z_rm (a1 >>> ((nI 3) &&& 31)) x1).bind fun x2 =>
  (z_rm (a1 >>> ((nI 7) &&& 31)) (nI 9)).bind fun x3 =>
  (fX8_pending x2 (nI 0) σ).bind fun x4 =>
  (if 0 ≤ x4 then
  fL_acts_j38 a1 x2 x3 (a1 &&& (nI 7)) (nI 0) σ
  else
  fL_acts_j38 a1 x2 x3 (a1 &&& (nI 7)) (nI 1) σ)
def fL_cache_j86 (σ : cSt) (C13 : Int32 → Int32 → Int32 → Int32 → Int32 → Int32 → Option (Int32)) (y1 : Int32) (y2 : Int32) (y3 : Int32) (y4 : Int32) (y6 : Int32) : Option (Int32) :=
  C13 y1 y2 y3 y4 y6 (y6 + nI 1)
def fL_cache_l13 (σ : cSt) (K13 : Int32 → Int32 → Int32 → Int32 → Int32 → Option (Int32)) : Nat → Int32 → Int32 → Int32 → Int32 → Int32 → Int32 → Option (Int32)
  | 0, _, _, _, _, _, _ => none
  | n + 1, y1, y2, y3, y4, y5, y6 =>
  (if (nI 9) ≤ y6 then
  K13 y1 y2 y3 y4 y5
  else
  (fX8_copy y1 y6 (nI 0) σ).bind fun x1 =>
  (if x1 ≤ 0 then
  (fL_cache_l13 σ K13 n) y1 y2 y3 y4 y5 (y6 + nI 1)
  else
  (fX8_copy y1 y6 (nI 3) σ).bind fun x2 =>
  (fX8_copy y1 y6 (nI 2) σ).bind fun x3 =>
  (if y5 < 0 then
  fL_cache_j86 σ (fL_cache_l13 σ K13 n) y1 (y2 + nI 1) (y3 ||| ((nI 1) <<< (x2 &&& 31))) (y4 ||| ((nI 1) <<< (x3 &&& 31))) y6
  else
  (fX8_copy y1 y6 (nI 3) σ).bind fun x4 =>
  (fX8_copy y1 y5 (nI 3) σ).bind fun x5 =>
  (if x4 ≤ x5 then
  (fL_cache_l13 σ K13 n) y1 (y2 + nI 1) (y3 ||| ((nI 1) <<< (x2 &&& 31))) (y4 ||| ((nI 1) <<< (x3 &&& 31))) y5 (y6 + nI 1)
  else
  fL_cache_j86 σ (fL_cache_l13 σ K13 n) y1 (y2 + nI 1) (y3 ||| ((nI 1) <<< (x2 &&& 31))) (y4 ||| ((nI 1) <<< (x3 &&& 31))) y6))))
def fL_cache_j172 (σ : cSt) (w0 : Int32) (w1 : Int32) : Option (Int32) :=
  (if w1 = w0 then
  z_bz (nI 1)
  else
  z_bz (nI 0))
def fL_cache_j136 (σ : cSt) (y1 : Int32) (y2 : Int32) (y4 : Int32) (y5 : Int32) (w0 : Int32) : Option (Int32) :=
  (if w0 = 0 then
  z_bz (nI 0)
  else
  (fL_ones y4 σ).bind fun x12 =>
  (if x12 = y2 then
  (fX8_nextDropped y1 σ).bind fun x13 =>
  (fX8_value (nI 1) σ).bind fun x14 =>
  (if y2 = x14 then
  fL_cache_j172 σ y5 x13
  else
  fL_cache_j172 σ (-1) x13)
  else
  z_bz (nI 0)))
def fL_cache_j135 (σ : cSt) (y1 : Int32) (y2 : Int32) (y4 : Int32) (y5 : Int32) : Option (Int32) :=
  fL_cache_j136 σ y1 y2 y4 y5 (nI 0)
def fL_cache (a1 : Int32) (σ : cSt) : Option (Int32) :=
  fL_cache_l13 σ (fun x6 x7 x8 x9 x10 => (fX8_value (nI 1) σ).bind fun x11 =>
  (if x11 < x7 then
  fL_cache_j135 σ x6 x7 x9 x10
  else
  (if x8 = (((nI 1) <<< (x7 &&& 31)) - (nI 1)) then
  (fX8_value (nI 1) σ).bind fun x15 =>
  (if ((nI 1) <<< (x15 &&& 31)) ≤ x9 then
  fL_cache_j135 σ x6 x7 x9 x10
  else
  fL_cache_j136 σ x6 x7 x9 x10 (nI 1))
  else
  fL_cache_j135 σ x6 x7 x9 x10))) z_fu a1 (nI 0) (nI 0) (nI 0) (-1) (nI 0)
def fL_line_j121 (σ : cSt) (C13 : Int32 → Int32 → Int32 → Int32 → Int32 → Int32 → Option (Int32)) (y1 : Int32) (y2 : Int32) (y3 : Int32) (y4 : Int32) (y6 : Int32) : Option (Int32) :=
  C13 y1 y2 y3 y4 (nI 1) (y6 + nI 1)
def fL_line_j76 (σ : cSt) (C13 : Int32 → Int32 → Int32 → Int32 → Int32 → Int32 → Option (Int32)) (y1 : Int32) (y2 : Int32) (y3 : Int32) (y5 : Int32) (y6 : Int32) (y7 : Int32) (w0 : Int32) (w1 : Int32) : Option (Int32) :=
  (if y5 = 0 then
  C13 y1 y2 y3 (w1 ||| w0) (nI 0) (y6 + nI 1)
  else
  (if y7 = 0 then
  (fX8_copy y6 y1 (nI 1) σ).bind fun x5 =>
  (if x5 = (-1) then
  fL_line_j121 σ C13 y1 y2 y3 (w1 ||| w0) y6
  else
  C13 y1 y2 y3 (w1 ||| w0) (nI 0) (y6 + nI 1))
  else
  (fX8_copy y6 y1 (nI 1) σ).bind fun x3 =>
  (fX8_line y1 (nI 1) σ).bind fun x4 =>
  (if x3 = x4 then
  fL_line_j121 σ C13 y1 y2 y3 (w1 ||| w0) y6
  else
  C13 y1 y2 y3 (w1 ||| w0) (nI 0) (y6 + nI 1))))
def fL_line_j58 (σ : cSt) (C13 : Int32 → Int32 → Int32 → Int32 → Int32 → Int32 → Option (Int32)) (y1 : Int32) (y2 : Int32) (y4 : Int32) (y5 : Int32) (y6 : Int32) (y7 : Int32) (w0 : Int32) (w1 : Int32) : Option (Int32) :=
  (if y7 = (nI 1) then
  fL_line_j76 σ C13 y1 y2 (w1 + w0) y5 y6 y7 ((nI 1) <<< (y6 &&& 31)) y4
  else
  fL_line_j76 σ C13 y1 y2 (w1 + w0) y5 y6 y7 (nI 0) y4)
def fL_line_j45 (σ : cSt) (C13 : Int32 → Int32 → Int32 → Int32 → Int32 → Int32 → Option (Int32)) (y1 : Int32) (y3 : Int32) (y4 : Int32) (y5 : Int32) (y6 : Int32) (y7 : Int32) (w0 : Int32) : Option (Int32) :=
  (if y7 = (nI 2) then
  fL_line_j58 σ C13 y1 w0 y4 y5 y6 y7 (nI 1) y3
  else
  fL_line_j58 σ C13 y1 w0 y4 y5 y6 y7 (nI 0) y3)
def fL_line_l13 (σ : cSt) (K13 : Int32 → Int32 → Int32 → Int32 → Int32 → Option (Int32)) : Nat → Int32 → Int32 → Int32 → Int32 → Int32 → Int32 → Option (Int32)
  | 0, _, _, _, _, _, _ => none
  | n + 1, y1, y2, y3, y4, y5, y6 =>
  (fX8_value (nI 0) σ).bind fun x1 =>
  (if x1 ≤ y6 then
  K13 y1 y2 y3 y4 y5
  else
  (fX8_copy y6 y1 (nI 0) σ).bind fun x2 =>
  (if x2 = (nI 2) then
  fL_line_j45 σ (fL_line_l13 σ K13 n) y1 y3 y4 y5 y6 x2 y6
  else
  fL_line_j45 σ (fL_line_l13 σ K13 n) y1 y3 y4 y5 y6 x2 y2))
def fL_line_j312 (σ : cSt) : Option (Int32) :=
  z_bz (nI 1)
def fL_line_j211 (σ : cSt) (y1 : Int32) (y2 : Int32) (y3 : Int32) (y4 : Int32) (w0 : Int32) : Option (Int32) :=
  (fX8_line y1 (nI 4) σ).bind fun x11 =>
  (if x11 = (nI 1) then
  (if w0 = 0 then
  z_bz (nI 0)
  else
  (fX8_line y1 (nI 5) σ).bind fun x15 =>
  (if x15 = y2 then
  (fX8_line y1 (nI 6) σ).bind fun x16 =>
  (if x16 = y4 then
  (fX8_line y1 (nI 7) σ).bind fun x17 =>
  (if x17 = 0 then
  z_bz (nI 1)
  else
  z_bz (nI 0))
  else
  z_bz (nI 0))
  else
  z_bz (nI 0)))
  else
  (if w0 = 0 then
  z_bz (nI 0)
  else
  (fX8_line y1 (nI 5) σ).bind fun x12 =>
  (if x12 = (-1) then
  (fX8_line y1 (nI 6) σ).bind fun x13 =>
  (if x13 = (-1) then
  (fX8_line y1 (nI 7) σ).bind fun x14 =>
  (if x14 = (nI 1) then
  fL_line_j312 σ
  else
  (if y3 = 0 then
  (if y4 = 0 then
  fL_line_j312 σ
  else
  z_bz (nI 0))
  else
  z_bz (nI 0)))
  else
  z_bz (nI 0))
  else
  z_bz (nI 0))))
def fL_line_j210 (σ : cSt) (y1 : Int32) (y2 : Int32) (y3 : Int32) (y4 : Int32) : Option (Int32) :=
  fL_line_j211 σ y1 y2 y3 y4 (nI 0)
def fL_line_j206 (σ : cSt) (y1 : Int32) (y2 : Int32) (y3 : Int32) (y4 : Int32) : Option (Int32) :=
  fL_line_j211 σ y1 y2 y3 y4 (nI 1)
def fL_line_j179 (σ : cSt) (y1 : Int32) (y2 : Int32) (y3 : Int32) (y4 : Int32) (w0 : Int32) : Option (Int32) :=
  (if w0 = 0 then
  fL_line_j210 σ y1 y2 y3 y4
  else
  (if y3 = (nI 1) then
  fL_line_j206 σ y1 y2 y3 y4
  else
  (fX8_line y1 (nI 0) σ).bind fun x18 =>
  (fX8_line y1 (nI 1) σ).bind fun x19 =>
  (if x18 = x19 then
  fL_line_j206 σ y1 y2 y3 y4
  else
  fL_line_j210 σ y1 y2 y3 y4)))
def fL_line_j178 (σ : cSt) (y1 : Int32) (y2 : Int32) (y3 : Int32) (y4 : Int32) : Option (Int32) :=
  fL_line_j179 σ y1 y2 y3 y4 (nI 0)
def fL_line_j153 (σ : cSt) (y1 : Int32) (y2 : Int32) (y3 : Int32) (y4 : Int32) : Option (Int32) :=
  (fX8_line y1 (nI 2) σ).bind fun x20 =>
  (if x20 = y2 then
  (fX8_line y1 (nI 3) σ).bind fun x21 =>
  (if x21 = y4 then
  fL_line_j179 σ y1 y2 y3 y4 (nI 1)
  else
  fL_line_j178 σ y1 y2 y3 y4)
  else
  fL_line_j178 σ y1 y2 y3 y4)
def fL_line (a1 : Int32) (σ : cSt) : Option (Int32) :=
  fL_line_l13 σ (fun x6 x7 x8 x9 x10 => (if x10 = 0 then
  fL_line_j178 σ x6 x7 x8 x9
  else
  (if (nI 1) < x8 then
  fL_line_j178 σ x6 x7 x8 x9
  else
  (if x8 = 0 then
  fL_line_j153 σ x6 x7 x8 x9
  else
  (if x9 = 0 then
  fL_line_j153 σ x6 x7 x8 x9
  else
  fL_line_j178 σ x6 x7 x8 x9))))) z_fu a1 (-1) (nI 0) (nI 0) (nI 1) (nI 0)
def fL_refuses_l41 (K41 : Int32 → Int32 → cSt → Option (Int32 × cSt)) : Nat → Int32 → Int32 → Int32 → cSt → Option (Int32 × cSt)
  | 0, _, _, _, _ => none
  | n + 1, y2, y3, y4, σ =>
  (if y2 ≤ y4 then
  K41 y2 y3 σ
  else
  (if y3 = 0 then
  K41 y2 y3 σ
  else
  z_b2 (fX8_append (nI 48) σ) fun x4 σ5 =>
  (if x4 = (y4 + (nI 3)) then
  (fL_refuses_l41 K41 n) y2 (nI 1) (y4 + nI 1) σ5
  else
  (fL_refuses_l41 K41 n) y2 (nI 0) (y4 + nI 1) σ5)))
def fL_refuses_j102  (y2 : Int32) (y4 : Int64) (w0 : Int32) (w1 : Int32) (σ : cSt) : Option (Int32 × cSt) :=
  (if w1 = w0 then
  (fX8_digest  σ).bind fun x12 =>
  (if x12 = y4 then
  z_b2 (fX8_clearText  σ) fun x13 σ14 =>
  (if x13 = ((nI 2) + y2) then
  (z_bz (nI 1)).bind fun r => some (r, σ14)
  else
  (z_bz (nI 0)).bind fun r => some (r, σ14))
  else
  (z_bz (nI 0)).bind fun r => some (r, σ))
  else
  (z_bz (nI 0)).bind fun r => some (r, σ))
def fL_refuses (a1 : Int32) (σ : cSt) : Option (Int32 × cSt) :=
  (z_rm a1 (nI 9)).bind fun x1 =>
  z_b2 (fX8_clearText  σ) fun x2 σ3 =>
  (if x2 < 0 then
  fL_refuses_l41 (fun x6 x7 σ8 => (fX8_digest  σ8).bind fun x9 =>
  (if x7 = 0 then
  (z_bz (nI 0)).bind fun r => some (r, σ8)
  else
  z_b2 (fX8_carryOut  σ8) fun x10 σ11 =>
  (if (nI 2) ≤ x6 then
  fL_refuses_j102 x6 x9 (-13) x10 σ11
  else
  fL_refuses_j102 x6 x9 (-11) x10 σ11))) z_fu x1 (nI 0) (nI 0) σ3
  else
  z_b2 (fX8_append (nI 116) σ3) fun x15 σ16 =>
  (if x15 = (nI 1) then
  z_b2 (fX8_append (nI 48) σ16) fun x23 σ24 =>
  (if x23 = (nI 2) then
  fL_refuses_l41 (fun x31 x32 σ33 => (fX8_digest  σ33).bind fun x34 =>
  (if x32 = 0 then
  (z_bz (nI 0)).bind fun r => some (r, σ33)
  else
  z_b2 (fX8_carryOut  σ33) fun x35 σ36 =>
  (if (nI 2) ≤ x31 then
  fL_refuses_j102 x31 x34 (-13) x35 σ36
  else
  fL_refuses_j102 x31 x34 (-11) x35 σ36))) z_fu x1 (nI 1) (nI 0) σ24
  else
  fL_refuses_l41 (fun x25 x26 σ27 => (fX8_digest  σ27).bind fun x28 =>
  (if x26 = 0 then
  (z_bz (nI 0)).bind fun r => some (r, σ27)
  else
  z_b2 (fX8_carryOut  σ27) fun x29 σ30 =>
  (if (nI 2) ≤ x25 then
  fL_refuses_j102 x25 x28 (-13) x29 σ30
  else
  fL_refuses_j102 x25 x28 (-11) x29 σ30))) z_fu x1 (nI 0) (nI 0) σ24)
  else
  fL_refuses_l41 (fun x17 x18 σ19 => (fX8_digest  σ19).bind fun x20 =>
  (if x18 = 0 then
  (z_bz (nI 0)).bind fun r => some (r, σ19)
  else
  z_b2 (fX8_carryOut  σ19) fun x21 σ22 =>
  (if (nI 2) ≤ x17 then
  fL_refuses_j102 x17 x20 (-13) x21 σ22
  else
  fL_refuses_j102 x17 x20 (-11) x21 σ22))) z_fu x1 (nI 0) (nI 0) σ16))
def fL_sound_l6 (σ : cSt) (K6 : Int32 → Int32 → Option (Int32)) : Nat → Int32 → Int32 → Int32 → Option (Int32)
  | 0, _, _, _ => none
  | n + 1, y1, y2, y3 =>
  (if (nI 9) ≤ y3 then
  K6 y1 y2
  else
  (if y1 = 0 then
  K6 y1 y2
  else
  (fL_line y3 σ).bind fun x1 =>
  (fX8_line y3 (nI 4) σ).bind fun x2 =>
  (fL_sound_l6 σ K6 n) x1 (y2 + x2) (y3 + nI 1)))
def fL_sound_l39 (σ : cSt) (K39 : Int32 → Int32 → Option (Int32)) : Nat → Int32 → Int32 → Int32 → Option (Int32)
  | 0, _, _, _ => none
  | n + 1, y1, y2, y3 =>
  (fX8_value (nI 0) σ).bind fun x5 =>
  (if x5 ≤ y3 then
  K39 y1 y2
  else
  (if y1 = 0 then
  K39 y1 y2
  else
  (fL_cache y3 σ).bind fun x6 =>
  (fL_sound_l39 σ K39 n) x6 y2 (y3 + nI 1)))
def fL_sound_j131 (σ : cSt) : Option (Int32) :=
  z_bz (nI 1)
def fL_sound_j114 (σ : cSt) (y3 : Int32) (w0 : Int32) (w1 : Int32) : Option (Int32) :=
  (if w1 = w0 then
  (if y3 < 0 then
  fL_sound_j131 σ
  else
  (fX8_line y3 (nI 4) σ).bind fun x13 =>
  (if x13 = (nI 1) then
  fL_sound_j131 σ
  else
  z_bz (nI 0)))
  else
  z_bz (nI 0))
def fL_sound_j100 (σ : cSt) (y2 : Int32) (y3 : Int32) (w0 : Int32) : Option (Int32) :=
  (fX8_value (nI 2) σ).bind fun x12 =>
  (if y2 = x12 then
  fL_sound_j114 σ y3 (nI 1) w0
  else
  fL_sound_j114 σ y3 (nI 0) w0)
def fL_sound (σ : cSt) : Option (Int32) :=
  fL_sound_l6 σ (fun x3 x4 => fL_sound_l39 σ (fun x7 x8 => (fX8_nextTorn  σ).bind fun x9 =>
  (if x7 = 0 then
  z_bz (nI 0)
  else
  (fX8_value (nI 3) σ).bind fun x10 =>
  (if x8 = x10 then
  (fX8_value (nI 2) σ).bind fun x11 =>
  (if x11 < x8 then
  z_bz (nI 0)
  else
  (if x9 < 0 then
  fL_sound_j100 σ x8 x9 (nI 0)
  else
  fL_sound_j100 σ x8 x9 (nI 1)))
  else
  z_bz (nI 0)))) z_fu x3 x4 (nI 0)) z_fu (nI 1) (nI 0) (nI 0)
