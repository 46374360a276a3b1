/-! a machine, method by method, as partial functions that follow its bytecode (by wip/tools/gworld.py) -/
def fX0_takeOver (τ : zSt) (σ : zSt) : Option (zSt) :=
  (z_cp σ 2 (τ 2) 192).bind fun σ1 =>
  (z_cp σ1 3 (τ 3) 192).bind fun σ2 =>
  (z_cp σ2 4 (τ 4) 192).bind fun σ3 =>
  (z_cp σ3 5 (τ 5) 192).bind fun σ4 =>
  (z_sf σ4 11 (τ 11 0)).bind fun σ5 =>
  some σ5
def fX1_takeOver (τ : zSt) (σ : zSt) : Option (zSt) :=
  (z_cp σ 6 (τ 6) 32).bind fun σ1 =>
  (z_sf σ1 12 (τ 12 0)).bind fun σ2 =>
  (z_sf σ2 13 (τ 13 0)).bind fun σ3 =>
  (z_sf σ3 14 (τ 14 0)).bind fun σ4 =>
  (z_sf σ4 15 (τ 15 0)).bind fun σ5 =>
  (z_sf σ5 16 (τ 16 0)).bind fun σ6 =>
  (z_sf σ6 17 (τ 17 0)).bind fun σ7 =>
  some σ7
def fX3_takeOver (τ : zSt) (σ : zSt) : Option (zSt) :=
  (z_cp σ 10 (τ 10) 72).bind fun σ1 =>
  (z_sf σ1 18 (τ 18 0)).bind fun σ2 =>
  some σ2
def fX7_takeOver (τ : zSt) (σ : zSt) : Option (zSt) :=
  (z_cp σ 7 (τ 7) 6).bind fun σ1 =>
  (z_cp σ1 8 (τ 8) 6).bind fun σ2 =>
  (z_cp σ2 9 (τ 9) 6).bind fun σ3 =>
  some σ3
def fX4_takeOver (τ : zSt) (σ : zSt) : Option (zSt) :=
  (z_cp σ 0 (τ 0) 32).bind fun σ1 =>
  (z_cp σ1 1 (τ 1) 32).bind fun σ2 =>
  (fX0_takeOver τ σ2).bind fun σ3 =>
  (fX1_takeOver τ σ3).bind fun σ4 =>
  (fX7_takeOver τ σ4).bind fun σ5 =>
  (fX3_takeOver τ σ5).bind fun σ6 =>
  (z_sf σ6 19 (τ 19 0)).bind fun σ7 =>
  (z_sf σ7 20 (τ 20 0)).bind fun σ8 =>
  (z_sf σ8 21 (τ 21 0)).bind fun σ9 =>
  (z_sf σ9 22 (τ 22 0)).bind fun σ10 =>
  (z_sf σ10 23 (τ 23 0)).bind fun σ11 =>
  (z_sf σ11 24 (τ 24 0)).bind fun σ12 =>
  (z_sf σ12 25 (τ 25 0)).bind fun σ13 =>
  (z_sf σ13 26 (τ 26 0)).bind fun σ14 =>
  some σ14
