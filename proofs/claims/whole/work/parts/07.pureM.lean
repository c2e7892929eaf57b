def fX6_in_15 (t0 : Int32) (σ : Sg) : Rs :=
  zr t0 σ
def fX6_in_14 (σ : Sg) : Rs :=
  fX6_in_15 0 σ
def fX6_in (a0 : Int32) (a1 : Int32) (a2 : Int32) (σ : Sg) : Rs :=
  if a0 < a1 then
  (fX6_in_14 σ)
  else
  (if a2 < a0 then
  (fX6_in_14 σ)
  else
  (fX6_in_15 1 σ))
def fX6_isBus (a0 : Int32) (σ : Sg) : Rs :=
  bd (fX6_in a0 0 5 σ) fun v1 σ2 =>
  zr v1 σ2
def fX6_isLine (a1 : Int32) (σ : Sg) : Rs :=
  gd 39 42 <|
  bd (fX6_in a1 0 ((σ 1 (Int32.toNatClampNeg 39)) - (1 : Int32)) σ) fun v1 σ2 =>
  zr v1 σ2
def fX6_isMachine (a1 : Int32) (σ : Sg) : Rs :=
  gd 40 42 <|
  bd (fX6_in a1 0 ((σ 1 (Int32.toNatClampNeg 40)) - (1 : Int32)) σ) fun v1 σ2 =>
  zr v1 σ2
def fX6_line_19 (σ : Sg) : Rs :=
  some ((-1), σ)
def fX6_line_91 (x3 x4 t0 t1 : Int32) (σ : Sg) : Rs :=
  gd t1 42 <|
  sv (wr σ 1 (Int32.toNatClampNeg t1) t0) fun σ1 =>
  gd ((12 : Int32) + x4) 42 <|
  sv (wr σ1 1 (Int32.toNatClampNeg ((12 : Int32) + x4)) x3) fun σ2 =>
  gd ((18 : Int32) + x4) 42 <|
  sv (wr σ2 1 (Int32.toNatClampNeg ((18 : Int32) + x4)) 0) fun σ3 =>
  gd 39 42 <|
  gd 39 42 <|
  sv (wr σ3 1 (Int32.toNatClampNeg 39) ((σ3 1 (Int32.toNatClampNeg 39)) + (1 : Int32))) fun σ4 =>
  some (x4, σ4)
def fX6_line_71 (x1 x2 x3 x4 t0 t1 : Int32) (σ : Sg) : Rs :=
  gd t1 42 <|
  sv (wr σ 1 (Int32.toNatClampNeg t1) t0) fun σ5 =>
  if x2 ≤ x1 then
  (fX6_line_91 x3 x4 x1 ((6 : Int32) + x4) σ5)
  else
  (fX6_line_91 x3 x4 x2 ((6 : Int32) + x4) σ5)
def fX6_line (a1 : Int32) (a2 : Int32) (a3 : Int32) (σ : Sg) : Rs :=
  bd (fX6_isBus a1 σ) fun v7 σ8 =>
  if v7 = 0 then
  (fX6_line_19 σ8)
  else
  (bd (fX6_isBus a2 σ8) fun v10 σ11 =>
  if v10 = 0 then
  (fX6_line_19 σ11)
  else
  (if a1 = a2 then
  (fX6_line_19 σ11)
  else
  (bd (fX6_in a3 0 9 σ11) fun v14 σ15 =>
  if v14 = 0 then
  (some ((-2), σ15))
  else
  (gd 39 42 <|
  sv (σ15 1 (Int32.toNatClampNeg 39)) fun y17 =>
  if y17 = 6 then
  (some ((-4), σ15))
  else
  (if a2 ≤ a1 then
  (fX6_line_71 a1 a2 a3 y17 a2 ((0 : Int32) + y17) σ15)
  else
  (fX6_line_71 a1 a2 a3 y17 a1 ((0 : Int32) + y17) σ15))))))
def fX6_machine_39 (σ : Sg) : Rs :=
  some ((-2), σ)
def fX6_machine (a1 : Int32) (a2 : Int32) (a3 : Int32) (a4 : Int32) (σ : Sg) : Rs :=
  bd (fX6_isBus a1 σ) fun v1 σ2 =>
  if v1 = 0 then
  (some ((-1), σ2))
  else
  (bd (fX6_in a2 0 20 σ2) fun v4 σ5 =>
  if v4 = 0 then
  (fX6_machine_39 σ5)
  else
  (bd (fX6_in a3 0 40 σ5) fun v7 σ8 =>
  if v7 = 0 then
  (fX6_machine_39 σ8)
  else
  (bd (fX6_in a4 0 3 σ8) fun v10 σ11 =>
  if v10 = 0 then
  (fX6_machine_39 σ11)
  else
  (gd 40 42 <|
  sv (σ11 1 (Int32.toNatClampNeg 40)) fun y13 =>
  if y13 = 3 then
  (some ((-4), σ11))
  else
  (gd ((24 : Int32) + y13) 42 <|
  sv (wr σ11 1 (Int32.toNatClampNeg ((24 : Int32) + y13)) a1) fun σ15 =>
  gd ((27 : Int32) + y13) 42 <|
  sv (wr σ15 1 (Int32.toNatClampNeg ((27 : Int32) + y13)) a2) fun σ16 =>
  gd ((30 : Int32) + y13) 42 <|
  sv (wr σ16 1 (Int32.toNatClampNeg ((30 : Int32) + y13)) a3) fun σ17 =>
  gd ((33 : Int32) + y13) 42 <|
  sv (wr σ17 1 (Int32.toNatClampNeg ((33 : Int32) + y13)) a4) fun σ18 =>
  gd ((36 : Int32) + y13) 42 <|
  sv (wr σ18 1 (Int32.toNatClampNeg ((36 : Int32) + y13)) 0) fun σ19 =>
  gd 40 42 <|
  gd 40 42 <|
  sv (wr σ19 1 (Int32.toNatClampNeg 40) ((σ19 1 (Int32.toNatClampNeg 40)) + (1 : Int32))) fun σ20 =>
  some (y13, σ20))))))
def fX6_dark_L53 (k53 : Int32 → Int32 → Sg → Rs) (x1 x2 : Int32) (σ : Sg) : Rs :=
  gd 39 42 <|
  if (σ 1 (Int32.toNatClampNeg 39)) ≤ x2 then
  (gd 41 42 <|
  sv (wr σ 1 (Int32.toNatClampNeg 41) 0) fun σ2 =>
  some (x1, σ2))
  else
  (gd ((18 : Int32) + x2) 42 <|
  sv (wr σ 1 (Int32.toNatClampNeg ((18 : Int32) + x2)) 0) fun σ3 =>
  sv (x2 + 1) fun y4 =>
  k53 x1 y4 σ3)
def fX6_dark_33 (k4 : Int32 → Int32 → Sg → Rs) (x2 t0 t1 : Int32) (σ : Sg) : Rs :=
  sv (t1 + t0) fun y5 =>
  gd ((36 : Int32) + x2) 42 <|
  sv (wr σ 1 (Int32.toNatClampNeg ((36 : Int32) + x2)) 0) fun σ6 =>
  sv (x2 + 1) fun y7 =>
  k4 y5 y7 σ6
def fX6_dark_L4 (k4 : Int32 → Int32 → Sg → Rs) (x1 x2 : Int32) (σ : Sg) : Rs :=
  gd 40 42 <|
  if (σ 1 (Int32.toNatClampNeg 40)) ≤ x2 then
  (it fX6_dark_L53 (fun _ _ _ => none) FU x1 0 σ)
  else
  (gd ((36 : Int32) + x2) 42 <|
  if (σ 1 (Int32.toNatClampNeg ((36 : Int32) + x2))) ≤ 0 then
  (fX6_dark_33 k4 x2 0 x1 σ)
  else
  (fX6_dark_33 k4 x2 1 x1 σ))
def fX6_dark (σ : Sg) : Rs :=
  it fX6_dark_L4 (fun _ _ _ => none) FU 0 0 σ
def fX6_of_35 (t0 : Int32) (σ : Sg) : Rs :=
  some (t0, σ)
def fX6_of (a1 : Int32) (a2 : Int32) (σ : Sg) : Rs :=
  bd (fX6_isLine a1 σ) fun v1 σ2 =>
  if v1 = 0 then
  (some ((-1), σ2))
  else
  (bd (fX6_in a2 0 3 σ2) fun v4 σ5 =>
  if v4 = 0 then
  (fX6_of_35 (-2) σ5)
  else
  (gd (((6 : Int32) * a2) + a1) 42 <|
  fX6_of_35 (σ5 1 (Int32.toNatClampNeg (((6 : Int32) * a2) + a1))) σ5))
def fX6_at_71 (t0 : Int32) (σ : Sg) : Rs :=
  some (t0, σ)
def fX6_at (a1 : Int32) (a2 : Int32) (σ : Sg) : Rs :=
  bd (fX6_isMachine a1 σ) fun v1 σ2 =>
  if v1 = 0 then
  (some ((-1), σ2))
  else
  (bd (fX6_in a2 0 4 σ2) fun v4 σ5 =>
  if v4 = 0 then
  (some ((-2), σ5))
  else
  (if 4 ≤ a2 then
  (gd ((36 : Int32) + a1) 42 <|
  if (σ5 1 (Int32.toNatClampNeg ((36 : Int32) + a1))) = 0 then
  (fX6_at_71 (-6) σ5)
  else
  (gd ((36 : Int32) + a1) 42 <|
  fX6_at_71 ((σ5 1 (Int32.toNatClampNeg ((36 : Int32) + a1))) - (1 : Int32)) σ5))
  else
  (gd (((24 : Int32) + ((3 : Int32) * a2)) + a1) 42 <|
  fX6_at_71 (σ5 1 (Int32.toNatClampNeg (((24 : Int32) + ((3 : Int32) * a2)) + a1))) σ5)))
def fX6_joinOnce_116 (k4 : Int32 → Int32 → Sg → Rs) (x1 x2 : Int32) (σ : Sg) : Rs :=
  sv (x2 + 1) fun y1 =>
  k4 x1 y1 σ
def fX6_joinOnce_84 (k4 : Int32 → Int32 → Sg → Rs) (x2 x5 t0 : Int32) (σ : Sg) : Rs :=
  gd ((0 : Int32) + x2) 42 <|
  gd (σ 1 (Int32.toNatClampNeg ((0 : Int32) + x2))) 6 <|
  sv (wr σ 6 (Int32.toNatClampNeg (σ 1 (Int32.toNatClampNeg ((0 : Int32) + x2)))) x5) fun σ2 =>
  gd ((6 : Int32) + x2) 42 <|
  gd (σ2 1 (Int32.toNatClampNeg ((6 : Int32) + x2))) 6 <|
  sv (wr σ2 6 (Int32.toNatClampNeg (σ2 1 (Int32.toNatClampNeg ((6 : Int32) + x2)))) x5) fun σ3 =>
  fX6_joinOnce_116 k4 t0 x2 σ3
def fX6_joinOnce_79 (k4 : Int32 → Int32 → Sg → Rs) (x2 x5 : Int32) (σ : Sg) : Rs :=
  fX6_joinOnce_84 k4 x2 x5 1 σ
def fX6_joinOnce_67 (k4 : Int32 → Int32 → Sg → Rs) (x1 x2 x3 x4 t0 : Int32) (σ : Sg) : Rs :=
  if x1 = 0 then
  (if x3 = x4 then
  (fX6_joinOnce_84 k4 x2 t0 0 σ)
  else
  (fX6_joinOnce_79 k4 x2 t0 σ))
  else
  (fX6_joinOnce_79 k4 x2 t0 σ)
def fX6_joinOnce_L4 (k4 : Int32 → Int32 → Sg → Rs) (x1 x2 : Int32) (σ : Sg) : Rs :=
  gd 39 42 <|
  if (σ 1 (Int32.toNatClampNeg 39)) ≤ x2 then
  (zr x1 σ)
  else
  (gd x2 6 <|
  if (σ 4 (Int32.toNatClampNeg x2)) = 1 then
  (gd ((0 : Int32) + x2) 42 <|
  gd (σ 1 (Int32.toNatClampNeg ((0 : Int32) + x2))) 6 <|
  sv (σ 6 (Int32.toNatClampNeg (σ 1 (Int32.toNatClampNeg ((0 : Int32) + x2))))) fun y8 =>
  gd ((6 : Int32) + x2) 42 <|
  gd (σ 1 (Int32.toNatClampNeg ((6 : Int32) + x2))) 6 <|
  sv (σ 6 (Int32.toNatClampNeg (σ 1 (Int32.toNatClampNeg ((6 : Int32) + x2))))) fun y9 =>
  if y9 ≤ y8 then
  (fX6_joinOnce_67 k4 x1 x2 y8 y9 y9 σ)
  else
  (fX6_joinOnce_67 k4 x1 x2 y8 y9 y8 σ))
  else
  (fX6_joinOnce_116 k4 x1 x2 σ))
def fX6_joinOnce (σ : Sg) : Rs :=
  it fX6_joinOnce_L4 (fun _ _ _ => none) FU 0 0 σ
def fX6_layIslands_200 (k114 : Int32 → Sg → Rs) (x2 t0 t1 : Int32) (σ : Sg) : Rs :=
  gd t1 6 <|
  sv (wr σ 8 (Int32.toNatClampNeg t1) (vp_nar .boolean t0)) fun σ1 =>
  sv (x2 + 1) fun y2 =>
  k114 y2 σ1
def fX6_layIslands_195 (k114 : Int32 → Sg → Rs) (x2 t0 : Int32) (σ : Sg) : Rs :=
  fX6_layIslands_200 k114 x2 1 t0 σ
def fX6_layIslands_170 (k114 : Int32 → Sg → Rs) (x2 x3 t0 t1 t2 : Int32) (σ : Sg) : Rs :=
  gd t2 6 <|
  sv (wr σ 7 (Int32.toNatClampNeg t2) (t1 + t0)) fun σ3 =>
  gd x3 6 <|
  if (σ3 8 (Int32.toNatClampNeg x3)) = 0 then
  (gd x2 3 <|
  if (σ3 5 (Int32.toNatClampNeg x2)) ≤ 0 then
  (fX6_layIslands_200 k114 x2 0 x3 σ3)
  else
  (fX6_layIslands_195 k114 x2 x3 σ3))
  else
  (fX6_layIslands_195 k114 x2 x3 σ3)
def fX6_layIslands_L114 (k114 : Int32 → Sg → Rs) (x2 : Int32) (σ : Sg) : Rs :=
  gd 40 42 <|
  if (σ 1 (Int32.toNatClampNeg 40)) ≤ x2 then
  (some (0, σ))
  else
  (gd ((24 : Int32) + x2) 42 <|
  gd (σ 1 (Int32.toNatClampNeg ((24 : Int32) + x2))) 6 <|
  sv (σ 6 (Int32.toNatClampNeg (σ 1 (Int32.toNatClampNeg ((24 : Int32) + x2))))) fun y7 =>
  gd y7 6 <|
  gd x2 3 <|
  if (σ 5 (Int32.toNatClampNeg x2)) = 1 then
  (gd ((30 : Int32) + x2) 42 <|
  fX6_layIslands_170 k114 x2 y7 (σ 1 (Int32.toNatClampNeg ((30 : Int32) + x2))) (σ 7 (Int32.toNatClampNeg y7)) y7 σ)
  else
  (fX6_layIslands_170 k114 x2 y7 0 (σ 7 (Int32.toNatClampNeg y7)) y7 σ))
def fX6_layIslands_104 (k51 : Int32 → Sg → Rs) (x2 t0 t1 t2 : Int32) (σ : Sg) : Rs :=
  gd t2 6 <|
  sv (wr σ 7 (Int32.toNatClampNeg t2) (t1 - t0)) fun σ9 =>
  sv (x2 + 1) fun y10 =>
  k51 y10 σ9
def fX6_layIslands_L51 (k51 : Int32 → Sg → Rs) (x2 : Int32) (σ : Sg) : Rs :=
  gd 39 42 <|
  if (σ 1 (Int32.toNatClampNeg 39)) ≤ x2 then
  (it fX6_layIslands_L114 (fun _ _ => none) FU 0 σ)
  else
  (gd ((0 : Int32) + x2) 42 <|
  gd (σ 1 (Int32.toNatClampNeg ((0 : Int32) + x2))) 6 <|
  sv (σ 6 (Int32.toNatClampNeg (σ 1 (Int32.toNatClampNeg ((0 : Int32) + x2))))) fun y12 =>
  gd y12 6 <|
  gd x2 6 <|
  if (σ 4 (Int32.toNatClampNeg x2)) = 1 then
  (gd ((12 : Int32) + x2) 42 <|
  fX6_layIslands_104 k51 x2 (σ 1 (Int32.toNatClampNeg ((12 : Int32) + x2))) (σ 7 (Int32.toNatClampNeg y12)) y12 σ)
  else
  (fX6_layIslands_104 k51 x2 0 (σ 7 (Int32.toNatClampNeg y12)) y12 σ))
def fX6_layIslands_L37 (k37 : Int32 → Sg → Rs) (x1 : Int32) (σ : Sg) : Rs :=
  if x1 = 0 then
  (it fX6_layIslands_L51 (fun _ _ => none) FU 0 σ)
  else
  (bd (fX6_joinOnce σ) fun v15 σ16 =>
  k37 v15 σ16)
def fX6_layIslands_L2 (k2 : Int32 → Sg → Rs) (x1 : Int32) (σ : Sg) : Rs :=
  if 6 ≤ x1 then
  (it fX6_layIslands_L37 (fun _ _ => none) FU 1 σ)
  else
  (gd x1 6 <|
  sv (wr σ 6 (Int32.toNatClampNeg x1) x1) fun σ18 =>
  gd x1 6 <|
  sv (wr σ18 7 (Int32.toNatClampNeg x1) 0) fun σ19 =>
  gd x1 6 <|
  sv (wr σ19 8 (Int32.toNatClampNeg x1) (vp_nar .boolean 0)) fun σ20 =>
  sv (x1 + 1) fun y21 =>
  k2 y21 σ20)
def fX6_layIslands (σ : Sg) : Rs :=
  it fX6_layIslands_L2 (fun _ _ => none) FU 0 σ
def fX6_layNow_L31 (k31 : Int32 → Sg → Rs) (x1 : Int32) (σ : Sg) : Rs :=
  if 3 ≤ x1 then
  (bd (fX6_layIslands σ) fun v2 σ3 =>
  some (0, σ3))
  else
  (gd ((36 : Int32) + x1) 42 <|
  gd x1 3 <|
  sv (wr σ 5 (Int32.toNatClampNeg x1) (σ 1 (Int32.toNatClampNeg ((36 : Int32) + x1)))) fun σ4 =>
  sv (x1 + 1) fun y5 =>
  k31 y5 σ4)
def fX6_layNow_L2 (k2 : Int32 → Sg → Rs) (x1 : Int32) (σ : Sg) : Rs :=
  if 6 ≤ x1 then
  (it fX6_layNow_L31 (fun _ _ => none) FU 0 σ)
  else
  (gd ((18 : Int32) + x1) 42 <|
  gd x1 6 <|
  sv (wr σ 4 (Int32.toNatClampNeg x1) (σ 1 (Int32.toNatClampNeg ((18 : Int32) + x1)))) fun σ7 =>
  sv (x1 + 1) fun y8 =>
  k2 y8 σ7)
def fX6_layNow (σ : Sg) : Rs :=
  it fX6_layNow_L2 (fun _ _ => none) FU 0 σ
def fX6_isLive (a1 : Int32) (σ : Sg) : Rs :=
  gd a1 6 <|
  gd (σ 6 (Int32.toNatClampNeg a1)) 6 <|
  zr (σ 8 (Int32.toNatClampNeg (σ 6 (Int32.toNatClampNeg a1)))) σ
def fX6_islandSet_33 (k4 : Int32 → Int32 → Int32 → Sg → Rs) (x1 x3 t0 t1 : Int32) (σ : Sg) : Rs :=
  sv (t1 ||| t0) fun y1 =>
  sv (x3 + 1) fun y2 =>
  k4 x1 y1 y2 σ
def fX6_islandSet_L4 (k4 : Int32 → Int32 → Int32 → Sg → Rs) (x1 x2 x3 : Int32) (σ : Sg) : Rs :=
  if 6 ≤ x3 then
  (some (x2, σ))
  else
  (gd x3 6 <|
  gd x1 6 <|
  if (σ 6 (Int32.toNatClampNeg x3)) = (σ 6 (Int32.toNatClampNeg x1)) then
  (fX6_islandSet_33 k4 x1 x3 ((1 : Int32) <<< (x3 &&& 31)) x2 σ)
  else
  (fX6_islandSet_33 k4 x1 x3 0 x2 σ))
def fX6_islandSet (a1 : Int32) (σ : Sg) : Rs :=
  it fX6_islandSet_L4 (fun _ _ _ _ => none) FU a1 0 0 σ
def fX6_bus_72 (t0 : Int32) (σ : Sg) : Rs :=
  some (t0, σ)
def fX6_bus (a1 : Int32) (a2 : Int32) (σ : Sg) : Rs :=
  bd (fX6_isBus a1 σ) fun v1 σ2 =>
  if v1 = 0 then
  (some ((-1), σ2))
  else
  (bd (fX6_in a2 0 2 σ2) fun v4 σ5 =>
  if v4 = 0 then
  (some ((-2), σ5))
  else
  (bd (fX6_layNow σ5) fun v7 σ8 =>
  if a2 = 0 then
  (bd (fX6_islandSet a1 σ8) fun v14 σ15 =>
  fX6_bus_72 v14 σ15)
  else
  (if a2 = 1 then
  (bd (fX6_isLive a1 σ8) fun v11 σ12 =>
  if v11 = 0 then
  (fX6_bus_72 0 σ12)
  else
  (fX6_bus_72 1 σ12))
  else
  (gd a1 6 <|
  gd (σ8 6 (Int32.toNatClampNeg a1)) 6 <|
  fX6_bus_72 ((σ8 7 (Int32.toNatClampNeg (σ8 6 (Int32.toNatClampNeg a1)))) + (100 : Int32)) σ8))))
def fX6_canStart_67 (t0 : Int32) (σ : Sg) : Rs :=
  zr t0 σ
def fX6_canStart_62 (σ : Sg) : Rs :=
  fX6_canStart_67 1 σ
def fX6_canStart_66 (σ : Sg) : Rs :=
  fX6_canStart_67 0 σ
def fX6_canStart (a1 : Int32) (σ : Sg) : Rs :=
  gd ((24 : Int32) + a1) 42 <|
  sv (σ 1 (Int32.toNatClampNeg ((24 : Int32) + a1))) fun y1 =>
  gd a1 3 <|
  if (σ 5 (Int32.toNatClampNeg a1)) = 0 then
  (gd ((27 : Int32) + a1) 42 <|
  if (σ 1 (Int32.toNatClampNeg ((27 : Int32) + a1))) = 0 then
  (fX6_canStart_62 σ)
  else
  (bd (fX6_isLive y1 σ) fun v4 σ5 =>
  if v4 = 0 then
  (fX6_canStart_66 σ5)
  else
  (gd y1 6 <|
  gd (σ5 6 (Int32.toNatClampNeg y1)) 6 <|
  gd ((27 : Int32) + a1) 42 <|
  if (σ5 7 (Int32.toNatClampNeg (σ5 6 (Int32.toNatClampNeg y1)))) < (σ5 1 (Int32.toNatClampNeg ((27 : Int32) + a1))) then
  (fX6_canStart_66 σ5)
  else
  (fX6_canStart_62 σ5))))
  else
  (fX6_canStart_66 σ)
def fX6_canClose_104 (t0 : Int32) (σ : Sg) : Rs :=
  zr t0 σ
def fX6_canClose_103 (σ : Sg) : Rs :=
  fX6_canClose_104 0 σ
def fX6_canClose_85 (x1 x4 : Int32) (σ : Sg) : Rs :=
  gd ((12 : Int32) + x1) 42 <|
  if x4 < (σ 1 (Int32.toNatClampNeg ((12 : Int32) + x1))) then
  (fX6_canClose_103 σ)
  else
  (fX6_canClose_104 1 σ)
def fX6_canClose_56 (x1 x2 x3 t0 : Int32) (σ : Sg) : Rs :=
  gd x1 6 <|
  if (σ 4 (Int32.toNatClampNeg x1)) = 0 then
  (gd x2 6 <|
  if (σ 8 (Int32.toNatClampNeg x2)) = 0 then
  (gd x3 6 <|
  if (σ 8 (Int32.toNatClampNeg x3)) = 0 then
  (fX6_canClose_103 σ)
  else
  (fX6_canClose_85 x1 t0 σ))
  else
  (fX6_canClose_85 x1 t0 σ))
  else
  (fX6_canClose_103 σ)
def fX6_canClose (a1 : Int32) (σ : Sg) : Rs :=
  gd ((0 : Int32) + a1) 42 <|
  gd (σ 1 (Int32.toNatClampNeg ((0 : Int32) + a1))) 6 <|
  sv (σ 6 (Int32.toNatClampNeg (σ 1 (Int32.toNatClampNeg ((0 : Int32) + a1))))) fun y5 =>
  gd ((6 : Int32) + a1) 42 <|
  gd (σ 1 (Int32.toNatClampNeg ((6 : Int32) + a1))) 6 <|
  sv (σ 6 (Int32.toNatClampNeg (σ 1 (Int32.toNatClampNeg ((6 : Int32) + a1))))) fun y6 =>
  if y5 = y6 then
  (gd y5 6 <|
  fX6_canClose_56 a1 y5 y6 (σ 7 (Int32.toNatClampNeg y5)) σ)
  else
  (gd y5 6 <|
  gd y6 6 <|
  fX6_canClose_56 a1 y5 y6 ((σ 7 (Int32.toNatClampNeg y5)) + (σ 7 (Int32.toNatClampNeg y6))) σ)
def fX6_canStep_64 (t0 : Int32) (σ : Sg) : Rs :=
  zr t0 σ
def fX6_canStep_35 (σ : Sg) : Rs :=
  fX6_canStep_64 0 σ
def fX6_canStep_63 (σ : Sg) : Rs :=
  fX6_canStep_64 0 σ
def fX6_canStep (a1 : Int32) (σ : Sg) : Rs :=
  if a1 = 0 then
  (zr 1 σ)
  else
  (if 4 ≤ a1 then
  (bd (fX6_isLine (a1 - (4 : Int32)) σ) fun v3 σ4 =>
  if v3 = 0 then
  (fX6_canStep_63 σ4)
  else
  (bd (fX6_canClose (a1 - (4 : Int32)) σ4) fun v6 σ7 =>
  if v6 = 0 then
  (fX6_canStep_63 σ7)
  else
  (fX6_canStep_64 1 σ7)))
  else
  (bd (fX6_isMachine (a1 - (1 : Int32)) σ) fun v9 σ10 =>
  if v9 = 0 then
  (fX6_canStep_35 σ10)
  else
  (bd (fX6_canStart (a1 - (1 : Int32)) σ10) fun v12 σ13 =>
  if v12 = 0 then
  (fX6_canStep_35 σ13)
  else
  (fX6_canStep_64 1 σ13))))
def fX6_can_30 (k8 : Int32 → Int32 → Sg → Rs) (x2 t0 t1 : Int32) (σ : Sg) : Rs :=
  sv (t1 ||| t0) fun y1 =>
  sv (x2 + 1) fun y2 =>
  k8 y1 y2 σ
def fX6_can_L8 (k8 : Int32 → Int32 → Sg → Rs) (x1 x2 : Int32) (σ : Sg) : Rs :=
  if 10 ≤ x2 then
  (some (x1, σ))
  else
  (bd (fX6_canStep x2 σ) fun v4 σ5 =>
  if v4 = 0 then
  (fX6_can_30 k8 x2 0 x1 σ5)
  else
  (fX6_can_30 k8 x2 ((1 : Int32) <<< (x2 &&& 31)) x1 σ5))
def fX6_can (σ : Sg) : Rs :=
  bd (fX6_layNow σ) fun v7 σ8 =>
  it fX6_can_L8 (fun _ _ _ => none) FU 0 0 σ8
def fX6_ranOn_48 (t0 : Int32) (σ : Sg) : Rs :=
  some (t0, σ)
def fX6_ranOn (a1 : Int32) (a2 : Int32) (σ : Sg) : Rs :=
  if a2 = (a1 + (1 : Int32)) then
  (gd ((33 : Int32) + a1) 42 <|
  fX6_ranOn_48 ((σ 1 (Int32.toNatClampNeg ((33 : Int32) + a1))) + (1 : Int32)) σ)
  else
  (gd a1 3 <|
  if (σ 5 (Int32.toNatClampNeg a1)) ≤ 1 then
  (gd a1 3 <|
  fX6_ranOn_48 (σ 5 (Int32.toNatClampNeg a1)) σ)
  else
  (gd a1 3 <|
  fX6_ranOn_48 ((σ 5 (Int32.toNatClampNeg a1)) - (1 : Int32)) σ))
def fX6_numberBehind_35 (k4 : Int32 → Int32 → Int32 → Sg → Rs) (x1 x3 t0 t1 : Int32) (σ : Sg) : Rs :=
  sv (t1 ||| t0) fun y1 =>
  sv (x3 + 1) fun y2 =>
  k4 x1 y1 y2 σ
def fX6_numberBehind_28 (k4 : Int32 → Int32 → Int32 → Sg → Rs) (x1 x3 t0 : Int32) (σ : Sg) : Rs :=
  fX6_numberBehind_35 k4 x1 x3 ((1 : Int32) <<< (x3 &&& 31)) t0 σ
def fX6_numberBehind_L4 (k4 : Int32 → Int32 → Int32 → Sg → Rs) (x1 x2 x3 : Int32) (σ : Sg) : Rs :=
  if 6 ≤ x3 then
  (bd (fX6_ranOn 0 x1 σ) fun v4 σ5 =>
  bd (fX6_ranOn 1 x1 σ5) fun v6 σ7 =>
  bd (fX6_ranOn 2 x1 σ7) fun v8 σ9 =>
  some ((x2 + ((64 : Int32) * ((v4 + ((5 : Int32) * v6)) + ((25 : Int32) * v8)))), σ9))
  else
  (gd x3 6 <|
  if (σ 4 (Int32.toNatClampNeg x3)) = 1 then
  (fX6_numberBehind_28 k4 x1 x3 x2 σ)
  else
  (if x1 = (x3 + (4 : Int32)) then
  (fX6_numberBehind_28 k4 x1 x3 x2 σ)
  else
  (fX6_numberBehind_35 k4 x1 x3 0 x2 σ)))
def fX6_numberBehind (a1 : Int32) (σ : Sg) : Rs :=
  it fX6_numberBehind_L4 (fun _ _ _ _ => none) FU a1 0 0 σ
def fX6_numberNow_L4 (k4 : Int32 → Int32 → Sg → Rs) (x1 x2 : Int32) (σ : Sg) : Rs :=
  if 6 ≤ x2 then
  (gd 36 42 <|
  gd 37 42 <|
  gd 38 42 <|
  some ((x1 + ((64 : Int32) * (((σ 1 (Int32.toNatClampNeg 36)) + ((5 : Int32) * (σ 1 (Int32.toNatClampNeg 37)))) + ((25 : Int32) * (σ 1 (Int32.toNatClampNeg 38)))))), σ))
  else
  (gd ((18 : Int32) + x2) 42 <|
  sv (x1 ||| ((σ 1 (Int32.toNatClampNeg ((18 : Int32) + x2))) <<< (x2 &&& 31))) fun y2 =>
  sv (x2 + 1) fun y3 =>
  k4 y2 y3 σ)
def fX6_numberNow (σ : Sg) : Rs :=
  it fX6_numberNow_L4 (fun _ _ _ => none) FU 0 0 σ
def fX6_layNumber_L32 (k32 : Int32 → Int32 → Sg → Rs) (x2 x3 : Int32) (σ : Sg) : Rs :=
  if 3 ≤ x3 then
  (bd (fX6_layIslands σ) fun v2 σ3 =>
  some (0, σ3))
  else
  (gd x3 3 <|
  sv (wr σ 5 (Int32.toNatClampNeg x3) (x2 - x2 / (5 : Int32) * (5 : Int32))) fun σ4 =>
  sv (x2 / (5 : Int32)) fun y5 =>
  sv (x3 + 1) fun y6 =>
  k32 y5 y6 σ4)
def fX6_layNumber_L2 (k2 : Int32 → Int32 → Sg → Rs) (x1 x2 : Int32) (σ : Sg) : Rs :=
  if 6 ≤ x2 then
  (sv (x1 / (64 : Int32)) fun y8 =>
  it fX6_layNumber_L32 (fun _ _ _ => none) FU y8 0 σ)
  else
  (gd x2 6 <|
  sv (wr σ 4 (Int32.toNatClampNeg x2) ((x1 >>> (x2 &&& 31)) &&& (1 : Int32))) fun σ9 =>
  sv (x2 + 1) fun y10 =>
  k2 x1 y10 σ9)
def fX6_layNumber (a1 : Int32) (σ : Sg) : Rs :=
  it fX6_layNumber_L2 (fun _ _ _ => none) FU a1 0 σ
def fX6_become_L35 (k35 : Int32 → Int32 → Sg → Rs) (x2 x3 : Int32) (σ : Sg) : Rs :=
  if 3 ≤ x3 then
  (some (0, σ))
  else
  (gd ((36 : Int32) + x3) 42 <|
  sv (wr σ 1 (Int32.toNatClampNeg ((36 : Int32) + x3)) (x2 - x2 / (5 : Int32) * (5 : Int32))) fun σ2 =>
  sv (x2 / (5 : Int32)) fun y3 =>
  sv (x3 + 1) fun y4 =>
  k35 y3 y4 σ2)
def fX6_become_L2 (k2 : Int32 → Int32 → Sg → Rs) (x1 x2 : Int32) (σ : Sg) : Rs :=
  if 6 ≤ x2 then
  (sv (x1 / (64 : Int32)) fun y6 =>
  it fX6_become_L35 (fun _ _ _ => none) FU y6 0 σ)
  else
  (gd ((18 : Int32) + x2) 42 <|
  sv (wr σ 1 (Int32.toNatClampNeg ((18 : Int32) + x2)) ((x1 >>> (x2 &&& 31)) &&& (1 : Int32))) fun σ7 =>
  sv (x2 + 1) fun y8 =>
  k2 x1 y8 σ7)
def fX6_become (a1 : Int32) (σ : Sg) : Rs :=
  it fX6_become_L2 (fun _ _ _ => none) FU a1 0 σ
def fX6_tick_45 (σ : Sg) : Rs :=
  some ((-1), σ)
def fX6_tick_47 (x1 : Int32) (σ : Sg) : Rs :=
  bd (fX6_layNow σ) fun v1 σ2 =>
  bd (fX6_canStep x1 σ2) fun v3 σ4 =>
  if v3 = 0 then
  (some ((-5), σ4))
  else
  (bd (fX6_numberBehind x1 σ4) fun v6 σ7 =>
  bd (fX6_become v6 σ7) fun v8 σ9 =>
  gd 41 42 <|
  gd 41 42 <|
  sv (wr σ9 1 (Int32.toNatClampNeg 41) ((σ9 1 (Int32.toNatClampNeg 41)) + (1 : Int32))) fun σ10 =>
  gd 41 42 <|
  some ((σ10 1 (Int32.toNatClampNeg 41)), σ10))
def fX6_tick (a1 : Int32) (σ : Sg) : Rs :=
  bd (fX6_in a1 0 9 σ) fun v11 σ12 =>
  if v11 = 0 then
  (some ((-2), σ12))
  else
  (if a1 ≤ 0 then
  (fX6_tick_47 a1 σ12)
  else
  (if 4 ≤ a1 then
  (bd (fX6_isLine (a1 - (4 : Int32)) σ12) fun v16 σ17 =>
  if v16 = 0 then
  (fX6_tick_45 σ17)
  else
  (fX6_tick_47 a1 σ17))
  else
  (bd (fX6_isMachine (a1 - (1 : Int32)) σ12) fun v19 σ20 =>
  if v19 = 0 then
  (fX6_tick_45 σ20)
  else
  (fX6_tick_47 a1 σ20))))
def fX6_openAll_74 (k8 : Int32 → Int32 → Sg → Rs) (x1 x2 : Int32) (σ : Sg) : Rs :=
  sv (x2 + 1) fun y1 =>
  k8 x1 y1 σ
def fX6_openAll_61 (k8 : Int32 → Int32 → Sg → Rs) (x1 x2 : Int32) (σ : Sg) : Rs :=
  gd ((18 : Int32) + x2) 42 <|
  sv (wr σ 1 (Int32.toNatClampNeg ((18 : Int32) + x2)) 0) fun σ2 =>
  sv (x1 + 1) fun y3 =>
  fX6_openAll_74 k8 y3 x2 σ2
def fX6_openAll_L8 (k8 : Int32 → Int32 → Sg → Rs) (x1 x2 : Int32) (σ : Sg) : Rs :=
  gd 39 42 <|
  if (σ 1 (Int32.toNatClampNeg 39)) ≤ x2 then
  (some (x1, σ))
  else
  (gd ((0 : Int32) + x2) 42 <|
  gd (σ 1 (Int32.toNatClampNeg ((0 : Int32) + x2))) 6 <|
  sv (σ 6 (Int32.toNatClampNeg (σ 1 (Int32.toNatClampNeg ((0 : Int32) + x2))))) fun y5 =>
  gd x2 6 <|
  if (σ 4 (Int32.toNatClampNeg x2)) = 1 then
  (gd y5 6 <|
  if (σ 8 (Int32.toNatClampNeg y5)) = 0 then
  (fX6_openAll_61 k8 x1 x2 σ)
  else
  (gd y5 6 <|
  if 0 ≤ (σ 7 (Int32.toNatClampNeg y5)) then
  (fX6_openAll_74 k8 x1 x2 σ)
  else
  (fX6_openAll_61 k8 x1 x2 σ)))
  else
  (fX6_openAll_74 k8 x1 x2 σ))
def fX6_openAll (σ : Sg) : Rs :=
  bd (fX6_layNow σ) fun v9 σ10 =>
  it fX6_openAll_L8 (fun _ _ _ => none) FU 0 0 σ10
def fX6_fail (a1 : Int32) (σ : Sg) : Rs :=
  bd (fX6_isMachine a1 σ) fun v1 σ2 =>
  if v1 = 0 then
  (some ((-1), σ2))
  else
  (gd ((36 : Int32) + a1) 42 <|
  if (σ2 1 (Int32.toNatClampNeg ((36 : Int32) + a1))) = 0 then
  (some ((-3), σ2))
  else
  (gd ((36 : Int32) + a1) 42 <|
  sv (wr σ2 1 (Int32.toNatClampNeg ((36 : Int32) + a1)) 0) fun σ5 =>
  bd (fX6_openAll σ5) fun v6 σ7 =>
  some (v6, σ7)))
def fX6_trip (a1 : Int32) (σ : Sg) : Rs :=
  bd (fX6_isLine a1 σ) fun v1 σ2 =>
  if v1 = 0 then
  (some ((-1), σ2))
  else
  (gd ((18 : Int32) + a1) 42 <|
  if (σ2 1 (Int32.toNatClampNeg ((18 : Int32) + a1))) = 0 then
  (some ((-3), σ2))
  else
  (gd ((18 : Int32) + a1) 42 <|
  sv (wr σ2 1 (Int32.toNatClampNeg ((18 : Int32) + a1)) 0) fun σ5 =>
  bd (fX6_openAll σ5) fun v6 σ7 =>
  some ((v6 + (1 : Int32)), σ7)))
def fX6_goOn_119 (k5 : Int32 → Int32 → Int32 → Int32 → Sg → Rs) (x1 x2 x3 x4 : Int32) (σ : Sg) : Rs :=
  sv (x4 + 1) fun y1 =>
  k5 x1 x2 x3 y1 σ
def fX6_goOn_113 (k5 : Int32 → Int32 → Int32 → Int32 → Sg → Rs) (k33 : Int32 → Int32 → Int32 → Int32 → Int32 → Sg → Rs) (x1 x2 x3 x4 x5 : Int32) (σ : Sg) : Rs :=
  sv (x5 + 1) fun y2 =>
  k33 x1 x2 x3 x4 y2 σ
def fX6_goOn_112 (k5 : Int32 → Int32 → Int32 → Int32 → Sg → Rs) (k33 : Int32 → Int32 → Int32 → Int32 → Int32 → Sg → Rs) (x1 x2 x3 x4 x5 t0 t1 : Int32) (σ : Sg) : Rs :=
  gd t1 8000 <|
  sv (wr σ 9 (Int32.toNatClampNeg t1) t0) fun σ3 =>
  fX6_goOn_113 k5 k33 x1 x2 x3 x4 x5 σ3
def fX6_goOn_82 (k5 : Int32 → Int32 → Int32 → Int32 → Sg → Rs) (k33 : Int32 → Int32 → Int32 → Int32 → Int32 → Sg → Rs) (x1 x2 x4 x5 x6 t0 : Int32) (σ : Sg) : Rs :=
  gd x6 8000 <|
  if 0 ≤ (σ 9 (Int32.toNatClampNeg x6)) then
  (gd x6 8000 <|
  fX6_goOn_112 k5 k33 x1 x2 t0 x4 x5 (σ 9 (Int32.toNatClampNeg x6)) x6 σ)
  else
  (fX6_goOn_112 k5 k33 x1 x2 t0 x4 x5 (x1 + (1 : Int32)) x6 σ)
def fX6_goOn_77 (k5 : Int32 → Int32 → Int32 → Int32 → Sg → Rs) (k33 : Int32 → Int32 → Int32 → Int32 → Int32 → Sg → Rs) (x1 x2 x4 x5 x6 : Int32) (σ : Sg) : Rs :=
  fX6_goOn_82 k5 k33 x1 x2 x4 x5 x6 1 σ
def fX6_goOn_L33 (k5 : Int32 → Int32 → Int32 → Int32 → Sg → Rs) (k33 : Int32 → Int32 → Int32 → Int32 → Int32 → Sg → Rs) (x1 x2 x3 x4 x5 : Int32) (σ : Sg) : Rs :=
  if 10 ≤ x5 then
  (fX6_goOn_119 k5 x1 x2 x3 x4 σ)
  else
  (if x5 = x2 then
  (fX6_goOn_113 k5 k33 x1 x2 x3 x4 x5 σ)
  else
  (bd (fX6_canStep x5 σ) fun v7 σ8 =>
  if v7 = 0 then
  (fX6_goOn_113 k5 k33 x1 x2 x3 x4 x5 σ8)
  else
  (bd (fX6_numberBehind x5 σ8) fun v10 σ11 =>
  if x3 = 0 then
  (gd v10 8000 <|
  if 0 ≤ (σ11 9 (Int32.toNatClampNeg v10)) then
  (fX6_goOn_82 k5 k33 x1 x2 x4 x5 v10 0 σ11)
  else
  (fX6_goOn_77 k5 k33 x1 x2 x4 x5 v10 σ11))
  else
  (fX6_goOn_77 k5 k33 x1 x2 x4 x5 v10 σ11))))
def fX6_goOn_L5 (k5 : Int32 → Int32 → Int32 → Int32 → Sg → Rs) (x1 x2 x3 x4 : Int32) (σ : Sg) : Rs :=
  if 8000 ≤ x4 then
  (zr x3 σ)
  else
  (gd x4 8000 <|
  if (σ 9 (Int32.toNatClampNeg x4)) = x1 then
  (bd (fX6_layNumber x4 σ) fun v16 σ17 =>
  it (fX6_goOn_L33 k5) (fun _ _ _ _ _ _ => none) FU x1 x2 x3 x4 0 σ17)
  else
  (fX6_goOn_119 k5 x1 x2 x3 x4 σ))
def fX6_goOn (a1 : Int32) (a2 : Int32) (σ : Sg) : Rs :=
  it fX6_goOn_L5 (fun _ _ _ _ _ => none) FU a1 a2 0 0 σ
def fX6_layAll_L37 (k37 : Int32 → Int32 → Int32 → Sg → Rs) (x1 x2 x3 : Int32) (σ : Sg) : Rs :=
  if x3 = 0 then
  (some (0, σ))
  else
  (bd (fX6_goOn x2 x1 σ) fun v2 σ3 =>
  sv (x2 + 1) fun y4 =>
  k37 x1 y4 v2 σ3)
def fX6_layAll_L2 (k2 : Int32 → Int32 → Sg → Rs) (x1 x2 : Int32) (σ : Sg) : Rs :=
  if 8000 ≤ x2 then
  (bd (fX6_numberNow σ) fun v6 σ7 =>
  gd v6 8000 <|
  sv (wr σ7 9 (Int32.toNatClampNeg v6) 0) fun σ8 =>
  it fX6_layAll_L37 (fun _ _ _ _ => none) FU x1 0 1 σ8)
  else
  (gd x2 8000 <|
  sv (wr σ 9 (Int32.toNatClampNeg x2) (-6)) fun σ9 =>
  sv (x2 + 1) fun y10 =>
  k2 x1 y10 σ9)
def fX6_layAll (a1 : Int32) (σ : Sg) : Rs :=
  it fX6_layAll_L2 (fun _ _ _ => none) FU a1 0 σ
def fX6_readySet_33 (k4 : Int32 → Int32 → Sg → Rs) (x2 t0 t1 : Int32) (σ : Sg) : Rs :=
  sv (t1 ||| t0) fun y1 =>
  sv (x2 + 1) fun y2 =>
  k4 y1 y2 σ
def fX6_readySet_L4 (k4 : Int32 → Int32 → Sg → Rs) (x1 x2 : Int32) (σ : Sg) : Rs :=
  gd 40 42 <|
  if (σ 1 (Int32.toNatClampNeg 40)) ≤ x2 then
  (some (x1, σ))
  else
  (gd x2 3 <|
  if (σ 5 (Int32.toNatClampNeg x2)) = 1 then
  (fX6_readySet_33 k4 x2 ((1 : Int32) <<< (x2 &&& 31)) x1 σ)
  else
  (fX6_readySet_33 k4 x2 0 x1 σ))
def fX6_readySet (σ : Sg) : Rs :=
  it fX6_readySet_L4 (fun _ _ _ => none) FU 0 0 σ
def fX6_liveSet_26 (k4 : Int32 → Int32 → Sg → Rs) (x2 t0 t1 : Int32) (σ : Sg) : Rs :=
  sv (t1 ||| t0) fun y1 =>
  sv (x2 + 1) fun y2 =>
  k4 y1 y2 σ
def fX6_liveSet_L4 (k4 : Int32 → Int32 → Sg → Rs) (x1 x2 : Int32) (σ : Sg) : Rs :=
  if 6 ≤ x2 then
  (some (x1, σ))
  else
  (bd (fX6_isLive x2 σ) fun v4 σ5 =>
  if v4 = 0 then
  (fX6_liveSet_26 k4 x2 0 x1 σ5)
  else
  (fX6_liveSet_26 k4 x2 ((1 : Int32) <<< (x2 &&& 31)) x1 σ5))
def fX6_liveSet (σ : Sg) : Rs :=
  it fX6_liveSet_L4 (fun _ _ _ => none) FU 0 0 σ
def fX6_isGoal_32 (t0 : Int32) (σ : Sg) : Rs :=
  zr t0 σ
def fX6_isGoal_31 (σ : Sg) : Rs :=
  fX6_isGoal_32 0 σ
def fX6_isGoal (a1 : Int32) (a2 : Int32) (a3 : Int32) (σ : Sg) : Rs :=
  bd (fX6_layNumber a1 σ) fun v1 σ2 =>
  bd (fX6_readySet σ2) fun v3 σ4 =>
  if (a2 &&& (v3 ^^^ (-1 : Int32))) = 0 then
  (bd (fX6_liveSet σ4) fun v6 σ7 =>
  if (a3 &&& (v6 ^^^ (-1 : Int32))) = 0 then
  (fX6_isGoal_32 1 σ7)
  else
  (fX6_isGoal_31 σ7))
  else
  (fX6_isGoal_31 σ4)
def fX6_reached_58 (k6 : Int32 → Int32 → Int32 → Int32 → Sg → Rs) (x1 x2 x3 x4 : Int32) (σ : Sg) : Rs :=
  sv (x4 + 1) fun y1 =>
  k6 x1 x2 x3 y1 σ
def fX6_reached_39 (k6 : Int32 → Int32 → Int32 → Int32 → Sg → Rs) (x1 x2 x3 x4 : Int32) (σ : Sg) : Rs :=
  bd (fX6_isGoal x4 x1 x2 σ) fun v2 σ3 =>
  if v2 = 0 then
  (fX6_reached_58 k6 x1 x2 x3 x4 σ3)
  else
  (gd x4 8000 <|
  sv (σ3 9 (Int32.toNatClampNeg x4)) fun y5 =>
  fX6_reached_58 k6 x1 x2 y5 x4 σ3)
def fX6_reached_L6 (k6 : Int32 → Int32 → Int32 → Int32 → Sg → Rs) (x1 x2 x3 x4 : Int32) (σ : Sg) : Rs :=
  if 8000 ≤ x4 then
  (some (x3, σ))
  else
  (gd x4 8000 <|
  if (σ 9 (Int32.toNatClampNeg x4)) < 0 then
  (fX6_reached_58 k6 x1 x2 x3 x4 σ)
  else
  (if x3 < 0 then
  (fX6_reached_39 k6 x1 x2 x3 x4 σ)
  else
  (gd x4 8000 <|
  if x3 ≤ (σ 9 (Int32.toNatClampNeg x4)) then
  (fX6_reached_58 k6 x1 x2 x3 x4 σ)
  else
  (fX6_reached_39 k6 x1 x2 x3 x4 σ))))
def fX6_reached (a1 : Int32) (a2 : Int32) (σ : Sg) : Rs :=
  it fX6_reached_L6 (fun _ _ _ _ _ => none) FU a1 a2 (-6) 0 σ
def fX6_stepOn_55 (k7 : Int32 → Int32 → Sg → Rs) (x1 x2 : Int32) (σ : Sg) : Rs :=
  sv (x2 + 1) fun y1 =>
  k7 x1 y1 σ
def fX6_stepOn_L7 (k7 : Int32 → Int32 → Sg → Rs) (x1 x2 : Int32) (σ : Sg) : Rs :=
  if 10 ≤ x2 then
  (some ((-6), σ))
  else
  (bd (fX6_canStep x2 σ) fun v3 σ4 =>
  if v3 = 0 then
  (fX6_stepOn_55 k7 x1 x2 σ4)
  else
  (bd (fX6_numberBehind x2 σ4) fun v6 σ7 =>
  gd v6 8000 <|
  gd x1 8000 <|
  if (σ7 9 (Int32.toNatClampNeg v6)) = ((σ7 9 (Int32.toNatClampNeg x1)) + (1 : Int32)) then
  (gd v6 8000 <|
  if (σ7 10 (Int32.toNatClampNeg v6)) = 0 then
  (fX6_stepOn_55 k7 x1 x2 σ7)
  else
  (some (x2, σ7)))
  else
  (fX6_stepOn_55 k7 x1 x2 σ7)))
def fX6_stepOn (a1 : Int32) (σ : Sg) : Rs :=
  bd (fX6_layNumber a1 σ) fun v10 σ11 =>
  it fX6_stepOn_L7 (fun _ _ _ => none) FU a1 0 σ11
def fX6_layLeads_105 (k56 : Int32 → Sg → Rs) (k64 : Int32 → Int32 → Sg → Rs) (x4 x5 : Int32) (σ : Sg) : Rs :=
  sv (x5 + 1) fun y1 =>
  k64 x4 y1 σ
def fX6_layLeads_104 (k56 : Int32 → Sg → Rs) (k64 : Int32 → Int32 → Sg → Rs) (x4 x5 t0 t1 : Int32) (σ : Sg) : Rs :=
  gd t1 8000 <|
  sv (wr σ 10 (Int32.toNatClampNeg t1) (vp_nar .boolean t0)) fun σ2 =>
  fX6_layLeads_105 k56 k64 x4 x5 σ2
def fX6_layLeads_L64 (k56 : Int32 → Sg → Rs) (k64 : Int32 → Int32 → Sg → Rs) (x4 x5 : Int32) (σ : Sg) : Rs :=
  if 8000 ≤ x5 then
  (sv (x4 + (-1)) fun y4 =>
  k56 y4 σ)
  else
  (gd x5 8000 <|
  if (σ 9 (Int32.toNatClampNeg x5)) = x4 then
  (bd (fX6_stepOn x5 σ) fun v6 σ7 =>
  if v6 < 0 then
  (fX6_layLeads_104 k56 k64 x4 x5 0 x5 σ7)
  else
  (fX6_layLeads_104 k56 k64 x4 x5 1 x5 σ7))
  else
  (fX6_layLeads_105 k56 k64 x4 x5 σ))
def fX6_layLeads_L56 (k56 : Int32 → Sg → Rs) (x4 : Int32) (σ : Sg) : Rs :=
  if x4 < 0 then
  (some (0, σ))
  else
  (it (fX6_layLeads_L64 k56) (fun _ _ _ => none) FU x4 0 σ)
def fX6_layLeads_44 (k3 : Int32 → Int32 → Int32 → Int32 → Sg → Rs) (x1 x2 x3 x4 t0 t1 : Int32) (σ : Sg) : Rs :=
  gd t1 8000 <|
  sv (wr σ 10 (Int32.toNatClampNeg t1) (vp_nar .boolean t0)) fun σ10 =>
  sv (x4 + 1) fun y11 =>
  k3 x1 x2 x3 y11 σ10
def fX6_layLeads_43 (k3 : Int32 → Int32 → Int32 → Int32 → Sg → Rs) (x1 x2 x3 x4 t0 : Int32) (σ : Sg) : Rs :=
  fX6_layLeads_44 k3 x1 x2 x3 x4 0 t0 σ
def fX6_layLeads_L3 (k3 : Int32 → Int32 → Int32 → Int32 → Sg → Rs) (x1 x2 x3 x4 : Int32) (σ : Sg) : Rs :=
  if 8000 ≤ x4 then
  (sv (x1 - (1 : Int32)) fun y13 =>
  it fX6_layLeads_L56 (fun _ _ => none) FU y13 σ)
  else
  (gd x4 8000 <|
  if (σ 9 (Int32.toNatClampNeg x4)) = x1 then
  (bd (fX6_isGoal x4 x2 x3 σ) fun v15 σ16 =>
  if v15 = 0 then
  (fX6_layLeads_43 k3 x1 x2 x3 x4 x4 σ16)
  else
  (fX6_layLeads_44 k3 x1 x2 x3 x4 1 x4 σ16))
  else
  (fX6_layLeads_43 k3 x1 x2 x3 x4 x4 σ))
def fX6_layLeads (a1 : Int32) (a2 : Int32) (a3 : Int32) (σ : Sg) : Rs :=
  it fX6_layLeads_L3 (fun _ _ _ _ _ => none) FU a1 a2 a3 0 σ
def fX6_layWay_L36 (k36 : Int32 → Int32 → Int32 → Sg → Rs) (x3 x4 x5 : Int32) (σ : Sg) : Rs :=
  if x3 ≤ x5 then
  (sv (wr σ 0 11 x4) fun σ2 =>
  some (x3, σ2))
  else
  (bd (fX6_stepOn x4 σ) fun v3 σ4 =>
  gd x5 8000 <|
  sv (wr σ4 11 (Int32.toNatClampNeg x5) v3) fun σ5 =>
  bd (fX6_layNumber x4 σ5) fun v6 σ7 =>
  gd x5 8000 <|
  bd (fX6_numberBehind (σ7 11 (Int32.toNatClampNeg x5)) σ7) fun v8 σ9 =>
  sv (x5 + 1) fun y10 =>
  k36 x3 v8 y10 σ9)
def fX6_layWay (a1 : Int32) (a2 : Int32) (σ : Sg) : Rs :=
  bd (fX6_layAll (-6) σ) fun v11 σ12 =>
  bd (fX6_reached a1 a2 σ12) fun v13 σ14 =>
  if 0 ≤ v13 then
  (bd (fX6_layLeads v13 a1 a2 σ14) fun v16 σ17 =>
  bd (fX6_numberNow σ17) fun v18 σ19 =>
  it fX6_layWay_L36 (fun _ _ _ _ => none) FU v13 v18 0 σ19)
  else
  (some ((-6), σ14))
def fX6_areSets_34 (t0 : Int32) (σ : Sg) : Rs :=
  zr t0 σ
def fX6_areSets_33 (σ : Sg) : Rs :=
  fX6_areSets_34 0 σ
def fX6_areSets (a1 : Int32) (a2 : Int32) (σ : Sg) : Rs :=
  gd 40 42 <|
  bd (fX6_in a1 0 (((1 : Int32) <<< ((σ 1 (Int32.toNatClampNeg 40)) &&& 31)) - (1 : Int32)) σ) fun v1 σ2 =>
  if v1 = 0 then
  (fX6_areSets_33 σ2)
  else
  (bd (fX6_in a2 0 63 σ2) fun v4 σ5 =>
  if v4 = 0 then
  (fX6_areSets_33 σ5)
  else
  (fX6_areSets_34 1 σ5))
def fX6_way_14 (σ : Sg) : Rs :=
  some ((-2), σ)
def fX6_way_57 (t0 : Int32) (σ : Sg) : Rs :=
  some (t0, σ)
def fX6_way_35 (x4 : Int32) (σ : Sg) : Rs :=
  fX6_way_57 x4 σ
def fX6_way (a1 : Int32) (a2 : Int32) (a3 : Int32) (σ : Sg) : Rs :=
  bd (fX6_areSets a1 a2 σ) fun v1 σ2 =>
  if v1 = 0 then
  (fX6_way_14 σ2)
  else
  (if (-1) ≤ a3 then
  (bd (fX6_layWay a1 a2 σ2) fun v5 σ6 =>
  if v5 < 0 then
  (fX6_way_35 v5 σ6)
  else
  (if a3 = (-1) then
  (fX6_way_35 v5 σ6)
  else
  (if v5 ≤ a3 then
  (fX6_way_57 (-6) σ6)
  else
  (gd a3 8000 <|
  fX6_way_57 (σ6 11 (Int32.toNatClampNeg a3)) σ6))))
  else
  (fX6_way_14 σ2))
def fX6_go (a1 : Int32) (a2 : Int32) (σ : Sg) : Rs :=
  bd (fX6_areSets a1 a2 σ) fun v1 σ2 =>
  if v1 = 0 then
  (some ((-2), σ2))
  else
  (bd (fX6_layWay a1 a2 σ2) fun v4 σ5 =>
  if 0 ≤ v4 then
  (bd (fX6_become (σ5 0 11) σ5) fun v7 σ8 =>
  gd 41 42 <|
  gd 41 42 <|
  sv (wr σ8 1 (Int32.toNatClampNeg 41) ((σ8 1 (Int32.toNatClampNeg 41)) + v4)) fun σ9 =>
  gd 41 42 <|
  some ((σ9 1 (Int32.toNatClampNeg 41)), σ9))
  else
  (some ((-5), σ5)))
def fX6_canWithout_19 (t0 : Int32) (σ : Sg) : Rs :=
  zr t0 σ
def fX6_canWithout (a1 : Int32) (a2 : Int32) (a3 : Int32) (σ : Sg) : Rs :=
  bd (fX6_layAll a1 σ) fun v1 σ2 =>
  bd (fX6_reached a2 a3 σ2) fun v3 σ4 =>
  if v3 < 0 then
  (fX6_canWithout_19 0 σ4)
  else
  (fX6_canWithout_19 1 σ4)
def fX6_neededLines_52 (k5 : Int32 → Int32 → Int32 → Int32 → Sg → Rs) (x1 x2 x4 t0 t1 : Int32) (σ : Sg) : Rs :=
  sv (t1 ||| t0) fun y1 =>
  sv (x4 + 1) fun y2 =>
  k5 x1 x2 y1 y2 σ
def fX6_neededLines_51 (k5 : Int32 → Int32 → Int32 → Int32 → Sg → Rs) (x1 x2 x4 t0 : Int32) (σ : Sg) : Rs :=
  fX6_neededLines_52 k5 x1 x2 x4 0 t0 σ
def fX6_neededLines_L5 (k5 : Int32 → Int32 → Int32 → Int32 → Sg → Rs) (x1 x2 x3 x4 : Int32) (σ : Sg) : Rs :=
  gd 39 42 <|
  if (σ 1 (Int32.toNatClampNeg 39)) ≤ x4 then
  (some (x3, σ))
  else
  (gd ((18 : Int32) + x4) 42 <|
  if (σ 1 (Int32.toNatClampNeg ((18 : Int32) + x4))) = 0 then
  (bd (fX6_canWithout (x4 + (4 : Int32)) x1 x2 σ) fun v5 σ6 =>
  if v5 = 0 then
  (fX6_neededLines_52 k5 x1 x2 x4 ((1 : Int32) <<< (x4 &&& 31)) x3 σ6)
  else
  (fX6_neededLines_51 k5 x1 x2 x4 x3 σ6))
  else
  (fX6_neededLines_51 k5 x1 x2 x4 x3 σ))
def fX6_neededLines (a1 : Int32) (a2 : Int32) (σ : Sg) : Rs :=
  it fX6_neededLines_L5 (fun _ _ _ _ _ => none) FU a1 a2 0 0 σ
def fX6_neededMachines_52 (k5 : Int32 → Int32 → Int32 → Int32 → Sg → Rs) (x1 x2 x4 t0 t1 : Int32) (σ : Sg) : Rs :=
  sv (t1 ||| t0) fun y1 =>
  sv (x4 + 1) fun y2 =>
  k5 x1 x2 y1 y2 σ
def fX6_neededMachines_51 (k5 : Int32 → Int32 → Int32 → Int32 → Sg → Rs) (x1 x2 x4 t0 : Int32) (σ : Sg) : Rs :=
  fX6_neededMachines_52 k5 x1 x2 x4 0 t0 σ
def fX6_neededMachines_L5 (k5 : Int32 → Int32 → Int32 → Int32 → Sg → Rs) (x1 x2 x3 x4 : Int32) (σ : Sg) : Rs :=
  gd 40 42 <|
  if (σ 1 (Int32.toNatClampNeg 40)) ≤ x4 then
  (some (x3, σ))
  else
  (gd ((36 : Int32) + x4) 42 <|
  if (σ 1 (Int32.toNatClampNeg ((36 : Int32) + x4))) = 0 then
  (bd (fX6_canWithout (x4 + (1 : Int32)) x1 x2 σ) fun v5 σ6 =>
  if v5 = 0 then
  (fX6_neededMachines_52 k5 x1 x2 x4 ((1 : Int32) <<< (x4 &&& 31)) x3 σ6)
  else
  (fX6_neededMachines_51 k5 x1 x2 x4 x3 σ6))
  else
  (fX6_neededMachines_51 k5 x1 x2 x4 x3 σ))
def fX6_neededMachines (a1 : Int32) (a2 : Int32) (σ : Sg) : Rs :=
  it fX6_neededMachines_L5 (fun _ _ _ _ _ => none) FU a1 a2 0 0 σ
def fX6_needed_18 (σ : Sg) : Rs :=
  some ((-2), σ)
def fX6_needed_54 (t0 : Int32) (σ : Sg) : Rs :=
  some (t0, σ)
def fX6_needed (a1 : Int32) (a2 : Int32) (a3 : Int32) (σ : Sg) : Rs :=
  bd (fX6_areSets a1 a2 σ) fun v1 σ2 =>
  if v1 = 0 then
  (fX6_needed_18 σ2)
  else
  (bd (fX6_in a3 0 1 σ2) fun v4 σ5 =>
  if v4 = 0 then
  (fX6_needed_18 σ5)
  else
  (bd (fX6_canWithout (-6) a1 a2 σ5) fun v7 σ8 =>
  if v7 = 0 then
  (some ((-6), σ8))
  else
  (if a3 = 0 then
  (bd (fX6_neededLines a1 a2 σ8) fun v13 σ14 =>
  fX6_needed_54 v13 σ14)
  else
  (bd (fX6_neededMachines a1 a2 σ8) fun v11 σ12 =>
  fX6_needed_54 v11 σ12))))
def fX6_ever_61 (k22 : Int32 → Int32 → Int32 → Sg → Rs) (x1 x2 x3 : Int32) (σ : Sg) : Rs :=
  sv (x3 + 1) fun y1 =>
  k22 x1 x2 y1 σ
def fX6_ever_59 (k22 : Int32 → Int32 → Int32 → Sg → Rs) (x1 x3 t0 t1 : Int32) (σ : Sg) : Rs :=
  sv (t1 ||| t0) fun y2 =>
  fX6_ever_61 k22 x1 y2 x3 σ
def fX6_ever_L22 (k22 : Int32 → Int32 → Int32 → Sg → Rs) (x1 x2 x3 : Int32) (σ : Sg) : Rs :=
  if 8000 ≤ x3 then
  (some (x2, σ))
  else
  (gd x3 8000 <|
  if (σ 9 (Int32.toNatClampNeg x3)) < 0 then
  (fX6_ever_61 k22 x1 x2 x3 σ)
  else
  (bd (fX6_layNumber x3 σ) fun v5 σ6 =>
  if x1 = 0 then
  (bd (fX6_readySet σ6) fun v10 σ11 =>
  fX6_ever_59 k22 x1 x3 v10 x2 σ11)
  else
  (bd (fX6_liveSet σ6) fun v8 σ9 =>
  fX6_ever_59 k22 x1 x3 v8 x2 σ9)))
def fX6_ever (a1 : Int32) (σ : Sg) : Rs :=
  bd (fX6_in a1 0 1 σ) fun v12 σ13 =>
  if v12 = 0 then
  (some ((-2), σ13))
  else
  (bd (fX6_layAll (-6) σ13) fun v15 σ16 =>
  it fX6_ever_L22 (fun _ _ _ _ => none) FU a1 0 0 σ16)
def fX6_image_L14 (k14 : Int32 → Int32 → Sg → Rs) (x1 x2 : Int32) (σ : Sg) : Rs :=
  if 42 ≤ x2 then
  (gd x1 2 <|
  sv (wr σ 3 (Int32.toNatClampNeg x1) (vp_nar .boolean 1)) fun σ2 =>
  some (1, σ2))
  else
  (gd x2 42 <|
  gd (((42 : Int32) * x1) + x2) 84 <|
  sv (wr σ 2 (Int32.toNatClampNeg (((42 : Int32) * x1) + x2)) (σ 1 (Int32.toNatClampNeg x2))) fun σ3 =>
  sv (x2 + 1) fun y4 =>
  k14 x1 y4 σ3)
def fX6_image (a1 : Int32) (σ : Sg) : Rs :=
  bd (fX6_in a1 0 1 σ) fun v5 σ6 =>
  if v5 = 0 then
  (some ((-2), σ6))
  else
  (it fX6_image_L14 (fun _ _ _ => none) FU a1 0 σ6)
def fX6_restore_L26 (k26 : Int32 → Int32 → Sg → Rs) (x1 x2 : Int32) (σ : Sg) : Rs :=
  if 42 ≤ x2 then
  (some (1, σ))
  else
  (gd (((42 : Int32) * x1) + x2) 84 <|
  gd x2 42 <|
  sv (wr σ 1 (Int32.toNatClampNeg x2) (σ 2 (Int32.toNatClampNeg (((42 : Int32) * x1) + x2)))) fun σ2 =>
  sv (x2 + 1) fun y3 =>
  k26 x1 y3 σ2)
def fX6_restore (a1 : Int32) (σ : Sg) : Rs :=
  bd (fX6_in a1 0 1 σ) fun v4 σ5 =>
  if v4 = 0 then
  (some ((-2), σ5))
  else
  (gd a1 2 <|
  if (σ5 3 (Int32.toNatClampNeg a1)) = 0 then
  (some ((-3), σ5))
  else
  (it fX6_restore_L26 (fun _ _ _ => none) FU a1 0 σ5))
def fX6_size_L4 (k4 : Int32 → Int32 → Int32 → Sg → Rs) (x0 x1 x2 : Int32) (σ : Sg) : Rs :=
  if 6 ≤ x2 then
  (some (x1, σ))
  else
  (sv (x1 + ((x0 >>> (x2 &&& 31)) &&& (1 : Int32))) fun y2 =>
  sv (x2 + 1) fun y3 =>
  k4 x0 y2 y3 σ)
def fX6_size (a0 : Int32) (σ : Sg) : Rs :=
  it fX6_size_L4 (fun _ _ _ _ => none) FU a0 0 0 σ
def fX6_sumOf_29 (k5 : Int32 → Int32 → Int32 → Int32 → Sg → Rs) (x1 x2 x4 t0 t1 : Int32) (σ : Sg) : Rs :=
  sv (t1 + t0) fun y1 =>
  sv (x4 + 1) fun y2 =>
  k5 x1 x2 y1 y2 σ
def fX6_sumOf_L5 (k5 : Int32 → Int32 → Int32 → Int32 → Sg → Rs) (x1 x2 x3 x4 : Int32) (σ : Sg) : Rs :=
  if x2 ≤ x4 then
  (some (x3, σ))
  else
  (gd (x1 + x4) 42 <|
  if (σ 1 (Int32.toNatClampNeg (x1 + x4))) ≤ 0 then
  (fX6_sumOf_29 k5 x1 x2 x4 0 x3 σ)
  else
  (fX6_sumOf_29 k5 x1 x2 x4 1 x3 σ))
def fX6_sumOf (a1 : Int32) (a2 : Int32) (σ : Sg) : Rs :=
  it fX6_sumOf_L5 (fun _ _ _ _ _ => none) FU a1 a2 0 0 σ
def fX6_liveIslands_35 (k4 : Int32 → Int32 → Sg → Rs) (x2 t0 t1 : Int32) (σ : Sg) : Rs :=
  sv (t1 + t0) fun y1 =>
  sv (x2 + 1) fun y2 =>
  k4 y1 y2 σ
def fX6_liveIslands_34 (k4 : Int32 → Int32 → Sg → Rs) (x2 t0 : Int32) (σ : Sg) : Rs :=
  fX6_liveIslands_35 k4 x2 0 t0 σ
def fX6_liveIslands_L4 (k4 : Int32 → Int32 → Sg → Rs) (x1 x2 : Int32) (σ : Sg) : Rs :=
  if 6 ≤ x2 then
  (some (x1, σ))
  else
  (gd x2 6 <|
  if (σ 6 (Int32.toNatClampNeg x2)) = x2 then
  (gd x2 6 <|
  if (σ 8 (Int32.toNatClampNeg x2)) = 0 then
  (fX6_liveIslands_34 k4 x2 x1 σ)
  else
  (fX6_liveIslands_35 k4 x2 1 x1 σ))
  else
  (fX6_liveIslands_34 k4 x2 x1 σ))
def fX6_liveIslands (σ : Sg) : Rs :=
  it fX6_liveIslands_L4 (fun _ _ _ => none) FU 0 0 σ
def fX6_count_157 (t0 t1 : Int32) (σ : Sg) : Rs :=
  some ((t1 + t0), σ)
def fX6_count_143 (t0 : Int32) (σ : Sg) : Rs :=
  gd 1 2 <|
  if (σ 3 (Int32.toNatClampNeg 1)) = 0 then
  (fX6_count_157 0 t0 σ)
  else
  (fX6_count_157 2 t0 σ)
def fX6_count (a1 : Int32) (σ : Sg) : Rs :=
  bd (fX6_layNow σ) fun v2 σ3 =>
  if a1 = 0 then
  (gd 39 42 <|
  some ((σ3 1 (Int32.toNatClampNeg 39)), σ3))
  else
  if a1 = 1 then
  (gd 40 42 <|
  some ((σ3 1 (Int32.toNatClampNeg 40)), σ3))
  else
  if a1 = 2 then
  (gd 39 42 <|
  bd (fX6_sumOf 18 (σ3 1 (Int32.toNatClampNeg 39)) σ3) fun v7 σ8 =>
  some (v7, σ8))
  else
  if a1 = 3 then
  (gd 40 42 <|
  bd (fX6_sumOf 36 (σ3 1 (Int32.toNatClampNeg 40)) σ3) fun v10 σ11 =>
  some (v10, σ11))
  else
  if a1 = 4 then
  (bd (fX6_readySet σ3) fun v13 σ14 =>
  bd (fX6_size v13 σ14) fun v15 σ16 =>
  some (v15, σ16))
  else
  if a1 = 5 then
  (bd (fX6_liveSet σ3) fun v18 σ19 =>
  bd (fX6_size v18 σ19) fun v20 σ21 =>
  some (v20, σ21))
  else
  if a1 = 6 then
  (bd (fX6_liveIslands σ3) fun v23 σ24 =>
  some (v23, σ24))
  else
  if a1 = 7 then
  (gd 41 42 <|
  some ((σ3 1 (Int32.toNatClampNeg 41)), σ3))
  else
  if a1 = 8 then
  (gd 0 2 <|
  if (σ3 3 (Int32.toNatClampNeg 0)) = 0 then
  (fX6_count_143 0 σ3)
  else
  (fX6_count_143 1 σ3))
  else
  (some ((-2), σ3))
