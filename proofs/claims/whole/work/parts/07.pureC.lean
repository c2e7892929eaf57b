def fX0_closed (a0 : Int32) (σ : Sg) : Rs :=
  some ((a0 &&& (63 : Int32)), σ)
def fX0_running (a0 : Int32) (σ : Sg) : Rs :=
  some (((a0 >>> ((6 : Int32) &&& 31)) &&& (7 : Int32)), σ)
def fX5_bit (a0 : Int32) (a1 : Int32) (σ : Sg) : Rs :=
  some (((a0 >>> (a1 &&& 31)) &&& (1 : Int32)), σ)
def fX0_isRunning_16 (t0 : Int32) (σ : Sg) : Rs :=
  zr t0 σ
def fX0_isRunning (a0 : Int32) (a1 : Int32) (σ : Sg) : Rs :=
  bd (fX0_running a0 σ) fun v1 σ2 =>
  bd (fX5_bit v1 a1 σ2) fun v3 σ4 =>
  if v3 = 0 then
  (fX0_isRunning_16 0 σ4)
  else
  (fX0_isRunning_16 1 σ4)
def fX0_leftAt (a0 : Int32) (σ : Sg) : Rs :=
  some (((9 : Int32) + ((2 : Int32) * a0)), σ)
def fX0_left (a0 : Int32) (a1 : Int32) (σ : Sg) : Rs :=
  bd (fX0_leftAt a1 σ) fun v1 σ2 =>
  some (((a0 >>> (v1 &&& 31)) &&& (3 : Int32)), σ2)
def fX0_ready_28 (k7 : Int32 → Int32 → Int32 → Sg → Rs) (x0 x1 x2 : Int32) (σ : Sg) : Rs :=
  sv (x2 + 1) fun y1 =>
  k7 x0 x1 y1 σ
def fX0_ready_L7 (k7 : Int32 → Int32 → Int32 → Sg → Rs) (x0 x1 x2 : Int32) (σ : Sg) : Rs :=
  if 3 ≤ x2 then
  (some (x1, σ))
  else
  (bd (fX0_left x0 x2 σ) fun v3 σ4 =>
  if v3 ≤ 0 then
  (fX0_ready_28 k7 x0 x1 x2 σ4)
  else
  (sv (x1 &&& (((1 : Int32) <<< (x2 &&& 31)) ^^^ (-1 : Int32))) fun y6 =>
  fX0_ready_28 k7 x0 y6 x2 σ4))
def fX0_ready (a0 : Int32) (σ : Sg) : Rs :=
  bd (fX0_running a0 σ) fun v7 σ8 =>
  it fX0_ready_L7 (fun _ _ _ _ => none) FU a0 v7 0 σ8
def fX0_ticked_26 (k4 : Int32 → Int32 → Int32 → Sg → Rs) (x0 x1 x2 : Int32) (σ : Sg) : Rs :=
  sv (x2 + 1) fun y1 =>
  k4 x0 x1 y1 σ
def fX0_ticked_L4 (k4 : Int32 → Int32 → Int32 → Sg → Rs) (x0 x1 x2 : Int32) (σ : Sg) : Rs :=
  if 3 ≤ x2 then
  (some (x1, σ))
  else
  (bd (fX0_left x0 x2 σ) fun v3 σ4 =>
  if v3 ≤ 0 then
  (fX0_ticked_26 k4 x0 x1 x2 σ4)
  else
  (bd (fX0_leftAt x2 σ4) fun v6 σ7 =>
  sv (x1 - ((1 : Int32) <<< (v6 &&& 31))) fun y8 =>
  fX0_ticked_26 k4 x0 y8 x2 σ7))
def fX0_ticked (a0 : Int32) (σ : Sg) : Rs :=
  it fX0_ticked_L4 (fun _ _ _ _ => none) FU a0 a0 0 σ
def fX0_withStarted (a0 : Int32) (a1 : Int32) (a2 : Int32) (σ : Sg) : Rs :=
  bd (fX0_leftAt a1 σ) fun v1 σ2 =>
  some (((a0 ||| ((1 : Int32) <<< (((6 : Int32) + a1) &&& 31))) ||| (a2 <<< (v1 &&& 31))), σ2)
def fX0_withStopped (a0 : Int32) (a1 : Int32) (σ : Sg) : Rs :=
  bd (fX0_leftAt a1 σ) fun v1 σ2 =>
  some (((a0 &&& (((1 : Int32) <<< (((6 : Int32) + a1) &&& 31)) ^^^ (-1 : Int32))) &&& (((3 : Int32) <<< (v1 &&& 31)) ^^^ (-1 : Int32))), σ2)
def fX0_withClosed (a0 : Int32) (a1 : Int32) (σ : Sg) : Rs :=
  some ((a0 ||| ((1 : Int32) <<< (a1 &&& 31))), σ)
def fX0_withOpened (a0 : Int32) (a1 : Int32) (σ : Sg) : Rs :=
  some ((a0 &&& (a1 ^^^ (-1 : Int32))), σ)
def fX5_setOfFirst (a0 : Int32) (σ : Sg) : Rs :=
  some ((((1 : Int32) <<< (a0 &&& 31)) - (1 : Int32)), σ)
def fX5_isWithin_14 (t0 : Int32) (σ : Sg) : Rs :=
  zr t0 σ
def fX5_isWithin_13 (σ : Sg) : Rs :=
  fX5_isWithin_14 0 σ
def fX5_isWithin (a0 : Int32) (a1 : Int32) (σ : Sg) : Rs :=
  if a0 < 0 then
  (fX5_isWithin_13 σ)
  else
  (if a1 < a0 then
  (fX5_isWithin_13 σ)
  else
  (fX5_isWithin_14 1 σ))
def fX5_isBus (a0 : Int32) (σ : Sg) : Rs :=
  bd (fX5_isWithin a0 5 σ) fun v1 σ2 =>
  zr v1 σ2
def fJ6_bitCount_0f7a4 (a0 : Int32) (σ : Sg) : Rs :=
  sv (a0 - (((a0).toUInt32 >>> (((1 : Int32)).toUInt32 &&& Int32.toUInt32 31)).toInt32 &&& (1431655765 : Int32))) fun y1 =>
  sv ((y1 &&& (858993459 : Int32)) + (((y1).toUInt32 >>> (((2 : Int32)).toUInt32 &&& Int32.toUInt32 31)).toInt32 &&& (858993459 : Int32))) fun y2 =>
  sv ((y2 + ((y2).toUInt32 >>> (((4 : Int32)).toUInt32 &&& Int32.toUInt32 31)).toInt32) &&& (252645135 : Int32)) fun y3 =>
  sv (y3 + ((y3).toUInt32 >>> (((8 : Int32)).toUInt32 &&& Int32.toUInt32 31)).toInt32) fun y4 =>
  sv (y4 + ((y4).toUInt32 >>> (((16 : Int32)).toUInt32 &&& Int32.toUInt32 31)).toInt32) fun y5 =>
  some ((y5 &&& (63 : Int32)), σ)
def fX1_hasLine_17 (t0 : Int32) (σ : Sg) : Rs :=
  zr t0 σ
def fX1_hasLine_16 (σ : Sg) : Rs :=
  fX1_hasLine_17 0 σ
def fX1_hasLine (a1 : Int32) (σ : Sg) : Rs :=
  if a1 < 0 then
  (fX1_hasLine_16 σ)
  else
  (if (σ 1 0) ≤ a1 then
  (fX1_hasLine_16 σ)
  else
  (fX1_hasLine_17 1 σ))
def fX1_hasMachine_17 (t0 : Int32) (σ : Sg) : Rs :=
  zr t0 σ
def fX1_hasMachine_16 (σ : Sg) : Rs :=
  fX1_hasMachine_17 0 σ
def fX1_hasMachine (a1 : Int32) (σ : Sg) : Rs :=
  if a1 < 0 then
  (fX1_hasMachine_16 σ)
  else
  (if (σ 1 4) ≤ a1 then
  (fX1_hasMachine_16 σ)
  else
  (fX1_hasMachine_17 1 σ))
def fX1_addLine (a1 : Int32) (a2 : Int32) (a3 : Int32) (σ : Sg) : Rs :=
  sv (σ 1 0) fun y1 =>
  gd y1 6 <|
  sv (wr σ 2 (Int32.toNatClampNeg y1) a1) fun σ2 =>
  gd y1 6 <|
  sv (wr σ2 3 (Int32.toNatClampNeg y1) a2) fun σ3 =>
  gd y1 6 <|
  sv (wr σ3 4 (Int32.toNatClampNeg y1) a3) fun σ4 =>
  sv (wr σ4 1 0 ((σ4 1 0) + (1 : Int32))) fun σ5 =>
  some (y1, σ5)
def fX1_addMachine (a1 : Int32) (a2 : Int32) (a3 : Int32) (a4 : Int32) (σ : Sg) : Rs :=
  sv (σ 1 4) fun y1 =>
  gd y1 3 <|
  sv (wr σ 5 (Int32.toNatClampNeg y1) a1) fun σ2 =>
  gd y1 3 <|
  sv (wr σ2 6 (Int32.toNatClampNeg y1) a2) fun σ3 =>
  gd y1 3 <|
  sv (wr σ3 7 (Int32.toNatClampNeg y1) a3) fun σ4 =>
  gd y1 3 <|
  sv (wr σ4 8 (Int32.toNatClampNeg y1) a4) fun σ5 =>
  sv (wr σ5 1 4 ((σ5 1 4) + (1 : Int32))) fun σ6 =>
  some (y1, σ6)
def fX1_copyFrom_18_1 (σ : Sg) : Rs :=
  sv (wr σ 18 0 (σ 1 0)) fun σ1 =>
  sv (wr σ1 18 4 (σ1 1 4)) fun σ2 =>
  sv (wr σ2 18 9 (σ2 1 9)) fun σ3 =>
  sv (wr σ3 18 10 (σ3 1 10)) fun σ4 =>
  sv (ups σ4 19 (va_cpy (σ4 2) (σ4 19) 0 0 (6 : Int32).toNatClampNeg)) fun σ5 =>
  sv (ups σ5 20 (va_cpy (σ5 3) (σ5 20) 0 0 (6 : Int32).toNatClampNeg)) fun σ6 =>
  sv (ups σ6 21 (va_cpy (σ6 4) (σ6 21) 0 0 (6 : Int32).toNatClampNeg)) fun σ7 =>
  sv (ups σ7 22 (va_cpy (σ7 5) (σ7 22) 0 0 (3 : Int32).toNatClampNeg)) fun σ8 =>
  sv (ups σ8 23 (va_cpy (σ8 6) (σ8 23) 0 0 (3 : Int32).toNatClampNeg)) fun σ9 =>
  sv (ups σ9 24 (va_cpy (σ9 7) (σ9 24) 0 0 (3 : Int32).toNatClampNeg)) fun σ10 =>
  sv (ups σ10 25 (va_cpy (σ10 8) (σ10 25) 0 0 (3 : Int32).toNatClampNeg)) fun σ11 =>
  some (0, σ11)
def fX1_copyFrom_26_1 (σ : Sg) : Rs :=
  sv (wr σ 26 0 (σ 1 0)) fun σ1 =>
  sv (wr σ1 26 4 (σ1 1 4)) fun σ2 =>
  sv (wr σ2 26 9 (σ2 1 9)) fun σ3 =>
  sv (wr σ3 26 10 (σ3 1 10)) fun σ4 =>
  sv (ups σ4 27 (va_cpy (σ4 2) (σ4 27) 0 0 (6 : Int32).toNatClampNeg)) fun σ5 =>
  sv (ups σ5 28 (va_cpy (σ5 3) (σ5 28) 0 0 (6 : Int32).toNatClampNeg)) fun σ6 =>
  sv (ups σ6 29 (va_cpy (σ6 4) (σ6 29) 0 0 (6 : Int32).toNatClampNeg)) fun σ7 =>
  sv (ups σ7 30 (va_cpy (σ7 5) (σ7 30) 0 0 (3 : Int32).toNatClampNeg)) fun σ8 =>
  sv (ups σ8 31 (va_cpy (σ8 6) (σ8 31) 0 0 (3 : Int32).toNatClampNeg)) fun σ9 =>
  sv (ups σ9 32 (va_cpy (σ9 7) (σ9 32) 0 0 (3 : Int32).toNatClampNeg)) fun σ10 =>
  sv (ups σ10 33 (va_cpy (σ10 8) (σ10 33) 0 0 (3 : Int32).toNatClampNeg)) fun σ11 =>
  some (0, σ11)
def fX1_copyFrom_1_18 (σ : Sg) : Rs :=
  sv (wr σ 1 0 (σ 18 0)) fun σ1 =>
  sv (wr σ1 1 4 (σ1 18 4)) fun σ2 =>
  sv (wr σ2 1 9 (σ2 18 9)) fun σ3 =>
  sv (wr σ3 1 10 (σ3 18 10)) fun σ4 =>
  sv (ups σ4 2 (va_cpy (σ4 19) (σ4 2) 0 0 (6 : Int32).toNatClampNeg)) fun σ5 =>
  sv (ups σ5 3 (va_cpy (σ5 20) (σ5 3) 0 0 (6 : Int32).toNatClampNeg)) fun σ6 =>
  sv (ups σ6 4 (va_cpy (σ6 21) (σ6 4) 0 0 (6 : Int32).toNatClampNeg)) fun σ7 =>
  sv (ups σ7 5 (va_cpy (σ7 22) (σ7 5) 0 0 (3 : Int32).toNatClampNeg)) fun σ8 =>
  sv (ups σ8 6 (va_cpy (σ8 23) (σ8 6) 0 0 (3 : Int32).toNatClampNeg)) fun σ9 =>
  sv (ups σ9 7 (va_cpy (σ9 24) (σ9 7) 0 0 (3 : Int32).toNatClampNeg)) fun σ10 =>
  sv (ups σ10 8 (va_cpy (σ10 25) (σ10 8) 0 0 (3 : Int32).toNatClampNeg)) fun σ11 =>
  some (0, σ11)
def fX1_copyFrom_1_26 (σ : Sg) : Rs :=
  sv (wr σ 1 0 (σ 26 0)) fun σ1 =>
  sv (wr σ1 1 4 (σ1 26 4)) fun σ2 =>
  sv (wr σ2 1 9 (σ2 26 9)) fun σ3 =>
  sv (wr σ3 1 10 (σ3 26 10)) fun σ4 =>
  sv (ups σ4 2 (va_cpy (σ4 27) (σ4 2) 0 0 (6 : Int32).toNatClampNeg)) fun σ5 =>
  sv (ups σ5 3 (va_cpy (σ5 28) (σ5 3) 0 0 (6 : Int32).toNatClampNeg)) fun σ6 =>
  sv (ups σ6 4 (va_cpy (σ6 29) (σ6 4) 0 0 (6 : Int32).toNatClampNeg)) fun σ7 =>
  sv (ups σ7 5 (va_cpy (σ7 30) (σ7 5) 0 0 (3 : Int32).toNatClampNeg)) fun σ8 =>
  sv (ups σ8 6 (va_cpy (σ8 31) (σ8 6) 0 0 (3 : Int32).toNatClampNeg)) fun σ9 =>
  sv (ups σ9 7 (va_cpy (σ9 32) (σ9 7) 0 0 (3 : Int32).toNatClampNeg)) fun σ10 =>
  sv (ups σ10 8 (va_cpy (σ10 33) (σ10 8) 0 0 (3 : Int32).toNatClampNeg)) fun σ11 =>
  some (0, σ11)
def fX2_busesWith (a1 : Int32) (a2 : Int32) (σ : Sg) : Rs :=
  gd ((a1 * (6 : Int32)) + a2) 384 <|
  some ((σ 10 (Int32.toNatClampNeg ((a1 * (6 : Int32)) + a2))), σ)
def fX2_drawAround (a1 : Int32) (a2 : Int32) (σ : Sg) : Rs :=
  gd ((a1 * (6 : Int32)) + a2) 384 <|
  some ((σ 11 (Int32.toNatClampNeg ((a1 * (6 : Int32)) + a2))), σ)
def fX2_join_163 (k82 : Int32 → Int32 → Int32 → Int32 → Int32 → Sg → Rs) (x1 x2 x7 x8 x9 t0 t1 : Int32) (σ : Sg) : Rs :=
  gd t1 384 <|
  sv (wr σ 11 (Int32.toNatClampNeg t1) t0) fun σ1 =>
  sv (x9 + 1) fun y2 =>
  k82 x1 x2 x7 x8 y2 σ1
def fX2_join_134 (k82 : Int32 → Int32 → Int32 → Int32 → Int32 → Sg → Rs) (x1 x2 x7 x8 x9 x10 t0 t1 : Int32) (σ : Sg) : Rs :=
  gd t1 384 <|
  sv (wr σ 10 (Int32.toNatClampNeg t1) t0) fun σ3 =>
  if x10 = 0 then
  (bd (fX2_drawAround x1 x9 σ3) fun v5 σ6 =>
  fX2_join_163 k82 x1 x2 x7 x8 x9 v5 ((x2 * (6 : Int32)) + x9) σ6)
  else
  (fX2_join_163 k82 x1 x2 x7 x8 x9 x8 ((x2 * (6 : Int32)) + x9) σ3)
def fX2_join_104 (k82 : Int32 → Int32 → Int32 → Int32 → Int32 → Sg → Rs) (x1 x2 x7 x8 x9 t0 : Int32) (σ : Sg) : Rs :=
  if t0 = 0 then
  (bd (fX2_busesWith x1 x9 σ) fun v8 σ9 =>
  fX2_join_134 k82 x1 x2 x7 x8 x9 t0 v8 ((x2 * (6 : Int32)) + x9) σ9)
  else
  (fX2_join_134 k82 x1 x2 x7 x8 x9 t0 x7 ((x2 * (6 : Int32)) + x9) σ)
def fX2_join_L82 (k82 : Int32 → Int32 → Int32 → Int32 → Int32 → Sg → Rs) (x1 x2 x7 x8 x9 : Int32) (σ : Sg) : Rs :=
  if 6 ≤ x9 then
  (some (0, σ))
  else
  (bd (fX5_bit x7 x9 σ) fun v11 σ12 =>
  if v11 = 0 then
  (fX2_join_104 k82 x1 x2 x7 x8 x9 0 σ12)
  else
  (fX2_join_104 k82 x1 x2 x7 x8 x9 1 σ12))
def fX2_join_79 (x1 x2 x7 x8 : Int32) (σ : Sg) : Rs :=
  it fX2_join_L82 (fun _ _ _ _ _ _ => none) FU x1 x2 x7 x8 0 σ
def fX2_join (a1 : Int32) (a2 : Int32) (a4 : Int32) (σ : Sg) : Rs :=
  gd a4 6 <|
  sv (σ 2 (Int32.toNatClampNeg a4)) fun y14 =>
  gd a4 6 <|
  sv (σ 3 (Int32.toNatClampNeg a4)) fun y15 =>
  bd (fX2_busesWith a1 y14 σ) fun v16 σ17 =>
  bd (fX2_busesWith a1 y15 σ17) fun v18 σ19 =>
  sv (v16 ||| v18) fun y20 =>
  gd a4 6 <|
  bd (fX2_drawAround a1 y14 σ19) fun v21 σ22 =>
  sv ((σ19 4 (Int32.toNatClampNeg a4)) + v21) fun y23 =>
  bd (fX2_busesWith a1 y14 σ22) fun v24 σ25 =>
  bd (fX5_bit v24 y15 σ25) fun v26 σ27 =>
  if v26 = 0 then
  (bd (fX2_drawAround a1 y15 σ27) fun v29 σ30 =>
  sv (y23 + v29) fun y31 =>
  fX2_join_79 a1 a2 y20 y31 σ30)
  else
  (fX2_join_79 a1 a2 y20 y23 σ27)
def fX2_learnLine_L9 (k9 : Int32 → Int32 → Int32 → Sg → Rs) (x2 x3 x4 : Int32) (σ : Sg) : Rs :=
  if x3 ≤ x4 then
  (some (0, σ))
  else
  (bd (fX2_join (x4 - ((1 : Int32) <<< (x2 &&& 31))) x4 x2 σ) fun v2 σ3 =>
  sv (x4 + 1) fun y4 =>
  k9 x2 x3 y4 σ3)
def fX2_learnLine (a2 : Int32) (σ : Sg) : Rs :=
  sv ((2 : Int32) <<< (a2 &&& 31)) fun y5 =>
  sv ((1 : Int32) <<< (a2 &&& 31)) fun y6 =>
  it fX2_learnLine_L9 (fun _ _ _ _ => none) FU a2 y5 y6 σ
def fX3_liveBuses_46 (k4 : Int32 → Int32 → Int32 → Sg → Rs) (x1 x2 x3 : Int32) (σ : Sg) : Rs :=
  sv (x3 + 1) fun y1 =>
  k4 x1 x2 y1 σ
def fX3_liveBuses_L4 (k4 : Int32 → Int32 → Int32 → Sg → Rs) (x1 x2 x3 : Int32) (σ : Sg) : Rs :=
  if (σ 1 4) ≤ x3 then
  (some (x2, σ))
  else
  (bd (fX0_isRunning x1 x3 σ) fun v3 σ4 =>
  if v3 = 0 then
  (fX3_liveBuses_46 k4 x1 x2 x3 σ4)
  else
  (bd (fX0_closed x1 σ4) fun v6 σ7 =>
  gd x3 3 <|
  bd (fX2_busesWith v6 (σ7 5 (Int32.toNatClampNeg x3)) σ7) fun v8 σ9 =>
  sv (x2 ||| v8) fun y10 =>
  fX3_liveBuses_46 k4 x1 y10 x3 σ9))
def fX3_liveBuses (a1 : Int32) (σ : Sg) : Rs :=
  it fX3_liveBuses_L4 (fun _ _ _ _ => none) FU a1 0 0 σ
def fX3_countLiveIslands_68 (k11 : Int32 → Int32 → Int32 → Int32 → Sg → Rs) (x1 x2 x3 x4 : Int32) (σ : Sg) : Rs :=
  sv (x4 + 1) fun y1 =>
  k11 x1 x2 x3 y1 σ
def fX3_countLiveIslands_49 (k11 : Int32 → Int32 → Int32 → Int32 → Sg → Rs) (x1 x2 x3 x4 t0 : Int32) (σ : Sg) : Rs :=
  if t0 = 0 then
  (fX3_countLiveIslands_68 k11 x1 x2 x3 x4 σ)
  else
  (bd (fX5_bit x2 x4 σ) fun v3 σ4 =>
  if v3 = 0 then
  (fX3_countLiveIslands_68 k11 x1 x2 x3 x4 σ4)
  else
  (sv (x3 + 1) fun y6 =>
  fX3_countLiveIslands_68 k11 x1 x2 y6 x4 σ4))
def fX3_countLiveIslands_L11 (k11 : Int32 → Int32 → Int32 → Int32 → Sg → Rs) (x1 x2 x3 x4 : Int32) (σ : Sg) : Rs :=
  if 6 ≤ x4 then
  (some (x3, σ))
  else
  (bd (fX0_closed x1 σ) fun v8 σ9 =>
  bd (fX2_busesWith v8 x4 σ9) fun v10 σ11 =>
  bd (fX5_setOfFirst x4 σ11) fun v12 σ13 =>
  if (v10 &&& v12) = 0 then
  (fX3_countLiveIslands_49 k11 x1 x2 x3 x4 1 σ13)
  else
  (fX3_countLiveIslands_49 k11 x1 x2 x3 x4 0 σ13))
def fX3_countLiveIslands (a1 : Int32) (σ : Sg) : Rs :=
  bd (fX3_liveBuses a1 σ) fun v15 σ16 =>
  it fX3_countLiveIslands_L11 (fun _ _ _ _ _ => none) FU a1 v15 0 0 σ16
def fX3_spareOf_80 (k26 : Int32 → Int32 → Int32 → Int32 → Sg → Rs) (x2 x4 x5 x6 : Int32) (σ : Sg) : Rs :=
  sv (x6 + 1) fun y1 =>
  k26 x2 x4 x5 y1 σ
def fX3_spareOf_L26 (k26 : Int32 → Int32 → Int32 → Int32 → Sg → Rs) (x2 x4 x5 x6 : Int32) (σ : Sg) : Rs :=
  if (σ 1 4) ≤ x6 then
  (some (x5, σ))
  else
  (bd (fX5_bit x2 x6 σ) fun v3 σ4 =>
  if v3 = 0 then
  (fX3_spareOf_80 k26 x2 x4 x5 x6 σ4)
  else
  (gd x6 3 <|
  bd (fX5_bit x4 (σ4 5 (Int32.toNatClampNeg x6)) σ4) fun v6 σ7 =>
  if v6 = 0 then
  (fX3_spareOf_80 k26 x2 x4 x5 x6 σ7)
  else
  (gd x6 3 <|
  sv (x5 + (σ7 7 (Int32.toNatClampNeg x6))) fun y9 =>
  fX3_spareOf_80 k26 x2 x4 y9 x6 σ7)))
def fX3_spareOf (a1 : Int32) (a2 : Int32) (a3 : Int32) (σ : Sg) : Rs :=
  bd (fX2_busesWith a1 a3 σ) fun v10 σ11 =>
  bd (fX2_drawAround a1 a3 σ11) fun v12 σ13 =>
  sv (-v12) fun y14 =>
  it fX3_spareOf_L26 (fun _ _ _ _ _ => none) FU a2 v10 y14 0 σ13
def fX3_spare (a1 : Int32) (a2 : Int32) (σ : Sg) : Rs :=
  bd (fX0_closed a1 σ) fun v1 σ2 =>
  bd (fX0_ready a1 σ2) fun v3 σ4 =>
  bd (fX3_spareOf v1 v3 a2 σ4) fun v5 σ6 =>
  some (v5, σ6)
def fX3_isTold_39 (t0 : Int32) (σ : Sg) : Rs :=
  zr t0 σ
def fX3_isTold_34 (σ : Sg) : Rs :=
  fX3_isTold_39 1 σ
def fX3_isTold (a1 : Int32) (σ : Sg) : Rs :=
  if a1 < 4 then
  (if a1 < 1 then
  (fX3_isTold_34 σ)
  else
  (bd (fX1_hasMachine (a1 - (1 : Int32)) σ) fun v3 σ4 =>
  if v3 = 0 then
  (fX3_isTold_39 0 σ4)
  else
  (fX3_isTold_34 σ4)))
  else
  (bd (fX1_hasLine (a1 - (4 : Int32)) σ) fun v6 σ7 =>
  zr v6 σ7)
def fX3_canCrank_56 (t0 : Int32) (σ : Sg) : Rs :=
  zr t0 σ
def fX3_canCrank_51 (σ : Sg) : Rs :=
  fX3_canCrank_56 1 σ
def fX3_canCrank_55 (σ : Sg) : Rs :=
  fX3_canCrank_56 0 σ
def fX3_canCrank (a1 : Int32) (a2 : Int32) (a3 : Int32) (a4 : Int32) (σ : Sg) : Rs :=
  gd a4 3 <|
  sv (σ 6 (Int32.toNatClampNeg a4)) fun y1 =>
  gd a4 3 <|
  sv (σ 5 (Int32.toNatClampNeg a4)) fun y2 =>
  if y1 = 0 then
  (fX3_canCrank_51 σ)
  else
  (bd (fX5_bit a3 y2 σ) fun v4 σ5 =>
  if v4 = 0 then
  (fX3_canCrank_55 σ5)
  else
  (bd (fX3_spareOf a1 a2 y2 σ5) fun v7 σ8 =>
  if v7 < y1 then
  (fX3_canCrank_55 σ8)
  else
  (fX3_canCrank_51 σ8)))
def fX3_canCarry_71 (t0 : Int32) (σ : Sg) : Rs :=
  zr t0 σ
def fX3_canCarry_70 (σ : Sg) : Rs :=
  fX3_canCarry_71 0 σ
def fX3_canCarry_43 (x1 x2 x4 x5 t0 : Int32) (σ : Sg) : Rs :=
  if t0 = 0 then
  (fX3_canCarry_70 σ)
  else
  (bd (fX3_spareOf (x1 ||| ((1 : Int32) <<< (x4 &&& 31))) x2 x5 σ) fun v2 σ3 =>
  if v2 < 0 then
  (fX3_canCarry_70 σ3)
  else
  (fX3_canCarry_71 1 σ3))
def fX3_canCarry_38 (x1 x2 x4 x5 : Int32) (σ : Sg) : Rs :=
  fX3_canCarry_43 x1 x2 x4 x5 1 σ
def fX3_canCarry (a1 : Int32) (a2 : Int32) (a3 : Int32) (a4 : Int32) (σ : Sg) : Rs :=
  gd a4 6 <|
  sv (σ 2 (Int32.toNatClampNeg a4)) fun y5 =>
  bd (fX5_bit a3 y5 σ) fun v6 σ7 =>
  if v6 = 0 then
  (gd a4 6 <|
  bd (fX5_bit a3 (σ7 3 (Int32.toNatClampNeg a4)) σ7) fun v9 σ10 =>
  if v9 = 0 then
  (fX3_canCarry_43 a1 a2 a4 y5 0 σ10)
  else
  (fX3_canCarry_38 a1 a2 a4 y5 σ10))
  else
  (fX3_canCarry_38 a1 a2 a4 y5 σ7)
def fX3_stepsFrom_130 (k84 : Int32 → Int32 → Int32 → Int32 → Int32 → Sg → Rs) (x2 x4 x5 x6 x7 : Int32) (σ : Sg) : Rs :=
  sv (x7 + 1) fun y1 =>
  k84 x2 x4 x5 x6 y1 σ
def fX3_stepsFrom_L84 (k84 : Int32 → Int32 → Int32 → Int32 → Int32 → Sg → Rs) (x2 x4 x5 x6 x7 : Int32) (σ : Sg) : Rs :=
  if (σ 1 0) ≤ x7 then
  (some (x6, σ))
  else
  (bd (fX5_bit x2 x7 σ) fun v3 σ4 =>
  if v3 = 0 then
  (bd (fX3_canCarry x2 x4 x5 x7 σ4) fun v6 σ7 =>
  if v6 = 0 then
  (fX3_stepsFrom_130 k84 x2 x4 x5 x6 x7 σ7)
  else
  (sv (x6 ||| ((1 : Int32) <<< (((4 : Int32) + x7) &&& 31))) fun y9 =>
  fX3_stepsFrom_130 k84 x2 x4 x5 y9 x7 σ7))
  else
  (fX3_stepsFrom_130 k84 x2 x4 x5 x6 x7 σ4))
def fX3_stepsFrom_75 (k29 : Int32 → Int32 → Int32 → Int32 → Int32 → Int32 → Sg → Rs) (x2 x3 x4 x5 x6 x7 : Int32) (σ : Sg) : Rs :=
  sv (x7 + 1) fun y10 =>
  k29 x2 x3 x4 x5 x6 y10 σ
def fX3_stepsFrom_L29 (k29 : Int32 → Int32 → Int32 → Int32 → Int32 → Int32 → Sg → Rs) (x2 x3 x4 x5 x6 x7 : Int32) (σ : Sg) : Rs :=
  if (σ 1 4) ≤ x7 then
  (it fX3_stepsFrom_L84 (fun _ _ _ _ _ _ => none) FU x2 x4 x5 x6 0 σ)
  else
  (bd (fX5_bit x3 x7 σ) fun v12 σ13 =>
  if v12 = 0 then
  (bd (fX3_canCrank x2 x4 x5 x7 σ13) fun v15 σ16 =>
  if v15 = 0 then
  (fX3_stepsFrom_75 k29 x2 x3 x4 x5 x6 x7 σ16)
  else
  (sv (x6 ||| ((1 : Int32) <<< (((1 : Int32) + x7) &&& 31))) fun y18 =>
  fX3_stepsFrom_75 k29 x2 x3 x4 x5 y18 x7 σ16))
  else
  (fX3_stepsFrom_75 k29 x2 x3 x4 x5 x6 x7 σ13))
def fX3_stepsFrom (a1 : Int32) (σ : Sg) : Rs :=
  bd (fX0_closed a1 σ) fun v19 σ20 =>
  bd (fX0_running a1 σ20) fun v21 σ22 =>
  bd (fX0_ready a1 σ22) fun v23 σ24 =>
  bd (fX3_liveBuses a1 σ24) fun v25 σ26 =>
  it fX3_stepsFrom_L29 (fun _ _ _ _ _ _ _ => none) FU v19 v21 v23 v25 1 0 σ26
def fX3_withStep (a1 : Int32) (a2 : Int32) (σ : Sg) : Rs :=
  if a2 < 4 then
  (if a2 < 1 then
  (some (a1, σ))
  else
  (sv (a2 - (1 : Int32)) fun y3 =>
  gd y3 3 <|
  bd (fX0_withStarted a1 y3 (σ 8 (Int32.toNatClampNeg y3)) σ) fun v4 σ5 =>
  some (v4, σ5)))
  else
  (bd (fX0_withClosed a1 (a2 - (4 : Int32)) σ) fun v6 σ7 =>
  some (v6, σ7))
def fX3_isReached_28 (t0 : Int32) (σ : Sg) : Rs :=
  zr t0 σ
def fX3_isReached_27 (σ : Sg) : Rs :=
  fX3_isReached_28 0 σ
def fX3_isReached (a1 : Int32) (a2 : Int32) (a3 : Int32) (σ : Sg) : Rs :=
  bd (fX0_ready a1 σ) fun v1 σ2 =>
  if (a2 &&& (v1 ^^^ (-1 : Int32))) = 0 then
  (bd (fX3_liveBuses a1 σ2) fun v4 σ5 =>
  if (a3 &&& (v4 ^^^ (-1 : Int32))) = 0 then
  (fX3_isReached_28 1 σ5)
  else
  (fX3_isReached_27 σ5))
  else
  (fX3_isReached_27 σ2)
def fX3_lostLines_78 (k17 : Int32 → Int32 → Int32 → Int32 → Int32 → Sg → Rs) (x1 x2 x3 x4 x5 : Int32) (σ : Sg) : Rs :=
  sv (x5 + 1) fun y1 =>
  k17 x1 x2 x3 x4 y1 σ
def fX3_lostLines_69 (k17 : Int32 → Int32 → Int32 → Int32 → Int32 → Sg → Rs) (x1 x2 x3 x4 x5 : Int32) (σ : Sg) : Rs :=
  sv (x4 ||| ((1 : Int32) <<< (x5 &&& 31))) fun y2 =>
  fX3_lostLines_78 k17 x1 x2 x3 y2 x5 σ
def fX3_lostLines_L17 (k17 : Int32 → Int32 → Int32 → Int32 → Int32 → Sg → Rs) (x1 x2 x3 x4 x5 : Int32) (σ : Sg) : Rs :=
  if (σ 1 0) ≤ x5 then
  (some (x4, σ))
  else
  (gd x5 6 <|
  sv (σ 2 (Int32.toNatClampNeg x5)) fun y4 =>
  bd (fX5_bit x2 x5 σ) fun v5 σ6 =>
  if v5 = 0 then
  (fX3_lostLines_78 k17 x1 x2 x3 x4 x5 σ6)
  else
  (bd (fX5_bit x3 y4 σ6) fun v8 σ9 =>
  if v8 = 0 then
  (fX3_lostLines_69 k17 x1 x2 x3 x4 x5 σ9)
  else
  (bd (fX3_spare x1 y4 σ9) fun v11 σ12 =>
  if 0 ≤ v11 then
  (fX3_lostLines_78 k17 x1 x2 x3 x4 x5 σ12)
  else
  (fX3_lostLines_69 k17 x1 x2 x3 x4 x5 σ12))))
def fX3_lostLines (a1 : Int32) (σ : Sg) : Rs :=
  bd (fX0_closed a1 σ) fun v14 σ15 =>
  bd (fX3_liveBuses a1 σ15) fun v16 σ17 =>
  it fX3_lostLines_L17 (fun _ _ _ _ _ _ => none) FU a1 v14 v16 0 0 σ17
def fX4_forget_L6 (k6 : Int32 → Int32 → Sg → Rs) (x2 x3 : Int32) (σ : Sg) : Rs :=
  if x2 < x3 then
  (sv (wr σ 13 4 0) fun σ2 =>
  some (0, σ2))
  else
  (gd x3 1024 <|
  sv (wr σ 16 (Int32.toNatClampNeg x3) 0) fun σ3 =>
  sv (x3 + 1) fun y4 =>
  k6 x2 y4 σ3)
def fX4_forget (a1 : Int32) (σ : Sg) : Rs :=
  sv (a1 >>> ((5 : Int32) &&& 31)) fun y5 =>
  it fX4_forget_L6 (fun _ _ _ => none) FU y5 0 σ
def fX4_add_36 (σ : Sg) : Rs :=
  zr 0 σ
def fX4_add (a1 : Int32) (a2 : Int32) (σ : Sg) : Rs :=
  sv (a1 >>> ((5 : Int32) &&& 31)) fun y1 =>
  bd (fX5_setOfFirst 5 σ) fun v2 σ3 =>
  sv ((1 : Int32) <<< ((a1 &&& v2) &&& 31)) fun y4 =>
  gd y1 1024 <|
  if ((σ3 16 (Int32.toNatClampNeg y1)) &&& y4) = 0 then
  (if (σ3 13 4) < 8000 then
  (gd y1 1024 <|
  gd y1 1024 <|
  sv (wr σ3 16 (Int32.toNatClampNeg y1) ((σ3 16 (Int32.toNatClampNeg y1)) ||| y4)) fun σ7 =>
  gd (σ7 13 4) 8000 <|
  sv (wr σ7 14 (Int32.toNatClampNeg (σ7 13 4)) a1) fun σ8 =>
  gd (σ8 13 4) 8000 <|
  sv (wr σ8 15 (Int32.toNatClampNeg (σ8 13 4)) a2) fun σ9 =>
  sv (wr σ9 13 4 ((σ9 13 4) + (1 : Int32))) fun σ10 =>
  zr 1 σ10)
  else
  (fX4_add_36 σ3))
  else
  (fX4_add_36 σ3)
def fX4_explore_175 (σ : Sg) : Rs :=
  some ((-1), σ)
def fX4_explore_163 (k39 : Int32 → Int32 → Int32 → Int32 → Int32 → Sg → Rs) (k89 : Int32 → Int32 → Int32 → Int32 → Int32 → Int32 → Int32 → Int32 → Sg → Rs) (x2 x3 x4 x5 x7 x8 x9 x10 : Int32) (σ : Sg) : Rs :=
  sv (x10 + 1) fun y1 =>
  k89 x2 x3 x4 x5 x7 x8 x9 y1 σ
def fX4_explore_L89 (k39 : Int32 → Int32 → Int32 → Int32 → Int32 → Sg → Rs) (k89 : Int32 → Int32 → Int32 → Int32 → Int32 → Int32 → Int32 → Int32 → Sg → Rs) (x2 x3 x4 x5 x7 x8 x9 x10 : Int32) (σ : Sg) : Rs :=
  if 10 ≤ x10 then
  (sv (x7 + 1) fun y3 =>
  k39 x2 x3 x4 x5 y3 σ)
  else
  (bd (fX5_bit x8 x10 σ) fun v4 σ5 =>
  if v4 = 0 then
  (fX4_explore_163 k39 k89 x2 x3 x4 x5 x7 x8 x9 x10 σ5)
  else
  (bd (fX3_withStep x9 x10 σ5) fun v7 σ8 =>
  sv (v7 &&& x2) fun y9 =>
  bd (fX4_add y9 ((x7 <<< ((4 : Int32) &&& 31)) ||| x10) σ8) fun v10 σ11 =>
  if v10 = 0 then
  (fX4_explore_163 k39 k89 x2 x3 x4 x5 x7 x8 x9 x10 σ11)
  else
  (bd (fX3_isReached y9 x4 x5 σ11) fun v13 σ14 =>
  if v13 = 0 then
  (fX4_explore_163 k39 k89 x2 x3 x4 x5 x7 x8 x9 x10 σ14)
  else
  (some (((σ14 13 4) - (1 : Int32)), σ14)))))
def fX4_explore_L39 (k39 : Int32 → Int32 → Int32 → Int32 → Int32 → Sg → Rs) (x2 x3 x4 x5 x7 : Int32) (σ : Sg) : Rs :=
  if (σ 13 4) ≤ x7 then
  (fX4_explore_175 σ)
  else
  (if 8000 ≤ x7 then
  (fX4_explore_175 σ)
  else
  (gd x7 8000 <|
  bd (fX3_stepsFrom (σ 14 (Int32.toNatClampNeg x7)) σ) fun v18 σ19 =>
  sv (v18 &&& x3) fun y20 =>
  gd x7 8000 <|
  bd (fX0_ticked (σ19 14 (Int32.toNatClampNeg x7)) σ19) fun v21 σ22 =>
  it (fX4_explore_L89 k39) (fun _ _ _ _ _ _ _ _ _ => none) FU x2 x3 x4 x5 x7 y20 v21 0 σ22))
def fX4_explore (a1 : Int32) (a2 : Int32) (a3 : Int32) (a4 : Int32) (a5 : Int32) (σ : Sg) : Rs :=
  sv (a1 &&& a2) fun y23 =>
  bd (fX4_forget a2 σ) fun v24 σ25 =>
  bd (fX4_add y23 0 σ25) fun v26 σ27 =>
  bd (fX3_isReached y23 a4 a5 σ27) fun v28 σ29 =>
  if v28 = 0 then
  (it fX4_explore_L39 (fun _ _ _ _ _ _ => none) FU a2 a3 a4 a5 0 σ29)
  else
  (some (0, σ29))
def fX4_plan (a1 : Int32) (a2 : Int32) (a3 : Int32) (σ : Sg) : Rs :=
  bd (fX4_explore a1 511 1023 a2 a3 σ) fun v1 σ2 =>
  if v1 = (-1) then
  (some ((-1), σ2))
  else
  (bd (fX4_explore a1 32767 1023 a2 a3 σ2) fun v4 σ5 =>
  some (v4, σ5))
def fX4_codeAt (a1 : Int32) (σ : Sg) : Rs :=
  gd a1 8000 <|
  some ((σ 14 (Int32.toNatClampNeg a1)), σ)
def fX4_ticksTo_30 (x2 : Int32) (σ : Sg) : Rs :=
  some (x2, σ)
def fX4_ticksTo_L4 (k4 : Int32 → Int32 → Sg → Rs) (x2 x3 : Int32) (σ : Sg) : Rs :=
  if x3 ≤ 0 then
  (fX4_ticksTo_30 x2 σ)
  else
  (if 8000 ≤ x2 then
  (fX4_ticksTo_30 x2 σ)
  else
  (sv (x2 + 1) fun y3 =>
  gd x3 8000 <|
  sv ((σ 15 (Int32.toNatClampNeg x3)) >>> ((4 : Int32) &&& 31)) fun y4 =>
  k4 y3 y4 σ))
def fX4_ticksTo (a1 : Int32) (σ : Sg) : Rs :=
  it fX4_ticksTo_L4 (fun _ _ _ => none) FU 0 a1 σ
def fX4_stepBefore_L5 (k5 : Int32 → Int32 → Int32 → Sg → Rs) (x2 x3 x4 : Int32) (σ : Sg) : Rs :=
  if x2 ≤ x4 then
  (gd x3 8000 <|
  bd (fX5_setOfFirst 4 σ) fun v2 σ3 =>
  some (((σ 15 (Int32.toNatClampNeg x3)) &&& v2), σ3))
  else
  (gd x3 8000 <|
  sv ((σ 15 (Int32.toNatClampNeg x3)) >>> ((4 : Int32) &&& 31)) fun y4 =>
  sv (x4 + 1) fun y5 =>
  k5 x2 y4 y5 σ)
def fX4_stepBefore (a1 : Int32) (a2 : Int32) (σ : Sg) : Rs :=
  it fX4_stepBefore_L5 (fun _ _ _ _ => none) FU a2 a1 0 σ
def fX4_canReach_22 (t0 : Int32) (σ : Sg) : Rs :=
  zr t0 σ
def fX4_canReach (a1 : Int32) (a2 : Int32) (a3 : Int32) (σ : Sg) : Rs :=
  bd (fX4_explore a1 511 1023 a2 a3 σ) fun v1 σ2 =>
  if v1 = (-1) then
  (fX4_canReach_22 0 σ2)
  else
  (fX4_canReach_22 1 σ2)
def fX4_neededAmong_60 (k6 : Int32 → Int32 → Int32 → Int32 → Int32 → Int32 → Sg → Rs) (x1 x2 x3 x4 x5 x6 : Int32) (σ : Sg) : Rs :=
  sv (x6 + 1) fun y1 =>
  k6 x1 x2 x3 x4 x5 y1 σ
def fX4_neededAmong_L6 (k6 : Int32 → Int32 → Int32 → Int32 → Int32 → Int32 → Sg → Rs) (x1 x2 x3 x4 x5 x6 : Int32) (σ : Sg) : Rs :=
  if 10 ≤ x6 then
  (some (x5, σ))
  else
  (sv ((1023 : Int32) &&& (((1 : Int32) <<< (x6 &&& 31)) ^^^ (-1 : Int32))) fun y3 =>
  bd (fX5_bit x1 x6 σ) fun v4 σ5 =>
  if v4 = 0 then
  (fX4_neededAmong_60 k6 x1 x2 x3 x4 x5 x6 σ5)
  else
  (bd (fX4_explore x2 511 y3 x3 x4 σ5) fun v7 σ8 =>
  if v7 = (-1) then
  (sv (x5 ||| ((1 : Int32) <<< (x6 &&& 31))) fun y10 =>
  fX4_neededAmong_60 k6 x1 x2 x3 x4 y10 x6 σ8)
  else
  (fX4_neededAmong_60 k6 x1 x2 x3 x4 x5 x6 σ8)))
def fX4_neededAmong (a1 : Int32) (a2 : Int32) (a3 : Int32) (a4 : Int32) (σ : Sg) : Rs :=
  it fX4_neededAmong_L6 (fun _ _ _ _ _ _ _ => none) FU a1 a2 a3 a4 0 0 σ
def fX4_everReady_38 (k5 : Int32 → Int32 → Int32 → Int32 → Sg → Rs) (x1 x2 x3 x4 : Int32) (σ : Sg) : Rs :=
  sv (x4 + 1) fun y1 =>
  k5 x1 x2 x3 y1 σ
def fX4_everReady_L5 (k5 : Int32 → Int32 → Int32 → Int32 → Sg → Rs) (x1 x2 x3 x4 : Int32) (σ : Sg) : Rs :=
  if x2 ≤ x4 then
  (some (x3, σ))
  else
  (bd (fX4_explore x1 511 1023 ((1 : Int32) <<< (x4 &&& 31)) 0 σ) fun v3 σ4 =>
  if v3 = (-1) then
  (fX4_everReady_38 k5 x1 x2 x3 x4 σ4)
  else
  (sv (x3 ||| ((1 : Int32) <<< (x4 &&& 31))) fun y6 =>
  fX4_everReady_38 k5 x1 x2 y6 x4 σ4))
def fX4_everReady (a1 : Int32) (a2 : Int32) (σ : Sg) : Rs :=
  it fX4_everReady_L5 (fun _ _ _ _ _ => none) FU a1 a2 0 0 σ
def fX4_everLive_35 (k4 : Int32 → Int32 → Int32 → Sg → Rs) (x1 x2 x3 : Int32) (σ : Sg) : Rs :=
  sv (x3 + 1) fun y1 =>
  k4 x1 x2 y1 σ
def fX4_everLive_L4 (k4 : Int32 → Int32 → Int32 → Sg → Rs) (x1 x2 x3 : Int32) (σ : Sg) : Rs :=
  if 6 ≤ x3 then
  (some (x2, σ))
  else
  (bd (fX4_explore x1 511 1023 0 ((1 : Int32) <<< (x3 &&& 31)) σ) fun v3 σ4 =>
  if v3 = (-1) then
  (fX4_everLive_35 k4 x1 x2 x3 σ4)
  else
  (sv (x2 ||| ((1 : Int32) <<< (x3 &&& 31))) fun y6 =>
  fX4_everLive_35 k4 x1 y6 x3 σ4))
def fX4_everLive (a1 : Int32) (σ : Sg) : Rs :=
  it fX4_everLive_L4 (fun _ _ _ _ => none) FU a1 0 0 σ
def fX5_line_19 (σ : Sg) : Rs :=
  some ((-1), σ)
def fX5_line (a1 : Int32) (a2 : Int32) (a3 : Int32) (σ : Sg) : Rs :=
  bd (fX5_isBus a1 σ) fun v1 σ2 =>
  if v1 = 0 then
  (fX5_line_19 σ2)
  else
  (bd (fX5_isBus a2 σ2) fun v4 σ5 =>
  if v4 = 0 then
  (fX5_line_19 σ5)
  else
  (if a1 = a2 then
  (fX5_line_19 σ5)
  else
  (bd (fX5_isWithin a3 9 σ5) fun v8 σ9 =>
  if v8 = 0 then
  (some ((-2), σ9))
  else
  (if (σ9 1 0) < 6 then
  (bd (fX1_addLine (if a2 < a1 then a2 else a1) (if a1 < a2 then a2 else a1) a3 σ9) fun v12 σ13 =>
  bd (fX2_learnLine v12 σ13) fun v14 σ15 =>
  some (v12, σ15))
  else
  (some ((-4), σ9))))))
def fX5_machine_36 (σ : Sg) : Rs :=
  some ((-2), σ)
def fX5_machine (a1 : Int32) (a2 : Int32) (a3 : Int32) (a4 : Int32) (σ : Sg) : Rs :=
  bd (fX5_isBus a1 σ) fun v1 σ2 =>
  if v1 = 0 then
  (some ((-1), σ2))
  else
  (bd (fX5_isWithin a2 20 σ2) fun v4 σ5 =>
  if v4 = 0 then
  (fX5_machine_36 σ5)
  else
  (bd (fX5_isWithin a3 40 σ5) fun v7 σ8 =>
  if v7 = 0 then
  (fX5_machine_36 σ8)
  else
  (bd (fX5_isWithin a4 3 σ8) fun v10 σ11 =>
  if v10 = 0 then
  (fX5_machine_36 σ11)
  else
  (if (σ11 1 4) < 3 then
  (bd (fX1_addMachine a1 a2 a3 a4 σ11) fun v14 σ15 =>
  some (v14, σ15))
  else
  (some ((-4), σ11))))))
def fX5_dark (σ : Sg) : Rs :=
  bd (fX0_running (σ 1 9) σ) fun v1 σ2 =>
  bd (fJ6_bitCount_0f7a4 v1 σ2) fun v3 σ4 =>
  sv (wr σ4 1 9 0) fun σ5 =>
  sv (wr σ5 1 10 0) fun σ6 =>
  some (v3, σ6)
def fX5_of (a1 : Int32) (a2 : Int32) (σ : Sg) : Rs :=
  bd (fX1_hasLine a1 σ) fun v1 σ2 =>
  if v1 = 0 then
  (some ((-1), σ2))
  else
  (if a2 = 0 then
  (gd a1 6 <|
  some ((σ2 2 (Int32.toNatClampNeg a1)), σ2))
  else
  if a2 = 1 then
  (gd a1 6 <|
  some ((σ2 3 (Int32.toNatClampNeg a1)), σ2))
  else
  if a2 = 2 then
  (gd a1 6 <|
  some ((σ2 4 (Int32.toNatClampNeg a1)), σ2))
  else
  if a2 = 3 then
  (bd (fX0_closed (σ2 1 9) σ2) fun v8 σ9 =>
  bd (fX5_bit v8 a1 σ9) fun v10 σ11 =>
  some (v10, σ11))
  else
  (some ((-2), σ2)))
def fX5_at_118 (t0 : Int32) (σ : Sg) : Rs :=
  some (t0, σ)
def fX5_at (a1 : Int32) (a2 : Int32) (σ : Sg) : Rs :=
  bd (fX1_hasMachine a1 σ) fun v1 σ2 =>
  if v1 = 0 then
  (some ((-1), σ2))
  else
  (if a2 = 0 then
  (gd a1 3 <|
  some ((σ2 5 (Int32.toNatClampNeg a1)), σ2))
  else
  if a2 = 1 then
  (gd a1 3 <|
  some ((σ2 6 (Int32.toNatClampNeg a1)), σ2))
  else
  if a2 = 2 then
  (gd a1 3 <|
  some ((σ2 7 (Int32.toNatClampNeg a1)), σ2))
  else
  if a2 = 3 then
  (gd a1 3 <|
  some ((σ2 8 (Int32.toNatClampNeg a1)), σ2))
  else
  if a2 = 4 then
  (bd (fX0_isRunning (σ2 1 9) a1 σ2) fun v9 σ10 =>
  if v9 = 0 then
  (fX5_at_118 (-6) σ10)
  else
  (bd (fX0_left (σ10 1 9) a1 σ10) fun v12 σ13 =>
  fX5_at_118 v12 σ13))
  else
  (some ((-2), σ2)))
def fX5_bus (a1 : Int32) (a2 : Int32) (σ : Sg) : Rs :=
  bd (fX5_isBus a1 σ) fun v1 σ2 =>
  if v1 = 0 then
  (some ((-1), σ2))
  else
  (if a2 = 0 then
  (bd (fX0_closed (σ2 1 9) σ2) fun v5 σ6 =>
  bd (fX2_busesWith v5 a1 σ6) fun v7 σ8 =>
  some (v7, σ8))
  else
  if a2 = 1 then
  (bd (fX3_liveBuses (σ2 1 9) σ2) fun v10 σ11 =>
  bd (fX5_bit v10 a1 σ11) fun v12 σ13 =>
  some (v12, σ13))
  else
  if a2 = 2 then
  (bd (fX3_spare (σ2 1 9) a1 σ2) fun v15 σ16 =>
  some ((v15 + (100 : Int32)), σ16))
  else
  (some ((-2), σ2)))
def fX5_can (σ : Sg) : Rs :=
  bd (fX3_stepsFrom (σ 1 9) σ) fun v1 σ2 =>
  some (v1, σ2)
def fX5_tick (a1 : Int32) (σ : Sg) : Rs :=
  bd (fX5_isWithin a1 9 σ) fun v1 σ2 =>
  if v1 = 0 then
  (some ((-2), σ2))
  else
  (bd (fX3_isTold a1 σ2) fun v4 σ5 =>
  if v4 = 0 then
  (some ((-1), σ5))
  else
  (bd (fX3_stepsFrom (σ5 1 9) σ5) fun v7 σ8 =>
  bd (fX5_bit v7 a1 σ8) fun v9 σ10 =>
  if v9 = 0 then
  (some ((-5), σ10))
  else
  (bd (fX0_ticked (σ10 1 9) σ10) fun v12 σ13 =>
  bd (fX3_withStep v12 a1 σ13) fun v14 σ15 =>
  sv (wr σ15 1 9 v14) fun σ16 =>
  sv (wr σ16 1 10 ((σ16 1 10) + (1 : Int32))) fun σ17 =>
  some ((σ17 1 10), σ17))))
def fX5_openLost (σ : Sg) : Rs :=
  bd (fX3_lostLines (σ 1 9) σ) fun v1 σ2 =>
  bd (fX0_withOpened (σ2 1 9) v1 σ2) fun v3 σ4 =>
  sv (wr σ4 1 9 v3) fun σ5 =>
  bd (fJ6_bitCount_0f7a4 v1 σ5) fun v6 σ7 =>
  some (v6, σ7)
def fX5_fail (a1 : Int32) (σ : Sg) : Rs :=
  bd (fX1_hasMachine a1 σ) fun v1 σ2 =>
  if v1 = 0 then
  (some ((-1), σ2))
  else
  (bd (fX0_isRunning (σ2 1 9) a1 σ2) fun v4 σ5 =>
  if v4 = 0 then
  (some ((-3), σ5))
  else
  (bd (fX0_withStopped (σ5 1 9) a1 σ5) fun v7 σ8 =>
  sv (wr σ8 1 9 v7) fun σ9 =>
  bd (fX5_openLost σ9) fun v10 σ11 =>
  some (v10, σ11)))
def fX5_trip (a1 : Int32) (σ : Sg) : Rs :=
  bd (fX1_hasLine a1 σ) fun v1 σ2 =>
  if v1 = 0 then
  (some ((-1), σ2))
  else
  (bd (fX0_closed (σ2 1 9) σ2) fun v4 σ5 =>
  bd (fX5_bit v4 a1 σ5) fun v6 σ7 =>
  if v6 = 0 then
  (some ((-3), σ7))
  else
  (bd (fX0_withOpened (σ7 1 9) ((1 : Int32) <<< (a1 &&& 31)) σ7) fun v9 σ10 =>
  sv (wr σ10 1 9 v9) fun σ11 =>
  bd (fX5_openLost σ11) fun v12 σ13 =>
  some (((1 : Int32) + v12), σ13)))
def fX5_isGoal_34 (t0 : Int32) (σ : Sg) : Rs :=
  zr t0 σ
def fX5_isGoal_33 (σ : Sg) : Rs :=
  fX5_isGoal_34 0 σ
def fX5_isGoal (a1 : Int32) (a2 : Int32) (σ : Sg) : Rs :=
  bd (fX5_setOfFirst (σ 1 4) σ) fun v1 σ2 =>
  bd (fX5_isWithin a1 v1 σ2) fun v3 σ4 =>
  if v3 = 0 then
  (fX5_isGoal_33 σ4)
  else
  (bd (fX5_setOfFirst 6 σ4) fun v6 σ7 =>
  bd (fX5_isWithin a2 v6 σ7) fun v8 σ9 =>
  if v8 = 0 then
  (fX5_isGoal_33 σ9)
  else
  (fX5_isGoal_34 1 σ9))
def fX5_way_14 (σ : Sg) : Rs :=
  some ((-2), σ)
def fX5_way_89 (t0 : Int32) (σ : Sg) : Rs :=
  some (t0, σ)
def fX5_way (a1 : Int32) (a2 : Int32) (a3 : Int32) (σ : Sg) : Rs :=
  bd (fX5_isGoal a1 a2 σ) fun v1 σ2 =>
  if v1 = 0 then
  (fX5_way_14 σ2)
  else
  (if (-1) ≤ a3 then
  (bd (fX4_plan (σ2 1 9) a1 a2 σ2) fun v5 σ6 =>
  if v5 = (-1) then
  (some ((-6), σ6))
  else
  (bd (fX4_ticksTo v5 σ6) fun v8 σ9 =>
  if a3 = (-1) then
  (some (v8, σ9))
  else
  (if v8 ≤ a3 then
  (fX5_way_89 (-6) σ9)
  else
  (bd (fX4_stepBefore v5 ((v8 - (1 : Int32)) - a3) σ9) fun v12 σ13 =>
  fX5_way_89 v12 σ13))))
  else
  (fX5_way_14 σ2))
def fX5_go (a1 : Int32) (a2 : Int32) (σ : Sg) : Rs :=
  bd (fX5_isGoal a1 a2 σ) fun v1 σ2 =>
  if v1 = 0 then
  (some ((-2), σ2))
  else
  (bd (fX4_plan (σ2 1 9) a1 a2 σ2) fun v4 σ5 =>
  if v4 = (-1) then
  (some ((-5), σ5))
  else
  (bd (fX4_codeAt v4 σ5) fun v7 σ8 =>
  sv (wr σ8 1 9 v7) fun σ9 =>
  bd (fX4_ticksTo v4 σ9) fun v10 σ11 =>
  sv (wr σ11 1 10 ((σ9 1 10) + v10)) fun σ12 =>
  some ((σ12 1 10), σ12)))
def fX5_needed_17 (σ : Sg) : Rs :=
  some ((-2), σ)
def fX5_needed (a1 : Int32) (a2 : Int32) (a3 : Int32) (σ : Sg) : Rs :=
  bd (fX5_isGoal a1 a2 σ) fun v1 σ2 =>
  if v1 = 0 then
  (fX5_needed_17 σ2)
  else
  (bd (fX5_isWithin a3 1 σ2) fun v4 σ5 =>
  if v4 = 0 then
  (fX5_needed_17 σ5)
  else
  (bd (fX4_canReach (σ5 1 9) a1 a2 σ5) fun v7 σ8 =>
  if v7 = 0 then
  (some ((-6), σ8))
  else
  (if a3 = 0 then
  (bd (fX5_setOfFirst (σ8 1 0) σ8) fun v18 σ19 =>
  bd (fX0_closed (σ19 1 9) σ19) fun v20 σ21 =>
  sv (v18 &&& (v20 ^^^ (-1 : Int32))) fun y22 =>
  bd (fX4_neededAmong (y22 <<< ((4 : Int32) &&& 31)) (σ21 1 9) a1 a2 σ21) fun v23 σ24 =>
  some ((v23 >>> ((4 : Int32) &&& 31)), σ24))
  else
  (bd (fX5_setOfFirst (σ8 1 4) σ8) fun v11 σ12 =>
  bd (fX0_running (σ12 1 9) σ12) fun v13 σ14 =>
  sv (v11 &&& (v13 ^^^ (-1 : Int32))) fun y15 =>
  bd (fX4_neededAmong (y15 <<< ((1 : Int32) &&& 31)) (σ14 1 9) a1 a2 σ14) fun v16 σ17 =>
  some ((v16 >>> ((1 : Int32) &&& 31)), σ17)))))
def fX5_ever (a1 : Int32) (σ : Sg) : Rs :=
  if a1 = 0 then
  (bd (fX4_everReady (σ 1 9) (σ 1 4) σ) fun v2 σ3 =>
  some (v2, σ3))
  else
  if a1 = 1 then
  (bd (fX4_everLive (σ 1 9) σ) fun v5 σ6 =>
  some (v5, σ6))
  else
  (some ((-2), σ))
def fX5_image (a1 : Int32) (σ : Sg) : Rs :=
  bd (fX5_isWithin a1 1 σ) fun v1 σ2 =>
  if v1 = 0 then
  (some ((-2), σ2))
  else
  (gd a1 2 <|
  if a1 = 0 then
  (bd (fX1_copyFrom_18_1 σ2) fun v5 σ6 =>
  sv (wr σ6 0 5 ((σ6 0 5) ||| ((1 : Int32) <<< (a1 &&& 31)))) fun σ7 =>
  some (1, σ7))
  else
  (bd (fX1_copyFrom_26_1 σ2) fun v8 σ9 =>
  sv (wr σ9 0 5 ((σ9 0 5) ||| ((1 : Int32) <<< (a1 &&& 31)))) fun σ10 =>
  some (1, σ10)))
def fX5_restore_L40 (k40 : Int32 → Sg → Rs) (x2 : Int32) (σ : Sg) : Rs :=
  if (σ 1 0) ≤ x2 then
  (some (1, σ))
  else
  (bd (fX2_learnLine x2 σ) fun v2 σ3 =>
  sv (x2 + 1) fun y4 =>
  k40 y4 σ3)
def fX5_restore (a1 : Int32) (σ : Sg) : Rs :=
  bd (fX5_isWithin a1 1 σ) fun v5 σ6 =>
  if v5 = 0 then
  (some ((-2), σ6))
  else
  (bd (fX5_bit (σ6 0 5) a1 σ6) fun v8 σ9 =>
  if v8 = 0 then
  (some ((-3), σ9))
  else
  (gd a1 2 <|
  if a1 = 0 then
  (bd (fX1_copyFrom_1_18 σ9) fun v12 σ13 =>
  it fX5_restore_L40 (fun _ _ => none) FU 0 σ13)
  else
  (bd (fX1_copyFrom_1_26 σ9) fun v14 σ15 =>
  it fX5_restore_L40 (fun _ _ => none) FU 0 σ15)))
def fX5_count (a1 : Int32) (σ : Sg) : Rs :=
  if a1 = 0 then
  (some ((σ 1 0), σ))
  else
  if a1 = 1 then
  (some ((σ 1 4), σ))
  else
  if a1 = 2 then
  (bd (fX0_closed (σ 1 9) σ) fun v4 σ5 =>
  bd (fJ6_bitCount_0f7a4 v4 σ5) fun v6 σ7 =>
  some (v6, σ7))
  else
  if a1 = 3 then
  (bd (fX0_running (σ 1 9) σ) fun v9 σ10 =>
  bd (fJ6_bitCount_0f7a4 v9 σ10) fun v11 σ12 =>
  some (v11, σ12))
  else
  if a1 = 4 then
  (bd (fX0_ready (σ 1 9) σ) fun v14 σ15 =>
  bd (fJ6_bitCount_0f7a4 v14 σ15) fun v16 σ17 =>
  some (v16, σ17))
  else
  if a1 = 5 then
  (bd (fX3_liveBuses (σ 1 9) σ) fun v19 σ20 =>
  bd (fJ6_bitCount_0f7a4 v19 σ20) fun v21 σ22 =>
  some (v21, σ22))
  else
  if a1 = 6 then
  (bd (fX3_countLiveIslands (σ 1 9) σ) fun v24 σ25 =>
  some (v24, σ25))
  else
  if a1 = 7 then
  (some ((σ 1 10), σ))
  else
  if a1 = 8 then
  (some ((σ 0 5), σ))
  else
  (some ((-2), σ))
