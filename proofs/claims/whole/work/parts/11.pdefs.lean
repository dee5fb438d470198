/-! PURE PROGRAMS, laid by program out of the bytecode: f_.. a method, l_.. a loop. -/
def f_X6_isIn (N : Nat)  (v0 : Int32) (v1 : Int32) (v2 : Int32) : Option (Int32) :=
  if v0 < v1 then
    gd (bz (0 : Int32)) <|
    some ((0 : Int32))
  else
    if v2 < v0 then
      gd (bz (0 : Int32)) <|
      some ((0 : Int32))
    else
      gd (bz (1 : Int32)) <|
      some ((1 : Int32))
def f_X4_hasRoomFor (N : Nat) (W_count : Int32) (v1 : Int32) : Option (Int32) :=
  if (400 - W_count) < v1 then
    gd (bz (0 : Int32)) <|
    some ((0 : Int32))
  else
    gd (bz (1 : Int32)) <|
    some ((1 : Int32))
def f_X4_add (N : Nat) (W_sorts : (Nat → Int32)) (W_values : (Nat → Int32)) (W_count : Int32) (v1 : Int32) (v2 : Int32) : Option ((Nat → Int32) × (Nat → Int32) × Int32) :=
  if (400 : Int32) ≤ W_count then
    some (W_sorts, W_values, W_count)
  else
    gd (ix W_count 400) <|
    gd (ix W_count 400) <|
    nl (W_count + 1) fun x4 =>
    some ((upd W_sorts W_count.toNatClampNeg v1), (upd W_values W_count.toNatClampNeg v2), x4)
def f_X6_give (N : Nat) (W_sorts : (Nat → Int32)) (W_values : (Nat → Int32)) (W_count : Int32) (v1 : Int32) (v2 : Int32) : Option (Int32 × (Nat → Int32) × (Nat → Int32) × Int32) :=
  bd1 (f_X6_isIn N v1 (0 : Int32) (3 : Int32)) fun r1 =>
  if r1 = 0 then
    some ((-1 : Int32), W_sorts, W_values, W_count)
  else
    bd1 (f_X6_isIn N v2 (-100000 : Int32) (100000 : Int32)) fun r4 =>
    if r4 = 0 then
      some ((-1 : Int32), W_sorts, W_values, W_count)
    else
      bd1 (f_X4_hasRoomFor N W_count (1 : Int32)) fun r7 =>
      if r7 = 0 then
        some ((-1 : Int32), W_sorts, W_values, W_count)
      else
        bd3 (f_X4_add N W_sorts W_values W_count v1 v2) fun c10 c11 c12 =>
        some ((c12 - 1), c10, c11, c12)
def l_X6_sow_62 (N : Nat) (v1 : Int32) (v2 : Int32) (v4 : Int32) (v5 : Int32) : Nat → Int32 → Int32 → (Nat → Int32) → (Nat → Int32) → Int32 → Option ((Nat → Int32) × (Nat → Int32) × Int32)
  | 0, _, _, _, _, _ => none
  | n + 1, v6, v7, W_sorts, W_values, W_count =>
    if v2 ≤ v7 then
      some (W_sorts, W_values, W_count)
    else
      nl ((1103515245 * v6) + 12345) fun x17 =>
      gd (nz v5) <|
      bd3 (f_X4_add N W_sorts W_values W_count v1 ((W_count * v4) + ((x17.toUInt32 >>> (((8 : Int32)).toUInt32 &&& Int32.toUInt32 31)).toInt32 - (x17.toUInt32 >>> (((8 : Int32)).toUInt32 &&& Int32.toUInt32 31)).toInt32 / v5 * v5))) fun c19 c20 c21 =>
      nl (v7 + 1) fun x23 =>
      l_X6_sow_62 N v1 v2 v4 v5 n x17 x23 c19 c20 c21
def f_X6_sow (N : Nat) (W_sorts : (Nat → Int32)) (W_values : (Nat → Int32)) (W_count : Int32) (v1 : Int32) (v2 : Int32) (v3 : Int32) (v4 : Int32) (v5 : Int32) : Option (Int32 × (Nat → Int32) × (Nat → Int32) × Int32) :=
  bd1 (f_X6_isIn N v1 (0 : Int32) (3 : Int32)) fun r1 =>
  if r1 = 0 then
    some ((-1 : Int32), W_sorts, W_values, W_count)
  else
    bd1 (f_X6_isIn N v2 (1 : Int32) (100 : Int32)) fun r4 =>
    if r4 = 0 then
      some ((-1 : Int32), W_sorts, W_values, W_count)
    else
      bd1 (f_X6_isIn N v4 (-100 : Int32) (100 : Int32)) fun r7 =>
      if r7 = 0 then
        some ((-1 : Int32), W_sorts, W_values, W_count)
      else
        bd1 (f_X6_isIn N v5 (1 : Int32) (10000 : Int32)) fun r10 =>
        if r10 = 0 then
          some ((-1 : Int32), W_sorts, W_values, W_count)
        else
          bd1 (f_X4_hasRoomFor N W_count v2) fun r13 =>
          if r13 = 0 then
            some ((-1 : Int32), W_sorts, W_values, W_count)
          else
            bd3 (l_X6_sow_62 N v1 v2 v4 v5 N v3 (0 : Int32) W_sorts W_values W_count) fun e24 e25 e26 =>
            some (e26, e24, e25, e26)
def f_X5_forget (N : Nat) (R_rowsInAll : Int32) (R_made : Int32) (R_all : Int32) (R_filled : Int32)  : Option (Int32 × Int32 × Int32 × Int32) :=
  some (0, 0, 0, 0)
def f_X3_forget (N : Nat) (P_merges : Int32) (P_told : Int32)  : Option (Int32 × Int32) :=
  some (0, 0)
def l_X0_forget_32 (N : Nat)  : Nat → Int32 → (Nat → Int32) → Option ((Nat → Int32))
  | 0, _, _ => none
  | n + 1, v1, C_mergedBy =>
    if (8 : Int32) ≤ v1 then
      some (C_mergedBy)
    else
      gd (ix v1 8) <|
      nl (v1 + 1) fun x3 =>
      l_X0_forget_32 N n x3 (upd C_mergedBy v1.toNatClampNeg 0)
def f_X0_forget (N : Nat) (C_mergedBy : (Nat → Int32)) (C_parts : Int32) (C_samples : Int32) (C_bound : Int32) (C_ticks : Int32) (C_mergedInAll : Int32) (C_mergedAgain : Int32)  : Option ((Nat → Int32) × Int32 × Int32 × Int32 × Int32 × Int32 × Int32) :=
  bd1 (l_X0_forget_32 N N (0 : Int32) C_mergedBy) fun e4 =>
  some (e4, 0, 0, 0, 0, 0, 0)
def f_X6_forgetRuns (N : Nat) (R_rowsInAll : Int32) (R_made : Int32) (R_all : Int32) (R_filled : Int32) (P_merges : Int32) (P_told : Int32) (C_mergedBy : (Nat → Int32)) (C_parts : Int32) (C_samples : Int32) (C_bound : Int32) (C_ticks : Int32) (C_mergedInAll : Int32) (C_mergedAgain : Int32)  : Option (Int32 × Int32 × Int32 × Int32 × Int32 × Int32 × (Nat → Int32) × Int32 × Int32 × Int32 × Int32 × Int32 × Int32) :=
  bd4 (f_X5_forget N R_rowsInAll R_made R_all R_filled) fun c1 c2 c3 c4 =>
  bd2 (f_X3_forget N P_merges P_told) fun c6 c7 =>
  bd7 (f_X0_forget N C_mergedBy C_parts C_samples C_bound C_ticks C_mergedInAll C_mergedAgain) fun c9 c10 c11 c12 c13 c14 c15 =>
  some (c1, c2, c3, c4, c6, c7, c9, c10, c11, c12, c13, c14, c15)
def f_X6_clear (N : Nat) (W_count : Int32) (R_rowsInAll : Int32) (R_made : Int32) (R_all : Int32) (R_filled : Int32) (P_merges : Int32) (P_told : Int32) (C_mergedBy : (Nat → Int32)) (C_parts : Int32) (C_samples : Int32) (C_bound : Int32) (C_ticks : Int32) (C_mergedInAll : Int32) (C_mergedAgain : Int32)  : Option (Int32 × Int32 × Int32 × Int32 × Int32 × Int32 × Int32 × Int32 × (Nat → Int32) × Int32 × Int32 × Int32 × Int32 × Int32 × Int32) :=
  bd13 (f_X6_forgetRuns N R_rowsInAll R_made R_all R_filled P_merges P_told C_mergedBy C_parts C_samples C_bound C_ticks C_mergedInAll C_mergedAgain) fun c1 c2 c3 c4 c5 c6 c7 c8 c9 c10 c11 c12 c13 =>
  some (W_count, 0, c1, c2, c3, c4, c5, c6, c7, c8, c9, c10, c11, c12, c13)
def f_X6_isEachSortOnce (N : Nat)  (v0 : Int32) (v1 : Int32) (v2 : Int32) (v3 : Int32) : Option (Int32) :=
  bd1 (f_X6_isIn N v0 (0 : Int32) (3 : Int32)) fun r1 =>
  if r1 = 0 then
    gd (bz (0 : Int32)) <|
    some ((0 : Int32))
  else
    bd1 (f_X6_isIn N v1 (0 : Int32) (3 : Int32)) fun r5 =>
    if r5 = 0 then
      gd (bz (0 : Int32)) <|
      some ((0 : Int32))
    else
      bd1 (f_X6_isIn N v2 (0 : Int32) (3 : Int32)) fun r9 =>
      if r9 = 0 then
        gd (bz (0 : Int32)) <|
        some ((0 : Int32))
      else
        bd1 (f_X6_isIn N v3 (0 : Int32) (3 : Int32)) fun r13 =>
        if r13 = 0 then
          gd (bz (0 : Int32)) <|
          some ((0 : Int32))
        else
          if v0 = v1 then
            gd (bz (0 : Int32)) <|
            some ((0 : Int32))
          else
            if v0 = v2 then
              gd (bz (0 : Int32)) <|
              some ((0 : Int32))
            else
              if v0 = v3 then
                gd (bz (0 : Int32)) <|
                some ((0 : Int32))
              else
                if v1 = v2 then
                  gd (bz (0 : Int32)) <|
                  some ((0 : Int32))
                else
                  if v1 = v3 then
                    gd (bz (0 : Int32)) <|
                    some ((0 : Int32))
                  else
                    if v2 = v3 then
                      gd (bz (0 : Int32)) <|
                      some ((0 : Int32))
                    else
                      gd (bz (1 : Int32)) <|
                      some ((1 : Int32))
def f_X6_order (N : Nat) (W_turns : (Nat → Int32)) (R_made : Int32) (v1 : Int32) (v2 : Int32) (v3 : Int32) (v4 : Int32) : Option (Int32 × (Nat → Int32)) :=
  if 0 < R_made then
    gd (bz (0 : Int32)) <|
    some ((0 : Int32), W_turns)
  else
    bd1 (f_X6_isEachSortOnce N v1 v2 v3 v4) fun r3 =>
    if r3 = 0 then
      gd (bz (0 : Int32)) <|
      some ((0 : Int32), W_turns)
    else
      gd (ix v1 4) <|
      gd (ix v2 4) <|
      gd (ix v3 4) <|
      gd (ix v4 4) <|
      gd (bz (1 : Int32)) <|
      some ((1 : Int32), (upd (upd (upd (upd W_turns v1.toNatClampNeg 0) v2.toNatClampNeg 1) v3.toNatClampNeg 2) v4.toNatClampNeg 3))
def f_X6_falls (N : Nat) (W_falling : (Nat → Int32)) (R_made : Int32) (v1 : Int32) (v2 : Int32) : Option (Int32 × (Nat → Int32)) :=
  if 0 < R_made then
    gd (bz (0 : Int32)) <|
    some ((0 : Int32), W_falling)
  else
    bd1 (f_X6_isIn N v1 (0 : Int32) (3 : Int32)) fun r3 =>
    if r3 = 0 then
      gd (bz (0 : Int32)) <|
      some ((0 : Int32), W_falling)
    else
      gd (ix v1 4) <|
      gd (bz (1 : Int32)) <|
      some ((1 : Int32), (upd W_falling v1.toNatClampNeg (vp_nar .boolean v2)))
def f_X4_has (N : Nat) (W_count : Int32) (v1 : Int32) : Option (Int32) :=
  bd1 (f_X6_isIn N v1 (0 : Int32) (W_count - 1)) fun r1 =>
  gd (bz r1) <|
  some (r1)
def f_X6_row (N : Nat) (W_sorts : (Nat → Int32)) (W_values : (Nat → Int32)) (W_count : Int32) (v1 : Int32) (v2 : Int32) : Option (Int32) :=
  bd1 (f_X4_has N W_count v1) fun r1 =>
  if r1 = 0 then
    some ((-1000000 : Int32))
  else
    if v2 = 0 then
      gd (ix v1 400) <|
      some ((W_sorts v1.toNatClampNeg))
    else
      if v2 = 1 then
        gd (ix v1 400) <|
        some ((W_values v1.toNatClampNeg))
      else
        some ((-1000000 : Int32))
def f_X4_placeOf (N : Nat) (W_sorts : (Nat → Int32)) (W_values : (Nat → Int32)) (W_turns : (Nat → Int32)) (W_falling : (Nat → Int32)) (W_count : Int32) (v1 : Int32) : Option (Int32) :=
  bd1 (f_X4_has N W_count v1) fun r1 =>
  if r1 = 0 then
    some ((320001600 : Int32))
  else
    gd (ix v1 400) <|
    nl (W_sorts v1.toNatClampNeg) fun x5 =>
    gd (ix x5 4) <|
    bd1 (if (W_falling x5.toNatClampNeg) = 0 then
        gd (ix v1 400) <|
        some ((W_values v1.toNatClampNeg))
      else
        gd (ix v1 400) <|
        some ((-(W_values v1.toNatClampNeg))))
      fun y7 =>
    gd (ix x5 4) <|
    some (((((((W_turns x5.toNatClampNeg) * 200001) + y7) + 100000) * 400) + v1))
def f_J6_compare_7cf53 (N : Nat)  (v0 : Int32) (v1 : Int32) : Option (Int32) :=
  if v1 ≤ v0 then
    if v0 = v1 then
      some ((0 : Int32))
    else
      some ((1 : Int32))
  else
    some ((-1 : Int32))
def f_X6_against (N : Nat) (W_sorts : (Nat → Int32)) (W_values : (Nat → Int32)) (W_turns : (Nat → Int32)) (W_falling : (Nat → Int32)) (W_count : Int32) (v1 : Int32) (v2 : Int32) : Option (Int32) :=
  bd1 (f_X4_has N W_count v1) fun r1 =>
  if r1 = 0 then
    some ((-2 : Int32))
  else
    bd1 (f_X4_has N W_count v2) fun r4 =>
    if r4 = 0 then
      some ((-2 : Int32))
    else
      bd1 (f_X4_placeOf N W_sorts W_values W_turns W_falling W_count v1) fun r7 =>
      bd1 (f_X4_placeOf N W_sorts W_values W_turns W_falling W_count v2) fun r9 =>
      bd1 (f_J6_compare_7cf53 N r7 r9) fun r11 =>
      some (r11)
def l_X6_rank_27 (N : Nat) (W_sorts : (Nat → Int32)) (W_values : (Nat → Int32)) (W_turns : (Nat → Int32)) (W_falling : (Nat → Int32)) (W_count : Int32) (v2 : Int32) : Nat → Int32 → Int32 → Option (Int32)
  | 0, _, _ => none
  | n + 1, v3, v4 =>
    if W_count ≤ v4 then
      some (v3)
    else
      bd1 (f_X4_placeOf N W_sorts W_values W_turns W_falling W_count v4) fun r7 =>
      if v2 ≤ r7 then
        nl (v4 + 1) fun x10 =>
        l_X6_rank_27 N W_sorts W_values W_turns W_falling W_count v2 n v3 x10
      else
        nl (v3 + 1) fun x11 =>
        nl (v4 + 1) fun x12 =>
        l_X6_rank_27 N W_sorts W_values W_turns W_falling W_count v2 n x11 x12
def f_X6_rank (N : Nat) (W_sorts : (Nat → Int32)) (W_values : (Nat → Int32)) (W_turns : (Nat → Int32)) (W_falling : (Nat → Int32)) (W_count : Int32) (v1 : Int32) : Option (Int32) :=
  bd1 (f_X4_has N W_count v1) fun r1 =>
  if r1 = 0 then
    some ((-1 : Int32))
  else
    bd1 (f_X4_placeOf N W_sorts W_values W_turns W_falling W_count v1) fun r4 =>
    bd1 (l_X6_rank_27 N W_sorts W_values W_turns W_falling W_count r4 N (0 : Int32) (0 : Int32)) fun e13 =>
    some (e13)
def f_X1_forget (N : Nat) (H_size : Int32)  : Option (Int32) :=
  some (0)
def l_X1_add_28 (N : Nat) (v1 : Int64) : Nat → Int32 → (Nat → Int64) → Option (Int32 × (Nat → Int64))
  | 0, _, _ => none
  | n + 1, v3, H_items =>
    if v3 ≤ 0 then
      some (v3, H_items)
    else
      nl ((v3 - 1) / 2) fun x4 =>
      gd (ix x4 400) <|
      if v1 < (H_items x4.toNatClampNeg) then
        gd (ix x4 400) <|
        nl (H_items x4.toNatClampNeg) fun x8 =>
        gd (ix v3 400) <|
        l_X1_add_28 N v1 n x4 (vp_updL H_items v3.toNatClampNeg x8)
      else
        some (v3, H_items)
def f_X1_add (N : Nat) (H_items : (Nat → Int64)) (H_size : Int32) (v1 : Int64) : Option ((Nat → Int64) × Int32) :=
  if H_size < (400 : Int32) then
    nl (H_size + 1) fun x2 =>
    bd2 (l_X1_add_28 N v1 N H_size H_items) fun e10 e11 =>
    gd (ix e10 400) <|
    some ((vp_updL e11 e10.toNatClampNeg v1), x2)
  else
    some (H_items, H_size)
def l_X1_sink_5 (N : Nat) (H_size : Int32) (v1 : Int64) : Nat → Int32 → Int32 → (Nat → Int64) → Option (Int32 × (Nat → Int64))
  | 0, _, _, _ => none
  | n + 1, v3, v4, H_items =>
    if H_size ≤ v4 then
      some (v3, H_items)
    else
      nl (v4 + 1) fun x2 =>
      bd1 (if H_size ≤ x2 then
          some (v4)
        else
          gd (ix x2 400) <|
          gd (ix v4 400) <|
          if (H_items v4.toNatClampNeg) ≤ (H_items x2.toNatClampNeg) then
            some (v4)
          else
            some (x2))
        fun y3 =>
      gd (ix y3 400) <|
      if (H_items y3.toNatClampNeg) < v1 then
        gd (ix y3 400) <|
        nl (H_items y3.toNatClampNeg) fun x8 =>
        gd (ix v3 400) <|
        nl ((2 * y3) + 1) fun x10 =>
        l_X1_sink_5 N H_size v1 n y3 x10 (vp_updL H_items v3.toNatClampNeg x8)
      else
        some (v3, H_items)
def f_X1_sink (N : Nat) (H_items : (Nat → Int64)) (H_size : Int32) (v1 : Int64) : Option ((Nat → Int64)) :=
  bd2 (l_X1_sink_5 N H_size v1 N (0 : Int32) (1 : Int32) H_items) fun e15 e16 =>
  gd (ix e15 400) <|
  some ((vp_updL e16 e15.toNatClampNeg v1))
def f_X1_takeLeast (N : Nat) (H_items : (Nat → Int64)) (H_size : Int32)  : Option (Int64 × (Nat → Int64) × Int32) :=
  if H_size = 0 then
    some ((0 : Int64), H_items, H_size)
  else
    gd (ix (0 : Int32) 400) <|
    nl (H_items (0 : Int32).toNatClampNeg) fun x3 =>
    nl (H_size - 1) fun x4 =>
    gd (ix x4 400) <|
    bd1 (f_X1_sink N H_items x4 (H_items x4.toNatClampNeg)) fun c6 =>
    some (x3, c6, x4)
def f_X4_rowOf (N : Nat)  (v0 : Int64) : Option (Int32) :=
  some (((v0 - v0 / 400 * 400).toInt32))
def l_X5_putInOrder_6 (N : Nat) (W_sorts : (Nat → Int32)) (W_values : (Nat → Int32)) (W_turns : (Nat → Int32)) (W_falling : (Nat → Int32)) (W_count : Int32) (R_rowsInAll : Int32) : Nat → Int32 → (Nat → Int64) → Int32 → Option ((Nat → Int64) × Int32)
  | 0, _, _, _ => none
  | n + 1, v3, H_items, H_size =>
    if R_rowsInAll ≤ v3 then
      some (H_items, H_size)
    else
      bd1 (f_X4_placeOf N W_sorts W_values W_turns W_falling W_count v3) fun r4 =>
      bd2 (f_X1_add N H_items H_size (r4.toInt64)) fun c6 c7 =>
      nl (v3 + 1) fun x9 =>
      l_X5_putInOrder_6 N W_sorts W_values W_turns W_falling W_count R_rowsInAll n x9 c6 c7
def l_X5_putInOrder_32 (N : Nat) (R_rowsInAll : Int32) : Nat → Int32 → (Nat → Int64) → Int32 → (Nat → Int32) → (Nat → Int32) → Option ((Nat → Int64) × Int32 × (Nat → Int32) × (Nat → Int32))
  | 0, _, _, _, _, _ => none
  | n + 1, v3, H_items, H_size, R_inOrder, R_standing =>
    if R_rowsInAll ≤ v3 then
      some (H_items, H_size, R_inOrder, R_standing)
    else
      bd3 (f_X1_takeLeast N H_items H_size) fun r14 c15 c16 =>
      bd1 (f_X4_rowOf N r14) fun r18 =>
      gd (ix v3 400) <|
      gd (ix r18 400) <|
      nl (v3 + 1) fun x22 =>
      l_X5_putInOrder_32 N R_rowsInAll n x22 c15 c16 (upd R_inOrder v3.toNatClampNeg r18) (upd R_standing r18.toNatClampNeg v3)
def f_X5_putInOrder (N : Nat) (W_sorts : (Nat → Int32)) (W_values : (Nat → Int32)) (W_turns : (Nat → Int32)) (W_falling : (Nat → Int32)) (W_count : Int32) (H_items : (Nat → Int64)) (H_size : Int32) (R_inOrder : (Nat → Int32)) (R_standing : (Nat → Int32)) (R_rowsInAll : Int32)  : Option ((Nat → Int64) × Int32 × (Nat → Int32) × (Nat → Int32)) :=
  bd1 (f_X1_forget N H_size) fun c1 =>
  bd2 (l_X5_putInOrder_6 N W_sorts W_values W_turns W_falling W_count R_rowsInAll N (0 : Int32) H_items c1) fun e10 e11 =>
  bd4 (l_X5_putInOrder_32 N R_rowsInAll N (0 : Int32) e10 e11 R_inOrder R_standing) fun e23 e24 e25 e26 =>
  some (e23, e24, e25, e26)
def f_X5_begin (N : Nat) (R_starts : (Nat → Int32)) (R_all : Int32) (R_filled : Int32)  : Option ((Nat → Int32) × Int32) :=
  if (799 : Int32) ≤ R_all then
    some (R_starts, R_all)
  else
    gd (ix R_all 800) <|
    nl (R_all + 1) fun x3 =>
    gd (ix x3 800) <|
    some ((upd (upd R_starts R_all.toNatClampNeg R_filled) x3.toNatClampNeg R_filled), x3)
def f_X5_append (N : Nat) (R_members : (Nat → Int32)) (R_starts : (Nat → Int32)) (R_all : Int32) (R_filled : Int32) (v1 : Int32) : Option ((Nat → Int32) × (Nat → Int32) × Int32) :=
  if (4000 : Int32) ≤ R_filled then
    some (R_members, R_starts, R_filled)
  else
    gd (ix R_filled 4000) <|
    nl (R_filled + 1) fun x3 =>
    gd (ix R_all 800) <|
    some ((upd R_members R_filled.toNatClampNeg v1), (upd R_starts R_all.toNatClampNeg x3), x3)
def l_X5_select_17 (N : Nat) (W_sorts : (Nat → Int32)) (W_values : (Nat → Int32)) (W_turns : (Nat → Int32)) (W_falling : (Nat → Int32)) (W_count : Int32) (v4 : Int32) : Nat → Int32 → (Nat → Int64) → Int32 → Option ((Nat → Int64) × Int32)
  | 0, _, _, _ => none
  | n + 1, v5, H_items, H_size =>
    if v4 ≤ v5 then
      some (H_items, H_size)
    else
      bd1 (f_X4_placeOf N W_sorts W_values W_turns W_falling W_count v5) fun r5 =>
      bd2 (f_X1_add N H_items H_size (r5.toInt64)) fun c7 c8 =>
      nl (v5 + 1) fun x10 =>
      l_X5_select_17 N W_sorts W_values W_turns W_falling W_count v4 n x10 c7 c8
def l_X5_select_44 (N : Nat) (W_sorts : (Nat → Int32)) (W_values : (Nat → Int32)) (W_turns : (Nat → Int32)) (W_falling : (Nat → Int32)) (W_count : Int32) (R_rowsInAll : Int32) : Nat → Int32 → Int32 → (Nat → Int64) → Int32 → (Nat → Int32) → (Nat → Int32) → Int32 → Int32 → Option ((Nat → Int64) × Int32 × (Nat → Int32) × (Nat → Int32) × Int32 × Int32)
  | 0, _, _, _, _, _, _, _, _ => none
  | n + 1, v4, v5, H_items, H_size, R_members, R_starts, R_all, R_filled =>
    if R_rowsInAll ≤ v5 then
      some (H_items, H_size, R_members, R_starts, R_all, R_filled)
    else
      bd3 (f_X1_takeLeast N H_items H_size) fun r15 c16 c17 =>
      nl (r15 / 320001600) fun x19 =>
      bd2 (if x19 < (R_all.toInt64) then
          some (R_starts, R_all)
        else
          bd2 (f_X5_begin N R_starts R_all R_filled) fun c42 c43 =>
          some (c42, c43))
        fun y20 y21 =>
      bd1 (f_X4_rowOf N r15) fun r23 =>
      bd3 (f_X5_append N R_members y20 y21 R_filled r23) fun c25 c26 c27 =>
      if R_rowsInAll ≤ v4 then
        nl (v5 + 1) fun x30 =>
        l_X5_select_44 N W_sorts W_values W_turns W_falling W_count R_rowsInAll n v4 x30 c16 c17 c25 c26 y21 c27
      else
        bd1 (f_X4_placeOf N W_sorts W_values W_turns W_falling W_count v4) fun r31 =>
        bd1 (if (r15 - r15 / 320001600 * 320001600) ≤ (r31.toInt64) then
            some (x19)
          else
            some ((x19 + 1)))
          fun y33 =>
        bd2 (f_X1_add N c16 c17 (r31.toInt64 + (320001600 * y33))) fun c35 c36 =>
        nl (v4 + 1) fun x38 =>
        nl (v5 + 1) fun x39 =>
        l_X5_select_44 N W_sorts W_values W_turns W_falling W_count R_rowsInAll n x38 x39 c35 c36 c25 c26 y21 c27
def f_X5_select (N : Nat) (W_sorts : (Nat → Int32)) (W_values : (Nat → Int32)) (W_turns : (Nat → Int32)) (W_falling : (Nat → Int32)) (W_count : Int32) (H_items : (Nat → Int64)) (H_size : Int32) (R_members : (Nat → Int32)) (R_starts : (Nat → Int32)) (R_rowsInAll : Int32) (R_all : Int32) (R_filled : Int32) (v2 : Int32) : Option ((Nat → Int64) × Int32 × (Nat → Int32) × (Nat → Int32) × Int32 × Int32) :=
  bd1 (f_X1_forget N H_size) fun c1 =>
  nl (if R_rowsInAll < v2 then R_rowsInAll else v2) fun x3 =>
  bd2 (l_X5_select_17 N W_sorts W_values W_turns W_falling W_count x3 N (0 : Int32) H_items c1) fun e11 e12 =>
  bd6 (l_X5_select_44 N W_sorts W_values W_turns W_falling W_count R_rowsInAll N x3 (0 : Int32) e11 e12 R_members R_starts R_all R_filled) fun e45 e46 e47 e48 e49 e50 =>
  some (e45, e46, e47, e48, e49, e50)
def f_X5_makeOf (N : Nat) (W_sorts : (Nat → Int32)) (W_values : (Nat → Int32)) (W_turns : (Nat → Int32)) (W_falling : (Nat → Int32)) (W_count : Int32) (H_items : (Nat → Int64)) (H_size : Int32) (R_members : (Nat → Int32)) (R_starts : (Nat → Int32)) (R_inOrder : (Nat → Int32)) (R_standing : (Nat → Int32)) (R_rowsInAll : Int32) (R_made : Int32) (R_all : Int32) (R_filled : Int32) (v2 : Int32) : Option ((Nat → Int64) × Int32 × (Nat → Int32) × (Nat → Int32) × (Nat → Int32) × (Nat → Int32) × Int32 × Int32 × Int32 × Int32) :=
  bd4 (f_X5_putInOrder N W_sorts W_values W_turns W_falling W_count H_items H_size R_inOrder R_standing W_count) fun c1 c2 c3 c4 =>
  bd6 (f_X5_select N W_sorts W_values W_turns W_falling W_count c1 c2 R_members R_starts W_count R_all R_filled v2) fun c6 c7 c8 c9 c10 c11 =>
  some (c6, c7, c8, c9, c3, c4, W_count, c10, c10, c11)
def f_X6_runs (N : Nat) (W_sorts : (Nat → Int32)) (W_values : (Nat → Int32)) (W_turns : (Nat → Int32)) (W_falling : (Nat → Int32)) (W_count : Int32) (H_items : (Nat → Int64)) (H_size : Int32) (R_members : (Nat → Int32)) (R_starts : (Nat → Int32)) (R_inOrder : (Nat → Int32)) (R_standing : (Nat → Int32)) (R_rowsInAll : Int32) (R_made : Int32) (R_all : Int32) (R_filled : Int32) (P_merges : Int32) (P_told : Int32) (C_mergedBy : (Nat → Int32)) (C_parts : Int32) (C_samples : Int32) (C_bound : Int32) (C_ticks : Int32) (C_mergedInAll : Int32) (C_mergedAgain : Int32) (v1 : Int32) : Option (Int32 × (Nat → Int64) × Int32 × (Nat → Int32) × (Nat → Int32) × (Nat → Int32) × (Nat → Int32) × Int32 × Int32 × Int32 × Int32 × Int32 × Int32 × (Nat → Int32) × Int32 × Int32 × Int32 × Int32 × Int32 × Int32) :=
  bd1 (f_X6_isIn N v1 (1 : Int32) (40 : Int32)) fun r1 =>
  if r1 = 0 then
    some ((-1 : Int32), H_items, H_size, R_members, R_starts, R_inOrder, R_standing, R_rowsInAll, R_made, R_all, R_filled, P_merges, P_told, C_mergedBy, C_parts, C_samples, C_bound, C_ticks, C_mergedInAll, C_mergedAgain)
  else
    bd13 (f_X6_forgetRuns N R_rowsInAll R_made R_all R_filled P_merges P_told C_mergedBy C_parts C_samples C_bound C_ticks C_mergedInAll C_mergedAgain) fun c4 c5 c6 c7 c8 c9 c10 c11 c12 c13 c14 c15 c16 =>
    bd10 (f_X5_makeOf N W_sorts W_values W_turns W_falling W_count H_items H_size R_members R_starts R_inOrder R_standing c4 c5 c6 c7 v1) fun c18 c19 c20 c21 c22 c23 c24 c25 c26 c27 =>
    some (c25, c18, c19, c20, c21, c22, c23, c24, c25, c26, c27, c8, c9, c10, c11, c12, c13, c14, c15, c16)
def f_X5_has (N : Nat) (R_all : Int32) (v1 : Int32) : Option (Int32) :=
  bd1 (f_X6_isIn N v1 (0 : Int32) (R_all - 1)) fun r1 =>
  gd (bz r1) <|
  some (r1)
def f_X5_sizeOf (N : Nat) (R_starts : (Nat → Int32)) (R_all : Int32) (v1 : Int32) : Option (Int32) :=
  bd1 (f_X5_has N R_all v1) fun r1 =>
  if r1 = 0 then
    some ((0 : Int32))
  else
    gd (ix (v1 + 1) 800) <|
    gd (ix v1 800) <|
    some (((R_starts (v1 + 1).toNatClampNeg) - (R_starts v1.toNatClampNeg)))
def f_X6_length (N : Nat) (R_starts : (Nat → Int32)) (R_all : Int32) (v1 : Int32) : Option (Int32) :=
  bd1 (f_X5_has N R_all v1) fun r1 =>
  if r1 = 0 then
    some ((-1 : Int32))
  else
    bd1 (f_X5_sizeOf N R_starts R_all v1) fun r4 =>
    some (r4)
def f_X5_rowIn (N : Nat) (R_members : (Nat → Int32)) (R_starts : (Nat → Int32)) (R_all : Int32) (v1 : Int32) (v2 : Int32) : Option (Int32) :=
  bd1 (f_X5_sizeOf N R_starts R_all v1) fun r1 =>
  bd1 (f_X6_isIn N v2 (0 : Int32) (r1 - 1)) fun r3 =>
  if r3 = 0 then
    some ((-1 : Int32))
  else
    gd (ix v1 800) <|
    gd (ix ((R_starts v1.toNatClampNeg) + v2) 4000) <|
    some ((R_members ((R_starts v1.toNatClampNeg) + v2).toNatClampNeg))
def f_X6_at (N : Nat) (R_members : (Nat → Int32)) (R_starts : (Nat → Int32)) (R_all : Int32) (v1 : Int32) (v2 : Int32) : Option (Int32) :=
  bd1 (f_X5_rowIn N R_members R_starts R_all v1 v2) fun r1 =>
  some (r1)
def f_X5_forgetMerged (N : Nat) (R_rowsInAll : Int32) (R_made : Int32) (R_all : Int32) (R_filled : Int32)  : Option (Int32 × Int32) :=
  some (R_made, R_rowsInAll)
def f_X3_sized (N : Nat)  (v0 : Int32) (v1 : Int32) : Option (Int64) :=
  some (((v0.toInt64 * 799) + v1.toInt64))
def f_X3_waysOf (N : Nat)  (v0 : Int32) (v1 : Int32) (v2 : Int32) : Option (Int32) :=
  if 0 < v0 then
    some (v2)
  else
    if (2 : Int32) ≤ v2 then
      gd (nz (v2 - 1)) <|
      some ((2 + ((v1 - 2) - (v1 - 2) / (v2 - 1) * (v2 - 1))))
    else
      some (v2)
def f_X3_mergesOf (N : Nat)  (v0 : Int32) (v1 : Int32) : Option (Int32) :=
  if v0 < (2 : Int32) then
    some ((0 : Int32))
  else
    if (2 : Int32) ≤ v1 then
      bd1 (f_X3_waysOf N (0 : Int32) v0 v1) fun r3 =>
      gd (nz (v1 - 1)) <|
      some ((1 + ((v0 - r3) / (v1 - 1))))
    else
      some ((0 : Int32))
def l_X3_takeFewest_14 (N : Nat) (v2 : Int32) : Nat → Int32 → Int32 → Int32 → (Nat → Int64) → Int32 → (Nat → Int32) → Option (Int32 × Int32 × (Nat → Int64) × Int32 × (Nat → Int32))
  | 0, _, _, _, _, _, _ => none
  | n + 1, v4, v5, v6, H_items, H_size, P_takenRuns =>
    if v2 ≤ v6 then
      some (v4, v5, H_items, H_size, P_takenRuns)
    else
      if (800 : Int32) ≤ v5 then
        some (v4, v5, H_items, H_size, P_takenRuns)
      else
        bd3 (f_X1_takeLeast N H_items H_size) fun r5 c6 c7 =>
        nl ((r5 - r5 / 799 * 799).toInt32) fun x9 =>
        gd (ix v5 800) <|
        nl (v4 + (r5 / 799).toInt32) fun x11 =>
        nl (v5 + 1) fun x12 =>
        nl (v6 + 1) fun x13 =>
        l_X3_takeFewest_14 N v2 n x11 x12 x13 c6 c7 (upd P_takenRuns v5.toNatClampNeg x9)
def f_X3_takeFewest (N : Nat) (H_items : (Nat → Int64)) (H_size : Int32) (P_takenRuns : (Nat → Int32)) (P_starts : (Nat → Int32)) (v1 : Int32) (v2 : Int32) : Option (Int32 × (Nat → Int64) × Int32 × (Nat → Int32) × (Nat → Int32)) :=
  gd (ix v1 401) <|
  nl (P_starts v1.toNatClampNeg) fun x2 =>
  bd5 (l_X3_takeFewest_14 N v2 N (0 : Int32) x2 (0 : Int32) H_items H_size P_takenRuns) fun e14 e15 e16 e17 e18 =>
  gd (ix (v1 + 1) 401) <|
  some (e14, e16, e17, e18, (upd P_starts (v1 + 1).toNatClampNeg e15))
def l_X3_tell_7 (N : Nat) (R_starts : (Nat → Int32)) (R_made : Int32) (R_all : Int32) : Nat → Int32 → (Nat → Int64) → Int32 → Option ((Nat → Int64) × Int32)
  | 0, _, _, _ => none
  | n + 1, v4, H_items, H_size =>
    if R_made ≤ v4 then
      some (H_items, H_size)
    else
      bd1 (f_X5_sizeOf N R_starts R_all v4) fun r4 =>
      bd1 (f_X3_sized N r4 v4) fun r6 =>
      bd2 (f_X1_add N H_items H_size r6) fun c8 c9 =>
      nl (v4 + 1) fun x11 =>
      l_X3_tell_7 N R_starts R_made R_all n x11 c8 c9
def l_X3_tell_66 (N : Nat) (R_made : Int32) (P_merges : Int32) (v2 : Int32) : Nat → Int32 → Int32 → (Nat → Int64) → Int32 → (Nat → Int32) → (Nat → Int32) → Option (Int32 × (Nat → Int64) × Int32 × (Nat → Int32) × (Nat → Int32))
  | 0, _, _, _, _, _, _ => none
  | n + 1, v4, v5, H_items, H_size, P_takenRuns, P_starts =>
    if P_merges ≤ v5 then
      some (v4, H_items, H_size, P_takenRuns, P_starts)
    else
      bd1 (f_X3_waysOf N v5 R_made v2) fun r19 =>
      bd5 (f_X3_takeFewest N H_items H_size P_takenRuns P_starts v5 r19) fun r21 c22 c23 c24 c25 =>
      bd1 (f_X3_sized N r21 (R_made + v5)) fun r27 =>
      bd2 (f_X1_add N c22 c23 r27) fun c29 c30 =>
      nl (v4 + r21) fun x32 =>
      nl (v5 + 1) fun x33 =>
      l_X3_tell_66 N R_made P_merges v2 n x32 x33 c29 c30 c24 c25
def f_X3_tell (N : Nat) (H_items : (Nat → Int64)) (H_size : Int32) (R_starts : (Nat → Int32)) (R_made : Int32) (R_all : Int32) (P_takenRuns : (Nat → Int32)) (P_starts : (Nat → Int32)) (P_merges : Int32) (P_told : Int32) (v2 : Int32) : Option (Int32 × (Nat → Int64) × Int32 × (Nat → Int32) × (Nat → Int32) × Int32 × Int32) :=
  bd1 (f_X1_forget N H_size) fun c1 =>
  bd2 (l_X3_tell_7 N R_starts R_made R_all N (0 : Int32) H_items c1) fun e12 e13 =>
  bd1 (f_X3_mergesOf N R_made v2) fun r15 =>
  nl (if (400 : Int32) < r15 then (400 : Int32) else r15) fun x17 =>
  bd5 (l_X3_tell_66 N R_made x17 v2 N (0 : Int32) (0 : Int32) e12 e13 P_takenRuns P_starts) fun e34 e35 e36 e37 e38 =>
  some (e34, e35, e36, e37, e38, x17, 1)
def f_X6_plan (N : Nat) (H_items : (Nat → Int64)) (H_size : Int32) (R_starts : (Nat → Int32)) (R_rowsInAll : Int32) (R_made : Int32) (R_all : Int32) (R_filled : Int32) (P_takenRuns : (Nat → Int32)) (P_starts : (Nat → Int32)) (P_merges : Int32) (P_told : Int32) (v1 : Int32) : Option (Int32 × (Nat → Int64) × Int32 × Int32 × Int32 × (Nat → Int32) × (Nat → Int32) × Int32 × Int32) :=
  if R_made = 0 then
    some ((-1 : Int32), H_items, H_size, R_all, R_filled, P_takenRuns, P_starts, P_merges, P_told)
  else
    bd1 (f_X6_isIn N v1 (2 : Int32) (8 : Int32)) fun r2 =>
    if r2 = 0 then
      some ((-1 : Int32), H_items, H_size, R_all, R_filled, P_takenRuns, P_starts, P_merges, P_told)
    else
      bd2 (f_X5_forgetMerged N R_rowsInAll R_made R_all R_filled) fun c5 c6 =>
      bd7 (f_X3_tell N H_items H_size R_starts R_made c5 P_takenRuns P_starts P_merges P_told v1) fun r8 c9 c10 c11 c12 c13 c14 =>
      some (r8, c9, c10, c5, c6, c11, c12, c13, c14)
def l_X3_movedByQueue_2 (N : Nat) (R_starts : (Nat → Int32)) (R_made : Int32) (R_all : Int32) : Nat → Int32 → (Nat → Int32) → Option ((Nat → Int32))
  | 0, _, _ => none
  | n + 1, v3, P_queued =>
    if R_made ≤ v3 then
      some (P_queued)
    else
      bd1 (f_X5_sizeOf N R_starts R_all v3) fun r2 =>
      gd (ix v3 799) <|
      nl (v3 + 1) fun x5 =>
      l_X3_movedByQueue_2 N R_starts R_made R_all n x5 (upd P_queued v3.toNatClampNeg r2)
def l_X3_movedByQueue_89 (N : Nat) (P_queued : (Nat → Int32)) (v6 : Int32) (v8 : Int32) : Nat → Int32 → Int32 → Option (Int32 × Int32)
  | 0, _, _ => none
  | n + 1, v4, v7 =>
    if v8 ≤ v4 then
      some (v4, v7)
    else
      if v6 ≤ v4 then
        some (v4, v7)
      else
        gd (ix v4 799) <|
        nl (v7 + (P_queued v4.toNatClampNeg)) fun x18 =>
        nl (v4 + 1) fun x19 =>
        l_X3_movedByQueue_89 N P_queued v6 v8 n x19 x18
def l_X3_movedByQueue_59 (N : Nat) (R_made : Int32) (v2 : Int32) (v5 : Int32) : Nat → Int32 → Int32 → Int32 → (Nat → Int32) → Option (Int32 × (Nat → Int32))
  | 0, _, _, _, _ => none
  | n + 1, v3, v4, v6, P_queued =>
    if v5 ≤ v6 then
      some (v3, P_queued)
    else
      bd1 (f_X3_waysOf N (v6 - R_made) R_made v2) fun r12 =>
      nl (v4 + r12) fun x14 =>
      bd2 (l_X3_movedByQueue_89 N P_queued v6 x14 N v4 (0 : Int32)) fun e20 e21 =>
      gd (ix v6 799) <|
      nl (v3 + e21) fun x24 =>
      nl (v6 + 1) fun x25 =>
      l_X3_movedByQueue_59 N R_made v2 v5 n x24 e20 x25 (upd P_queued v6.toNatClampNeg e21)
def f_X3_movedByQueue (N : Nat) (R_starts : (Nat → Int32)) (R_made : Int32) (R_all : Int32) (P_queued : (Nat → Int32)) (v2 : Int32) : Option (Int32 × (Nat → Int32)) :=
  bd1 (l_X3_movedByQueue_2 N R_starts R_made R_all N (0 : Int32) P_queued) fun e6 =>
  bd1 (f_X3_mergesOf N R_made v2) fun r8 =>
  nl (if (799 : Int32) < (R_made + r8) then (799 : Int32) else (R_made + r8)) fun x10 =>
  bd2 (l_X3_movedByQueue_59 N R_made v2 x10 N (0 : Int32) (0 : Int32) R_made e6) fun e26 e27 =>
  some (e26, e27)
def f_X6_queue (N : Nat) (R_starts : (Nat → Int32)) (R_made : Int32) (R_all : Int32) (P_queued : (Nat → Int32)) (v1 : Int32) : Option (Int32 × (Nat → Int32)) :=
  if R_made = 0 then
    some ((-1 : Int32), P_queued)
  else
    bd1 (f_X6_isIn N v1 (2 : Int32) (8 : Int32)) fun r2 =>
    if r2 = 0 then
      some ((-1 : Int32), P_queued)
    else
      bd2 (f_X3_movedByQueue N R_starts R_made R_all P_queued v1) fun r5 c6 =>
      some (r5, c6)
def f_X6_merges (N : Nat) (P_merges : Int32)  : Option (Int32) :=
  some (P_merges)
def f_X3_waysIn (N : Nat) (P_starts : (Nat → Int32)) (P_merges : Int32) (v1 : Int32) : Option (Int32) :=
  bd1 (f_X6_isIn N v1 (0 : Int32) (P_merges - 1)) fun r1 =>
  if r1 = 0 then
    some ((0 : Int32))
  else
    gd (ix (v1 + 1) 401) <|
    gd (ix v1 401) <|
    some (((P_starts (v1 + 1).toNatClampNeg) - (P_starts v1.toNatClampNeg)))
def f_X3_taken (N : Nat) (P_takenRuns : (Nat → Int32)) (P_starts : (Nat → Int32)) (P_merges : Int32) (v1 : Int32) (v2 : Int32) : Option (Int32) :=
  bd1 (f_X3_waysIn N P_starts P_merges v1) fun r1 =>
  bd1 (f_X6_isIn N v2 (0 : Int32) (r1 - 1)) fun r3 =>
  if r3 = 0 then
    some ((-1 : Int32))
  else
    gd (ix v1 401) <|
    gd (ix ((P_starts v1.toNatClampNeg) + v2) 800) <|
    some ((P_takenRuns ((P_starts v1.toNatClampNeg) + v2).toNatClampNeg))
def f_X6_takes (N : Nat) (P_takenRuns : (Nat → Int32)) (P_starts : (Nat → Int32)) (P_merges : Int32) (v1 : Int32) (v2 : Int32) : Option (Int32) :=
  bd1 (f_X3_taken N P_takenRuns P_starts P_merges v1 v2) fun r1 =>
  some (r1)
def f_X5_standingOf (N : Nat) (R_standing : (Nat → Int32)) (R_rowsInAll : Int32) (v1 : Int32) : Option (Int32) :=
  bd1 (f_X6_isIn N v1 (0 : Int32) (R_rowsInAll - 1)) fun r1 =>
  if r1 = 0 then
    some ((-1 : Int32))
  else
    gd (ix v1 400) <|
    some ((R_standing v1.toNatClampNeg))
def l_X5_takeFirst_10 (N : Nat) (R_members : (Nat → Int32)) (R_standing : (Nat → Int32)) (R_heads : (Nat → Int32)) (R_tails : (Nat → Int32)) (R_rowsInAll : Int32) (v1 : Int32) : Nat → Int32 → Int32 → Int32 → Int32 → Option (Int32 × Int32 × Int32)
  | 0, _, _, _, _ => none
  | n + 1, v2, v3, v4, v5 =>
    if v1 ≤ v5 then
      some (v2, v3, v4)
    else
      gd (ix v5 8) <|
      gd (ix v5 8) <|
      if (R_heads v5.toNatClampNeg) < (R_tails v5.toNatClampNeg) then
        nl (v2 + 1) fun x5 =>
        gd (ix v5 8) <|
        gd (ix (R_heads v5.toNatClampNeg) 4000) <|
        nl (R_members (R_heads v5.toNatClampNeg).toNatClampNeg) fun x8 =>
        if v4 = (-1 : Int32) then
          nl (v5 + 1) fun x10 =>
          l_X5_takeFirst_10 N R_members R_standing R_heads R_tails R_rowsInAll v1 n x5 v5 x8 x10
        else
          bd1 (f_X5_standingOf N R_standing R_rowsInAll x8) fun r11 =>
          bd1 (f_X5_standingOf N R_standing R_rowsInAll v4) fun r13 =>
          if r13 ≤ r11 then
            nl (v5 + 1) fun x16 =>
            l_X5_takeFirst_10 N R_members R_standing R_heads R_tails R_rowsInAll v1 n x5 v3 v4 x16
          else
            nl (v5 + 1) fun x17 =>
            l_X5_takeFirst_10 N R_members R_standing R_heads R_tails R_rowsInAll v1 n x5 v5 x8 x17
      else
        nl (v5 + 1) fun x18 =>
        l_X5_takeFirst_10 N R_members R_standing R_heads R_tails R_rowsInAll v1 n v2 v3 v4 x18
def f_X5_takeFirst (N : Nat) (R_members : (Nat → Int32)) (R_starts : (Nat → Int32)) (R_standing : (Nat → Int32)) (R_heads : (Nat → Int32)) (R_tails : (Nat → Int32)) (R_rowsInAll : Int32) (R_all : Int32) (R_filled : Int32) (v1 : Int32) : Option (Int32 × (Nat → Int32) × (Nat → Int32) × (Nat → Int32) × Int32) :=
  bd3 (l_X5_takeFirst_10 N R_members R_standing R_heads R_tails R_rowsInAll v1 N (0 : Int32) (0 : Int32) (-1 : Int32) (0 : Int32)) fun e19 e20 e21 =>
  if e19 = 0 then
    some ((0 : Int32), R_members, R_starts, R_heads, R_filled)
  else
    gd (ix e20 8) <|
    nl ((R_heads e20.toNatClampNeg) + 1) fun x25 =>
    gd (ix e20 8) <|
    bd3 (f_X5_append N R_members R_starts R_all R_filled e21) fun c27 c28 c29 =>
    some ((e19 - 1), c27, c28, (upd R_heads e20.toNatClampNeg x25), c29)
def l_X5_mergeThose_17 (N : Nat) (R_starts : (Nat → Int32)) (R_all : Int32) (P_takenRuns : (Nat → Int32)) (P_starts : (Nat → Int32)) (P_merges : Int32) (v2 : Int32) (v3 : Int32) : Nat → Int32 → Int32 → (Nat → Int32) → (Nat → Int32) → Option (Int32 × (Nat → Int32) × (Nat → Int32))
  | 0, _, _, _, _ => none
  | n + 1, v4, v5, R_heads, R_tails =>
    if v3 ≤ v5 then
      some (v4, R_heads, R_tails)
    else
      bd1 (f_X3_taken N P_takenRuns P_starts P_merges v2 v5) fun r5 =>
      bd1 (f_X5_has N R_all r5) fun r7 =>
      bd1 (if r7 = 0 then
          some ((0 : Int32))
        else
          gd (ix r5 800) <|
          some ((R_starts r5.toNatClampNeg)))
        fun y9 =>
      gd (ix v5 8) <|
      gd (ix v5 8) <|
      bd1 (f_X5_sizeOf N R_starts R_all r5) fun r13 =>
      nl (((upd R_heads v5.toNatClampNeg y9) v5.toNatClampNeg) + r13) fun x15 =>
      gd (ix v5 8) <|
      bd1 (f_X5_sizeOf N R_starts R_all r5) fun r17 =>
      nl (v4 + r17) fun x19 =>
      nl (v5 + 1) fun x20 =>
      l_X5_mergeThose_17 N R_starts R_all P_takenRuns P_starts P_merges v2 v3 n x19 x20 (upd R_heads v5.toNatClampNeg y9) (upd R_tails v5.toNatClampNeg x15)
def l_X5_mergeThose_107 (N : Nat) (R_standing : (Nat → Int32)) (R_tails : (Nat → Int32)) (R_rowsInAll : Int32) (R_all : Int32) (v3 : Int32) (v4 : Int32) : Nat → Int32 → Int32 → (Nat → Int32) → (Nat → Int32) → (Nat → Int32) → Int32 → Option (Int32 × (Nat → Int32) × (Nat → Int32) × (Nat → Int32) × Int32)
  | 0, _, _, _, _, _, _ => none
  | n + 1, v5, v6, R_members, R_starts, R_heads, R_filled =>
    if v4 ≤ v6 then
      some (v5, R_members, R_starts, R_heads, R_filled)
    else
      bd5 (f_X5_takeFirst N R_members R_starts R_standing R_heads R_tails R_rowsInAll R_all R_filled v3) fun r31 c32 c33 c34 c35 =>
      nl (v5 + r31) fun x37 =>
      nl (v6 + 1) fun x38 =>
      l_X5_mergeThose_107 N R_standing R_tails R_rowsInAll R_all v3 v4 n x37 x38 c32 c33 c34 c35
def f_X5_mergeThose (N : Nat) (R_members : (Nat → Int32)) (R_starts : (Nat → Int32)) (R_standing : (Nat → Int32)) (R_heads : (Nat → Int32)) (R_tails : (Nat → Int32)) (R_rowsInAll : Int32) (R_all : Int32) (R_filled : Int32) (P_takenRuns : (Nat → Int32)) (P_starts : (Nat → Int32)) (P_merges : Int32) (v2 : Int32) : Option (Int32 × (Nat → Int32) × (Nat → Int32) × (Nat → Int32) × (Nat → Int32) × Int32 × Int32) :=
  bd1 (f_X3_waysIn N P_starts P_merges v2) fun r1 =>
  nl (if (8 : Int32) < r1 then (8 : Int32) else r1) fun x3 =>
  bd3 (l_X5_mergeThose_17 N R_starts R_all P_takenRuns P_starts P_merges v2 x3 N (0 : Int32) (0 : Int32) R_heads R_tails) fun e23 e24 e25 =>
  bd2 (f_X5_begin N R_starts R_all R_filled) fun c27 c28 =>
  bd5 (l_X5_mergeThose_107 N R_standing e25 R_rowsInAll c28 x3 e23 N (0 : Int32) (0 : Int32) R_members c27 e24 R_filled) fun e39 e40 e41 e42 e43 =>
  some (e39, e40, e41, e42, e25, c28, e43)
def l_X6_merge_23 (N : Nat) (R_standing : (Nat → Int32)) (R_rowsInAll : Int32) (P_takenRuns : (Nat → Int32)) (P_starts : (Nat → Int32)) (P_merges : Int32) : Nat → Int32 → Int32 → (Nat → Int32) → (Nat → Int32) → (Nat → Int32) → (Nat → Int32) → Int32 → Int32 → Option (Int32 × (Nat → Int32) × (Nat → Int32) × (Nat → Int32) × (Nat → Int32) × Int32 × Int32)
  | 0, _, _, _, _, _, _, _, _ => none
  | n + 1, v1, v2, R_members, R_starts, R_heads, R_tails, R_all, R_filled =>
    if P_merges ≤ v2 then
      some (v1, R_members, R_starts, R_heads, R_tails, R_all, R_filled)
    else
      bd7 (f_X5_mergeThose N R_members R_starts R_standing R_heads R_tails R_rowsInAll R_all R_filled P_takenRuns P_starts P_merges v2) fun r6 c7 c8 c9 c10 c11 c12 =>
      nl (v1 + r6) fun x14 =>
      nl (v2 + 1) fun x15 =>
      l_X6_merge_23 N R_standing R_rowsInAll P_takenRuns P_starts P_merges n x14 x15 c7 c8 c9 c10 c11 c12
def f_X6_merge (N : Nat) (R_members : (Nat → Int32)) (R_starts : (Nat → Int32)) (R_standing : (Nat → Int32)) (R_heads : (Nat → Int32)) (R_tails : (Nat → Int32)) (R_rowsInAll : Int32) (R_made : Int32) (R_all : Int32) (R_filled : Int32) (P_takenRuns : (Nat → Int32)) (P_starts : (Nat → Int32)) (P_merges : Int32) (P_told : Int32)  : Option (Int32 × (Nat → Int32) × (Nat → Int32) × (Nat → Int32) × (Nat → Int32) × Int32 × Int32) :=
  if P_told = 0 then
    some ((-1 : Int32), R_members, R_starts, R_heads, R_tails, R_all, R_filled)
  else
    bd2 (f_X5_forgetMerged N R_rowsInAll R_made R_all R_filled) fun c2 c3 =>
    bd7 (l_X6_merge_23 N R_standing R_rowsInAll P_takenRuns P_starts P_merges N (0 : Int32) (0 : Int32) R_members R_starts R_heads R_tails c2 c3) fun e16 e17 e18 e19 e20 e21 e22 =>
    some (e16, e17, e18, e19, e20, e21, e22)
def l_X0_takeSamples_2 (N : Nat)  : Nat → Int32 → (Nat → Int32) → Option ((Nat → Int32))
  | 0, _, _ => none
  | n + 1, v3, C_sampled =>
    if (400 : Int32) ≤ v3 then
      some (C_sampled)
    else
      gd (ix v3 400) <|
      nl (v3 + 1) fun x3 =>
      l_X0_takeSamples_2 N n x3 (upd C_sampled v3.toNatClampNeg (vp_nar .boolean 0))
def l_X0_takeSamples_44 (N : Nat) (R_members : (Nat → Int32)) (R_starts : (Nat → Int32)) (R_standing : (Nat → Int32)) (R_rowsInAll : Int32) (R_all : Int32) (v2 : Int32) (v3 : Int32) (v4 : Int32) : Nat → Int32 → (Nat → Int32) → Option ((Nat → Int32))
  | 0, _, _ => none
  | n + 1, v5, C_sampled =>
    if v4 ≤ v5 then
      some (C_sampled)
    else
      bd1 (f_X5_rowIn N R_members R_starts R_all v3 v5) fun r11 =>
      bd1 (f_X5_standingOf N R_standing R_rowsInAll r11) fun r13 =>
      if r13 = (-1 : Int32) then
        nl (v5 + v2) fun x16 =>
        l_X0_takeSamples_44 N R_members R_starts R_standing R_rowsInAll R_all v2 v3 v4 n x16 C_sampled
      else
        gd (ix r13 400) <|
        nl (v5 + v2) fun x18 =>
        l_X0_takeSamples_44 N R_members R_starts R_standing R_rowsInAll R_all v2 v3 v4 n x18 (upd C_sampled r13.toNatClampNeg (vp_nar .boolean 1))
def l_X0_takeSamples_24 (N : Nat) (R_members : (Nat → Int32)) (R_starts : (Nat → Int32)) (R_standing : (Nat → Int32)) (R_rowsInAll : Int32) (R_made : Int32) (R_all : Int32) (v2 : Int32) : Nat → Int32 → (Nat → Int32) → Option ((Nat → Int32))
  | 0, _, _ => none
  | n + 1, v3, C_sampled =>
    if R_made ≤ v3 then
      some (C_sampled)
    else
      bd1 (f_X5_sizeOf N R_starts R_all v3) fun r7 =>
      nl (v2 - 1) fun x9 =>
      bd1 (l_X0_takeSamples_44 N R_members R_starts R_standing R_rowsInAll R_all v2 v3 r7 N x9 C_sampled) fun e19 =>
      nl (v3 + 1) fun x21 =>
      l_X0_takeSamples_24 N R_members R_starts R_standing R_rowsInAll R_made R_all v2 n x21 e19
def l_X0_takeSamples_95 (N : Nat) (C_sampled : (Nat → Int32)) : Nat → Int32 → (Nat → Int32) → Int32 → Option ((Nat → Int32) × Int32)
  | 0, _, _, _ => none
  | n + 1, v3, C_sampleStandings, C_samples =>
    if (400 : Int32) ≤ v3 then
      some (C_sampleStandings, C_samples)
    else
      gd (ix v3 400) <|
      if (C_sampled v3.toNatClampNeg) = 0 then
        nl (v3 + 1) fun x27 =>
        l_X0_takeSamples_95 N C_sampled n x27 C_sampleStandings C_samples
      else
        gd (ix C_samples 400) <|
        nl (C_samples + 1) fun x29 =>
        nl (v3 + 1) fun x30 =>
        l_X0_takeSamples_95 N C_sampled n x30 (upd C_sampleStandings C_samples.toNatClampNeg v3) x29
def f_X0_takeSamples (N : Nat) (R_members : (Nat → Int32)) (R_starts : (Nat → Int32)) (R_standing : (Nat → Int32)) (R_rowsInAll : Int32) (R_made : Int32) (R_all : Int32) (C_sampled : (Nat → Int32)) (C_sampleStandings : (Nat → Int32)) (C_samples : Int32) (v2 : Int32) : Option ((Nat → Int32) × (Nat → Int32) × Int32) :=
  bd1 (l_X0_takeSamples_2 N N (0 : Int32) C_sampled) fun e4 =>
  bd1 (l_X0_takeSamples_24 N R_members R_starts R_standing R_rowsInAll R_made R_all v2 N (0 : Int32) e4) fun e22 =>
  bd2 (l_X0_takeSamples_95 N e22 N (0 : Int32) C_sampleStandings C_samples) fun e31 e32 =>
  some (e22, e31, e32)
def f_X0_lastStanding (N : Nat) (C_sampleStandings : (Nat → Int32)) (C_samples : Int32) (v1 : Int32) : Option (Int32) :=
  bd1 (f_X6_isIn N v1 (0 : Int32) (C_samples - 1)) fun r1 =>
  if r1 = 0 then
    some ((-1 : Int32))
  else
    gd (ix v1 400) <|
    some ((C_sampleStandings v1.toNatClampNeg))
def f_X5_rowInOrder (N : Nat) (R_inOrder : (Nat → Int32)) (R_rowsInAll : Int32) (v1 : Int32) : Option (Int32) :=
  bd1 (f_X6_isIn N v1 (0 : Int32) (R_rowsInAll - 1)) fun r1 =>
  if r1 = 0 then
    some ((-1 : Int32))
  else
    gd (ix v1 400) <|
    some ((R_inOrder v1.toNatClampNeg))
def f_X0_beginAnew (N : Nat) (C_merged : (Nat → Int32)) (C_done : (Nat → Int32)) (v1 : Int32) : Option ((Nat → Int32) × (Nat → Int32)) :=
  gd (ix v1 8) <|
  gd (ix v1 8) <|
  some ((upd C_merged v1.toNatClampNeg 0), (upd C_done v1.toNatClampNeg (vp_nar .boolean 0)))
def l_X0_makeOf_63 (N : Nat) (R_inOrder : (Nat → Int32)) (R_rowsInAll : Int32) (C_sampleStandings : (Nat → Int32)) (C_samples : Int32) (v2 : Int32) : Nat → Int32 → Int32 → (Nat → Int32) → (Nat → Int32) → (Nat → Int32) → (Nat → Int32) → (Nat → Int32) → Option ((Nat → Int32) × (Nat → Int32) × (Nat → Int32) × (Nat → Int32) × (Nat → Int32))
  | 0, _, _, _, _, _, _, _ => none
  | n + 1, v4, v5, C_sizes, C_ends, C_merged, C_reached, C_done =>
    if v2 ≤ v5 then
      some (C_sizes, C_ends, C_merged, C_reached, C_done)
    else
      bd1 (if v5 = (v2 - 1) then
          some ((R_rowsInAll - 1))
        else
          gd (nz v2) <|
          bd1 (f_X0_lastStanding N C_sampleStandings C_samples ((((v5 + 1) * C_samples) / v2) - 1)) fun r37 =>
          some (r37))
        fun y19 =>
      bd1 (if v5 = (v2 - 1) then
          some ((-1 : Int32))
        else
          bd1 (f_X5_rowInOrder N R_inOrder R_rowsInAll y19) fun r33 =>
          some (r33))
        fun y21 =>
      gd (ix v5 8) <|
      nl ((y19 + 1) - v4) fun x24 =>
      gd (ix v5 8) <|
      nl (y19 + 1) fun x26 =>
      gd (ix v5 8) <|
      bd2 (f_X0_beginAnew N C_merged C_done v5) fun c28 c29 =>
      nl (v5 + 1) fun x31 =>
      l_X0_makeOf_63 N R_inOrder R_rowsInAll C_sampleStandings C_samples v2 n x26 x31 (upd C_sizes v5.toNatClampNeg x24) (upd C_ends v5.toNatClampNeg y21) c28 (upd C_reached v5.toNatClampNeg 0) c29
def f_X0_makeOf (N : Nat) (R_members : (Nat → Int32)) (R_starts : (Nat → Int32)) (R_inOrder : (Nat → Int32)) (R_standing : (Nat → Int32)) (R_rowsInAll : Int32) (R_made : Int32) (R_all : Int32) (C_sampled : (Nat → Int32)) (C_sampleStandings : (Nat → Int32)) (C_sizes : (Nat → Int32)) (C_ends : (Nat → Int32)) (C_merged : (Nat → Int32)) (C_reached : (Nat → Int32)) (C_done : (Nat → Int32)) (C_mergedBy : (Nat → Int32)) (C_parts : Int32) (C_samples : Int32) (C_bound : Int32) (C_ticks : Int32) (C_mergedInAll : Int32) (C_mergedAgain : Int32) (v2 : Int32) (v3 : Int32) : Option ((Nat → Int32) × (Nat → Int32) × (Nat → Int32) × (Nat → Int32) × (Nat → Int32) × (Nat → Int32) × (Nat → Int32) × (Nat → Int32) × Int32 × Int32 × Int32 × Int32 × Int32 × Int32) :=
  bd7 (f_X0_forget N C_mergedBy C_parts C_samples C_bound C_ticks C_mergedInAll C_mergedAgain) fun c1 c2 c3 c4 c5 c6 c7 =>
  if v2 < (1 : Int32) then
    some (C_sampled, C_sampleStandings, C_sizes, C_ends, C_merged, C_reached, C_done, c1, c2, c3, c4, c5, c6, c7)
  else
    if (8 : Int32) < v2 then
      some (C_sampled, C_sampleStandings, C_sizes, C_ends, C_merged, C_reached, C_done, c1, c2, c3, c4, c5, c6, c7)
    else
      if (1 : Int32) ≤ v3 then
        bd3 (f_X0_takeSamples N R_members R_starts R_standing R_rowsInAll R_made R_all C_sampled C_sampleStandings c3 v3) fun c12 c13 c14 =>
        gd (nz v2) <|
        nl ((v3 * (((c14 + v2) - 1) / v2)) + ((v3 - 1) * R_made)) fun x17 =>
        bd5 (l_X0_makeOf_63 N R_inOrder R_rowsInAll c13 c14 v2 N (0 : Int32) (0 : Int32) C_sizes C_ends C_merged C_reached C_done) fun e39 e40 e41 e42 e43 =>
        some (c12, c13, e39, e40, e41, e42, e43, c1, v2, c14, x17, c5, c6, c7)
      else
        some (C_sampled, C_sampleStandings, C_sizes, C_ends, C_merged, C_reached, C_done, c1, c2, c3, c4, c5, c6, c7)
def l_X0_leftOn_4 (N : Nat) (C_sizes : (Nat → Int32)) (C_lies : (Nat → Int32)) (C_merged : (Nat → Int32)) (C_parts : Int32) (v1 : Int32) : Nat → Int32 → Int32 → Option (Int32)
  | 0, _, _ => none
  | n + 1, v2, v3 =>
    if C_parts ≤ v3 then
      some (v2)
    else
      gd (ix v3 8) <|
      if (C_lies v3.toNatClampNeg) = v1 then
        gd (ix v3 8) <|
        gd (ix v3 8) <|
        nl (v2 + ((C_sizes v3.toNatClampNeg) - (C_merged v3.toNatClampNeg))) fun x7 =>
        nl (v3 + 1) fun x8 =>
        l_X0_leftOn_4 N C_sizes C_lies C_merged C_parts v1 n x7 x8
      else
        nl (v3 + 1) fun x4 =>
        l_X0_leftOn_4 N C_sizes C_lies C_merged C_parts v1 n v2 x4
def f_X0_leftOn (N : Nat) (C_sizes : (Nat → Int32)) (C_lies : (Nat → Int32)) (C_merged : (Nat → Int32)) (C_parts : Int32) (v1 : Int32) : Option (Int32) :=
  bd1 (l_X0_leftOn_4 N C_sizes C_lies C_merged C_parts v1 N (0 : Int32) (0 : Int32)) fun e9 =>
  some (e9)
def l_X0_leastLaden_7 (N : Nat) (C_sizes : (Nat → Int32)) (C_lies : (Nat → Int32)) (C_merged : (Nat → Int32)) (C_parts : Int32) (O_up : (Nat → Int32)) : Nat → Int32 → Int32 → Int32 → Option (Int32)
  | 0, _, _, _ => none
  | n + 1, v2, v3, v4 =>
    if (8 : Int32) ≤ v4 then
      some (v2)
    else
      gd (ix v4 8) <|
      if (O_up v4.toNatClampNeg) = 0 then
        nl (v4 + 1) fun x11 =>
        l_X0_leastLaden_7 N C_sizes C_lies C_merged C_parts O_up n v2 v3 x11
      else
        bd1 (f_X0_leftOn N C_sizes C_lies C_merged C_parts v4) fun r4 =>
        if v2 = (-1 : Int32) then
          nl (v4 + 1) fun x7 =>
          l_X0_leastLaden_7 N C_sizes C_lies C_merged C_parts O_up n v4 r4 x7
        else
          if v3 ≤ r4 then
            nl (v4 + 1) fun x9 =>
            l_X0_leastLaden_7 N C_sizes C_lies C_merged C_parts O_up n v2 v3 x9
          else
            nl (v4 + 1) fun x10 =>
            l_X0_leastLaden_7 N C_sizes C_lies C_merged C_parts O_up n v4 r4 x10
def f_X0_leastLaden (N : Nat) (C_sizes : (Nat → Int32)) (C_lies : (Nat → Int32)) (C_merged : (Nat → Int32)) (C_parts : Int32) (O_up : (Nat → Int32))  : Option (Int32) :=
  bd1 (l_X0_leastLaden_7 N C_sizes C_lies C_merged C_parts O_up N (-1 : Int32) (0 : Int32) (0 : Int32)) fun e12 =>
  some (e12)
def l_X0_moveFrom_5 (N : Nat) (C_sizes : (Nat → Int32)) (C_parts : Int32) (O_up : (Nat → Int32)) (v1 : Int32) : Nat → Int32 → Int32 → (Nat → Int32) → (Nat → Int32) → (Nat → Int32) → Option (Int32 × (Nat → Int32) × (Nat → Int32) × (Nat → Int32))
  | 0, _, _, _, _, _ => none
  | n + 1, v3, v4, C_lies, C_merged, C_done =>
    if C_parts ≤ v4 then
      some (v3, C_lies, C_merged, C_done)
    else
      gd (ix v4 8) <|
      if (C_lies v4.toNatClampNeg) = v1 then
        bd2 (f_X0_beginAnew N C_merged C_done v4) fun c5 c6 =>
        bd1 (f_X0_leastLaden N C_sizes C_lies c5 C_parts O_up) fun r8 =>
        gd (ix v4 8) <|
        nl (v3 + 1) fun x11 =>
        nl (v4 + 1) fun x12 =>
        l_X0_moveFrom_5 N C_sizes C_parts O_up v1 n x11 x12 (upd C_lies v4.toNatClampNeg r8) c5 c6
      else
        nl (v4 + 1) fun x4 =>
        l_X0_moveFrom_5 N C_sizes C_parts O_up v1 n v3 x4 C_lies C_merged C_done
def f_X0_moveFrom (N : Nat) (C_sizes : (Nat → Int32)) (C_lies : (Nat → Int32)) (C_merged : (Nat → Int32)) (C_done : (Nat → Int32)) (C_parts : Int32) (O_up : (Nat → Int32)) (v1 : Int32) : Option (Int32 × (Nat → Int32) × (Nat → Int32) × (Nat → Int32)) :=
  bd4 (l_X0_moveFrom_5 N C_sizes C_parts O_up v1 N (0 : Int32) (0 : Int32) C_lies C_merged C_done) fun e13 e14 e15 e16 =>
  some (e13, e14, e15, e16)
def l_X0_layOn_2 (N : Nat) (C_parts : Int32) : Nat → Int32 → (Nat → Int32) → Option ((Nat → Int32))
  | 0, _, _ => none
  | n + 1, v2, C_lies =>
    if C_parts ≤ v2 then
      some (C_lies)
    else
      gd (ix v2 8) <|
      nl (v2 + 1) fun x3 =>
      l_X0_layOn_2 N C_parts n x3 (upd C_lies v2.toNatClampNeg v2)
def l_X0_layOn_25 (N : Nat) (C_sizes : (Nat → Int32)) (C_parts : Int32) (O_up : (Nat → Int32)) : Nat → Int32 → (Nat → Int32) → (Nat → Int32) → (Nat → Int32) → Option ((Nat → Int32) × (Nat → Int32) × (Nat → Int32))
  | 0, _, _, _, _ => none
  | n + 1, v2, C_lies, C_merged, C_done =>
    if (8 : Int32) ≤ v2 then
      some (C_lies, C_merged, C_done)
    else
      gd (ix v2 8) <|
      if (O_up v2.toNatClampNeg) = 0 then
        bd4 (f_X0_moveFrom N C_sizes C_lies C_merged C_done C_parts O_up v2) fun r10 c11 c12 c13 =>
        nl (v2 + 1) fun x15 =>
        l_X0_layOn_25 N C_sizes C_parts O_up n x15 c11 c12 c13
      else
        nl (v2 + 1) fun x9 =>
        l_X0_layOn_25 N C_sizes C_parts O_up n x9 C_lies C_merged C_done
def f_X0_layOn (N : Nat) (C_sizes : (Nat → Int32)) (C_lies : (Nat → Int32)) (C_merged : (Nat → Int32)) (C_done : (Nat → Int32)) (C_parts : Int32) (O_up : (Nat → Int32))  : Option ((Nat → Int32) × (Nat → Int32) × (Nat → Int32)) :=
  bd1 (l_X0_layOn_2 N C_parts N (0 : Int32) C_lies) fun e4 =>
  bd3 (l_X0_layOn_25 N C_sizes C_parts O_up N (0 : Int32) e4 C_merged C_done) fun e16 e17 e18 =>
  some (e16, e17, e18)
def f_X6_cut (N : Nat) (R_members : (Nat → Int32)) (R_starts : (Nat → Int32)) (R_inOrder : (Nat → Int32)) (R_standing : (Nat → Int32)) (R_rowsInAll : Int32) (R_made : Int32) (R_all : Int32) (C_sampled : (Nat → Int32)) (C_sampleStandings : (Nat → Int32)) (C_sizes : (Nat → Int32)) (C_ends : (Nat → Int32)) (C_lies : (Nat → Int32)) (C_merged : (Nat → Int32)) (C_reached : (Nat → Int32)) (C_done : (Nat → Int32)) (C_mergedBy : (Nat → Int32)) (C_parts : Int32) (C_samples : Int32) (C_bound : Int32) (C_ticks : Int32) (C_mergedInAll : Int32) (C_mergedAgain : Int32) (O_up : (Nat → Int32)) (v1 : Int32) (v2 : Int32) : Option (Int32 × (Nat → Int32) × (Nat → Int32) × (Nat → Int32) × (Nat → Int32) × (Nat → Int32) × (Nat → Int32) × (Nat → Int32) × (Nat → Int32) × (Nat → Int32) × Int32 × Int32 × Int32 × Int32 × Int32 × Int32) :=
  if R_made = 0 then
    some ((-1 : Int32), C_sampled, C_sampleStandings, C_sizes, C_ends, C_lies, C_merged, C_reached, C_done, C_mergedBy, C_parts, C_samples, C_bound, C_ticks, C_mergedInAll, C_mergedAgain)
  else
    bd1 (f_X6_isIn N v1 (1 : Int32) (8 : Int32)) fun r2 =>
    if r2 = 0 then
      some ((-1 : Int32), C_sampled, C_sampleStandings, C_sizes, C_ends, C_lies, C_merged, C_reached, C_done, C_mergedBy, C_parts, C_samples, C_bound, C_ticks, C_mergedInAll, C_mergedAgain)
    else
      bd1 (f_X6_isIn N v2 (1 : Int32) (20 : Int32)) fun r5 =>
      if r5 = 0 then
        some ((-1 : Int32), C_sampled, C_sampleStandings, C_sizes, C_ends, C_lies, C_merged, C_reached, C_done, C_mergedBy, C_parts, C_samples, C_bound, C_ticks, C_mergedInAll, C_mergedAgain)
      else
        bd14 (f_X0_makeOf N R_members R_starts R_inOrder R_standing R_rowsInAll R_made R_all C_sampled C_sampleStandings C_sizes C_ends C_merged C_reached C_done C_mergedBy C_parts C_samples C_bound C_ticks C_mergedInAll C_mergedAgain v1 v2) fun c8 c9 c10 c11 c12 c13 c14 c15 c16 c17 c18 c19 c20 c21 =>
        bd3 (f_X0_layOn N c10 C_lies c12 c14 c16 O_up) fun c23 c24 c25 =>
        some (c17, c8, c9, c10, c11, c23, c24, c13, c25, c15, c16, c17, c18, c19, c20, c21)
def f_X0_stands (N : Nat) (C_parts : Int32)  : Option (Int32) :=
  if C_parts ≤ 0 then
    gd (bz (0 : Int32)) <|
    some ((0 : Int32))
  else
    gd (bz (1 : Int32)) <|
    some ((1 : Int32))
def f_X6_bound (N : Nat) (C_parts : Int32) (C_bound : Int32)  : Option (Int32) :=
  bd1 (f_X0_stands N C_parts) fun r1 =>
  if r1 = 0 then
    some ((-1 : Int32))
  else
    some (C_bound)
def f_X6_part (N : Nat) (C_sizes : (Nat → Int32)) (C_ends : (Nat → Int32)) (C_lies : (Nat → Int32)) (C_merged : (Nat → Int32)) (C_parts : Int32) (v1 : Int32) (v2 : Int32) : Option (Int32) :=
  bd1 (f_X6_isIn N v1 (0 : Int32) (C_parts - 1)) fun r1 =>
  if r1 = 0 then
    some ((-2 : Int32))
  else
    if v2 = 0 then
      gd (ix v1 8) <|
      some ((C_sizes v1.toNatClampNeg))
    else
      if v2 = 1 then
        gd (ix v1 8) <|
        some ((C_merged v1.toNatClampNeg))
      else
        if v2 = 2 then
          gd (ix v1 8) <|
          some ((C_lies v1.toNatClampNeg))
        else
          if v2 = 3 then
            gd (ix v1 8) <|
            some ((C_ends v1.toNatClampNeg))
          else
            some ((-2 : Int32))
def f_X6_isHost (N : Nat)  (v0 : Int32) : Option (Int32) :=
  bd1 (f_X6_isIn N v0 (0 : Int32) (7 : Int32)) fun r1 =>
  gd (bz r1) <|
  some (r1)
def f_X6_pace (N : Nat) (O_paces : (Nat → Int32)) (v1 : Int32) (v2 : Int32) : Option (Int32 × (Nat → Int32)) :=
  bd1 (f_X6_isHost N v1) fun r1 =>
  if r1 = 0 then
    gd (bz (0 : Int32)) <|
    some ((0 : Int32), O_paces)
  else
    bd1 (f_X6_isIn N v2 (0 : Int32) (50 : Int32)) fun r5 =>
    if r5 = 0 then
      gd (bz (0 : Int32)) <|
      some ((0 : Int32), O_paces)
    else
      gd (ix v1 8) <|
      gd (bz (1 : Int32)) <|
      some ((1 : Int32), (upd O_paces v1.toNatClampNeg v2))
def f_X6_fall (N : Nat) (C_sizes : (Nat → Int32)) (C_lies : (Nat → Int32)) (C_merged : (Nat → Int32)) (C_done : (Nat → Int32)) (C_parts : Int32) (O_up : (Nat → Int32)) (v1 : Int32) : Option (Int32 × (Nat → Int32) × (Nat → Int32) × (Nat → Int32) × (Nat → Int32)) :=
  bd1 (f_X6_isHost N v1) fun r1 =>
  if r1 = 0 then
    some ((-1 : Int32), C_lies, C_merged, C_done, O_up)
  else
    gd (ix v1 8) <|
    if (O_up v1.toNatClampNeg) = 0 then
      some ((-1 : Int32), C_lies, C_merged, C_done, O_up)
    else
      gd (ix v1 8) <|
      bd4 (f_X0_moveFrom N C_sizes C_lies C_merged C_done C_parts (upd O_up v1.toNatClampNeg (vp_nar .boolean 0)) v1) fun r7 c8 c9 c10 =>
      some (r7, c8, c9, c10, (upd O_up v1.toNatClampNeg (vp_nar .boolean 0)))
def l_X0_bringTo_4 (N : Nat) (C_parts : Int32) (v1 : Int32) : Nat → Int32 → Int32 → (Nat → Int32) → Option (Int32 × (Nat → Int32))
  | 0, _, _, _ => none
  | n + 1, v2, v3, C_lies =>
    if C_parts ≤ v3 then
      some (v2, C_lies)
    else
      gd (ix v3 8) <|
      if (C_lies v3.toNatClampNeg) = (-1 : Int32) then
        gd (ix v3 8) <|
        nl (v2 + 1) fun x6 =>
        nl (v3 + 1) fun x7 =>
        l_X0_bringTo_4 N C_parts v1 n x6 x7 (upd C_lies v3.toNatClampNeg v1)
      else
        nl (v3 + 1) fun x4 =>
        l_X0_bringTo_4 N C_parts v1 n v2 x4 C_lies
def f_X0_bringTo (N : Nat) (C_lies : (Nat → Int32)) (C_parts : Int32) (v1 : Int32) : Option (Int32 × (Nat → Int32)) :=
  bd2 (l_X0_bringTo_4 N C_parts v1 N (0 : Int32) (0 : Int32) C_lies) fun e8 e9 =>
  some (e8, e9)
def f_X6_rise (N : Nat) (C_lies : (Nat → Int32)) (C_parts : Int32) (O_up : (Nat → Int32)) (v1 : Int32) : Option (Int32 × (Nat → Int32) × (Nat → Int32)) :=
  bd1 (f_X6_isHost N v1) fun r1 =>
  if r1 = 0 then
    some ((-1 : Int32), C_lies, O_up)
  else
    gd (ix v1 8) <|
    if (O_up v1.toNatClampNeg) = 0 then
      gd (ix v1 8) <|
      bd2 (f_X0_bringTo N C_lies C_parts v1) fun r7 c8 =>
      some (r7, c8, (upd O_up v1.toNatClampNeg (vp_nar .boolean 1)))
    else
      some ((-1 : Int32), C_lies, O_up)
def l_X0_partsOn_4 (N : Nat) (C_lies : (Nat → Int32)) (C_parts : Int32) (v1 : Int32) : Nat → Int32 → Int32 → Option (Int32)
  | 0, _, _ => none
  | n + 1, v2, v3 =>
    if C_parts ≤ v3 then
      some (v2)
    else
      gd (ix v3 8) <|
      if (C_lies v3.toNatClampNeg) = v1 then
        nl (v2 + 1) fun x5 =>
        nl (v3 + 1) fun x6 =>
        l_X0_partsOn_4 N C_lies C_parts v1 n x5 x6
      else
        nl (v3 + 1) fun x4 =>
        l_X0_partsOn_4 N C_lies C_parts v1 n v2 x4
def f_X0_partsOn (N : Nat) (C_lies : (Nat → Int32)) (C_parts : Int32) (v1 : Int32) : Option (Int32) :=
  bd1 (l_X0_partsOn_4 N C_lies C_parts v1 N (0 : Int32) (0 : Int32)) fun e7 =>
  some (e7)
def f_X6_host (N : Nat) (C_sizes : (Nat → Int32)) (C_lies : (Nat → Int32)) (C_merged : (Nat → Int32)) (C_mergedBy : (Nat → Int32)) (C_parts : Int32) (O_paces : (Nat → Int32)) (O_up : (Nat → Int32)) (v1 : Int32) (v2 : Int32) : Option (Int32) :=
  bd1 (f_X6_isHost N v1) fun r1 =>
  if r1 = 0 then
    some ((-1 : Int32))
  else
    if v2 = 0 then
      gd (ix v1 8) <|
      some ((O_paces v1.toNatClampNeg))
    else
      if v2 = 1 then
        gd (ix v1 8) <|
        if (O_up v1.toNatClampNeg) = 0 then
          some ((0 : Int32))
        else
          some ((1 : Int32))
      else
        if v2 = 2 then
          bd1 (f_X0_partsOn N C_lies C_parts v1) fun r10 =>
          some (r10)
        else
          if v2 = 3 then
            bd1 (f_X0_leftOn N C_sizes C_lies C_merged C_parts v1) fun r13 =>
            some (r13)
          else
            if v2 = 4 then
              gd (ix v1 8) <|
              some ((C_mergedBy v1.toNatClampNeg))
            else
              some ((-1 : Int32))
def f_X0_mergeSome (N : Nat) (C_merged : (Nat → Int32)) (C_reached : (Nat → Int32)) (C_mergedInAll : Int32) (C_mergedAgain : Int32) (v1 : Int32) (v2 : Int32) : Option ((Nat → Int32) × (Nat → Int32) × Int32 × Int32) :=
  gd (ix v1 8) <|
  gd (ix v1 8) <|
  nl (C_mergedAgain + (if (if (0 : Int32) < ((C_reached v1.toNatClampNeg) - (C_merged v1.toNatClampNeg)) then ((C_reached v1.toNatClampNeg) - (C_merged v1.toNatClampNeg)) else (0 : Int32)) < v2 then (if (0 : Int32) < ((C_reached v1.toNatClampNeg) - (C_merged v1.toNatClampNeg)) then ((C_reached v1.toNatClampNeg) - (C_merged v1.toNatClampNeg)) else (0 : Int32)) else v2)) fun x3 =>
  nl (C_mergedInAll + v2) fun x4 =>
  gd (ix v1 8) <|
  nl ((C_merged v1.toNatClampNeg) + v2) fun x6 =>
  gd (ix v1 8) <|
  gd (ix v1 8) <|
  gd (ix v1 8) <|
  nl (if (C_reached v1.toNatClampNeg) < ((upd C_merged v1.toNatClampNeg x6) v1.toNatClampNeg) then ((upd C_merged v1.toNatClampNeg x6) v1.toNatClampNeg) else (C_reached v1.toNatClampNeg)) fun x10 =>
  gd (ix v1 8) <|
  some ((upd C_merged v1.toNatClampNeg x6), (upd C_reached v1.toNatClampNeg x10), x4, x3)
def l_X0_workAtPartsOf_5 (N : Nat) (C_sizes : (Nat → Int32)) (C_lies : (Nat → Int32)) (C_parts : Int32) (v1 : Int32) : Nat → Int32 → Int32 → (Nat → Int32) → (Nat → Int32) → (Nat → Int32) → (Nat → Int32) → Int32 → Int32 → Option ((Nat → Int32) × (Nat → Int32) × (Nat → Int32) × (Nat → Int32) × Int32 × Int32)
  | 0, _, _, _, _, _, _, _, _ => none
  | n + 1, v3, v4, C_merged, C_reached, C_done, C_mergedBy, C_mergedInAll, C_mergedAgain =>
    if C_parts ≤ v4 then
      some (C_merged, C_reached, C_done, C_mergedBy, C_mergedInAll, C_mergedAgain)
    else
      gd (ix v4 8) <|
      if (C_lies v4.toNatClampNeg) = v1 then
        gd (ix v4 8) <|
        if (C_done v4.toNatClampNeg) = 0 then
          gd (ix v4 8) <|
          gd (ix v4 8) <|
          nl (if ((C_sizes v4.toNatClampNeg) - (C_merged v4.toNatClampNeg)) < v3 then ((C_sizes v4.toNatClampNeg) - (C_merged v4.toNatClampNeg)) else v3) fun x9 =>
          bd4 (f_X0_mergeSome N C_merged C_reached C_mergedInAll C_mergedAgain v4 x9) fun c10 c11 c12 c13 =>
          gd (ix v1 8) <|
          nl ((C_mergedBy v1.toNatClampNeg) + x9) fun x16 =>
          gd (ix v1 8) <|
          nl (v3 - x9) fun x18 =>
          gd (ix v4 8) <|
          gd (ix v4 8) <|
          if (C_sizes v4.toNatClampNeg) ≤ (c10 v4.toNatClampNeg) then
            gd (ix v4 8) <|
            nl (v4 + 1) fun x23 =>
            l_X0_workAtPartsOf_5 N C_sizes C_lies C_parts v1 n x18 x23 c10 c11 (upd C_done v4.toNatClampNeg (vp_nar .boolean 1)) (upd C_mergedBy v1.toNatClampNeg x16) c12 c13
          else
            some (c10, c11, C_done, (upd C_mergedBy v1.toNatClampNeg x16), c12, c13)
        else
          nl (v4 + 1) fun x24 =>
          l_X0_workAtPartsOf_5 N C_sizes C_lies C_parts v1 n v3 x24 C_merged C_reached C_done C_mergedBy C_mergedInAll C_mergedAgain
      else
        nl (v4 + 1) fun x4 =>
        l_X0_workAtPartsOf_5 N C_sizes C_lies C_parts v1 n v3 x4 C_merged C_reached C_done C_mergedBy C_mergedInAll C_mergedAgain
def f_X0_workAtPartsOf (N : Nat) (C_sizes : (Nat → Int32)) (C_lies : (Nat → Int32)) (C_merged : (Nat → Int32)) (C_reached : (Nat → Int32)) (C_done : (Nat → Int32)) (C_mergedBy : (Nat → Int32)) (C_parts : Int32) (C_mergedInAll : Int32) (C_mergedAgain : Int32) (v1 : Int32) (v2 : Int32) : Option ((Nat → Int32) × (Nat → Int32) × (Nat → Int32) × (Nat → Int32) × Int32 × Int32) :=
  bd6 (l_X0_workAtPartsOf_5 N C_sizes C_lies C_parts v1 N v2 (0 : Int32) C_merged C_reached C_done C_mergedBy C_mergedInAll C_mergedAgain) fun e25 e26 e27 e28 e29 e30 =>
  some (e25, e26, e27, e28, e29, e30)
def l_X0_goOn_17 (N : Nat) (C_sizes : (Nat → Int32)) (C_lies : (Nat → Int32)) (C_parts : Int32) (O_paces : (Nat → Int32)) (O_up : (Nat → Int32)) : Nat → Int32 → (Nat → Int32) → (Nat → Int32) → (Nat → Int32) → (Nat → Int32) → Int32 → Int32 → Option ((Nat → Int32) × (Nat → Int32) × (Nat → Int32) × (Nat → Int32) × Int32 × Int32)
  | 0, _, _, _, _, _, _, _ => none
  | n + 1, v3, C_merged, C_reached, C_done, C_mergedBy, C_mergedInAll, C_mergedAgain =>
    if (8 : Int32) ≤ v3 then
      some (C_merged, C_reached, C_done, C_mergedBy, C_mergedInAll, C_mergedAgain)
    else
      gd (ix v3 8) <|
      if (O_up v3.toNatClampNeg) = 0 then
        nl (v3 + 1) fun x5 =>
        l_X0_goOn_17 N C_sizes C_lies C_parts O_paces O_up n x5 C_merged C_reached C_done C_mergedBy C_mergedInAll C_mergedAgain
      else
        gd (ix v3 8) <|
        bd6 (f_X0_workAtPartsOf N C_sizes C_lies C_merged C_reached C_done C_mergedBy C_parts C_mergedInAll C_mergedAgain v3 (O_paces v3.toNatClampNeg)) fun c7 c8 c9 c10 c11 c12 =>
        nl (v3 + 1) fun x14 =>
        l_X0_goOn_17 N C_sizes C_lies C_parts O_paces O_up n x14 c7 c8 c9 c10 c11 c12
def f_X0_goOn (N : Nat) (C_sizes : (Nat → Int32)) (C_lies : (Nat → Int32)) (C_merged : (Nat → Int32)) (C_reached : (Nat → Int32)) (C_done : (Nat → Int32)) (C_mergedBy : (Nat → Int32)) (C_parts : Int32) (C_ticks : Int32) (C_mergedInAll : Int32) (C_mergedAgain : Int32) (O_paces : (Nat → Int32)) (O_up : (Nat → Int32))  : Option (Int32 × (Nat → Int32) × (Nat → Int32) × (Nat → Int32) × (Nat → Int32) × Int32 × Int32 × Int32) :=
  nl (C_ticks + 1) fun x1 =>
  bd6 (l_X0_goOn_17 N C_sizes C_lies C_parts O_paces O_up N (0 : Int32) C_merged C_reached C_done C_mergedBy C_mergedInAll C_mergedAgain) fun e15 e16 e17 e18 e19 e20 =>
  some ((e19 - C_mergedInAll), e15, e16, e17, e18, x1, e19, e20)
def f_X6_tick (N : Nat) (C_sizes : (Nat → Int32)) (C_lies : (Nat → Int32)) (C_merged : (Nat → Int32)) (C_reached : (Nat → Int32)) (C_done : (Nat → Int32)) (C_mergedBy : (Nat → Int32)) (C_parts : Int32) (C_ticks : Int32) (C_mergedInAll : Int32) (C_mergedAgain : Int32) (O_paces : (Nat → Int32)) (O_up : (Nat → Int32))  : Option (Int32 × (Nat → Int32) × (Nat → Int32) × (Nat → Int32) × (Nat → Int32) × Int32 × Int32 × Int32) :=
  bd1 (f_X0_stands N C_parts) fun r1 =>
  if r1 = 0 then
    some ((-1 : Int32), C_merged, C_reached, C_done, C_mergedBy, C_ticks, C_mergedInAll, C_mergedAgain)
  else
    bd8 (f_X0_goOn N C_sizes C_lies C_merged C_reached C_done C_mergedBy C_parts C_ticks C_mergedInAll C_mergedAgain O_paces O_up) fun r4 c5 c6 c7 c8 c9 c10 c11 =>
    some (r4, c5, c6, c7, c8, c9, c10, c11)
def l_X0_partsDone_4 (N : Nat) (C_done : (Nat → Int32)) (C_parts : Int32) : Nat → Int32 → Int32 → Option (Int32)
  | 0, _, _ => none
  | n + 1, v1, v2 =>
    if C_parts ≤ v2 then
      some (v1)
    else
      gd (ix v2 8) <|
      if (C_done v2.toNatClampNeg) = 0 then
        nl (v2 + 1) fun x4 =>
        l_X0_partsDone_4 N C_done C_parts n v1 x4
      else
        nl (v1 + 1) fun x5 =>
        nl (v2 + 1) fun x6 =>
        l_X0_partsDone_4 N C_done C_parts n x5 x6
def f_X0_partsDone (N : Nat) (C_done : (Nat → Int32)) (C_parts : Int32)  : Option (Int32) :=
  bd1 (l_X0_partsDone_4 N C_done C_parts N (0 : Int32) (0 : Int32)) fun e7 =>
  some (e7)
def f_X0_isAtEnd (N : Nat) (C_done : (Nat → Int32)) (C_parts : Int32)  : Option (Int32) :=
  bd1 (f_X0_stands N C_parts) fun r1 =>
  if r1 = 0 then
    gd (bz (0 : Int32)) <|
    some ((0 : Int32))
  else
    bd1 (f_X0_partsDone N C_done C_parts) fun r5 =>
    if r5 = C_parts then
      gd (bz (1 : Int32)) <|
      some ((1 : Int32))
    else
      gd (bz (0 : Int32)) <|
      some ((0 : Int32))
def f_X6_work (N : Nat) (C_done : (Nat → Int32)) (C_parts : Int32) (C_ticks : Int32) (C_mergedInAll : Int32) (C_mergedAgain : Int32) (v1 : Int32) : Option (Int32) :=
  bd1 (f_X0_stands N C_parts) fun r1 =>
  if r1 = 0 then
    some ((-1 : Int32))
  else
    if v1 = 0 then
      some (C_ticks)
    else
      if v1 = 1 then
        some (C_mergedInAll)
      else
        if v1 = 2 then
          some (C_mergedAgain)
        else
          if v1 = 3 then
            bd1 (f_X0_partsDone N C_done C_parts) fun r8 =>
            some (r8)
          else
            if v1 = 4 then
              bd1 (f_X0_isAtEnd N C_done C_parts) fun r11 =>
              if r11 = 0 then
                some ((0 : Int32))
              else
                some ((1 : Int32))
            else
              some ((-1 : Int32))
def f_X6_end (N : Nat) (R_inOrder : (Nat → Int32)) (R_rowsInAll : Int32) (C_done : (Nat → Int32)) (C_parts : Int32) (v1 : Int32) : Option (Int32) :=
  bd1 (f_X0_isAtEnd N C_done C_parts) fun r1 =>
  if r1 = 0 then
    some ((-1 : Int32))
  else
    bd1 (f_X5_rowInOrder N R_inOrder R_rowsInAll v1) fun r4 =>
    some (r4)
def f_X6_count (N : Nat) (W_count : Int32) (R_made : Int32) (C_parts : Int32) (C_samples : Int32) (v1 : Int32) : Option (Int32) :=
  if v1 = 0 then
    some (W_count)
  else
    if v1 = 1 then
      some (R_made)
    else
      if v1 = 2 then
        some (C_samples)
      else
        if v1 = 3 then
          some (C_parts)
        else
          some ((-1 : Int32))
def f_X7_is (N : Nat)  (v0 : Int32) (v1 : Int32) (v2 : Int32) : Option (Int32) :=
  if v0 < v1 then
    gd (bz (0 : Int32)) <|
    some ((0 : Int32))
  else
    if v2 < v0 then
      gd (bz (0 : Int32)) <|
      some ((0 : Int32))
    else
      gd (bz (1 : Int32)) <|
      some ((1 : Int32))
def f_X7_give (N : Nat) (M_sorts : (Nat → Int32)) (M_values : (Nat → Int32)) (M_rows : Int32) (v1 : Int32) (v2 : Int32) : Option (Int32 × (Nat → Int32) × (Nat → Int32) × Int32) :=
  bd1 (f_X7_is N v1 (0 : Int32) (3 : Int32)) fun r1 =>
  if r1 = 0 then
    some ((-1 : Int32), M_sorts, M_values, M_rows)
  else
    bd1 (f_X7_is N v2 (-100000 : Int32) (100000 : Int32)) fun r4 =>
    if r4 = 0 then
      some ((-1 : Int32), M_sorts, M_values, M_rows)
    else
      if M_rows = (400 : Int32) then
        some ((-1 : Int32), M_sorts, M_values, M_rows)
      else
        gd (ix M_rows 400) <|
        gd (ix M_rows 400) <|
        nl (M_rows + 1) fun x10 =>
        some ((x10 - 1), (upd M_sorts M_rows.toNatClampNeg v1), (upd M_values M_rows.toNatClampNeg v2), x10)
def l_X7_sow_63 (N : Nat) (v1 : Int32) (v2 : Int32) (v4 : Int32) (v5 : Int32) : Nat → Int32 → Int32 → (Nat → Int32) → (Nat → Int32) → Int32 → Option ((Nat → Int32) × (Nat → Int32) × Int32)
  | 0, _, _, _, _, _ => none
  | n + 1, v6, v7, M_sorts, M_values, M_rows =>
    if v2 ≤ v7 then
      some (M_sorts, M_values, M_rows)
    else
      nl ((1103515245 * v6) + 12345) fun x15 =>
      gd (ix M_rows 400) <|
      gd (nz v5) <|
      nl ((M_rows * v4) + ((x15.toUInt32 >>> (((8 : Int32)).toUInt32 &&& Int32.toUInt32 31)).toInt32 - (x15.toUInt32 >>> (((8 : Int32)).toUInt32 &&& Int32.toUInt32 31)).toInt32 / v5 * v5)) fun x18 =>
      gd (ix M_rows 400) <|
      nl (M_rows + 1) fun x20 =>
      nl (v7 + 1) fun x21 =>
      l_X7_sow_63 N v1 v2 v4 v5 n x15 x21 (upd M_sorts M_rows.toNatClampNeg v1) (upd M_values M_rows.toNatClampNeg x18) x20
def f_X7_sow (N : Nat) (M_sorts : (Nat → Int32)) (M_values : (Nat → Int32)) (M_rows : Int32) (v1 : Int32) (v2 : Int32) (v3 : Int32) (v4 : Int32) (v5 : Int32) : Option (Int32 × (Nat → Int32) × (Nat → Int32) × Int32) :=
  bd1 (f_X7_is N v1 (0 : Int32) (3 : Int32)) fun r1 =>
  if r1 = 0 then
    some ((-1 : Int32), M_sorts, M_values, M_rows)
  else
    bd1 (f_X7_is N v2 (1 : Int32) (100 : Int32)) fun r4 =>
    if r4 = 0 then
      some ((-1 : Int32), M_sorts, M_values, M_rows)
    else
      bd1 (f_X7_is N v4 (-100 : Int32) (100 : Int32)) fun r7 =>
      if r7 = 0 then
        some ((-1 : Int32), M_sorts, M_values, M_rows)
      else
        bd1 (f_X7_is N v5 (1 : Int32) (10000 : Int32)) fun r10 =>
        if r10 = 0 then
          some ((-1 : Int32), M_sorts, M_values, M_rows)
        else
          if (M_rows + v2) ≤ (400 : Int32) then
            bd3 (l_X7_sow_63 N v1 v2 v4 v5 N v3 (0 : Int32) M_sorts M_values M_rows) fun e22 e23 e24 =>
            some (e24, e22, e23, e24)
          else
            some ((-1 : Int32), M_sorts, M_values, M_rows)
def f_X7_clear (N : Nat) (M_rows : Int32) (M_made : Int32) (M_runs : Int32) (M_allRuns : Int32) (M_ways : Int32) (M_merges : Int32) (M_parts : Int32) (M_samples : Int32)  : Option (Int32 × Int32 × Int32 × Int32 × Int32 × Int32 × Int32 × Int32 × Int32) :=
  some (M_rows, 0, 0, 0, 0, (-1), 0, 0, 0)
def f_X7_order (N : Nat) (M_placeOf : (Nat → Int32)) (M_made : Int32) (v1 : Int32) (v2 : Int32) (v3 : Int32) (v4 : Int32) : Option (Int32 × (Nat → Int32)) :=
  if M_made = 0 then
    bd1 (f_X7_is N v1 (0 : Int32) (3 : Int32)) fun r3 =>
    if r3 = 0 then
      gd (bz (0 : Int32)) <|
      some ((0 : Int32), M_placeOf)
    else
      bd1 (f_X7_is N v2 (0 : Int32) (3 : Int32)) fun r7 =>
      if r7 = 0 then
        gd (bz (0 : Int32)) <|
        some ((0 : Int32), M_placeOf)
      else
        bd1 (f_X7_is N v3 (0 : Int32) (3 : Int32)) fun r11 =>
        if r11 = 0 then
          gd (bz (0 : Int32)) <|
          some ((0 : Int32), M_placeOf)
        else
          bd1 (f_X7_is N v4 (0 : Int32) (3 : Int32)) fun r15 =>
          if r15 = 0 then
            gd (bz (0 : Int32)) <|
            some ((0 : Int32), M_placeOf)
          else
            if v1 = v2 then
              gd (bz (0 : Int32)) <|
              some ((0 : Int32), M_placeOf)
            else
              if v1 = v3 then
                gd (bz (0 : Int32)) <|
                some ((0 : Int32), M_placeOf)
              else
                if v1 = v4 then
                  gd (bz (0 : Int32)) <|
                  some ((0 : Int32), M_placeOf)
                else
                  if v2 = v3 then
                    gd (bz (0 : Int32)) <|
                    some ((0 : Int32), M_placeOf)
                  else
                    if v2 = v4 then
                      gd (bz (0 : Int32)) <|
                      some ((0 : Int32), M_placeOf)
                    else
                      if v3 = v4 then
                        gd (bz (0 : Int32)) <|
                        some ((0 : Int32), M_placeOf)
                      else
                        gd (ix v1 4) <|
                        gd (ix v2 4) <|
                        gd (ix v3 4) <|
                        gd (ix v4 4) <|
                        gd (bz (1 : Int32)) <|
                        some ((1 : Int32), (upd (upd (upd (upd M_placeOf v1.toNatClampNeg 0) v2.toNatClampNeg 1) v3.toNatClampNeg 2) v4.toNatClampNeg 3))
  else
    gd (bz (0 : Int32)) <|
    some ((0 : Int32), M_placeOf)
def f_X7_falls (N : Nat) (M_falling : (Nat → Int32)) (M_made : Int32) (v1 : Int32) (v2 : Int32) : Option (Int32 × (Nat → Int32)) :=
  if M_made = 0 then
    bd1 (f_X7_is N v1 (0 : Int32) (3 : Int32)) fun r3 =>
    if r3 = 0 then
      gd (bz (0 : Int32)) <|
      some ((0 : Int32), M_falling)
    else
      gd (ix v1 4) <|
      gd (bz (1 : Int32)) <|
      some ((1 : Int32), (upd M_falling v1.toNatClampNeg (vp_nar .boolean v2)))
  else
    gd (bz (0 : Int32)) <|
    some ((0 : Int32), M_falling)
def f_X7_isRow (N : Nat) (M_rows : Int32) (v1 : Int32) : Option (Int32) :=
  if v1 < 0 then
    gd (bz (0 : Int32)) <|
    some ((0 : Int32))
  else
    if M_rows ≤ v1 then
      gd (bz (0 : Int32)) <|
      some ((0 : Int32))
    else
      gd (bz (1 : Int32)) <|
      some ((1 : Int32))
def f_X7_row (N : Nat) (M_sorts : (Nat → Int32)) (M_values : (Nat → Int32)) (M_rows : Int32) (v1 : Int32) (v2 : Int32) : Option (Int32) :=
  bd1 (f_X7_isRow N M_rows v1) fun r1 =>
  if r1 = 0 then
    some ((-1000000 : Int32))
  else
    bd1 (f_X7_is N v2 (0 : Int32) (1 : Int32)) fun r4 =>
    if r4 = 0 then
      some ((-1000000 : Int32))
    else
      if v2 = 0 then
        gd (ix v1 400) <|
        some ((M_sorts v1.toNatClampNeg))
      else
        gd (ix v1 400) <|
        some ((M_values v1.toNatClampNeg))
def f_X7_ahead (N : Nat) (M_sorts : (Nat → Int32)) (M_values : (Nat → Int32)) (M_placeOf : (Nat → Int32)) (M_falling : (Nat → Int32)) (v1 : Int32) (v2 : Int32) : Option (Int32) :=
  gd (ix v1 400) <|
  gd (ix v2 400) <|
  if (M_sorts v1.toNatClampNeg) = (M_sorts v2.toNatClampNeg) then
    gd (ix v1 400) <|
    gd (ix v2 400) <|
    if (M_values v1.toNatClampNeg) = (M_values v2.toNatClampNeg) then
      if v2 ≤ v1 then
        gd (bz (0 : Int32)) <|
        some ((0 : Int32))
      else
        gd (bz (1 : Int32)) <|
        some ((1 : Int32))
    else
      gd (ix v1 400) <|
      gd (ix v2 400) <|
      bd1 (if (M_values v2.toNatClampNeg) ≤ (M_values v1.toNatClampNeg) then
          some ((0 : Int32))
        else
          some ((1 : Int32)))
        fun y12 =>
      gd (ix v1 400) <|
      gd (ix (M_sorts v1.toNatClampNeg) 4) <|
      if y12 = (M_falling (M_sorts v1.toNatClampNeg).toNatClampNeg) then
        gd (bz (0 : Int32)) <|
        some ((0 : Int32))
      else
        gd (bz (1 : Int32)) <|
        some ((1 : Int32))
  else
    gd (ix v1 400) <|
    gd (ix (M_sorts v1.toNatClampNeg) 4) <|
    gd (ix v2 400) <|
    gd (ix (M_sorts v2.toNatClampNeg) 4) <|
    if (M_placeOf (M_sorts v2.toNatClampNeg).toNatClampNeg) ≤ (M_placeOf (M_sorts v1.toNatClampNeg).toNatClampNeg) then
      gd (bz (0 : Int32)) <|
      some ((0 : Int32))
    else
      gd (bz (1 : Int32)) <|
      some ((1 : Int32))
def f_X7_against (N : Nat) (M_sorts : (Nat → Int32)) (M_values : (Nat → Int32)) (M_rows : Int32) (M_placeOf : (Nat → Int32)) (M_falling : (Nat → Int32)) (v1 : Int32) (v2 : Int32) : Option (Int32) :=
  bd1 (f_X7_isRow N M_rows v1) fun r1 =>
  if r1 = 0 then
    some ((-2 : Int32))
  else
    bd1 (f_X7_isRow N M_rows v2) fun r4 =>
    if r4 = 0 then
      some ((-2 : Int32))
    else
      if v1 = v2 then
        some ((0 : Int32))
      else
        bd1 (f_X7_ahead N M_sorts M_values M_placeOf M_falling v1 v2) fun r8 =>
        if r8 = 0 then
          some ((1 : Int32))
        else
          some ((-1 : Int32))
def l_X7_rank_14 (N : Nat) (M_sorts : (Nat → Int32)) (M_values : (Nat → Int32)) (M_rows : Int32) (M_placeOf : (Nat → Int32)) (M_falling : (Nat → Int32)) (v1 : Int32) : Nat → Int32 → Int32 → Option (Int32)
  | 0, _, _ => none
  | n + 1, v2, v3 =>
    if M_rows ≤ v3 then
      some (v2)
    else
      if v3 = v1 then
        nl (v2 + 0) fun x6 =>
        nl (v3 + 1) fun x7 =>
        l_X7_rank_14 N M_sorts M_values M_rows M_placeOf M_falling v1 n x6 x7
      else
        bd1 (f_X7_ahead N M_sorts M_values M_placeOf M_falling v3 v1) fun r8 =>
        if r8 = 0 then
          nl (v2 + 0) fun x11 =>
          nl (v3 + 1) fun x12 =>
          l_X7_rank_14 N M_sorts M_values M_rows M_placeOf M_falling v1 n x11 x12
        else
          nl (v2 + 1) fun x13 =>
          nl (v3 + 1) fun x14 =>
          l_X7_rank_14 N M_sorts M_values M_rows M_placeOf M_falling v1 n x13 x14
def f_X7_rank (N : Nat) (M_sorts : (Nat → Int32)) (M_values : (Nat → Int32)) (M_rows : Int32) (M_placeOf : (Nat → Int32)) (M_falling : (Nat → Int32)) (v1 : Int32) : Option (Int32) :=
  bd1 (f_X7_isRow N M_rows v1) fun r1 =>
  if r1 = 0 then
    some ((-1 : Int32))
  else
    bd1 (l_X7_rank_14 N M_sorts M_values M_rows M_placeOf M_falling v1 N (0 : Int32) (0 : Int32)) fun e15 =>
    some (e15)
def l_X7_runs_46 (N : Nat) (M_rows : Int32) (v1 : Int32) : Nat → Int32 → Int32 → (Nat → Int32) → Option (Int32 × Int32 × (Nat → Int32))
  | 0, _, _, _ => none
  | n + 1, v2, v3, M_heap =>
    if v1 ≤ v2 then
      some (v2, v3, M_heap)
    else
      if M_rows ≤ v3 then
        some (v2, v3, M_heap)
      else
        gd (ix v2 40) <|
        nl (v2 + 1) fun x7 =>
        nl (v3 + 1) fun x8 =>
        l_X7_runs_46 N M_rows v1 n x7 x8 (upd M_heap v2.toNatClampNeg v3)
def l_X7_runs_88 (N : Nat) (M_sorts : (Nat → Int32)) (M_values : (Nat → Int32)) (M_placeOf : (Nat → Int32)) (M_falling : (Nat → Int32)) (M_heap : (Nat → Int32)) (v2 : Int32) (v4 : Int32) : Nat → Int32 → Int32 → Option (Int32)
  | 0, _, _ => none
  | n + 1, v5, v6 =>
    if v2 ≤ v6 then
      some (v5)
    else
      if v4 = (-1 : Int32) then
        if v5 = (-1 : Int32) then
          nl (v6 + 1) fun x17 =>
          l_X7_runs_88 N M_sorts M_values M_placeOf M_falling M_heap v2 v4 n v6 x17
        else
          gd (ix v6 40) <|
          gd (ix v5 40) <|
          bd1 (f_X7_ahead N M_sorts M_values M_placeOf M_falling (M_heap v6.toNatClampNeg) (M_heap v5.toNatClampNeg)) fun r20 =>
          if r20 = 0 then
            nl (v6 + 1) fun x23 =>
            l_X7_runs_88 N M_sorts M_values M_placeOf M_falling M_heap v2 v4 n v5 x23
          else
            nl (v6 + 1) fun x24 =>
            l_X7_runs_88 N M_sorts M_values M_placeOf M_falling M_heap v2 v4 n v6 x24
      else
        gd (ix v6 40) <|
        bd1 (f_X7_ahead N M_sorts M_values M_placeOf M_falling (M_heap v6.toNatClampNeg) v4) fun r26 =>
        if r26 = 0 then
          if v5 = (-1 : Int32) then
            nl (v6 + 1) fun x30 =>
            l_X7_runs_88 N M_sorts M_values M_placeOf M_falling M_heap v2 v4 n v6 x30
          else
            gd (ix v6 40) <|
            gd (ix v5 40) <|
            bd1 (f_X7_ahead N M_sorts M_values M_placeOf M_falling (M_heap v6.toNatClampNeg) (M_heap v5.toNatClampNeg)) fun r33 =>
            if r33 = 0 then
              nl (v6 + 1) fun x36 =>
              l_X7_runs_88 N M_sorts M_values M_placeOf M_falling M_heap v2 v4 n v5 x36
            else
              nl (v6 + 1) fun x37 =>
              l_X7_runs_88 N M_sorts M_values M_placeOf M_falling M_heap v2 v4 n v6 x37
        else
          nl (v6 + 1) fun x38 =>
          l_X7_runs_88 N M_sorts M_values M_placeOf M_falling M_heap v2 v4 n v5 x38
def l_X7_runs_78 (N : Nat) (M_sorts : (Nat → Int32)) (M_values : (Nat → Int32)) (M_rows : Int32) (M_placeOf : (Nat → Int32)) (M_falling : (Nat → Int32)) : Nat → Int32 → Int32 → Int32 → Int32 → (Nat → Int32) → (Nat → Int32) → (Nat → Int32) → Int32 → (Nat → Int32) → Option (Int32 × (Nat → Int32) × (Nat → Int32) × (Nat → Int32) × Int32 × (Nat → Int32))
  | 0, _, _, _, _, _, _, _, _, _ => none
  | n + 1, v2, v3, v4, M_runs, M_begin, M_size, M_pool, M_pooled, M_heap =>
    if v2 ≤ 0 then
      some (M_runs, M_begin, M_size, M_pool, M_pooled, M_heap)
    else
      bd1 (l_X7_runs_88 N M_sorts M_values M_placeOf M_falling M_heap v2 v4 N (-1 : Int32) (0 : Int32)) fun e39 =>
      if e39 = (-1 : Int32) then
        l_X7_runs_78 N M_sorts M_values M_rows M_placeOf M_falling n v2 v3 (-1 : Int32) M_runs M_begin M_size M_pool M_pooled M_heap
      else
        bd3 (if v4 = (-1 : Int32) then
            gd (ix M_runs 800) <|
            gd (ix M_runs 800) <|
            nl (M_runs + 1) fun x63 =>
            some (x63, (upd M_begin M_runs.toNatClampNeg M_pooled), (upd M_size M_runs.toNatClampNeg 0))
          else
            some (M_runs, M_begin, M_size))
          fun y42 y43 y44 =>
        gd (ix e39 40) <|
        nl (M_heap e39.toNatClampNeg) fun x47 =>
        gd (ix M_pooled 40000) <|
        nl (M_pooled + 1) fun x49 =>
        gd (ix (y42 - 1) 800) <|
        nl ((y44 (y42 - 1).toNatClampNeg) + 1) fun x51 =>
        gd (ix (y42 - 1) 800) <|
        if M_rows ≤ v3 then
          nl (v2 + (-1)) fun x54 =>
          gd (ix x54 40) <|
          nl (M_heap x54.toNatClampNeg) fun x56 =>
          gd (ix e39 40) <|
          l_X7_runs_78 N M_sorts M_values M_rows M_placeOf M_falling n x54 v3 x47 y42 y43 (upd y44 (y42 - 1).toNatClampNeg x51) (upd M_pool M_pooled.toNatClampNeg x47) x49 (upd M_heap e39.toNatClampNeg x56)
        else
          gd (ix e39 40) <|
          nl (v3 + 1) fun x59 =>
          l_X7_runs_78 N M_sorts M_values M_rows M_placeOf M_falling n v2 x59 x47 y42 y43 (upd y44 (y42 - 1).toNatClampNeg x51) (upd M_pool M_pooled.toNatClampNeg x47) x49 (upd M_heap e39.toNatClampNeg v3)
def f_X7_runs (N : Nat) (M_sorts : (Nat → Int32)) (M_values : (Nat → Int32)) (M_rows : Int32) (M_placeOf : (Nat → Int32)) (M_falling : (Nat → Int32)) (M_made : Int32) (M_runs : Int32) (M_allRuns : Int32) (M_begin : (Nat → Int32)) (M_size : (Nat → Int32)) (M_pool : (Nat → Int32)) (M_pooled : Int32) (M_ways : Int32) (M_merges : Int32) (M_parts : Int32) (M_samples : Int32) (M_heap : (Nat → Int32)) (v1 : Int32) : Option (Int32 × Int32 × Int32 × Int32 × (Nat → Int32) × (Nat → Int32) × (Nat → Int32) × Int32 × Int32 × Int32 × Int32 × Int32 × (Nat → Int32)) :=
  bd1 (f_X7_is N v1 (1 : Int32) (40 : Int32)) fun r1 =>
  if r1 = 0 then
    some ((-1 : Int32), M_made, M_runs, M_allRuns, M_begin, M_size, M_pool, M_pooled, M_ways, M_merges, M_parts, M_samples, M_heap)
  else
    bd3 (l_X7_runs_46 N M_rows v1 N (0 : Int32) (0 : Int32) M_heap) fun e9 e10 e11 =>
    bd6 (l_X7_runs_78 N M_sorts M_values M_rows M_placeOf M_falling N e9 e10 (-1 : Int32) 0 M_begin M_size M_pool 0 e11) fun e64 e65 e66 e67 e68 e69 =>
    if e64 ≤ 0 then
      some (e64, 0, e64, e64, e65, e66, e67, e68, (-1), 0, 0, 0, e69)
    else
      some (e64, 1, e64, e64, e65, e66, e67, e68, (-1), 0, 0, 0, e69)
def f_X7_length (N : Nat) (M_allRuns : Int32) (M_size : (Nat → Int32)) (v1 : Int32) : Option (Int32) :=
  if v1 < 0 then
    some ((-1 : Int32))
  else
    if v1 < M_allRuns then
      gd (ix v1 800) <|
      some ((M_size v1.toNatClampNeg))
    else
      some ((-1 : Int32))
def f_X7_at (N : Nat) (M_allRuns : Int32) (M_begin : (Nat → Int32)) (M_size : (Nat → Int32)) (M_pool : (Nat → Int32)) (v1 : Int32) (v2 : Int32) : Option (Int32) :=
  if v1 < 0 then
    some ((-1 : Int32))
  else
    if M_allRuns ≤ v1 then
      some ((-1 : Int32))
    else
      if v2 < 0 then
        some ((-1 : Int32))
      else
        gd (ix v1 800) <|
        if v2 < (M_size v1.toNatClampNeg) then
          gd (ix v1 800) <|
          gd (ix ((M_begin v1.toNatClampNeg) + v2) 40000) <|
          some ((M_pool ((M_begin v1.toNatClampNeg) + v2).toNatClampNeg))
        else
          some ((-1 : Int32))
def l_X7_moves_9 (N : Nat) (M_size : (Nat → Int32)) (v4 : Int32) : Nat → Int32 → (Nat → Int32) → (Nat → Int32) → Option ((Nat → Int32) × (Nat → Int32))
  | 0, _, _, _ => none
  | n + 1, v5, M_used, M_planned =>
    if v4 ≤ v5 then
      some (M_used, M_planned)
    else
      gd (ix v5 800) <|
      nl (M_size v5.toNatClampNeg) fun x3 =>
      gd (ix v5 800) <|
      gd (ix v5 800) <|
      nl (v5 + 1) fun x6 =>
      l_X7_moves_9 N M_size v4 n x6 (upd M_used v5.toNatClampNeg (vp_nar .boolean 0)) (upd M_planned v5.toNatClampNeg x3)
def l_X7_moves_119 (N : Nat) (M_used : (Nat → Int32)) (M_planned : (Nat → Int32)) (v2 : Int32) (v4 : Int32) (v7 : Int32) : Nat → Int32 → Int32 → Option (Int32)
  | 0, _, _ => none
  | n + 1, v10, v11 =>
    if (v4 + v7) ≤ v11 then
      some (v10)
    else
      gd (ix v11 800) <|
      if (M_used v11.toNatClampNeg) = 0 then
        if v10 = (-1 : Int32) then
          nl (v11 + 1) fun x20 =>
          l_X7_moves_119 N M_used M_planned v2 v4 v7 n v11 x20
        else
          if v2 = 0 then
            nl (v11 + 1) fun x22 =>
            l_X7_moves_119 N M_used M_planned v2 v4 v7 n v10 x22
          else
            gd (ix v11 800) <|
            gd (ix v10 800) <|
            if (M_planned v10.toNatClampNeg) ≤ (M_planned v11.toNatClampNeg) then
              nl (v11 + 1) fun x26 =>
              l_X7_moves_119 N M_used M_planned v2 v4 v7 n v10 x26
            else
              nl (v11 + 1) fun x27 =>
              l_X7_moves_119 N M_used M_planned v2 v4 v7 n v11 x27
      else
        nl (v11 + 1) fun x28 =>
        l_X7_moves_119 N M_used M_planned v2 v4 v7 n v10 x28
def l_X7_moves_106 (N : Nat) (v2 : Int32) (v3 : Int32) (v4 : Int32) (v7 : Int32) (v8 : Int32) : Nat → Int32 → (Nat → Int32) → (Nat → Int32) → (Nat → Int32) → Option ((Nat → Int32) × (Nat → Int32) × (Nat → Int32))
  | 0, _, _, _, _ => none
  | n + 1, v9, M_taken, M_used, M_planned =>
    if v8 ≤ v9 then
      some (M_taken, M_used, M_planned)
    else
      bd1 (l_X7_moves_119 N M_used M_planned v2 v4 v7 N (-1 : Int32) (0 : Int32)) fun e29 =>
      gd (ix e29 800) <|
      gd (ix (v4 + v7) 800) <|
      gd (ix e29 800) <|
      nl ((M_planned (v4 + v7).toNatClampNeg) + (M_planned e29.toNatClampNeg)) fun x34 =>
      gd (ix (v4 + v7) 800) <|
      if v3 = 0 then
        nl (v9 + 1) fun x37 =>
        l_X7_moves_106 N v2 v3 v4 v7 v8 n x37 M_taken (upd M_used e29.toNatClampNeg (vp_nar .boolean 1)) (upd M_planned (v4 + v7).toNatClampNeg x34)
      else
        gd (ix ((8 * v7) + v9) 3200) <|
        nl (v9 + 1) fun x39 =>
        l_X7_moves_106 N v2 v3 v4 v7 v8 n x39 (upd M_taken ((8 * v7) + v9).toNatClampNeg e29) (upd M_used e29.toNatClampNeg (vp_nar .boolean 1)) (upd M_planned (v4 + v7).toNatClampNeg x34)
def l_X7_moves_54 (N : Nat) (v1 : Int32) (v2 : Int32) (v3 : Int32) (v4 : Int32) : Nat → Int32 → Int32 → Int32 → (Nat → Int32) → (Nat → Int32) → (Nat → Int32) → (Nat → Int32) → Option (Int32 × Int32 × (Nat → Int32) × (Nat → Int32) × (Nat → Int32) × (Nat → Int32))
  | 0, _, _, _, _, _, _, _ => none
  | n + 1, v5, v6, v7, M_takes, M_taken, M_used, M_planned =>
    if v5 ≤ (1 : Int32) then
      some (v6, v7, M_takes, M_taken, M_used, M_planned)
    else
      bd1 (if v7 = 0 then
          gd (nz (v1 - 1)) <|
          some ((2 + ((v4 - 2) - (v4 - 2) / (v1 - 1) * (v1 - 1))))
        else
          some (v1))
        fun y11 =>
      gd (ix (v4 + v7) 800) <|
      gd (ix (v4 + v7) 800) <|
      bd3 (l_X7_moves_106 N v2 v3 v4 v7 y11 N (0 : Int32) M_taken (upd M_used (v4 + v7).toNatClampNeg (vp_nar .boolean 0)) (upd M_planned (v4 + v7).toNatClampNeg 0)) fun e40 e41 e42 =>
      bd1 (if v3 = 0 then
          some (M_takes)
        else
          gd (ix v7 400) <|
          some ((upd M_takes v7.toNatClampNeg y11)))
        fun y44 =>
      gd (ix (v4 + v7) 800) <|
      nl (v6 + (e42 (v4 + v7).toNatClampNeg)) fun x47 =>
      nl (v5 - (y11 - 1)) fun x48 =>
      nl (v7 + 1) fun x49 =>
      l_X7_moves_54 N v1 v2 v3 v4 n x48 x47 x49 y44 e40 e41 e42
def f_X7_moves (N : Nat) (M_runs : Int32) (M_size : (Nat → Int32)) (M_merges : Int32) (M_takes : (Nat → Int32)) (M_taken : (Nat → Int32)) (M_used : (Nat → Int32)) (M_planned : (Nat → Int32)) (v1 : Int32) (v2 : Int32) (v3 : Int32) : Option (Int32 × Int32 × (Nat → Int32) × (Nat → Int32) × (Nat → Int32) × (Nat → Int32)) :=
  bd2 (l_X7_moves_9 N M_size M_runs N (0 : Int32) M_used M_planned) fun e7 e8 =>
  bd6 (l_X7_moves_54 N v1 v2 v3 M_runs N M_runs (0 : Int32) (0 : Int32) M_takes M_taken e7 e8) fun e54 e55 e56 e57 e58 e59 =>
  if v3 = 0 then
    some (e54, M_merges, e56, e57, e58, e59)
  else
    some (e54, e55, e56, e57, e58, e59)
def f_X7_plan (N : Nat) (M_made : Int32) (M_runs : Int32) (M_allRuns : Int32) (M_begin : (Nat → Int32)) (M_size : (Nat → Int32)) (M_pooled : Int32) (M_ways : Int32) (M_merges : Int32) (M_takes : (Nat → Int32)) (M_taken : (Nat → Int32)) (M_used : (Nat → Int32)) (M_planned : (Nat → Int32)) (v1 : Int32) : Option (Int32 × Int32 × Int32 × Int32 × Int32 × (Nat → Int32) × (Nat → Int32) × (Nat → Int32) × (Nat → Int32)) :=
  if M_made = 0 then
    some ((-1 : Int32), M_allRuns, M_pooled, M_ways, M_merges, M_takes, M_taken, M_used, M_planned)
  else
    bd1 (f_X7_is N v1 (2 : Int32) (8 : Int32)) fun r2 =>
    if r2 = 0 then
      some ((-1 : Int32), M_allRuns, M_pooled, M_ways, M_merges, M_takes, M_taken, M_used, M_planned)
    else
      bd1 (if M_runs = 0 then
          some ((0 : Int32))
        else
          gd (ix (M_runs - 1) 800) <|
          gd (ix (M_runs - 1) 800) <|
          some (((M_begin (M_runs - 1).toNatClampNeg) + (M_size (M_runs - 1).toNatClampNeg))))
        fun y5 =>
      bd6 (f_X7_moves N M_runs M_size M_merges M_takes M_taken M_used M_planned v1 (1 : Int32) (1 : Int32)) fun r7 c8 c9 c10 c11 c12 =>
      some (r7, M_runs, y5, v1, c8, c9, c10, c11, c12)
def f_X7_queue (N : Nat) (M_made : Int32) (M_runs : Int32) (M_size : (Nat → Int32)) (M_merges : Int32) (M_takes : (Nat → Int32)) (M_taken : (Nat → Int32)) (M_used : (Nat → Int32)) (M_planned : (Nat → Int32)) (v1 : Int32) : Option (Int32 × Int32 × (Nat → Int32) × (Nat → Int32) × (Nat → Int32) × (Nat → Int32)) :=
  if M_made = 0 then
    some ((-1 : Int32), M_merges, M_takes, M_taken, M_used, M_planned)
  else
    bd1 (f_X7_is N v1 (2 : Int32) (8 : Int32)) fun r2 =>
    if r2 = 0 then
      some ((-1 : Int32), M_merges, M_takes, M_taken, M_used, M_planned)
    else
      bd6 (f_X7_moves N M_runs M_size M_merges M_takes M_taken M_used M_planned v1 (0 : Int32) (0 : Int32)) fun r5 c6 c7 c8 c9 c10 =>
      some (r5, c6, c7, c8, c9, c10)
def f_X7_merges (N : Nat) (M_merges : Int32)  : Option (Int32) :=
  some (M_merges)
def f_X7_takes (N : Nat) (M_merges : Int32) (M_takes : (Nat → Int32)) (M_taken : (Nat → Int32)) (v1 : Int32) (v2 : Int32) : Option (Int32) :=
  if v1 < 0 then
    some ((-1 : Int32))
  else
    if M_merges ≤ v1 then
      some ((-1 : Int32))
    else
      if v2 < 0 then
        some ((-1 : Int32))
      else
        gd (ix v1 400) <|
        if v2 < (M_takes v1.toNatClampNeg) then
          gd (ix ((8 * v1) + v2) 3200) <|
          some ((M_taken ((8 * v1) + v2).toNatClampNeg))
        else
          some ((-1 : Int32))
def l_X7_merge_70 (N : Nat)  : Nat → Int32 → (Nat → Int32) → Option ((Nat → Int32))
  | 0, _, _ => none
  | n + 1, v3, M_gone =>
    if (8 : Int32) ≤ v3 then
      some (M_gone)
    else
      gd (ix v3 8) <|
      nl (v3 + 1) fun x7 =>
      l_X7_merge_70 N n x7 (upd M_gone v3.toNatClampNeg 0)
def l_X7_merge_128 (N : Nat) (M_sorts : (Nat → Int32)) (M_values : (Nat → Int32)) (M_placeOf : (Nat → Int32)) (M_falling : (Nat → Int32)) (M_begin : (Nat → Int32)) (M_size : (Nat → Int32)) (M_pool : (Nat → Int32)) (M_takes : (Nat → Int32)) (M_taken : (Nat → Int32)) (M_gone : (Nat → Int32)) (v2 : Int32) : Nat → Int32 → Int32 → Int32 → Option (Int32 × Int32)
  | 0, _, _, _ => none
  | n + 1, v5, v6, v7 =>
    gd (ix v2 400) <|
    if (M_takes v2.toNatClampNeg) ≤ v7 then
      some (v5, v6)
    else
      gd (ix ((8 * v2) + v7) 3200) <|
      nl (M_taken ((8 * v2) + v7).toNatClampNeg) fun x16 =>
      gd (ix v7 8) <|
      gd (ix x16 800) <|
      if (M_gone v7.toNatClampNeg) = (M_size x16.toNatClampNeg) then
        nl (v7 + 1) fun x35 =>
        l_X7_merge_128 N M_sorts M_values M_placeOf M_falling M_begin M_size M_pool M_takes M_taken M_gone v2 n v5 v6 x35
      else
        nl (v6 + 1) fun x20 =>
        if v5 = (-1 : Int32) then
          nl (v7 + 1) fun x22 =>
          l_X7_merge_128 N M_sorts M_values M_placeOf M_falling M_begin M_size M_pool M_takes M_taken M_gone v2 n v7 x20 x22
        else
          gd (ix x16 800) <|
          gd (ix v7 8) <|
          gd (ix ((M_begin x16.toNatClampNeg) + (M_gone v7.toNatClampNeg)) 40000) <|
          gd (ix ((8 * v2) + v5) 3200) <|
          gd (ix (M_taken ((8 * v2) + v5).toNatClampNeg) 800) <|
          gd (ix v5 8) <|
          gd (ix ((M_begin (M_taken ((8 * v2) + v5).toNatClampNeg).toNatClampNeg) + (M_gone v5.toNatClampNeg)) 40000) <|
          bd1 (f_X7_ahead N M_sorts M_values M_placeOf M_falling (M_pool ((M_begin x16.toNatClampNeg) + (M_gone v7.toNatClampNeg)).toNatClampNeg) (M_pool ((M_begin (M_taken ((8 * v2) + v5).toNatClampNeg).toNatClampNeg) + (M_gone v5.toNatClampNeg)).toNatClampNeg)) fun r30 =>
          if r30 = 0 then
            nl (v7 + 1) fun x33 =>
            l_X7_merge_128 N M_sorts M_values M_placeOf M_falling M_begin M_size M_pool M_takes M_taken M_gone v2 n v5 x20 x33
          else
            nl (v7 + 1) fun x34 =>
            l_X7_merge_128 N M_sorts M_values M_placeOf M_falling M_begin M_size M_pool M_takes M_taken M_gone v2 n v7 x20 x34
def l_X7_merge_114 (N : Nat) (M_sorts : (Nat → Int32)) (M_values : (Nat → Int32)) (M_placeOf : (Nat → Int32)) (M_falling : (Nat → Int32)) (M_begin : (Nat → Int32)) (M_takes : (Nat → Int32)) (M_taken : (Nat → Int32)) (v2 : Int32) (v3 : Int32) : Nat → Int32 → Int32 → (Nat → Int32) → (Nat → Int32) → Int32 → (Nat → Int32) → Option (Int32 × (Nat → Int32) × (Nat → Int32) × Int32 × (Nat → Int32))
  | 0, _, _, _, _, _, _ => none
  | n + 1, v1, v4, M_size, M_pool, M_pooled, M_gone =>
    if v4 = 0 then
      some (v1, M_size, M_pool, M_pooled, M_gone)
    else
      bd2 (l_X7_merge_128 N M_sorts M_values M_placeOf M_falling M_begin M_size M_pool M_takes M_taken M_gone v2 N (-1 : Int32) (0 : Int32) (0 : Int32)) fun e36 e37 =>
      bd1 (if e36 = (-1 : Int32) then
          some ((0 : Int32))
        else
          some ((1 : Int32)))
        fun y39 =>
      if y39 = 0 then
        l_X7_merge_114 N M_sorts M_values M_placeOf M_falling M_begin M_takes M_taken v2 v3 n v1 y39 M_size M_pool M_pooled M_gone
      else
        nl (v1 + (e37 - 1)) fun x42 =>
        gd (ix ((8 * v2) + e36) 3200) <|
        gd (ix (M_taken ((8 * v2) + e36).toNatClampNeg) 800) <|
        gd (ix e36 8) <|
        gd (ix ((M_begin (M_taken ((8 * v2) + e36).toNatClampNeg).toNatClampNeg) + (M_gone e36.toNatClampNeg)) 40000) <|
        nl (M_pool ((M_begin (M_taken ((8 * v2) + e36).toNatClampNeg).toNatClampNeg) + (M_gone e36.toNatClampNeg)).toNatClampNeg) fun x47 =>
        gd (ix M_pooled 40000) <|
        nl (M_pooled + 1) fun x49 =>
        gd (ix v3 800) <|
        nl ((M_size v3.toNatClampNeg) + 1) fun x51 =>
        gd (ix v3 800) <|
        gd (ix e36 8) <|
        nl ((M_gone e36.toNatClampNeg) + 1) fun x54 =>
        gd (ix e36 8) <|
        l_X7_merge_114 N M_sorts M_values M_placeOf M_falling M_begin M_takes M_taken v2 v3 n x42 y39 (upd M_size v3.toNatClampNeg x51) (upd M_pool M_pooled.toNatClampNeg x47) x49 (upd M_gone e36.toNatClampNeg x54)
def l_X7_merge_60 (N : Nat) (M_sorts : (Nat → Int32)) (M_values : (Nat → Int32)) (M_placeOf : (Nat → Int32)) (M_falling : (Nat → Int32)) (M_merges : Int32) (M_takes : (Nat → Int32)) (M_taken : (Nat → Int32)) : Nat → Int32 → Int32 → Int32 → (Nat → Int32) → (Nat → Int32) → (Nat → Int32) → Int32 → (Nat → Int32) → Option (Int32 × Int32 × (Nat → Int32) × (Nat → Int32) × (Nat → Int32) × Int32 × (Nat → Int32))
  | 0, _, _, _, _, _, _, _, _ => none
  | n + 1, v1, v2, M_allRuns, M_begin, M_size, M_pool, M_pooled, M_gone =>
    if M_merges ≤ v2 then
      some (v1, M_allRuns, M_begin, M_size, M_pool, M_pooled, M_gone)
    else
      bd1 (l_X7_merge_70 N N (0 : Int32) M_gone) fun e8 =>
      gd (ix M_allRuns 800) <|
      gd (ix M_allRuns 800) <|
      bd5 (l_X7_merge_114 N M_sorts M_values M_placeOf M_falling (upd M_begin M_allRuns.toNatClampNeg M_pooled) M_takes M_taken v2 M_allRuns N v1 (1 : Int32) (upd M_size M_allRuns.toNatClampNeg 0) M_pool M_pooled e8) fun e57 e58 e59 e60 e61 =>
      nl (M_allRuns + 1) fun x63 =>
      nl (v2 + 1) fun x64 =>
      l_X7_merge_60 N M_sorts M_values M_placeOf M_falling M_merges M_takes M_taken n e57 x64 x63 (upd M_begin M_allRuns.toNatClampNeg M_pooled) e58 e59 e60 e61
def f_X7_merge (N : Nat) (M_sorts : (Nat → Int32)) (M_values : (Nat → Int32)) (M_placeOf : (Nat → Int32)) (M_falling : (Nat → Int32)) (M_runs : Int32) (M_allRuns : Int32) (M_begin : (Nat → Int32)) (M_size : (Nat → Int32)) (M_pool : (Nat → Int32)) (M_pooled : Int32) (M_ways : Int32) (M_merges : Int32) (M_takes : (Nat → Int32)) (M_taken : (Nat → Int32)) (M_gone : (Nat → Int32))  : Option (Int32 × Int32 × (Nat → Int32) × (Nat → Int32) × (Nat → Int32) × Int32 × (Nat → Int32)) :=
  if M_ways = (-1 : Int32) then
    some ((-1 : Int32), M_allRuns, M_begin, M_size, M_pool, M_pooled, M_gone)
  else
    bd1 (if M_runs = 0 then
        some ((0 : Int32))
      else
        gd (ix (M_runs - 1) 800) <|
        gd (ix (M_runs - 1) 800) <|
        some (((M_begin (M_runs - 1).toNatClampNeg) + (M_size (M_runs - 1).toNatClampNeg))))
      fun y2 =>
    bd7 (l_X7_merge_60 N M_sorts M_values M_placeOf M_falling M_merges M_takes M_taken N (0 : Int32) (0 : Int32) M_runs M_begin M_size M_pool y2 M_gone) fun e65 e66 e67 e68 e69 e70 e71 =>
    some (e65, e66, e67, e68, e69, e70, e71)
def f_X7_isIn (N : Nat) (M_sorts : (Nat → Int32)) (M_values : (Nat → Int32)) (M_placeOf : (Nat → Int32)) (M_falling : (Nat → Int32)) (M_parts : Int32) (M_ends : (Nat → Int32)) (v1 : Int32) (v2 : Int32) : Option (Int32) :=
  if v2 ≤ 0 then
    if v2 = (M_parts - 1) then
      gd (bz (1 : Int32)) <|
      some ((1 : Int32))
    else
      gd (ix v2 8) <|
      if (M_ends v2.toNatClampNeg) = (-1 : Int32) then
        gd (bz (0 : Int32)) <|
        some ((0 : Int32))
      else
        gd (ix v2 8) <|
        bd1 (f_X7_ahead N M_sorts M_values M_placeOf M_falling (M_ends v2.toNatClampNeg) v1) fun r7 =>
        if r7 = 0 then
          gd (bz (1 : Int32)) <|
          some ((1 : Int32))
        else
          gd (bz (0 : Int32)) <|
          some ((0 : Int32))
  else
    gd (ix (v2 - 1) 8) <|
    if (M_ends (v2 - 1).toNatClampNeg) = (-1 : Int32) then
      if v2 = (M_parts - 1) then
        gd (bz (1 : Int32)) <|
        some ((1 : Int32))
      else
        gd (ix v2 8) <|
        if (M_ends v2.toNatClampNeg) = (-1 : Int32) then
          gd (bz (0 : Int32)) <|
          some ((0 : Int32))
        else
          gd (ix v2 8) <|
          bd1 (f_X7_ahead N M_sorts M_values M_placeOf M_falling (M_ends v2.toNatClampNeg) v1) fun r20 =>
          if r20 = 0 then
            gd (bz (1 : Int32)) <|
            some ((1 : Int32))
          else
            gd (bz (0 : Int32)) <|
            some ((0 : Int32))
    else
      gd (ix (v2 - 1) 8) <|
      bd1 (f_X7_ahead N M_sorts M_values M_placeOf M_falling (M_ends (v2 - 1).toNatClampNeg) v1) fun r27 =>
      if r27 = 0 then
        gd (bz (0 : Int32)) <|
        some ((0 : Int32))
      else
        if v2 = (M_parts - 1) then
          gd (bz (1 : Int32)) <|
          some ((1 : Int32))
        else
          gd (ix v2 8) <|
          if (M_ends v2.toNatClampNeg) = (-1 : Int32) then
            gd (bz (0 : Int32)) <|
            some ((0 : Int32))
          else
            gd (ix v2 8) <|
            bd1 (f_X7_ahead N M_sorts M_values M_placeOf M_falling (M_ends v2.toNatClampNeg) v1) fun r35 =>
            if r35 = 0 then
              gd (bz (1 : Int32)) <|
              some ((1 : Int32))
            else
              gd (bz (0 : Int32)) <|
              some ((0 : Int32))
def l_X7_left_4 (N : Nat) (M_parts : Int32) (M_partSize : (Nat → Int32)) (M_merged : (Nat → Int32)) (M_on : (Nat → Int32)) (v1 : Int32) : Nat → Int32 → Int32 → Option (Int32)
  | 0, _, _ => none
  | n + 1, v2, v3 =>
    if M_parts ≤ v3 then
      some (v2)
    else
      gd (ix v3 8) <|
      if (M_on v3.toNatClampNeg) = v1 then
        gd (ix v3 8) <|
        gd (ix v3 8) <|
        nl (v2 + ((M_partSize v3.toNatClampNeg) - (M_merged v3.toNatClampNeg))) fun x8 =>
        nl (v3 + 1) fun x9 =>
        l_X7_left_4 N M_parts M_partSize M_merged M_on v1 n x8 x9
      else
        nl (v2 + 0) fun x4 =>
        nl (v3 + 1) fun x5 =>
        l_X7_left_4 N M_parts M_partSize M_merged M_on v1 n x4 x5
def f_X7_left (N : Nat) (M_parts : Int32) (M_partSize : (Nat → Int32)) (M_merged : (Nat → Int32)) (M_on : (Nat → Int32)) (v1 : Int32) : Option (Int32) :=
  bd1 (l_X7_left_4 N M_parts M_partSize M_merged M_on v1 N (0 : Int32) (0 : Int32)) fun e10 =>
  some (e10)
def l_X7_leaves_55 (N : Nat) (M_parts : Int32) (M_partSize : (Nat → Int32)) (M_merged : (Nat → Int32)) (M_on : (Nat → Int32)) (M_up : (Nat → Int32)) : Nat → Int32 → Int32 → Option (Int32)
  | 0, _, _ => none
  | n + 1, v4, v5 =>
    if (8 : Int32) ≤ v5 then
      some (v4)
    else
      gd (ix v5 8) <|
      if (M_up v5.toNatClampNeg) = 0 then
        nl (v5 + 1) fun x11 =>
        l_X7_leaves_55 N M_parts M_partSize M_merged M_on M_up n v4 x11
      else
        if v4 = (-1 : Int32) then
          nl (v5 + 1) fun x13 =>
          l_X7_leaves_55 N M_parts M_partSize M_merged M_on M_up n v5 x13
        else
          bd1 (f_X7_left N M_parts M_partSize M_merged M_on v5) fun r14 =>
          bd1 (f_X7_left N M_parts M_partSize M_merged M_on v4) fun r16 =>
          if r16 ≤ r14 then
            nl (v5 + 1) fun x19 =>
            l_X7_leaves_55 N M_parts M_partSize M_merged M_on M_up n v4 x19
          else
            nl (v5 + 1) fun x20 =>
            l_X7_leaves_55 N M_parts M_partSize M_merged M_on M_up n v5 x20
def l_X7_leaves_4 (N : Nat) (M_parts : Int32) (M_partSize : (Nat → Int32)) (M_up : (Nat → Int32)) (v1 : Int32) : Nat → Int32 → Int32 → (Nat → Int32) → (Nat → Int32) → (Nat → Int32) → Option (Int32 × (Nat → Int32) × (Nat → Int32) × (Nat → Int32))
  | 0, _, _, _, _, _ => none
  | n + 1, v2, v3, M_merged, M_done, M_on =>
    if M_parts ≤ v3 then
      some (v2, M_merged, M_done, M_on)
    else
      gd (ix v3 8) <|
      if (M_on v3.toNatClampNeg) = v1 then
        nl (v2 + 1) fun x4 =>
        gd (ix v3 8) <|
        gd (ix v3 8) <|
        gd (ix v3 8) <|
        bd1 (l_X7_leaves_55 N M_parts M_partSize (upd M_merged v3.toNatClampNeg 0) (upd M_on v3.toNatClampNeg (-1)) M_up N (-1 : Int32) (0 : Int32)) fun e21 =>
        gd (ix v3 8) <|
        nl (v3 + 1) fun x24 =>
        l_X7_leaves_4 N M_parts M_partSize M_up v1 n x4 x24 (upd M_merged v3.toNatClampNeg 0) (upd M_done v3.toNatClampNeg (vp_nar .boolean 0)) (upd (upd M_on v3.toNatClampNeg (-1)) v3.toNatClampNeg e21)
      else
        nl (v3 + 1) fun x25 =>
        l_X7_leaves_4 N M_parts M_partSize M_up v1 n v2 x25 M_merged M_done M_on
def f_X7_leaves (N : Nat) (M_parts : Int32) (M_partSize : (Nat → Int32)) (M_merged : (Nat → Int32)) (M_done : (Nat → Int32)) (M_on : (Nat → Int32)) (M_up : (Nat → Int32)) (v1 : Int32) : Option (Int32 × (Nat → Int32) × (Nat → Int32) × (Nat → Int32)) :=
  bd4 (l_X7_leaves_4 N M_parts M_partSize M_up v1 N (0 : Int32) (0 : Int32) M_merged M_done M_on) fun e26 e27 e28 e29 =>
  some (e26, e27, e28, e29)
def l_X7_cut_92 (N : Nat) (M_sorts : (Nat → Int32)) (M_values : (Nat → Int32)) (M_placeOf : (Nat → Int32)) (M_falling : (Nat → Int32)) (v5 : Int32) : Nat → Int32 → (Nat → Int32) → Option (Int32 × (Nat → Int32))
  | 0, _, _ => none
  | n + 1, v6, M_sample =>
    if v6 ≤ 0 then
      some (v6, M_sample)
    else
      gd (ix (v6 - 1) 400) <|
      bd1 (f_X7_ahead N M_sorts M_values M_placeOf M_falling v5 (M_sample (v6 - 1).toNatClampNeg)) fun r17 =>
      if r17 = 0 then
        some (v6, M_sample)
      else
        gd (ix (v6 - 1) 400) <|
        nl (M_sample (v6 - 1).toNatClampNeg) fun x21 =>
        gd (ix v6 400) <|
        nl (v6 + (-1)) fun x23 =>
        l_X7_cut_92 N M_sorts M_values M_placeOf M_falling v5 n x23 (upd M_sample v6.toNatClampNeg x21)
def l_X7_cut_59 (N : Nat) (M_sorts : (Nat → Int32)) (M_values : (Nat → Int32)) (M_placeOf : (Nat → Int32)) (M_falling : (Nat → Int32)) (M_begin : (Nat → Int32)) (M_size : (Nat → Int32)) (M_pool : (Nat → Int32)) (v2 : Int32) (v3 : Int32) : Nat → Int32 → Int32 → (Nat → Int32) → Option (Int32 × (Nat → Int32))
  | 0, _, _, _ => none
  | n + 1, v4, M_samples, M_sample =>
    gd (ix v3 800) <|
    if (M_size v3.toNatClampNeg) ≤ v4 then
      some (M_samples, M_sample)
    else
      gd (ix v3 800) <|
      gd (ix ((M_begin v3.toNatClampNeg) + v4) 40000) <|
      nl (M_pool ((M_begin v3.toNatClampNeg) + v4).toNatClampNeg) fun x14 =>
      bd2 (l_X7_cut_92 N M_sorts M_values M_placeOf M_falling x14 N M_samples M_sample) fun e24 e25 =>
      gd (ix e24 400) <|
      nl (M_samples + 1) fun x28 =>
      nl (v4 + v2) fun x29 =>
      l_X7_cut_59 N M_sorts M_values M_placeOf M_falling M_begin M_size M_pool v2 v3 n x29 x28 (upd e25 e24.toNatClampNeg x14)
def l_X7_cut_46 (N : Nat) (M_sorts : (Nat → Int32)) (M_values : (Nat → Int32)) (M_placeOf : (Nat → Int32)) (M_falling : (Nat → Int32)) (M_runs : Int32) (M_begin : (Nat → Int32)) (M_size : (Nat → Int32)) (M_pool : (Nat → Int32)) (v2 : Int32) : Nat → Int32 → Int32 → (Nat → Int32) → Option (Int32 × (Nat → Int32))
  | 0, _, _, _ => none
  | n + 1, v3, M_samples, M_sample =>
    if M_runs ≤ v3 then
      some (M_samples, M_sample)
    else
      nl (v2 - 1) fun x9 =>
      bd2 (l_X7_cut_59 N M_sorts M_values M_placeOf M_falling M_begin M_size M_pool v2 v3 N x9 M_samples M_sample) fun e30 e31 =>
      nl (v3 + 1) fun x33 =>
      l_X7_cut_46 N M_sorts M_values M_placeOf M_falling M_runs M_begin M_size M_pool v2 n x33 e30 e31
def l_X7_cut_173 (N : Nat) (M_samples : Int32) (M_sample : (Nat → Int32)) (v1 : Int32) : Nat → Int32 → (Nat → Int32) → Option ((Nat → Int32))
  | 0, _, _ => none
  | n + 1, v3, M_ends =>
    if v1 < v3 then
      some (M_ends)
    else
      gd (nz v1) <|
      nl (((v3 * M_samples) / v1) - 1) fun x39 =>
      if v3 = v1 then
        gd (ix (v3 - 1) 8) <|
        nl (v3 + 1) fun x42 =>
        l_X7_cut_173 N M_samples M_sample v1 n x42 (upd M_ends (v3 - 1).toNatClampNeg (-1))
      else
        if 0 ≤ x39 then
          gd (ix x39 400) <|
          nl (M_sample x39.toNatClampNeg) fun x45 =>
          gd (ix (v3 - 1) 8) <|
          nl (v3 + 1) fun x47 =>
          l_X7_cut_173 N M_samples M_sample v1 n x47 (upd M_ends (v3 - 1).toNatClampNeg x45)
        else
          gd (ix (v3 - 1) 8) <|
          nl (v3 + 1) fun x49 =>
          l_X7_cut_173 N M_samples M_sample v1 n x49 (upd M_ends (v3 - 1).toNatClampNeg (-1))
def l_X7_cut_227 (N : Nat) (v1 : Int32) : Nat → Int32 → (Nat → Int32) → (Nat → Int32) → (Nat → Int32) → (Nat → Int32) → (Nat → Int32) → Option ((Nat → Int32) × (Nat → Int32) × (Nat → Int32) × (Nat → Int32) × (Nat → Int32))
  | 0, _, _, _, _, _, _ => none
  | n + 1, v3, M_partSize, M_merged, M_most, M_done, M_on =>
    if v1 ≤ v3 then
      some (M_partSize, M_merged, M_most, M_done, M_on)
    else
      gd (ix v3 8) <|
      gd (ix v3 8) <|
      gd (ix v3 8) <|
      gd (ix v3 8) <|
      gd (ix v3 8) <|
      nl (v3 + 1) fun x58 =>
      l_X7_cut_227 N v1 n x58 (upd M_partSize v3.toNatClampNeg 0) (upd M_merged v3.toNatClampNeg 0) (upd M_most v3.toNatClampNeg 0) (upd M_done v3.toNatClampNeg (vp_nar .boolean 0)) (upd M_on v3.toNatClampNeg v3)
def l_X7_cut_320 (N : Nat) (M_sorts : (Nat → Int32)) (M_values : (Nat → Int32)) (M_placeOf : (Nat → Int32)) (M_falling : (Nat → Int32)) (M_pool : (Nat → Int32)) (M_parts : Int32) (M_ends : (Nat → Int32)) (v1 : Int32) (v4 : Int32) : Nat → Int32 → (Nat → Int32) → Option ((Nat → Int32))
  | 0, _, _ => none
  | n + 1, v5, M_partSize =>
    if v1 ≤ v5 then
      some (M_partSize)
    else
      gd (ix v5 8) <|
      gd (ix v4 40000) <|
      bd1 (f_X7_isIn N M_sorts M_values M_placeOf M_falling M_parts M_ends (M_pool v4.toNatClampNeg) v5) fun r71 =>
      if r71 = 0 then
        nl ((M_partSize v5.toNatClampNeg) + 0) fun x74 =>
        gd (ix v5 8) <|
        nl (v5 + 1) fun x76 =>
        l_X7_cut_320 N M_sorts M_values M_placeOf M_falling M_pool M_parts M_ends v1 v4 n x76 (upd M_partSize v5.toNatClampNeg x74)
      else
        nl ((M_partSize v5.toNatClampNeg) + 1) fun x77 =>
        gd (ix v5 8) <|
        nl (v5 + 1) fun x79 =>
        l_X7_cut_320 N M_sorts M_values M_placeOf M_falling M_pool M_parts M_ends v1 v4 n x79 (upd M_partSize v5.toNatClampNeg x77)
def l_X7_cut_311 (N : Nat) (M_sorts : (Nat → Int32)) (M_values : (Nat → Int32)) (M_placeOf : (Nat → Int32)) (M_falling : (Nat → Int32)) (M_pool : (Nat → Int32)) (M_parts : Int32) (M_ends : (Nat → Int32)) (v1 : Int32) (v3 : Int32) : Nat → Int32 → (Nat → Int32) → Option ((Nat → Int32))
  | 0, _, _ => none
  | n + 1, v4, M_partSize =>
    if v3 ≤ v4 then
      some (M_partSize)
    else
      bd1 (l_X7_cut_320 N M_sorts M_values M_placeOf M_falling M_pool M_parts M_ends v1 v4 N (0 : Int32) M_partSize) fun e80 =>
      nl (v4 + 1) fun x82 =>
      l_X7_cut_311 N M_sorts M_values M_placeOf M_falling M_pool M_parts M_ends v1 v3 n x82 e80
def l_X7_cut_387 (N : Nat)  : Nat → Int32 → (Nat → Int32) → Option ((Nat → Int32))
  | 0, _, _ => none
  | n + 1, v4, M_byHost =>
    if (8 : Int32) ≤ v4 then
      some (M_byHost)
    else
      gd (ix v4 8) <|
      nl (v4 + 1) fun x87 =>
      l_X7_cut_387 N n x87 (upd M_byHost v4.toNatClampNeg 0)
def l_X7_cut_411 (N : Nat) (M_parts : Int32) (M_partSize : (Nat → Int32)) (M_up : (Nat → Int32)) : Nat → Int32 → (Nat → Int32) → (Nat → Int32) → (Nat → Int32) → Option ((Nat → Int32) × (Nat → Int32) × (Nat → Int32))
  | 0, _, _, _, _ => none
  | n + 1, v4, M_merged, M_done, M_on =>
    if (8 : Int32) ≤ v4 then
      some (M_merged, M_done, M_on)
    else
      gd (ix v4 8) <|
      if (M_up v4.toNatClampNeg) = 0 then
        bd4 (f_X7_leaves N M_parts M_partSize M_merged M_done M_on M_up v4) fun r94 c95 c96 c97 =>
        nl (v4 + 1) fun x99 =>
        l_X7_cut_411 N M_parts M_partSize M_up n x99 c95 c96 c97
      else
        nl (v4 + 1) fun x93 =>
        l_X7_cut_411 N M_parts M_partSize M_up n x93 M_merged M_done M_on
def f_X7_cut (N : Nat) (M_sorts : (Nat → Int32)) (M_values : (Nat → Int32)) (M_placeOf : (Nat → Int32)) (M_falling : (Nat → Int32)) (M_made : Int32) (M_runs : Int32) (M_begin : (Nat → Int32)) (M_size : (Nat → Int32)) (M_pool : (Nat → Int32)) (M_parts : Int32) (M_every : Int32) (M_samples : Int32) (M_sample : (Nat → Int32)) (M_ends : (Nat → Int32)) (M_partSize : (Nat → Int32)) (M_merged : (Nat → Int32)) (M_most : (Nat → Int32)) (M_done : (Nat → Int32)) (M_on : (Nat → Int32)) (M_ticks : Int32) (M_mergedAll : Int32) (M_again : Int32) (M_up : (Nat → Int32)) (M_byHost : (Nat → Int32)) (v1 : Int32) (v2 : Int32) : Option (Int32 × Int32 × Int32 × Int32 × (Nat → Int32) × (Nat → Int32) × (Nat → Int32) × (Nat → Int32) × (Nat → Int32) × (Nat → Int32) × (Nat → Int32) × Int32 × Int32 × Int32 × (Nat → Int32)) :=
  if M_made = 0 then
    some ((-1 : Int32), M_parts, M_every, M_samples, M_sample, M_ends, M_partSize, M_merged, M_most, M_done, M_on, M_ticks, M_mergedAll, M_again, M_byHost)
  else
    bd1 (f_X7_is N v1 (1 : Int32) (8 : Int32)) fun r2 =>
    if r2 = 0 then
      some ((-1 : Int32), M_parts, M_every, M_samples, M_sample, M_ends, M_partSize, M_merged, M_most, M_done, M_on, M_ticks, M_mergedAll, M_again, M_byHost)
    else
      bd1 (f_X7_is N v2 (1 : Int32) (20 : Int32)) fun r5 =>
      if r5 = 0 then
        some ((-1 : Int32), M_parts, M_every, M_samples, M_sample, M_ends, M_partSize, M_merged, M_most, M_done, M_on, M_ticks, M_mergedAll, M_again, M_byHost)
      else
        bd2 (l_X7_cut_46 N M_sorts M_values M_placeOf M_falling M_runs M_begin M_size M_pool v2 N (0 : Int32) 0 M_sample) fun e34 e35 =>
        bd1 (l_X7_cut_173 N e34 e35 v1 N (1 : Int32) M_ends) fun e50 =>
        bd5 (l_X7_cut_227 N v1 N (0 : Int32) M_partSize M_merged M_most M_done M_on) fun e59 e60 e61 e62 e63 =>
        bd1 (if M_runs = 0 then
            some ((0 : Int32))
          else
            gd (ix (M_runs - 1) 800) <|
            gd (ix (M_runs - 1) 800) <|
            some (((M_begin (M_runs - 1).toNatClampNeg) + (M_size (M_runs - 1).toNatClampNeg))))
          fun y65 =>
        bd1 (l_X7_cut_311 N M_sorts M_values M_placeOf M_falling M_pool v1 e50 v1 y65 N (0 : Int32) e59) fun e83 =>
        bd1 (l_X7_cut_387 N N (0 : Int32) M_byHost) fun e88 =>
        bd3 (l_X7_cut_411 N v1 e83 M_up N (0 : Int32) e60 e62 e63) fun e100 e101 e102 =>
        some (e34, v1, v2, e34, e35, e50, e83, e100, e61, e101, e102, 0, 0, 0, e88)
def f_X7_bound (N : Nat) (M_runs : Int32) (M_parts : Int32) (M_every : Int32) (M_samples : Int32)  : Option (Int32) :=
  if M_parts = 0 then
    some ((-1 : Int32))
  else
    gd (nz M_parts) <|
    some (((M_every * (((M_samples + M_parts) - 1) / M_parts)) + ((M_every - 1) * M_runs)))
def f_X7_part (N : Nat) (M_parts : Int32) (M_ends : (Nat → Int32)) (M_partSize : (Nat → Int32)) (M_merged : (Nat → Int32)) (M_on : (Nat → Int32)) (v1 : Int32) (v2 : Int32) : Option (Int32) :=
  if v1 < 0 then
    some ((-2 : Int32))
  else
    if v1 < M_parts then
      if v2 = 0 then
        gd (ix v1 8) <|
        some ((M_partSize v1.toNatClampNeg))
      else
        if v2 = 1 then
          gd (ix v1 8) <|
          some ((M_merged v1.toNatClampNeg))
        else
          if v2 = 2 then
            gd (ix v1 8) <|
            some ((M_on v1.toNatClampNeg))
          else
            if v2 = 3 then
              gd (ix v1 8) <|
              some ((M_ends v1.toNatClampNeg))
            else
              some ((-2 : Int32))
    else
      some ((-2 : Int32))
def f_X7_isHost (N : Nat)  (v0 : Int32) : Option (Int32) :=
  if v0 < 0 then
    gd (bz (0 : Int32)) <|
    some ((0 : Int32))
  else
    if (8 : Int32) ≤ v0 then
      gd (bz (0 : Int32)) <|
      some ((0 : Int32))
    else
      gd (bz (1 : Int32)) <|
      some ((1 : Int32))
def f_X7_pace (N : Nat) (M_paces : (Nat → Int32)) (v1 : Int32) (v2 : Int32) : Option (Int32 × (Nat → Int32)) :=
  bd1 (f_X7_isHost N v1) fun r1 =>
  if r1 = 0 then
    gd (bz (0 : Int32)) <|
    some ((0 : Int32), M_paces)
  else
    bd1 (f_X7_is N v2 (0 : Int32) (50 : Int32)) fun r5 =>
    if r5 = 0 then
      gd (bz (0 : Int32)) <|
      some ((0 : Int32), M_paces)
    else
      gd (ix v1 8) <|
      gd (bz (1 : Int32)) <|
      some ((1 : Int32), (upd M_paces v1.toNatClampNeg v2))
def f_X7_fall (N : Nat) (M_parts : Int32) (M_partSize : (Nat → Int32)) (M_merged : (Nat → Int32)) (M_done : (Nat → Int32)) (M_on : (Nat → Int32)) (M_up : (Nat → Int32)) (v1 : Int32) : Option (Int32 × (Nat → Int32) × (Nat → Int32) × (Nat → Int32) × (Nat → Int32)) :=
  bd1 (f_X7_isHost N v1) fun r1 =>
  if r1 = 0 then
    some ((-1 : Int32), M_merged, M_done, M_on, M_up)
  else
    gd (ix v1 8) <|
    if (M_up v1.toNatClampNeg) = 0 then
      some ((-1 : Int32), M_merged, M_done, M_on, M_up)
    else
      gd (ix v1 8) <|
      bd4 (f_X7_leaves N M_parts M_partSize M_merged M_done M_on (upd M_up v1.toNatClampNeg (vp_nar .boolean 0)) v1) fun r7 c8 c9 c10 =>
      some (r7, c8, c9, c10, (upd M_up v1.toNatClampNeg (vp_nar .boolean 0)))
def l_X7_rise_29 (N : Nat) (M_parts : Int32) (v1 : Int32) : Nat → Int32 → Int32 → (Nat → Int32) → Option (Int32 × (Nat → Int32))
  | 0, _, _, _ => none
  | n + 1, v2, v3, M_on =>
    if M_parts ≤ v3 then
      some (v2, M_on)
    else
      gd (ix v3 8) <|
      if (M_on v3.toNatClampNeg) = (-1 : Int32) then
        gd (ix v3 8) <|
        nl (v2 + 1) fun x11 =>
        nl (v3 + 1) fun x12 =>
        l_X7_rise_29 N M_parts v1 n x11 x12 (upd M_on v3.toNatClampNeg v1)
      else
        nl (v3 + 1) fun x13 =>
        l_X7_rise_29 N M_parts v1 n v2 x13 M_on
def f_X7_rise (N : Nat) (M_parts : Int32) (M_on : (Nat → Int32)) (M_up : (Nat → Int32)) (v1 : Int32) : Option (Int32 × (Nat → Int32) × (Nat → Int32)) :=
  bd1 (f_X7_isHost N v1) fun r1 =>
  if r1 = 0 then
    some ((-1 : Int32), M_on, M_up)
  else
    gd (ix v1 8) <|
    if (M_up v1.toNatClampNeg) = 0 then
      gd (ix v1 8) <|
      bd2 (l_X7_rise_29 N M_parts v1 N (0 : Int32) (0 : Int32) M_on) fun e14 e15 =>
      some (e14, e15, (upd M_up v1.toNatClampNeg (vp_nar .boolean 1)))
    else
      some ((-1 : Int32), M_on, M_up)
def l_X7_host_73 (N : Nat) (M_parts : Int32) (M_on : (Nat → Int32)) (v1 : Int32) : Nat → Int32 → Int32 → Option (Int32)
  | 0, _, _ => none
  | n + 1, v3, v4 =>
    if M_parts ≤ v4 then
      some (v3)
    else
      gd (ix v4 8) <|
      if (M_on v4.toNatClampNeg) = v1 then
        nl (v3 + 1) fun x15 =>
        nl (v4 + 1) fun x16 =>
        l_X7_host_73 N M_parts M_on v1 n x15 x16
      else
        nl (v3 + 0) fun x13 =>
        nl (v4 + 1) fun x14 =>
        l_X7_host_73 N M_parts M_on v1 n x13 x14
def f_X7_host (N : Nat) (M_parts : Int32) (M_partSize : (Nat → Int32)) (M_merged : (Nat → Int32)) (M_on : (Nat → Int32)) (M_paces : (Nat → Int32)) (M_up : (Nat → Int32)) (M_byHost : (Nat → Int32)) (v1 : Int32) (v2 : Int32) : Option (Int32) :=
  bd1 (f_X7_isHost N v1) fun r1 =>
  if r1 = 0 then
    some ((-1 : Int32))
  else
    if v2 = 0 then
      gd (ix v1 8) <|
      some ((M_paces v1.toNatClampNeg))
    else
      if v2 = 1 then
        gd (ix v1 8) <|
        if (M_up v1.toNatClampNeg) = 0 then
          some ((0 : Int32))
        else
          some ((1 : Int32))
      else
        if v2 = 2 then
          bd1 (l_X7_host_73 N M_parts M_on v1 N (0 : Int32) (0 : Int32)) fun e17 =>
          some (e17)
        else
          if v2 = 3 then
            bd1 (f_X7_left N M_parts M_partSize M_merged M_on v1) fun r20 =>
            some (r20)
          else
            if v2 = 4 then
              if M_parts = 0 then
                some ((0 : Int32))
              else
                gd (ix v1 8) <|
                some ((M_byHost v1.toNatClampNeg))
            else
              some ((-1 : Int32))
def l_X7_tick_55 (N : Nat) (M_parts : Int32) (M_partSize : (Nat → Int32)) (M_on : (Nat → Int32)) (v2 : Int32) : Nat → Int32 → Int32 → (Nat → Int32) → (Nat → Int32) → (Nat → Int32) → Int32 → Int32 → (Nat → Int32) → Option ((Nat → Int32) × (Nat → Int32) × (Nat → Int32) × Int32 × Int32 × (Nat → Int32))
  | 0, _, _, _, _, _, _, _, _ => none
  | n + 1, v3, v4, M_merged, M_most, M_done, M_mergedAll, M_again, M_byHost =>
    if M_parts ≤ v4 then
      some (M_merged, M_most, M_done, M_mergedAll, M_again, M_byHost)
    else
      if v3 < 0 then
        some (M_merged, M_most, M_done, M_mergedAll, M_again, M_byHost)
      else
        gd (ix v4 8) <|
        if (M_on v4.toNatClampNeg) = v2 then
          gd (ix v4 8) <|
          if (M_done v4.toNatClampNeg) = 0 then
            gd (ix v4 8) <|
            gd (ix v4 8) <|
            bd1 (if v3 ≤ ((M_partSize v4.toNatClampNeg) - (M_merged v4.toNatClampNeg)) then
                some (v3)
              else
                gd (ix v4 8) <|
                gd (ix v4 8) <|
                some (((M_partSize v4.toNatClampNeg) - (M_merged v4.toNatClampNeg))))
              fun y16 =>
            gd (ix v4 8) <|
            gd (ix v4 8) <|
            bd1 (if ((M_merged v4.toNatClampNeg) + y16) = (M_partSize v4.toNatClampNeg) then
                some ((1 : Int32))
              else
                some ((0 : Int32)))
              fun y20 =>
            gd (ix v4 8) <|
            gd (ix v4 8) <|
            gd (ix v4 8) <|
            bd1 (if y16 ≤ ((M_most v4.toNatClampNeg) - (M_merged v4.toNatClampNeg)) then
                some (y16)
              else
                gd (ix v4 8) <|
                gd (ix v4 8) <|
                some (((M_most v4.toNatClampNeg) - (M_merged v4.toNatClampNeg))))
              fun y25 =>
            bd1 (if y25 ≤ 0 then
                some ((0 : Int32))
              else
                some (y25))
              fun y27 =>
            nl (M_again + y27) fun x29 =>
            gd (ix v4 8) <|
            nl ((M_merged v4.toNatClampNeg) + y16) fun x31 =>
            gd (ix v4 8) <|
            gd (ix v4 8) <|
            gd (ix v4 8) <|
            bd1 (if ((upd M_merged v4.toNatClampNeg x31) v4.toNatClampNeg) ≤ (M_most v4.toNatClampNeg) then
                gd (ix v4 8) <|
                some ((M_most v4.toNatClampNeg))
              else
                gd (ix v4 8) <|
                some (((upd M_merged v4.toNatClampNeg x31) v4.toNatClampNeg)))
              fun y35 =>
            gd (ix v4 8) <|
            nl (M_mergedAll + y16) fun x38 =>
            gd (ix v2 8) <|
            nl ((M_byHost v2.toNatClampNeg) + y16) fun x40 =>
            gd (ix v2 8) <|
            gd (ix v4 8) <|
            if ((upd M_done v4.toNatClampNeg (vp_nar .boolean y20)) v4.toNatClampNeg) = 0 then
              nl (v4 + 1) fun x44 =>
              l_X7_tick_55 N M_parts M_partSize M_on v2 n (-1 : Int32) x44 (upd M_merged v4.toNatClampNeg x31) (upd M_most v4.toNatClampNeg y35) (upd M_done v4.toNatClampNeg (vp_nar .boolean y20)) x38 x29 (upd M_byHost v2.toNatClampNeg x40)
            else
              nl (v3 - y16) fun x45 =>
              nl (v4 + 1) fun x46 =>
              l_X7_tick_55 N M_parts M_partSize M_on v2 n x45 x46 (upd M_merged v4.toNatClampNeg x31) (upd M_most v4.toNatClampNeg y35) (upd M_done v4.toNatClampNeg (vp_nar .boolean y20)) x38 x29 (upd M_byHost v2.toNatClampNeg x40)
          else
            nl (v4 + 1) fun x58 =>
            l_X7_tick_55 N M_parts M_partSize M_on v2 n v3 x58 M_merged M_most M_done M_mergedAll M_again M_byHost
        else
          nl (v4 + 1) fun x11 =>
          l_X7_tick_55 N M_parts M_partSize M_on v2 n v3 x11 M_merged M_most M_done M_mergedAll M_again M_byHost
def l_X7_tick_26 (N : Nat) (M_parts : Int32) (M_partSize : (Nat → Int32)) (M_on : (Nat → Int32)) (M_paces : (Nat → Int32)) (M_up : (Nat → Int32)) : Nat → Int32 → (Nat → Int32) → (Nat → Int32) → (Nat → Int32) → Int32 → Int32 → (Nat → Int32) → Option ((Nat → Int32) × (Nat → Int32) × (Nat → Int32) × Int32 × Int32 × (Nat → Int32))
  | 0, _, _, _, _, _, _, _ => none
  | n + 1, v2, M_merged, M_most, M_done, M_mergedAll, M_again, M_byHost =>
    if (8 : Int32) ≤ v2 then
      some (M_merged, M_most, M_done, M_mergedAll, M_again, M_byHost)
    else
      gd (ix v2 8) <|
      bd1 (if (M_up v2.toNatClampNeg) = 0 then
          some ((-1 : Int32))
        else
          gd (ix v2 8) <|
          some ((M_paces v2.toNatClampNeg)))
        fun y5 =>
      bd6 (l_X7_tick_55 N M_parts M_partSize M_on v2 N y5 (0 : Int32) M_merged M_most M_done M_mergedAll M_again M_byHost) fun e59 e60 e61 e62 e63 e64 =>
      nl (v2 + 1) fun x66 =>
      l_X7_tick_26 N M_parts M_partSize M_on M_paces M_up n x66 e59 e60 e61 e62 e63 e64
def f_X7_tick (N : Nat) (M_parts : Int32) (M_partSize : (Nat → Int32)) (M_merged : (Nat → Int32)) (M_most : (Nat → Int32)) (M_done : (Nat → Int32)) (M_on : (Nat → Int32)) (M_ticks : Int32) (M_mergedAll : Int32) (M_again : Int32) (M_paces : (Nat → Int32)) (M_up : (Nat → Int32)) (M_byHost : (Nat → Int32))  : Option (Int32 × (Nat → Int32) × (Nat → Int32) × (Nat → Int32) × Int32 × Int32 × Int32 × (Nat → Int32)) :=
  if M_parts = 0 then
    some ((-1 : Int32), M_merged, M_most, M_done, M_ticks, M_mergedAll, M_again, M_byHost)
  else
    nl (M_ticks + 1) fun x2 =>
    bd6 (l_X7_tick_26 N M_parts M_partSize M_on M_paces M_up N (0 : Int32) M_merged M_most M_done M_mergedAll M_again M_byHost) fun e69 e70 e71 e72 e73 e74 =>
    some ((e72 - M_mergedAll), e69, e70, e71, x2, e72, e73, e74)
def l_X7_isThere_15 (N : Nat) (M_parts : Int32) (M_done : (Nat → Int32)) : Nat → Int32 → Int32 → Option (Int32)
  | 0, _, _ => none
  | n + 1, v1, v2 =>
    if M_parts ≤ v2 then
      some (v1)
    else
      if v1 = 0 then
        nl (v2 + 1) fun x5 =>
        l_X7_isThere_15 N M_parts M_done n (0 : Int32) x5
      else
        gd (ix v2 8) <|
        if (M_done v2.toNatClampNeg) = 0 then
          nl (v2 + 1) fun x8 =>
          l_X7_isThere_15 N M_parts M_done n (0 : Int32) x8
        else
          nl (v2 + 1) fun x9 =>
          l_X7_isThere_15 N M_parts M_done n (1 : Int32) x9
def f_X7_isThere (N : Nat) (M_parts : Int32) (M_done : (Nat → Int32))  : Option (Int32) :=
  bd1 (if M_parts ≤ 0 then
      some ((0 : Int32))
    else
      some ((1 : Int32)))
    fun y1 =>
  bd1 (l_X7_isThere_15 N M_parts M_done N y1 (0 : Int32)) fun e10 =>
  gd (bz e10) <|
  some (e10)
def l_X7_work_65 (N : Nat) (M_parts : Int32) (M_done : (Nat → Int32)) : Nat → Int32 → Int32 → Option (Int32)
  | 0, _, _ => none
  | n + 1, v2, v3 =>
    if M_parts ≤ v3 then
      some (v2)
    else
      gd (ix v3 8) <|
      if (M_done v3.toNatClampNeg) = 0 then
        nl (v2 + 0) fun x9 =>
        nl (v3 + 1) fun x10 =>
        l_X7_work_65 N M_parts M_done n x9 x10
      else
        nl (v2 + 1) fun x11 =>
        nl (v3 + 1) fun x12 =>
        l_X7_work_65 N M_parts M_done n x11 x12
def f_X7_work (N : Nat) (M_parts : Int32) (M_done : (Nat → Int32)) (M_ticks : Int32) (M_mergedAll : Int32) (M_again : Int32) (v1 : Int32) : Option (Int32) :=
  if M_parts = 0 then
    some ((-1 : Int32))
  else
    if v1 = 0 then
      some (M_ticks)
    else
      if v1 = 1 then
        some (M_mergedAll)
      else
        if v1 = 2 then
          some (M_again)
        else
          if v1 = 3 then
            bd1 (l_X7_work_65 N M_parts M_done N (0 : Int32) (0 : Int32)) fun e13 =>
            some (e13)
          else
            if v1 = 4 then
              bd1 (f_X7_isThere N M_parts M_done) fun r16 =>
              if r16 = 0 then
                some ((0 : Int32))
              else
                some ((1 : Int32))
            else
              some ((-1 : Int32))
def l_X7_end_68 (N : Nat) (M_sorts : (Nat → Int32)) (M_values : (Nat → Int32)) (M_placeOf : (Nat → Int32)) (M_falling : (Nat → Int32)) (M_pool : (Nat → Int32)) (v2 : Int32) (v3 : Int32) : Nat → Int32 → Int32 → Option (Int32)
  | 0, _, _ => none
  | n + 1, v4, v5 =>
    if v2 ≤ v5 then
      some (v4)
    else
      if v5 = v3 then
        nl (v4 + 0) fun x11 =>
        nl (v5 + 1) fun x12 =>
        l_X7_end_68 N M_sorts M_values M_placeOf M_falling M_pool v2 v3 n x11 x12
      else
        gd (ix v5 40000) <|
        gd (ix v3 40000) <|
        bd1 (f_X7_ahead N M_sorts M_values M_placeOf M_falling (M_pool v5.toNatClampNeg) (M_pool v3.toNatClampNeg)) fun r15 =>
        if r15 = 0 then
          nl (v4 + 0) fun x18 =>
          nl (v5 + 1) fun x19 =>
          l_X7_end_68 N M_sorts M_values M_placeOf M_falling M_pool v2 v3 n x18 x19
        else
          nl (v4 + 1) fun x20 =>
          nl (v5 + 1) fun x21 =>
          l_X7_end_68 N M_sorts M_values M_placeOf M_falling M_pool v2 v3 n x20 x21
def l_X7_end_57 (N : Nat) (M_sorts : (Nat → Int32)) (M_values : (Nat → Int32)) (M_placeOf : (Nat → Int32)) (M_falling : (Nat → Int32)) (M_pool : (Nat → Int32)) (v1 : Int32) (v2 : Int32) : Nat → Int32 → Option (Option Int32)
  | 0, _ => none
  | n + 1, v3 =>
    if v2 ≤ v3 then
      some none
    else
      bd1 (l_X7_end_68 N M_sorts M_values M_placeOf M_falling M_pool v2 v3 N (0 : Int32) (0 : Int32)) fun e22 =>
      if e22 = v1 then
        gd (ix v3 40000) <|
        some (some (M_pool v3.toNatClampNeg))
      else
        nl (v3 + 1) fun x25 =>
        l_X7_end_57 N M_sorts M_values M_placeOf M_falling M_pool v1 v2 n x25
def f_X7_end (N : Nat) (M_sorts : (Nat → Int32)) (M_values : (Nat → Int32)) (M_placeOf : (Nat → Int32)) (M_falling : (Nat → Int32)) (M_runs : Int32) (M_begin : (Nat → Int32)) (M_size : (Nat → Int32)) (M_pool : (Nat → Int32)) (M_parts : Int32) (M_done : (Nat → Int32)) (v1 : Int32) : Option (Int32) :=
  bd1 (f_X7_isThere N M_parts M_done) fun r1 =>
  if r1 = 0 then
    some ((-1 : Int32))
  else
    bd1 (if M_runs = 0 then
        some ((0 : Int32))
      else
        gd (ix (M_runs - 1) 800) <|
        gd (ix (M_runs - 1) 800) <|
        some (((M_begin (M_runs - 1).toNatClampNeg) + (M_size (M_runs - 1).toNatClampNeg))))
      fun y4 =>
    if v1 < 0 then
      some ((-1 : Int32))
    else
      if v1 < y4 then
        bd1 (l_X7_end_57 N M_sorts M_values M_placeOf M_falling M_pool v1 y4 N (0 : Int32)) fun e27 =>
        match e27 with
        | none =>
          some ((-1 : Int32))
        | some r29 =>
          some (r29)
      else
        some ((-1 : Int32))
def f_X7_count (N : Nat) (M_rows : Int32) (M_runs : Int32) (M_parts : Int32) (M_samples : Int32) (v1 : Int32) : Option (Int32) :=
  if v1 = 0 then
    some (M_rows)
  else
    if v1 = 1 then
      some (M_runs)
    else
      if v1 = 2 then
        some (M_samples)
      else
        if v1 = 3 then
          some (M_parts)
        else
          some ((-1 : Int32))
def l_X2_init_22 (N : Nat)  : Nat → Int32 → (Nat → Int32) → (Nat → Int32) → Option ((Nat → Int32) × (Nat → Int32))
  | 0, _, _, _ => none
  | n + 1, v1, O_paces, O_up =>
    if (8 : Int32) ≤ v1 then
      some (O_paces, O_up)
    else
      gd (ix v1 8) <|
      gd (ix v1 8) <|
      nl (v1 + 1) fun x1004 =>
      l_X2_init_22 N n x1004 (upd O_paces v1.toNatClampNeg 10) (upd O_up v1.toNatClampNeg (vp_nar .boolean 1))
def f_X2_init (N : Nat) : Option ((Nat → Int32) × (Nat → Int32)) :=
  bd2 (l_X2_init_22 N N (0 : Int32) (fun _ => 0) (fun _ => 0)) fun e1005 e1006 =>
  some (e1005, e1006)
def l_X7_init_262 (N : Nat)  : Nat → Int32 → (Nat → Int32) → Option ((Nat → Int32))
  | 0, _, _ => none
  | n + 1, v1, M_placeOf =>
    if (4 : Int32) ≤ v1 then
      some (M_placeOf)
    else
      gd (ix v1 4) <|
      nl (v1 + 1) fun x1003 =>
      l_X7_init_262 N n x1003 (upd M_placeOf v1.toNatClampNeg v1)
def l_X7_init_282 (N : Nat)  : Nat → Int32 → (Nat → Int32) → (Nat → Int32) → Option ((Nat → Int32) × (Nat → Int32))
  | 0, _, _, _ => none
  | n + 1, v1, M_paces, M_up =>
    if (8 : Int32) ≤ v1 then
      some (M_paces, M_up)
    else
      gd (ix v1 8) <|
      gd (ix v1 8) <|
      nl (v1 + 1) fun x1009 =>
      l_X7_init_282 N n x1009 (upd M_paces v1.toNatClampNeg 10) (upd M_up v1.toNatClampNeg (vp_nar .boolean 1))
def f_X7_init (N : Nat) : Option ((Nat → Int32) × (Nat → Int32) × (Nat → Int32)) :=
  bd1 (l_X7_init_262 N N (0 : Int32) (fun _ => 0)) fun e1004 =>
  bd2 (l_X7_init_282 N N (0 : Int32) (fun _ => 0) (fun _ => 0)) fun e1010 e1011 =>
  some (e1004, e1010, e1011)
