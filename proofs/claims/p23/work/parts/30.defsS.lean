def F_S_isWithin (a1 : Int32) (a2 : Int32) (a3 : Int32) : Int32 :=
  let j_15 : Int32 :=
    if a1 < a2 then
      (0 : Int32)
    else
      if a3 < a1 then
        (0 : Int32)
      else
        (1 : Int32)
  j_15
def F_S_isLength (a1 : Int32) : Int32 :=
  let r_6 : Int32 := (F_S_isWithin a1 (10 : Int32) (400 : Int32))
  r_6
def F_S_recordState (S : SLS) : SLS :=
  let j_12 : SLS :=
    if (S.2.2 5) = (4 : Int32) then
      let r_9 : SLS := (F_S_dropOldestState S)
      r_9
    else
      S
  let S_25 : SLS := sSC j_12 (3 + (j_12.2.2 5).toNatClampNeg) (cpC (j_12.1 (3 + (j_12.2.2 5).toNatClampNeg)) (j_12.1 0))
  let S_35 : SLS := sV S_25 5 ((S_25.2.2 5) + (1 : Int32))
  S_35
def F_S_addPath (S : SLS) (a1 : Int32) : Int32 × SLS :=
  let r_1 : Int32 := (F_S_isLength a1)
  if r_1 = (0 : Int32) then
    ((-2 : Int32), S)
  else
    if ((S.1 0).1 4 2) < (8 : Int32) then
      let r_26 : SLS := (F_S_recordState S)
      let v_36 : Int32 := ((r_26.1 0).1 4 2)
      let S_46 : SLS := sSC r_26 0 (sC (r_26.1 0) 0 (v_36.toNatClampNeg) a1)
      let S_54 : SLS := sSC S_46 0 (sC (S_46.1 0) 4 2 (v_36 + (1 : Int32)))
      (v_36, S_54)
    else
      ((-3 : Int32), S)
def F_S_isPath (S : SLS) (a1 : Int32) : Int32 :=
  let r_11 : Int32 := (F_S_isWithin a1 (0 : Int32) (((S.1 0).1 4 2) - (1 : Int32)))
  r_11
def F_S_setLength (S : SLS) (a1 : Int32) (a2 : Int32) : Int32 × SLS :=
  let r_2 : Int32 := (F_S_isPath S a1)
  if r_2 = (0 : Int32) then
    ((-1 : Int32), S)
  else
    let r_11 : Int32 := (F_S_isLength a2)
    if r_11 = (0 : Int32) then
      ((-2 : Int32), S)
    else
      let v_29 : Int32 := ((S.1 0).1 0 (a1.toNatClampNeg))
      if v_29 = a2 then
        ((-5 : Int32), S)
      else
        let r_39 : SLS := (F_S_recordState S)
        let S_51 : SLS := sSC r_39 0 (sC (r_39.1 0) 0 (a1.toNatClampNeg) a2)
        (v_29, S_51)
def L_S_takeWorkload_66 : Nat → Int32 → SLS → SLS
  | 0, x2_66, S_66 => S_66
  | n + 1, x2_66, S_66 =>
    if (S_66.2.1 2 3) ≤ x2_66 then
      S_66
    else
      let S_94 : SLS := sSC S_66 0 (sC (S_66.1 0) 2 (x2_66.toNatClampNeg) (S_66.2.1 1 (x2_66.toNatClampNeg)))
      let v_95 : Int32 := x2_66 + (1 : Int32)
      L_S_takeWorkload_66 n v_95 S_94

def L_S_takeWorkload_20 (S_4 : SLS) : Nat → Int32 → Int32 × SLS
  | 0, x2_20 => (0, S_4)
  | n + 1, x2_20 =>
    if (S_4.2.1 2 3) ≤ x2_20 then
      let r_61 : SLS := (F_S_recordState S_4)
      let q_66 : SLS := L_S_takeWorkload_66 17 (0 : Int32) r_61
      let r_112 : CS := (F_C_beginWorkload (q_66.1 0) (q_66.2.1 2 3))
      let S_112 : SLS := sSC q_66 0 r_112
      ((S_112.2.1 2 3), S_112)
    else
      if (S_4.2.1 1 (x2_20.toNatClampNeg)) < ((1 : Int32) <<< (((S_4.1 0).1 4 2) &&& 31)) then
        let v_54 : Int32 := x2_20 + (1 : Int32)
        L_S_takeWorkload_20 S_4 n v_54
      else
        ((-1 : Int32), S_4)

def F_S_takeWorkload (S : SLS) : Int32 × SLS :=
  let r_4 : Int32 × ARR := (F_T_read S.2.1)
  let S_4 : SLS := sT S r_4.2
  if r_4.1 = (-1 : Int32) then
    L_S_takeWorkload_20 S_4 17 (0 : Int32)
  else
    (((-100 : Int32) - r_4.1), S_4)
def L_S_layWorkload_36 (a1 : Int32) : Nat → Int32 → Int32 → Int32 → SLS → Int32 × SLS
  | 0, x3_36, x4_36, x5_36, S_36 => (x4_36, S_36)
  | n + 1, x3_36, x4_36, x5_36, S_36 =>
    if a1 ≤ x5_36 then
      (x4_36, S_36)
    else
      let v_55 : Int32 := ((((421 : Int32) * x3_36) + (1663 : Int32)) - (((421 : Int32) * x3_36) + (1663 : Int32)) / (10000 : Int32) * (10000 : Int32))
      let S_79 : SLS := sSC S_36 0 (sC (S_36.1 0) 2 (x5_36.toNatClampNeg) ((v_55 / (16 : Int32)) - (v_55 / (16 : Int32)) / ((1 : Int32) <<< (((S_36.1 0).1 4 2) &&& 31)) * ((1 : Int32) <<< (((S_36.1 0).1 4 2) &&& 31))))
      let r_92 : Int32 := (F_J_bitCount ((S_79.1 0).1 2 (x5_36.toNatClampNeg)))
      let v_96 : Int32 := (x4_36 + r_92)
      let v_98 : Int32 := x5_36 + (1 : Int32)
      L_S_layWorkload_36 a1 n v_55 v_96 v_98 S_79

def F_S_layWorkload (S : SLS) (a1 : Int32) (a2 : Int32) : Int32 × SLS :=
  let r_4 : Int32 := (F_S_isWithin a1 (1 : Int32) (16 : Int32))
  if r_4 = (0 : Int32) then
    ((-2 : Int32), S)
  else
    let r_15 : Int32 := (F_S_isWithin a2 (0 : Int32) (9999 : Int32))
    if r_15 = (0 : Int32) then
      ((-2 : Int32), S)
    else
      let r_25 : SLS := (F_S_recordState S)
      let q_36 : Int32 × SLS := L_S_layWorkload_36 a1 17 a2 (0 : Int32) (0 : Int32) r_25
      let r_109 : CS := (F_C_beginWorkload (q_36.2.1 0) a1)
      let S_109 : SLS := sSC q_36.2 0 r_109
      (q_36.1, S_109)
def F_S_isVoltage (a1 : Int32) : Int32 :=
  let r_7 : Int32 := (F_S_isWithin a1 (500 : Int32) (1200 : Int32))
  r_7
def F_S_setVoltage (S : SLS) (a1 : Int32) : Int32 × SLS :=
  let r_1 : Int32 := (F_S_isVoltage a1)
  if r_1 = (0 : Int32) then
    ((-2 : Int32), S)
  else
    let v_17 : Int32 := ((S.1 0).1 4 7)
    if v_17 = a1 then
      ((-5 : Int32), S)
    else
      let r_27 : SLS := (F_S_recordState S)
      let S_35 : SLS := sSC r_27 0 (sC (r_27.1 0) 4 7 a1)
      (v_17, S_35)
def F_S_govern (S : SLS) (a1 : Int32) : Int32 × SLS :=
  if ((S.1 0).1 4 9) = a1 then
    ((-5 : Int32), S)
  else
    let r_15 : SLS := (F_S_recordState S)
    let S_23 : SLS := sSC r_15 0 (sC (r_15.1 0) 4 9 a1)
    let r_30 : CS := (F_C_beginWindow (S_23.1 0))
    let S_30 : SLS := sSC S_23 0 r_30
    (((S_30.1 0).1 4 7), S_30)
def F_S_run (S : SLS) (a1 : Int32) : Int32 × SLS :=
  let r_5 : Int32 := (F_S_isWithin a1 (1 : Int32) (2000 : Int32))
  if r_5 = (0 : Int32) then
    ((-2 : Int32), S)
  else
    let r_15 : SLS := (F_S_recordState S)
    let v_25 : Int32 := ((r_15.1 0).1 4 14)
    let r_31 : CS := (F_C_runCycles (r_15.1 0) a1)
    let S_31 : SLS := sSC r_15 0 r_31
    ((((S_31.1 0).1 4 14) - v_25), S_31)
def F_S_type (S : SLS) (a1 : Int32) : Int32 × SLS :=
  let r_5 : Int32 × ARR := (F_T_append S.2.1 a1)
  let S_5 : SLS := sT S r_5.2
  let j_23 : Int32 :=
    if r_5.1 = (0 : Int32) then
      (-3 : Int32)
    else
      (S_5.2.1 2 1)
  (j_23, S_5)
def F_S_clearText (S : SLS) : Int32 × SLS :=
  let v_7 : Int32 := (S.2.1 2 1)
  let S_13 : SLS := sT S (sA S.2.1 2 1 (0 : Int32))
  (v_7, S_13)
def F_S_undo (S : SLS) : Int32 × SLS :=
  if (S.2.2 5) = (0 : Int32) then
    ((-5 : Int32), S)
  else
    let S_17 : SLS := sV S 5 ((S.2.2 5) - (1 : Int32))
    let S_33 : SLS := sSC S_17 0 (cpC (S_17.1 0) (S_17.1 (3 + (S_17.2.2 5).toNatClampNeg)))
    ((S_33.2.2 5), S_33)
def F_S_keep (S : SLS) : Int32 × SLS :=
  let S_8 : SLS := sSC S 1 (cpC (S.1 1) (S.1 0))
  let S_13 : SLS := sV S_8 6 (1 : Int32)
  (((S_13.1 0).1 4 7), S_13)
def F_S_restore (S : SLS) : Int32 × SLS :=
  if (S.2.2 6) = (0 : Int32) then
    ((-5 : Int32), S)
  else
    let r_11 : SLS := (F_S_recordState S)
    let S_22 : SLS := sSC r_11 0 (cpC (r_11.1 0) (r_11.1 1))
    (((S_22.1 0).1 4 7), S_22)
def F_S_path (S : SLS) (a1 : Int32) (a2 : Int32) : Int32 :=
  let r_2 : Int32 := (F_S_isPath S a1)
  if r_2 = (0 : Int32) then
    (-1 : Int32)
  else
    if a2 = (0 : Int32) then
      ((S.1 0).1 0 (a1.toNatClampNeg))
    else
    if a2 = (1 : Int32) then
      let r_59 : Int32 := (F_C_delayNow (S.1 0) a1)
      r_59
    else
    if a2 = (2 : Int32) then
      let r_72 : Int32 := (F_C_delayNow (S.1 0) a1)
      let r_75 : Int32 := (F_C_judge (S.1 0) r_72)
      r_75
    else
    if a2 = (3 : Int32) then
      ((S.1 0).1 1 (a1.toNatClampNeg))
    else
    if a2 = (4 : Int32) then
      let r_94 : Int32 := (F_C_setsWith (S.1 0) a1)
      r_94
    else
      (-2 : Int32)
def F_S_delay (S : SLS) (a1 : Int32) (a2 : Int32) (a3 : Int32) : Int32 :=
  let r_2 : Int32 := (F_S_isPath S a1)
  if r_2 = (0 : Int32) then
    (-1 : Int32)
  else
    let r_11 : Int32 := (F_S_isVoltage a2)
    if r_11 = (0 : Int32) then
      (-2 : Int32)
    else
      let r_22 : Int32 := (F_S_isWithin a3 (20 : Int32) (120 : Int32))
      if r_22 = (0 : Int32) then
        (-2 : Int32)
      else
        let r_42 : Int32 := (F_C_delayOf ((S.1 0).1 0 (a1.toNatClampNeg)) a2 a3)
        r_42
def F_S_workload (S : SLS) (a1 : Int32) : Int32 :=
  if (0 : Int32) ≤ a1 then
    let j_32 : Int32 :=
      if ((S.1 0).1 4 4) ≤ a1 then
        (-5 : Int32)
      else
        ((S.1 0).1 2 (a1.toNatClampNeg))
    j_32
  else
    (-2 : Int32)
def L_S_least_23 (S : SLS) (r_4 : Int32) (j_17 : Int32) : Nat → Int32 → Int32
  | 0, x4_23 => 0
  | n + 1, x4_23 =>
    if (1200 : Int32) < x4_23 then
      (-5 : Int32)
    else
      let r_45 : Int32 := (F_C_delayOf r_4 x4_23 ((S.1 0).1 4 8))
      let r_48 : Int32 := (F_C_judge (S.1 0) r_45)
      if j_17 < r_48 then
        let v_58 : Int32 := x4_23 + (1 : Int32)
        L_S_least_23 S r_4 j_17 n v_58
      else
        x4_23

def F_S_least (S : SLS) (a1 : Int32) : Int32 :=
  let r_4 : Int32 := (F_C_longestInWorkload (S.1 0))
  let j_17 : Int32 :=
    if a1 = (0 : Int32) then
      (0 : Int32)
    else
      (1 : Int32)
  L_S_least_23 S r_4 j_17 702 (500 : Int32)
def F_S_tryCycles (S : SLS) (a1 : Int32) (a2 : Int32) : SLS :=
  let S_8 : SLS := sSC S 2 (cpC (S.1 2) (S.1 0))
  let S_16 : SLS := sSC S_8 2 (sC (S_8.1 2) 4 9 (0 : Int32))
  let S_24 : SLS := sSC S_16 2 (sC (S_16.1 2) 4 7 a1)
  let r_32 : CS := (F_C_runCycles (S_24.1 2) a2)
  let S_32 : SLS := sSC S_24 2 r_32
  S_32
def F_S_would (S : SLS) (a1 : Int32) (a2 : Int32) (a3 : Int32) : Int32 × SLS :=
  let r_1 : Int32 := (F_S_isVoltage a1)
  if r_1 = (0 : Int32) then
    ((-2 : Int32), S)
  else
    let r_12 : Int32 := (F_S_isWithin a2 (1 : Int32) (500 : Int32))
    if r_12 = (0 : Int32) then
      ((-2 : Int32), S)
    else
      let r_21 : Int32 := (F_S_isWithin a3 (0 : Int32) (4 : Int32))
      if r_21 = (0 : Int32) then
        ((-2 : Int32), S)
      else
        let r_33 : SLS := (F_S_tryCycles S a1 a2)
        if a3 = (0 : Int32) then
          ((((r_33.1 2).1 4 14) - ((r_33.1 0).1 4 14)), r_33)
        else
        if a3 = (1 : Int32) then
          ((((r_33.1 2).1 4 15) - ((r_33.1 0).1 4 15)), r_33)
        else
        if a3 = (2 : Int32) then
          (((((r_33.1 2).2) - ((r_33.1 0).2)).toInt32), r_33)
        else
        if a3 = (3 : Int32) then
          ((((r_33.1 2).1 4 12) - ((r_33.1 0).1 4 12)), r_33)
        else
          (((r_33.1 2).1 4 8), r_33)
def L_S_best_24 (a1 : Int32) : Nat → Int32 → Int64 → Int32 → SLS → Int32 × SLS
  | 0, x2_24, x3_24, x5_24, S_24 => (x2_24, S_24)
  | n + 1, x2_24, x3_24, x5_24, S_24 =>
    if (1200 : Int32) < x5_24 then
      (x2_24, S_24)
    else
      let r_36 : SLS := (F_S_tryCycles S_24 x5_24 a1)
      let v_54 : Int64 := (((r_36.1 2).2) - ((r_36.1 0).2))
      let j_92 : Int32 × Int64 :=
        if ((r_36.1 2).1 4 15) = ((r_36.1 0).1 4 15) then
          if x2_24 = (-5 : Int32) then
            (x5_24, v_54)
          else
            if (0 : Int32) ≤ (lg_cmp v_54 x3_24) then
              (x2_24, x3_24)
            else
              (x5_24, v_54)
        else
          (x2_24, x3_24)
      let v_92 : Int32 := x5_24 + (50 : Int32)
      L_S_best_24 a1 n j_92.1 j_92.2 v_92 r_36

def F_S_best (S : SLS) (a1 : Int32) : Int32 × SLS :=
  let r_5 : Int32 := (F_S_isWithin a1 (1 : Int32) (200 : Int32))
  if r_5 = (0 : Int32) then
    ((-2 : Int32), S)
  else
    let q_24 : Int32 × SLS := L_S_best_24 a1 16 (-5 : Int32) (0 : Int64) (500 : Int32) S
    (q_24.1, q_24.2)
def F_S_count (S : SLS) (a1 : Int32) : Int32 :=
  let r_5 : Int32 := (F_S_isWithin a1 (17 : Int32) (23 : Int32))
  if r_5 = (0 : Int32) then
    if a1 = (0 : Int32) then
      ((S.1 0).1 4 7)
    else
    if a1 = (1 : Int32) then
      ((S.1 0).1 4 8)
    else
    if a1 = (2 : Int32) then
      let j_175 : Int32 :=
        if ((S.1 0).1 4 9) = (0 : Int32) then
          (0 : Int32)
        else
          (1 : Int32)
      j_175
    else
    if a1 = (3 : Int32) then
      ((S.1 0).1 4 12)
    else
    if a1 = (4 : Int32) then
      ((S.1 0).1 4 13)
    else
    if a1 = (5 : Int32) then
      ((S.1 0).1 4 14)
    else
    if a1 = (6 : Int32) then
      ((S.1 0).1 4 15)
    else
    if a1 = (7 : Int32) then
      ((((S.1 0).2) / (1000 : Int64)).toInt32)
    else
    if a1 = (8 : Int32) then
      ((S.1 0).1 4 10)
    else
    if a1 = (9 : Int32) then
      ((S.1 0).1 4 11)
    else
    if a1 = (10 : Int32) then
      ((S.1 0).1 4 4)
    else
    if a1 = (11 : Int32) then
      ((S.1 0).1 4 5)
    else
    if a1 = (12 : Int32) then
      ((S.1 0).1 4 2)
    else
    if a1 = (13 : Int32) then
      let r_266 : Int32 := (F_C_pathsJudged (S.1 0) (1 : Int32))
      r_266
    else
    if a1 = (14 : Int32) then
      let r_275 : Int32 := (F_C_pathsJudged (S.1 0) (2 : Int32))
      r_275
    else
    if a1 = (15 : Int32) then
      ((S.1 0).1 4 17)
    else
    if a1 = (16 : Int32) then
      ((S.1 0).1 4 18)
    else
    if a1 = (24 : Int32) then
      (S.2.2 5)
    else
    if a1 = (25 : Int32) then
      (S.2.1 2 1)
    else
      (-2 : Int32)
  else
    ((S.1 0).1 3 ((a1 - (17 : Int32)).toNatClampNeg))
