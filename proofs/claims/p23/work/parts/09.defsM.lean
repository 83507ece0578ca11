def F_M_in (a1 : Int64) (a2 : Int64) (a3 : Int64) : Int32 :=
  let j_18 : Int32 :=
    if (lg_cmp a1 a2) < (0 : Int32) then
      (0 : Int32)
    else
      if (0 : Int32) < (lg_cmp a1 a3) then
        (0 : Int32)
      else
        (1 : Int32)
  j_18
def F_M_remember (M : ARR) : ARR :=
  let M_8 : ARR := sR M 1 (cpy55 (M 0) (M 1))
  M_8
def L_M_acted_10 : Nat → Int32 → ARR → ARR
  | 0, x2_10, M_10 => M_10
  | n + 1, x2_10, M_10 =>
    if (165 : Int32) ≤ x2_10 then
      M_10
    else
      let M_31 : ARR := sA M_10 3 (x2_10.toNatClampNeg) (M_10 3 ((x2_10 + (55 : Int32)).toNatClampNeg))
      let v_32 : Int32 := x2_10 + (1 : Int32)
      L_M_acted_10 n v_32 M_31

def L_M_acted_50 : Nat → Int32 → ARR → ARR
  | 0, x2_50, M_50 => M_50
  | n + 1, x2_50, M_50 =>
    if (55 : Int32) ≤ x2_50 then
      M_50
    else
      let M_75 : ARR := sA M_50 3 ((((55 : Int32) * (M_50 7 4)) + x2_50).toNatClampNeg) (M_50 1 (x2_50.toNatClampNeg))
      let v_76 : Int32 := x2_50 + (1 : Int32)
      L_M_acted_50 n v_76 M_75

def F_M_acted (M : ARR) (a1 : Int32) : Int32 × ARR :=
  let j_48 : ARR :=
    if (M 7 4) = (4 : Int32) then
      let q_10 : ARR := L_M_acted_10 166 (0 : Int32) M
      let M_45 : ARR := sA q_10 7 4 ((q_10 7 4) - (1 : Int32))
      M_45
    else
      M
  let q_50 : ARR := L_M_acted_50 56 (0 : Int32) j_48
  let M_89 : ARR := sA q_50 7 4 ((q_50 7 4) + (1 : Int32))
  (a1, M_89)
def F_M_isPath (M : ARR) (a1 : Int32) : Int32 :=
  let r_13 : Int32 := (F_M_in (a1.toInt64) (0 : Int64) ((((M 0 51)).toInt64) - (1 : Int64)))
  r_13
def F_M_has (a1 : Int32) (a2 : Int32) : Int32 :=
  let j_14 : Int32 :=
    if ((a1 >>> (a2 &&& 31)) &&& (1 : Int32)) = (1 : Int32) then
      (1 : Int32)
    else
      (0 : Int32)
  j_14
def F_M_delayWith (M : ARR) (a1 : Int32) (a2 : Int32) (a3 : Int32) : Int32 :=
  (((((M 0 (((0 : Int32) + a1).toNatClampNeg)) * (1000 : Int32)) / (a2 - (300 : Int32))) * ((900 : Int32) + (a3 * (5 : Int32)))) / (1000 : Int32))
def F_M_stateWith (M : ARR) (a1 : Int32) (a2 : Int32) : Int32 :=
  let r_10 : Int32 := (F_M_delayWith M a1 a2 (M 0 40))
  let j_53 : Int32 :=
    if (M 0 32) < r_10 then
      if ((M 0 32) + (M 0 33)) < r_10 then
        (2 : Int32)
      else
        (1 : Int32)
    else
      (0 : Int32)
  j_53
def L_M_worstOf_4 (M : ARR) (a1 : Int32) : Nat → Int32 → Int32 → Int32
  | 0, x2_4, x3_4 => x2_4
  | n + 1, x2_4, x3_4 =>
    if (M 0 51) ≤ x3_4 then
      x2_4
    else
      let r_17 : Int32 := (F_M_has a1 x3_4)
      let j_39 : Int32 :=
        if r_17 = (0 : Int32) then
          (0 : Int32)
        else
          let r_32 : Int32 := (F_M_stateWith M x3_4 (M 0 39))
          r_32
      let j_53 : Int32 :=
        if j_39 ≤ x2_4 then
          x2_4
        else
          j_39
      let v_54 : Int32 := x3_4 + (1 : Int32)
      L_M_worstOf_4 M a1 n j_53 v_54

def F_M_worstOf (M : ARR) (a1 : Int32) : Int32 :=
  let q_4 : Int32 := L_M_worstOf_4 M a1 9 (0 : Int32) (0 : Int32)
  q_4
def L_M_many_4 : Nat → Int32 → Int32 → Int32
  | 0, x1_4, x2_4 => x1_4
  | n + 1, x1_4, x2_4 =>
    if x2_4 = (0 : Int32) then
      x1_4
    else
      let v_8 : Int32 := x1_4 + (1 : Int32)
      let v_16 : Int32 := (x2_4 &&& (x2_4 - (1 : Int32)))
      L_M_many_4 n v_8 v_16

def F_M_many (a1 : Int32) : Int32 :=
  let q_4 : Int32 := L_M_many_4 257 (0 : Int32) a1
  q_4
def F_M_spends (M : ARR) (a1 : Int32) : ARR :=
  let v_27 : Int32 := ((M 0 54) + (((M 0 39) * (M 0 39)) / (10000 : Int32)))
  let M_42 : ARR := sA M 0 46 ((M 0 46) + (v_27 / (1000 : Int32)))
  let M_54 : ARR := sA M_42 0 54 (v_27 - v_27 / (1000 : Int32) * (1000 : Int32))
  let M_65 : ARR := sA M_54 0 42 ((M_54 0 42) + (1 : Int32))
  let M_82 : ARR := sA M_65 0 47 ((M_65 0 47) + (M_65 0 41))
  let v_98 : Int32 := ((20 : Int32) + ((a1 * (M_82 0 39)) / (100 : Int32)))
  let j_111 : Int32 :=
    if v_98 ≤ (120 : Int32) then
      v_98
    else
      (120 : Int32)
  let j_165 : ARR :=
    if ((M_82 0 42) - (M_82 0 42) / (4 : Int32) * (4 : Int32)) = (0 : Int32) then
      let j_163 : Int32 :=
        if j_111 ≤ (M_82 0 40) then
          if (M_82 0 40) ≤ j_111 then
            (0 : Int32)
          else
            (-1 : Int32)
        else
          (1 : Int32)
      let M_164 : ARR := sA M_82 0 40 ((M_82 0 40) + j_163)
      M_164
    else
      M_82
  j_165
def F_M_looks (M : ARR) : ARR :=
  let v_15 : Int32 := ((M 0 48) - (M 0 36))
  let j_108 : ARR :=
    if (0 : Int32) ≤ v_15 then
      if v_15 ≤ (0 : Int32) then
        M
      else
        let j_77 : Int32 :=
          if (M 0 38) ≤ v_15 then
            (M 0 38)
          else
            v_15
        let M_96 : ARR := sA M 0 39 ((M 0 39) + (j_77 * (M 0 37)))
        let M_107 : ARR := sA M_96 0 52 ((M_96 0 52) + j_77)
        M_107
    else
      let M_36 : ARR := sA M 0 39 ((M 0 39) - (M 0 37))
      let M_47 : ARR := sA M_36 0 53 ((M_36 0 53) + (1 : Int32))
      M_47
  let j_159 : Int32 :=
    if (500 : Int32) ≤ (j_108 0 39) then
      if (j_108 0 39) ≤ (1200 : Int32) then
        (j_108 0 39)
      else
        (1200 : Int32)
    else
      (500 : Int32)
  let M_159 : ARR := sA j_108 0 39 j_159
  let M_167 : ARR := sA M_159 0 47 (0 : Int32)
  let M_175 : ARR := sA M_167 0 48 (0 : Int32)
  M_175
def L_M_cycles_48 (v_15 : Int32) : Nat → Int32 → ARR → ARR
  | 0, x3_48, M_48 => M_48
  | n + 1, x3_48, M_48 =>
    if (M_48 0 51) ≤ x3_48 then
      M_48
    else
      let v_67 : Int32 := ((8 : Int32) + x3_48)
      let r_71 : Int32 := (F_M_has v_15 x3_48)
      let j_82 : Int32 :=
        if r_71 = (0 : Int32) then
          (0 : Int32)
        else
          (1 : Int32)
      let M_83 : ARR := sA M_48 0 (v_67.toNatClampNeg) ((M_48 0 (v_67.toNatClampNeg)) + j_82)
      let v_84 : Int32 := x3_48 + (1 : Int32)
      L_M_cycles_48 v_15 n v_84 M_83

def L_M_cycles_163 : Nat → Int32 → ARR → ARR
  | 0, x3_163, M_163 => M_163
  | n + 1, x3_163, M_163 =>
    if (M_163 0 34) ≤ x3_163 then
      M_163
    else
      let r_176 : ARR := (F_M_spends M_163 (0 : Int32))
      let v_179 : Int32 := x3_163 + (1 : Int32)
      L_M_cycles_163 n v_179 r_176

def F_M_cycles (M : ARR) : ARR :=
  let v_15 : Int32 := (M 0 (((16 : Int32) + (M 0 50)).toNatClampNeg))
  let r_18 : Int32 := (F_M_worstOf M v_15)
  let M_45 : ARR := sA M 0 50 (((M 0 50) + (1 : Int32)) - ((M 0 50) + (1 : Int32)) / (M 0 49) * (M 0 49))
  let q_48 : ARR := L_M_cycles_48 v_15 9 (0 : Int32) M_45
  let r_92 : Int32 := (F_M_many v_15)
  let r_95 : ARR := (F_M_spends q_48 r_92)
  let j_128 : ARR :=
    if r_18 = (2 : Int32) then
      let M_113 : ARR := sA r_95 0 45 ((r_95 0 45) + (1 : Int32))
      M_113
    else
      let M_127 : ARR := sA r_95 0 43 ((r_95 0 43) + (1 : Int32))
      M_127
  let j_185 : ARR :=
    if r_18 = (1 : Int32) then
      let M_143 : ARR := sA j_128 0 44 ((j_128 0 44) + (1 : Int32))
      let M_160 : ARR := sA M_143 0 48 ((M_143 0 48) + (M_143 0 41))
      let q_163 : ARR := L_M_cycles_163 21 (0 : Int32) M_160
      q_163
    else
      j_128
  let j_217 : ARR :=
    if (j_185 0 41) = (1 : Int32) then
      if (j_185 0 47) < (j_185 0 35) then
        j_185
      else
        let r_214 : ARR := (F_M_looks j_185)
        r_214
    else
      j_185
  j_217
def F_M_isLength (a1 : Int32) : Int32 :=
  let r_8 : Int32 := (F_M_in (a1.toInt64) (10 : Int64) (400 : Int64))
  r_8
def F_M_addPath (M : ARR) (a1 : Int32) : Int32 × ARR :=
  let r_1 : Int32 := (F_M_isLength a1)
  if r_1 = (0 : Int32) then
    ((-2 : Int32), M)
  else
    if (M 0 51) = (8 : Int32) then
      ((-3 : Int32), M)
    else
      let r_26 : ARR := (F_M_remember M)
      let M_43 : ARR := sA r_26 0 (((0 : Int32) + (r_26 0 51)).toNatClampNeg) a1
      let M_54 : ARR := sA M_43 0 51 ((M_43 0 51) + (1 : Int32))
      let r_65 : Int32 × ARR := (F_M_acted M_54 ((M_54 0 51) - (1 : Int32)))
      (r_65.1, r_65.2)
def F_M_sets (M : ARR) (a1 : Int32) (a2 : Int32) : Int32 × ARR :=
  let v_6 : Int32 := (M 0 (a1.toNatClampNeg))
  if v_6 = a2 then
    ((-5 : Int32), M)
  else
    let r_16 : ARR := (F_M_remember M)
    let M_25 : ARR := sA r_16 0 (a1.toNatClampNeg) a2
    let r_28 : Int32 × ARR := (F_M_acted M_25 v_6)
    (r_28.1, r_28.2)
def F_M_setLength (M : ARR) (a1 : Int32) (a2 : Int32) : Int32 × ARR :=
  let r_2 : Int32 := (F_M_isPath M a1)
  if r_2 = (0 : Int32) then
    ((-1 : Int32), M)
  else
    let r_11 : Int32 := (F_M_isLength a2)
    let j_30 : Int32 × ARR :=
      if r_11 = (0 : Int32) then
        ((-2 : Int32), M)
      else
        let r_22 : Int32 × ARR := (F_M_sets M ((0 : Int32) + a1) a2)
        (r_22.1, r_22.2)
    (j_30.1, j_30.2)
def L_M_begins_18 : Nat → Int32 → ARR → ARR
  | 0, x2_18, M_18 => M_18
  | n + 1, x2_18, M_18 =>
    if (16 : Int32) ≤ x2_18 then
      M_18
    else
      let M_33 : ARR := sA M_18 0 (((16 : Int32) + x2_18).toNatClampNeg) (0 : Int32)
      let v_34 : Int32 := x2_18 + (1 : Int32)
      L_M_begins_18 n v_34 M_33

def F_M_begins (M : ARR) (a1 : Int32) : ARR :=
  let M_7 : ARR := sA M 0 49 a1
  let M_15 : ARR := sA M_7 0 50 (0 : Int32)
  let q_18 : ARR := L_M_begins_18 17 a1 M_15
  q_18
def L_M_layWorkload_39 (a1 : Int32) : Nat → Int32 → Int32 → Int32 → ARR → Int32 × ARR
  | 0, x3_39, x4_39, x5_39, M_39 => (x4_39, M_39)
  | n + 1, x3_39, x4_39, x5_39, M_39 =>
    if a1 ≤ x5_39 then
      (x4_39, M_39)
    else
      let v_58 : Int32 := ((((421 : Int32) * x3_39) + (1663 : Int32)) - (((421 : Int32) * x3_39) + (1663 : Int32)) / (10000 : Int32) * (10000 : Int32))
      let M_82 : ARR := sA M_39 0 (((16 : Int32) + x5_39).toNatClampNeg) ((v_58 / (16 : Int32)) - (v_58 / (16 : Int32)) / ((1 : Int32) <<< ((M_39 0 51) &&& 31)) * ((1 : Int32) <<< ((M_39 0 51) &&& 31)))
      let r_95 : Int32 := (F_M_many (M_82 0 (((16 : Int32) + x5_39).toNatClampNeg)))
      let v_99 : Int32 := (x4_39 + r_95)
      let v_101 : Int32 := x5_39 + (1 : Int32)
      L_M_layWorkload_39 a1 n v_58 v_99 v_101 M_82

def F_M_layWorkload (M : ARR) (a1 : Int32) (a2 : Int32) : Int32 × ARR :=
  let r_6 : Int32 := (F_M_in (a1.toInt64) (1 : Int64) (16 : Int64))
  if r_6 = (0 : Int32) then
    ((-2 : Int32), M)
  else
    let r_18 : Int32 := (F_M_in (a2.toInt64) (0 : Int64) (9999 : Int64))
    if r_18 = (0 : Int32) then
      ((-2 : Int32), M)
    else
      let r_28 : ARR := (F_M_remember M)
      let q_39 : Int32 × ARR := L_M_layWorkload_39 a1 17 a2 (0 : Int32) (0 : Int32) r_28
      let r_109 : ARR := (F_M_begins q_39.2 a1)
      let r_115 : Int32 × ARR := (F_M_acted r_109 q_39.1)
      (r_115.1, r_115.2)
def F_M_type (M : ARR) (a1 : Int32) : Int32 × ARR :=
  if (M 7 8) = (60 : Int32) then
    ((-3 : Int32), M)
  else
    let M_21 : ARR := sA M 5 ((M 7 8).toNatClampNeg) a1
    let M_29 : ARR := sA M_21 7 8 ((M_21 7 8) + (1 : Int32))
    ((M_29 7 8), M_29)
def F_M_clearText (M : ARR) : Int32 × ARR :=
  let M_7 : ARR := sA M 7 8 (0 : Int32)
  ((M 7 8), M_7)
def F_M_isHere (M : ARR) (a1 : Int32) (a2 : Int32) : Int32 :=
  let j_36 : Int32 :=
    if (M 7 8) ≤ (M 7 9) then
      (0 : Int32)
    else
      let r_25 : Int32 := (F_M_in (((M 5 ((M 7 9).toNatClampNeg))).toInt64) (a1.toInt64) (a2.toInt64))
      if r_25 = (0 : Int32) then
        (0 : Int32)
      else
        (1 : Int32)
  j_36
def F_M_takes (M : ARR) (a1 : Int32) : Int32 × ARR :=
  let r_3 : Int32 := (F_M_isHere M a1 a1)
  let j_21 : Int32 :=
    if r_3 = (0 : Int32) then
      (0 : Int32)
    else
      (1 : Int32)
  let M_22 : ARR := sA M 7 9 ((M 7 9) + j_21)
  (r_3, M_22)
def L_M_readsSet_27 : Nat → Int32 → Int32 → ARR → Int32 × ARR
  | 0, x1_27, x2_27, M_27 => (x1_27, M_27)
  | n + 1, x1_27, x2_27, M_27 =>
    let r_33 : Int32 := (F_M_isHere M_27 (x2_27 + (1 : Int32)) (55 : Int32))
    if r_33 = (0 : Int32) then
      (x1_27, M_27)
    else
      let v_48 : Int32 := (M_27 5 ((M_27 7 9).toNatClampNeg))
      let v_57 : Int32 := (x1_27 ||| ((1 : Int32) <<< ((v_48 - (48 : Int32)) &&& 31)))
      let M_65 : ARR := sA M_27 7 9 ((M_27 7 9) + (1 : Int32))
      L_M_readsSet_27 n v_57 v_48 M_65

def F_M_readsSet (M : ARR) : Int32 × ARR :=
  let r_5 : Int32 × ARR := (F_M_takes M (45 : Int32))
  if r_5.1 = (0 : Int32) then
    let r_16 : Int32 := (F_M_isHere r_5.2 (48 : Int32) (55 : Int32))
    if r_16 = (0 : Int32) then
      ((0 : Int32), r_5.2)
    else
      let q_27 : Int32 × ARR := L_M_readsSet_27 61 (0 : Int32) (47 : Int32) r_5.2
      let M_80 : ARR := sA q_27.2 6 ((q_27.2 7 11).toNatClampNeg) q_27.1
      let M_88 : ARR := sA M_80 7 11 ((M_80 7 11) + (1 : Int32))
      ((1 : Int32), M_88)
  else
    let M_80 : ARR := sA r_5.2 6 ((r_5.2 7 11).toNatClampNeg) (0 : Int32)
    let M_88 : ARR := sA M_80 7 11 ((M_80 7 11) + (1 : Int32))
    ((1 : Int32), M_88)
def L_M_fault_12 : Nat → Int32 → ARR → Int32 × ARR
  | 0, x1_12, M_12 => (0, M_12)
  | n + 1, x1_12, M_12 =>
    if x1_12 = (0 : Int32) then
      let j_75 : Int32 :=
        if (M_12 7 9) = (M_12 7 8) then
          (-5 : Int32)
        else
          (M_12 7 9)
      (j_75, M_12)
    else
      let r_17 : Int32 × ARR := (F_M_readsSet M_12)
      if r_17.1 = (0 : Int32) then
        ((r_17.2 7 9), r_17.2)
      else
        let j_51 : Int32 × ARR :=
          if (16 : Int32) ≤ (r_17.2 7 11) then
            ((0 : Int32), r_17.2)
          else
            let r_40 : Int32 × ARR := (F_M_takes r_17.2 (44 : Int32))
            if r_40.1 = (0 : Int32) then
              ((0 : Int32), r_40.2)
            else
              ((1 : Int32), r_40.2)
        L_M_fault_12 n j_51.1 j_51.2

def F_M_fault (M : ARR) : Int32 × ARR :=
  let M_2 : ARR := sA M 7 9 (0 : Int32)
  let M_7 : ARR := sA M_2 7 11 (0 : Int32)
  L_M_fault_12 17 (1 : Int32) M_7
def L_M_takeWorkload_58 : Nat → Int32 → ARR → ARR
  | 0, x2_58, M_58 => M_58
  | n + 1, x2_58, M_58 =>
    if (M_58 7 11) ≤ x2_58 then
      M_58
    else
      let M_80 : ARR := sA M_58 0 (((16 : Int32) + x2_58).toNatClampNeg) (M_58 6 (x2_58.toNatClampNeg))
      let v_81 : Int32 := x2_58 + (1 : Int32)
      L_M_takeWorkload_58 n v_81 M_80

def L_M_takeWorkload_18 (r_1 : Int32 × ARR) : Nat → Int32 → Int32 × ARR
  | 0, x2_18 => (0, r_1.2)
  | n + 1, x2_18 =>
    if (r_1.2 7 11) ≤ x2_18 then
      let r_53 : ARR := (F_M_remember r_1.2)
      let q_58 : ARR := L_M_takeWorkload_58 17 (0 : Int32) r_53
      let r_92 : ARR := (F_M_begins q_58 (q_58 7 11))
      let r_100 : Int32 × ARR := (F_M_acted r_92 (r_92 7 11))
      (r_100.1, r_100.2)
    else
      if (r_1.2 6 (x2_18.toNatClampNeg)) < ((1 : Int32) <<< ((r_1.2 0 51) &&& 31)) then
        let v_46 : Int32 := x2_18 + (1 : Int32)
        L_M_takeWorkload_18 r_1 n v_46
      else
        ((-1 : Int32), r_1.2)

def F_M_takeWorkload (M : ARR) : Int32 × ARR :=
  let r_1 : Int32 × ARR := (F_M_fault M)
  if r_1.1 = (-5 : Int32) then
    L_M_takeWorkload_18 r_1 17 (0 : Int32)
  else
    (((-100 : Int32) - r_1.1), r_1.2)
def F_M_isVoltage (a1 : Int32) : Int32 :=
  let r_8 : Int32 := (F_M_in (a1.toInt64) (500 : Int64) (1200 : Int64))
  r_8
def F_M_setVoltage (M : ARR) (a1 : Int32) : Int32 × ARR :=
  let r_1 : Int32 := (F_M_isVoltage a1)
  let j_19 : Int32 × ARR :=
    if r_1 = (0 : Int32) then
      ((-2 : Int32), M)
    else
      let r_11 : Int32 × ARR := (F_M_sets M (39 : Int32) a1)
      (r_11.1, r_11.2)
  (j_19.1, j_19.2)
def F_M_govern (M : ARR) (a1 : Int32) : Int32 × ARR :=
  let j_9 : Int32 :=
    if a1 = (0 : Int32) then
      (0 : Int32)
    else
      (1 : Int32)
  if (M 0 41) = j_9 then
    ((-5 : Int32), M)
  else
    let r_25 : ARR := (F_M_remember M)
    let M_35 : ARR := sA r_25 0 41 j_9
    let M_43 : ARR := sA M_35 0 47 (0 : Int32)
    let M_51 : ARR := sA M_43 0 48 (0 : Int32)
    let r_60 : Int32 × ARR := (F_M_acted M_51 (M_51 0 39))
    (r_60.1, r_60.2)
def F_M_isSetting (a1 : Int32) (a2 : Int32) : Int32 :=
  if a1 = (0 : Int32) then
    let r_48 : Int32 := (F_M_in (a2.toInt64) (50 : Int64) (1000 : Int64))
    r_48
  else
  if a1 = (1 : Int32) then
    let r_58 : Int32 := (F_M_in (a2.toInt64) (0 : Int64) (200 : Int64))
    r_58
  else
  if a1 = (2 : Int32) then
    let r_68 : Int32 := (F_M_in (a2.toInt64) (1 : Int64) (20 : Int64))
    r_68
  else
  if a1 = (3 : Int32) then
    let r_80 : Int32 := (F_M_in (a2.toInt64) (10 : Int64) (500 : Int64))
    r_80
  else
  if a1 = (4 : Int32) then
    let r_90 : Int32 := (F_M_in (a2.toInt64) (0 : Int64) (100 : Int64))
    r_90
  else
  if a1 = (5 : Int32) then
    let r_100 : Int32 := (F_M_in (a2.toInt64) (1 : Int64) (50 : Int64))
    r_100
  else
    let j_127 : Int32 :=
      if a1 = (6 : Int32) then
        let r_116 : Int32 := (F_M_in (a2.toInt64) (1 : Int64) (10 : Int64))
        if r_116 = (0 : Int32) then
          (0 : Int32)
        else
          (1 : Int32)
      else
        (0 : Int32)
    j_127
def F_M_set (M : ARR) (a1 : Int32) (a2 : Int32) : Int32 × ARR :=
  let r_2 : Int32 := (F_M_isSetting a1 a2)
  let j_22 : Int32 × ARR :=
    if r_2 = (0 : Int32) then
      ((-2 : Int32), M)
    else
      let r_14 : Int32 × ARR := (F_M_sets M ((32 : Int32) + a1) a2)
      (r_14.1, r_14.2)
  (j_22.1, j_22.2)
def L_M_run_21 (a1 : Int32) : Nat → Int32 → ARR → ARR
  | 0, x2_21, M_21 => M_21
  | n + 1, x2_21, M_21 =>
    if a1 ≤ x2_21 then
      M_21
    else
      let r_27 : ARR := (F_M_cycles M_21)
      let v_30 : Int32 := x2_21 + (1 : Int32)
      L_M_run_21 a1 n v_30 r_27

def F_M_run (M : ARR) (a1 : Int32) : Int32 × ARR :=
  let r_6 : Int32 := (F_M_in (a1.toInt64) (1 : Int64) (2000 : Int64))
  if r_6 = (0 : Int32) then
    ((-2 : Int32), M)
  else
    let r_16 : ARR := (F_M_remember M)
    let q_21 : ARR := L_M_run_21 a1 2001 (0 : Int32) r_16
    let r_52 : Int32 × ARR := (F_M_acted q_21 ((q_21 0 44) - (q_21 1 44)))
    (r_52.1, r_52.2)
def L_M_undo_22 : Nat → Int32 → ARR → ARR
  | 0, x1_22, M_22 => M_22
  | n + 1, x1_22, M_22 =>
    if (55 : Int32) ≤ x1_22 then
      M_22
    else
      let M_47 : ARR := sA M_22 0 (x1_22.toNatClampNeg) (M_22 3 ((((55 : Int32) * (M_22 7 4)) + x1_22).toNatClampNeg))
      let v_48 : Int32 := x1_22 + (1 : Int32)
      L_M_undo_22 n v_48 M_47

def F_M_undo (M : ARR) : Int32 × ARR :=
  if (M 7 4) = (0 : Int32) then
    ((-5 : Int32), M)
  else
    let M_17 : ARR := sA M 7 4 ((M 7 4) - (1 : Int32))
    let q_22 : ARR := L_M_undo_22 56 (0 : Int32) M_17
    ((q_22 7 4), q_22)
def F_M_keep (M : ARR) : Int32 × ARR :=
  let M_8 : ARR := sR M 4 (cpy55 (M 0) (M 4))
  let M_13 : ARR := sA M_8 7 6 (1 : Int32)
  ((M_13 0 39), M_13)
def F_M_restore (M : ARR) : Int32 × ARR :=
  if (M 7 6) = (0 : Int32) then
    ((-5 : Int32), M)
  else
    let r_11 : ARR := (F_M_remember M)
    let M_22 : ARR := sR r_11 0 (cpy55 (r_11 4) (r_11 0))
    let r_33 : Int32 × ARR := (F_M_acted M_22 (M_22 0 39))
    (r_33.1, r_33.2)
def L_M_setsWith_4 (M : ARR) (a1 : Int32) : Nat → Int32 → Int32 → Int32
  | 0, x2_4, x3_4 => x2_4
  | n + 1, x2_4, x3_4 =>
    if (M 0 49) ≤ x3_4 then
      x2_4
    else
      let r_26 : Int32 := (F_M_has (M 0 (((16 : Int32) + x3_4).toNatClampNeg)) a1)
      let j_37 : Int32 :=
        if r_26 = (0 : Int32) then
          (0 : Int32)
        else
          (1 : Int32)
      let v_38 : Int32 := (x2_4 + j_37)
      let v_39 : Int32 := x3_4 + (1 : Int32)
      L_M_setsWith_4 M a1 n v_38 v_39

def F_M_setsWith (M : ARR) (a1 : Int32) : Int32 :=
  let q_4 : Int32 := L_M_setsWith_4 M a1 17 (0 : Int32) (0 : Int32)
  q_4
def F_M_path (M : ARR) (a1 : Int32) (a2 : Int32) : Int32 :=
  let r_2 : Int32 := (F_M_isPath M a1)
  if r_2 = (0 : Int32) then
    (-1 : Int32)
  else
    if a2 = (0 : Int32) then
      (M 0 (((0 : Int32) + a1).toNatClampNeg))
    else
    if a2 = (1 : Int32) then
      let r_69 : Int32 := (F_M_delayWith M a1 (M 0 39) (M 0 40))
      r_69
    else
    if a2 = (2 : Int32) then
      let r_82 : Int32 := (F_M_stateWith M a1 (M 0 39))
      r_82
    else
    if a2 = (3 : Int32) then
      (M 0 (((8 : Int32) + a1).toNatClampNeg))
    else
    if a2 = (4 : Int32) then
      let r_98 : Int32 := (F_M_setsWith M a1)
      r_98
    else
      (-2 : Int32)
def F_M_delay (M : ARR) (a1 : Int32) (a2 : Int32) (a3 : Int32) : Int32 :=
  let r_2 : Int32 := (F_M_isPath M a1)
  if r_2 = (0 : Int32) then
    (-1 : Int32)
  else
    let r_11 : Int32 := (F_M_isVoltage a2)
    let j_43 : Int32 :=
      if r_11 = (0 : Int32) then
        (-2 : Int32)
      else
        let r_25 : Int32 := (F_M_in (a3.toInt64) (20 : Int64) (120 : Int64))
        if r_25 = (0 : Int32) then
          (-2 : Int32)
        else
          let r_35 : Int32 := (F_M_delayWith M a1 a2 a3)
          r_35
    j_43
def F_M_workload (M : ARR) (a1 : Int32) : Int32 :=
  if (0 : Int32) ≤ a1 then
    let j_32 : Int32 :=
      if (M 0 49) ≤ a1 then
        (-5 : Int32)
      else
        (M 0 (((16 : Int32) + a1).toNatClampNeg))
    j_32
  else
    (-2 : Int32)
def L_M_areWell_5 (M : ARR) (a1 : Int32) (a2 : Int32) : Nat → Int32 → Int32 → Int32
  | 0, x3_5, x4_5 => x3_5
  | n + 1, x3_5, x4_5 =>
    if (M 0 51) ≤ x4_5 then
      x3_5
    else
      let j_46 : Int32 :=
        if x3_5 = (0 : Int32) then
          (0 : Int32)
        else
          let r_24 : Int32 := (F_M_setsWith M x4_5)
          if r_24 = (0 : Int32) then
            (1 : Int32)
          else
            let r_34 : Int32 := (F_M_stateWith M x4_5 a1)
            if a2 < r_34 then
              (0 : Int32)
            else
              (1 : Int32)
      let v_47 : Int32 := x4_5 + (1 : Int32)
      L_M_areWell_5 M a1 a2 n j_46 v_47

def F_M_areWell (M : ARR) (a1 : Int32) (a2 : Int32) : Int32 :=
  let q_5 : Int32 := L_M_areWell_5 M a1 a2 9 (1 : Int32) (0 : Int32)
  q_5
def L_M_least_4 (M : ARR) (a1 : Int32) : Nat → Int32 → Int32
  | 0, x2_4 => 0
  | n + 1, x2_4 =>
    if (1200 : Int32) < x2_4 then
      (-5 : Int32)
    else
      let j_22 : Int32 :=
        if a1 = (0 : Int32) then
          (0 : Int32)
        else
          (1 : Int32)
      let r_22 : Int32 := (F_M_areWell M x2_4 j_22)
      if r_22 = (0 : Int32) then
        let v_30 : Int32 := x2_4 + (1 : Int32)
        L_M_least_4 M a1 n v_30
      else
        x2_4

def F_M_least (M : ARR) (a1 : Int32) : Int32 :=
  L_M_least_4 M a1 702 (500 : Int32)
def F_M_energySince (M : ARR) : Int32 :=
  (((((M 0 46) - (M 2 46)) * (1000 : Int32)) + (M 0 54)) - (M 2 54))
def L_M_brings_30 (a2 : Int32) : Nat → Int32 → ARR → ARR
  | 0, x4_30, M_30 => M_30
  | n + 1, x4_30, M_30 =>
    if a2 ≤ x4_30 then
      M_30
    else
      let r_37 : ARR := (F_M_cycles M_30)
      let v_40 : Int32 := x4_30 + (1 : Int32)
      L_M_brings_30 a2 n v_40 r_37

def F_M_brings (M : ARR) (a1 : Int32) (a2 : Int32) (a3 : Int32) : Int32 × ARR :=
  let M_8 : ARR := sR M 2 (cpy55 (M 0) (M 2))
  let M_18 : ARR := sA M_8 0 39 a1
  let M_26 : ARR := sA M_18 0 41 (0 : Int32)
  let q_30 : ARR := L_M_brings_30 a2 501 (0 : Int32) M_26
  let j_137 : Int32 :=
    if a3 = (0 : Int32) then
      ((q_30 0 44) - (q_30 2 44))
    else
      if a3 = (1 : Int32) then
        ((q_30 0 45) - (q_30 2 45))
      else
        if a3 = (2 : Int32) then
          let r_101 : Int32 := (F_M_energySince q_30)
          r_101
        else
          if a3 = (3 : Int32) then
            ((q_30 0 42) - (q_30 2 42))
          else
            (q_30 0 40)
  let M_147 : ARR := sR q_30 0 (cpy55 (q_30 2) (q_30 0))
  (j_137, M_147)
def F_M_would (M : ARR) (a1 : Int32) (a2 : Int32) (a3 : Int32) : Int32 × ARR :=
  let r_1 : Int32 := (F_M_isVoltage a1)
  let j_43 : Int32 × ARR :=
    if r_1 = (0 : Int32) then
      ((-2 : Int32), M)
    else
      let r_13 : Int32 := (F_M_in (a2.toInt64) (1 : Int64) (500 : Int64))
      if r_13 = (0 : Int32) then
        ((-2 : Int32), M)
      else
        let r_25 : Int32 := (F_M_in (a3.toInt64) (0 : Int64) (4 : Int64))
        if r_25 = (0 : Int32) then
          ((-2 : Int32), M)
        else
          let r_35 : Int32 × ARR := (F_M_brings M a1 a2 a3)
          (r_35.1, r_35.2)
  (j_43.1, j_43.2)
def L_M_best_25 (a1 : Int32) : Nat → Int32 → Int32 → Int32 → ARR → Int32 × ARR
  | 0, x2_25, x3_25, x4_25, M_25 => (x2_25, M_25)
  | n + 1, x2_25, x3_25, x4_25, M_25 =>
    if (1200 : Int32) < x4_25 then
      (x2_25, M_25)
    else
      let r_38 : Int32 × ARR := (F_M_brings M_25 x4_25 a1 (2 : Int32))
      let r_48 : Int32 × ARR := (F_M_brings r_38.2 x4_25 a1 (1 : Int32))
      let j_72 : Int32 × Int32 :=
        if r_48.1 = (0 : Int32) then
          if x2_25 = (-5 : Int32) then
            (x4_25, r_38.1)
          else
            if x3_25 ≤ r_38.1 then
              (x2_25, x3_25)
            else
              (x4_25, r_38.1)
        else
          (x2_25, x3_25)
      let v_72 : Int32 := x4_25 + (50 : Int32)
      L_M_best_25 a1 n j_72.1 j_72.2 v_72 r_48.2

def F_M_best (M : ARR) (a1 : Int32) : Int32 × ARR :=
  let r_6 : Int32 := (F_M_in (a1.toInt64) (1 : Int64) (200 : Int64))
  if r_6 = (0 : Int32) then
    ((-2 : Int32), M)
  else
    let q_25 : Int32 × ARR := L_M_best_25 a1 16 (-5 : Int32) (0 : Int32) (500 : Int32) M
    (q_25.1, q_25.2)
def L_M_pathsThat_4 (M : ARR) (a1 : Int32) : Nat → Int32 → Int32 → Int32
  | 0, x2_4, x3_4 => x2_4
  | n + 1, x2_4, x3_4 =>
    if (M 0 51) ≤ x3_4 then
      x2_4
    else
      let r_25 : Int32 := (F_M_stateWith M x3_4 (M 0 39))
      let j_39 : Int32 :=
        if r_25 = a1 then
          ((1 : Int32) <<< (x3_4 &&& 31))
        else
          (0 : Int32)
      let v_40 : Int32 := (x2_4 ||| j_39)
      let v_41 : Int32 := x3_4 + (1 : Int32)
      L_M_pathsThat_4 M a1 n v_40 v_41

def F_M_pathsThat (M : ARR) (a1 : Int32) : Int32 :=
  let q_4 : Int32 := L_M_pathsThat_4 M a1 9 (0 : Int32) (0 : Int32)
  q_4
def F_M_count (M : ARR) (a1 : Int32) : Int32 :=
  let r_6 : Int32 := (F_M_in (a1.toInt64) (0 : Int64) (12 : Int64))
  if r_6 = (0 : Int32) then
    let r_30 : Int32 := (F_M_in (a1.toInt64) (17 : Int64) (23 : Int64))
    if r_30 = (0 : Int32) then
      if a1 = (13 : Int32) then
        let r_121 : Int32 := (F_M_pathsThat M (a1 - (12 : Int32)))
        r_121
      else
      if a1 = (14 : Int32) then
        let r_121 : Int32 := (F_M_pathsThat M (a1 - (12 : Int32)))
        r_121
      else
      if a1 = (15 : Int32) then
        (M 0 52)
      else
      if a1 = (16 : Int32) then
        (M 0 53)
      else
      if a1 = (24 : Int32) then
        (M 7 4)
      else
      if a1 = (25 : Int32) then
        (M 7 8)
      else
        (-2 : Int32)
    else
      (M 0 ((((32 : Int32) + a1) - (17 : Int32)).toNatClampNeg))
  else
    (M 0 (((39 : Int32) + a1).toNatClampNeg))
