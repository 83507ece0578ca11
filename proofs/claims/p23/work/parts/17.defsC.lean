def F_J_bitCount (a1 : Int32) : Int32 :=
  let v_9 : Int32 := (a1 - (((a1.toUInt32 >>> ((1 : Int32).toUInt32 &&& Int32.toUInt32 31)).toInt32) &&& (1431655765 : Int32)))
  let v_23 : Int32 := ((v_9 &&& (858993459 : Int32)) + (((v_9.toUInt32 >>> ((2 : Int32).toUInt32 &&& Int32.toUInt32 31)).toInt32) &&& (858993459 : Int32)))
  let v_33 : Int32 := ((v_23 + ((v_23.toUInt32 >>> ((4 : Int32).toUInt32 &&& Int32.toUInt32 31)).toInt32)) &&& (252645135 : Int32))
  let v_40 : Int32 := (v_33 + ((v_33.toUInt32 >>> ((8 : Int32).toUInt32 &&& Int32.toUInt32 31)).toInt32))
  let v_47 : Int32 := (v_40 + ((v_40.toUInt32 >>> ((16 : Int32).toUInt32 &&& Int32.toUInt32 31)).toInt32))
  (v_47 &&& (63 : Int32))
def F_J_max (a1 : Int32) (a2 : Int32) : Int32 :=
  let j_10 : Int32 :=
    if a1 < a2 then
      a2
    else
      a1
  j_10
def F_J_min (a1 : Int32) (a2 : Int32) : Int32 :=
  let j_10 : Int32 :=
    if a2 < a1 then
      a2
    else
      a1
  j_10
def F_C_beginWorkload (C : CS) (a1 : Int32) : CS :=
  let C_2 : CS := sC C 4 4 a1
  let C_7 : CS := sC C_2 4 5 (0 : Int32)
  C_7
def F_C_beginWindow (C : CS) : CS :=
  let C_2 : CS := sC C 4 10 (0 : Int32)
  let C_7 : CS := sC C_2 4 11 (0 : Int32)
  C_7
def F_C_delayOf (a1 : Int32) (a2 : Int32) (a3 : Int32) : Int32 :=
  let v_11 : Int32 := ((a1 * (1000 : Int32)) / (a2 - (300 : Int32)))
  ((v_11 * ((900 : Int32) + (a3 * (5 : Int32)))) / (1000 : Int32))
def F_C_delayNow (C : CS) (a1 : Int32) : Int32 :=
  let r_14 : Int32 := (F_C_delayOf (C.1 0 (a1.toNatClampNeg)) (C.1 4 7) (C.1 4 8))
  r_14
def F_C_judge (C : CS) (a1 : Int32) : Int32 :=
  if (C.1 3 0) < a1 then
    let j_34 : Int32 :=
      if ((C.1 3 0) + (C.1 3 1)) < a1 then
        (2 : Int32)
      else
        (1 : Int32)
    j_34
  else
    (0 : Int32)
def L_C_pathsJudged_4 (C : CS) (a1 : Int32) : Nat → Int32 → Int32 → Int32
  | 0, x2_4, x3_4 => x2_4
  | n + 1, x2_4, x3_4 =>
    if (C.1 4 2) ≤ x3_4 then
      x2_4
    else
      let r_15 : Int32 := (F_C_delayNow C x3_4)
      let r_18 : Int32 := (F_C_judge C r_15)
      let j_31 : Int32 :=
        if r_18 = a1 then
          let v_30 : Int32 := (x2_4 ||| ((1 : Int32) <<< (x3_4 &&& 31)))
          v_30
        else
          x2_4
      let v_31 : Int32 := x3_4 + (1 : Int32)
      L_C_pathsJudged_4 C a1 n j_31 v_31

def F_C_pathsJudged (C : CS) (a1 : Int32) : Int32 :=
  let q_4 : Int32 := L_C_pathsJudged_4 C a1 9 (0 : Int32) (0 : Int32)
  q_4
def L_C_setsWith_4 (C : CS) (a1 : Int32) : Nat → Int32 → Int32 → Int32
  | 0, x2_4, x3_4 => x2_4
  | n + 1, x2_4, x3_4 =>
    if (C.1 4 4) ≤ x3_4 then
      x2_4
    else
      let v_24 : Int32 := (x2_4 + (((C.1 2 (x3_4.toNatClampNeg)) >>> (a1 &&& 31)) &&& (1 : Int32)))
      let v_25 : Int32 := x3_4 + (1 : Int32)
      L_C_setsWith_4 C a1 n v_24 v_25

def F_C_setsWith (C : CS) (a1 : Int32) : Int32 :=
  let q_4 : Int32 := L_C_setsWith_4 C a1 17 (0 : Int32) (0 : Int32)
  q_4
def L_C_longestOf_4 (C : CS) (a1 : Int32) : Nat → Int32 → Int32 → Int32
  | 0, x2_4, x3_4 => x2_4
  | n + 1, x2_4, x3_4 =>
    if (C.1 4 2) ≤ x3_4 then
      x2_4
    else
      let j_32 : Int32 :=
        if ((a1 >>> (x3_4 &&& 31)) &&& (1 : Int32)) = (1 : Int32) then
          let r_28 : Int32 := (F_J_max x2_4 (C.1 0 (x3_4.toNatClampNeg)))
          r_28
        else
          x2_4
      let v_32 : Int32 := x3_4 + (1 : Int32)
      L_C_longestOf_4 C a1 n j_32 v_32

def F_C_longestOf (C : CS) (a1 : Int32) : Int32 :=
  let q_4 : Int32 := L_C_longestOf_4 C a1 9 (0 : Int32) (0 : Int32)
  q_4
def L_C_longestInWorkload_4 (C : CS) : Nat → Int32 → Int32 → Int32
  | 0, x1_4, x2_4 => x1_4
  | n + 1, x1_4, x2_4 =>
    if (C.1 4 4) ≤ x2_4 then
      x1_4
    else
      let v_20 : Int32 := (x1_4 ||| (C.1 2 (x2_4.toNatClampNeg)))
      let v_21 : Int32 := x2_4 + (1 : Int32)
      L_C_longestInWorkload_4 C n v_20 v_21

def F_C_longestInWorkload (C : CS) : Int32 :=
  let q_4 : Int32 := L_C_longestInWorkload_4 C 17 (0 : Int32) (0 : Int32)
  let r_29 : Int32 := (F_C_longestOf C q_4)
  r_29
def L_C_countUses_2 (a1 : Int32) : Nat → Int32 → CS → CS
  | 0, x2_2, C_2 => C_2
  | n + 1, x2_2, C_2 =>
    if (C_2.1 4 2) ≤ x2_2 then
      C_2
    else
      let C_23 : CS := sC C_2 1 (x2_2.toNatClampNeg) ((C_2.1 1 (x2_2.toNatClampNeg)) + ((a1 >>> (x2_2 &&& 31)) &&& (1 : Int32)))
      let v_24 : Int32 := x2_2 + (1 : Int32)
      L_C_countUses_2 a1 n v_24 C_23

def F_C_countUses (C : CS) (a1 : Int32) : CS :=
  let q_2 : CS := L_C_countUses_2 a1 9 (0 : Int32) C
  q_2
def F_C_changeHeat (C : CS) (a1 : Int32) : CS :=
  let j_39 : CS :=
    if a1 ≤ (C.1 4 8) then
      if (C.1 4 8) ≤ a1 then
        C
      else
        let C_36 : CS := sC C 4 8 ((C.1 4 8) - (1 : Int32))
        C_36
    else
      let C_15 : CS := sC C 4 8 ((C.1 4 8) + (1 : Int32))
      C_15
  j_39
def F_C_spendCycle (C : CS) (a1 : Int32) : CS :=
  let C_7 : CS := sC C 4 12 ((C.1 4 12) + (1 : Int32))
  let j_27 : CS :=
    if (C_7.1 4 9) = (0 : Int32) then
      C_7
    else
      let C_24 : CS := sC C_7 4 10 ((C_7.1 4 10) + (1 : Int32))
      C_24
  let C_47 : CS := sE j_27 (j_27.2 + (((((j_27.1 4 7) * (j_27.1 4 7)) / (10000 : Int32))).toInt64))
  let j_80 : CS :=
    if ((C_47.1 4 12) - (C_47.1 4 12) / (4 : Int32) * (4 : Int32)) = (0 : Int32) then
      let r_74 : Int32 := (F_J_min (120 : Int32) ((20 : Int32) + ((a1 * (C_47.1 4 7)) / (100 : Int32))))
      let r_77 : CS := (F_C_changeHeat C_47 r_74)
      r_77
    else
      C_47
  j_80
def L_C_complain_29 : Nat → Int32 → CS → CS
  | 0, x1_29, C_29 => C_29
  | n + 1, x1_29, C_29 =>
    if (C_29.1 3 2) ≤ x1_29 then
      C_29
    else
      let r_41 : CS := (F_C_spendCycle C_29 (0 : Int32))
      let v_44 : Int32 := x1_29 + (1 : Int32)
      L_C_complain_29 n v_44 r_41

def F_C_complain (C : CS) : CS :=
  let C_7 : CS := sC C 4 14 ((C.1 4 14) + (1 : Int32))
  let j_27 : CS :=
    if (C_7.1 4 9) = (0 : Int32) then
      C_7
    else
      let C_24 : CS := sC C_7 4 11 ((C_7.1 4 11) + (1 : Int32))
      C_24
  let q_29 : CS := L_C_complain_29 21 (0 : Int32) j_27
  q_29
def F_C_runOneCycle (C : CS) : CS :=
  let v_9 : Int32 := (C.1 2 ((C.1 4 5).toNatClampNeg))
  let j_34 : Int32 :=
    if (C.1 4 4) ≤ ((C.1 4 5) + (1 : Int32)) then
      (0 : Int32)
    else
      ((C.1 4 5) + (1 : Int32))
  let C_34 : CS := sC C 4 5 j_34
  let r_40 : Int32 := (F_C_longestOf C_34 v_9)
  let r_51 : Int32 := (F_C_delayOf r_40 (C_34.1 4 7) (C_34.1 4 8))
  let r_54 : Int32 := (F_C_judge C_34 r_51)
  let r_60 : CS := (F_C_countUses C_34 v_9)
  let r_65 : Int32 := (F_J_bitCount v_9)
  let r_68 : CS := (F_C_spendCycle r_60 r_65)
  if r_54 = (2 : Int32) then
    let C_83 : CS := sC r_68 4 15 ((r_68.1 4 15) + (1 : Int32))
    C_83
  else
    let j_96 : CS :=
      if r_54 = (1 : Int32) then
        let r_93 : CS := (F_C_complain r_68)
        r_93
      else
        r_68
    let C_103 : CS := sC j_96 4 13 ((j_96.1 4 13) + (1 : Int32))
    C_103
def F_C_lookAtWindow (C : CS) : CS :=
  let v_11 : Int32 := ((C.1 4 11) - (C.1 3 4))
  let j_95 : CS :=
    if (0 : Int32) ≤ v_11 then
      let r_58 : Int32 := (F_J_min v_11 (C.1 3 6))
      let r_79 : Int32 := (F_J_min (1200 : Int32) ((C.1 4 7) + (r_58 * (C.1 3 5))))
      let C_82 : CS := sC C 4 7 r_79
      let C_92 : CS := sC C_82 4 17 ((C_82.1 4 17) + r_58)
      C_92
    else
      let r_31 : Int32 := (F_J_max (500 : Int32) ((C.1 4 7) - (C.1 3 5)))
      let C_34 : CS := sC C 4 7 r_31
      let C_44 : CS := sC C_34 4 18 ((C_34.1 4 18) + (1 : Int32))
      C_44
  let r_96 : CS := (F_C_beginWindow j_95)
  r_96
def L_C_runCycles_2 (a1 : Int32) : Nat → Int32 → CS → CS
  | 0, x2_2, C_2 => C_2
  | n + 1, x2_2, C_2 =>
    if a1 ≤ x2_2 then
      C_2
    else
      let r_8 : CS := (F_C_runOneCycle C_2)
      let j_35 : CS :=
        if (r_8.1 4 9) = (0 : Int32) then
          r_8
        else
          if (r_8.1 4 10) < (r_8.1 3 3) then
            r_8
          else
            let r_32 : CS := (F_C_lookAtWindow r_8)
            r_32
      let v_35 : Int32 := x2_2 + (1 : Int32)
      L_C_runCycles_2 a1 n v_35 j_35

def F_C_runCycles (C : CS) (a1 : Int32) : CS :=
  let q_2 : CS := L_C_runCycles_2 a1 2001 (0 : Int32) C
  q_2
def F_T_append (T : ARR) (a1 : Int32) : Int32 × ARR :=
  if (T 2 1) < (60 : Int32) then
    let T_20 : ARR := sA T 0 ((T 2 1).toNatClampNeg) a1
    let T_28 : ARR := sA T_20 2 1 ((T_20 2 1) + (1 : Int32))
    ((1 : Int32), T_28)
  else
    ((0 : Int32), T)
def L_T_read_16 : Nat → Int32 → Int32 → ARR → Int32 × ARR
  | 0, x1_16, x2_16, T_16 => (0, T_16)
  | n + 1, x1_16, x2_16, T_16 =>
    if (T_16 2 1) ≤ x2_16 then
      let j_159 : Int32 :=
        if x1_16 = (-1 : Int32) then
          (T_16 2 1)
        else
          (-1 : Int32)
      (j_159, T_16)
    else
      let v_30 : Int32 := (T_16 0 (x2_16.toNatClampNeg))
      if v_30 = (44 : Int32) then
        if x1_16 = (-1 : Int32) then
          if v_30 = (45 : Int32) then
            let v_140 : Int32 := x2_16 + (1 : Int32)
            L_T_read_16 n (8 : Int32) v_140 T_16
          else
            if v_30 < (48 : Int32) then
              (x2_16, T_16)
            else
              if (55 : Int32) < v_30 then
                (x2_16, T_16)
              else
                if (v_30 - (48 : Int32)) ≤ x1_16 then
                  (x2_16, T_16)
                else
                  let v_117 : Int32 := (v_30 - (48 : Int32))
                  let v_128 : Int32 := ((T_16 2 3) - (1 : Int32))
                  let T_134 : ARR := sA T_16 1 (v_128.toNatClampNeg) ((T_16 1 (v_128.toNatClampNeg)) ||| ((1 : Int32) <<< (v_117 &&& 31)))
                  let v_140 : Int32 := x2_16 + (1 : Int32)
                  L_T_read_16 n v_117 v_140 T_134
        else
          if (16 : Int32) ≤ (T_16 2 3) then
            if v_30 = (45 : Int32) then
              if v_30 < (48 : Int32) then
                (x2_16, T_16)
              else
                if (55 : Int32) < v_30 then
                  (x2_16, T_16)
                else
                  if (v_30 - (48 : Int32)) ≤ x1_16 then
                    (x2_16, T_16)
                  else
                    let v_117 : Int32 := (v_30 - (48 : Int32))
                    let v_128 : Int32 := ((T_16 2 3) - (1 : Int32))
                    let T_134 : ARR := sA T_16 1 (v_128.toNatClampNeg) ((T_16 1 (v_128.toNatClampNeg)) ||| ((1 : Int32) <<< (v_117 &&& 31)))
                    let v_140 : Int32 := x2_16 + (1 : Int32)
                    L_T_read_16 n v_117 v_140 T_134
            else
              if v_30 < (48 : Int32) then
                (x2_16, T_16)
              else
                if (55 : Int32) < v_30 then
                  (x2_16, T_16)
                else
                  if (v_30 - (48 : Int32)) ≤ x1_16 then
                    (x2_16, T_16)
                  else
                    let v_117 : Int32 := (v_30 - (48 : Int32))
                    let v_128 : Int32 := ((T_16 2 3) - (1 : Int32))
                    let T_134 : ARR := sA T_16 1 (v_128.toNatClampNeg) ((T_16 1 (v_128.toNatClampNeg)) ||| ((1 : Int32) <<< (v_117 &&& 31)))
                    let v_140 : Int32 := x2_16 + (1 : Int32)
                    L_T_read_16 n v_117 v_140 T_134
          else
            let T_60 : ARR := sA T_16 1 ((T_16 2 3).toNatClampNeg) (0 : Int32)
            let T_68 : ARR := sA T_60 2 3 ((T_60 2 3) + (1 : Int32))
            let v_140 : Int32 := x2_16 + (1 : Int32)
            L_T_read_16 n (-1 : Int32) v_140 T_68
      else
        if v_30 = (45 : Int32) then
          if x1_16 = (-1 : Int32) then
            let v_140 : Int32 := x2_16 + (1 : Int32)
            L_T_read_16 n (8 : Int32) v_140 T_16
          else
            if v_30 < (48 : Int32) then
              (x2_16, T_16)
            else
              if (55 : Int32) < v_30 then
                (x2_16, T_16)
              else
                if (v_30 - (48 : Int32)) ≤ x1_16 then
                  (x2_16, T_16)
                else
                  let v_117 : Int32 := (v_30 - (48 : Int32))
                  let v_128 : Int32 := ((T_16 2 3) - (1 : Int32))
                  let T_134 : ARR := sA T_16 1 (v_128.toNatClampNeg) ((T_16 1 (v_128.toNatClampNeg)) ||| ((1 : Int32) <<< (v_117 &&& 31)))
                  let v_140 : Int32 := x2_16 + (1 : Int32)
                  L_T_read_16 n v_117 v_140 T_134
        else
          if v_30 < (48 : Int32) then
            (x2_16, T_16)
          else
            if (55 : Int32) < v_30 then
              (x2_16, T_16)
            else
              if (v_30 - (48 : Int32)) ≤ x1_16 then
                (x2_16, T_16)
              else
                let v_117 : Int32 := (v_30 - (48 : Int32))
                let v_128 : Int32 := ((T_16 2 3) - (1 : Int32))
                let T_134 : ARR := sA T_16 1 (v_128.toNatClampNeg) ((T_16 1 (v_128.toNatClampNeg)) ||| ((1 : Int32) <<< (v_117 &&& 31)))
                let v_140 : Int32 := x2_16 + (1 : Int32)
                L_T_read_16 n v_117 v_140 T_134

def F_T_read (T : ARR) : Int32 × ARR :=
  let T_8 : ARR := sA T 1 0 (0 : Int32)
  let T_11 : ARR := sA T_8 2 3 (1 : Int32)
  L_T_read_16 61 (-1 : Int32) (0 : Int32) T_11
