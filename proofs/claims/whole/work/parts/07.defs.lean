def F_M_in (a1 : Int64) (a2 : Int64) (a3 : Int64) : Int32 :=
  let j_18 : Int32 :=
    if (lg_cmp a1 a2) < (0 : Int32) then
      (0 : Int32)
    else
      if (0 : Int32) < (lg_cmp a1 a3) then
        (0 : Int32)
      else
        (1 : Int32)
  j_18
def F_M_has (a1 : Int32) (a2 : Int32) : Int32 :=
  let j_14 : Int32 :=
    if ((a1 >>> (a2 &&& 31)) &&& (1 : Int32)) = (1 : Int32) then
      (1 : Int32)
    else
      (0 : Int32)
  j_14
def F_M_delayWith (M : ARR) (a1 : Int32) (a2 : Int32) (a3 : Int32) : Int32 :=
  (((((M 0 (((0 : Int32) + a1).toNatClampNeg)) * (1000 : Int32)) / (a2 - (300 : Int32))) * ((900 : Int32) + (a3 * (5 : Int32)))) / (1000 : Int32))
def F_M_spends (M : ARR) (a1 : Int32) : ARR :=
  let v_27 : Int32 := ((M 0 54) + (((M 0 39) * (M 0 39)) / (10000 : Int32)))
  let M_42 : ARR := sA M 0 46 ((M 0 46) + (v_27 / (1000 : Int32)))
  let M_54 : ARR := sA M_42 0 54 (v_27 - v_27 / (1000 : Int32) * (1000 : Int32))
  let M_65 : ARR := sA M_54 0 42 ((M_54 0 42) + (1 : Int32))
  let M_82 : ARR := sA M_65 0 47 ((M_65 0 47) + (M_65 0 41))
  let v_98 : Int32 := ((20 : Int32) + ((a1 * (M_82 0 39)) / (100 : Int32)))
  let j_111 : Int32 :=
    if v_98 ≤ (120 : Int32) then
      v_98
    else
      (120 : Int32)
  let j_165 : ARR :=
    if ((M_82 0 42) - (M_82 0 42) / (4 : Int32) * (4 : Int32)) = (0 : Int32) then
      let j_163 : Int32 :=
        if j_111 ≤ (M_82 0 40) then
          if (M_82 0 40) ≤ j_111 then
            (0 : Int32)
          else
            (-1 : Int32)
        else
          (1 : Int32)
      let M_164 : ARR := sA M_82 0 40 ((M_82 0 40) + j_163)
      M_164
    else
      M_82
  j_165
def F_M_looks (M : ARR) : ARR :=
  let v_15 : Int32 := ((M 0 48) - (M 0 36))
  let j_108 : ARR :=
    if (0 : Int32) ≤ v_15 then
      if v_15 ≤ (0 : Int32) then
        M
      else
        let j_77 : Int32 :=
          if (M 0 38) ≤ v_15 then
            (M 0 38)
          else
            v_15
        let M_96 : ARR := sA M 0 39 ((M 0 39) + (j_77 * (M 0 37)))
        let M_107 : ARR := sA M_96 0 52 ((M_96 0 52) + j_77)
        M_107
    else
      let M_36 : ARR := sA M 0 39 ((M 0 39) - (M 0 37))
      let M_47 : ARR := sA M_36 0 53 ((M_36 0 53) + (1 : Int32))
      M_47
  let j_159 : Int32 :=
    if (500 : Int32) ≤ (j_108 0 39) then
      if (j_108 0 39) ≤ (1200 : Int32) then
        (j_108 0 39)
      else
        (1200 : Int32)
    else
      (500 : Int32)
  let M_159 : ARR := sA j_108 0 39 j_159
  let M_167 : ARR := sA M_159 0 47 (0 : Int32)
  let M_175 : ARR := sA M_167 0 48 (0 : Int32)
  M_175
