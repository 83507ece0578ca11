def F_S_set (S : SLS) (a1 : Int32) (a2 : Int32) : Int32 × SLS :=
  let r_4 : Int32 := (F_S_isWithin a1 (0 : Int32) (6 : Int32))
  if r_4 = (0 : Int32) then
    ((-2 : Int32), S)
  else
    let r_24 : Int32 := (F_S_isWithin a2 (leastS (a1.toNatClampNeg)) (mostS (a1.toNatClampNeg)))
    if r_24 = (0 : Int32) then
      ((-2 : Int32), S)
    else
      let v_42 : Int32 := ((S.1 0).1 3 (a1.toNatClampNeg))
      if v_42 = a2 then
        ((-5 : Int32), S)
      else
        let r_52 : SLS := (F_S_recordState S)
        let S_64 : SLS := sSC r_52 0 (sC (r_52.1 0) 3 (a1.toNatClampNeg) a2)
        (v_42, S_64)
