def F_L_up (a1 : Int32) (a2 : Int32) : Int32 :=
  ((a1 &&& (2147483647 : Int32)) - (a1 &&& (2147483647 : Int32)) / a2 * a2)
def L_L_isCycle_21 (S : SLS) (r_9 : Int32) : Nat → Int32 → Int32 → Int32 → Int32 × Int32
  | 0, x3_21, x4_21, x5_21 => (x3_21, x4_21)
  | n + 1, x3_21, x4_21, x5_21 =>
    let r_26 : Int32 := (F_S_count S (12 : Int32))
    if r_26 ≤ x5_21 then
      (x3_21, x4_21)
    else
      let j_76 : Int32 × Int32 :=
        if ((r_9 >>> (x5_21 &&& 31)) &&& (1 : Int32)) = (1 : Int32) then
          let r_46 : Int32 := (F_S_path S x5_21 (2 : Int32))
          let j_63 : Int32 :=
            if r_46 ≤ x3_21 then
              x3_21
            else
              r_46
          let r_70 : Int32 := (F_S_path S x5_21 (3 : Int32))
          let v_74 : Int32 := (x4_21 + r_70)
          (j_63, v_74)
        else
          (x3_21, x4_21)
      let v_76 : Int32 := x5_21 + (1 : Int32)
      L_L_isCycle_21 S r_9 n j_76.1 j_76.2 v_76

def L_L_isCycle_204 (r_9 : Int32) (r_175 : Int32 × SLS) : Nat → Int32 → Int32 → Int32 → Int32 × Int32
  | 0, x17_204, x18_204, x19_204 => (x17_204, x18_204)
  | n + 1, x17_204, x18_204, x19_204 =>
    let r_209 : Int32 := (F_S_count r_175.2 (12 : Int32))
    if r_209 ≤ x19_204 then
      (x17_204, x18_204)
    else
      let j_238 : Int32 :=
        if ((r_9 >>> (x19_204 &&& 31)) &&& (1 : Int32)) = (1 : Int32) then
          let r_231 : Int32 := (F_S_path r_175.2 x19_204 (3 : Int32))
          r_231
        else
          (0 : Int32)
      let v_239 : Int32 := (x17_204 + j_238)
      let v_250 : Int32 := (x18_204 + ((r_9 >>> (x19_204 &&& 31)) &&& (1 : Int32)))
      let v_252 : Int32 := x19_204 + (1 : Int32)
      L_L_isCycle_204 r_9 r_175 n v_239 v_250 v_252

def F_L_isCycle (S : SLS) : Int32 × SLS :=
  let r_3 : Int32 := (F_S_count S (11 : Int32))
  let r_9 : Int32 := (F_S_workload S r_3)
  let q_21 : Int32 × Int32 := L_L_isCycle_21 S r_9 9 (0 : Int32) (0 : Int32) (0 : Int32)
  let r_84 : Int32 := (F_S_count S (0 : Int32))
  let r_91 : Int32 := (F_S_count S (1 : Int32))
  let r_98 : Int32 := (F_S_count S (3 : Int32))
  let r_105 : Int32 := (F_S_count S (4 : Int32))
  let r_113 : Int32 := (F_S_count S (6 : Int32))
  let r_121 : Int32 := (F_S_count S (8 : Int32))
  let r_129 : Int32 := (F_S_count S (9 : Int32))
  let r_137 : Int32 := (F_S_count S (19 : Int32))
  let r_144 : Int32 := (F_S_count S (2 : Int32))
  let j_156 : Int32 :=
    if r_144 = (1 : Int32) then
      (1 : Int32)
    else
      (0 : Int32)
  let r_161 : Int32 := (F_S_count S (15 : Int32))
  let r_167 : Int32 := (F_S_count S (16 : Int32))
  let v_171 : Int32 := (r_161 + r_167)
  let r_175 : Int32 × SLS := (F_S_run S (1 : Int32))
  let j_193 : Int32 :=
    if q_21.1 = (1 : Int32) then
      ((1 : Int32) + r_137)
    else
      (1 : Int32)
  let q_204 : Int32 × Int32 := L_L_isCycle_204 r_9 r_175 9 (0 : Int32) (0 : Int32) (0 : Int32)
  let j_270 : Int32 :=
    if q_21.1 = (1 : Int32) then
      (1 : Int32)
    else
      (0 : Int32)
  let j_363 : Int32 :=
    if r_175.1 = j_270 then
      let r_275 : Int32 := (F_S_count r_175.2 (3 : Int32))
      if r_275 = (r_98 + j_193) then
        let r_288 : Int32 := (F_S_count r_175.2 (4 : Int32))
        let j_303 : Int32 :=
          if q_21.1 = (2 : Int32) then
            (0 : Int32)
          else
            (1 : Int32)
        if r_288 = (r_105 + j_303) then
          let r_310 : Int32 := (F_S_count r_175.2 (6 : Int32))
          let j_325 : Int32 :=
            if q_21.1 = (2 : Int32) then
              (1 : Int32)
            else
              (0 : Int32)
          if r_310 = (r_113 + j_325) then
            if q_204.1 = (q_21.2 + q_204.2) then
              let r_342 : Int32 := (F_S_count r_175.2 (11 : Int32))
              let r_351 : Int32 := (F_S_count r_175.2 (10 : Int32))
              if r_342 = ((r_3 + (1 : Int32)) - (r_3 + (1 : Int32)) / r_351 * r_351) then
                (1 : Int32)
              else
                (0 : Int32)
            else
              (0 : Int32)
          else
            (0 : Int32)
        else
          (0 : Int32)
      else
        (0 : Int32)
    else
      (0 : Int32)
  let r_367 : Int32 := (F_S_count r_175.2 (1 : Int32))
  let v_373 : Int32 := (r_367 - r_91)
  let v_387 : Int32 := (((r_98 + j_193) / (4 : Int32)) - (r_98 / (4 : Int32)))
  let j_434 : Int32 :=
    if j_363 = (0 : Int32) then
      (0 : Int32)
    else
      if v_387 < v_373 then
        (0 : Int32)
      else
        if v_387 < (-v_373) then
          (0 : Int32)
        else
          let r_411 : Int32 := (F_S_count r_175.2 (1 : Int32))
          if r_411 < (20 : Int32) then
            (0 : Int32)
          else
            let r_421 : Int32 := (F_S_count r_175.2 (1 : Int32))
            if (120 : Int32) < r_421 then
              (0 : Int32)
            else
              (1 : Int32)
  if j_156 = (0 : Int32) then
    let j_497 : Int32 :=
      if j_434 = (0 : Int32) then
        (0 : Int32)
      else
        let r_449 : Int32 := (F_S_count r_175.2 (8 : Int32))
        if r_449 = (0 : Int32) then
          let r_458 : Int32 := (F_S_count r_175.2 (9 : Int32))
          if r_458 = (0 : Int32) then
            let r_466 : Int32 := (F_S_count r_175.2 (0 : Int32))
            if r_466 = r_84 then
              let r_477 : Int32 := (F_S_count r_175.2 (15 : Int32))
              let r_483 : Int32 := (F_S_count r_175.2 (16 : Int32))
              if (r_477 + r_483) = v_171 then
                (1 : Int32)
              else
                (0 : Int32)
            else
              (0 : Int32)
          else
            (0 : Int32)
        else
          (0 : Int32)
    (j_497, r_175.2)
  else
    let v_503 : Int32 := (r_129 + r_175.1)
    let r_508 : Int32 := (F_S_count r_175.2 (21 : Int32))
    let r_521 : Int32 := (F_S_count r_175.2 (20 : Int32))
    let j_532 : Int32 :=
      if (r_121 + j_193) < r_521 then
        (0 : Int32)
      else
        (1 : Int32)
    if j_532 = (0 : Int32) then
      let j_584 : Int32 :=
        if j_434 = (0 : Int32) then
          (0 : Int32)
        else
          let r_547 : Int32 := (F_S_count r_175.2 (8 : Int32))
          if r_547 = (r_121 + j_193) then
            let r_561 : Int32 := (F_S_count r_175.2 (9 : Int32))
            if r_561 = v_503 then
              let r_571 : Int32 := (F_S_count r_175.2 (0 : Int32))
              if r_571 = r_84 then
                (1 : Int32)
              else
                (0 : Int32)
            else
              (0 : Int32)
          else
            (0 : Int32)
      (j_584, r_175.2)
    else
      let r_593 : Int32 := (F_S_count r_175.2 (23 : Int32))
      let j_613 : Int32 :=
        if (v_503 - r_508) ≤ r_593 then
          (v_503 - r_508)
        else
          let r_602 : Int32 := (F_S_count r_175.2 (23 : Int32))
          r_602
      let j_655 : Int32 :=
        if r_508 ≤ v_503 then
          let j_647 : Int32 :=
            if j_613 ≤ (0 : Int32) then
              (0 : Int32)
            else
              j_613
          let r_650 : Int32 := (F_S_count r_175.2 (22 : Int32))
          (r_84 + (j_647 * r_650))
        else
          let r_627 : Int32 := (F_S_count r_175.2 (22 : Int32))
          (r_84 - r_627)
      let j_687 : Int32 :=
        if (500 : Int32) ≤ j_655 then
          if j_655 ≤ (1200 : Int32) then
            j_655
          else
            (1200 : Int32)
        else
          (500 : Int32)
      let j_768 : Int32 :=
        if j_434 = (0 : Int32) then
          (0 : Int32)
        else
          let r_697 : Int32 := (F_S_count r_175.2 (8 : Int32))
          if r_697 = (0 : Int32) then
            let r_706 : Int32 := (F_S_count r_175.2 (9 : Int32))
            if r_706 = (0 : Int32) then
              let r_714 : Int32 := (F_S_count r_175.2 (0 : Int32))
              if r_714 = j_687 then
                let r_725 : Int32 := (F_S_count r_175.2 (15 : Int32))
                let r_731 : Int32 := (F_S_count r_175.2 (16 : Int32))
                let j_759 : Int32 :=
                  if r_508 ≤ v_503 then
                    if j_613 ≤ (0 : Int32) then
                      (0 : Int32)
                    else
                      j_613
                  else
                    (1 : Int32)
                if (r_725 + r_731) = (v_171 + j_759) then
                  (1 : Int32)
                else
                  (0 : Int32)
              else
                (0 : Int32)
            else
              (0 : Int32)
          else
            (0 : Int32)
      (j_768, r_175.2)
def L_L_isWell_143 (S : SLS) (x2_78 : Int32) : Nat → Int32 → Int32 → Int32
  | 0, x6_143, x7_143 => x6_143
  | n + 1, x6_143, x7_143 =>
    let r_148 : Int32 := (F_S_count S (10 : Int32))
    if r_148 ≤ x7_143 then
      x6_143
    else
      let r_159 : Int32 := (F_S_workload S x7_143)
      let v_167 : Int32 := (x6_143 + ((r_159 >>> (x2_78 &&& 31)) &&& (1 : Int32)))
      let v_169 : Int32 := x7_143 + (1 : Int32)
      L_L_isWell_143 S x2_78 n v_167 v_169

def L_L_isWell_78 (S : SLS) : Nat → Int32 → Int32 → Int32
  | 0, x1_78, x2_78 => x1_78
  | n + 1, x1_78, x2_78 =>
    let r_82 : Int32 := (F_S_count S (12 : Int32))
    if r_82 ≤ x2_78 then
      x1_78
    else
      if x1_78 = (0 : Int32) then
        x1_78
      else
        let r_95 : Int32 := (F_S_path S x2_78 (1 : Int32))
        let r_102 : Int32 := (F_S_count S (17 : Int32))
        let j_135 : Int32 :=
          if r_102 < r_95 then
            let r_123 : Int32 := (F_S_count S (18 : Int32))
            if (r_102 + r_123) < r_95 then
              (2 : Int32)
            else
              (1 : Int32)
          else
            (0 : Int32)
        let q_143 : Int32 := L_L_isWell_143 S x2_78 17 (0 : Int32) (0 : Int32)
        let r_180 : Int32 := (F_S_count S (0 : Int32))
        let r_185 : Int32 := (F_S_count S (1 : Int32))
        let r_188 : Int32 := (F_S_delay S x2_78 r_180 r_185)
        let j_313 : Int32 :=
          if r_95 = r_188 then
            let r_197 : Int32 := (F_S_path S x2_78 (2 : Int32))
            if r_197 = j_135 then
              let r_208 : Int32 := (F_S_count S (13 : Int32))
              let j_226 : Int32 :=
                if j_135 = (1 : Int32) then
                  (1 : Int32)
                else
                  (0 : Int32)
              if ((r_208 >>> (x2_78 &&& 31)) &&& (1 : Int32)) = j_226 then
                let r_232 : Int32 := (F_S_count S (14 : Int32))
                let j_250 : Int32 :=
                  if j_135 = (2 : Int32) then
                    (1 : Int32)
                  else
                    (0 : Int32)
                if ((r_232 >>> (x2_78 &&& 31)) &&& (1 : Int32)) = j_250 then
                  let r_256 : Int32 := (F_S_path S x2_78 (4 : Int32))
                  if r_256 = q_143 then
                    let r_266 : Int32 := (F_S_count S (0 : Int32))
                    if r_266 = (1200 : Int32) then
                      let r_296 : Int32 := (F_S_count S (0 : Int32))
                      let r_301 : Int32 := (F_S_delay S x2_78 r_296 (120 : Int32))
                      if r_301 < r_95 then
                        (0 : Int32)
                      else
                        (1 : Int32)
                    else
                      let r_282 : Int32 := (F_S_count S (1 : Int32))
                      let r_285 : Int32 := (F_S_delay S x2_78 (1200 : Int32) r_282)
                      if r_95 < r_285 then
                        (0 : Int32)
                      else
                        let r_296 : Int32 := (F_S_count S (0 : Int32))
                        let r_301 : Int32 := (F_S_delay S x2_78 r_296 (120 : Int32))
                        if r_301 < r_95 then
                          (0 : Int32)
                        else
                          (1 : Int32)
                  else
                    (0 : Int32)
                else
                  (0 : Int32)
              else
                (0 : Int32)
            else
              (0 : Int32)
          else
            (0 : Int32)
        let v_314 : Int32 := x2_78 + (1 : Int32)
        L_L_isWell_78 S n j_313 v_314

def F_L_isWell (S : SLS) : Int32 :=
  let r_2 : Int32 := (F_S_count S (4 : Int32))
  let r_8 : Int32 := (F_S_count S (6 : Int32))
  let r_14 : Int32 := (F_S_count S (3 : Int32))
  let j_75 : Int32 :=
    if r_14 < (r_2 + r_8) then
      (0 : Int32)
    else
      let r_22 : Int32 := (F_S_count S (5 : Int32))
      let r_27 : Int32 := (F_S_count S (4 : Int32))
      if r_27 < r_22 then
        (0 : Int32)
      else
        let r_35 : Int32 := (F_S_count S (0 : Int32))
        if r_35 < (500 : Int32) then
          (0 : Int32)
        else
          let r_46 : Int32 := (F_S_count S (0 : Int32))
          if (1200 : Int32) < r_46 then
            (0 : Int32)
          else
            let r_58 : Int32 := (F_S_count S (11 : Int32))
            let r_64 : Int32 := (F_S_count S (10 : Int32))
            if r_64 ≤ r_58 then
              (0 : Int32)
            else
              (1 : Int32)
  let q_78 : Int32 := L_L_isWell_78 S 9 j_75 (0 : Int32)
  q_78
def L_L_areAlike_64 (V : LW) : Nat → Int32 → Int32 → Int32
  | 0, x2_64, x3_64 => x2_64
  | n + 1, x2_64, x3_64 =>
    if (24 : Int32) ≤ x3_64 then
      x2_64
    else
      let j_110 : Int32 :=
        if x2_64 = (0 : Int32) then
          (0 : Int32)
        else
          if x3_64 = (12 : Int32) then
            (1 : Int32)
          else
            if x3_64 = (13 : Int32) then
              (1 : Int32)
            else
              if x3_64 = (14 : Int32) then
                (1 : Int32)
              else
                let r_94 : Int32 := (F_S_count V.1 x3_64)
                let r_99 : Int32 := (F_S_count V.2.1 x3_64)
                if r_94 = r_99 then
                  (1 : Int32)
                else
                  (0 : Int32)
      let v_111 : Int32 := x3_64 + (1 : Int32)
      L_L_areAlike_64 V n j_110 v_111

def L_L_areAlike_127 (V : LW) (x3_119 : Int32) : Nat → Int32 → Int32 → Int32
  | 0, x2_127, x4_127 => x2_127
  | n + 1, x2_127, x4_127 =>
    if (5 : Int32) ≤ x4_127 then
      x2_127
    else
      let j_159 : Int32 :=
        if x2_127 = (0 : Int32) then
          (0 : Int32)
        else
          let r_141 : Int32 := (F_S_path V.1 x3_119 x4_127)
          let r_148 : Int32 := (F_S_path V.2.1 x3_119 x4_127)
          if r_141 = r_148 then
            (1 : Int32)
          else
            (0 : Int32)
      let v_160 : Int32 := x4_127 + (1 : Int32)
      L_L_areAlike_127 V x3_119 n j_159 v_160

def L_L_areAlike_119 (V : LW) : Nat → Int32 → Int32 → Int32
  | 0, x2_119, x3_119 => x2_119
  | n + 1, x2_119, x3_119 =>
    if (3 : Int32) ≤ x3_119 then
      x2_119
    else
      let q_127 : Int32 := L_L_areAlike_127 V x3_119 6 x2_119 (0 : Int32)
      let v_166 : Int32 := x3_119 + (1 : Int32)
      L_L_areAlike_119 V n q_127 v_166

def F_L_areAlike (V : LW) : Int32 :=
  let r_3 : Int32 := (F_S_count V.1 (12 : Int32))
  let j_61 : Int32 :=
    if r_3 = (3 : Int32) then
      let r_13 : Int32 := (F_S_count V.2.1 (12 : Int32))
      if r_13 = (5 : Int32) then
        let r_23 : Int32 := (F_S_count V.1 (13 : Int32))
        let r_29 : Int32 := (F_S_count V.2.1 (13 : Int32))
        if r_23 = (r_29 &&& (7 : Int32)) then
          let r_41 : Int32 := (F_S_count V.1 (14 : Int32))
          let r_47 : Int32 := (F_S_count V.2.1 (14 : Int32))
          if r_41 = (r_47 &&& (7 : Int32)) then
            (1 : Int32)
          else
            (0 : Int32)
        else
          (0 : Int32)
      else
        (0 : Int32)
    else
      (0 : Int32)
  let q_64 : Int32 := L_L_areAlike_64 V 25 j_61 (0 : Int32)
  let q_119 : Int32 := L_L_areAlike_119 V 4 q_64 (0 : Int32)
  let j_199 : Int32 :=
    if q_119 = (0 : Int32) then
      (0 : Int32)
    else
      let r_179 : Int32 := (F_S_path V.2.1 (3 : Int32) (3 : Int32))
      if r_179 = (0 : Int32) then
        let r_188 : Int32 := (F_S_path V.2.1 (4 : Int32) (3 : Int32))
        if r_188 = (0 : Int32) then
          (1 : Int32)
        else
          (0 : Int32)
      else
        (0 : Int32)
  j_199
def F_L_isStep_c92 (V : LW) (v_3 : Int32) : Int32 × LW :=
  let r_95 : Int32 := (F_L_up v_3 (3 : Int32))
  let r_109 : Int32 := (F_L_up (v_3 >>> ((2 : Int32) &&& 31)) (190 : Int32))
  let v_113 : Int32 := ((40 : Int32) + r_109)
  let r_120 : Int32 × SLS := (F_S_setLength V.1 r_95 v_113)
  let V_120 : LW := (r_120.2, V.2)
  let r_128 : Int32 × SLS := (F_S_setLength V_120.2.1 r_95 v_113)
  let V_128 : LW := (V_120.1, r_128.2, V_120.2.2)
  let j_151 : Int32 :=
    if r_120.1 = r_128.1 then
      let r_138 : Int32 := (F_S_path V_128.1 r_95 (0 : Int32))
      if r_138 = v_113 then
        (1 : Int32)
      else
        (0 : Int32)
    else
      (0 : Int32)
  (j_151, V_128)
def L_L_isStep_260 (r_200 : Int32) : Nat → Int32 → Int32 → LW → Int32 × LW
  | 0, x8_260, x11_260, V_260 => (x8_260, V_260)
  | n + 1, x8_260, x11_260, V_260 =>
    if (3 : Int32) ≤ x11_260 then
      (x8_260, V_260)
    else
      let j_309 : Int32 × LW :=
        if x8_260 = (0 : Int32) then
          ((0 : Int32), V_260)
        else
          if ((r_200 >>> (x11_260 &&& 31)) &&& (1 : Int32)) = (0 : Int32) then
            ((1 : Int32), V_260)
          else
            let r_288 : Int32 × SLS := (F_S_type V_260.1 ((((48 : Int32) + x11_260).toUInt32 % 65536).toInt32))
            let V_288 : LW := (r_288.2, V_260.2)
            let r_298 : Int32 × SLS := (F_S_type V_288.2.1 ((((48 : Int32) + x11_260).toUInt32 % 65536).toInt32))
            let V_298 : LW := (V_288.1, r_298.2, V_288.2.2)
            if r_288.1 = r_298.1 then
              ((1 : Int32), V_298)
            else
              ((0 : Int32), V_298)
      let v_311 : Int32 := x11_260 + (1 : Int32)
      L_L_isStep_260 r_200 n j_309.1 v_311 j_309.2

def L_L_isStep_184 (v_3 : Int32) (v_161 : Int32) : Nat → Int32 → Int32 → LW → Int32 × LW
  | 0, x8_184, x9_184, V_184 => (x8_184, V_184)
  | n + 1, x8_184, x9_184, V_184 =>
    if v_161 ≤ x9_184 then
      (x8_184, V_184)
    else
      let r_200 : Int32 := (F_L_up (v_3 >>> (((2 : Int32) * x9_184) &&& 31)) (8 : Int32))
      let j_255 : Int32 × LW :=
        if x8_184 = (0 : Int32) then
          ((0 : Int32), V_184)
        else
          if x9_184 = (0 : Int32) then
            if (0 : Int32) < r_200 then
              ((1 : Int32), V_184)
            else
              let r_238 : Int32 × SLS := (F_S_type V_184.1 (45 : Int32))
              let V_238 : LW := (r_238.2, V_184.2)
              let r_244 : Int32 × SLS := (F_S_type V_238.2.1 (45 : Int32))
              let V_244 : LW := (V_238.1, r_244.2, V_238.2.2)
              if r_238.1 = r_244.1 then
                ((1 : Int32), V_244)
              else
                ((0 : Int32), V_244)
          else
            let r_218 : Int32 × SLS := (F_S_type V_184.1 (44 : Int32))
            let V_218 : LW := (r_218.2, V_184.2)
            let r_224 : Int32 × SLS := (F_S_type V_218.2.1 (44 : Int32))
            let V_224 : LW := (V_218.1, r_224.2, V_218.2.2)
            if r_218.1 = r_224.1 then
              if (0 : Int32) < r_200 then
                ((1 : Int32), V_224)
              else
                let r_238 : Int32 × SLS := (F_S_type V_224.1 (45 : Int32))
                let V_238 : LW := (r_238.2, V_224.2)
                let r_244 : Int32 × SLS := (F_S_type V_238.2.1 (45 : Int32))
                let V_244 : LW := (V_238.1, r_244.2, V_238.2.2)
                if r_238.1 = r_244.1 then
                  ((1 : Int32), V_244)
                else
                  ((0 : Int32), V_244)
            else
              ((0 : Int32), V_224)
      let q_260 : Int32 × LW := L_L_isStep_260 r_200 4 j_255.1 (0 : Int32) j_255.2
      let V_322 : LW := (q_260.2.1, q_260.2.2.1, upd q_260.2.2.2 (x9_184.toNatClampNeg) r_200)
      let v_323 : Int32 := x9_184 + (1 : Int32)
      L_L_isStep_184 v_3 v_161 n q_260.1 v_323 V_322

def F_L_isStep_c152 (V : LW) (v_3 : Int32) : Int32 × LW :=
  let r_157 : Int32 := (F_L_up v_3 (6 : Int32))
  let v_161 : Int32 := ((1 : Int32) + r_157)
  let r_164 : Int32 × SLS := (F_S_clearText V.1)
  let V_164 : LW := (r_164.2, V.2)
  let r_168 : Int32 × SLS := (F_S_clearText V_164.2.1)
  let V_168 : LW := (V_164.1, r_168.2, V_164.2.2)
  let j_179 : Int32 :=
    if r_164.1 = r_168.1 then
      (1 : Int32)
    else
      (0 : Int32)
  let q_184 : Int32 × LW := L_L_isStep_184 v_3 v_161 7 j_179 (0 : Int32) V_168
  let j_383 : Int32 × LW :=
    if q_184.1 = (0 : Int32) then
      ((0 : Int32), q_184.2)
    else
      let r_335 : Int32 × SLS := (F_S_takeWorkload q_184.2.1)
      let V_335 : LW := (r_335.2, q_184.2.2)
      if r_335.1 = v_161 then
        let r_344 : Int32 × SLS := (F_S_takeWorkload V_335.2.1)
        let V_344 : LW := (V_335.1, r_344.2, V_335.2.2)
        if r_344.1 = v_161 then
          let r_357 : Int32 := (F_S_workload V_344.1 (v_161 - (1 : Int32)))
          if r_357 = (V_344.2.2 ((v_161 - (1 : Int32)).toNatClampNeg)) then
            let r_372 : Int32 := (F_S_count V_344.1 (11 : Int32))
            if r_372 = (0 : Int32) then
              ((1 : Int32), V_344)
            else
              ((0 : Int32), V_344)
          else
            ((0 : Int32), V_344)
        else
          ((0 : Int32), V_344)
      else
        ((0 : Int32), V_335)
  (j_383.1, j_383.2)
def L_L_isStep_443 (v_411 : Int32) : Nat → Int32 → Int32 → LW → Int32 × LW
  | 0, x9_443, x10_443, V_443 => (x9_443, V_443)
  | n + 1, x9_443, x10_443, V_443 =>
    if v_411 ≤ x10_443 then
      (x9_443, V_443)
    else
      if x9_443 = (0 : Int32) then
        (x9_443, V_443)
      else
        let r_456 : Int32 × SLS := (F_L_isCycle V_443.2.1)
        let V_456 : LW := (V_443.1, r_456.2, V_443.2.2)
        let v_461 : Int32 := x10_443 + (1 : Int32)
        L_L_isStep_443 v_411 n r_456.1 v_461 V_456

def F_L_isStep_c384 (V : LW) (v_3 : Int32) (r_7 : Int32) : Int32 × LW :=
  let r_393 : Int32 := (F_L_up (v_3 >>> ((6 : Int32) &&& 31)) (3 : Int32))
  let j_407 : Int32 :=
    if r_393 = (0 : Int32) then
      (200 : Int32)
    else
      (30 : Int32)
  let r_407 : Int32 := (F_L_up v_3 j_407)
  let v_411 : Int32 := ((1 : Int32) + r_407)
  let r_416 : Int32 × SLS := (F_S_run V.1 v_411)
  let V_416 : LW := (r_416.2, V.2)
  let j_438 : Int32 :=
    if r_416.1 < (0 : Int32) then
      (0 : Int32)
    else
      if v_411 < r_416.1 then
        (0 : Int32)
      else
        (1 : Int32)
  let q_443 : Int32 × LW := L_L_isStep_443 v_411 201 j_438 (0 : Int32) V_416
  let j_516 : Int32 :=
    if q_443.1 = (0 : Int32) then
      (0 : Int32)
    else
      let r_474 : Int32 := (F_S_count q_443.2.2.1 (5 : Int32))
      let r_479 : Int32 := (F_S_count q_443.2.1 (5 : Int32))
      if r_474 = r_479 then
        let r_487 : Int32 := (F_S_count q_443.2.1 (3 : Int32))
        let r_492 : Int32 := (F_S_count q_443.2.2.1 (3 : Int32))
        if r_487 = r_492 then
          let r_500 : Int32 := (F_S_count q_443.2.1 (3 : Int32))
          if r_500 < (r_7 + v_411) then
            (0 : Int32)
          else
            (1 : Int32)
        else
          (0 : Int32)
      else
        (0 : Int32)
  (j_516, q_443.2)
def F_L_isStep_c517 (V : LW) (v_3 : Int32) : Int32 × LW :=
  let r_525 : Int32 := (F_L_up v_3 (701 : Int32))
  let v_529 : Int32 := ((500 : Int32) + r_525)
  let r_534 : Int32 × SLS := (F_S_setVoltage V.1 v_529)
  let V_534 : LW := (r_534.2, V.2)
  let r_540 : Int32 × SLS := (F_S_setVoltage V_534.2.1 v_529)
  let V_540 : LW := (V_534.1, r_540.2, V_534.2.2)
  let j_561 : Int32 :=
    if r_534.1 = r_540.1 then
      let r_548 : Int32 := (F_S_count V_540.1 (0 : Int32))
      if r_548 = v_529 then
        (1 : Int32)
      else
        (0 : Int32)
    else
      (0 : Int32)
  (j_561, V_540)
def F_L_isStep_c562 (V : LW) (v_3 : Int32) (r_14 : Int32) : Int32 × LW :=
  let r_565 : Int32 := (F_L_up v_3 (4 : Int32))
  let j_576 : Int32 :=
    if r_565 ≤ (0 : Int32) then
      (0 : Int32)
    else
      (1 : Int32)
  let r_580 : Int32 := (F_S_count V.1 (2 : Int32))
  let j_592 : Int32 :=
    if r_580 = (1 : Int32) then
      (1 : Int32)
    else
      (0 : Int32)
  let r_597 : Int32 × SLS := (F_S_govern V.1 j_576)
  let V_597 : LW := (r_597.2, V.2)
  let r_607 : Int32 × SLS := (F_S_govern V_597.2.1 j_576)
  let V_607 : LW := (V_597.1, r_607.2, V_597.2.2)
  let j_662 : Int32 :=
    if r_597.1 = r_607.1 then
      let j_629 : Int32 :=
        if j_576 = j_592 then
          (-5 : Int32)
        else
          r_14
      if r_597.1 = j_629 then
        if j_576 = j_592 then
          (1 : Int32)
        else
          let r_642 : Int32 := (F_S_count V_607.1 (8 : Int32))
          if r_642 = (0 : Int32) then
            let r_651 : Int32 := (F_S_count V_607.1 (9 : Int32))
            if r_651 = (0 : Int32) then
              (1 : Int32)
            else
              (0 : Int32)
          else
            (0 : Int32)
      else
        (0 : Int32)
    else
      (0 : Int32)
  (j_662, V_607)
def F_L_isStep_c663 (V : LW) (v_3 : Int32) : Int32 × LW :=
  let r_667 : Int32 := (F_L_up v_3 (7 : Int32))
  let j_802 : Int32 :=
    if r_667 = (0 : Int32) then
      let r_686 : Int32 := (F_L_up (v_3 >>> ((3 : Int32) &&& 31)) (200 : Int32))
      ((100 : Int32) + r_686)
    else
      if r_667 = (1 : Int32) then
        let r_706 : Int32 := (F_L_up (v_3 >>> ((3 : Int32) &&& 31)) (150 : Int32))
        r_706
      else
        if r_667 = (2 : Int32) then
          let r_725 : Int32 := (F_L_up (v_3 >>> ((3 : Int32) &&& 31)) (20 : Int32))
          ((1 : Int32) + r_725)
        else
          if r_667 = (3 : Int32) then
            let r_746 : Int32 := (F_L_up (v_3 >>> ((3 : Int32) &&& 31)) (90 : Int32))
            ((10 : Int32) + r_746)
          else
            if r_667 = (4 : Int32) then
              let r_765 : Int32 := (F_L_up (v_3 >>> ((3 : Int32) &&& 31)) (12 : Int32))
              r_765
            else
              if r_667 = (5 : Int32) then
                let r_784 : Int32 := (F_L_up (v_3 >>> ((3 : Int32) &&& 31)) (50 : Int32))
                ((1 : Int32) + r_784)
              else
                let r_798 : Int32 := (F_L_up (v_3 >>> ((3 : Int32) &&& 31)) (10 : Int32))
                ((1 : Int32) + r_798)
  let r_809 : Int32 × SLS := (F_S_set V.1 r_667 j_802)
  let V_809 : LW := (r_809.2, V.2)
  let r_817 : Int32 × SLS := (F_S_set V_809.2.1 r_667 j_802)
  let V_817 : LW := (V_809.1, r_817.2, V_809.2.2)
  let j_842 : Int32 :=
    if r_809.1 = r_817.1 then
      let r_829 : Int32 := (F_S_count V_817.1 ((17 : Int32) + r_667))
      if r_829 = j_802 then
        (1 : Int32)
      else
        (0 : Int32)
    else
      (0 : Int32)
  (j_842, V_817)
def F_L_isStep_c843 (V : LW) (v_3 : Int32) : Int32 × LW :=
  let r_848 : Int32 := (F_L_up v_3 (40 : Int32))
  let v_852 : Int32 := ((1 : Int32) + r_848)
  let r_856 : Int32 := (F_S_least V.1 (1 : Int32))
  let r_863 : Int32 := (F_S_least V.1 (0 : Int32))
  let r_871 : Int32 × SLS := (F_S_best V.1 v_852)
  let V_871 : LW := (r_871.2, V.2)
  let r_877 : Int32 × SLS := (F_S_best V_871.2.1 v_852)
  let V_877 : LW := (V_871.1, r_877.2, V_871.2.2)
  let j_930 : Int32 :=
    if r_871.1 = r_877.1 then
      let r_887 : Int32 := (F_S_least V_877.2.1 (1 : Int32))
      if r_856 = r_887 then
        let r_897 : Int32 := (F_S_least V_877.2.1 (0 : Int32))
        if r_863 = r_897 then
          if r_863 = (-5 : Int32) then
            (1 : Int32)
          else
            if r_856 < (500 : Int32) then
              (0 : Int32)
            else
              if r_863 < r_856 then
                (0 : Int32)
              else
                (1 : Int32)
        else
          (0 : Int32)
      else
        (0 : Int32)
    else
      (0 : Int32)
  let j_999 : Int32 × LW :=
    if j_930 = (0 : Int32) then
      ((0 : Int32), V_877)
    else
      let r_946 : Int32 := (F_L_up v_3 (701 : Int32))
      let r_958 : Int32 := (F_L_up (v_3 >>> ((9 : Int32) &&& 31)) (5 : Int32))
      let r_961 : Int32 × SLS := (F_S_would V_877.1 ((500 : Int32) + r_946) v_852 r_958)
      let V_961 : LW := (r_961.2, V_877.2)
      let r_973 : Int32 := (F_L_up v_3 (701 : Int32))
      let r_985 : Int32 := (F_L_up (v_3 >>> ((9 : Int32) &&& 31)) (5 : Int32))
      let r_988 : Int32 × SLS := (F_S_would V_961.2.1 ((500 : Int32) + r_973) v_852 r_985)
      let V_988 : LW := (V_961.1, r_988.2, V_961.2.2)
      if r_961.1 = r_988.1 then
        ((1 : Int32), V_988)
      else
        ((0 : Int32), V_988)
  (j_999.1, j_999.2)
def F_L_isStep (V : LW) (a4 : Int32) : Int32 × LW :=
  let v_3 : Int32 := (a4 >>> ((4 : Int32) &&& 31))
  let r_7 : Int32 := (F_S_count V.1 (3 : Int32))
  let r_14 : Int32 := (F_S_count V.1 (0 : Int32))
  let r_22 : Int32 := (F_L_up a4 (15 : Int32))
  if r_22 = (0 : Int32) ∨ r_22 = (1 : Int32) then
    F_L_isStep_c92 V v_3
  else
  if r_22 = (2 : Int32) ∨ r_22 = (3 : Int32) then
    F_L_isStep_c152 V v_3
  else
  if r_22 = (4 : Int32) ∨ r_22 = (5 : Int32) ∨ r_22 = (6 : Int32) ∨ r_22 = (7 : Int32) ∨ r_22 = (8 : Int32) then
    F_L_isStep_c384 V v_3 r_7
  else
  if r_22 = (9 : Int32) then
    F_L_isStep_c517 V v_3
  else
  if r_22 = (10 : Int32) then
    F_L_isStep_c562 V v_3 r_14
  else
  if r_22 = (11 : Int32) ∨ r_22 = (12 : Int32) then
    F_L_isStep_c663 V v_3
  else
  F_L_isStep_c843 V v_3
theorem ite_app {α β : Type} (f : α → β) (c : Prop) [Decidable c] (a b : α) : f (if c then a else b) = if c then f a else f b := by split <;> rfl
theorem cyc_2 (S : SLS) : (F_L_isCycle S).2 = (F_S_run S (1 : Int32)).2 := by
  unfold F_L_isCycle
  dsimp only
  simp only [apply_ite Prod.snd, ite_self]
theorem ROK.isCycle {S : SLS} (h : ROK S) : ROK (F_L_isCycle S).2 := by
  rw [cyc_2]
  exact h.run _
theorem up_bn (n : Nat) (h : 1 ≤ n) (hn : n < 2 ^ 31) (a : Int32) : bn 0 (n - 1) (F_L_up a (nI n)) := by
  obtain ⟨j, hj, ej⟩ := pk_andE a (m := 2147483647) 31 (by decide +kernel)
  unfold F_L_up
  rw [ej, pk_rem (by omega) (by omega) (by omega)]
  exact ⟨_, by omega, by have := Nat.mod_lt j (show 0 < n by omega); omega, rfl⟩
theorem up_1 (n : Nat) (h : 1 ≤ n) (hn : n < 2 ^ 31 - 1) (a : Int32) : bn 1 n ((1 : Int32) + F_L_up a (nI n)) := by
  obtain ⟨j, _, h2, e⟩ := up_bn n h (by omega) a
  rw [e, show (1 : Int32) + nI j = nI (1 + j) from nI_add 1 j]
  exact ⟨_, by omega, by omega, rfl⟩
