set_option maxRecDepth 100000 in
set_option maxHeartbeats 4000000 in
theorem c_M_in (l : Launch) (D : va_G) (kI kC kQ : ClassId) (a1 : Int64) (a2 : Int64) (a3 : Int64) : CtI (U := Int32) l yX3_in cX3_in 6 (some .boolean) { frames := 0, cells := 0, slots := 0, locals := 0 } D (tysG kI kC kQ) [] [.long a1, .long a2, .long a3] (fun u => u) (fun _ => []) (fun u => u = F_M_in a1 a2 a3) := by
  refine met_Zi (own := "ShadowLatchesModel") (by decide +kernel) rfl (Nat.le_of_ble_eq_true rfl) ?_
  intro p e s m args below meth c A Q X hQ
  show Z p l e { frames := 0, cells := 0, slots := 0, locals := 0 } s m args below meth c D A 6 0 0 Q [] [(0, .long a1), (2, .long a2), (4, .long a3)] 0 []
  refine z_lload_n X dX3_in_0 0 rfl ?_
  refine z_lload_n X dX3_in_1 1 rfl ?_
  refine z_lcmp X dX3_in_2 ?_
  have J_j_18 : ∀ j_18 : Int32, j_18 = (if (lg_cmp a1 a2) < (0 : Int32) then ((0 : Int32)) else (if (0 : Int32) < (lg_cmp a1 a3) then ((0 : Int32)) else ((1 : Int32)))) → Z p l e { frames := 0, cells := 0, slots := 0, locals := 0 } s m args below meth c D A 6 0 0 Q [] [] 18 [.int j_18] := by
    intro j_18 ej_18
    exact z_zret X hQ rfl j_18 rfl rfl (by subst ej_18; simp only [F_M_in]) (by rw [ej_18]; (repeat' split) <;> rfl) dX3_in_18
  refine z_if_lt (tgt := 17) X dX3_in_3 (by decide) (fun c_3 => ?_) (fun c_3 => ?_)
  · refine z_iconst (v := (0 : Int32)) X dX3_in_17 (by decide) ?_
    refine z_lv (lv' := []) [] rfl ?_
    exact J_j_18 (0 : Int32) (by simp only [if_pos c_3])
  · refine z_lload_n X dX3_in_6 0 rfl ?_
    refine z_lload X dX3_in_7 2 rfl ?_
    refine z_lcmp X dX3_in_9 ?_
    refine z_if_gt (tgt := 17) X dX3_in_10 (by decide) (fun c_10 => ?_) (fun c_10 => ?_)
    · refine z_iconst (v := (0 : Int32)) X dX3_in_17 (by decide) ?_
      refine z_lv (lv' := []) [] rfl ?_
      exact J_j_18 (0 : Int32) (by simp only [if_neg c_3, if_pos c_10])
    · refine z_iconst (v := (1 : Int32)) X dX3_in_13 (by decide) ?_
      refine z_goto (tgt := 18) X dX3_in_14 (by decide) ?_
      refine z_lv (lv' := []) [] rfl ?_
      exact J_j_18 (1 : Int32) (by simp only [if_neg c_3, if_neg c_10])
set_option maxRecDepth 100000 in
set_option maxHeartbeats 4000000 in
theorem c_M_has (l : Launch) (D : va_G) (kI kC kQ : ClassId) (a1 : Int32) (a2 : Int32) : CtI (U := Int32) l yX3_has cX3_has 2 (some .boolean) { frames := 0, cells := 0, slots := 0, locals := 0 } D (tysG kI kC kQ) [] [.int a1, .int a2] (fun u => u) (fun _ => []) (fun u => u = F_M_has a1 a2) := by
  refine met_Zi (own := "ShadowLatchesModel") (by decide +kernel) rfl (Nat.le_of_ble_eq_true rfl) ?_
  intro p e s m args below meth c A Q X hQ
  show Z p l e { frames := 0, cells := 0, slots := 0, locals := 0 } s m args below meth c D A 2 0 0 Q [] [(0, .int a1), (1, .int a2)] 0 []
  refine z_iload_n X dX3_has_0 0 rfl ?_
  refine z_iload_n X dX3_has_1 1 rfl ?_
  refine z_ishr X dX3_has_2 ?_
  refine z_iconst (v := (1 : Int32)) X dX3_has_3 (by decide) ?_
  refine z_iand X dX3_has_4 ?_
  refine z_iconst (v := (1 : Int32)) X dX3_has_5 (by decide) ?_
  have J_j_14 : ∀ j_14 : Int32, j_14 = (if ((a1 >>> (a2 &&& 31)) &&& (1 : Int32)) = (1 : Int32) then ((1 : Int32)) else ((0 : Int32))) → Z p l e { frames := 0, cells := 0, slots := 0, locals := 0 } s m args below meth c D A 2 0 0 Q [] [] 14 [.int j_14] := by
    intro j_14 ej_14
    exact z_zret X hQ rfl j_14 rfl rfl (by subst ej_14; simp only [F_M_has]) (by rw [ej_14]; (repeat' split) <;> rfl) dX3_has_14
  refine z_icmp_ne (tgt := 13) X dX3_has_6 (by decide) (fun c_6 => ?_) (fun c_6 => ?_)
  · refine z_iconst (v := (0 : Int32)) X dX3_has_13 (by decide) ?_
    refine z_lv (lv' := []) [] rfl ?_
    exact J_j_14 (0 : Int32) (by simp only [if_neg c_6])
  · refine z_iconst (v := (1 : Int32)) X dX3_has_9 (by decide) ?_
    refine z_goto (tgt := 14) X dX3_has_10 (by decide) ?_
    refine z_lv (lv' := []) [] rfl ?_
    exact J_j_14 (1 : Int32) (by simp only [if_pos c_6])
set_option maxRecDepth 100000 in
set_option maxHeartbeats 4000000 in
theorem c_M_delayWith (l : Launch) (D : va_G) (kI kC kQ : ClassId) (o : Nat → Nat) (M : ARR) (a1 : Int32) (a2 : Int32) (a3 : Int32) (hi : vp_in ((0 : Int32) + a1) 55) (hv : ¬ (a2 - (300 : Int32)) = 0) : CtI (U := Int32) l yX3_delayWith cX3_delayWith 4 (some .int) { frames := 0, cells := 0, slots := 0, locals := 0 } D (tysG kI kC kQ) (wM kI o M) [.ref (o 0), .int a1, .int a2, .int a3] (fun u => u) (fun _ => (wM kI o M)) (fun u => u = F_M_delayWith M a1 a2 a3) := by
  refine met_Zi (own := "ShadowLatchesModel") (by decide +kernel) rfl (Nat.le_of_ble_eq_true rfl) ?_
  intro p e s m args below meth c A Q X hQ
  show Z p l e { frames := 0, cells := 0, slots := 0, locals := 0 } s m args below meth c D A 4 0 0 Q (wM kI o M) [(0, .ref (o 0)), (1, .int a1), (2, .int a2), (3, .int a3)] 0 []
  refine z_aload_n X dX3_delayWith_0 0 rfl ?_
  refine zM_g0 X wd2_126 dX3_delayWith_1 ?_
  refine z_iconst (v := (0 : Int32)) X dX3_delayWith_4 (by decide) ?_
  refine z_iload_n X dX3_delayWith_5 1 rfl ?_
  refine z_iadd X dX3_delayWith_6 ?_
  refine zM_l0 X hi rfl dX3_delayWith_7 ?_
  refine z_sipush (v := (1000 : Int32)) X dX3_delayWith_8 (by decide) ?_
  refine z_imul X dX3_delayWith_11 ?_
  refine z_iload_n X dX3_delayWith_12 2 rfl ?_
  refine z_sipush (v := (300 : Int32)) X dX3_delayWith_13 (by decide) ?_
  refine z_isub X dX3_delayWith_16 ?_
  refine z_idiv X dX3_delayWith_17 hv ?_
  refine z_sipush (v := (900 : Int32)) X dX3_delayWith_18 (by decide) ?_
  refine z_iload_n X dX3_delayWith_21 3 rfl ?_
  refine z_iconst (v := (5 : Int32)) X dX3_delayWith_22 (by decide) ?_
  refine z_imul X dX3_delayWith_23 ?_
  refine z_iadd X dX3_delayWith_24 ?_
  refine z_imul X dX3_delayWith_25 ?_
  refine z_sipush (v := (1000 : Int32)) X dX3_delayWith_26 (by decide) ?_
  refine z_idiv X dX3_delayWith_29 (by decide) ?_
  exact z_iret X hQ rfl (((((M 0 (((0 : Int32) + a1).toNatClampNeg)) * (1000 : Int32)) / (a2 - (300 : Int32))) * ((900 : Int32) + (a3 * (5 : Int32)))) / (1000 : Int32)) rfl rfl (by simp only [F_M_delayWith]) dX3_delayWith_30
set_option maxRecDepth 100000 in
set_option maxHeartbeats 4000000 in
theorem c_M_spends (l : Launch) (D : va_G) (kI kC kQ : ClassId) (o : Nat → Nat) (M : ARR) (a1 : Int32) : CtV (U := ARR) l yX3_spends cX3_spends 4 none { frames := 0, cells := 0, slots := 0, locals := 0 } D (tysG kI kC kQ) (wM kI o M) [.ref (o 0), .int a1] (fun u => (wM kI o u)) (fun u => u = F_M_spends M a1) := by
  refine met_Zv (own := "ShadowLatchesModel") (by decide +kernel) rfl (Nat.le_of_ble_eq_true rfl) ?_
  intro p e s m args below meth c A Q X hQ
  show Z p l e { frames := 0, cells := 0, slots := 0, locals := 0 } s m args below meth c D A 4 0 0 Q (wM kI o M) [(0, .ref (o 0)), (1, .int a1)] 0 []
  refine z_aload_n X dX3_spends_0 0 rfl ?_
  refine zM_g0 X wd2_126 dX3_spends_1 ?_
  refine z_bipush (v := (54 : Int32)) X dX3_spends_4 (by decide) ?_
  refine zM_l0 X vi_54_55 cl_54 dX3_spends_6 ?_
  refine z_aload_n X dX3_spends_7 0 rfl ?_
  refine zM_g0 X wd2_126 dX3_spends_8 ?_
  refine z_bipush (v := (39 : Int32)) X dX3_spends_11 (by decide) ?_
  refine zM_l0 X vi_39_55 cl_39 dX3_spends_13 ?_
  refine z_aload_n X dX3_spends_14 0 rfl ?_
  refine zM_g0 X wd2_126 dX3_spends_15 ?_
  refine z_bipush (v := (39 : Int32)) X dX3_spends_18 (by decide) ?_
  refine zM_l0 X vi_39_55 cl_39 dX3_spends_20 ?_
  refine z_imul X dX3_spends_21 ?_
  refine z_sipush (v := (10000 : Int32)) X dX3_spends_22 (by decide) ?_
  refine z_idiv X dX3_spends_25 (by decide) ?_
  refine z_iadd X dX3_spends_26 ?_
  refine z_topi (fun v_27 ev_27 => ?_)
  refine z_istore_n (lv' := [(2, .int v_27), (0, .ref (o 0)), (1, .int a1)]) X dX3_spends_27 (Nat.le_of_ble_eq_true rfl) rfl ?_
  refine z_aload_n X dX3_spends_28 1 rfl ?_
  refine zM_g0 X wd2_126 dX3_spends_29 ?_
  refine z_bipush (v := (46 : Int32)) X dX3_spends_32 (by decide) ?_
  refine z_dup2 X dX3_spends_34 rfl rfl ?_
  refine zM_l0 X vi_46_55 cl_46 dX3_spends_35 ?_
  refine z_iload_n X dX3_spends_36 0 rfl ?_
  refine z_sipush (v := (1000 : Int32)) X dX3_spends_37 (by decide) ?_
  refine z_idiv X dX3_spends_40 (by decide) ?_
  refine z_iadd X dX3_spends_41 ?_
  refine zM_s0 X vi_46_55 cl_46 dX3_spends_42 (fun M_42 eM_42 => ?_)
  refine z_aload_n X dX3_spends_43 1 rfl ?_
  refine zM_g0 X wd2_126 dX3_spends_44 ?_
  refine z_bipush (v := (54 : Int32)) X dX3_spends_47 (by decide) ?_
  refine z_iload_n X dX3_spends_49 0 rfl ?_
  refine z_sipush (v := (1000 : Int32)) X dX3_spends_50 (by decide) ?_
  refine z_irem X dX3_spends_53 (by decide) ?_
  refine zM_s0 X vi_54_55 cl_54 dX3_spends_54 (fun M_54 eM_54 => ?_)
  refine z_aload_n X dX3_spends_55 1 rfl ?_
  refine zM_g0 X wd2_126 dX3_spends_56 ?_
  refine z_bipush (v := (42 : Int32)) X dX3_spends_59 (by decide) ?_
  refine z_dup2 X dX3_spends_61 rfl rfl ?_
  refine zM_l0 X vi_42_55 cl_42 dX3_spends_62 ?_
  refine z_iconst (v := (1 : Int32)) X dX3_spends_63 (by decide) ?_
  refine z_iadd X dX3_spends_64 ?_
  refine zM_s0 X vi_42_55 cl_42 dX3_spends_65 (fun M_65 eM_65 => ?_)
  refine z_aload_n X dX3_spends_66 1 rfl ?_
  refine zM_g0 X wd2_126 dX3_spends_67 ?_
  refine z_bipush (v := (47 : Int32)) X dX3_spends_70 (by decide) ?_
  refine z_dup2 X dX3_spends_72 rfl rfl ?_
  refine zM_l0 X vi_47_55 cl_47 dX3_spends_73 ?_
  refine z_aload_n X dX3_spends_74 1 rfl ?_
  refine zM_g0 X wd2_126 dX3_spends_75 ?_
  refine z_bipush (v := (41 : Int32)) X dX3_spends_78 (by decide) ?_
  refine zM_l0 X vi_41_55 cl_41 dX3_spends_80 ?_
  refine z_iadd X dX3_spends_81 ?_
  refine zM_s0 X vi_47_55 cl_47 dX3_spends_82 (fun M_82 eM_82 => ?_)
  refine z_bipush (v := (20 : Int32)) X dX3_spends_83 (by decide) ?_
  refine z_iload_n X dX3_spends_85 2 rfl ?_
  refine z_aload_n X dX3_spends_86 1 rfl ?_
  refine zM_g0 X wd2_126 dX3_spends_87 ?_
  refine z_bipush (v := (39 : Int32)) X dX3_spends_90 (by decide) ?_
  refine zM_l0 X vi_39_55 cl_39 dX3_spends_92 ?_
  refine z_imul X dX3_spends_93 ?_
  refine z_bipush (v := (100 : Int32)) X dX3_spends_94 (by decide) ?_
  refine z_idiv X dX3_spends_96 (by decide) ?_
  refine z_iadd X dX3_spends_97 ?_
  refine z_topi (fun v_98 ev_98 => ?_)
  refine z_istore_n (lv' := [(3, .int v_98), (2, .int v_27), (0, .ref (o 0)), (1, .int a1)]) X dX3_spends_98 (Nat.le_of_ble_eq_true rfl) rfl ?_
  refine z_iload_n X dX3_spends_99 0 rfl ?_
  refine z_bipush (v := (120 : Int32)) X dX3_spends_100 (by decide) ?_
  have J_j_111 : ∀ j_111 : Int32, j_111 = (if v_98 ≤ (120 : Int32) then (v_98) else ((120 : Int32))) → Z p l e { frames := 0, cells := 0, slots := 0, locals := 0 } s m args below meth c D A 4 0 0 Q (wM kI o M_82) [(0, .ref (o 0))] 111 [.int j_111] := by
    intro j_111 ej_111
    refine z_istore_n (lv' := [(3, .int j_111), (0, .ref (o 0))]) X dX3_spends_111 (Nat.le_of_ble_eq_true rfl) rfl ?_
    refine z_aload_n X dX3_spends_112 1 rfl ?_
    refine zM_g0 X wd2_126 dX3_spends_113 ?_
    refine z_bipush (v := (42 : Int32)) X dX3_spends_116 (by decide) ?_
    refine zM_l0 X vi_42_55 cl_42 dX3_spends_118 ?_
    refine z_iconst (v := (4 : Int32)) X dX3_spends_119 (by decide) ?_
    refine z_irem X dX3_spends_120 (by decide) ?_
    have J_j_165 : ∀ j_165 : ARR, j_165 = (if ((M_82 0 42) - (M_82 0 42) / (4 : Int32) * (4 : Int32)) = (0 : Int32) then (let j_163 : Int32 := (if j_111 ≤ (M_82 0 40) then (if (M_82 0 40) ≤ j_111 then ((0 : Int32)) else ((-1 : Int32))) else ((1 : Int32))); let M_164 : ARR := sA M_82 0 40 ((M_82 0 40) + j_163); M_164) else (M_82)) → Z p l e { frames := 0, cells := 0, slots := 0, locals := 0 } s m args below meth c D A 4 0 0 Q (wM kI o j_165) [] 165 [] := by
      intro j_165 ej_165
      exact z_vret X hQ rfl j_165 rfl (by subst ev_27 eM_42 eM_54 eM_65 eM_82 ev_98 ej_111 ej_165; simp only [F_M_spends]) dX3_spends_165
    refine z_if_ne (tgt := 165) X dX3_spends_121 (by decide) (fun c_121 => ?_) (fun c_121 => ?_)
    · refine z_lv (lv' := []) [] rfl ?_
      exact J_j_165 M_82 (by simp only [if_neg c_121])
    · refine z_aload_n X dX3_spends_124 1 rfl ?_
      refine zM_g0 X wd2_126 dX3_spends_125 ?_
      refine z_bipush (v := (40 : Int32)) X dX3_spends_128 (by decide) ?_
      refine z_dup2 X dX3_spends_130 rfl rfl ?_
      refine zM_l0 X vi_40_55 cl_40 dX3_spends_131 ?_
      refine z_aload_n X dX3_spends_132 1 rfl ?_
      refine zM_g0 X wd2_126 dX3_spends_133 ?_
      refine z_bipush (v := (40 : Int32)) X dX3_spends_136 (by decide) ?_
      refine zM_l0 X vi_40_55 cl_40 dX3_spends_138 ?_
      refine z_iload_n X dX3_spends_139 0 rfl ?_
      have J_j_163 : ∀ j_163 : Int32, j_163 = (if j_111 ≤ (M_82 0 40) then (if (M_82 0 40) ≤ j_111 then ((0 : Int32)) else ((-1 : Int32))) else ((1 : Int32))) → Z p l e { frames := 0, cells := 0, slots := 0, locals := 0 } s m args below meth c D A 4 0 0 Q (wM kI o M_82) [] 163 [.int j_163, .int (M_82 0 40), .int (40 : Int32), .ref (o 1)] := by
        intro j_163 ej_163
        refine z_iadd X dX3_spends_163 ?_
        refine zM_s0 X vi_40_55 cl_40 dX3_spends_164 (fun M_164 eM_164 => ?_)
        exact J_j_165 M_164 (by subst ej_163 eM_164; simp only [if_pos c_121])
      refine z_icmp_ge (tgt := 147) X dX3_spends_140 (by decide) (fun c_140 => ?_) (fun c_140 => ?_)
      · refine z_aload_n X dX3_spends_147 1 rfl ?_
        refine zM_g0 X wd2_126 dX3_spends_148 ?_
        refine z_bipush (v := (40 : Int32)) X dX3_spends_151 (by decide) ?_
        refine zM_l0 X vi_40_55 cl_40 dX3_spends_153 ?_
        refine z_iload_n X dX3_spends_154 0 rfl ?_
        refine z_icmp_le (tgt := 162) X dX3_spends_155 (by decide) (fun c_155 => ?_) (fun c_155 => ?_)
        · refine z_iconst (v := (0 : Int32)) X dX3_spends_162 (by decide) ?_
          refine z_lv (lv' := []) [] rfl ?_
          exact J_j_163 (0 : Int32) (by simp only [if_pos c_140, if_pos c_155])
        · refine z_iconst (v := (-1 : Int32)) X dX3_spends_158 (by decide) ?_
          refine z_goto (tgt := 163) X dX3_spends_159 (by decide) ?_
          refine z_lv (lv' := []) [] rfl ?_
          exact J_j_163 (-1 : Int32) (by simp only [if_pos c_140, if_neg c_155])
      · refine z_iconst (v := (1 : Int32)) X dX3_spends_143 (by decide) ?_
        refine z_goto (tgt := 163) X dX3_spends_144 (by decide) ?_
        refine z_lv (lv' := []) [] rfl ?_
        exact J_j_163 (1 : Int32) (by simp only [if_neg c_140])
  refine z_icmp_le (tgt := 110) X dX3_spends_102 (by decide) (fun c_102 => ?_) (fun c_102 => ?_)
  · refine z_iload_n X dX3_spends_110 0 rfl ?_
    refine z_lv (lv' := [(0, .ref (o 0))]) [2] rfl ?_
    exact J_j_111 v_98 (by simp only [if_pos c_102])
  · refine z_bipush (v := (120 : Int32)) X dX3_spends_105 (by decide) ?_
    refine z_goto (tgt := 111) X dX3_spends_107 (by decide) ?_
    refine z_lv (lv' := [(0, .ref (o 0))]) [2] rfl ?_
    exact J_j_111 (120 : Int32) (by simp only [if_neg c_102])
set_option maxRecDepth 100000 in
set_option maxHeartbeats 4000000 in
theorem c_M_looks (l : Launch) (D : va_G) (kI kC kQ : ClassId) (o : Nat → Nat) (M : ARR) : CtV (U := ARR) l yX3_looks cX3_looks 3 none { frames := 0, cells := 0, slots := 0, locals := 0 } D (tysG kI kC kQ) (wM kI o M) [.ref (o 0)] (fun u => (wM kI o u)) (fun u => u = F_M_looks M) := by
  refine met_Zv (own := "ShadowLatchesModel") (by decide +kernel) rfl (Nat.le_of_ble_eq_true rfl) ?_
  intro p e s m args below meth c A Q X hQ
  show Z p l e { frames := 0, cells := 0, slots := 0, locals := 0 } s m args below meth c D A 3 0 0 Q (wM kI o M) [(0, .ref (o 0))] 0 []
  refine z_aload_n X dX3_looks_0 0 rfl ?_
  refine zM_g0 X wd2_126 dX3_looks_1 ?_
  refine z_bipush (v := (48 : Int32)) X dX3_looks_4 (by decide) ?_
  refine zM_l0 X vi_48_55 cl_48 dX3_looks_6 ?_
  refine z_aload_n X dX3_looks_7 0 rfl ?_
  refine zM_g0 X wd2_126 dX3_looks_8 ?_
  refine z_bipush (v := (36 : Int32)) X dX3_looks_11 (by decide) ?_
  refine zM_l0 X vi_36_55 cl_36 dX3_looks_13 ?_
  refine z_isub X dX3_looks_14 ?_
  refine z_topi (fun v_15 ev_15 => ?_)
  refine z_istore_n (lv' := [(1, .int v_15), (0, .ref (o 0))]) X dX3_looks_15 (Nat.le_of_ble_eq_true rfl) rfl ?_
  refine z_iload_n X dX3_looks_16 0 rfl ?_
  have J_j_108 : ∀ j_108 : ARR, j_108 = (if (0 : Int32) ≤ v_15 then (if v_15 ≤ (0 : Int32) then (M) else (let j_77 : Int32 := (if (M 0 38) ≤ v_15 then ((M 0 38)) else (v_15)); let M_96 : ARR := sA M 0 39 ((M 0 39) + (j_77 * (M 0 37))); let M_107 : ARR := sA M_96 0 52 ((M_96 0 52) + j_77); M_107)) else (let M_36 : ARR := sA M 0 39 ((M 0 39) - (M 0 37)); let M_47 : ARR := sA M_36 0 53 ((M_36 0 53) + (1 : Int32)); M_47)) → Z p l e { frames := 0, cells := 0, slots := 0, locals := 0 } s m args below meth c D A 3 0 0 Q (wM kI o j_108) [(0, .ref (o 0))] 108 [] := by
    intro j_108 ej_108
    refine z_aload_n X dX3_looks_108 0 rfl ?_
    refine zM_g0 X wd2_126 dX3_looks_109 ?_
    refine z_bipush (v := (39 : Int32)) X dX3_looks_112 (by decide) ?_
    refine z_aload_n X dX3_looks_114 0 rfl ?_
    refine zM_g0 X wd2_126 dX3_looks_115 ?_
    refine z_bipush (v := (39 : Int32)) X dX3_looks_118 (by decide) ?_
    refine zM_l0 X vi_39_55 cl_39 dX3_looks_120 ?_
    refine z_sipush (v := (500 : Int32)) X dX3_looks_121 (by decide) ?_
    have J_j_159 : ∀ j_159 : Int32, j_159 = (if (500 : Int32) ≤ (j_108 0 39) then (if (j_108 0 39) ≤ (1200 : Int32) then ((j_108 0 39)) else ((1200 : Int32))) else ((500 : Int32))) → Z p l e { frames := 0, cells := 0, slots := 0, locals := 0 } s m args below meth c D A 3 0 0 Q (wM kI o j_108) [(0, .ref (o 0))] 159 [.int j_159, .int (39 : Int32), .ref (o 1)] := by
      intro j_159 ej_159
      refine zM_s0 X vi_39_55 cl_39 dX3_looks_159 (fun M_159 eM_159 => ?_)
      refine z_aload_n X dX3_looks_160 0 rfl ?_
      refine zM_g0 X wd2_126 dX3_looks_161 ?_
      refine z_bipush (v := (47 : Int32)) X dX3_looks_164 (by decide) ?_
      refine z_iconst (v := (0 : Int32)) X dX3_looks_166 (by decide) ?_
      refine zM_s0 X vi_47_55 cl_47 dX3_looks_167 (fun M_167 eM_167 => ?_)
      refine z_aload_n X dX3_looks_168 0 rfl ?_
      refine zM_g0 X wd2_126 dX3_looks_169 ?_
      refine z_bipush (v := (48 : Int32)) X dX3_looks_172 (by decide) ?_
      refine z_iconst (v := (0 : Int32)) X dX3_looks_174 (by decide) ?_
      refine zM_s0 X vi_48_55 cl_48 dX3_looks_175 (fun M_175 eM_175 => ?_)
      exact z_vret X hQ rfl M_175 rfl (by subst ev_15 ej_108 ej_159 eM_159 eM_167 eM_175; simp only [F_M_looks]) dX3_looks_176
    refine z_icmp_ge (tgt := 133) X dX3_looks_124 (by decide) (fun c_124 => ?_) (fun c_124 => ?_)
    · refine z_aload_n X dX3_looks_133 0 rfl ?_
      refine zM_g0 X wd2_126 dX3_looks_134 ?_
      refine z_bipush (v := (39 : Int32)) X dX3_looks_137 (by decide) ?_
      refine zM_l0 X vi_39_55 cl_39 dX3_looks_139 ?_
      refine z_sipush (v := (1200 : Int32)) X dX3_looks_140 (by decide) ?_
      refine z_icmp_le (tgt := 152) X dX3_looks_143 (by decide) (fun c_143 => ?_) (fun c_143 => ?_)
      · refine z_aload_n X dX3_looks_152 0 rfl ?_
        refine zM_g0 X wd2_126 dX3_looks_153 ?_
        refine z_bipush (v := (39 : Int32)) X dX3_looks_156 (by decide) ?_
        refine zM_l0 X vi_39_55 cl_39 dX3_looks_158 ?_
        exact J_j_159 (j_108 0 39) (by simp only [if_pos c_124, if_pos c_143])
      · refine z_sipush (v := (1200 : Int32)) X dX3_looks_146 (by decide) ?_
        refine z_goto (tgt := 159) X dX3_looks_149 (by decide) ?_
        exact J_j_159 (1200 : Int32) (by simp only [if_pos c_124, if_neg c_143])
    · refine z_sipush (v := (500 : Int32)) X dX3_looks_127 (by decide) ?_
      refine z_goto (tgt := 159) X dX3_looks_130 (by decide) ?_
      exact J_j_159 (500 : Int32) (by simp only [if_neg c_124])
  refine z_if_ge (tgt := 51) X dX3_looks_17 (by decide) (fun c_17 => ?_) (fun c_17 => ?_)
  · refine z_iload_n X dX3_looks_51 0 rfl ?_
    refine z_if_le (tgt := 108) X dX3_looks_52 (by decide) (fun c_52 => ?_) (fun c_52 => ?_)
    · refine z_lv (lv' := [(0, .ref (o 0))]) [1] rfl ?_
      exact J_j_108 M (by simp only [if_pos c_17, if_pos c_52])
    · refine z_iload_n X dX3_looks_55 0 rfl ?_
      refine z_aload_n X dX3_looks_56 1 rfl ?_
      refine zM_g0 X wd2_126 dX3_looks_57 ?_
      refine z_bipush (v := (38 : Int32)) X dX3_looks_60 (by decide) ?_
      refine zM_l0 X vi_38_55 cl_38 dX3_looks_62 ?_
      have J_j_77 : ∀ j_77 : Int32, j_77 = (if (M 0 38) ≤ v_15 then ((M 0 38)) else (v_15)) → Z p l e { frames := 0, cells := 0, slots := 0, locals := 0 } s m args below meth c D A 3 0 0 Q (wM kI o M) [(0, .ref (o 0))] 77 [.int j_77] := by
        intro j_77 ej_77
        refine z_istore_n (lv' := [(2, .int j_77), (0, .ref (o 0))]) X dX3_looks_77 (Nat.le_of_ble_eq_true rfl) rfl ?_
        refine z_aload_n X dX3_looks_78 1 rfl ?_
        refine zM_g0 X wd2_126 dX3_looks_79 ?_
        refine z_bipush (v := (39 : Int32)) X dX3_looks_82 (by decide) ?_
        refine z_dup2 X dX3_looks_84 rfl rfl ?_
        refine zM_l0 X vi_39_55 cl_39 dX3_looks_85 ?_
        refine z_iload_n X dX3_looks_86 0 rfl ?_
        refine z_aload_n X dX3_looks_87 1 rfl ?_
        refine zM_g0 X wd2_126 dX3_looks_88 ?_
        refine z_bipush (v := (37 : Int32)) X dX3_looks_91 (by decide) ?_
        refine zM_l0 X vi_37_55 cl_37 dX3_looks_93 ?_
        refine z_imul X dX3_looks_94 ?_
        refine z_iadd X dX3_looks_95 ?_
        refine zM_s0 X vi_39_55 cl_39 dX3_looks_96 (fun M_96 eM_96 => ?_)
        refine z_aload_n X dX3_looks_97 1 rfl ?_
        refine zM_g0 X wd2_126 dX3_looks_98 ?_
        refine z_bipush (v := (52 : Int32)) X dX3_looks_101 (by decide) ?_
        refine z_dup2 X dX3_looks_103 rfl rfl ?_
        refine zM_l0 X vi_52_55 cl_52 dX3_looks_104 ?_
        refine z_iload_n X dX3_looks_105 0 rfl ?_
        refine z_iadd X dX3_looks_106 ?_
        refine zM_s0 X vi_52_55 cl_52 dX3_looks_107 (fun M_107 eM_107 => ?_)
        refine z_lv (lv' := [(0, .ref (o 0))]) [1] rfl ?_
        exact J_j_108 M_107 (by subst ej_77 eM_96 eM_107; simp only [if_pos c_17, if_neg c_52])
      refine z_icmp_ge (tgt := 70) X dX3_looks_63 (by decide) (fun c_63 => ?_) (fun c_63 => ?_)
      · refine z_aload_n X dX3_looks_70 1 rfl ?_
        refine zM_g0 X wd2_126 dX3_looks_71 ?_
        refine z_bipush (v := (38 : Int32)) X dX3_looks_74 (by decide) ?_
        refine zM_l0 X vi_38_55 cl_38 dX3_looks_76 ?_
        refine z_lv (lv' := [(0, .ref (o 0))]) [1] rfl ?_
        exact J_j_77 (M 0 38) (by simp only [if_pos c_63])
      · refine z_iload_n X dX3_looks_66 0 rfl ?_
        refine z_goto (tgt := 77) X dX3_looks_67 (by decide) ?_
        refine z_lv (lv' := [(0, .ref (o 0))]) [1] rfl ?_
        exact J_j_77 v_15 (by simp only [if_neg c_63])
  · refine z_aload_n X dX3_looks_20 1 rfl ?_
    refine zM_g0 X wd2_126 dX3_looks_21 ?_
    refine z_bipush (v := (39 : Int32)) X dX3_looks_24 (by decide) ?_
    refine z_dup2 X dX3_looks_26 rfl rfl ?_
    refine zM_l0 X vi_39_55 cl_39 dX3_looks_27 ?_
    refine z_aload_n X dX3_looks_28 1 rfl ?_
    refine zM_g0 X wd2_126 dX3_looks_29 ?_
    refine z_bipush (v := (37 : Int32)) X dX3_looks_32 (by decide) ?_
    refine zM_l0 X vi_37_55 cl_37 dX3_looks_34 ?_
    refine z_isub X dX3_looks_35 ?_
    refine zM_s0 X vi_39_55 cl_39 dX3_looks_36 (fun M_36 eM_36 => ?_)
    refine z_aload_n X dX3_looks_37 1 rfl ?_
    refine zM_g0 X wd2_126 dX3_looks_38 ?_
    refine z_bipush (v := (53 : Int32)) X dX3_looks_41 (by decide) ?_
    refine z_dup2 X dX3_looks_43 rfl rfl ?_
    refine zM_l0 X vi_53_55 cl_53 dX3_looks_44 ?_
    refine z_iconst (v := (1 : Int32)) X dX3_looks_45 (by decide) ?_
    refine z_iadd X dX3_looks_46 ?_
    refine zM_s0 X vi_53_55 cl_53 dX3_looks_47 (fun M_47 eM_47 => ?_)
    refine z_goto (tgt := 108) X dX3_looks_48 (by decide) ?_
    refine z_lv (lv' := [(0, .ref (o 0))]) [1] rfl ?_
    exact J_j_108 M_47 (by subst eM_36 eM_47; simp only [if_neg c_17])
