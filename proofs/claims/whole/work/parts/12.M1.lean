set_option maxRecDepth 100000 in
set_option maxHeartbeats 4000000 in
theorem c_M_in (l : Launch) (D : va_G) (kI kC kQ : ClassId) (a1 : Int64) (a2 : Int64) (a3 : Int64) : CtI (U := Int32) l yX3_in cX3_in 6 (some .boolean) { frames := 0, cells := 0, slots := 0, locals := 0 } D (tysG kI kC kQ) [] [.long a1, .long a2, .long a3] (fun u => u) (fun _ => []) (fun u => u = F_M_in a1 a2 a3) := by
  refine met_Zi (own := "ShadowLatchesModel") (by decide +kernel) rfl (Nat.le_of_ble_eq_true rfl) ?_
  intro p e s m args below meth c A Q X hQ
  show Z p l e { frames := 0, cells := 0, slots := 0, locals := 0 } s m args below meth c D A 6 0 0 Q [] [(0, .long a1), (2, .long a2), (4, .long a3)] 0 []
  refine z_lload_n X dX3_in_0 0 rfl ?_
  refine z_lload_n X dX3_in_1 1 rfl ?_
  refine z_lcmp X dX3_in_2 ?_
  have J_j_18 : ∀ (j_18 : Int32), j_18 = (if (lg_cmp a1 a2) < (0 : Int32) then ((0 : Int32)) else (if (0 : Int32) < (lg_cmp a1 a3) then ((0 : Int32)) else ((1 : Int32)))) → Z p l e { frames := 0, cells := 0, slots := 0, locals := 0 } s m args below meth c D A 6 0 0 Q [] [] 18 [.int j_18] := by
    intro j_18 ej_18
    exact z_zret X hQ rfl j_18 rfl rfl (by subst ej_18; simp only [F_M_in]) (nb (by rw [ej_18]; (try dsimp only); repeat' first | exact bl_in _ _ _ | apply bl_ite | exact Or.inl rfl | exact Or.inr rfl)) dX3_in_18
  refine z_if_lt (tgt := 17) X dX3_in_3 (by decide) (fun c_3 => ?_) (fun c_3 => ?_)
  · refine z_iconst (v := (0 : Int32)) X dX3_in_17 (by decide) ?_
    refine z_lv (lv' := []) [] rfl ?_
    exact J_j_18 (0 : Int32) (by simp only [if_pos c_3])
  · refine z_lload_n X dX3_in_6 0 rfl ?_
    refine z_lload X dX3_in_7 2 rfl ?_
    refine z_lcmp X dX3_in_9 ?_
    refine z_if_gt (tgt := 17) X dX3_in_10 (by decide) (fun c_10 => ?_) (fun c_10 => ?_)
    · refine z_iconst (v := (0 : Int32)) X dX3_in_17 (by decide) ?_
      refine z_lv (lv' := []) [] rfl ?_
      exact J_j_18 (0 : Int32) (by simp only [if_neg c_3, if_pos c_10])
    · refine z_iconst (v := (1 : Int32)) X dX3_in_13 (by decide) ?_
      refine z_goto (tgt := 18) X dX3_in_14 (by decide) ?_
      refine z_lv (lv' := []) [] rfl ?_
      exact J_j_18 (1 : Int32) (by simp only [if_neg c_3, if_neg c_10])
set_option maxRecDepth 100000 in
set_option maxHeartbeats 4000000 in
theorem c_M_has (l : Launch) (D : va_G) (kI kC kQ : ClassId) (a1 : Int32) (a2 : Int32) : CtI (U := Int32) l yX3_has cX3_has 2 (some .boolean) { frames := 0, cells := 0, slots := 0, locals := 0 } D (tysG kI kC kQ) [] [.int a1, .int a2] (fun u => u) (fun _ => []) (fun u => u = F_M_has a1 a2) := by
  refine met_Zi (own := "ShadowLatchesModel") (by decide +kernel) rfl (Nat.le_of_ble_eq_true rfl) ?_
  intro p e s m args below meth c A Q X hQ
  show Z p l e { frames := 0, cells := 0, slots := 0, locals := 0 } s m args below meth c D A 2 0 0 Q [] [(0, .int a1), (1, .int a2)] 0 []
  refine z_iload_n X dX3_has_0 0 rfl ?_
  refine z_iload_n X dX3_has_1 1 rfl ?_
  refine z_ishr X dX3_has_2 ?_
  refine z_iconst (v := (1 : Int32)) X dX3_has_3 (by decide) ?_
  refine z_iand X dX3_has_4 ?_
  refine z_iconst (v := (1 : Int32)) X dX3_has_5 (by decide) ?_
  have J_j_14 : ∀ (j_14 : Int32), j_14 = (if ((a1 >>> (a2 &&& 31)) &&& (1 : Int32)) = (1 : Int32) then ((1 : Int32)) else ((0 : Int32))) → Z p l e { frames := 0, cells := 0, slots := 0, locals := 0 } s m args below meth c D A 2 0 0 Q [] [] 14 [.int j_14] := by
    intro j_14 ej_14
    exact z_zret X hQ rfl j_14 rfl rfl (by subst ej_14; simp only [F_M_has]) (nb (by rw [ej_14]; (try dsimp only); repeat' first | exact bl_in _ _ _ | apply bl_ite | exact Or.inl rfl | exact Or.inr rfl)) dX3_has_14
  refine z_icmp_ne (tgt := 13) X dX3_has_6 (by decide) (fun c_6 => ?_) (fun c_6 => ?_)
  · refine z_iconst (v := (0 : Int32)) X dX3_has_13 (by decide) ?_
    refine z_lv (lv' := []) [] rfl ?_
    exact J_j_14 (0 : Int32) (by simp only [if_neg c_6])
  · refine z_iconst (v := (1 : Int32)) X dX3_has_9 (by decide) ?_
    refine z_goto (tgt := 14) X dX3_has_10 (by decide) ?_
    refine z_lv (lv' := []) [] rfl ?_
    exact J_j_14 (1 : Int32) (by simp only [if_pos c_6])
set_option maxRecDepth 100000 in
set_option maxHeartbeats 4000000 in
theorem c_M_delayWith (l : Launch) (D : va_G) (kI kC kQ : ClassId) (o : Nat → Nat) (M : ARR) (a1 : Int32) (a2 : Int32) (a3 : Int32) (hi : vp_in ((0 : Int32) + a1) 55) (hv : ¬ (a2 - (300 : Int32)) = 0) : CtI (U := Int32) l yX3_delayWith cX3_delayWith 4 (some .int) { frames := 0, cells := 0, slots := 0, locals := 0 } D (tysG kI kC kQ) (wM kI o M) [.ref (o 0), .int a1, .int a2, .int a3] (fun u => u) (fun _ => (wM kI o M)) (fun u => u = F_M_delayWith M a1 a2 a3) := by
  refine met_Zi (own := "ShadowLatchesModel") (by decide +kernel) rfl (Nat.le_of_ble_eq_true rfl) ?_
  intro p e s m args below meth c A Q X hQ
  show Z p l e { frames := 0, cells := 0, slots := 0, locals := 0 } s m args below meth c D A 4 0 0 Q (wM kI o M) [(0, .ref (o 0)), (1, .int a1), (2, .int a2), (3, .int a3)] 0 []
  refine z_aload_n X dX3_delayWith_0 0 rfl ?_
  refine zM_g0 X wd2_126 dX3_delayWith_1 ?_
  refine z_iconst (v := (0 : Int32)) X dX3_delayWith_4 (by decide) ?_
  refine z_iload_n X dX3_delayWith_5 1 rfl ?_
  refine z_iadd X dX3_delayWith_6 ?_
  refine zM_l0 X hi rfl dX3_delayWith_7 ?_
  refine z_sipush (v := (1000 : Int32)) X dX3_delayWith_8 (by decide) ?_
  refine z_imul X dX3_delayWith_11 ?_
  refine z_iload_n X dX3_delayWith_12 2 rfl ?_
  refine z_sipush (v := (300 : Int32)) X dX3_delayWith_13 (by decide) ?_
  refine z_isub X dX3_delayWith_16 ?_
  refine z_idiv X dX3_delayWith_17 hv ?_
  refine z_sipush (v := (900 : Int32)) X dX3_delayWith_18 (by decide) ?_
  refine z_iload_n X dX3_delayWith_21 3 rfl ?_
  refine z_iconst (v := (5 : Int32)) X dX3_delayWith_22 (by decide) ?_
  refine z_imul X dX3_delayWith_23 ?_
  refine z_iadd X dX3_delayWith_24 ?_
  refine z_imul X dX3_delayWith_25 ?_
  refine z_sipush (v := (1000 : Int32)) X dX3_delayWith_26 (by decide) ?_
  refine z_idiv X dX3_delayWith_29 (by decide) ?_
  exact z_iret X hQ rfl (((((M 0 (((0 : Int32) + a1).toNatClampNeg)) * (1000 : Int32)) / (a2 - (300 : Int32))) * ((900 : Int32) + (a3 * (5 : Int32)))) / (1000 : Int32)) rfl rfl (by simp only [F_M_delayWith]) dX3_delayWith_30
set_option maxRecDepth 100000 in
set_option maxHeartbeats 4000000 in
theorem c_M_energySince (l : Launch) (D : va_G) (kI kC kQ : ClassId) (o : Nat → Nat) (M : ARR) : CtI (U := Int32) l yX3_energySince cX3_energySince 2 (some .int) { frames := 0, cells := 0, slots := 0, locals := 0 } D (tysG kI kC kQ) (wM kI o M) [.ref (o 0), .ref (o 3)] (fun u => u) (fun _ => (wM kI o M)) (fun u => u = F_M_energySince M) := by
  refine met_Zi (own := "ShadowLatchesModel") (by decide +kernel) rfl (Nat.le_of_ble_eq_true rfl) ?_
  intro p e s m args below meth c A Q X hQ
  show Z p l e { frames := 0, cells := 0, slots := 0, locals := 0 } s m args below meth c D A 2 0 0 Q (wM kI o M) [(0, .ref (o 0)), (1, .ref (o 3))] 0 []
  refine z_aload_n X dX3_energySince_0 0 rfl ?_
  refine zM_g0 X wd2_126 dX3_energySince_1 ?_
  refine z_bipush (v := (46 : Int32)) X dX3_energySince_4 (by decide) ?_
  refine zM_l0 X vi_46_55 cl_46 dX3_energySince_6 ?_
  refine z_aload_n X dX3_energySince_7 1 rfl ?_
  refine z_bipush (v := (46 : Int32)) X dX3_energySince_8 (by decide) ?_
  refine zM_l2 X vi_46_55 cl_46 dX3_energySince_10 ?_
  refine z_isub X dX3_energySince_11 ?_
  refine z_sipush (v := (1000 : Int32)) X dX3_energySince_12 (by decide) ?_
  refine z_imul X dX3_energySince_15 ?_
  refine z_aload_n X dX3_energySince_16 0 rfl ?_
  refine zM_g0 X wd2_126 dX3_energySince_17 ?_
  refine z_bipush (v := (54 : Int32)) X dX3_energySince_20 (by decide) ?_
  refine zM_l0 X vi_54_55 cl_54 dX3_energySince_22 ?_
  refine z_iadd X dX3_energySince_23 ?_
  refine z_aload_n X dX3_energySince_24 1 rfl ?_
  refine z_bipush (v := (54 : Int32)) X dX3_energySince_25 (by decide) ?_
  refine zM_l2 X vi_54_55 cl_54 dX3_energySince_27 ?_
  refine z_isub X dX3_energySince_28 ?_
  exact z_iret X hQ rfl (((((M 0 46) - (M 2 46)) * (1000 : Int32)) + (M 0 54)) - (M 2 54)) rfl rfl (by simp only [F_M_energySince]) dX3_energySince_29
set_option maxRecDepth 100000 in
set_option maxHeartbeats 4000000 in
theorem c_M_isPath (l : Launch) (D : va_G) (kI kC kQ : ClassId) (o : Nat → Nat) (M : ARR) (a1 : Int32) : CtI (U := Int32) l yX3_isPath cX3_isPath 2 (some .boolean) { frames := 1, cells := 0, slots := 0, locals := 25 } D (tysG kI kC kQ) (wM kI o M) [.ref (o 0), .int a1] (fun u => u) (fun _ => (wM kI o M)) (fun u => u = F_M_isPath M a1) := by
  refine met_Zi (own := "ShadowLatchesModel") (by decide +kernel) rfl (Nat.le_of_ble_eq_true rfl) ?_
  intro p e s m args below meth c A Q X hQ
  show Z p l e { frames := 1, cells := 0, slots := 0, locals := 25 } s m args below meth c D A 2 0 0 Q (wM kI o M) [(0, .ref (o 0)), (1, .int a1)] 0 []
  refine z_iload_n X dX3_isPath_0 1 rfl ?_
  refine z_i2l X dX3_isPath_1 ?_
  refine z_lconst (v := (0 : Int64)) X dX3_isPath_2 (by decide) ?_
  refine z_aload_n X dX3_isPath_3 0 rfl ?_
  refine zM_g0 X wd2_126 dX3_isPath_4 ?_
  refine z_bipush (v := (51 : Int32)) X dX3_isPath_7 (by decide) ?_
  refine zM_l0 X vi_51_55 cl_51 dX3_isPath_9 ?_
  refine z_i2l X dX3_isPath_10 ?_
  refine z_lconst (v := (1 : Int64)) X dX3_isPath_11 (by decide) ?_
  refine z_lsub X dX3_isPath_12 ?_
  refine z_callSiN X (c_M_in l D kI kC kQ (a1.toInt64) (0 : Int64) ((((M 0 51)).toInt64) - (1 : Int64))) (gS wd2_172 wd2_173 wd1_4 wd2_174) k_M_in rfl rfl ⟨Nat.le_of_ble_eq_true rfl, Nat.le_of_ble_eq_true rfl⟩ ⟨Nat.zero_le _, Nat.zero_le _⟩ rfl rfl (Nat.le_of_ble_eq_true rfl) dX3_isPath_13 rfl (fun _ => rfl) (fun r_13 er_13 => ?_)
  exact z_zret X hQ rfl r_13 rfl rfl (by subst er_13; simp only [F_M_isPath]) (nb (by rw [er_13]; exact bl_in _ _ _)) dX3_isPath_16
set_option maxRecDepth 100000 in
set_option maxHeartbeats 4000000 in
theorem c_M_isLength (l : Launch) (D : va_G) (kI kC kQ : ClassId) (a1 : Int32) : CtI (U := Int32) l yX3_isLength cX3_isLength 1 (some .boolean) { frames := 1, cells := 0, slots := 0, locals := 25 } D (tysG kI kC kQ) [] [.int a1] (fun u => u) (fun _ => []) (fun u => u = F_M_isLength a1) := by
  refine met_Zi (own := "ShadowLatchesModel") (by decide +kernel) rfl (Nat.le_of_ble_eq_true rfl) ?_
  intro p e s m args below meth c A Q X hQ
  show Z p l e { frames := 1, cells := 0, slots := 0, locals := 25 } s m args below meth c D A 1 0 0 Q [] [(0, .int a1)] 0 []
  refine z_iload_n X dX3_isLength_0 0 rfl ?_
  refine z_i2l X dX3_isLength_1 ?_
  refine z_ldc2 X dX3_isLength_2 wd2_170 ?_
  refine z_ldc2 X dX3_isLength_5 wd2_171 ?_
  refine z_callSiN X (c_M_in l D kI kC kQ (a1.toInt64) (10 : Int64) (400 : Int64)) (gS wd2_172 wd2_173 wd1_4 wd2_174) k_M_in rfl rfl ⟨Nat.le_of_ble_eq_true rfl, Nat.le_of_ble_eq_true rfl⟩ ⟨Nat.zero_le _, Nat.zero_le _⟩ rfl rfl (Nat.le_of_ble_eq_true rfl) dX3_isLength_8 rfl (fun _ => rfl) (fun r_8 er_8 => ?_)
  exact z_zret X hQ rfl r_8 rfl rfl (by subst er_8; simp only [F_M_isLength]) (nb (by rw [er_8]; exact bl_in _ _ _)) dX3_isLength_11
set_option maxRecDepth 100000 in
set_option maxHeartbeats 4000000 in
theorem c_M_isVoltage (l : Launch) (D : va_G) (kI kC kQ : ClassId) (a1 : Int32) : CtI (U := Int32) l yX3_isVoltage cX3_isVoltage 1 (some .boolean) { frames := 1, cells := 0, slots := 0, locals := 25 } D (tysG kI kC kQ) [] [.int a1] (fun u => u) (fun _ => []) (fun u => u = F_M_isVoltage a1) := by
  refine met_Zi (own := "ShadowLatchesModel") (by decide +kernel) rfl (Nat.le_of_ble_eq_true rfl) ?_
  intro p e s m args below meth c A Q X hQ
  show Z p l e { frames := 1, cells := 0, slots := 0, locals := 25 } s m args below meth c D A 1 0 0 Q [] [(0, .int a1)] 0 []
  refine z_iload_n X dX3_isVoltage_0 0 rfl ?_
  refine z_i2l X dX3_isVoltage_1 ?_
  refine z_ldc2 X dX3_isVoltage_2 wd3_6 ?_
  refine z_ldc2 X dX3_isVoltage_5 wd3_7 ?_
  refine z_callSiN X (c_M_in l D kI kC kQ (a1.toInt64) (500 : Int64) (1200 : Int64)) (gS wd2_172 wd2_173 wd1_4 wd2_174) k_M_in rfl rfl ⟨Nat.le_of_ble_eq_true rfl, Nat.le_of_ble_eq_true rfl⟩ ⟨Nat.zero_le _, Nat.zero_le _⟩ rfl rfl (Nat.le_of_ble_eq_true rfl) dX3_isVoltage_8 rfl (fun _ => rfl) (fun r_8 er_8 => ?_)
  exact z_zret X hQ rfl r_8 rfl rfl (by subst er_8; simp only [F_M_isVoltage]) (nb (by rw [er_8]; exact bl_in _ _ _)) dX3_isVoltage_11
set_option maxRecDepth 100000 in
set_option maxHeartbeats 4000000 in
theorem c_M_stateWith (l : Launch) (D : va_G) (kI kC kQ : ClassId) (o : Nat → Nat) (M : ARR) (a1 : Int32) (a2 : Int32) (hi : vp_in ((0 : Int32) + a1) 55) (hv : ¬ (a2 - (300 : Int32)) = 0) : CtI (U := Int32) l yX3_stateWith cX3_stateWith 4 (some .int) { frames := 1, cells := 0, slots := 0, locals := 23 } D (tysG kI kC kQ) (wM kI o M) [.ref (o 0), .int a1, .int a2] (fun u => u) (fun _ => (wM kI o M)) (fun u => u = F_M_stateWith M a1 a2) := by
  refine met_Zi (own := "ShadowLatchesModel") (by decide +kernel) rfl (Nat.le_of_ble_eq_true rfl) ?_
  intro p e s m args below meth c A Q X hQ
  show Z p l e { frames := 1, cells := 0, slots := 0, locals := 23 } s m args below meth c D A 4 0 0 Q (wM kI o M) [(0, .ref (o 0)), (1, .int a1), (2, .int a2)] 0 []
  refine z_aload_n X dX3_stateWith_0 0 rfl ?_
  refine z_iload_n X dX3_stateWith_1 1 rfl ?_
  refine z_iload_n X dX3_stateWith_2 2 rfl ?_
  refine z_aload_n X dX3_stateWith_3 0 rfl ?_
  refine zM_g0 X wd2_126 dX3_stateWith_4 ?_
  refine z_bipush (v := (40 : Int32)) X dX3_stateWith_7 (by decide) ?_
  refine zM_l0 X vi_40_55 cl_40 dX3_stateWith_9 ?_
  refine z_callVi0 X (c_M_delayWith l D kI kC kQ o M a1 a2 (M 0 40) hi hv) (gV wd3_44 wd3_46 wd0_22 wd1_4 wd3_47) k_M_delayWith rfl rfl ⟨Nat.le_of_ble_eq_true rfl, Nat.le_of_ble_eq_true rfl⟩ ⟨Nat.zero_le _, Nat.zero_le _⟩ 3 0 rfl rfl rfl rfl rfl (Nat.le_of_ble_eq_true rfl) dX3_stateWith_10 (fun r_10 er_10 => ?_)
  refine z_istore_n (lv' := [(3, .int r_10), (0, .ref (o 0)), (1, .int a1), (2, .int a2)]) X dX3_stateWith_13 (Nat.le_of_ble_eq_true rfl) rfl ?_
  refine z_iload_n X dX3_stateWith_14 0 rfl ?_
  refine z_aload_n X dX3_stateWith_15 1 rfl ?_
  refine zM_g0 X wd2_126 dX3_stateWith_16 ?_
  refine z_bipush (v := (32 : Int32)) X dX3_stateWith_19 (by decide) ?_
  refine zM_l0 X vi_32_55 cl_32 dX3_stateWith_21 ?_
  have J_j_53 : ∀ (j_53 : Int32), j_53 = (if (M 0 32) < r_10 then (if ((M 0 32) + (M 0 33)) < r_10 then ((2 : Int32)) else ((1 : Int32))) else ((0 : Int32))) → Z p l e { frames := 1, cells := 0, slots := 0, locals := 23 } s m args below meth c D A 4 0 0 Q (wM kI o M) [] 53 [.int j_53] := by
    intro j_53 ej_53
    exact z_iret X hQ rfl j_53 rfl rfl (by subst er_10 ej_53; simp only [F_M_stateWith]) dX3_stateWith_53
  refine z_icmp_gt (tgt := 29) X dX3_stateWith_22 (by decide) (fun c_22 => ?_) (fun c_22 => ?_)
  · refine z_iload_n X dX3_stateWith_29 0 rfl ?_
    refine z_aload_n X dX3_stateWith_30 1 rfl ?_
    refine zM_g0 X wd2_126 dX3_stateWith_31 ?_
    refine z_bipush (v := (32 : Int32)) X dX3_stateWith_34 (by decide) ?_
    refine zM_l0 X vi_32_55 cl_32 dX3_stateWith_36 ?_
    refine z_aload_n X dX3_stateWith_37 1 rfl ?_
    refine zM_g0 X wd2_126 dX3_stateWith_38 ?_
    refine z_bipush (v := (33 : Int32)) X dX3_stateWith_41 (by decide) ?_
    refine zM_l0 X vi_33_55 cl_33 dX3_stateWith_43 ?_
    refine z_iadd X dX3_stateWith_44 ?_
    refine z_icmp_gt (tgt := 52) X dX3_stateWith_45 (by decide) (fun c_45 => ?_) (fun c_45 => ?_)
    · refine z_iconst (v := (2 : Int32)) X dX3_stateWith_52 (by decide) ?_
      refine z_lv (lv' := []) [] rfl ?_
      exact J_j_53 (2 : Int32) (by simp only [if_pos c_22, if_pos c_45])
    · refine z_iconst (v := (1 : Int32)) X dX3_stateWith_48 (by decide) ?_
      refine z_goto (tgt := 53) X dX3_stateWith_49 (by decide) ?_
      refine z_lv (lv' := []) [] rfl ?_
      exact J_j_53 (1 : Int32) (by simp only [if_pos c_22, if_neg c_45])
  · refine z_iconst (v := (0 : Int32)) X dX3_stateWith_25 (by decide) ?_
    refine z_goto (tgt := 53) X dX3_stateWith_26 (by decide) ?_
    refine z_lv (lv' := []) [] rfl ?_
    exact J_j_53 (0 : Int32) (by simp only [if_neg c_22])
set_option maxRecDepth 100000 in
set_option maxHeartbeats 4000000 in
theorem c_M_worstOf (l : Launch) (D : va_G) (kI kC kQ : ClassId) (o : Nat → Nat) (M : ARR) (a1 : Int32) (hI : IA (M 0)) : CtI (U := Int32) l yX3_worstOf cX3_worstOf 5 (some .int) { frames := 2, cells := 0, slots := 0, locals := 46 } D (tysG kI kC kQ) (wM kI o M) [.ref (o 0), .int a1] (fun u => u) (fun _ => (wM kI o M)) (fun u => u = F_M_worstOf M a1) := by
  refine met_Zi (own := "ShadowLatchesModel") (by decide +kernel) rfl (Nat.le_of_ble_eq_true rfl) ?_
  intro p e s m args below meth c A Q X hQ
  show Z p l e { frames := 2, cells := 0, slots := 0, locals := 46 } s m args below meth c D A 5 0 0 Q (wM kI o M) [(0, .ref (o 0)), (1, .int a1)] 0 []
  obtain ⟨P, hP1, hP2, hP⟩ := hI.p
  refine z_iconst (v := (0 : Int32)) X dX3_worstOf_0 (by decide) ?_
  refine z_istore_n (lv' := [(2, .int (0 : Int32)), (0, .ref (o 0)), (1, .int a1)]) X dX3_worstOf_1 (Nat.le_of_ble_eq_true rfl) rfl ?_
  refine z_iconst (v := (0 : Int32)) X dX3_worstOf_2 (by decide) ?_
  refine z_istore_n (lv' := [(3, .int (0 : Int32)), (2, .int (0 : Int32)), (0, .ref (o 0)), (1, .int a1)]) X dX3_worstOf_3 (Nat.le_of_ble_eq_true rfl) rfl ?_
  refine z_lv (lv' := [(0, .ref (o 0)), (1, .int a1), (2, .int (0 : Int32)), (3, .int (0 : Int32))]) [2, 3, 1, 0] rfl ?_
  have Lp_4 : ∀ (n : Nat) (x2_4 : Int32) (x3_4 : Int32), (cu P n x3_4) → (∀ q_4 : Int32, q_4 = L_M_worstOf_4 M a1 n x2_4 x3_4 → Z p l e { frames := 2, cells := 0, slots := 0, locals := 46 } s m args below meth c D A 5 0 0 Q (wM kI o M) [(2, .int q_4)] 60 []) → Z p l e { frames := 2, cells := 0, slots := 0, locals := 46 } s m args below meth c D A 5 0 0 Q (wM kI o M) [(0, .ref (o 0)), (1, .int a1), (2, .int x2_4), (3, .int x3_4)] 4 [] := by
    intro n
    induction n with
    | zero =>
      intro x2_4 x3_4 hi kk_4
      exfalso
      exact cu_0 hi
    | succ n ih_4 =>
      intro x2_4 x3_4 hi kk_4
      refine z_iload_n X dX3_worstOf_4 3 rfl ?_
      refine z_aload_n X dX3_worstOf_5 0 rfl ?_
      refine zM_g0 X wd2_126 dX3_worstOf_6 ?_
      refine z_bipush (v := (51 : Int32)) X dX3_worstOf_9 (by decide) ?_
      refine zM_l0 X vi_51_55 cl_51 dX3_worstOf_11 ?_
      refine z_icmp_ge (tgt := 60) X dX3_worstOf_12 (by decide) (fun c_12 => ?_) (fun c_12 => ?_)
      · refine z_lv (lv' := [(2, .int x2_4)]) [2] rfl ?_
        exact kk_4 x2_4 (by simp only [L_M_worstOf_4, if_pos c_12]) 
      · refine z_iload_n X dX3_worstOf_15 1 rfl ?_
        refine z_iload_n X dX3_worstOf_16 3 rfl ?_
        refine z_callSiN X (c_M_has l D kI kC kQ a1 x3_4) (gS wd3_37 wd3_38 wd1_4 wd3_39) k_M_has rfl rfl ⟨Nat.le_of_ble_eq_true rfl, Nat.le_of_ble_eq_true rfl⟩ ⟨Nat.zero_le _, Nat.zero_le _⟩ rfl rfl (Nat.le_of_ble_eq_true rfl) dX3_worstOf_17 rfl (fun _ => rfl) (fun r_17 er_17 => ?_)
        have J_j_39 : ∀ (j_39 : Int32), j_39 = (if r_17 = (0 : Int32) then ((0 : Int32)) else (let r_32 : Int32 := (F_M_stateWith M x3_4 (M 0 39)); r_32)) → Z p l e { frames := 2, cells := 0, slots := 0, locals := 46 } s m args below meth c D A 5 0 0 Q (wM kI o M) [(0, .ref (o 0)), (1, .int a1), (2, .int x2_4), (3, .int x3_4)] 39 [.int j_39] := by
          intro j_39 ej_39
          refine z_istore (lv' := [(4, .int j_39), (0, .ref (o 0)), (1, .int a1), (2, .int x2_4), (3, .int x3_4)]) X dX3_worstOf_39 (Nat.le_of_ble_eq_true rfl) rfl ?_
          refine z_iload X dX3_worstOf_41 0 rfl ?_
          refine z_iload_n X dX3_worstOf_43 3 rfl ?_
          have J_j_53 : ∀ (j_53 : Int32), j_53 = (if j_39 ≤ x2_4 then (x2_4) else (j_39)) → Z p l e { frames := 2, cells := 0, slots := 0, locals := 46 } s m args below meth c D A 5 0 0 Q (wM kI o M) [(0, .ref (o 0)), (1, .int a1), (3, .int x3_4)] 53 [.int j_53] := by
            intro j_53 ej_53
            refine z_istore_n (lv' := [(2, .int j_53), (0, .ref (o 0)), (1, .int a1), (3, .int x3_4)]) X dX3_worstOf_53 (Nat.le_of_ble_eq_true rfl) rfl ?_
            obtain ⟨v_54, ev_54⟩ : ∃ y : Int32, y = x3_4 + (1 : Int32) := ⟨_, rfl⟩
            refine z_iinc (v := v_54) (lv' := [(3, .int v_54), (2, .int j_53), (0, .ref (o 0)), (1, .int a1)]) X dX3_worstOf_54 3 rfl (by rw [ev_54]; rfl) (Nat.le_of_ble_eq_true rfl) rfl ?_
            refine z_goto (tgt := 4) X dX3_worstOf_57 (by decide) ?_
            refine z_lv (lv' := [(0, .ref (o 0)), (1, .int a1), (2, .int j_53), (3, .int v_54)]) [2, 3, 1, 0] rfl ?_
            exact ih_4 j_53 v_54 (cu_b hi (by omega) hP c_12 ev_54) (fun q_4 eq_4 => kk_4 q_4 (eq_4.trans (by subst er_17 ej_39 ej_53 ev_54; simp only [L_M_worstOf_4, if_neg c_12])))
          refine z_icmp_le (tgt := 52) X dX3_worstOf_44 (by decide) (fun c_44 => ?_) (fun c_44 => ?_)
          · refine z_iload_n X dX3_worstOf_52 3 rfl ?_
            refine z_lv (lv' := [(0, .ref (o 0)), (1, .int a1), (3, .int x3_4)]) [1, 2, 4] rfl ?_
            exact J_j_53 x2_4 (by simp only [if_pos c_44])
          · refine z_iload X dX3_worstOf_47 0 rfl ?_
            refine z_goto (tgt := 53) X dX3_worstOf_49 (by decide) ?_
            refine z_lv (lv' := [(0, .ref (o 0)), (1, .int a1), (3, .int x3_4)]) [1, 2, 4] rfl ?_
            exact J_j_53 j_39 (by simp only [if_neg c_44])
        refine z_if_eq (tgt := 38) X dX3_worstOf_20 (by decide) (fun c_20 => ?_) (fun c_20 => ?_)
        · refine z_iconst (v := (0 : Int32)) X dX3_worstOf_38 (by decide) ?_
          exact J_j_39 (0 : Int32) (by simp only [if_pos c_20])
        · refine z_aload_n X dX3_worstOf_23 0 rfl ?_
          refine z_iload_n X dX3_worstOf_24 3 rfl ?_
          refine z_aload_n X dX3_worstOf_25 0 rfl ?_
          refine zM_g0 X wd2_126 dX3_worstOf_26 ?_
          refine z_bipush (v := (39 : Int32)) X dX3_worstOf_29 (by decide) ?_
          refine zM_l0 X vi_39_55 cl_39 dX3_worstOf_31 ?_
          refine z_callVi0 X (c_M_stateWith l D kI kC kQ o M x3_4 (M 0 39) (vin_a 0 (cu_lt hi (by omega) hP c_12) (by omega) (by omega)) (vne hI.v)) (gV wd3_40 wd3_42 wd0_21 wd1_4 wd3_43) k_M_stateWith rfl rfl ⟨Nat.le_of_ble_eq_true rfl, Nat.le_of_ble_eq_true rfl⟩ ⟨Nat.zero_le _, Nat.zero_le _⟩ 3 0 rfl rfl rfl rfl rfl (Nat.le_of_ble_eq_true rfl) dX3_worstOf_32 (fun r_32 er_32 => ?_)
          refine z_goto (tgt := 39) X dX3_worstOf_35 (by decide) ?_
          exact J_j_39 r_32 (by subst er_32; simp only [if_neg c_20])
  refine Lp_4 9 (0 : Int32) (0 : Int32) (cu_i (by omega)) (fun q_4 eq_4 => ?_)
  refine z_iload_n X dX3_worstOf_60 0 rfl ?_
  exact z_iret X hQ rfl q_4 rfl rfl (by subst eq_4; simp only [F_M_worstOf]) dX3_worstOf_61
set_option maxRecDepth 100000 in
set_option maxHeartbeats 4000000 in
theorem c_M_many (l : Launch) (D : va_G) (kI kC kQ : ClassId) (a1 : Int32) (hr : bn 0 255 a1) : CtI (U := Int32) l yX3_many cX3_many 3 (some .int) { frames := 0, cells := 0, slots := 0, locals := 0 } D (tysG kI kC kQ) [] [.int a1] (fun u => u) (fun _ => []) (fun u => u = F_M_many a1) := by
  refine met_Zi (own := "ShadowLatchesModel") (by decide +kernel) rfl (Nat.le_of_ble_eq_true rfl) ?_
  intro p e s m args below meth c A Q X hQ
  show Z p l e { frames := 0, cells := 0, slots := 0, locals := 0 } s m args below meth c D A 3 0 0 Q [] [(0, .int a1)] 0 []
  refine z_iconst (v := (0 : Int32)) X dX3_many_0 (by decide) ?_
  refine z_istore_n (lv' := [(1, .int (0 : Int32)), (0, .int a1)]) X dX3_many_1 (Nat.le_of_ble_eq_true rfl) rfl ?_
  refine z_iload_n X dX3_many_2 1 rfl ?_
  refine z_istore_n (lv' := [(2, .int a1), (1, .int (0 : Int32)), (0, .int a1)]) X dX3_many_3 (Nat.le_of_ble_eq_true rfl) rfl ?_
  refine z_lv (lv' := [(1, .int (0 : Int32)), (2, .int a1)]) [1, 0] rfl ?_
  have Lp_4 : ∀ (n : Nat) (x1_4 : Int32) (x2_4 : Int32), (∃ r : Nat, r < n ∧ r < 256 ∧ x2_4 = nI r) → (∀ q_4 : Int32, q_4 = L_M_many_4 n x1_4 x2_4 → Z p l e { frames := 0, cells := 0, slots := 0, locals := 0 } s m args below meth c D A 3 0 0 Q [] [(1, .int q_4)] 20 []) → Z p l e { frames := 0, cells := 0, slots := 0, locals := 0 } s m args below meth c D A 3 0 0 Q [] [(1, .int x1_4), (2, .int x2_4)] 4 [] := by
    intro n
    induction n with
    | zero =>
      intro x1_4 x2_4 hi kk_4
      exfalso
      obtain ⟨r, h, _⟩ := hi
      omega
    | succ n ih_4 =>
      intro x1_4 x2_4 hi kk_4
      refine z_iload_n X dX3_many_4 1 rfl ?_
      refine z_if_eq (tgt := 20) X dX3_many_5 (by decide) (fun c_5 => ?_) (fun c_5 => ?_)
      · refine z_lv (lv' := [(1, .int x1_4)]) [0] rfl ?_
        exact kk_4 x1_4 (by simp only [L_M_many_4, if_pos c_5]) 
      · obtain ⟨v_8, ev_8⟩ : ∃ y : Int32, y = x1_4 + (1 : Int32) := ⟨_, rfl⟩
        refine z_iinc (v := v_8) (lv' := [(1, .int v_8), (2, .int x2_4)]) X dX3_many_8 0 rfl (by rw [ev_8]; rfl) (Nat.le_of_ble_eq_true rfl) rfl ?_
        refine z_iload_n X dX3_many_11 1 rfl ?_
        refine z_iload_n X dX3_many_12 1 rfl ?_
        refine z_iconst (v := (1 : Int32)) X dX3_many_13 (by decide) ?_
        refine z_isub X dX3_many_14 ?_
        refine z_iand X dX3_many_15 ?_
        refine z_topi (fun v_16 ev_16 => ?_)
        refine z_istore_n (lv' := [(2, .int v_16), (1, .int v_8)]) X dX3_many_16 (Nat.le_of_ble_eq_true rfl) rfl ?_
        refine z_goto (tgt := 4) X dX3_many_17 (by decide) ?_
        refine z_lv (lv' := [(1, .int v_8), (2, .int v_16)]) [1, 0] rfl ?_
        exact ih_4 v_8 v_16 (kern_b hi c_5 ev_16) (fun q_4 eq_4 => kk_4 q_4 (eq_4.trans (by subst ev_8 ev_16; simp only [L_M_many_4, if_neg c_5])))
  refine Lp_4 257 (0 : Int32) a1 (by obtain ⟨r, _, h2, h3⟩ := hr; exact ⟨r, by omega, by omega, h3⟩) (fun q_4 eq_4 => ?_)
  refine z_iload_n X dX3_many_20 0 rfl ?_
  exact z_iret X hQ rfl q_4 rfl rfl (by subst eq_4; simp only [F_M_many]) dX3_many_21
set_option maxRecDepth 100000 in
set_option maxHeartbeats 4000000 in
theorem c_M_spends (l : Launch) (D : va_G) (kI kC kQ : ClassId) (o : Nat → Nat) (M : ARR) (a1 : Int32) : CtV (U := ARR) l yX3_spends cX3_spends 4 none { frames := 0, cells := 0, slots := 0, locals := 0 } D (tysG kI kC kQ) (wM kI o M) [.ref (o 0), .int a1] (fun u => (wM kI o u)) (fun u => u = F_M_spends M a1) := by
  refine met_Zv (own := "ShadowLatchesModel") (by decide +kernel) rfl (Nat.le_of_ble_eq_true rfl) ?_
  intro p e s m args below meth c A Q X hQ
  show Z p l e { frames := 0, cells := 0, slots := 0, locals := 0 } s m args below meth c D A 4 0 0 Q (wM kI o M) [(0, .ref (o 0)), (1, .int a1)] 0 []
  refine z_aload_n X dX3_spends_0 0 rfl ?_
  refine zM_g0 X wd2_126 dX3_spends_1 ?_
  refine z_bipush (v := (54 : Int32)) X dX3_spends_4 (by decide) ?_
  refine zM_l0 X vi_54_55 cl_54 dX3_spends_6 ?_
  refine z_aload_n X dX3_spends_7 0 rfl ?_
  refine zM_g0 X wd2_126 dX3_spends_8 ?_
  refine z_bipush (v := (39 : Int32)) X dX3_spends_11 (by decide) ?_
  refine zM_l0 X vi_39_55 cl_39 dX3_spends_13 ?_
  refine z_aload_n X dX3_spends_14 0 rfl ?_
  refine zM_g0 X wd2_126 dX3_spends_15 ?_
  refine z_bipush (v := (39 : Int32)) X dX3_spends_18 (by decide) ?_
  refine zM_l0 X vi_39_55 cl_39 dX3_spends_20 ?_
  refine z_imul X dX3_spends_21 ?_
  refine z_sipush (v := (10000 : Int32)) X dX3_spends_22 (by decide) ?_
  refine z_idiv X dX3_spends_25 (by decide) ?_
  refine z_iadd X dX3_spends_26 ?_
  refine z_topi (fun v_27 ev_27 => ?_)
  refine z_istore_n (lv' := [(2, .int v_27), (0, .ref (o 0)), (1, .int a1)]) X dX3_spends_27 (Nat.le_of_ble_eq_true rfl) rfl ?_
  refine z_aload_n X dX3_spends_28 1 rfl ?_
  refine zM_g0 X wd2_126 dX3_spends_29 ?_
  refine z_bipush (v := (46 : Int32)) X dX3_spends_32 (by decide) ?_
  refine z_dup2 X dX3_spends_34 rfl rfl ?_
  refine zM_l0 X vi_46_55 cl_46 dX3_spends_35 ?_
  refine z_iload_n X dX3_spends_36 0 rfl ?_
  refine z_sipush (v := (1000 : Int32)) X dX3_spends_37 (by decide) ?_
  refine z_idiv X dX3_spends_40 (by decide) ?_
  refine z_iadd X dX3_spends_41 ?_
  refine zM_s0 X vi_46_55 cl_46 dX3_spends_42 (fun M_42 eM_42 => ?_)
  refine z_aload_n X dX3_spends_43 1 rfl ?_
  refine zM_g0 X wd2_126 dX3_spends_44 ?_
  refine z_bipush (v := (54 : Int32)) X dX3_spends_47 (by decide) ?_
  refine z_iload_n X dX3_spends_49 0 rfl ?_
  refine z_sipush (v := (1000 : Int32)) X dX3_spends_50 (by decide) ?_
  refine z_irem X dX3_spends_53 (by decide) ?_
  refine zM_s0 X vi_54_55 cl_54 dX3_spends_54 (fun M_54 eM_54 => ?_)
  refine z_aload_n X dX3_spends_55 1 rfl ?_
  refine zM_g0 X wd2_126 dX3_spends_56 ?_
  refine z_bipush (v := (42 : Int32)) X dX3_spends_59 (by decide) ?_
  refine z_dup2 X dX3_spends_61 rfl rfl ?_
  refine zM_l0 X vi_42_55 cl_42 dX3_spends_62 ?_
  refine z_iconst (v := (1 : Int32)) X dX3_spends_63 (by decide) ?_
  refine z_iadd X dX3_spends_64 ?_
  refine zM_s0 X vi_42_55 cl_42 dX3_spends_65 (fun M_65 eM_65 => ?_)
  refine z_aload_n X dX3_spends_66 1 rfl ?_
  refine zM_g0 X wd2_126 dX3_spends_67 ?_
  refine z_bipush (v := (47 : Int32)) X dX3_spends_70 (by decide) ?_
  refine z_dup2 X dX3_spends_72 rfl rfl ?_
  refine zM_l0 X vi_47_55 cl_47 dX3_spends_73 ?_
  refine z_aload_n X dX3_spends_74 1 rfl ?_
  refine zM_g0 X wd2_126 dX3_spends_75 ?_
  refine z_bipush (v := (41 : Int32)) X dX3_spends_78 (by decide) ?_
  refine zM_l0 X vi_41_55 cl_41 dX3_spends_80 ?_
  refine z_iadd X dX3_spends_81 ?_
  refine zM_s0 X vi_47_55 cl_47 dX3_spends_82 (fun M_82 eM_82 => ?_)
  refine z_bipush (v := (20 : Int32)) X dX3_spends_83 (by decide) ?_
  refine z_iload_n X dX3_spends_85 2 rfl ?_
  refine z_aload_n X dX3_spends_86 1 rfl ?_
  refine zM_g0 X wd2_126 dX3_spends_87 ?_
  refine z_bipush (v := (39 : Int32)) X dX3_spends_90 (by decide) ?_
  refine zM_l0 X vi_39_55 cl_39 dX3_spends_92 ?_
  refine z_imul X dX3_spends_93 ?_
  refine z_bipush (v := (100 : Int32)) X dX3_spends_94 (by decide) ?_
  refine z_idiv X dX3_spends_96 (by decide) ?_
  refine z_iadd X dX3_spends_97 ?_
  refine z_topi (fun v_98 ev_98 => ?_)
  refine z_istore_n (lv' := [(3, .int v_98), (2, .int v_27), (0, .ref (o 0)), (1, .int a1)]) X dX3_spends_98 (Nat.le_of_ble_eq_true rfl) rfl ?_
  refine z_iload_n X dX3_spends_99 0 rfl ?_
  refine z_bipush (v := (120 : Int32)) X dX3_spends_100 (by decide) ?_
  have J_j_111 : ∀ (j_111 : Int32), j_111 = (if v_98 ≤ (120 : Int32) then (v_98) else ((120 : Int32))) → Z p l e { frames := 0, cells := 0, slots := 0, locals := 0 } s m args below meth c D A 4 0 0 Q (wM kI o M_82) [(0, .ref (o 0))] 111 [.int j_111] := by
    intro j_111 ej_111
    refine z_istore_n (lv' := [(3, .int j_111), (0, .ref (o 0))]) X dX3_spends_111 (Nat.le_of_ble_eq_true rfl) rfl ?_
    refine z_aload_n X dX3_spends_112 1 rfl ?_
    refine zM_g0 X wd2_126 dX3_spends_113 ?_
    refine z_bipush (v := (42 : Int32)) X dX3_spends_116 (by decide) ?_
    refine zM_l0 X vi_42_55 cl_42 dX3_spends_118 ?_
    refine z_iconst (v := (4 : Int32)) X dX3_spends_119 (by decide) ?_
    refine z_irem X dX3_spends_120 (by decide) ?_
    have J_j_165 : ∀ (j_165 : ARR), j_165 = (if ((M_82 0 42) - (M_82 0 42) / (4 : Int32) * (4 : Int32)) = (0 : Int32) then (let j_163 : Int32 := (if j_111 ≤ (M_82 0 40) then (if (M_82 0 40) ≤ j_111 then ((0 : Int32)) else ((-1 : Int32))) else ((1 : Int32))); let M_164 : ARR := sA M_82 0 40 ((M_82 0 40) + j_163); M_164) else (M_82)) → Z p l e { frames := 0, cells := 0, slots := 0, locals := 0 } s m args below meth c D A 4 0 0 Q (wM kI o j_165) [] 165 [] := by
      intro j_165 ej_165
      exact z_vret X hQ rfl j_165 rfl (by subst ev_27 eM_42 eM_54 eM_65 eM_82 ev_98 ej_111 ej_165; simp only [F_M_spends]) dX3_spends_165
    refine z_if_ne (tgt := 165) X dX3_spends_121 (by decide) (fun c_121 => ?_) (fun c_121 => ?_)
    · refine z_lv (lv' := []) [] rfl ?_
      exact J_j_165 M_82 (by simp only [if_neg c_121])
    · refine z_aload_n X dX3_spends_124 1 rfl ?_
      refine zM_g0 X wd2_126 dX3_spends_125 ?_
      refine z_bipush (v := (40 : Int32)) X dX3_spends_128 (by decide) ?_
      refine z_dup2 X dX3_spends_130 rfl rfl ?_
      refine zM_l0 X vi_40_55 cl_40 dX3_spends_131 ?_
      refine z_aload_n X dX3_spends_132 1 rfl ?_
      refine zM_g0 X wd2_126 dX3_spends_133 ?_
      refine z_bipush (v := (40 : Int32)) X dX3_spends_136 (by decide) ?_
      refine zM_l0 X vi_40_55 cl_40 dX3_spends_138 ?_
      refine z_iload_n X dX3_spends_139 0 rfl ?_
      have J_j_163 : ∀ (j_163 : Int32), j_163 = (if j_111 ≤ (M_82 0 40) then (if (M_82 0 40) ≤ j_111 then ((0 : Int32)) else ((-1 : Int32))) else ((1 : Int32))) → Z p l e { frames := 0, cells := 0, slots := 0, locals := 0 } s m args below meth c D A 4 0 0 Q (wM kI o M_82) [] 163 [.int j_163, .int (M_82 0 40), .int (40 : Int32), .ref (o 1)] := by
        intro j_163 ej_163
        refine z_iadd X dX3_spends_163 ?_
        refine zM_s0 X vi_40_55 cl_40 dX3_spends_164 (fun M_164 eM_164 => ?_)
        exact J_j_165 M_164 (by subst ej_163 eM_164; simp only [if_pos c_121])
      refine z_icmp_ge (tgt := 147) X dX3_spends_140 (by decide) (fun c_140 => ?_) (fun c_140 => ?_)
      · refine z_aload_n X dX3_spends_147 1 rfl ?_
        refine zM_g0 X wd2_126 dX3_spends_148 ?_
        refine z_bipush (v := (40 : Int32)) X dX3_spends_151 (by decide) ?_
        refine zM_l0 X vi_40_55 cl_40 dX3_spends_153 ?_
        refine z_iload_n X dX3_spends_154 0 rfl ?_
        refine z_icmp_le (tgt := 162) X dX3_spends_155 (by decide) (fun c_155 => ?_) (fun c_155 => ?_)
        · refine z_iconst (v := (0 : Int32)) X dX3_spends_162 (by decide) ?_
          refine z_lv (lv' := []) [] rfl ?_
          exact J_j_163 (0 : Int32) (by simp only [if_pos c_140, if_pos c_155])
        · refine z_iconst (v := (-1 : Int32)) X dX3_spends_158 (by decide) ?_
          refine z_goto (tgt := 163) X dX3_spends_159 (by decide) ?_
          refine z_lv (lv' := []) [] rfl ?_
          exact J_j_163 (-1 : Int32) (by simp only [if_pos c_140, if_neg c_155])
      · refine z_iconst (v := (1 : Int32)) X dX3_spends_143 (by decide) ?_
        refine z_goto (tgt := 163) X dX3_spends_144 (by decide) ?_
        refine z_lv (lv' := []) [] rfl ?_
        exact J_j_163 (1 : Int32) (by simp only [if_neg c_140])
  refine z_icmp_le (tgt := 110) X dX3_spends_102 (by decide) (fun c_102 => ?_) (fun c_102 => ?_)
  · refine z_iload_n X dX3_spends_110 0 rfl ?_
    refine z_lv (lv' := [(0, .ref (o 0))]) [2] rfl ?_
    exact J_j_111 v_98 (by simp only [if_pos c_102])
  · refine z_bipush (v := (120 : Int32)) X dX3_spends_105 (by decide) ?_
    refine z_goto (tgt := 111) X dX3_spends_107 (by decide) ?_
    refine z_lv (lv' := [(0, .ref (o 0))]) [2] rfl ?_
    exact J_j_111 (120 : Int32) (by simp only [if_neg c_102])
set_option maxRecDepth 100000 in
set_option maxHeartbeats 4000000 in
theorem c_M_looks (l : Launch) (D : va_G) (kI kC kQ : ClassId) (o : Nat → Nat) (M : ARR) : CtV (U := ARR) l yX3_looks cX3_looks 3 none { frames := 0, cells := 0, slots := 0, locals := 0 } D (tysG kI kC kQ) (wM kI o M) [.ref (o 0)] (fun u => (wM kI o u)) (fun u => u = F_M_looks M) := by
  refine met_Zv (own := "ShadowLatchesModel") (by decide +kernel) rfl (Nat.le_of_ble_eq_true rfl) ?_
  intro p e s m args below meth c A Q X hQ
  show Z p l e { frames := 0, cells := 0, slots := 0, locals := 0 } s m args below meth c D A 3 0 0 Q (wM kI o M) [(0, .ref (o 0))] 0 []
  refine z_aload_n X dX3_looks_0 0 rfl ?_
  refine zM_g0 X wd2_126 dX3_looks_1 ?_
  refine z_bipush (v := (48 : Int32)) X dX3_looks_4 (by decide) ?_
  refine zM_l0 X vi_48_55 cl_48 dX3_looks_6 ?_
  refine z_aload_n X dX3_looks_7 0 rfl ?_
  refine zM_g0 X wd2_126 dX3_looks_8 ?_
  refine z_bipush (v := (36 : Int32)) X dX3_looks_11 (by decide) ?_
  refine zM_l0 X vi_36_55 cl_36 dX3_looks_13 ?_
  refine z_isub X dX3_looks_14 ?_
  refine z_topi (fun v_15 ev_15 => ?_)
  refine z_istore_n (lv' := [(1, .int v_15), (0, .ref (o 0))]) X dX3_looks_15 (Nat.le_of_ble_eq_true rfl) rfl ?_
  refine z_iload_n X dX3_looks_16 0 rfl ?_
  have J_j_108 : ∀ (j_108 : ARR), j_108 = (if (0 : Int32) ≤ v_15 then (if v_15 ≤ (0 : Int32) then (M) else (let j_77 : Int32 := (if (M 0 38) ≤ v_15 then ((M 0 38)) else (v_15)); let M_96 : ARR := sA M 0 39 ((M 0 39) + (j_77 * (M 0 37))); let M_107 : ARR := sA M_96 0 52 ((M_96 0 52) + j_77); M_107)) else (let M_36 : ARR := sA M 0 39 ((M 0 39) - (M 0 37)); let M_47 : ARR := sA M_36 0 53 ((M_36 0 53) + (1 : Int32)); M_47)) → Z p l e { frames := 0, cells := 0, slots := 0, locals := 0 } s m args below meth c D A 3 0 0 Q (wM kI o j_108) [(0, .ref (o 0))] 108 [] := by
    intro j_108 ej_108
    refine z_aload_n X dX3_looks_108 0 rfl ?_
    refine zM_g0 X wd2_126 dX3_looks_109 ?_
    refine z_bipush (v := (39 : Int32)) X dX3_looks_112 (by decide) ?_
    refine z_aload_n X dX3_looks_114 0 rfl ?_
    refine zM_g0 X wd2_126 dX3_looks_115 ?_
    refine z_bipush (v := (39 : Int32)) X dX3_looks_118 (by decide) ?_
    refine zM_l0 X vi_39_55 cl_39 dX3_looks_120 ?_
    refine z_sipush (v := (500 : Int32)) X dX3_looks_121 (by decide) ?_
    have J_j_159 : ∀ (j_159 : Int32), j_159 = (if (500 : Int32) ≤ (j_108 0 39) then (if (j_108 0 39) ≤ (1200 : Int32) then ((j_108 0 39)) else ((1200 : Int32))) else ((500 : Int32))) → Z p l e { frames := 0, cells := 0, slots := 0, locals := 0 } s m args below meth c D A 3 0 0 Q (wM kI o j_108) [(0, .ref (o 0))] 159 [.int j_159, .int (39 : Int32), .ref (o 1)] := by
      intro j_159 ej_159
      refine zM_s0 X vi_39_55 cl_39 dX3_looks_159 (fun M_159 eM_159 => ?_)
      refine z_aload_n X dX3_looks_160 0 rfl ?_
      refine zM_g0 X wd2_126 dX3_looks_161 ?_
      refine z_bipush (v := (47 : Int32)) X dX3_looks_164 (by decide) ?_
      refine z_iconst (v := (0 : Int32)) X dX3_looks_166 (by decide) ?_
      refine zM_s0 X vi_47_55 cl_47 dX3_looks_167 (fun M_167 eM_167 => ?_)
      refine z_aload_n X dX3_looks_168 0 rfl ?_
      refine zM_g0 X wd2_126 dX3_looks_169 ?_
      refine z_bipush (v := (48 : Int32)) X dX3_looks_172 (by decide) ?_
      refine z_iconst (v := (0 : Int32)) X dX3_looks_174 (by decide) ?_
      refine zM_s0 X vi_48_55 cl_48 dX3_looks_175 (fun M_175 eM_175 => ?_)
      exact z_vret X hQ rfl M_175 rfl (by subst ev_15 ej_108 ej_159 eM_159 eM_167 eM_175; simp only [F_M_looks]) dX3_looks_176
    refine z_icmp_ge (tgt := 133) X dX3_looks_124 (by decide) (fun c_124 => ?_) (fun c_124 => ?_)
    · refine z_aload_n X dX3_looks_133 0 rfl ?_
      refine zM_g0 X wd2_126 dX3_looks_134 ?_
      refine z_bipush (v := (39 : Int32)) X dX3_looks_137 (by decide) ?_
      refine zM_l0 X vi_39_55 cl_39 dX3_looks_139 ?_
      refine z_sipush (v := (1200 : Int32)) X dX3_looks_140 (by decide) ?_
      refine z_icmp_le (tgt := 152) X dX3_looks_143 (by decide) (fun c_143 => ?_) (fun c_143 => ?_)
      · refine z_aload_n X dX3_looks_152 0 rfl ?_
        refine zM_g0 X wd2_126 dX3_looks_153 ?_
        refine z_bipush (v := (39 : Int32)) X dX3_looks_156 (by decide) ?_
        refine zM_l0 X vi_39_55 cl_39 dX3_looks_158 ?_
        exact J_j_159 (j_108 0 39) (by simp only [if_pos c_124, if_pos c_143])
      · refine z_sipush (v := (1200 : Int32)) X dX3_looks_146 (by decide) ?_
        refine z_goto (tgt := 159) X dX3_looks_149 (by decide) ?_
        exact J_j_159 (1200 : Int32) (by simp only [if_pos c_124, if_neg c_143])
    · refine z_sipush (v := (500 : Int32)) X dX3_looks_127 (by decide) ?_
      refine z_goto (tgt := 159) X dX3_looks_130 (by decide) ?_
      exact J_j_159 (500 : Int32) (by simp only [if_neg c_124])
  refine z_if_ge (tgt := 51) X dX3_looks_17 (by decide) (fun c_17 => ?_) (fun c_17 => ?_)
  · refine z_iload_n X dX3_looks_51 0 rfl ?_
    refine z_if_le (tgt := 108) X dX3_looks_52 (by decide) (fun c_52 => ?_) (fun c_52 => ?_)
    · refine z_lv (lv' := [(0, .ref (o 0))]) [1] rfl ?_
      exact J_j_108 M (by simp only [if_pos c_17, if_pos c_52])
    · refine z_iload_n X dX3_looks_55 0 rfl ?_
      refine z_aload_n X dX3_looks_56 1 rfl ?_
      refine zM_g0 X wd2_126 dX3_looks_57 ?_
      refine z_bipush (v := (38 : Int32)) X dX3_looks_60 (by decide) ?_
      refine zM_l0 X vi_38_55 cl_38 dX3_looks_62 ?_
      have J_j_77 : ∀ (j_77 : Int32), j_77 = (if (M 0 38) ≤ v_15 then ((M 0 38)) else (v_15)) → Z p l e { frames := 0, cells := 0, slots := 0, locals := 0 } s m args below meth c D A 3 0 0 Q (wM kI o M) [(0, .ref (o 0))] 77 [.int j_77] := by
        intro j_77 ej_77
        refine z_istore_n (lv' := [(2, .int j_77), (0, .ref (o 0))]) X dX3_looks_77 (Nat.le_of_ble_eq_true rfl) rfl ?_
        refine z_aload_n X dX3_looks_78 1 rfl ?_
        refine zM_g0 X wd2_126 dX3_looks_79 ?_
        refine z_bipush (v := (39 : Int32)) X dX3_looks_82 (by decide) ?_
        refine z_dup2 X dX3_looks_84 rfl rfl ?_
        refine zM_l0 X vi_39_55 cl_39 dX3_looks_85 ?_
        refine z_iload_n X dX3_looks_86 0 rfl ?_
        refine z_aload_n X dX3_looks_87 1 rfl ?_
        refine zM_g0 X wd2_126 dX3_looks_88 ?_
        refine z_bipush (v := (37 : Int32)) X dX3_looks_91 (by decide) ?_
        refine zM_l0 X vi_37_55 cl_37 dX3_looks_93 ?_
        refine z_imul X dX3_looks_94 ?_
        refine z_iadd X dX3_looks_95 ?_
        refine zM_s0 X vi_39_55 cl_39 dX3_looks_96 (fun M_96 eM_96 => ?_)
        refine z_aload_n X dX3_looks_97 1 rfl ?_
        refine zM_g0 X wd2_126 dX3_looks_98 ?_
        refine z_bipush (v := (52 : Int32)) X dX3_looks_101 (by decide) ?_
        refine z_dup2 X dX3_looks_103 rfl rfl ?_
        refine zM_l0 X vi_52_55 cl_52 dX3_looks_104 ?_
        refine z_iload_n X dX3_looks_105 0 rfl ?_
        refine z_iadd X dX3_looks_106 ?_
        refine zM_s0 X vi_52_55 cl_52 dX3_looks_107 (fun M_107 eM_107 => ?_)
        refine z_lv (lv' := [(0, .ref (o 0))]) [1] rfl ?_
        exact J_j_108 M_107 (by subst ej_77 eM_96 eM_107; simp only [if_pos c_17, if_neg c_52])
      refine z_icmp_ge (tgt := 70) X dX3_looks_63 (by decide) (fun c_63 => ?_) (fun c_63 => ?_)
      · refine z_aload_n X dX3_looks_70 1 rfl ?_
        refine zM_g0 X wd2_126 dX3_looks_71 ?_
        refine z_bipush (v := (38 : Int32)) X dX3_looks_74 (by decide) ?_
        refine zM_l0 X vi_38_55 cl_38 dX3_looks_76 ?_
        refine z_lv (lv' := [(0, .ref (o 0))]) [1] rfl ?_
        exact J_j_77 (M 0 38) (by simp only [if_pos c_63])
      · refine z_iload_n X dX3_looks_66 0 rfl ?_
        refine z_goto (tgt := 77) X dX3_looks_67 (by decide) ?_
        refine z_lv (lv' := [(0, .ref (o 0))]) [1] rfl ?_
        exact J_j_77 v_15 (by simp only [if_neg c_63])
  · refine z_aload_n X dX3_looks_20 1 rfl ?_
    refine zM_g0 X wd2_126 dX3_looks_21 ?_
    refine z_bipush (v := (39 : Int32)) X dX3_looks_24 (by decide) ?_
    refine z_dup2 X dX3_looks_26 rfl rfl ?_
    refine zM_l0 X vi_39_55 cl_39 dX3_looks_27 ?_
    refine z_aload_n X dX3_looks_28 1 rfl ?_
    refine zM_g0 X wd2_126 dX3_looks_29 ?_
    refine z_bipush (v := (37 : Int32)) X dX3_looks_32 (by decide) ?_
    refine zM_l0 X vi_37_55 cl_37 dX3_looks_34 ?_
    refine z_isub X dX3_looks_35 ?_
    refine zM_s0 X vi_39_55 cl_39 dX3_looks_36 (fun M_36 eM_36 => ?_)
    refine z_aload_n X dX3_looks_37 1 rfl ?_
    refine zM_g0 X wd2_126 dX3_looks_38 ?_
    refine z_bipush (v := (53 : Int32)) X dX3_looks_41 (by decide) ?_
    refine z_dup2 X dX3_looks_43 rfl rfl ?_
    refine zM_l0 X vi_53_55 cl_53 dX3_looks_44 ?_
    refine z_iconst (v := (1 : Int32)) X dX3_looks_45 (by decide) ?_
    refine z_iadd X dX3_looks_46 ?_
    refine zM_s0 X vi_53_55 cl_53 dX3_looks_47 (fun M_47 eM_47 => ?_)
    refine z_goto (tgt := 108) X dX3_looks_48 (by decide) ?_
    refine z_lv (lv' := [(0, .ref (o 0))]) [1] rfl ?_
    exact J_j_108 M_47 (by subst eM_36 eM_47; simp only [if_neg c_17])
set_option maxRecDepth 100000 in
set_option maxHeartbeats 4000000 in
theorem c_M_isSetting (l : Launch) (D : va_G) (kI kC kQ : ClassId) (a1 : Int32) (a2 : Int32) : CtI (U := Int32) l yX3_isSetting cX3_isSetting 2 (some .boolean) { frames := 1, cells := 0, slots := 0, locals := 25 } D (tysG kI kC kQ) [] [.int a1, .int a2] (fun u => u) (fun _ => []) (fun u => u = F_M_isSetting a1 a2) := by
  refine met_Zi (own := "ShadowLatchesModel") (by decide +kernel) rfl (Nat.le_of_ble_eq_true rfl) ?_
  intro p e s m args below meth c A Q X hQ
  show Z p l e { frames := 1, cells := 0, slots := 0, locals := 25 } s m args below meth c D A 2 0 0 Q [] [(0, .int a1), (1, .int a2)] 0 []
  refine z_iload_n X dX3_isSetting_0 0 rfl ?_
  by_cases c_1_0 : a1 = (0 : Int32)
  · refine z_tableIn (tgt := 40) X dX3_isSetting_1 (by rw [c_1_0]; decide) (by rw [c_1_0]; decide) (by rw [c_1_0]; rfl) (by decide) ?_
    refine z_iload_n X dX3_isSetting_40 1 rfl ?_
    refine z_i2l X dX3_isSetting_41 ?_
    refine z_ldc2 X dX3_isSetting_42 wd3_19 ?_
    refine z_ldc2 X dX3_isSetting_45 wd3_20 ?_
    refine z_callSiN X (c_M_in l D kI kC kQ (a2.toInt64) (50 : Int64) (1000 : Int64)) (gS wd2_172 wd2_173 wd1_4 wd2_174) k_M_in rfl rfl ⟨Nat.le_of_ble_eq_true rfl, Nat.le_of_ble_eq_true rfl⟩ ⟨Nat.zero_le _, Nat.zero_le _⟩ rfl rfl (Nat.le_of_ble_eq_true rfl) dX3_isSetting_48 rfl (fun _ => rfl) (fun r_48 er_48 => ?_)
    exact z_zret X hQ rfl r_48 rfl rfl (by subst er_48; simp only [F_M_isSetting, if_pos c_1_0]) (nb (by rw [er_48]; exact bl_in _ _ _)) dX3_isSetting_51
  by_cases c_1_1 : a1 = (1 : Int32)
  · refine z_tableIn (tgt := 52) X dX3_isSetting_1 (by rw [c_1_1]; decide) (by rw [c_1_1]; decide) (by rw [c_1_1]; rfl) (by decide) ?_
    refine z_iload_n X dX3_isSetting_52 1 rfl ?_
    refine z_i2l X dX3_isSetting_53 ?_
    refine z_lconst (v := (0 : Int64)) X dX3_isSetting_54 (by decide) ?_
    refine z_ldc2 X dX3_isSetting_55 wd3_21 ?_
    refine z_callSiN X (c_M_in l D kI kC kQ (a2.toInt64) (0 : Int64) (200 : Int64)) (gS wd2_172 wd2_173 wd1_4 wd2_174) k_M_in rfl rfl ⟨Nat.le_of_ble_eq_true rfl, Nat.le_of_ble_eq_true rfl⟩ ⟨Nat.zero_le _, Nat.zero_le _⟩ rfl rfl (Nat.le_of_ble_eq_true rfl) dX3_isSetting_58 rfl (fun _ => rfl) (fun r_58 er_58 => ?_)
    exact z_zret X hQ rfl r_58 rfl rfl (by subst er_58; simp only [F_M_isSetting, if_neg c_1_0, if_pos c_1_1]) (nb (by rw [er_58]; exact bl_in _ _ _)) dX3_isSetting_61
  by_cases c_1_2 : a1 = (2 : Int32)
  · refine z_tableIn (tgt := 62) X dX3_isSetting_1 (by rw [c_1_2]; decide) (by rw [c_1_2]; decide) (by rw [c_1_2]; rfl) (by decide) ?_
    refine z_iload_n X dX3_isSetting_62 1 rfl ?_
    refine z_i2l X dX3_isSetting_63 ?_
    refine z_lconst (v := (1 : Int64)) X dX3_isSetting_64 (by decide) ?_
    refine z_ldc2 X dX3_isSetting_65 wd3_22 ?_
    refine z_callSiN X (c_M_in l D kI kC kQ (a2.toInt64) (1 : Int64) (20 : Int64)) (gS wd2_172 wd2_173 wd1_4 wd2_174) k_M_in rfl rfl ⟨Nat.le_of_ble_eq_true rfl, Nat.le_of_ble_eq_true rfl⟩ ⟨Nat.zero_le _, Nat.zero_le _⟩ rfl rfl (Nat.le_of_ble_eq_true rfl) dX3_isSetting_68 rfl (fun _ => rfl) (fun r_68 er_68 => ?_)
    exact z_zret X hQ rfl r_68 rfl rfl (by subst er_68; simp only [F_M_isSetting, if_neg c_1_0, if_neg c_1_1, if_pos c_1_2]) (nb (by rw [er_68]; exact bl_in _ _ _)) dX3_isSetting_71
  by_cases c_1_3 : a1 = (3 : Int32)
  · refine z_tableIn (tgt := 72) X dX3_isSetting_1 (by rw [c_1_3]; decide) (by rw [c_1_3]; decide) (by rw [c_1_3]; rfl) (by decide) ?_
    refine z_iload_n X dX3_isSetting_72 1 rfl ?_
    refine z_i2l X dX3_isSetting_73 ?_
    refine z_ldc2 X dX3_isSetting_74 wd2_170 ?_
    refine z_ldc2 X dX3_isSetting_77 wd3_6 ?_
    refine z_callSiN X (c_M_in l D kI kC kQ (a2.toInt64) (10 : Int64) (500 : Int64)) (gS wd2_172 wd2_173 wd1_4 wd2_174) k_M_in rfl rfl ⟨Nat.le_of_ble_eq_true rfl, Nat.le_of_ble_eq_true rfl⟩ ⟨Nat.zero_le _, Nat.zero_le _⟩ rfl rfl (Nat.le_of_ble_eq_true rfl) dX3_isSetting_80 rfl (fun _ => rfl) (fun r_80 er_80 => ?_)
    exact z_zret X hQ rfl r_80 rfl rfl (by subst er_80; simp only [F_M_isSetting, if_neg c_1_0, if_neg c_1_1, if_neg c_1_2, if_pos c_1_3]) (nb (by rw [er_80]; exact bl_in _ _ _)) dX3_isSetting_83
  by_cases c_1_4 : a1 = (4 : Int32)
  · refine z_tableIn (tgt := 84) X dX3_isSetting_1 (by rw [c_1_4]; decide) (by rw [c_1_4]; decide) (by rw [c_1_4]; rfl) (by decide) ?_
    refine z_iload_n X dX3_isSetting_84 1 rfl ?_
    refine z_i2l X dX3_isSetting_85 ?_
    refine z_lconst (v := (0 : Int64)) X dX3_isSetting_86 (by decide) ?_
    refine z_ldc2 X dX3_isSetting_87 wd3_23 ?_
    refine z_callSiN X (c_M_in l D kI kC kQ (a2.toInt64) (0 : Int64) (100 : Int64)) (gS wd2_172 wd2_173 wd1_4 wd2_174) k_M_in rfl rfl ⟨Nat.le_of_ble_eq_true rfl, Nat.le_of_ble_eq_true rfl⟩ ⟨Nat.zero_le _, Nat.zero_le _⟩ rfl rfl (Nat.le_of_ble_eq_true rfl) dX3_isSetting_90 rfl (fun _ => rfl) (fun r_90 er_90 => ?_)
    exact z_zret X hQ rfl r_90 rfl rfl (by subst er_90; simp only [F_M_isSetting, if_neg c_1_0, if_neg c_1_1, if_neg c_1_2, if_neg c_1_3, if_pos c_1_4]) (nb (by rw [er_90]; exact bl_in _ _ _)) dX3_isSetting_93
  by_cases c_1_5 : a1 = (5 : Int32)
  · refine z_tableIn (tgt := 94) X dX3_isSetting_1 (by rw [c_1_5]; decide) (by rw [c_1_5]; decide) (by rw [c_1_5]; rfl) (by decide) ?_
    refine z_iload_n X dX3_isSetting_94 1 rfl ?_
    refine z_i2l X dX3_isSetting_95 ?_
    refine z_lconst (v := (1 : Int64)) X dX3_isSetting_96 (by decide) ?_
    refine z_ldc2 X dX3_isSetting_97 wd3_19 ?_
    refine z_callSiN X (c_M_in l D kI kC kQ (a2.toInt64) (1 : Int64) (50 : Int64)) (gS wd2_172 wd2_173 wd1_4 wd2_174) k_M_in rfl rfl ⟨Nat.le_of_ble_eq_true rfl, Nat.le_of_ble_eq_true rfl⟩ ⟨Nat.zero_le _, Nat.zero_le _⟩ rfl rfl (Nat.le_of_ble_eq_true rfl) dX3_isSetting_100 rfl (fun _ => rfl) (fun r_100 er_100 => ?_)
    exact z_zret X hQ rfl r_100 rfl rfl (by subst er_100; simp only [F_M_isSetting, if_neg c_1_0, if_neg c_1_1, if_neg c_1_2, if_neg c_1_3, if_neg c_1_4, if_pos c_1_5]) (nb (by rw [er_100]; exact bl_in _ _ _)) dX3_isSetting_103
  refine z_tableOut (tgt := 104) X dX3_isSetting_1 (by have t0 : a1.toInt ≠ 0 := fun q => c_1_0 (Int32.toInt_inj.mp q); have t1 : a1.toInt ≠ 1 := fun q => c_1_1 (Int32.toInt_inj.mp q); have t2 : a1.toInt ≠ 2 := fun q => c_1_2 (Int32.toInt_inj.mp q); have t3 : a1.toInt ≠ 3 := fun q => c_1_3 (Int32.toInt_inj.mp q); have t4 : a1.toInt ≠ 4 := fun q => c_1_4 (Int32.toInt_inj.mp q); have t5 : a1.toInt ≠ 5 := fun q => c_1_5 (Int32.toInt_inj.mp q); omega) (by decide) ?_
  refine z_iload_n X dX3_isSetting_104 0 rfl ?_
  refine z_bipush (v := (6 : Int32)) X dX3_isSetting_105 (by decide) ?_
  have J_j_127 : ∀ (j_127 : Int32), j_127 = (if a1 = (6 : Int32) then (let r_116 : Int32 := (F_M_in (a2.toInt64) (1 : Int64) (10 : Int64)); if r_116 = (0 : Int32) then ((0 : Int32)) else ((1 : Int32))) else ((0 : Int32))) → Z p l e { frames := 1, cells := 0, slots := 0, locals := 25 } s m args below meth c D A 2 0 0 Q [] [] 127 [.int j_127] := by
    intro j_127 ej_127
    exact z_zret X hQ rfl j_127 rfl rfl (by subst ej_127; simp only [F_M_isSetting, if_neg c_1_0, if_neg c_1_1, if_neg c_1_2, if_neg c_1_3, if_neg c_1_4, if_neg c_1_5]) (nb (by rw [ej_127]; (try dsimp only); repeat' first | exact bl_in _ _ _ | apply bl_ite | exact Or.inl rfl | exact Or.inr rfl)) dX3_isSetting_127
  refine z_icmp_ne (tgt := 126) X dX3_isSetting_107 (by decide) (fun c_107 => ?_) (fun c_107 => ?_)
  · refine z_iconst (v := (0 : Int32)) X dX3_isSetting_126 (by decide) ?_
    refine z_lv (lv' := []) [] rfl ?_
    exact J_j_127 (0 : Int32) (by simp only [if_neg c_107])
  · refine z_iload_n X dX3_isSetting_110 1 rfl ?_
    refine z_i2l X dX3_isSetting_111 ?_
    refine z_lconst (v := (1 : Int64)) X dX3_isSetting_112 (by decide) ?_
    refine z_ldc2 X dX3_isSetting_113 wd2_170 ?_
    refine z_callSiN X (c_M_in l D kI kC kQ (a2.toInt64) (1 : Int64) (10 : Int64)) (gS wd2_172 wd2_173 wd1_4 wd2_174) k_M_in rfl rfl ⟨Nat.le_of_ble_eq_true rfl, Nat.le_of_ble_eq_true rfl⟩ ⟨Nat.zero_le _, Nat.zero_le _⟩ rfl rfl (Nat.le_of_ble_eq_true rfl) dX3_isSetting_116 rfl (fun _ => rfl) (fun r_116 er_116 => ?_)
    refine z_if_eq (tgt := 126) X dX3_isSetting_119 (by decide) (fun c_119 => ?_) (fun c_119 => ?_)
    · refine z_iconst (v := (0 : Int32)) X dX3_isSetting_126 (by decide) ?_
      refine z_lv (lv' := []) [] rfl ?_
      exact J_j_127 (0 : Int32) (by subst er_116; simp only [if_pos c_107, if_pos c_119])
    · refine z_iconst (v := (1 : Int32)) X dX3_isSetting_122 (by decide) ?_
      refine z_goto (tgt := 127) X dX3_isSetting_123 (by decide) ?_
      refine z_lv (lv' := []) [] rfl ?_
      exact J_j_127 (1 : Int32) (by subst er_116; simp only [if_pos c_107, if_neg c_119])
set_option maxRecDepth 100000 in
set_option maxHeartbeats 4000000 in
theorem c_M_remember (l : Launch) (D : va_G) (kI kC kQ : ClassId) (o : Nat → Nat) (M : ARR) : CtV (U := ARR) l yX3_remember cX3_remember 1 none { frames := 1, cells := 0, slots := 0, locals := 22 } D (tysG kI kC kQ) (wM kI o M) [.ref (o 0)] (fun u => (wM kI o u)) (fun u => u = F_M_remember M) := by
  refine met_Zv (own := "ShadowLatchesModel") (by decide +kernel) rfl (Nat.le_of_ble_eq_true rfl) ?_
  intro p e s m args below meth c A Q X hQ
  show Z p l e { frames := 1, cells := 0, slots := 0, locals := 22 } s m args below meth c D A 1 0 0 Q (wM kI o M) [(0, .ref (o 0))] 0 []
  refine z_aload_n X dX3_remember_0 0 rfl ?_
  refine zM_g0 X wd2_126 dX3_remember_1 ?_
  refine z_aload_n X dX3_remember_4 0 rfl ?_
  refine zM_g1 X wd2_127 dX3_remember_5 ?_
  refine zM_cp_0_1 X (gS wd2_179 wd2_180 wd1_4 wd2_181) ⟨Nat.le_of_ble_eq_true rfl, Nat.le_of_ble_eq_true rfl⟩ ⟨Nat.zero_le _, Nat.zero_le _⟩ (Nat.le_of_ble_eq_true rfl) dX3_remember_8 (fun M_8 eM_8 => ?_)
  exact z_vret X hQ rfl M_8 rfl (by subst eM_8; simp only [F_M_remember]) dX3_remember_11
set_option maxRecDepth 100000 in
set_option maxHeartbeats 4000000 in
theorem c_M_acted (l : Launch) (D : va_G) (kI kC kQ : ClassId) (o : Nat → Nat) (M : ARR) (a1 : Int32) (hh : bn 0 4 (M 7 4)) : CtI (U := Int32 × ARR) l yX3_acted cX3_acted 3 (some .int) { frames := 0, cells := 0, slots := 0, locals := 0 } D (tysG kI kC kQ) (wM kI o M) [.ref (o 0), .int a1] (fun u => u.1) (fun u => (wM kI o u.2)) (fun u => u = F_M_acted M a1) := by
  refine met_Zi (own := "ShadowLatchesModel") (by decide +kernel) rfl (Nat.le_of_ble_eq_true rfl) ?_
  intro p e s m args below meth c A Q X hQ
  show Z p l e { frames := 0, cells := 0, slots := 0, locals := 0 } s m args below meth c D A 3 0 0 Q (wM kI o M) [(0, .ref (o 0)), (1, .int a1)] 0 []
  refine z_aload_n X dX3_acted_0 0 rfl ?_
  refine zM_g4 X wd2_130 dX3_acted_1 ?_
  refine z_iconst (v := (4 : Int32)) X dX3_acted_4 (by decide) ?_
  have J_j_48 : ∀ (j_48 : ARR), j_48 = (if (M 7 4) = (4 : Int32) then (let q_10 : ARR := L_M_acted_10 166 (0 : Int32) M; let M_45 : ARR := sA q_10 7 4 ((q_10 7 4) - (1 : Int32)); M_45) else (M)) → (bn 0 3 (j_48 7 4)) → Z p l e { frames := 0, cells := 0, slots := 0, locals := 0 } s m args below meth c D A 3 0 0 Q (wM kI o j_48) [(0, .ref (o 0)), (1, .int a1)] 48 [] := by
    intro j_48 ej_48 hj
    refine z_iconst (v := (0 : Int32)) X dX3_acted_48 (by decide) ?_
    refine z_istore_n (lv' := [(2, .int (0 : Int32)), (0, .ref (o 0)), (1, .int a1)]) X dX3_acted_49 (Nat.le_of_ble_eq_true rfl) rfl ?_
    refine z_lv (lv' := [(0, .ref (o 0)), (1, .int a1), (2, .int (0 : Int32))]) [1, 2, 0] rfl ?_
    have Lp_50 : ∀ (n : Nat) (x2_50 : Int32) (M_50 : ARR), (cu 55 n x2_50) → (bn 0 3 (M_50 7 4)) → (∀ q_50 : ARR, q_50 = L_M_acted_50 n x2_50 M_50 → Z p l e { frames := 0, cells := 0, slots := 0, locals := 0 } s m args below meth c D A 3 0 0 Q (wM kI o q_50) [(0, .ref (o 0)), (1, .int a1)] 82 []) → Z p l e { frames := 0, cells := 0, slots := 0, locals := 0 } s m args below meth c D A 3 0 0 Q (wM kI o M_50) [(0, .ref (o 0)), (1, .int a1), (2, .int x2_50)] 50 [] := by
      intro n
      induction n with
      | zero =>
        intro x2_50 M_50 hi hm kk_50
        exfalso
        exact cu_0 hi
      | succ n ih_50 =>
        intro x2_50 M_50 hi hm kk_50
        refine z_iload_n X dX3_acted_50 2 rfl ?_
        refine z_bipush (v := (55 : Int32)) X dX3_acted_51 (by decide) ?_
        refine z_icmp_ge (tgt := 82) X dX3_acted_53 (by decide) (fun c_53 => ?_) (fun c_53 => ?_)
        · refine z_lv (lv' := [(0, .ref (o 0)), (1, .int a1)]) [0, 1] rfl ?_
          exact kk_50 M_50 (by simp only [L_M_acted_50, if_pos c_53]) 
        · refine z_aload_n X dX3_acted_56 0 rfl ?_
          refine zM_g3 X wd2_129 dX3_acted_57 ?_
          refine z_bipush (v := (55 : Int32)) X dX3_acted_60 (by decide) ?_
          refine z_aload_n X dX3_acted_62 0 rfl ?_
          refine zM_g4 X wd2_130 dX3_acted_63 ?_
          refine z_imul X dX3_acted_66 ?_
          refine z_iload_n X dX3_acted_67 2 rfl ?_
          refine z_iadd X dX3_acted_68 ?_
          refine z_aload_n X dX3_acted_69 0 rfl ?_
          refine zM_g1 X wd2_127 dX3_acted_70 ?_
          refine z_iload_n X dX3_acted_73 2 rfl ?_
          refine zM_l1 X (vin_k (cu_lt hi (by omega) rfl c_53) (by omega) (by omega)) rfl dX3_acted_74 ?_
          refine zM_s3 X (vin_h hm (cu_lt hi (by omega) rfl c_53)) rfl dX3_acted_75 (fun M_75 eM_75 => ?_)
          obtain ⟨v_76, ev_76⟩ : ∃ y : Int32, y = x2_50 + (1 : Int32) := ⟨_, rfl⟩
          refine z_iinc (v := v_76) (lv' := [(2, .int v_76), (0, .ref (o 0)), (1, .int a1)]) X dX3_acted_76 2 rfl (by rw [ev_76]; rfl) (Nat.le_of_ble_eq_true rfl) rfl ?_
          refine z_goto (tgt := 50) X dX3_acted_79 (by decide) ?_
          refine z_lv (lv' := [(0, .ref (o 0)), (1, .int a1), (2, .int v_76)]) [1, 2, 0] rfl ?_
          exact ih_50 v_76 M_75 (cu_b hi (by omega) rfl c_53 ev_76) (by rw [eM_75, sA_o _ _ _ _ (by decide)]; exact hm) (fun q_50 eq_50 => kk_50 q_50 (eq_50.trans (by subst eM_75 ev_76; simp only [L_M_acted_50, if_neg c_53])))
    refine Lp_50 56 (0 : Int32) j_48 (cu_i (by omega)) hj (fun q_50 eq_50 => ?_)
    refine z_aload_n X dX3_acted_82 0 rfl ?_
    refine z_dup X dX3_acted_83 rfl ?_
    refine zM_g4 X wd2_130 dX3_acted_84 ?_
    refine z_iconst (v := (1 : Int32)) X dX3_acted_87 (by decide) ?_
    refine z_iadd X dX3_acted_88 ?_
    refine zM_p4 X wd2_130 dX3_acted_89 (fun M_89 eM_89 => ?_)
    refine z_iload_n X dX3_acted_92 1 rfl ?_
    exact z_iret X hQ rfl (a1, M_89) rfl rfl (by subst ej_48 eq_50 eM_89; simp only [F_M_acted]) dX3_acted_93
  refine z_icmp_ne (tgt := 48) X dX3_acted_5 (by decide) (fun c_5 => ?_) (fun c_5 => ?_)
  · exact J_j_48 M (by simp only [if_neg c_5]) (bn_ne4 hh c_5)
  · refine z_iconst (v := (0 : Int32)) X dX3_acted_8 (by decide) ?_
    refine z_istore_n (lv' := [(2, .int (0 : Int32)), (0, .ref (o 0)), (1, .int a1)]) X dX3_acted_9 (Nat.le_of_ble_eq_true rfl) rfl ?_
    refine z_lv (lv' := [(0, .ref (o 0)), (1, .int a1), (2, .int (0 : Int32))]) [1, 2, 0] rfl ?_
    have Lp_10 : ∀ (n : Nat) (x2_10 : Int32) (M_10 : ARR), (cu 165 n x2_10) → (M_10 7 4 = M 7 4) → (∀ q_10 : ARR, q_10 = L_M_acted_10 n x2_10 M_10 → (q_10 7 4 = M 7 4) → Z p l e { frames := 0, cells := 0, slots := 0, locals := 0 } s m args below meth c D A 3 0 0 Q (wM kI o q_10) [(0, .ref (o 0)), (1, .int a1)] 38 []) → Z p l e { frames := 0, cells := 0, slots := 0, locals := 0 } s m args below meth c D A 3 0 0 Q (wM kI o M_10) [(0, .ref (o 0)), (1, .int a1), (2, .int x2_10)] 10 [] := by
      intro n
      induction n with
      | zero =>
        intro x2_10 M_10 hi hm kk_10
        exfalso
        exact cu_0 hi
      | succ n ih_10 =>
        intro x2_10 M_10 hi hm kk_10
        refine z_iload_n X dX3_acted_10 2 rfl ?_
        refine z_sipush (v := (165 : Int32)) X dX3_acted_11 (by decide) ?_
        refine z_icmp_ge (tgt := 38) X dX3_acted_14 (by decide) (fun c_14 => ?_) (fun c_14 => ?_)
        · refine z_lv (lv' := [(0, .ref (o 0)), (1, .int a1)]) [0, 1] rfl ?_
          exact kk_10 M_10 (by simp only [L_M_acted_10, if_pos c_14]) hm
        · refine z_aload_n X dX3_acted_17 0 rfl ?_
          refine zM_g3 X wd2_129 dX3_acted_18 ?_
          refine z_iload_n X dX3_acted_21 2 rfl ?_
          refine z_aload_n X dX3_acted_22 0 rfl ?_
          refine zM_g3 X wd2_129 dX3_acted_23 ?_
          refine z_iload_n X dX3_acted_26 2 rfl ?_
          refine z_bipush (v := (55 : Int32)) X dX3_acted_27 (by decide) ?_
          refine z_iadd X dX3_acted_29 ?_
          refine zM_l3 X (vin_r 55 (cu_lt hi (by omega) rfl c_14) (by omega) (by omega)) rfl dX3_acted_30 ?_
          refine zM_s3 X (vin_k (cu_lt hi (by omega) rfl c_14) (by omega) (by omega)) rfl dX3_acted_31 (fun M_31 eM_31 => ?_)
          obtain ⟨v_32, ev_32⟩ : ∃ y : Int32, y = x2_10 + (1 : Int32) := ⟨_, rfl⟩
          refine z_iinc (v := v_32) (lv' := [(2, .int v_32), (0, .ref (o 0)), (1, .int a1)]) X dX3_acted_32 2 rfl (by rw [ev_32]; rfl) (Nat.le_of_ble_eq_true rfl) rfl ?_
          refine z_goto (tgt := 10) X dX3_acted_35 (by decide) ?_
          refine z_lv (lv' := [(0, .ref (o 0)), (1, .int a1), (2, .int v_32)]) [1, 2, 0] rfl ?_
          exact ih_10 v_32 M_31 (cu_b hi (by omega) rfl c_14 ev_32) (by rw [eM_31, sA_o _ _ _ _ (by decide)]; exact hm) (fun q_10 eq_10 => kk_10 q_10 (eq_10.trans (by subst eM_31 ev_32; simp only [L_M_acted_10, if_neg c_14])))
    refine Lp_10 166 (0 : Int32) M (cu_i (by omega)) rfl (fun q_10 eq_10 ho => ?_)
    refine z_aload_n X dX3_acted_38 0 rfl ?_
    refine z_dup X dX3_acted_39 rfl ?_
    refine zM_g4 X wd2_130 dX3_acted_40 ?_
    refine z_iconst (v := (1 : Int32)) X dX3_acted_43 (by decide) ?_
    refine z_isub X dX3_acted_44 ?_
    refine zM_p4 X wd2_130 dX3_acted_45 (fun M_45 eM_45 => ?_)
    exact J_j_48 M_45 (by subst eq_10 eM_45; simp only [if_pos c_5]) (by rw [eM_45, sA_e, ho, c_5]; exact ⟨3, by omega, by omega, by decide⟩)
set_option maxRecDepth 100000 in
set_option maxHeartbeats 4000000 in
theorem c_M_addPath (l : Launch) (D : va_G) (kI kC kQ : ClassId) (o : Nat → Nat) (M : ARR) (a1 : Int32) (hI : IA (M 0)) (hh : bn 0 4 (M 7 4)) : CtI (U := Int32 × ARR) l yX3_addPath cX3_addPath 2 (some .int) { frames := 2, cells := 0, slots := 0, locals := 45 } D (tysG kI kC kQ) (wM kI o M) [.ref (o 0), .int a1] (fun u => u.1) (fun u => (wM kI o u.2)) (fun u => u = F_M_addPath M a1) := by
  refine met_Zi (own := "ShadowLatchesModel") (by decide +kernel) rfl (Nat.le_of_ble_eq_true rfl) ?_
  intro p e s m args below meth c A Q X hQ
  show Z p l e { frames := 2, cells := 0, slots := 0, locals := 45 } s m args below meth c D A 2 0 0 Q (wM kI o M) [(0, .ref (o 0)), (1, .int a1)] 0 []
  refine z_iload_n X dX3_addPath_0 1 rfl ?_
  refine z_callSiN X (c_M_isLength l D kI kC kQ a1) (gS wd2_167 wd2_168 wd1_4 wd2_169) k_M_isLength rfl rfl ⟨Nat.le_of_ble_eq_true rfl, Nat.le_of_ble_eq_true rfl⟩ ⟨Nat.zero_le _, Nat.zero_le _⟩ rfl rfl (Nat.le_of_ble_eq_true rfl) dX3_addPath_1 rfl (fun _ => rfl) (fun r_1 er_1 => ?_)
  refine z_if_ne (tgt := 10) X dX3_addPath_4 (by decide) (fun c_4 => ?_) (fun c_4 => ?_)
  · refine z_aload_n X dX3_addPath_10 0 rfl ?_
    refine zM_g0 X wd2_126 dX3_addPath_11 ?_
    refine z_bipush (v := (51 : Int32)) X dX3_addPath_14 (by decide) ?_
    refine zM_l0 X vi_51_55 cl_51 dX3_addPath_16 ?_
    refine z_bipush (v := (8 : Int32)) X dX3_addPath_17 (by decide) ?_
    refine z_icmp_ne (tgt := 25) X dX3_addPath_19 (by decide) (fun c_19 => ?_) (fun c_19 => ?_)
    · refine z_aload_n X dX3_addPath_25 0 rfl ?_
      refine z_callVv0 X (c_M_remember l D kI kC kQ o M) (gV wd2_175 wd2_177 wd0_10 wd1_4 wd2_178) k_M_remember rfl rfl ⟨Nat.le_of_ble_eq_true rfl, Nat.le_of_ble_eq_true rfl⟩ ⟨Nat.zero_le _, Nat.zero_le _⟩ 3 0 rfl rfl rfl rfl rfl (Nat.le_of_ble_eq_true rfl) dX3_addPath_26 (fun r_26 er_26 => ?_)
      refine z_aload_n X dX3_addPath_29 0 rfl ?_
      refine zM_g0 X wd2_126 dX3_addPath_30 ?_
      refine z_iconst (v := (0 : Int32)) X dX3_addPath_33 (by decide) ?_
      refine z_aload_n X dX3_addPath_34 0 rfl ?_
      refine zM_g0 X wd2_126 dX3_addPath_35 ?_
      refine z_bipush (v := (51 : Int32)) X dX3_addPath_38 (by decide) ?_
      refine zM_l0 X vi_51_55 cl_51 dX3_addPath_40 ?_
      refine z_iadd X dX3_addPath_41 ?_
      refine z_iload_n X dX3_addPath_42 1 rfl ?_
      refine zM_s0 X (vin_a 0 (by rw [er_26, rem_o M (by decide)]; exact bn_lt hI.p) (by omega) (by omega)) rfl dX3_addPath_43 (fun M_43 eM_43 => ?_)
      refine z_aload_n X dX3_addPath_44 0 rfl ?_
      refine zM_g0 X wd2_126 dX3_addPath_45 ?_
      refine z_bipush (v := (51 : Int32)) X dX3_addPath_48 (by decide) ?_
      refine z_dup2 X dX3_addPath_50 rfl rfl ?_
      refine zM_l0 X vi_51_55 cl_51 dX3_addPath_51 ?_
      refine z_iconst (v := (1 : Int32)) X dX3_addPath_52 (by decide) ?_
      refine z_iadd X dX3_addPath_53 ?_
      refine zM_s0 X vi_51_55 cl_51 dX3_addPath_54 (fun M_54 eM_54 => ?_)
      refine z_aload_n X dX3_addPath_55 0 rfl ?_
      refine z_aload_n X dX3_addPath_56 0 rfl ?_
      refine zM_g0 X wd2_126 dX3_addPath_57 ?_
      refine z_bipush (v := (51 : Int32)) X dX3_addPath_60 (by decide) ?_
      refine zM_l0 X vi_51_55 cl_51 dX3_addPath_62 ?_
      refine z_iconst (v := (1 : Int32)) X dX3_addPath_63 (by decide) ?_
      refine z_isub X dX3_addPath_64 ?_
      refine z_callVi0 X (c_M_acted l D kI kC kQ o M_54 ((M_54 0 51) - (1 : Int32)) (by rw [eM_54, sA_o _ _ _ _ (by decide), eM_43, sA_o _ _ _ _ (by decide), er_26, rem_o M (by decide)]; exact hh)) (gV wd2_182 wd2_184 wd0_11 wd1_4 wd2_185) k_M_acted rfl rfl ⟨Nat.le_of_ble_eq_true rfl, Nat.le_of_ble_eq_true rfl⟩ ⟨Nat.zero_le _, Nat.zero_le _⟩ 3 0 rfl rfl rfl rfl rfl (Nat.le_of_ble_eq_true rfl) dX3_addPath_65 (fun r_65 er_65 => ?_)
      exact z_iret X hQ rfl (r_65.1, r_65.2) rfl rfl (by subst er_1 er_26 eM_43 eM_54 er_65; simp only [F_M_addPath, if_neg c_4, if_neg c_19]) dX3_addPath_68
    · refine z_bipush (v := (-3 : Int32)) X dX3_addPath_22 (by decide) ?_
      exact z_iret X hQ rfl ((-3 : Int32), M) rfl rfl (by subst er_1; simp only [F_M_addPath, if_neg c_4, if_pos c_19]) dX3_addPath_24
  · refine z_bipush (v := (-2 : Int32)) X dX3_addPath_7 (by decide) ?_
    exact z_iret X hQ rfl ((-2 : Int32), M) rfl rfl (by subst er_1; simp only [F_M_addPath, if_pos c_4]) dX3_addPath_9
set_option maxRecDepth 100000 in
set_option maxHeartbeats 4000000 in
theorem c_M_sets (l : Launch) (D : va_G) (kI kC kQ : ClassId) (o : Nat → Nat) (M : ARR) (a1 : Int32) (a2 : Int32) (hi : vp_in a1 55) (hh : bn 0 4 (M 7 4)) : CtI (U := Int32 × ARR) l yX3_sets cX3_sets 4 (some .int) { frames := 2, cells := 0, slots := 0, locals := 42 } D (tysG kI kC kQ) (wM kI o M) [.ref (o 0), .int a1, .int a2] (fun u => u.1) (fun u => (wM kI o u.2)) (fun u => u = F_M_sets M a1 a2) := by
  refine met_Zi (own := "ShadowLatchesModel") (by decide +kernel) rfl (Nat.le_of_ble_eq_true rfl) ?_
  intro p e s m args below meth c A Q X hQ
  show Z p l e { frames := 2, cells := 0, slots := 0, locals := 42 } s m args below meth c D A 4 0 0 Q (wM kI o M) [(0, .ref (o 0)), (1, .int a1), (2, .int a2)] 0 []
  refine z_aload_n X dX3_sets_0 0 rfl ?_
  refine zM_g0 X wd2_126 dX3_sets_1 ?_
  refine z_iload_n X dX3_sets_4 1 rfl ?_
  refine zM_l0 X hi rfl dX3_sets_5 ?_
  refine z_topi (fun v_6 ev_6 => ?_)
  refine z_istore_n (lv' := [(3, .int v_6), (0, .ref (o 0)), (1, .int a1), (2, .int a2)]) X dX3_sets_6 (Nat.le_of_ble_eq_true rfl) rfl ?_
  refine z_iload_n X dX3_sets_7 0 rfl ?_
  refine z_iload_n X dX3_sets_8 3 rfl ?_
  refine z_icmp_ne (tgt := 15) X dX3_sets_9 (by decide) (fun c_9 => ?_) (fun c_9 => ?_)
  · refine z_aload_n X dX3_sets_15 1 rfl ?_
    refine z_callVv0 X (c_M_remember l D kI kC kQ o M) (gV wd2_175 wd2_177 wd0_10 wd1_4 wd2_178) k_M_remember rfl rfl ⟨Nat.le_of_ble_eq_true rfl, Nat.le_of_ble_eq_true rfl⟩ ⟨Nat.zero_le _, Nat.zero_le _⟩ 3 0 rfl rfl rfl rfl rfl (Nat.le_of_ble_eq_true rfl) dX3_sets_16 (fun r_16 er_16 => ?_)
    refine z_aload_n X dX3_sets_19 1 rfl ?_
    refine zM_g0 X wd2_126 dX3_sets_20 ?_
    refine z_iload_n X dX3_sets_23 2 rfl ?_
    refine z_iload_n X dX3_sets_24 3 rfl ?_
    refine zM_s0 X hi rfl dX3_sets_25 (fun M_25 eM_25 => ?_)
    refine z_aload_n X dX3_sets_26 1 rfl ?_
    refine z_iload_n X dX3_sets_27 0 rfl ?_
    refine z_callVi0 X (c_M_acted l D kI kC kQ o M_25 v_6 (by rw [eM_25, sA_o _ _ _ _ (by decide), er_16, rem_o M (by decide)]; exact hh)) (gV wd2_182 wd2_184 wd0_11 wd1_4 wd2_185) k_M_acted rfl rfl ⟨Nat.le_of_ble_eq_true rfl, Nat.le_of_ble_eq_true rfl⟩ ⟨Nat.zero_le _, Nat.zero_le _⟩ 3 0 rfl rfl rfl rfl rfl (Nat.le_of_ble_eq_true rfl) dX3_sets_28 (fun r_28 er_28 => ?_)
    exact z_iret X hQ rfl (r_28.1, r_28.2) rfl rfl (by subst ev_6 er_16 eM_25 er_28; simp only [F_M_sets, if_neg c_9]) dX3_sets_31
  · refine z_bipush (v := (-5 : Int32)) X dX3_sets_12 (by decide) ?_
    exact z_iret X hQ rfl ((-5 : Int32), M) rfl rfl (by subst ev_6; simp only [F_M_sets, if_pos c_9]) dX3_sets_14
set_option maxRecDepth 100000 in
set_option maxHeartbeats 4000000 in
theorem c_M_setLength (l : Launch) (D : va_G) (kI kC kQ : ClassId) (o : Nat → Nat) (M : ARR) (a1 : Int32) (a2 : Int32) (hI : IA (M 0)) (hh : bn 0 4 (M 7 4)) : CtI (U := Int32 × ARR) l yX3_setLength cX3_setLength 3 (some .int) { frames := 3, cells := 0, slots := 0, locals := 65 } D (tysG kI kC kQ) (wM kI o M) [.ref (o 0), .int a1, .int a2] (fun u => u.1) (fun u => (wM kI o u.2)) (fun u => u = F_M_setLength M a1 a2) := by
  refine met_Zi (own := "ShadowLatchesModel") (by decide +kernel) rfl (Nat.le_of_ble_eq_true rfl) ?_
  intro p e s m args below meth c A Q X hQ
  show Z p l e { frames := 3, cells := 0, slots := 0, locals := 65 } s m args below meth c D A 3 0 0 Q (wM kI o M) [(0, .ref (o 0)), (1, .int a1), (2, .int a2)] 0 []
  refine z_aload_n X dX3_setLength_0 0 rfl ?_
  refine z_iload_n X dX3_setLength_1 1 rfl ?_
  refine z_callVi0 X (c_M_isPath l D kI kC kQ o M a1) (gV wd2_190 wd2_192 wd0_12 wd1_4 wd2_193) k_M_isPath rfl rfl ⟨Nat.le_of_ble_eq_true rfl, Nat.le_of_ble_eq_true rfl⟩ ⟨Nat.zero_le _, Nat.zero_le _⟩ 3 0 rfl rfl rfl rfl rfl (Nat.le_of_ble_eq_true rfl) dX3_setLength_2 (fun r_2 er_2 => ?_)
  refine z_if_ne (tgt := 10) X dX3_setLength_5 (by decide) (fun c_5 => ?_) (fun c_5 => ?_)
  · refine z_iload_n X dX3_setLength_10 2 rfl ?_
    refine z_callSiN X (c_M_isLength l D kI kC kQ a2) (gS wd2_167 wd2_168 wd1_4 wd2_169) k_M_isLength rfl rfl ⟨Nat.le_of_ble_eq_true rfl, Nat.le_of_ble_eq_true rfl⟩ ⟨Nat.zero_le _, Nat.zero_le _⟩ rfl rfl (Nat.le_of_ble_eq_true rfl) dX3_setLength_11 rfl (fun _ => rfl) (fun r_11 er_11 => ?_)
    have J_j_30 : ∀ (j_30 : Int32 × ARR), j_30 = (if r_11 = (0 : Int32) then (((-2 : Int32), M)) else (let r_22 : Int32 × ARR := (F_M_sets M ((0 : Int32) + a1) a2); (r_22.1, r_22.2))) → Z p l e { frames := 3, cells := 0, slots := 0, locals := 65 } s m args below meth c D A 3 0 0 Q (wM kI o j_30.2) [] 30 [.int j_30.1] := by
      intro j_30 ej_30
      exact z_iret X hQ rfl (j_30.1, j_30.2) rfl rfl (by subst er_2 er_11 ej_30; simp only [F_M_setLength, if_neg c_5]) dX3_setLength_30
    refine z_if_eq (tgt := 28) X dX3_setLength_14 (by decide) (fun c_14 => ?_) (fun c_14 => ?_)
    · refine z_bipush (v := (-2 : Int32)) X dX3_setLength_28 (by decide) ?_
      refine z_lv (lv' := []) [] rfl ?_
      exact J_j_30 ((-2 : Int32), M) (by simp only [if_pos c_14])
    · refine z_aload_n X dX3_setLength_17 0 rfl ?_
      refine z_iconst (v := (0 : Int32)) X dX3_setLength_18 (by decide) ?_
      refine z_iload_n X dX3_setLength_19 1 rfl ?_
      refine z_iadd X dX3_setLength_20 ?_
      refine z_iload_n X dX3_setLength_21 2 rfl ?_
      refine z_callVi0 X (c_M_sets l D kI kC kQ o M ((0 : Int32) + a1) a2 (vin_a 0 (isPath_lt hI.p er_2 c_5) (by omega) (by omega)) hh) (gV wd2_194 wd2_196 wd0_13 wd1_4 wd2_197) k_M_sets rfl rfl ⟨Nat.le_of_ble_eq_true rfl, Nat.le_of_ble_eq_true rfl⟩ ⟨Nat.zero_le _, Nat.zero_le _⟩ 3 0 rfl rfl rfl rfl rfl (Nat.le_of_ble_eq_true rfl) dX3_setLength_22 (fun r_22 er_22 => ?_)
      refine z_goto (tgt := 30) X dX3_setLength_25 (by decide) ?_
      refine z_lv (lv' := []) [] rfl ?_
      exact J_j_30 (r_22.1, r_22.2) (by subst er_22; simp only [if_neg c_14])
  · refine z_iconst (v := (-1 : Int32)) X dX3_setLength_8 (by decide) ?_
    exact z_iret X hQ rfl ((-1 : Int32), M) rfl rfl (by subst er_2; simp only [F_M_setLength, if_pos c_5]) dX3_setLength_9
set_option maxRecDepth 100000 in
set_option maxHeartbeats 4000000 in
theorem c_M_setVoltage (l : Launch) (D : va_G) (kI kC kQ : ClassId) (o : Nat → Nat) (M : ARR) (a1 : Int32) (hh : bn 0 4 (M 7 4)) : CtI (U := Int32 × ARR) l yX3_setVoltage cX3_setVoltage 2 (some .int) { frames := 3, cells := 0, slots := 0, locals := 65 } D (tysG kI kC kQ) (wM kI o M) [.ref (o 0), .int a1] (fun u => u.1) (fun u => (wM kI o u.2)) (fun u => u = F_M_setVoltage M a1) := by
  refine met_Zi (own := "ShadowLatchesModel") (by decide +kernel) rfl (Nat.le_of_ble_eq_true rfl) ?_
  intro p e s m args below meth c A Q X hQ
  show Z p l e { frames := 3, cells := 0, slots := 0, locals := 65 } s m args below meth c D A 2 0 0 Q (wM kI o M) [(0, .ref (o 0)), (1, .int a1)] 0 []
  refine z_iload_n X dX3_setVoltage_0 1 rfl ?_
  refine z_callSiN X (c_M_isVoltage l D kI kC kQ a1) (gS wd3_3 wd3_4 wd1_4 wd3_5) k_M_isVoltage rfl rfl ⟨Nat.le_of_ble_eq_true rfl, Nat.le_of_ble_eq_true rfl⟩ ⟨Nat.zero_le _, Nat.zero_le _⟩ rfl rfl (Nat.le_of_ble_eq_true rfl) dX3_setVoltage_1 rfl (fun _ => rfl) (fun r_1 er_1 => ?_)
  have J_j_19 : ∀ (j_19 : Int32 × ARR), j_19 = (if r_1 = (0 : Int32) then (((-2 : Int32), M)) else (let r_11 : Int32 × ARR := (F_M_sets M (39 : Int32) a1); (r_11.1, r_11.2))) → Z p l e { frames := 3, cells := 0, slots := 0, locals := 65 } s m args below meth c D A 2 0 0 Q (wM kI o j_19.2) [] 19 [.int j_19.1] := by
    intro j_19 ej_19
    exact z_iret X hQ rfl (j_19.1, j_19.2) rfl rfl (by subst er_1 ej_19; simp only [F_M_setVoltage]) dX3_setVoltage_19
  refine z_if_eq (tgt := 17) X dX3_setVoltage_4 (by decide) (fun c_4 => ?_) (fun c_4 => ?_)
  · refine z_bipush (v := (-2 : Int32)) X dX3_setVoltage_17 (by decide) ?_
    refine z_lv (lv' := []) [] rfl ?_
    exact J_j_19 ((-2 : Int32), M) (by simp only [if_pos c_4])
  · refine z_aload_n X dX3_setVoltage_7 0 rfl ?_
    refine z_bipush (v := (39 : Int32)) X dX3_setVoltage_8 (by decide) ?_
    refine z_iload_n X dX3_setVoltage_10 1 rfl ?_
    refine z_callVi0 X (c_M_sets l D kI kC kQ o M (39 : Int32) a1 vi_39_55 hh) (gV wd2_194 wd2_196 wd0_13 wd1_4 wd2_197) k_M_sets rfl rfl ⟨Nat.le_of_ble_eq_true rfl, Nat.le_of_ble_eq_true rfl⟩ ⟨Nat.zero_le _, Nat.zero_le _⟩ 3 0 rfl rfl rfl rfl rfl (Nat.le_of_ble_eq_true rfl) dX3_setVoltage_11 (fun r_11 er_11 => ?_)
    refine z_goto (tgt := 19) X dX3_setVoltage_14 (by decide) ?_
    refine z_lv (lv' := []) [] rfl ?_
    exact J_j_19 (r_11.1, r_11.2) (by subst er_11; simp only [if_neg c_4])
set_option maxRecDepth 100000 in
set_option maxHeartbeats 4000000 in
theorem c_M_set (l : Launch) (D : va_G) (kI kC kQ : ClassId) (o : Nat → Nat) (M : ARR) (a1 : Int32) (a2 : Int32) (hh : bn 0 4 (M 7 4)) : CtI (U := Int32 × ARR) l yX3_set cX3_set 3 (some .int) { frames := 3, cells := 0, slots := 0, locals := 65 } D (tysG kI kC kQ) (wM kI o M) [.ref (o 0), .int a1, .int a2] (fun u => u.1) (fun u => (wM kI o u.2)) (fun u => u = F_M_set M a1 a2) := by
  refine met_Zi (own := "ShadowLatchesModel") (by decide +kernel) rfl (Nat.le_of_ble_eq_true rfl) ?_
  intro p e s m args below meth c A Q X hQ
  show Z p l e { frames := 3, cells := 0, slots := 0, locals := 65 } s m args below meth c D A 3 0 0 Q (wM kI o M) [(0, .ref (o 0)), (1, .int a1), (2, .int a2)] 0 []
  refine z_iload_n X dX3_set_0 1 rfl ?_
  refine z_iload_n X dX3_set_1 2 rfl ?_
  refine z_callSiN X (c_M_isSetting l D kI kC kQ a1 a2) (gS wd3_16 wd3_17 wd1_4 wd3_18) k_M_isSetting rfl rfl ⟨Nat.le_of_ble_eq_true rfl, Nat.le_of_ble_eq_true rfl⟩ ⟨Nat.zero_le _, Nat.zero_le _⟩ rfl rfl (Nat.le_of_ble_eq_true rfl) dX3_set_2 rfl (fun _ => rfl) (fun r_2 er_2 => ?_)
  have J_j_22 : ∀ (j_22 : Int32 × ARR), j_22 = (if r_2 = (0 : Int32) then (((-2 : Int32), M)) else (let r_14 : Int32 × ARR := (F_M_sets M ((32 : Int32) + a1) a2); (r_14.1, r_14.2))) → Z p l e { frames := 3, cells := 0, slots := 0, locals := 65 } s m args below meth c D A 3 0 0 Q (wM kI o j_22.2) [] 22 [.int j_22.1] := by
    intro j_22 ej_22
    exact z_iret X hQ rfl (j_22.1, j_22.2) rfl rfl (by subst er_2 ej_22; simp only [F_M_set]) dX3_set_22
  refine z_if_eq (tgt := 20) X dX3_set_5 (by decide) (fun c_5 => ?_) (fun c_5 => ?_)
  · refine z_bipush (v := (-2 : Int32)) X dX3_set_20 (by decide) ?_
    refine z_lv (lv' := []) [] rfl ?_
    exact J_j_22 ((-2 : Int32), M) (by simp only [if_pos c_5])
  · refine z_aload_n X dX3_set_8 0 rfl ?_
    refine z_bipush (v := (32 : Int32)) X dX3_set_9 (by decide) ?_
    refine z_iload_n X dX3_set_11 1 rfl ?_
    refine z_iadd X dX3_set_12 ?_
    refine z_iload_n X dX3_set_13 2 rfl ?_
    refine z_callVi0 X (c_M_sets l D kI kC kQ o M ((32 : Int32) + a1) a2 (vin_a 32 (isSetting_lt er_2 c_5) (by omega) (by omega)) hh) (gV wd2_194 wd2_196 wd0_13 wd1_4 wd2_197) k_M_sets rfl rfl ⟨Nat.le_of_ble_eq_true rfl, Nat.le_of_ble_eq_true rfl⟩ ⟨Nat.zero_le _, Nat.zero_le _⟩ 3 0 rfl rfl rfl rfl rfl (Nat.le_of_ble_eq_true rfl) dX3_set_14 (fun r_14 er_14 => ?_)
    refine z_goto (tgt := 22) X dX3_set_17 (by decide) ?_
    refine z_lv (lv' := []) [] rfl ?_
    exact J_j_22 (r_14.1, r_14.2) (by subst er_14; simp only [if_neg c_5])
set_option maxRecDepth 100000 in
set_option maxHeartbeats 4000000 in
theorem c_M_begins (l : Launch) (D : va_G) (kI kC kQ : ClassId) (o : Nat → Nat) (M : ARR) (a1 : Int32) (hm : bn 0 16 a1) : CtV (U := ARR) l yX3_begins cX3_begins 3 none { frames := 0, cells := 0, slots := 0, locals := 0 } D (tysG kI kC kQ) (wM kI o M) [.ref (o 0), .int a1] (fun u => (wM kI o u)) (fun u => u = F_M_begins M a1) := by
  refine met_Zv (own := "ShadowLatchesModel") (by decide +kernel) rfl (Nat.le_of_ble_eq_true rfl) ?_
  intro p e s m args below meth c A Q X hQ
  show Z p l e { frames := 0, cells := 0, slots := 0, locals := 0 } s m args below meth c D A 3 0 0 Q (wM kI o M) [(0, .ref (o 0)), (1, .int a1)] 0 []
  refine z_aload_n X dX3_begins_0 0 rfl ?_
  refine zM_g0 X wd2_126 dX3_begins_1 ?_
  refine z_bipush (v := (49 : Int32)) X dX3_begins_4 (by decide) ?_
  refine z_iload_n X dX3_begins_6 1 rfl ?_
  refine zM_s0 X vi_49_55 cl_49 dX3_begins_7 (fun M_7 eM_7 => ?_)
  refine z_aload_n X dX3_begins_8 0 rfl ?_
  refine zM_g0 X wd2_126 dX3_begins_9 ?_
  refine z_bipush (v := (50 : Int32)) X dX3_begins_12 (by decide) ?_
  refine z_iconst (v := (0 : Int32)) X dX3_begins_14 (by decide) ?_
  refine zM_s0 X vi_50_55 cl_50 dX3_begins_15 (fun M_15 eM_15 => ?_)
  refine z_iload_n X dX3_begins_16 1 rfl ?_
  refine z_istore_n (lv' := [(2, .int a1), (0, .ref (o 0)), (1, .int a1)]) X dX3_begins_17 (Nat.le_of_ble_eq_true rfl) rfl ?_
  refine z_lv (lv' := [(0, .ref (o 0)), (2, .int a1)]) [1, 0] rfl ?_
  have Lp_18 : ∀ (n : Nat) (x2_18 : Int32) (M_18 : ARR), (cu 16 n x2_18) → (∀ q_18 : ARR, q_18 = L_M_begins_18 n x2_18 M_18 → Z p l e { frames := 0, cells := 0, slots := 0, locals := 0 } s m args below meth c D A 3 0 0 Q (wM kI o q_18) [] 40 []) → Z p l e { frames := 0, cells := 0, slots := 0, locals := 0 } s m args below meth c D A 3 0 0 Q (wM kI o M_18) [(0, .ref (o 0)), (2, .int x2_18)] 18 [] := by
    intro n
    induction n with
    | zero =>
      intro x2_18 M_18 hi kk_18
      exfalso
      exact cu_0 hi
    | succ n ih_18 =>
      intro x2_18 M_18 hi kk_18
      refine z_iload_n X dX3_begins_18 1 rfl ?_
      refine z_bipush (v := (16 : Int32)) X dX3_begins_19 (by decide) ?_
      refine z_icmp_ge (tgt := 40) X dX3_begins_21 (by decide) (fun c_21 => ?_) (fun c_21 => ?_)
      · refine z_lv (lv' := []) [] rfl ?_
        exact kk_18 M_18 (by simp only [L_M_begins_18, if_pos c_21]) 
      · refine z_aload_n X dX3_begins_24 0 rfl ?_
        refine zM_g0 X wd2_126 dX3_begins_25 ?_
        refine z_bipush (v := (16 : Int32)) X dX3_begins_28 (by decide) ?_
        refine z_iload_n X dX3_begins_30 1 rfl ?_
        refine z_iadd X dX3_begins_31 ?_
        refine z_iconst (v := (0 : Int32)) X dX3_begins_32 (by decide) ?_
        refine zM_s0 X (vin_a 16 (cu_lt hi (by omega) rfl c_21) (by omega) (by omega)) rfl dX3_begins_33 (fun M_33 eM_33 => ?_)
        obtain ⟨v_34, ev_34⟩ : ∃ y : Int32, y = x2_18 + (1 : Int32) := ⟨_, rfl⟩
        refine z_iinc (v := v_34) (lv' := [(2, .int v_34), (0, .ref (o 0))]) X dX3_begins_34 1 rfl (by rw [ev_34]; rfl) (Nat.le_of_ble_eq_true rfl) rfl ?_
        refine z_goto (tgt := 18) X dX3_begins_37 (by decide) ?_
        refine z_lv (lv' := [(0, .ref (o 0)), (2, .int v_34)]) [1, 0] rfl ?_
        exact ih_18 v_34 M_33 (cu_b hi (by omega) rfl c_21 ev_34) (fun q_18 eq_18 => kk_18 q_18 (eq_18.trans (by subst eM_33 ev_34; simp only [L_M_begins_18, if_neg c_21])))
  refine Lp_18 17 a1 M_15 (by obtain ⟨k, _, h2, h3⟩ := hm; exact ⟨k, h3, h2, by omega⟩) (fun q_18 eq_18 => ?_)
  exact z_vret X hQ rfl q_18 rfl (by subst eM_7 eM_15 eq_18; simp only [F_M_begins]) dX3_begins_40
set_option maxRecDepth 100000 in
set_option maxHeartbeats 4000000 in
theorem c_M_layWorkload (l : Launch) (D : va_G) (kI kC kQ : ClassId) (o : Nat → Nat) (M : ARR) (a1 : Int32) (a2 : Int32) (hI : IA (M 0)) (hh : bn 0 4 (M 7 4)) : CtI (U := Int32 × ARR) l yX3_layWorkload cX3_layWorkload 6 (some .int) { frames := 2, cells := 0, slots := 0, locals := 42 } D (tysG kI kC kQ) (wM kI o M) [.ref (o 0), .int a1, .int a2] (fun u => u.1) (fun u => (wM kI o u.2)) (fun u => u = F_M_layWorkload M a1 a2) := by
  refine met_Zi (own := "ShadowLatchesModel") (by decide +kernel) rfl (Nat.le_of_ble_eq_true rfl) ?_
  intro p e s m args below meth c A Q X hQ
  show Z p l e { frames := 2, cells := 0, slots := 0, locals := 42 } s m args below meth c D A 6 0 0 Q (wM kI o M) [(0, .ref (o 0)), (1, .int a1), (2, .int a2)] 0 []
  obtain ⟨P, hP1, hP2, hP⟩ := hI.p
  refine z_iload_n X dX3_layWorkload_0 1 rfl ?_
  refine z_i2l X dX3_layWorkload_1 ?_
  refine z_lconst (v := (1 : Int64)) X dX3_layWorkload_2 (by decide) ?_
  refine z_ldc2 X dX3_layWorkload_3 wd2_202 ?_
  refine z_callSiN X (c_M_in l D kI kC kQ (a1.toInt64) (1 : Int64) (16 : Int64)) (gS wd2_172 wd2_173 wd1_4 wd2_174) k_M_in rfl rfl ⟨Nat.le_of_ble_eq_true rfl, Nat.le_of_ble_eq_true rfl⟩ ⟨Nat.zero_le _, Nat.zero_le _⟩ rfl rfl (Nat.le_of_ble_eq_true rfl) dX3_layWorkload_6 rfl (fun _ => rfl) (fun r_6 er_6 => ?_)
  refine z_if_eq (tgt := 24) X dX3_layWorkload_9 (by decide) (fun c_9 => ?_) (fun c_9 => ?_)
  · refine z_bipush (v := (-2 : Int32)) X dX3_layWorkload_24 (by decide) ?_
    exact z_iret X hQ rfl ((-2 : Int32), M) rfl rfl (by subst er_6; simp only [F_M_layWorkload, if_pos c_9]) dX3_layWorkload_26
  · refine z_iload_n X dX3_layWorkload_12 2 rfl ?_
    refine z_i2l X dX3_layWorkload_13 ?_
    refine z_lconst (v := (0 : Int64)) X dX3_layWorkload_14 (by decide) ?_
    refine z_ldc2 X dX3_layWorkload_15 wd2_203 ?_
    refine z_callSiN X (c_M_in l D kI kC kQ (a2.toInt64) (0 : Int64) (9999 : Int64)) (gS wd2_172 wd2_173 wd1_4 wd2_174) k_M_in rfl rfl ⟨Nat.le_of_ble_eq_true rfl, Nat.le_of_ble_eq_true rfl⟩ ⟨Nat.zero_le _, Nat.zero_le _⟩ rfl rfl (Nat.le_of_ble_eq_true rfl) dX3_layWorkload_18 rfl (fun _ => rfl) (fun r_18 er_18 => ?_)
    refine z_if_ne (tgt := 27) X dX3_layWorkload_21 (by decide) (fun c_21 => ?_) (fun c_21 => ?_)
    · refine z_aload_n X dX3_layWorkload_27 0 rfl ?_
      refine z_callVv0 X (c_M_remember l D kI kC kQ o M) (gV wd2_175 wd2_177 wd0_10 wd1_4 wd2_178) k_M_remember rfl rfl ⟨Nat.le_of_ble_eq_true rfl, Nat.le_of_ble_eq_true rfl⟩ ⟨Nat.zero_le _, Nat.zero_le _⟩ 3 0 rfl rfl rfl rfl rfl (Nat.le_of_ble_eq_true rfl) dX3_layWorkload_28 (fun r_28 er_28 => ?_)
      obtain ⟨N, hN1, hN2, hN⟩ := in_bn 1 16 (by omega) er_6 c_9
      refine z_iload_n X dX3_layWorkload_31 2 rfl ?_
      refine z_istore_n (lv' := [(3, .int a2), (0, .ref (o 0)), (1, .int a1), (2, .int a2)]) X dX3_layWorkload_32 (Nat.le_of_ble_eq_true rfl) rfl ?_
      refine z_iconst (v := (0 : Int32)) X dX3_layWorkload_33 (by decide) ?_
      refine z_istore (lv' := [(4, .int (0 : Int32)), (3, .int a2), (0, .ref (o 0)), (1, .int a1), (2, .int a2)]) X dX3_layWorkload_34 (Nat.le_of_ble_eq_true rfl) rfl ?_
      refine z_iconst (v := (0 : Int32)) X dX3_layWorkload_36 (by decide) ?_
      refine z_istore (lv' := [(5, .int (0 : Int32)), (4, .int (0 : Int32)), (3, .int a2), (0, .ref (o 0)), (1, .int a1), (2, .int a2)]) X dX3_layWorkload_37 (Nat.le_of_ble_eq_true rfl) rfl ?_
      refine z_lv (lv' := [(0, .ref (o 0)), (1, .int a1), (3, .int a2), (4, .int (0 : Int32)), (5, .int (0 : Int32))]) [3, 4, 2, 1, 0] rfl ?_
      have Lp_39 : ∀ (n : Nat) (x3_39 : Int32) (x4_39 : Int32) (x5_39 : Int32) (M_39 : ARR), (cu N n x5_39) → (bn 0 9999 x3_39) → (M_39 0 51 = nI P) → (M_39 7 4 = M 7 4) → (∀ q_39 : Int32 × ARR, q_39 = L_M_layWorkload_39 a1 n x3_39 x4_39 x5_39 M_39 → (q_39.2 7 4 = M 7 4) → Z p l e { frames := 2, cells := 0, slots := 0, locals := 42 } s m args below meth c D A 6 0 0 Q (wM kI o q_39.2) [(0, .ref (o 0)), (1, .int a1), (4, .int q_39.1)] 107 []) → Z p l e { frames := 2, cells := 0, slots := 0, locals := 42 } s m args below meth c D A 6 0 0 Q (wM kI o M_39) [(0, .ref (o 0)), (1, .int a1), (3, .int x3_39), (4, .int x4_39), (5, .int x5_39)] 39 [] := by
        intro n
        induction n with
        | zero =>
          intro x3_39 x4_39 x5_39 M_39 hi hx hp hm kk_39
          exfalso
          exact cu_0 hi
        | succ n ih_39 =>
          intro x3_39 x4_39 x5_39 M_39 hi hx hp hm kk_39
          refine z_iload X dX3_layWorkload_39 4 rfl ?_
          refine z_iload_n X dX3_layWorkload_41 1 rfl ?_
          refine z_icmp_ge (tgt := 107) X dX3_layWorkload_42 (by decide) (fun c_42 => ?_) (fun c_42 => ?_)
          · refine z_lv (lv' := [(0, .ref (o 0)), (1, .int a1), (4, .int x4_39)]) [0, 1, 3] rfl ?_
            exact kk_39 (x4_39, M_39) (by simp only [L_M_layWorkload_39, if_pos c_42]) hm
          · refine z_sipush (v := (421 : Int32)) X dX3_layWorkload_45 (by decide) ?_
            refine z_iload_n X dX3_layWorkload_48 2 rfl ?_
            refine z_imul X dX3_layWorkload_49 ?_
            refine z_sipush (v := (1663 : Int32)) X dX3_layWorkload_50 (by decide) ?_
            refine z_iadd X dX3_layWorkload_53 ?_
            refine z_sipush (v := (10000 : Int32)) X dX3_layWorkload_54 (by decide) ?_
            refine z_irem X dX3_layWorkload_57 (by decide) ?_
            refine z_topi (fun v_58 ev_58 => ?_)
            refine z_istore_n (lv' := [(3, .int v_58), (0, .ref (o 0)), (1, .int a1), (4, .int x4_39), (5, .int x5_39)]) X dX3_layWorkload_58 (Nat.le_of_ble_eq_true rfl) rfl ?_
            refine z_aload_n X dX3_layWorkload_59 1 rfl ?_
            refine zM_g0 X wd2_126 dX3_layWorkload_60 ?_
            refine z_bipush (v := (16 : Int32)) X dX3_layWorkload_63 (by decide) ?_
            refine z_iload X dX3_layWorkload_65 4 rfl ?_
            refine z_iadd X dX3_layWorkload_67 ?_
            refine z_iload_n X dX3_layWorkload_68 0 rfl ?_
            refine z_bipush (v := (16 : Int32)) X dX3_layWorkload_69 (by decide) ?_
            refine z_idiv X dX3_layWorkload_71 (by decide) ?_
            refine z_iconst (v := (1 : Int32)) X dX3_layWorkload_72 (by decide) ?_
            refine z_aload_n X dX3_layWorkload_73 1 rfl ?_
            refine zM_g0 X wd2_126 dX3_layWorkload_74 ?_
            refine z_bipush (v := (51 : Int32)) X dX3_layWorkload_77 (by decide) ?_
            refine zM_l0 X vi_51_55 cl_51 dX3_layWorkload_79 ?_
            refine z_ishl X dX3_layWorkload_80 ?_
            refine z_irem X dX3_layWorkload_81 (lay_d hP2 hp) ?_
            refine zM_s0 X (vin_a 16 (cu_lt hi (by omega) hN c_42) (by omega) (by omega)) rfl dX3_layWorkload_82 (fun M_82 eM_82 => ?_)
            refine z_iload X dX3_layWorkload_83 3 rfl ?_
            refine z_aload_n X dX3_layWorkload_85 1 rfl ?_
            refine zM_g0 X wd2_126 dX3_layWorkload_86 ?_
            refine z_bipush (v := (16 : Int32)) X dX3_layWorkload_89 (by decide) ?_
            refine z_iload X dX3_layWorkload_91 4 rfl ?_
            refine z_iadd X dX3_layWorkload_93 ?_
            refine zM_l0 X (vin_a 16 (cu_lt hi (by omega) hN c_42) (by omega) (by omega)) rfl dX3_layWorkload_94 ?_
            refine z_callSiN X (c_M_many l D kI kC kQ (M_82 0 (((16 : Int32) + x5_39).toNatClampNeg)) (by rw [eM_82, sA_e, ev_58]; exact lay_s hP1 hP2 hp (lay_v hx))) (gS wd2_204 wd2_205 wd1_4 wd2_206) k_M_many rfl rfl ⟨Nat.le_of_ble_eq_true rfl, Nat.le_of_ble_eq_true rfl⟩ ⟨Nat.zero_le _, Nat.zero_le _⟩ rfl rfl (Nat.le_of_ble_eq_true rfl) dX3_layWorkload_95 rfl (fun _ => rfl) (fun r_95 er_95 => ?_)
            refine z_iadd X dX3_layWorkload_98 ?_
            refine z_topi (fun v_99 ev_99 => ?_)
            refine z_istore (lv' := [(4, .int v_99), (3, .int v_58), (0, .ref (o 0)), (1, .int a1), (5, .int x5_39)]) X dX3_layWorkload_99 (Nat.le_of_ble_eq_true rfl) rfl ?_
            obtain ⟨v_101, ev_101⟩ : ∃ y : Int32, y = x5_39 + (1 : Int32) := ⟨_, rfl⟩
            refine z_iinc (v := v_101) (lv' := [(5, .int v_101), (4, .int v_99), (3, .int v_58), (0, .ref (o 0)), (1, .int a1)]) X dX3_layWorkload_101 4 rfl (by rw [ev_101]; rfl) (Nat.le_of_ble_eq_true rfl) rfl ?_
            refine z_goto (tgt := 39) X dX3_layWorkload_104 (by decide) ?_
            refine z_lv (lv' := [(0, .ref (o 0)), (1, .int a1), (3, .int v_58), (4, .int v_99), (5, .int v_101)]) [3, 4, 2, 1, 0] rfl ?_
            exact ih_39 v_58 v_99 v_101 M_82 (cu_b hi (by omega) hN c_42 ev_101) (by rw [ev_58]; exact lay_v hx) (by rw [eM_82, sA_ne _ _ _ _ (lay_ne hN2 (cu_lt hi (by omega) hN c_42))]; exact hp) (by rw [eM_82, sA_o _ _ _ _ (by decide)]; exact hm) (fun q_39 eq_39 => kk_39 q_39 (eq_39.trans (by subst ev_58 eM_82 er_95 ev_99 ev_101; simp only [L_M_layWorkload_39, if_neg c_42])))
      refine Lp_39 17 a2 (0 : Int32) (0 : Int32) r_28 (cu_i (by omega)) (in_bn 0 9999 (by omega) er_18 c_21) (by rw [er_28, rem_o M (by decide)]; exact hP) (by rw [er_28, rem_o M (by decide)]) (fun q_39 eq_39 ho => ?_)
      refine z_aload_n X dX3_layWorkload_107 0 rfl ?_
      refine z_iload_n X dX3_layWorkload_108 1 rfl ?_
      refine z_callVv0 X (c_M_begins l D kI kC kQ o q_39.2 a1 (bn_w ⟨N, hN1, hN2, hN⟩ (by omega) (by omega))) (gV wd2_207 wd2_209 wd0_14 wd1_4 wd2_210) k_M_begins rfl rfl ⟨Nat.le_of_ble_eq_true rfl, Nat.le_of_ble_eq_true rfl⟩ ⟨Nat.zero_le _, Nat.zero_le _⟩ 3 0 rfl rfl rfl rfl rfl (Nat.le_of_ble_eq_true rfl) dX3_layWorkload_109 (fun r_109 er_109 => ?_)
      refine z_aload_n X dX3_layWorkload_112 0 rfl ?_
      refine z_iload X dX3_layWorkload_113 2 rfl ?_
      refine z_callVi0 X (c_M_acted l D kI kC kQ o r_109 q_39.1 (by rw [er_109, begins_o _ _ (by decide), ho]; exact hh)) (gV wd2_182 wd2_184 wd0_11 wd1_4 wd2_185) k_M_acted rfl rfl ⟨Nat.le_of_ble_eq_true rfl, Nat.le_of_ble_eq_true rfl⟩ ⟨Nat.zero_le _, Nat.zero_le _⟩ 3 0 rfl rfl rfl rfl rfl (Nat.le_of_ble_eq_true rfl) dX3_layWorkload_115 (fun r_115 er_115 => ?_)
      exact z_iret X hQ rfl (r_115.1, r_115.2) rfl rfl (by subst er_6 er_18 er_28 eq_39 er_109 er_115; simp only [F_M_layWorkload, if_neg c_9, if_neg c_21]) dX3_layWorkload_118
    · refine z_bipush (v := (-2 : Int32)) X dX3_layWorkload_24 (by decide) ?_
      exact z_iret X hQ rfl ((-2 : Int32), M) rfl rfl (by subst er_6 er_18; simp only [F_M_layWorkload, if_neg c_9, if_pos c_21]) dX3_layWorkload_26
set_option maxRecDepth 100000 in
set_option maxHeartbeats 4000000 in
theorem c_M_type (l : Launch) (D : va_G) (kI kC kQ : ClassId) (o : Nat → Nat) (M : ARR) (a1 : Int32) (ht : bn 0 60 (M 7 8)) : CtI (U := Int32 × ARR) l yX3_type cX3_type 2 (some .int) { frames := 0, cells := 0, slots := 0, locals := 0 } D (tysG kI kC kQ) (wM kI o M) [.ref (o 0), .int a1] (fun u => u.1) (fun u => (wM kI o u.2)) (fun u => u = F_M_type M a1) := by
  refine met_Zi (own := "ShadowLatchesModel") (by decide +kernel) rfl (Nat.le_of_ble_eq_true rfl) ?_
  intro p e s m args below meth c A Q X hQ
  show Z p l e { frames := 0, cells := 0, slots := 0, locals := 0 } s m args below meth c D A 2 0 0 Q (wM kI o M) [(0, .ref (o 0)), (1, .int a1)] 0 []
  refine z_aload_n X dX3_type_0 0 rfl ?_
  refine zM_g8 X wd2_134 dX3_type_1 ?_
  refine z_bipush (v := (60 : Int32)) X dX3_type_4 (by decide) ?_
  refine z_icmp_ne (tgt := 12) X dX3_type_6 (by decide) (fun c_6 => ?_) (fun c_6 => ?_)
  · refine z_aload_n X dX3_type_12 0 rfl ?_
    refine zM_g7 X wd2_133 dX3_type_13 ?_
    refine z_aload_n X dX3_type_16 0 rfl ?_
    refine zM_g8 X wd2_134 dX3_type_17 ?_
    refine z_iload_n X dX3_type_20 1 rfl ?_
    refine zM_s5 X (type_i ht c_6) rfl dX3_type_21 (fun M_21 eM_21 => ?_)
    refine z_aload_n X dX3_type_22 0 rfl ?_
    refine z_dup X dX3_type_23 rfl ?_
    refine zM_g8 X wd2_134 dX3_type_24 ?_
    refine z_iconst (v := (1 : Int32)) X dX3_type_27 (by decide) ?_
    refine z_iadd X dX3_type_28 ?_
    refine zM_p8 X wd2_134 dX3_type_29 (fun M_29 eM_29 => ?_)
    refine z_aload_n X dX3_type_32 0 rfl ?_
    refine zM_g8 X wd2_134 dX3_type_33 ?_
    exact z_iret X hQ rfl ((M_29 7 8), M_29) rfl rfl (by subst eM_21 eM_29; simp only [F_M_type, if_neg c_6]) dX3_type_36
  · refine z_bipush (v := (-3 : Int32)) X dX3_type_9 (by decide) ?_
    exact z_iret X hQ rfl ((-3 : Int32), M) rfl rfl (by simp only [F_M_type, if_pos c_6]) dX3_type_11
set_option maxRecDepth 100000 in
set_option maxHeartbeats 4000000 in
theorem c_M_clearText (l : Launch) (D : va_G) (kI kC kQ : ClassId) (o : Nat → Nat) (M : ARR) : CtI (U := Int32 × ARR) l yX3_clearText cX3_clearText 2 (some .int) { frames := 0, cells := 0, slots := 0, locals := 0 } D (tysG kI kC kQ) (wM kI o M) [.ref (o 0)] (fun u => u.1) (fun u => (wM kI o u.2)) (fun u => u = F_M_clearText M) := by
  refine met_Zi (own := "ShadowLatchesModel") (by decide +kernel) rfl (Nat.le_of_ble_eq_true rfl) ?_
  intro p e s m args below meth c A Q X hQ
  show Z p l e { frames := 0, cells := 0, slots := 0, locals := 0 } s m args below meth c D A 2 0 0 Q (wM kI o M) [(0, .ref (o 0))] 0 []
  refine z_aload_n X dX3_clearText_0 0 rfl ?_
  refine zM_g8 X wd2_134 dX3_clearText_1 ?_
  refine z_istore_n (lv' := [(1, .int (M 7 8)), (0, .ref (o 0))]) X dX3_clearText_4 (Nat.le_of_ble_eq_true rfl) rfl ?_
  refine z_aload_n X dX3_clearText_5 1 rfl ?_
  refine z_iconst (v := (0 : Int32)) X dX3_clearText_6 (by decide) ?_
  refine zM_p8 X wd2_134 dX3_clearText_7 (fun M_7 eM_7 => ?_)
  refine z_iload_n X dX3_clearText_10 0 rfl ?_
  exact z_iret X hQ rfl ((M 7 8), M_7) rfl rfl (by subst eM_7; simp only [F_M_clearText]) dX3_clearText_11
set_option maxRecDepth 100000 in
set_option maxHeartbeats 4000000 in
theorem c_M_isHere (l : Launch) (D : va_G) (kI kC kQ : ClassId) (o : Nat → Nat) (M : ARR) (a1 : Int32) (a2 : Int32) (hs : bn 0 60 (M 7 9)) (ht : bn 0 60 (M 7 8)) : CtI (U := Int32) l yX3_isHere cX3_isHere 3 (some .boolean) { frames := 1, cells := 0, slots := 0, locals := 25 } D (tysG kI kC kQ) (wM kI o M) [.ref (o 0), .int a1, .int a2] (fun u => u) (fun _ => (wM kI o M)) (fun u => u = F_M_isHere M a1 a2) := by
  refine met_Zi (own := "ShadowLatchesModel") (by decide +kernel) rfl (Nat.le_of_ble_eq_true rfl) ?_
  intro p e s m args below meth c A Q X hQ
  show Z p l e { frames := 1, cells := 0, slots := 0, locals := 25 } s m args below meth c D A 3 0 0 Q (wM kI o M) [(0, .ref (o 0)), (1, .int a1), (2, .int a2)] 0 []
  refine z_aload_n X dX3_isHere_0 0 rfl ?_
  refine zM_g9 X wd2_135 dX3_isHere_1 ?_
  refine z_aload_n X dX3_isHere_4 0 rfl ?_
  refine zM_g8 X wd2_134 dX3_isHere_5 ?_
  have J_j_36 : ∀ (j_36 : Int32), j_36 = (if (M 7 8) ≤ (M 7 9) then ((0 : Int32)) else (let r_25 : Int32 := (F_M_in (((M 5 ((M 7 9).toNatClampNeg))).toInt64) (a1.toInt64) (a2.toInt64)); if r_25 = (0 : Int32) then ((0 : Int32)) else ((1 : Int32)))) → Z p l e { frames := 1, cells := 0, slots := 0, locals := 25 } s m args below meth c D A 3 0 0 Q (wM kI o M) [] 36 [.int j_36] := by
    intro j_36 ej_36
    exact z_zret X hQ rfl j_36 rfl rfl (by subst ej_36; simp only [F_M_isHere]) (nb (by rw [ej_36]; (try dsimp only); repeat' first | exact bl_in _ _ _ | apply bl_ite | exact Or.inl rfl | exact Or.inr rfl)) dX3_isHere_36
  refine z_icmp_ge (tgt := 35) X dX3_isHere_8 (by decide) (fun c_8 => ?_) (fun c_8 => ?_)
  · refine z_iconst (v := (0 : Int32)) X dX3_isHere_35 (by decide) ?_
    refine z_lv (lv' := []) [] rfl ?_
    exact J_j_36 (0 : Int32) (by simp only [if_pos c_8])
  · refine z_aload_n X dX3_isHere_11 0 rfl ?_
    refine zM_g7 X wd2_133 dX3_isHere_12 ?_
    refine z_aload_n X dX3_isHere_15 0 rfl ?_
    refine zM_g9 X wd2_135 dX3_isHere_16 ?_
    refine zM_l5 X (here_i ht hs c_8) rfl dX3_isHere_19 ?_
    refine z_i2l X dX3_isHere_20 ?_
    refine z_iload_n X dX3_isHere_21 1 rfl ?_
    refine z_i2l X dX3_isHere_22 ?_
    refine z_iload_n X dX3_isHere_23 2 rfl ?_
    refine z_i2l X dX3_isHere_24 ?_
    refine z_callSiN X (c_M_in l D kI kC kQ (((M 5 ((M 7 9).toNatClampNeg))).toInt64) (a1.toInt64) (a2.toInt64)) (gS wd2_172 wd2_173 wd1_4 wd2_174) k_M_in rfl rfl ⟨Nat.le_of_ble_eq_true rfl, Nat.le_of_ble_eq_true rfl⟩ ⟨Nat.zero_le _, Nat.zero_le _⟩ rfl rfl (Nat.le_of_ble_eq_true rfl) dX3_isHere_25 rfl (fun _ => rfl) (fun r_25 er_25 => ?_)
    refine z_if_eq (tgt := 35) X dX3_isHere_28 (by decide) (fun c_28 => ?_) (fun c_28 => ?_)
    · refine z_iconst (v := (0 : Int32)) X dX3_isHere_35 (by decide) ?_
      refine z_lv (lv' := []) [] rfl ?_
      exact J_j_36 (0 : Int32) (by subst er_25; simp only [if_neg c_8, if_pos c_28])
    · refine z_iconst (v := (1 : Int32)) X dX3_isHere_31 (by decide) ?_
      refine z_goto (tgt := 36) X dX3_isHere_32 (by decide) ?_
      refine z_lv (lv' := []) [] rfl ?_
      exact J_j_36 (1 : Int32) (by subst er_25; simp only [if_neg c_8, if_neg c_28])
set_option maxRecDepth 100000 in
set_option maxHeartbeats 4000000 in
theorem c_M_takes (l : Launch) (D : va_G) (kI kC kQ : ClassId) (o : Nat → Nat) (M : ARR) (a1 : Int32) (hs : bn 0 60 (M 7 9)) (ht : bn 0 60 (M 7 8)) : CtI (U := Int32 × ARR) l yX3_takes cX3_takes 3 (some .boolean) { frames := 2, cells := 0, slots := 0, locals := 47 } D (tysG kI kC kQ) (wM kI o M) [.ref (o 0), .int a1] (fun u => u.1) (fun u => (wM kI o u.2)) (fun u => u = F_M_takes M a1) := by
  refine met_Zi (own := "ShadowLatchesModel") (by decide +kernel) rfl (Nat.le_of_ble_eq_true rfl) ?_
  intro p e s m args below meth c A Q X hQ
  show Z p l e { frames := 2, cells := 0, slots := 0, locals := 47 } s m args below meth c D A 3 0 0 Q (wM kI o M) [(0, .ref (o 0)), (1, .int a1)] 0 []
  refine z_aload_n X dX3_takes_0 0 rfl ?_
  refine z_iload_n X dX3_takes_1 1 rfl ?_
  refine z_iload_n X dX3_takes_2 1 rfl ?_
  refine z_callVi0 X (c_M_isHere l D kI kC kQ o M a1 a1 hs ht) (gV wd2_235 wd2_237 wd0_18 wd1_4 wd2_238) k_M_isHere rfl rfl ⟨Nat.le_of_ble_eq_true rfl, Nat.le_of_ble_eq_true rfl⟩ ⟨Nat.zero_le _, Nat.zero_le _⟩ 3 0 rfl rfl rfl rfl rfl (Nat.le_of_ble_eq_true rfl) dX3_takes_3 (fun r_3 er_3 => ?_)
  refine z_istore_n (lv' := [(2, .int r_3), (0, .ref (o 0)), (1, .int a1)]) X dX3_takes_6 (Nat.le_of_ble_eq_true rfl) rfl ?_
  refine z_aload_n X dX3_takes_7 1 rfl ?_
  refine z_dup X dX3_takes_8 rfl ?_
  refine zM_g9 X wd2_135 dX3_takes_9 ?_
  refine z_iload_n X dX3_takes_12 0 rfl ?_
  have J_j_21 : ∀ (j_21 : Int32), j_21 = (if r_3 = (0 : Int32) then ((0 : Int32)) else ((1 : Int32))) → Z p l e { frames := 2, cells := 0, slots := 0, locals := 47 } s m args below meth c D A 3 0 0 Q (wM kI o M) [(2, .int r_3)] 21 [.int j_21, .int (M 7 9), .ref (o 0)] := by
    intro j_21 ej_21
    refine z_iadd X dX3_takes_21 ?_
    refine zM_p9 X wd2_135 dX3_takes_22 (fun M_22 eM_22 => ?_)
    refine z_iload_n X dX3_takes_25 0 rfl ?_
    exact z_zret X hQ rfl (r_3, M_22) rfl rfl (by subst er_3 ej_21 eM_22; simp only [F_M_takes]) (nb (by rw [er_3]; exact bl_isHere _ _ _)) dX3_takes_26
  refine z_if_eq (tgt := 20) X dX3_takes_13 (by decide) (fun c_13 => ?_) (fun c_13 => ?_)
  · refine z_iconst (v := (0 : Int32)) X dX3_takes_20 (by decide) ?_
    refine z_lv (lv' := [(2, .int r_3)]) [0] rfl ?_
    exact J_j_21 (0 : Int32) (by simp only [if_pos c_13])
  · refine z_iconst (v := (1 : Int32)) X dX3_takes_16 (by decide) ?_
    refine z_goto (tgt := 21) X dX3_takes_17 (by decide) ?_
    refine z_lv (lv' := [(2, .int r_3)]) [0] rfl ?_
    exact J_j_21 (1 : Int32) (by simp only [if_neg c_13])
