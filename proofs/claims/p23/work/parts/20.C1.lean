set_option maxRecDepth 100000 in
set_option maxHeartbeats 4000000 in
theorem c_J_bitCount (l : Launch) (D : va_G) (kI kC kQ : ClassId) (a1 : Int32) : CtI (U := Int32) l yJ6_bitCount_0f7a4 cJ6_bitCount_0f7a4 1 (some .int) { frames := 0, cells := 0, slots := 0, locals := 0 } D (tysG kI kC kQ) [] [.int a1] (fun u => u) (fun _ => []) (fun u => u = F_J_bitCount a1) := by
  refine met_Zi (own := "java/lang/Integer") (by decide +kernel) rfl (Nat.le_of_ble_eq_true rfl) ?_
  intro p e s m args below meth c A Q X hQ
  show Z p l e { frames := 0, cells := 0, slots := 0, locals := 0 } s m args below meth c D A 1 0 0 Q [] [(0, .int a1)] 0 []
  refine z_iload_n X dJ6_bitCount_0f7a4_0 0 rfl ?_
  refine z_iload_n X dJ6_bitCount_0f7a4_1 0 rfl ?_
  refine z_iconst (v := (1 : Int32)) X dJ6_bitCount_0f7a4_2 (by decide) ?_
  refine z_iushr X dJ6_bitCount_0f7a4_3 ?_
  refine z_ldcw X dJ6_bitCount_0f7a4_4 wd2_41 ?_
  refine z_iand X dJ6_bitCount_0f7a4_7 ?_
  refine z_isub X dJ6_bitCount_0f7a4_8 ?_
  refine z_topi (fun v_9 ev_9 => ?_)
  refine z_istore_n (lv' := [(0, .int v_9)]) X dJ6_bitCount_0f7a4_9 (Nat.le_of_ble_eq_true rfl) rfl ?_
  refine z_iload_n X dJ6_bitCount_0f7a4_10 0 rfl ?_
  refine z_ldcw X dJ6_bitCount_0f7a4_11 wd2_42 ?_
  refine z_iand X dJ6_bitCount_0f7a4_14 ?_
  refine z_iload_n X dJ6_bitCount_0f7a4_15 0 rfl ?_
  refine z_iconst (v := (2 : Int32)) X dJ6_bitCount_0f7a4_16 (by decide) ?_
  refine z_iushr X dJ6_bitCount_0f7a4_17 ?_
  refine z_ldcw X dJ6_bitCount_0f7a4_18 wd2_42 ?_
  refine z_iand X dJ6_bitCount_0f7a4_21 ?_
  refine z_iadd X dJ6_bitCount_0f7a4_22 ?_
  refine z_topi (fun v_23 ev_23 => ?_)
  refine z_istore_n (lv' := [(0, .int v_23)]) X dJ6_bitCount_0f7a4_23 (Nat.le_of_ble_eq_true rfl) rfl ?_
  refine z_iload_n X dJ6_bitCount_0f7a4_24 0 rfl ?_
  refine z_iload_n X dJ6_bitCount_0f7a4_25 0 rfl ?_
  refine z_iconst (v := (4 : Int32)) X dJ6_bitCount_0f7a4_26 (by decide) ?_
  refine z_iushr X dJ6_bitCount_0f7a4_27 ?_
  refine z_iadd X dJ6_bitCount_0f7a4_28 ?_
  refine z_ldcw X dJ6_bitCount_0f7a4_29 wd2_43 ?_
  refine z_iand X dJ6_bitCount_0f7a4_32 ?_
  refine z_topi (fun v_33 ev_33 => ?_)
  refine z_istore_n (lv' := [(0, .int v_33)]) X dJ6_bitCount_0f7a4_33 (Nat.le_of_ble_eq_true rfl) rfl ?_
  refine z_iload_n X dJ6_bitCount_0f7a4_34 0 rfl ?_
  refine z_iload_n X dJ6_bitCount_0f7a4_35 0 rfl ?_
  refine z_bipush (v := (8 : Int32)) X dJ6_bitCount_0f7a4_36 (by decide) ?_
  refine z_iushr X dJ6_bitCount_0f7a4_38 ?_
  refine z_iadd X dJ6_bitCount_0f7a4_39 ?_
  refine z_topi (fun v_40 ev_40 => ?_)
  refine z_istore_n (lv' := [(0, .int v_40)]) X dJ6_bitCount_0f7a4_40 (Nat.le_of_ble_eq_true rfl) rfl ?_
  refine z_iload_n X dJ6_bitCount_0f7a4_41 0 rfl ?_
  refine z_iload_n X dJ6_bitCount_0f7a4_42 0 rfl ?_
  refine z_bipush (v := (16 : Int32)) X dJ6_bitCount_0f7a4_43 (by decide) ?_
  refine z_iushr X dJ6_bitCount_0f7a4_45 ?_
  refine z_iadd X dJ6_bitCount_0f7a4_46 ?_
  refine z_topi (fun v_47 ev_47 => ?_)
  refine z_istore_n (lv' := [(0, .int v_47)]) X dJ6_bitCount_0f7a4_47 (Nat.le_of_ble_eq_true rfl) rfl ?_
  refine z_iload_n X dJ6_bitCount_0f7a4_48 0 rfl ?_
  refine z_bipush (v := (63 : Int32)) X dJ6_bitCount_0f7a4_49 (by decide) ?_
  refine z_iand X dJ6_bitCount_0f7a4_51 ?_
  exact z_iret X hQ rfl (v_47 &&& (63 : Int32)) rfl rfl (by subst ev_9 ev_23 ev_33 ev_40 ev_47; simp only [F_J_bitCount]) dJ6_bitCount_0f7a4_52
set_option maxRecDepth 100000 in
set_option maxHeartbeats 4000000 in
theorem c_C_beginWorkload (l : Launch) (D : va_G) (kI kC kQ : ClassId) (q : Nat → Nat) (C : CS) (a1 : Int32) : CtV (U := CS) l yX0_beginWorkload cX0_beginWorkload 2 none { frames := 0, cells := 0, slots := 0, locals := 0 } D (tysG kI kC kQ) (wC kI q C) [.ref (q 0), .int a1] (fun u => (wC kI q u)) (fun u => u = F_C_beginWorkload C a1) := by
  refine met_Zv (own := "ShadowLatches$Circuit") (by decide +kernel) rfl (Nat.le_of_ble_eq_true rfl) ?_
  intro p e s m args below meth c A Q X hQ
  show Z p l e { frames := 0, cells := 0, slots := 0, locals := 0 } s m args below meth c D A 2 0 0 Q (wC kI q C) [(0, .ref (q 0)), (1, .int a1)] 0 []
  refine z_aload_n X dX0_beginWorkload_0 0 rfl ?_
  refine z_iload_n X dX0_beginWorkload_1 1 rfl ?_
  refine zC_p4 X wd1_38 dX0_beginWorkload_2 (fun C_2 eC_2 => ?_)
  refine z_aload_n X dX0_beginWorkload_5 0 rfl ?_
  refine z_iconst (v := (0 : Int32)) X dX0_beginWorkload_6 (by decide) ?_
  refine zC_p5 X wd1_40 dX0_beginWorkload_7 (fun C_7 eC_7 => ?_)
  exact z_vret X hQ rfl C_7 rfl (by subst eC_2 eC_7; simp only [F_C_beginWorkload]) dX0_beginWorkload_10
set_option maxRecDepth 100000 in
set_option maxHeartbeats 4000000 in
theorem c_C_beginWindow (l : Launch) (D : va_G) (kI kC kQ : ClassId) (q : Nat → Nat) (C : CS) : CtV (U := CS) l yX0_beginWindow cX0_beginWindow 1 none { frames := 0, cells := 0, slots := 0, locals := 0 } D (tysG kI kC kQ) (wC kI q C) [.ref (q 0)] (fun u => (wC kI q u)) (fun u => u = F_C_beginWindow C) := by
  refine met_Zv (own := "ShadowLatches$Circuit") (by decide +kernel) rfl (Nat.le_of_ble_eq_true rfl) ?_
  intro p e s m args below meth c A Q X hQ
  show Z p l e { frames := 0, cells := 0, slots := 0, locals := 0 } s m args below meth c D A 1 0 0 Q (wC kI q C) [(0, .ref (q 0))] 0 []
  refine z_aload_n X dX0_beginWindow_0 0 rfl ?_
  refine z_iconst (v := (0 : Int32)) X dX0_beginWindow_1 (by decide) ?_
  refine zC_p10 X wd1_50 dX0_beginWindow_2 (fun C_2 eC_2 => ?_)
  refine z_aload_n X dX0_beginWindow_5 0 rfl ?_
  refine z_iconst (v := (0 : Int32)) X dX0_beginWindow_6 (by decide) ?_
  refine zC_p11 X wd1_52 dX0_beginWindow_7 (fun C_7 eC_7 => ?_)
  exact z_vret X hQ rfl C_7 rfl (by subst eC_2 eC_7; simp only [F_C_beginWindow]) dX0_beginWindow_10
set_option maxRecDepth 100000 in
set_option maxHeartbeats 4000000 in
theorem c_C_delayOf (l : Launch) (D : va_G) (kI kC kQ : ClassId) (a1 : Int32) (a2 : Int32) (a3 : Int32) (hv : ¬ (a2 - (300 : Int32)) = 0) : CtI (U := Int32) l yX0_delayOf cX0_delayOf 4 (some .int) { frames := 0, cells := 0, slots := 0, locals := 0 } D (tysG kI kC kQ) [] [.int a1, .int a2, .int a3] (fun u => u) (fun _ => []) (fun u => u = F_C_delayOf a1 a2 a3) := by
  refine met_Zi (own := "ShadowLatches$Circuit") (by decide +kernel) rfl (Nat.le_of_ble_eq_true rfl) ?_
  intro p e s m args below meth c A Q X hQ
  show Z p l e { frames := 0, cells := 0, slots := 0, locals := 0 } s m args below meth c D A 4 0 0 Q [] [(0, .int a1), (1, .int a2), (2, .int a3)] 0 []
  refine z_iload_n X dX0_delayOf_0 0 rfl ?_
  refine z_sipush (v := (1000 : Int32)) X dX0_delayOf_1 (by decide) ?_
  refine z_imul X dX0_delayOf_4 ?_
  refine z_iload_n X dX0_delayOf_5 1 rfl ?_
  refine z_sipush (v := (300 : Int32)) X dX0_delayOf_6 (by decide) ?_
  refine z_isub X dX0_delayOf_9 ?_
  refine z_idiv X dX0_delayOf_10 hv ?_
  refine z_topi (fun v_11 ev_11 => ?_)
  refine z_istore_n (lv' := [(3, .int v_11), (0, .int a1), (1, .int a2), (2, .int a3)]) X dX0_delayOf_11 (Nat.le_of_ble_eq_true rfl) rfl ?_
  refine z_iload_n X dX0_delayOf_12 0 rfl ?_
  refine z_sipush (v := (900 : Int32)) X dX0_delayOf_13 (by decide) ?_
  refine z_iload_n X dX0_delayOf_16 3 rfl ?_
  refine z_iconst (v := (5 : Int32)) X dX0_delayOf_17 (by decide) ?_
  refine z_imul X dX0_delayOf_18 ?_
  refine z_iadd X dX0_delayOf_19 ?_
  refine z_imul X dX0_delayOf_20 ?_
  refine z_sipush (v := (1000 : Int32)) X dX0_delayOf_21 (by decide) ?_
  refine z_idiv X dX0_delayOf_24 (by decide) ?_
  exact z_iret X hQ rfl ((v_11 * ((900 : Int32) + (a3 * (5 : Int32)))) / (1000 : Int32)) rfl rfl (by subst ev_11; simp only [F_C_delayOf]) dX0_delayOf_25
set_option maxRecDepth 100000 in
set_option maxHeartbeats 4000000 in
theorem c_C_delayNow (l : Launch) (D : va_G) (kI kC kQ : ClassId) (q : Nat → Nat) (C : CS) (a1 : Int32) (hi : vp_in a1 8) (hv : bn 500 1200 (C.1 4 7)) : CtI (U := Int32) l yX0_delayNow cX0_delayNow 2 (some .int) { frames := 1, cells := 0, slots := 0, locals := 23 } D (tysG kI kC kQ) (wC kI q C) [.ref (q 0), .int a1] (fun u => u) (fun _ => (wC kI q C)) (fun u => u = F_C_delayNow C a1) := by
  refine met_Zi (own := "ShadowLatches$Circuit") (by decide +kernel) rfl (Nat.le_of_ble_eq_true rfl) ?_
  intro p e s m args below meth c A Q X hQ
  show Z p l e { frames := 1, cells := 0, slots := 0, locals := 23 } s m args below meth c D A 2 0 0 Q (wC kI q C) [(0, .ref (q 0)), (1, .int a1)] 0 []
  refine z_aload_n X dX0_delayNow_0 0 rfl ?_
  refine zC_g0 X wd1_30 dX0_delayNow_1 ?_
  refine z_iload_n X dX0_delayNow_4 1 rfl ?_
  refine zC_l0 X hi rfl dX0_delayNow_5 ?_
  refine z_aload_n X dX0_delayNow_6 0 rfl ?_
  refine zC_g7 X wd1_44 dX0_delayNow_7 ?_
  refine z_aload_n X dX0_delayNow_10 0 rfl ?_
  refine zC_g8 X wd1_46 dX0_delayNow_11 ?_
  refine z_callSiN X (c_C_delayOf l D kI kC kQ (C.1 0 (a1.toNatClampNeg)) (C.1 4 7) (C.1 4 8) (vne hv)) (gS wd1_198 wd1_199 wd1_2 wd1_200) k_C_delayOf rfl rfl ⟨Nat.le_of_ble_eq_true rfl, Nat.le_of_ble_eq_true rfl⟩ ⟨Nat.zero_le _, Nat.zero_le _⟩ rfl rfl (Nat.le_of_ble_eq_true rfl) dX0_delayNow_14 rfl (fun _ => rfl) (fun r_14 er_14 => ?_)
  exact z_iret X hQ rfl r_14 rfl rfl (by subst er_14; simp only [F_C_delayNow]) dX0_delayNow_17
set_option maxRecDepth 100000 in
set_option maxHeartbeats 4000000 in
theorem c_C_judge (l : Launch) (D : va_G) (kI kC kQ : ClassId) (q : Nat → Nat) (C : CS) (a1 : Int32) : CtI (U := Int32) l yX0_judge cX0_judge 2 (some .int) { frames := 0, cells := 0, slots := 0, locals := 0 } D (tysG kI kC kQ) (wC kI q C) [.ref (q 0), .int a1] (fun u => u) (fun _ => (wC kI q C)) (fun u => u = F_C_judge C a1) := by
  refine met_Zi (own := "ShadowLatches$Circuit") (by decide +kernel) rfl (Nat.le_of_ble_eq_true rfl) ?_
  intro p e s m args below meth c A Q X hQ
  show Z p l e { frames := 0, cells := 0, slots := 0, locals := 0 } s m args below meth c D A 2 0 0 Q (wC kI q C) [(0, .ref (q 0)), (1, .int a1)] 0 []
  refine z_iload_n X dX0_judge_0 1 rfl ?_
  refine z_aload_n X dX0_judge_1 0 rfl ?_
  refine zC_g6 X wd1_42 dX0_judge_2 ?_
  refine z_iconst (v := (0 : Int32)) X dX0_judge_5 (by decide) ?_
  refine zC_l3 X vi_0_7 cl_0 dX0_judge_6 ?_
  refine z_icmp_gt (tgt := 12) X dX0_judge_7 (by decide) (fun c_7 => ?_) (fun c_7 => ?_)
  · refine z_iload_n X dX0_judge_12 1 rfl ?_
    refine z_aload_n X dX0_judge_13 0 rfl ?_
    refine zC_g6 X wd1_42 dX0_judge_14 ?_
    refine z_iconst (v := (0 : Int32)) X dX0_judge_17 (by decide) ?_
    refine zC_l3 X vi_0_7 cl_0 dX0_judge_18 ?_
    refine z_aload_n X dX0_judge_19 0 rfl ?_
    refine zC_g6 X wd1_42 dX0_judge_20 ?_
    refine z_iconst (v := (1 : Int32)) X dX0_judge_23 (by decide) ?_
    refine zC_l3 X vi_1_7 cl_1 dX0_judge_24 ?_
    refine z_iadd X dX0_judge_25 ?_
    have J_j_34 : ∀ (j_34 : Int32), j_34 = (if ((C.1 3 0) + (C.1 3 1)) < a1 then ((2 : Int32)) else ((1 : Int32))) → Z p l e { frames := 0, cells := 0, slots := 0, locals := 0 } s m args below meth c D A 2 0 0 Q (wC kI q C) [] 34 [.int j_34] := by
      intro j_34 ej_34
      exact z_iret X hQ rfl j_34 rfl rfl (by subst ej_34; simp only [F_C_judge, if_pos c_7]) dX0_judge_34
    refine z_icmp_gt (tgt := 33) X dX0_judge_26 (by decide) (fun c_26 => ?_) (fun c_26 => ?_)
    · refine z_iconst (v := (2 : Int32)) X dX0_judge_33 (by decide) ?_
      refine z_lv (lv' := []) [] rfl ?_
      exact J_j_34 (2 : Int32) (by simp only [if_pos c_26])
    · refine z_iconst (v := (1 : Int32)) X dX0_judge_29 (by decide) ?_
      refine z_goto (tgt := 34) X dX0_judge_30 (by decide) ?_
      refine z_lv (lv' := []) [] rfl ?_
      exact J_j_34 (1 : Int32) (by simp only [if_neg c_26])
  · refine z_iconst (v := (0 : Int32)) X dX0_judge_10 (by decide) ?_
    exact z_iret X hQ rfl (0 : Int32) rfl rfl (by simp only [F_C_judge, if_neg c_7]) dX0_judge_11
set_option maxRecDepth 100000 in
set_option maxHeartbeats 4000000 in
theorem c_C_pathsJudged (l : Launch) (D : va_G) (kI kC kQ : ClassId) (q : Nat → Nat) (C : CS) (a1 : Int32) (hp : bn 1 8 (C.1 4 2)) (hv : bn 500 1200 (C.1 4 7)) : CtI (U := Int32) l yX0_pathsJudged cX0_pathsJudged 4 (some .int) { frames := 2, cells := 0, slots := 0, locals := 44 } D (tysG kI kC kQ) (wC kI q C) [.ref (q 0), .int a1] (fun u => u) (fun _ => (wC kI q C)) (fun u => u = F_C_pathsJudged C a1) := by
  refine met_Zi (own := "ShadowLatches$Circuit") (by decide +kernel) rfl (Nat.le_of_ble_eq_true rfl) ?_
  intro p e s m args below meth c A Q X hQ
  show Z p l e { frames := 2, cells := 0, slots := 0, locals := 44 } s m args below meth c D A 4 0 0 Q (wC kI q C) [(0, .ref (q 0)), (1, .int a1)] 0 []
  obtain ⟨P, hP1, hP2, hP⟩ := hp
  refine z_iconst (v := (0 : Int32)) X dX0_pathsJudged_0 (by decide) ?_
  refine z_istore_n (lv' := [(2, .int (0 : Int32)), (0, .ref (q 0)), (1, .int a1)]) X dX0_pathsJudged_1 (Nat.le_of_ble_eq_true rfl) rfl ?_
  refine z_iconst (v := (0 : Int32)) X dX0_pathsJudged_2 (by decide) ?_
  refine z_istore_n (lv' := [(3, .int (0 : Int32)), (2, .int (0 : Int32)), (0, .ref (q 0)), (1, .int a1)]) X dX0_pathsJudged_3 (Nat.le_of_ble_eq_true rfl) rfl ?_
  refine z_lv (lv' := [(0, .ref (q 0)), (1, .int a1), (2, .int (0 : Int32)), (3, .int (0 : Int32))]) [2, 3, 1, 0] rfl ?_
  have Lp_4 : ∀ (n : Nat) (x2_4 : Int32) (x3_4 : Int32), (cu P n x3_4) → (∀ (q_4 : Int32), q_4 = L_C_pathsJudged_4 C a1 n x2_4 x3_4 → Z p l e { frames := 2, cells := 0, slots := 0, locals := 44 } s m args below meth c D A 4 0 0 Q (wC kI q C) [(2, .int q_4)] 37 []) → Z p l e { frames := 2, cells := 0, slots := 0, locals := 44 } s m args below meth c D A 4 0 0 Q (wC kI q C) [(0, .ref (q 0)), (1, .int a1), (2, .int x2_4), (3, .int x3_4)] 4 [] := by
    intro n
    induction n with
    | zero =>
      intro x2_4 x3_4 hi kk_4
      exfalso
      exact cu_0 hi
    | succ n ih_4 =>
      intro x2_4 x3_4 hi kk_4
      refine z_iload_n X dX0_pathsJudged_4 3 rfl ?_
      refine z_aload_n X dX0_pathsJudged_5 0 rfl ?_
      refine zC_g2 X wd1_34 dX0_pathsJudged_6 ?_
      refine z_icmp_ge (tgt := 37) X dX0_pathsJudged_9 (by decide) (fun c_9 => ?_) (fun c_9 => ?_)
      · refine z_lv (lv' := [(2, .int x2_4)]) [2] rfl ?_
        exact kk_4 x2_4 (by simp only [L_C_pathsJudged_4, if_pos c_9]) 
      · refine z_aload_n X dX0_pathsJudged_12 0 rfl ?_
        refine z_aload_n X dX0_pathsJudged_13 0 rfl ?_
        refine z_iload_n X dX0_pathsJudged_14 3 rfl ?_
        refine z_callVi0 X (c_C_delayNow l D kI kC kQ q C x3_4 (vin_k (cu_lt hi (by omega) hP c_9) (by omega) (by omega)) hv) (gV wd1_194 wd1_195 wd1_196 wd1_2 wd1_197) k_C_delayNow rfl rfl ⟨Nat.le_of_ble_eq_true rfl, Nat.le_of_ble_eq_true rfl⟩ ⟨Nat.zero_le _, Nat.zero_le _⟩ 0 0 rfl rfl rfl rfl rfl (Nat.le_of_ble_eq_true rfl) dX0_pathsJudged_15 (fun r_15 er_15 => ?_)
        refine z_callVi0 X (c_C_judge l D kI kC kQ q C r_15) (gV wd1_201 wd1_202 wd1_203 wd1_2 wd1_204) k_C_judge rfl rfl ⟨Nat.le_of_ble_eq_true rfl, Nat.le_of_ble_eq_true rfl⟩ ⟨Nat.zero_le _, Nat.zero_le _⟩ 0 0 rfl rfl rfl rfl rfl (Nat.le_of_ble_eq_true rfl) dX0_pathsJudged_18 (fun r_18 er_18 => ?_)
        refine z_iload_n X dX0_pathsJudged_21 1 rfl ?_
        have J_j_31 : ∀ (j_31 : Int32), j_31 = (if r_18 = a1 then (let v_30 : Int32 := (x2_4 ||| ((1 : Int32) <<< (x3_4 &&& 31))); v_30) else (x2_4)) → Z p l e { frames := 2, cells := 0, slots := 0, locals := 44 } s m args below meth c D A 4 0 0 Q (wC kI q C) [(0, .ref (q 0)), (1, .int a1), (2, .int j_31), (3, .int x3_4)] 31 [] := by
          intro j_31 ej_31
          obtain ⟨v_31, ev_31⟩ : ∃ y : Int32, y = x3_4 + (1 : Int32) := ⟨_, rfl⟩
          refine z_iinc (v := v_31) (lv' := [(3, .int v_31), (0, .ref (q 0)), (1, .int a1), (2, .int j_31)]) X dX0_pathsJudged_31 3 rfl (by rw [ev_31]; rfl) (Nat.le_of_ble_eq_true rfl) rfl ?_
          refine z_goto (tgt := 4) X dX0_pathsJudged_34 (by decide) ?_
          refine z_lv (lv' := [(0, .ref (q 0)), (1, .int a1), (2, .int j_31), (3, .int v_31)]) [1, 2, 3, 0] rfl ?_
          exact ih_4 j_31 v_31 (cu_b hi (by omega) hP c_9 ev_31) (fun q_4 eq_4 => kk_4 q_4 (eq_4.trans (by subst er_15 er_18 ej_31 ev_31; simp only [L_C_pathsJudged_4, if_neg c_9])))
        refine z_icmp_ne (tgt := 31) X dX0_pathsJudged_22 (by decide) (fun c_22 => ?_) (fun c_22 => ?_)
        · exact J_j_31 x2_4 (by simp only [if_neg c_22])
        · refine z_iload_n X dX0_pathsJudged_25 2 rfl ?_
          refine z_iconst (v := (1 : Int32)) X dX0_pathsJudged_26 (by decide) ?_
          refine z_iload_n X dX0_pathsJudged_27 3 rfl ?_
          refine z_ishl X dX0_pathsJudged_28 ?_
          refine z_ior X dX0_pathsJudged_29 ?_
          refine z_topi (fun v_30 ev_30 => ?_)
          refine z_istore_n (lv' := [(2, .int v_30), (0, .ref (q 0)), (1, .int a1), (3, .int x3_4)]) X dX0_pathsJudged_30 (Nat.le_of_ble_eq_true rfl) rfl ?_
          refine z_lv (lv' := [(0, .ref (q 0)), (1, .int a1), (2, .int v_30), (3, .int x3_4)]) [1, 2, 0, 3] rfl ?_
          exact J_j_31 v_30 (by subst ev_30; simp only [if_pos c_22])
  refine Lp_4 9 (0 : Int32) (0 : Int32) (cu_i (by omega)) (fun q_4 eq_4 => ?_)
  refine z_iload_n X dX0_pathsJudged_37 0 rfl ?_
  exact z_iret X hQ rfl q_4 rfl rfl (by subst eq_4; simp only [F_C_pathsJudged]) dX0_pathsJudged_38
set_option maxRecDepth 100000 in
set_option maxHeartbeats 4000000 in
theorem c_C_setsWith (l : Launch) (D : va_G) (kI kC kQ : ClassId) (q : Nat → Nat) (C : CS) (a1 : Int32) (hc : bn 1 16 (C.1 4 4)) : CtI (U := Int32) l yX0_setsWith cX0_setsWith 4 (some .int) { frames := 0, cells := 0, slots := 0, locals := 0 } D (tysG kI kC kQ) (wC kI q C) [.ref (q 0), .int a1] (fun u => u) (fun _ => (wC kI q C)) (fun u => u = F_C_setsWith C a1) := by
  refine met_Zi (own := "ShadowLatches$Circuit") (by decide +kernel) rfl (Nat.le_of_ble_eq_true rfl) ?_
  intro p e s m args below meth c A Q X hQ
  show Z p l e { frames := 0, cells := 0, slots := 0, locals := 0 } s m args below meth c D A 4 0 0 Q (wC kI q C) [(0, .ref (q 0)), (1, .int a1)] 0 []
  obtain ⟨N, hN1, hN2, hN⟩ := hc
  refine z_iconst (v := (0 : Int32)) X dX0_setsWith_0 (by decide) ?_
  refine z_istore_n (lv' := [(2, .int (0 : Int32)), (0, .ref (q 0)), (1, .int a1)]) X dX0_setsWith_1 (Nat.le_of_ble_eq_true rfl) rfl ?_
  refine z_iconst (v := (0 : Int32)) X dX0_setsWith_2 (by decide) ?_
  refine z_istore_n (lv' := [(3, .int (0 : Int32)), (2, .int (0 : Int32)), (0, .ref (q 0)), (1, .int a1)]) X dX0_setsWith_3 (Nat.le_of_ble_eq_true rfl) rfl ?_
  refine z_lv (lv' := [(0, .ref (q 0)), (1, .int a1), (2, .int (0 : Int32)), (3, .int (0 : Int32))]) [2, 3, 1, 0] rfl ?_
  have Lp_4 : ∀ (n : Nat) (x2_4 : Int32) (x3_4 : Int32), (cu N n x3_4) → (∀ (q_4 : Int32), q_4 = L_C_setsWith_4 C a1 n x2_4 x3_4 → Z p l e { frames := 0, cells := 0, slots := 0, locals := 0 } s m args below meth c D A 4 0 0 Q (wC kI q C) [(2, .int q_4)] 31 []) → Z p l e { frames := 0, cells := 0, slots := 0, locals := 0 } s m args below meth c D A 4 0 0 Q (wC kI q C) [(0, .ref (q 0)), (1, .int a1), (2, .int x2_4), (3, .int x3_4)] 4 [] := by
    intro n
    induction n with
    | zero =>
      intro x2_4 x3_4 hi kk_4
      exfalso
      exact cu_0 hi
    | succ n ih_4 =>
      intro x2_4 x3_4 hi kk_4
      refine z_iload_n X dX0_setsWith_4 3 rfl ?_
      refine z_aload_n X dX0_setsWith_5 0 rfl ?_
      refine zC_g4 X wd1_38 dX0_setsWith_6 ?_
      refine z_icmp_ge (tgt := 31) X dX0_setsWith_9 (by decide) (fun c_9 => ?_) (fun c_9 => ?_)
      · refine z_lv (lv' := [(2, .int x2_4)]) [2] rfl ?_
        exact kk_4 x2_4 (by simp only [L_C_setsWith_4, if_pos c_9]) 
      · refine z_iload_n X dX0_setsWith_12 2 rfl ?_
        refine z_aload_n X dX0_setsWith_13 0 rfl ?_
        refine zC_g3 X wd1_36 dX0_setsWith_14 ?_
        refine z_iload_n X dX0_setsWith_17 3 rfl ?_
        refine zC_l2 X (vin_k (cu_lt hi (by omega) hN c_9) (by omega) (by omega)) rfl dX0_setsWith_18 ?_
        refine z_iload_n X dX0_setsWith_19 1 rfl ?_
        refine z_ishr X dX0_setsWith_20 ?_
        refine z_iconst (v := (1 : Int32)) X dX0_setsWith_21 (by decide) ?_
        refine z_iand X dX0_setsWith_22 ?_
        refine z_iadd X dX0_setsWith_23 ?_
        refine z_topi (fun v_24 ev_24 => ?_)
        refine z_istore_n (lv' := [(2, .int v_24), (0, .ref (q 0)), (1, .int a1), (3, .int x3_4)]) X dX0_setsWith_24 (Nat.le_of_ble_eq_true rfl) rfl ?_
        obtain ⟨v_25, ev_25⟩ : ∃ y : Int32, y = x3_4 + (1 : Int32) := ⟨_, rfl⟩
        refine z_iinc (v := v_25) (lv' := [(3, .int v_25), (2, .int v_24), (0, .ref (q 0)), (1, .int a1)]) X dX0_setsWith_25 3 rfl (by rw [ev_25]; rfl) (Nat.le_of_ble_eq_true rfl) rfl ?_
        refine z_goto (tgt := 4) X dX0_setsWith_28 (by decide) ?_
        refine z_lv (lv' := [(0, .ref (q 0)), (1, .int a1), (2, .int v_24), (3, .int v_25)]) [2, 3, 1, 0] rfl ?_
        exact ih_4 v_24 v_25 (cu_b hi (by omega) hN c_9 ev_25) (fun q_4 eq_4 => kk_4 q_4 (eq_4.trans (by subst ev_24 ev_25; simp only [L_C_setsWith_4, if_neg c_9])))
  refine Lp_4 17 (0 : Int32) (0 : Int32) (cu_i (by omega)) (fun q_4 eq_4 => ?_)
  refine z_iload_n X dX0_setsWith_31 0 rfl ?_
  exact z_iret X hQ rfl q_4 rfl rfl (by subst eq_4; simp only [F_C_setsWith]) dX0_setsWith_32
set_option maxRecDepth 100000 in
set_option maxHeartbeats 4000000 in
theorem c_C_longestOf (l : Launch) (D : va_G) (kI kC kQ : ClassId) (q : Nat → Nat) (C : CS) (a1 : Int32) (hp : bn 1 8 (C.1 4 2)) : CtI (U := Int32) l yX0_longestOf cX0_longestOf 4 (some .int) { frames := 1, cells := 0, slots := 0, locals := 21 } D (tysG kI kC kQ) (wC kI q C) [.ref (q 0), .int a1] (fun u => u) (fun _ => (wC kI q C)) (fun u => u = F_C_longestOf C a1) := by
  refine met_Zi (own := "ShadowLatches$Circuit") (by decide +kernel) rfl (Nat.le_of_ble_eq_true rfl) ?_
  intro p e s m args below meth c A Q X hQ
  show Z p l e { frames := 1, cells := 0, slots := 0, locals := 21 } s m args below meth c D A 4 0 0 Q (wC kI q C) [(0, .ref (q 0)), (1, .int a1)] 0 []
  obtain ⟨P, hP1, hP2, hP⟩ := hp
  refine z_iconst (v := (0 : Int32)) X dX0_longestOf_0 (by decide) ?_
  refine z_istore_n (lv' := [(2, .int (0 : Int32)), (0, .ref (q 0)), (1, .int a1)]) X dX0_longestOf_1 (Nat.le_of_ble_eq_true rfl) rfl ?_
  refine z_iconst (v := (0 : Int32)) X dX0_longestOf_2 (by decide) ?_
  refine z_istore_n (lv' := [(3, .int (0 : Int32)), (2, .int (0 : Int32)), (0, .ref (q 0)), (1, .int a1)]) X dX0_longestOf_3 (Nat.le_of_ble_eq_true rfl) rfl ?_
  refine z_lv (lv' := [(0, .ref (q 0)), (1, .int a1), (2, .int (0 : Int32)), (3, .int (0 : Int32))]) [2, 3, 1, 0] rfl ?_
  have Lp_4 : ∀ (n : Nat) (x2_4 : Int32) (x3_4 : Int32), (cu P n x3_4) → (∀ (q_4 : Int32), q_4 = L_C_longestOf_4 C a1 n x2_4 x3_4 → Z p l e { frames := 1, cells := 0, slots := 0, locals := 21 } s m args below meth c D A 4 0 0 Q (wC kI q C) [(2, .int q_4)] 38 []) → Z p l e { frames := 1, cells := 0, slots := 0, locals := 21 } s m args below meth c D A 4 0 0 Q (wC kI q C) [(0, .ref (q 0)), (1, .int a1), (2, .int x2_4), (3, .int x3_4)] 4 [] := by
    intro n
    induction n with
    | zero =>
      intro x2_4 x3_4 hi kk_4
      exfalso
      exact cu_0 hi
    | succ n ih_4 =>
      intro x2_4 x3_4 hi kk_4
      refine z_iload_n X dX0_longestOf_4 3 rfl ?_
      refine z_aload_n X dX0_longestOf_5 0 rfl ?_
      refine zC_g2 X wd1_34 dX0_longestOf_6 ?_
      refine z_icmp_ge (tgt := 38) X dX0_longestOf_9 (by decide) (fun c_9 => ?_) (fun c_9 => ?_)
      · refine z_lv (lv' := [(2, .int x2_4)]) [2] rfl ?_
        exact kk_4 x2_4 (by simp only [L_C_longestOf_4, if_pos c_9]) 
      · refine z_iload_n X dX0_longestOf_12 1 rfl ?_
        refine z_iload_n X dX0_longestOf_13 3 rfl ?_
        refine z_ishr X dX0_longestOf_14 ?_
        refine z_iconst (v := (1 : Int32)) X dX0_longestOf_15 (by decide) ?_
        refine z_iand X dX0_longestOf_16 ?_
        refine z_iconst (v := (1 : Int32)) X dX0_longestOf_17 (by decide) ?_
        have J_j_32 : ∀ (j_32 : Int32), j_32 = (if ((a1 >>> (x3_4 &&& 31)) &&& (1 : Int32)) = (1 : Int32) then (let r_28 : Int32 := (F_J_max x2_4 (C.1 0 (x3_4.toNatClampNeg))); r_28) else (x2_4)) → Z p l e { frames := 1, cells := 0, slots := 0, locals := 21 } s m args below meth c D A 4 0 0 Q (wC kI q C) [(0, .ref (q 0)), (1, .int a1), (2, .int j_32), (3, .int x3_4)] 32 [] := by
          intro j_32 ej_32
          obtain ⟨v_32, ev_32⟩ : ∃ y : Int32, y = x3_4 + (1 : Int32) := ⟨_, rfl⟩
          refine z_iinc (v := v_32) (lv' := [(3, .int v_32), (0, .ref (q 0)), (1, .int a1), (2, .int j_32)]) X dX0_longestOf_32 3 rfl (by rw [ev_32]; rfl) (Nat.le_of_ble_eq_true rfl) rfl ?_
          refine z_goto (tgt := 4) X dX0_longestOf_35 (by decide) ?_
          refine z_lv (lv' := [(0, .ref (q 0)), (1, .int a1), (2, .int j_32), (3, .int v_32)]) [1, 2, 3, 0] rfl ?_
          exact ih_4 j_32 v_32 (cu_b hi (by omega) hP c_9 ev_32) (fun q_4 eq_4 => kk_4 q_4 (eq_4.trans (by subst ej_32 ev_32; simp only [L_C_longestOf_4, if_neg c_9])))
        refine z_icmp_ne (tgt := 32) X dX0_longestOf_18 (by decide) (fun c_18 => ?_) (fun c_18 => ?_)
        · exact J_j_32 x2_4 (by simp only [if_neg c_18])
        · refine z_iload_n X dX0_longestOf_21 2 rfl ?_
          refine z_aload_n X dX0_longestOf_22 0 rfl ?_
          refine zC_g0 X wd1_30 dX0_longestOf_23 ?_
          refine z_iload_n X dX0_longestOf_26 3 rfl ?_
          refine zC_l0 X (vin_k (cu_lt hi (by omega) hP c_9) (by omega) (by omega)) rfl dX0_longestOf_27 ?_
          refine z_mmax X wd2_31 ⟨Nat.le_of_ble_eq_true rfl, Nat.le_of_ble_eq_true rfl⟩ ⟨Nat.zero_le _, Nat.zero_le _⟩ dX0_longestOf_28 (fun r_28 er_28 => ?_)
          refine z_istore_n (lv' := [(2, .int r_28), (0, .ref (q 0)), (1, .int a1), (3, .int x3_4)]) X dX0_longestOf_31 (Nat.le_of_ble_eq_true rfl) rfl ?_
          refine z_lv (lv' := [(0, .ref (q 0)), (1, .int a1), (2, .int r_28), (3, .int x3_4)]) [1, 2, 0, 3] rfl ?_
          exact J_j_32 r_28 (by subst er_28; simp only [if_pos c_18])
  refine Lp_4 9 (0 : Int32) (0 : Int32) (cu_i (by omega)) (fun q_4 eq_4 => ?_)
  refine z_iload_n X dX0_longestOf_38 0 rfl ?_
  exact z_iret X hQ rfl q_4 rfl rfl (by subst eq_4; simp only [F_C_longestOf]) dX0_longestOf_39
set_option maxRecDepth 100000 in
set_option maxHeartbeats 4000000 in
theorem c_C_longestInWorkload (l : Launch) (D : va_G) (kI kC kQ : ClassId) (q : Nat → Nat) (C : CS) (hc : bn 1 16 (C.1 4 4)) (hp : bn 1 8 (C.1 4 2)) : CtI (U := Int32) l yX0_longestInWorkload cX0_longestInWorkload 3 (some .int) { frames := 2, cells := 0, slots := 0, locals := 44 } D (tysG kI kC kQ) (wC kI q C) [.ref (q 0)] (fun u => u) (fun _ => (wC kI q C)) (fun u => u = F_C_longestInWorkload C) := by
  refine met_Zi (own := "ShadowLatches$Circuit") (by decide +kernel) rfl (Nat.le_of_ble_eq_true rfl) ?_
  intro p e s m args below meth c A Q X hQ
  show Z p l e { frames := 2, cells := 0, slots := 0, locals := 44 } s m args below meth c D A 3 0 0 Q (wC kI q C) [(0, .ref (q 0))] 0 []
  obtain ⟨N, hN1, hN2, hN⟩ := hc
  refine z_iconst (v := (0 : Int32)) X dX0_longestInWorkload_0 (by decide) ?_
  refine z_istore_n (lv' := [(1, .int (0 : Int32)), (0, .ref (q 0))]) X dX0_longestInWorkload_1 (Nat.le_of_ble_eq_true rfl) rfl ?_
  refine z_iconst (v := (0 : Int32)) X dX0_longestInWorkload_2 (by decide) ?_
  refine z_istore_n (lv' := [(2, .int (0 : Int32)), (1, .int (0 : Int32)), (0, .ref (q 0))]) X dX0_longestInWorkload_3 (Nat.le_of_ble_eq_true rfl) rfl ?_
  refine z_lv (lv' := [(0, .ref (q 0)), (1, .int (0 : Int32)), (2, .int (0 : Int32))]) [2, 1, 0] rfl ?_
  have Lp_4 : ∀ (n : Nat) (x1_4 : Int32) (x2_4 : Int32), (cu N n x2_4) → (∀ (q_4 : Int32), q_4 = L_C_longestInWorkload_4 C n x1_4 x2_4 → Z p l e { frames := 2, cells := 0, slots := 0, locals := 44 } s m args below meth c D A 3 0 0 Q (wC kI q C) [(0, .ref (q 0)), (1, .int q_4)] 27 []) → Z p l e { frames := 2, cells := 0, slots := 0, locals := 44 } s m args below meth c D A 3 0 0 Q (wC kI q C) [(0, .ref (q 0)), (1, .int x1_4), (2, .int x2_4)] 4 [] := by
    intro n
    induction n with
    | zero =>
      intro x1_4 x2_4 hi kk_4
      exfalso
      exact cu_0 hi
    | succ n ih_4 =>
      intro x1_4 x2_4 hi kk_4
      refine z_iload_n X dX0_longestInWorkload_4 2 rfl ?_
      refine z_aload_n X dX0_longestInWorkload_5 0 rfl ?_
      refine zC_g4 X wd1_38 dX0_longestInWorkload_6 ?_
      refine z_icmp_ge (tgt := 27) X dX0_longestInWorkload_9 (by decide) (fun c_9 => ?_) (fun c_9 => ?_)
      · refine z_lv (lv' := [(0, .ref (q 0)), (1, .int x1_4)]) [0, 1] rfl ?_
        exact kk_4 x1_4 (by simp only [L_C_longestInWorkload_4, if_pos c_9]) 
      · refine z_iload_n X dX0_longestInWorkload_12 1 rfl ?_
        refine z_aload_n X dX0_longestInWorkload_13 0 rfl ?_
        refine zC_g3 X wd1_36 dX0_longestInWorkload_14 ?_
        refine z_iload_n X dX0_longestInWorkload_17 2 rfl ?_
        refine zC_l2 X (vin_k (cu_lt hi (by omega) hN c_9) (by omega) (by omega)) rfl dX0_longestInWorkload_18 ?_
        refine z_ior X dX0_longestInWorkload_19 ?_
        refine z_topi (fun v_20 ev_20 => ?_)
        refine z_istore_n (lv' := [(1, .int v_20), (0, .ref (q 0)), (2, .int x2_4)]) X dX0_longestInWorkload_20 (Nat.le_of_ble_eq_true rfl) rfl ?_
        obtain ⟨v_21, ev_21⟩ : ∃ y : Int32, y = x2_4 + (1 : Int32) := ⟨_, rfl⟩
        refine z_iinc (v := v_21) (lv' := [(2, .int v_21), (1, .int v_20), (0, .ref (q 0))]) X dX0_longestInWorkload_21 2 rfl (by rw [ev_21]; rfl) (Nat.le_of_ble_eq_true rfl) rfl ?_
        refine z_goto (tgt := 4) X dX0_longestInWorkload_24 (by decide) ?_
        refine z_lv (lv' := [(0, .ref (q 0)), (1, .int v_20), (2, .int v_21)]) [2, 1, 0] rfl ?_
        exact ih_4 v_20 v_21 (cu_b hi (by omega) hN c_9 ev_21) (fun q_4 eq_4 => kk_4 q_4 (eq_4.trans (by subst ev_20 ev_21; simp only [L_C_longestInWorkload_4, if_neg c_9])))
  refine Lp_4 17 (0 : Int32) (0 : Int32) (cu_i (by omega)) (fun q_4 eq_4 => ?_)
  refine z_aload_n X dX0_longestInWorkload_27 0 rfl ?_
  refine z_iload_n X dX0_longestInWorkload_28 1 rfl ?_
  refine z_callVi0 X (c_C_longestOf l D kI kC kQ q C q_4 hp) (gV wd2_27 wd2_28 wd2_29 wd1_2 wd2_30) k_C_longestOf rfl rfl ⟨Nat.le_of_ble_eq_true rfl, Nat.le_of_ble_eq_true rfl⟩ ⟨Nat.zero_le _, Nat.zero_le _⟩ 0 0 rfl rfl rfl rfl rfl (Nat.le_of_ble_eq_true rfl) dX0_longestInWorkload_29 (fun r_29 er_29 => ?_)
  exact z_iret X hQ rfl r_29 rfl rfl (by subst eq_4 er_29; simp only [F_C_longestInWorkload]) dX0_longestInWorkload_32
set_option maxRecDepth 100000 in
set_option maxHeartbeats 4000000 in
theorem c_C_countUses (l : Launch) (D : va_G) (kI kC kQ : ClassId) (q : Nat → Nat) (C : CS) (a1 : Int32) (hp : bn 1 8 (C.1 4 2)) : CtV (U := CS) l yX0_countUses cX0_countUses 3 none { frames := 0, cells := 0, slots := 0, locals := 0 } D (tysG kI kC kQ) (wC kI q C) [.ref (q 0), .int a1] (fun u => (wC kI q u)) (fun u => u = F_C_countUses C a1) := by
  refine met_Zv (own := "ShadowLatches$Circuit") (by decide +kernel) rfl (Nat.le_of_ble_eq_true rfl) ?_
  intro p e s m args below meth c A Q X hQ
  show Z p l e { frames := 0, cells := 0, slots := 0, locals := 0 } s m args below meth c D A 3 0 0 Q (wC kI q C) [(0, .ref (q 0)), (1, .int a1)] 0 []
  obtain ⟨P, hP1, hP2, hP⟩ := hp
  refine z_iconst (v := (0 : Int32)) X dX0_countUses_0 (by decide) ?_
  refine z_istore_n (lv' := [(2, .int (0 : Int32)), (0, .ref (q 0)), (1, .int a1)]) X dX0_countUses_1 (Nat.le_of_ble_eq_true rfl) rfl ?_
  refine z_lv (lv' := [(0, .ref (q 0)), (1, .int a1), (2, .int (0 : Int32))]) [1, 2, 0] rfl ?_
  have Lp_2 : ∀ (n : Nat) (x2_2 : Int32) (C_2 : CS), (cu P n x2_2) → (C_2.1 4 2 = nI P) → (∀ (q_2 : CS), q_2 = L_C_countUses_2 a1 n x2_2 C_2 → Z p l e { frames := 0, cells := 0, slots := 0, locals := 0 } s m args below meth c D A 3 0 0 Q (wC kI q q_2) [] 30 []) → Z p l e { frames := 0, cells := 0, slots := 0, locals := 0 } s m args below meth c D A 3 0 0 Q (wC kI q C_2) [(0, .ref (q 0)), (1, .int a1), (2, .int x2_2)] 2 [] := by
    intro n
    induction n with
    | zero =>
      intro x2_2 C_2 hi hq kk_2
      exfalso
      exact cu_0 hi
    | succ n ih_2 =>
      intro x2_2 C_2 hi hq kk_2
      refine z_iload_n X dX0_countUses_2 2 rfl ?_
      refine z_aload_n X dX0_countUses_3 0 rfl ?_
      refine zC_g2 X wd1_34 dX0_countUses_4 ?_
      refine z_icmp_ge (tgt := 30) X dX0_countUses_7 (by decide) (fun c_7 => ?_) (fun c_7 => ?_)
      · refine z_lv (lv' := []) [] rfl ?_
        exact kk_2 C_2 (by simp only [L_C_countUses_2, if_pos c_7]) 
      · refine z_aload_n X dX0_countUses_10 0 rfl ?_
        refine zC_g1 X wd1_32 dX0_countUses_11 ?_
        refine z_iload_n X dX0_countUses_14 2 rfl ?_
        refine z_dup2 X dX0_countUses_15 rfl rfl ?_
        refine zC_l1 X (vin_k (cu_lt hi (by omega) hq c_7) (by omega) (by omega)) rfl dX0_countUses_16 ?_
        refine z_iload_n X dX0_countUses_17 1 rfl ?_
        refine z_iload_n X dX0_countUses_18 2 rfl ?_
        refine z_ishr X dX0_countUses_19 ?_
        refine z_iconst (v := (1 : Int32)) X dX0_countUses_20 (by decide) ?_
        refine z_iand X dX0_countUses_21 ?_
        refine z_iadd X dX0_countUses_22 ?_
        refine zC_s1 X (vin_k (cu_lt hi (by omega) hq c_7) (by omega) (by omega)) rfl dX0_countUses_23 (fun C_23 eC_23 => ?_)
        obtain ⟨v_24, ev_24⟩ : ∃ y : Int32, y = x2_2 + (1 : Int32) := ⟨_, rfl⟩
        refine z_iinc (v := v_24) (lv' := [(2, .int v_24), (0, .ref (q 0)), (1, .int a1)]) X dX0_countUses_24 2 rfl (by rw [ev_24]; rfl) (Nat.le_of_ble_eq_true rfl) rfl ?_
        refine z_goto (tgt := 2) X dX0_countUses_27 (by decide) ?_
        refine z_lv (lv' := [(0, .ref (q 0)), (1, .int a1), (2, .int v_24)]) [1, 2, 0] rfl ?_
        exact ih_2 v_24 C_23 (cu_b hi (by omega) hq c_7 ev_24) (by rw [eC_23]; exact hq) (fun q_2 eq_2 => kk_2 q_2 (eq_2.trans (by subst eC_23 ev_24; simp only [L_C_countUses_2, if_neg c_7])))
  refine Lp_2 9 (0 : Int32) C (cu_i (by omega)) hP (fun q_2 eq_2 => ?_)
  exact z_vret X hQ rfl q_2 rfl (by subst eq_2; simp only [F_C_countUses]) dX0_countUses_30
set_option maxRecDepth 100000 in
set_option maxHeartbeats 4000000 in
theorem c_C_changeHeat (l : Launch) (D : va_G) (kI kC kQ : ClassId) (q : Nat → Nat) (C : CS) (a1 : Int32) : CtV (U := CS) l yX0_changeHeat cX0_changeHeat 2 none { frames := 0, cells := 0, slots := 0, locals := 0 } D (tysG kI kC kQ) (wC kI q C) [.ref (q 0), .int a1] (fun u => (wC kI q u)) (fun u => u = F_C_changeHeat C a1) := by
  refine met_Zv (own := "ShadowLatches$Circuit") (by decide +kernel) rfl (Nat.le_of_ble_eq_true rfl) ?_
  intro p e s m args below meth c A Q X hQ
  show Z p l e { frames := 0, cells := 0, slots := 0, locals := 0 } s m args below meth c D A 2 0 0 Q (wC kI q C) [(0, .ref (q 0)), (1, .int a1)] 0 []
  refine z_aload_n X dX0_changeHeat_0 0 rfl ?_
  refine zC_g8 X wd1_46 dX0_changeHeat_1 ?_
  refine z_iload_n X dX0_changeHeat_4 1 rfl ?_
  have J_j_39 : ∀ (j_39 : CS), j_39 = (if a1 ≤ (C.1 4 8) then (if (C.1 4 8) ≤ a1 then (C) else (let C_36 : CS := sC C 4 8 ((C.1 4 8) - (1 : Int32)); C_36)) else (let C_15 : CS := sC C 4 8 ((C.1 4 8) + (1 : Int32)); C_15)) → Z p l e { frames := 0, cells := 0, slots := 0, locals := 0 } s m args below meth c D A 2 0 0 Q (wC kI q j_39) [] 39 [] := by
    intro j_39 ej_39
    exact z_vret X hQ rfl j_39 rfl (by subst ej_39; simp only [F_C_changeHeat]) dX0_changeHeat_39
  refine z_icmp_ge (tgt := 21) X dX0_changeHeat_5 (by decide) (fun c_5 => ?_) (fun c_5 => ?_)
  · refine z_aload_n X dX0_changeHeat_21 0 rfl ?_
    refine zC_g8 X wd1_46 dX0_changeHeat_22 ?_
    refine z_iload_n X dX0_changeHeat_25 1 rfl ?_
    refine z_icmp_le (tgt := 39) X dX0_changeHeat_26 (by decide) (fun c_26 => ?_) (fun c_26 => ?_)
    · refine z_lv (lv' := []) [] rfl ?_
      exact J_j_39 C (by simp only [if_pos c_5, if_pos c_26])
    · refine z_aload_n X dX0_changeHeat_29 0 rfl ?_
      refine z_dup X dX0_changeHeat_30 rfl ?_
      refine zC_g8 X wd1_46 dX0_changeHeat_31 ?_
      refine z_iconst (v := (1 : Int32)) X dX0_changeHeat_34 (by decide) ?_
      refine z_isub X dX0_changeHeat_35 ?_
      refine zC_p8 X wd1_46 dX0_changeHeat_36 (fun C_36 eC_36 => ?_)
      refine z_lv (lv' := []) [] rfl ?_
      exact J_j_39 C_36 (by subst eC_36; simp only [if_pos c_5, if_neg c_26])
  · refine z_aload_n X dX0_changeHeat_8 0 rfl ?_
    refine z_dup X dX0_changeHeat_9 rfl ?_
    refine zC_g8 X wd1_46 dX0_changeHeat_10 ?_
    refine z_iconst (v := (1 : Int32)) X dX0_changeHeat_13 (by decide) ?_
    refine z_iadd X dX0_changeHeat_14 ?_
    refine zC_p8 X wd1_46 dX0_changeHeat_15 (fun C_15 eC_15 => ?_)
    refine z_goto (tgt := 39) X dX0_changeHeat_18 (by decide) ?_
    refine z_lv (lv' := []) [] rfl ?_
    exact J_j_39 C_15 (by subst eC_15; simp only [if_neg c_5])
set_option maxRecDepth 100000 in
set_option maxHeartbeats 4000000 in
theorem c_C_spendCycle (l : Launch) (D : va_G) (kI kC kQ : ClassId) (q : Nat → Nat) (C : CS) (a1 : Int32) : CtV (U := CS) l yX0_spendCycle cX0_spendCycle 2 none { frames := 1, cells := 0, slots := 0, locals := 21 } D (tysG kI kC kQ) (wC kI q C) [.ref (q 0), .int a1] (fun u => (wC kI q u)) (fun u => u = F_C_spendCycle C a1) := by
  refine met_Zv (own := "ShadowLatches$Circuit") (by decide +kernel) rfl (Nat.le_of_ble_eq_true rfl) ?_
  intro p e s m args below meth c A Q X hQ
  show Z p l e { frames := 1, cells := 0, slots := 0, locals := 21 } s m args below meth c D A 2 0 0 Q (wC kI q C) [(0, .ref (q 0)), (1, .int a1)] 0 []
  refine z_aload_n X dX0_spendCycle_0 0 rfl ?_
  refine z_dup X dX0_spendCycle_1 rfl ?_
  refine zC_g12 X wd1_54 dX0_spendCycle_2 ?_
  refine z_iconst (v := (1 : Int32)) X dX0_spendCycle_5 (by decide) ?_
  refine z_iadd X dX0_spendCycle_6 ?_
  refine zC_p12 X wd1_54 dX0_spendCycle_7 (fun C_7 eC_7 => ?_)
  refine z_aload_n X dX0_spendCycle_10 0 rfl ?_
  refine zC_g9 X wd1_48 dX0_spendCycle_11 ?_
  have J_j_27 : ∀ (j_27 : CS), j_27 = (if (C_7.1 4 9) = (0 : Int32) then (C_7) else (let C_24 : CS := sC C_7 4 10 ((C_7.1 4 10) + (1 : Int32)); C_24)) → Z p l e { frames := 1, cells := 0, slots := 0, locals := 21 } s m args below meth c D A 2 0 0 Q (wC kI q j_27) [(0, .ref (q 0)), (1, .int a1)] 27 [] := by
    intro j_27 ej_27
    refine z_aload_n X dX0_spendCycle_27 0 rfl ?_
    refine z_dup X dX0_spendCycle_28 rfl ?_
    refine zC_g16 X wd1_62 dX0_spendCycle_29 ?_
    refine z_aload_n X dX0_spendCycle_32 0 rfl ?_
    refine zC_g7 X wd1_44 dX0_spendCycle_33 ?_
    refine z_aload_n X dX0_spendCycle_36 0 rfl ?_
    refine zC_g7 X wd1_44 dX0_spendCycle_37 ?_
    refine z_imul X dX0_spendCycle_40 ?_
    refine z_sipush (v := (10000 : Int32)) X dX0_spendCycle_41 (by decide) ?_
    refine z_idiv X dX0_spendCycle_44 (by decide) ?_
    refine z_i2l X dX0_spendCycle_45 ?_
    refine z_ladd X dX0_spendCycle_46 ?_
    refine zC_p16 X wd1_62 dX0_spendCycle_47 (fun C_47 eC_47 => ?_)
    refine z_aload_n X dX0_spendCycle_50 0 rfl ?_
    refine zC_g12 X wd1_54 dX0_spendCycle_51 ?_
    refine z_iconst (v := (4 : Int32)) X dX0_spendCycle_54 (by decide) ?_
    refine z_irem X dX0_spendCycle_55 (by decide) ?_
    have J_j_80 : ∀ (j_80 : CS), j_80 = (if ((C_47.1 4 12) - (C_47.1 4 12) / (4 : Int32) * (4 : Int32)) = (0 : Int32) then (let r_74 : Int32 := (F_J_min (120 : Int32) ((20 : Int32) + ((a1 * (C_47.1 4 7)) / (100 : Int32)))); let r_77 : CS := (F_C_changeHeat C_47 r_74); r_77) else (C_47)) → Z p l e { frames := 1, cells := 0, slots := 0, locals := 21 } s m args below meth c D A 2 0 0 Q (wC kI q j_80) [] 80 [] := by
      intro j_80 ej_80
      exact z_vret X hQ rfl j_80 rfl (by subst eC_7 ej_27 eC_47 ej_80; simp only [F_C_spendCycle]) dX0_spendCycle_80
    refine z_if_ne (tgt := 80) X dX0_spendCycle_56 (by decide) (fun c_56 => ?_) (fun c_56 => ?_)
    · refine z_lv (lv' := []) [] rfl ?_
      exact J_j_80 C_47 (by simp only [if_neg c_56])
    · refine z_aload_n X dX0_spendCycle_59 0 rfl ?_
      refine z_bipush (v := (120 : Int32)) X dX0_spendCycle_60 (by decide) ?_
      refine z_bipush (v := (20 : Int32)) X dX0_spendCycle_62 (by decide) ?_
      refine z_iload_n X dX0_spendCycle_64 1 rfl ?_
      refine z_aload_n X dX0_spendCycle_65 0 rfl ?_
      refine zC_g7 X wd1_44 dX0_spendCycle_66 ?_
      refine z_imul X dX0_spendCycle_69 ?_
      refine z_bipush (v := (100 : Int32)) X dX0_spendCycle_70 (by decide) ?_
      refine z_idiv X dX0_spendCycle_72 (by decide) ?_
      refine z_iadd X dX0_spendCycle_73 ?_
      refine z_mmin X wd2_48 ⟨Nat.le_of_ble_eq_true rfl, Nat.le_of_ble_eq_true rfl⟩ ⟨Nat.zero_le _, Nat.zero_le _⟩ dX0_spendCycle_74 (fun r_74 er_74 => ?_)
      refine z_callVv0 X (c_C_changeHeat l D kI kC kQ q C_47 r_74) (gV wd2_51 wd2_53 wd0_6 wd1_2 wd2_54) k_C_changeHeat rfl rfl ⟨Nat.le_of_ble_eq_true rfl, Nat.le_of_ble_eq_true rfl⟩ ⟨Nat.zero_le _, Nat.zero_le _⟩ 0 0 rfl rfl rfl rfl rfl (Nat.le_of_ble_eq_true rfl) dX0_spendCycle_77 (fun r_77 er_77 => ?_)
      refine z_lv (lv' := []) [] rfl ?_
      exact J_j_80 r_77 (by subst er_74 er_77; simp only [if_pos c_56])
  refine z_if_eq (tgt := 27) X dX0_spendCycle_14 (by decide) (fun c_14 => ?_) (fun c_14 => ?_)
  · exact J_j_27 C_7 (by simp only [if_pos c_14])
  · refine z_aload_n X dX0_spendCycle_17 0 rfl ?_
    refine z_dup X dX0_spendCycle_18 rfl ?_
    refine zC_g10 X wd1_50 dX0_spendCycle_19 ?_
    refine z_iconst (v := (1 : Int32)) X dX0_spendCycle_22 (by decide) ?_
    refine z_iadd X dX0_spendCycle_23 ?_
    refine zC_p10 X wd1_50 dX0_spendCycle_24 (fun C_24 eC_24 => ?_)
    exact J_j_27 C_24 (by subst eC_24; simp only [if_neg c_14])
set_option maxRecDepth 100000 in
set_option maxHeartbeats 4000000 in
theorem c_C_complain (l : Launch) (D : va_G) (kI kC kQ : ClassId) (q : Nat → Nat) (C : CS) (hr : bn 1 20 (C.1 3 2)) : CtV (U := CS) l yX0_complain cX0_complain 2 none { frames := 2, cells := 0, slots := 0, locals := 42 } D (tysG kI kC kQ) (wC kI q C) [.ref (q 0)] (fun u => (wC kI q u)) (fun u => u = F_C_complain C) := by
  refine met_Zv (own := "ShadowLatches$Circuit") (by decide +kernel) rfl (Nat.le_of_ble_eq_true rfl) ?_
  intro p e s m args below meth c A Q X hQ
  show Z p l e { frames := 2, cells := 0, slots := 0, locals := 42 } s m args below meth c D A 2 0 0 Q (wC kI q C) [(0, .ref (q 0))] 0 []
  obtain ⟨R9, hR1, hR2, hR⟩ := hr
  refine z_aload_n X dX0_complain_0 0 rfl ?_
  refine z_dup X dX0_complain_1 rfl ?_
  refine zC_g14 X wd1_58 dX0_complain_2 ?_
  refine z_iconst (v := (1 : Int32)) X dX0_complain_5 (by decide) ?_
  refine z_iadd X dX0_complain_6 ?_
  refine zC_p14 X wd1_58 dX0_complain_7 (fun C_7 eC_7 => ?_)
  refine z_aload_n X dX0_complain_10 0 rfl ?_
  refine zC_g9 X wd1_48 dX0_complain_11 ?_
  have J_j_27 : ∀ (j_27 : CS), j_27 = (if (C_7.1 4 9) = (0 : Int32) then (C_7) else (let C_24 : CS := sC C_7 4 11 ((C_7.1 4 11) + (1 : Int32)); C_24)) → (j_27.1 3 2 = nI R9) → Z p l e { frames := 2, cells := 0, slots := 0, locals := 42 } s m args below meth c D A 2 0 0 Q (wC kI q j_27) [(0, .ref (q 0))] 27 [] := by
    intro j_27 ej_27 hj
    refine z_iconst (v := (0 : Int32)) X dX0_complain_27 (by decide) ?_
    refine z_istore_n (lv' := [(1, .int (0 : Int32)), (0, .ref (q 0))]) X dX0_complain_28 (Nat.le_of_ble_eq_true rfl) rfl ?_
    refine z_lv (lv' := [(0, .ref (q 0)), (1, .int (0 : Int32))]) [1, 0] rfl ?_
    have Lp_29 : ∀ (n : Nat) (x1_29 : Int32) (C_29 : CS), (cu R9 n x1_29) → (C_29.1 3 2 = nI R9) → (∀ (q_29 : CS), q_29 = L_C_complain_29 n x1_29 C_29 → Z p l e { frames := 2, cells := 0, slots := 0, locals := 42 } s m args below meth c D A 2 0 0 Q (wC kI q q_29) [] 50 []) → Z p l e { frames := 2, cells := 0, slots := 0, locals := 42 } s m args below meth c D A 2 0 0 Q (wC kI q C_29) [(0, .ref (q 0)), (1, .int x1_29)] 29 [] := by
      intro n
      induction n with
      | zero =>
        intro x1_29 C_29 hi hq kk_29
        exfalso
        exact cu_0 hi
      | succ n ih_29 =>
        intro x1_29 C_29 hi hq kk_29
        refine z_iload_n X dX0_complain_29 1 rfl ?_
        refine z_aload_n X dX0_complain_30 0 rfl ?_
        refine zC_g6 X wd1_42 dX0_complain_31 ?_
        refine z_iconst (v := (2 : Int32)) X dX0_complain_34 (by decide) ?_
        refine zC_l3 X vi_2_7 cl_2 dX0_complain_35 ?_
        refine z_icmp_ge (tgt := 50) X dX0_complain_36 (by decide) (fun c_36 => ?_) (fun c_36 => ?_)
        · refine z_lv (lv' := []) [] rfl ?_
          exact kk_29 C_29 (by simp only [L_C_complain_29, if_pos c_36]) 
        · refine z_aload_n X dX0_complain_39 0 rfl ?_
          refine z_iconst (v := (0 : Int32)) X dX0_complain_40 (by decide) ?_
          refine z_callVv0 X (c_C_spendCycle l D kI kC kQ q C_29 (0 : Int32)) (gV wd2_44 wd2_46 wd0_5 wd1_2 wd2_47) k_C_spendCycle rfl rfl ⟨Nat.le_of_ble_eq_true rfl, Nat.le_of_ble_eq_true rfl⟩ ⟨Nat.zero_le _, Nat.zero_le _⟩ 0 0 rfl rfl rfl rfl rfl (Nat.le_of_ble_eq_true rfl) dX0_complain_41 (fun r_41 er_41 => ?_)
          obtain ⟨v_44, ev_44⟩ : ∃ y : Int32, y = x1_29 + (1 : Int32) := ⟨_, rfl⟩
          refine z_iinc (v := v_44) (lv' := [(1, .int v_44), (0, .ref (q 0))]) X dX0_complain_44 1 rfl (by rw [ev_44]; rfl) (Nat.le_of_ble_eq_true rfl) rfl ?_
          refine z_goto (tgt := 29) X dX0_complain_47 (by decide) ?_
          refine z_lv (lv' := [(0, .ref (q 0)), (1, .int v_44)]) [1, 0] rfl ?_
          exact ih_29 v_44 r_41 (cu_b hi (by omega) hq c_36 ev_44) (by rw [er_41, Cspend_3]; exact hq) (fun q_29 eq_29 => kk_29 q_29 (eq_29.trans (by subst er_41 ev_44; simp only [L_C_complain_29, if_neg c_36])))
    refine Lp_29 21 (0 : Int32) j_27 (cu_i (by omega)) hj (fun q_29 eq_29 => ?_)
    exact z_vret X hQ rfl q_29 rfl (by subst eC_7 ej_27 eq_29; simp only [F_C_complain]) dX0_complain_50
  refine z_if_eq (tgt := 27) X dX0_complain_14 (by decide) (fun c_14 => ?_) (fun c_14 => ?_)
  · exact J_j_27 C_7 (by simp only [if_pos c_14]) (by rw [eC_7]; exact hR)
  · refine z_aload_n X dX0_complain_17 0 rfl ?_
    refine z_dup X dX0_complain_18 rfl ?_
    refine zC_g11 X wd1_52 dX0_complain_19 ?_
    refine z_iconst (v := (1 : Int32)) X dX0_complain_22 (by decide) ?_
    refine z_iadd X dX0_complain_23 ?_
    refine zC_p11 X wd1_52 dX0_complain_24 (fun C_24 eC_24 => ?_)
    exact J_j_27 C_24 (by subst eC_24; simp only [if_neg c_14]) (by rw [eC_24, eC_7]; exact hR)
set_option maxRecDepth 100000 in
set_option maxHeartbeats 4000000 in
theorem c_C_runOneCycle (l : Launch) (D : va_G) (kI kC kQ : ClassId) (q : Nat → Nat) (C : CS) (hO : OKC C) : CtV (U := CS) l yX0_runOneCycle cX0_runOneCycle 3 none { frames := 3, cells := 0, slots := 0, locals := 63 } D (tysG kI kC kQ) (wC kI q C) [.ref (q 0)] (fun u => (wC kI q u)) (fun u => u = F_C_runOneCycle C) := by
  refine met_Zv (own := "ShadowLatches$Circuit") (by decide +kernel) rfl (Nat.le_of_ble_eq_true rfl) ?_
  intro p e s m args below meth c A Q X hQ
  show Z p l e { frames := 3, cells := 0, slots := 0, locals := 63 } s m args below meth c D A 3 0 0 Q (wC kI q C) [(0, .ref (q 0))] 0 []
  refine z_aload_n X dX0_runOneCycle_0 0 rfl ?_
  refine zC_g3 X wd1_36 dX0_runOneCycle_1 ?_
  refine z_aload_n X dX0_runOneCycle_4 0 rfl ?_
  refine zC_g5 X wd1_40 dX0_runOneCycle_5 ?_
  refine zC_l2 X hO.qi rfl dX0_runOneCycle_8 ?_
  refine z_topi (fun v_9 ev_9 => ?_)
  refine z_istore_n (lv' := [(1, .int v_9), (0, .ref (q 0))]) X dX0_runOneCycle_9 (Nat.le_of_ble_eq_true rfl) rfl ?_
  refine z_aload_n X dX0_runOneCycle_10 1 rfl ?_
  refine z_aload_n X dX0_runOneCycle_11 1 rfl ?_
  refine zC_g5 X wd1_40 dX0_runOneCycle_12 ?_
  refine z_iconst (v := (1 : Int32)) X dX0_runOneCycle_15 (by decide) ?_
  refine z_iadd X dX0_runOneCycle_16 ?_
  refine z_aload_n X dX0_runOneCycle_17 1 rfl ?_
  refine zC_g4 X wd1_38 dX0_runOneCycle_18 ?_
  have J_j_34 : ∀ (j_34 : Int32), j_34 = (if (C.1 4 4) ≤ ((C.1 4 5) + (1 : Int32)) then ((0 : Int32)) else (((C.1 4 5) + (1 : Int32)))) → Z p l e { frames := 3, cells := 0, slots := 0, locals := 63 } s m args below meth c D A 3 0 0 Q (wC kI q C) [(0, .ref (q 0)), (1, .int v_9)] 34 [.int j_34, .ref (q 0)] := by
    intro j_34 ej_34
    refine zC_p5 X wd1_40 dX0_runOneCycle_34 (fun C_34 eC_34 => ?_)
    refine z_aload_n X dX0_runOneCycle_37 0 rfl ?_
    refine z_aload_n X dX0_runOneCycle_38 0 rfl ?_
    refine z_iload_n X dX0_runOneCycle_39 1 rfl ?_
    refine z_callVi0 X (c_C_longestOf l D kI kC kQ q C_34 v_9 (by rw [eC_34]; exact hO.p)) (gV wd2_27 wd2_28 wd2_29 wd1_2 wd2_30) k_C_longestOf rfl rfl ⟨Nat.le_of_ble_eq_true rfl, Nat.le_of_ble_eq_true rfl⟩ ⟨Nat.zero_le _, Nat.zero_le _⟩ 0 0 rfl rfl rfl rfl rfl (Nat.le_of_ble_eq_true rfl) dX0_runOneCycle_40 (fun r_40 er_40 => ?_)
    refine z_aload_n X dX0_runOneCycle_43 0 rfl ?_
    refine zC_g7 X wd1_44 dX0_runOneCycle_44 ?_
    refine z_aload_n X dX0_runOneCycle_47 0 rfl ?_
    refine zC_g8 X wd1_46 dX0_runOneCycle_48 ?_
    refine z_callSiN X (c_C_delayOf l D kI kC kQ r_40 (C_34.1 4 7) (C_34.1 4 8) (by rw [eC_34]; exact vne hO.v)) (gS wd1_198 wd1_199 wd1_2 wd1_200) k_C_delayOf rfl rfl ⟨Nat.le_of_ble_eq_true rfl, Nat.le_of_ble_eq_true rfl⟩ ⟨Nat.zero_le _, Nat.zero_le _⟩ rfl rfl (Nat.le_of_ble_eq_true rfl) dX0_runOneCycle_51 rfl (fun _ => rfl) (fun r_51 er_51 => ?_)
    refine z_callVi0 X (c_C_judge l D kI kC kQ q C_34 r_51) (gV wd1_201 wd1_202 wd1_203 wd1_2 wd1_204) k_C_judge rfl rfl ⟨Nat.le_of_ble_eq_true rfl, Nat.le_of_ble_eq_true rfl⟩ ⟨Nat.zero_le _, Nat.zero_le _⟩ 0 0 rfl rfl rfl rfl rfl (Nat.le_of_ble_eq_true rfl) dX0_runOneCycle_54 (fun r_54 er_54 => ?_)
    refine z_istore_n (lv' := [(2, .int r_54), (0, .ref (q 0)), (1, .int v_9)]) X dX0_runOneCycle_57 (Nat.le_of_ble_eq_true rfl) rfl ?_
    refine z_aload_n X dX0_runOneCycle_58 1 rfl ?_
    refine z_iload_n X dX0_runOneCycle_59 2 rfl ?_
    refine z_callVv0 X (c_C_countUses l D kI kC kQ q C_34 v_9 (by rw [eC_34]; exact hO.p)) (gV wd2_34 wd2_36 wd0_4 wd1_2 wd2_37) k_C_countUses rfl rfl ⟨Nat.le_of_ble_eq_true rfl, Nat.le_of_ble_eq_true rfl⟩ ⟨Nat.zero_le _, Nat.zero_le _⟩ 0 0 rfl rfl rfl rfl rfl (Nat.le_of_ble_eq_true rfl) dX0_runOneCycle_60 (fun r_60 er_60 => ?_)
    refine z_aload_n X dX0_runOneCycle_63 1 rfl ?_
    refine z_iload_n X dX0_runOneCycle_64 2 rfl ?_
    refine z_callSiN X (c_J_bitCount l D kI kC kQ v_9) (gS wd2_38 wd2_39 wd1_6 wd2_40) k_J_bitCount rfl rfl ⟨Nat.le_of_ble_eq_true rfl, Nat.le_of_ble_eq_true rfl⟩ ⟨Nat.zero_le _, Nat.zero_le _⟩ rfl rfl (Nat.le_of_ble_eq_true rfl) dX0_runOneCycle_65 rfl (fun _ => rfl) (fun r_65 er_65 => ?_)
    refine z_callVv0 X (c_C_spendCycle l D kI kC kQ q r_60 r_65) (gV wd2_44 wd2_46 wd0_5 wd1_2 wd2_47) k_C_spendCycle rfl rfl ⟨Nat.le_of_ble_eq_true rfl, Nat.le_of_ble_eq_true rfl⟩ ⟨Nat.zero_le _, Nat.zero_le _⟩ 0 0 rfl rfl rfl rfl rfl (Nat.le_of_ble_eq_true rfl) dX0_runOneCycle_68 (fun r_68 er_68 => ?_)
    refine z_iload_n X dX0_runOneCycle_71 0 rfl ?_
    refine z_iconst (v := (2 : Int32)) X dX0_runOneCycle_72 (by decide) ?_
    refine z_icmp_ne (tgt := 87) X dX0_runOneCycle_73 (by decide) (fun c_73 => ?_) (fun c_73 => ?_)
    · refine z_iload_n X dX0_runOneCycle_87 0 rfl ?_
      refine z_iconst (v := (1 : Int32)) X dX0_runOneCycle_88 (by decide) ?_
      have J_j_96 : ∀ (j_96 : CS), j_96 = (if r_54 = (1 : Int32) then (let r_93 : CS := (F_C_complain r_68); r_93) else (r_68)) → Z p l e { frames := 3, cells := 0, slots := 0, locals := 63 } s m args below meth c D A 3 0 0 Q (wC kI q j_96) [(0, .ref (q 0))] 96 [] := by
        intro j_96 ej_96
        refine z_aload_n X dX0_runOneCycle_96 0 rfl ?_
        refine z_dup X dX0_runOneCycle_97 rfl ?_
        refine zC_g13 X wd1_56 dX0_runOneCycle_98 ?_
        refine z_iconst (v := (1 : Int32)) X dX0_runOneCycle_101 (by decide) ?_
        refine z_iadd X dX0_runOneCycle_102 ?_
        refine zC_p13 X wd1_56 dX0_runOneCycle_103 (fun C_103 eC_103 => ?_)
        exact z_vret X hQ rfl C_103 rfl (by subst ev_9 ej_34 eC_34 er_40 er_51 er_54 er_60 er_65 er_68 ej_96 eC_103; simp only [F_C_runOneCycle, if_neg c_73]) dX0_runOneCycle_106
      refine z_icmp_ne (tgt := 96) X dX0_runOneCycle_89 (by decide) (fun c_89 => ?_) (fun c_89 => ?_)
      · refine z_lv (lv' := [(0, .ref (q 0))]) [1] rfl ?_
        exact J_j_96 r_68 (by simp only [if_neg c_89])
      · refine z_aload_n X dX0_runOneCycle_92 1 rfl ?_
        refine z_callVv0 X (c_C_complain l D kI kC kQ q r_68 (by rw [er_68, Cspend_3, er_60, Cuses_o _ _ (by decide), eC_34]; exact hO.r)) (gV wd2_55 wd2_57 wd0_7 wd1_2 wd2_58) k_C_complain rfl rfl ⟨Nat.le_of_ble_eq_true rfl, Nat.le_of_ble_eq_true rfl⟩ ⟨Nat.zero_le _, Nat.zero_le _⟩ 0 0 rfl rfl rfl rfl rfl (Nat.le_of_ble_eq_true rfl) dX0_runOneCycle_93 (fun r_93 er_93 => ?_)
        refine z_lv (lv' := [(0, .ref (q 0))]) [1] rfl ?_
        exact J_j_96 r_93 (by subst er_93; simp only [if_pos c_89])
    · refine z_aload_n X dX0_runOneCycle_76 1 rfl ?_
      refine z_dup X dX0_runOneCycle_77 rfl ?_
      refine zC_g15 X wd1_60 dX0_runOneCycle_78 ?_
      refine z_iconst (v := (1 : Int32)) X dX0_runOneCycle_81 (by decide) ?_
      refine z_iadd X dX0_runOneCycle_82 ?_
      refine zC_p15 X wd1_60 dX0_runOneCycle_83 (fun C_83 eC_83 => ?_)
      exact z_vret X hQ rfl C_83 rfl (by subst ev_9 ej_34 eC_34 er_40 er_51 er_54 er_60 er_65 er_68 eC_83; simp only [F_C_runOneCycle, if_pos c_73]) dX0_runOneCycle_86
  refine z_icmp_ge (tgt := 33) X dX0_runOneCycle_21 (by decide) (fun c_21 => ?_) (fun c_21 => ?_)
  · refine z_iconst (v := (0 : Int32)) X dX0_runOneCycle_33 (by decide) ?_
    refine z_lv (lv' := [(0, .ref (q 0)), (1, .int v_9)]) [1, 0] rfl ?_
    exact J_j_34 (0 : Int32) (by simp only [if_pos c_21])
  · refine z_aload_n X dX0_runOneCycle_24 1 rfl ?_
    refine zC_g5 X wd1_40 dX0_runOneCycle_25 ?_
    refine z_iconst (v := (1 : Int32)) X dX0_runOneCycle_28 (by decide) ?_
    refine z_iadd X dX0_runOneCycle_29 ?_
    refine z_goto (tgt := 34) X dX0_runOneCycle_30 (by decide) ?_
    refine z_lv (lv' := [(0, .ref (q 0)), (1, .int v_9)]) [1, 0] rfl ?_
    exact J_j_34 ((C.1 4 5) + (1 : Int32)) (by simp only [if_neg c_21])
set_option maxRecDepth 100000 in
set_option maxHeartbeats 4000000 in
theorem c_C_lookAtWindow (l : Launch) (D : va_G) (kI kC kQ : ClassId) (q : Nat → Nat) (C : CS) : CtV (U := CS) l yX0_lookAtWindow cX0_lookAtWindow 3 none { frames := 1, cells := 0, slots := 0, locals := 21 } D (tysG kI kC kQ) (wC kI q C) [.ref (q 0)] (fun u => (wC kI q u)) (fun u => u = F_C_lookAtWindow C) := by
  refine met_Zv (own := "ShadowLatches$Circuit") (by decide +kernel) rfl (Nat.le_of_ble_eq_true rfl) ?_
  intro p e s m args below meth c A Q X hQ
  show Z p l e { frames := 1, cells := 0, slots := 0, locals := 21 } s m args below meth c D A 3 0 0 Q (wC kI q C) [(0, .ref (q 0))] 0 []
  refine z_aload_n X dX0_lookAtWindow_0 0 rfl ?_
  refine zC_g11 X wd1_52 dX0_lookAtWindow_1 ?_
  refine z_aload_n X dX0_lookAtWindow_4 0 rfl ?_
  refine zC_g6 X wd1_42 dX0_lookAtWindow_5 ?_
  refine z_iconst (v := (4 : Int32)) X dX0_lookAtWindow_8 (by decide) ?_
  refine zC_l3 X vi_4_7 cl_4 dX0_lookAtWindow_9 ?_
  refine z_isub X dX0_lookAtWindow_10 ?_
  refine z_topi (fun v_11 ev_11 => ?_)
  refine z_istore_n (lv' := [(1, .int v_11), (0, .ref (q 0))]) X dX0_lookAtWindow_11 (Nat.le_of_ble_eq_true rfl) rfl ?_
  refine z_iload_n X dX0_lookAtWindow_12 0 rfl ?_
  have J_j_95 : ∀ (j_95 : CS), j_95 = (if (0 : Int32) ≤ v_11 then (let r_58 : Int32 := (F_J_min v_11 (C.1 3 6)); let r_79 : Int32 := (F_J_min (1200 : Int32) ((C.1 4 7) + (r_58 * (C.1 3 5)))); let C_82 : CS := sC C 4 7 r_79; let C_92 : CS := sC C_82 4 17 ((C_82.1 4 17) + r_58); C_92) else (let r_31 : Int32 := (F_J_max (500 : Int32) ((C.1 4 7) - (C.1 3 5))); let C_34 : CS := sC C 4 7 r_31; let C_44 : CS := sC C_34 4 18 ((C_34.1 4 18) + (1 : Int32)); C_44)) → Z p l e { frames := 1, cells := 0, slots := 0, locals := 21 } s m args below meth c D A 3 0 0 Q (wC kI q j_95) [(0, .ref (q 0))] 95 [] := by
    intro j_95 ej_95
    refine z_aload_n X dX0_lookAtWindow_95 0 rfl ?_
    refine z_callVv0 X (c_C_beginWindow l D kI kC kQ q j_95) (gV wd2_63 wd2_64 wd2_65 wd1_2 wd2_66) k_C_beginWindow rfl rfl ⟨Nat.le_of_ble_eq_true rfl, Nat.le_of_ble_eq_true rfl⟩ ⟨Nat.zero_le _, Nat.zero_le _⟩ 0 0 rfl rfl rfl rfl rfl (Nat.le_of_ble_eq_true rfl) dX0_lookAtWindow_96 (fun r_96 er_96 => ?_)
    exact z_vret X hQ rfl r_96 rfl (by subst ev_11 ej_95 er_96; simp only [F_C_lookAtWindow]) dX0_lookAtWindow_99
  refine z_if_ge (tgt := 50) X dX0_lookAtWindow_13 (by decide) (fun c_13 => ?_) (fun c_13 => ?_)
  · refine z_iload_n X dX0_lookAtWindow_50 0 rfl ?_
    refine z_aload_n X dX0_lookAtWindow_51 1 rfl ?_
    refine zC_g6 X wd1_42 dX0_lookAtWindow_52 ?_
    refine z_bipush (v := (6 : Int32)) X dX0_lookAtWindow_55 (by decide) ?_
    refine zC_l3 X vi_6_7 cl_6 dX0_lookAtWindow_57 ?_
    refine z_mmin X wd2_48 ⟨Nat.le_of_ble_eq_true rfl, Nat.le_of_ble_eq_true rfl⟩ ⟨Nat.zero_le _, Nat.zero_le _⟩ dX0_lookAtWindow_58 (fun r_58 er_58 => ?_)
    refine z_istore_n (lv' := [(2, .int r_58), (1, .int v_11), (0, .ref (q 0))]) X dX0_lookAtWindow_61 (Nat.le_of_ble_eq_true rfl) rfl ?_
    refine z_aload_n X dX0_lookAtWindow_62 2 rfl ?_
    refine z_sipush (v := (1200 : Int32)) X dX0_lookAtWindow_63 (by decide) ?_
    refine z_aload_n X dX0_lookAtWindow_66 2 rfl ?_
    refine zC_g7 X wd1_44 dX0_lookAtWindow_67 ?_
    refine z_iload_n X dX0_lookAtWindow_70 0 rfl ?_
    refine z_aload_n X dX0_lookAtWindow_71 2 rfl ?_
    refine zC_g6 X wd1_42 dX0_lookAtWindow_72 ?_
    refine z_iconst (v := (5 : Int32)) X dX0_lookAtWindow_75 (by decide) ?_
    refine zC_l3 X vi_5_7 cl_5 dX0_lookAtWindow_76 ?_
    refine z_imul X dX0_lookAtWindow_77 ?_
    refine z_iadd X dX0_lookAtWindow_78 ?_
    refine z_mmin X wd2_48 ⟨Nat.le_of_ble_eq_true rfl, Nat.le_of_ble_eq_true rfl⟩ ⟨Nat.zero_le _, Nat.zero_le _⟩ dX0_lookAtWindow_79 (fun r_79 er_79 => ?_)
    refine zC_p7 X wd1_44 dX0_lookAtWindow_82 (fun C_82 eC_82 => ?_)
    refine z_aload_n X dX0_lookAtWindow_85 2 rfl ?_
    refine z_dup X dX0_lookAtWindow_86 rfl ?_
    refine zC_g17 X wd1_64 dX0_lookAtWindow_87 ?_
    refine z_iload_n X dX0_lookAtWindow_90 0 rfl ?_
    refine z_iadd X dX0_lookAtWindow_91 ?_
    refine zC_p17 X wd1_64 dX0_lookAtWindow_92 (fun C_92 eC_92 => ?_)
    refine z_lv (lv' := [(0, .ref (q 0))]) [2] rfl ?_
    exact J_j_95 C_92 (by subst er_58 er_79 eC_82 eC_92; simp only [if_pos c_13])
  · refine z_aload_n X dX0_lookAtWindow_16 1 rfl ?_
    refine z_sipush (v := (500 : Int32)) X dX0_lookAtWindow_17 (by decide) ?_
    refine z_aload_n X dX0_lookAtWindow_20 1 rfl ?_
    refine zC_g7 X wd1_44 dX0_lookAtWindow_21 ?_
    refine z_aload_n X dX0_lookAtWindow_24 1 rfl ?_
    refine zC_g6 X wd1_42 dX0_lookAtWindow_25 ?_
    refine z_iconst (v := (5 : Int32)) X dX0_lookAtWindow_28 (by decide) ?_
    refine zC_l3 X vi_5_7 cl_5 dX0_lookAtWindow_29 ?_
    refine z_isub X dX0_lookAtWindow_30 ?_
    refine z_mmax X wd2_31 ⟨Nat.le_of_ble_eq_true rfl, Nat.le_of_ble_eq_true rfl⟩ ⟨Nat.zero_le _, Nat.zero_le _⟩ dX0_lookAtWindow_31 (fun r_31 er_31 => ?_)
    refine zC_p7 X wd1_44 dX0_lookAtWindow_34 (fun C_34 eC_34 => ?_)
    refine z_aload_n X dX0_lookAtWindow_37 1 rfl ?_
    refine z_dup X dX0_lookAtWindow_38 rfl ?_
    refine zC_g18 X wd1_66 dX0_lookAtWindow_39 ?_
    refine z_iconst (v := (1 : Int32)) X dX0_lookAtWindow_42 (by decide) ?_
    refine z_iadd X dX0_lookAtWindow_43 ?_
    refine zC_p18 X wd1_66 dX0_lookAtWindow_44 (fun C_44 eC_44 => ?_)
    refine z_goto (tgt := 95) X dX0_lookAtWindow_47 (by decide) ?_
    refine z_lv (lv' := [(0, .ref (q 0))]) [1] rfl ?_
    exact J_j_95 C_44 (by subst er_31 eC_34 eC_44; simp only [if_neg c_13])
set_option maxRecDepth 100000 in
set_option maxHeartbeats 4000000 in
theorem c_T_append (l : Launch) (D : va_G) (kI kC kQ : ClassId) (r : Nat → Nat) (T : ARR) (a1 : Int32) (hx : narrow .char (.int a1) = .int a1) (ht : bn 0 60 (T 2 1)) : CtI (U := Int32 × ARR) l yX1_append cX1_append 2 (some .boolean) { frames := 0, cells := 0, slots := 0, locals := 0 } D (tysG kI kC kQ) (wT kI kC r T) [.ref (r 0), .int a1] (fun u => u.1) (fun u => (wT kI kC r u.2)) (fun u => u = F_T_append T a1) := by
  refine met_Zi (own := "ShadowLatches$WorkloadText") (by decide +kernel) rfl (Nat.le_of_ble_eq_true rfl) ?_
  intro p e s m args below meth c A Q X hQ
  show Z p l e { frames := 0, cells := 0, slots := 0, locals := 0 } s m args below meth c D A 2 0 0 Q (wT kI kC r T) [(0, .ref (r 0)), (1, .int a1)] 0 []
  refine z_aload_n X dX1_append_0 0 rfl ?_
  refine zT_g1 X wd1_116 dX1_append_1 ?_
  refine z_bipush (v := (60 : Int32)) X dX1_append_4 (by decide) ?_
  refine z_icmp_lt (tgt := 11) X dX1_append_6 (by decide) (fun c_6 => ?_) (fun c_6 => ?_)
  · refine z_aload_n X dX1_append_11 0 rfl ?_
    refine zT_g0 X wd1_115 dX1_append_12 ?_
    refine z_aload_n X dX1_append_15 0 rfl ?_
    refine zT_g1 X wd1_116 dX1_append_16 ?_
    refine z_iload_n X dX1_append_19 1 rfl ?_
    refine zT_s0 X (lt60_i ht c_6) rfl hx dX1_append_20 (fun T_20 eT_20 => ?_)
    refine z_aload_n X dX1_append_21 0 rfl ?_
    refine z_dup X dX1_append_22 rfl ?_
    refine zT_g1 X wd1_116 dX1_append_23 ?_
    refine z_iconst (v := (1 : Int32)) X dX1_append_26 (by decide) ?_
    refine z_iadd X dX1_append_27 ?_
    refine zT_p1 X wd1_116 dX1_append_28 (fun T_28 eT_28 => ?_)
    refine z_iconst (v := (1 : Int32)) X dX1_append_31 (by decide) ?_
    exact z_zret X hQ rfl ((1 : Int32), T_28) rfl rfl (by subst eT_20 eT_28; simp only [F_T_append, if_pos c_6]) rfl dX1_append_32
  · refine z_iconst (v := (0 : Int32)) X dX1_append_9 (by decide) ?_
    exact z_zret X hQ rfl ((0 : Int32), T) rfl rfl (by simp only [F_T_append, if_neg c_6]) rfl dX1_append_10
set_option maxRecDepth 100000 in
set_option maxHeartbeats 4000000 in
theorem c_T_read (l : Launch) (D : va_G) (kI kC kQ : ClassId) (r : Nat → Nat) (T : ARR) (ht : bn 0 60 (T 2 1)) : CtI (U := Int32 × ARR) l yX1_read cX1_read 4 (some .int) { frames := 0, cells := 0, slots := 0, locals := 0 } D (tysG kI kC kQ) (wT kI kC r T) [.ref (r 0)] (fun u => u.1) (fun u => (wT kI kC r u.2)) (fun u => u = F_T_read T) := by
  refine met_Zi (own := "ShadowLatches$WorkloadText") (by decide +kernel) rfl (Nat.le_of_ble_eq_true rfl) ?_
  intro p e s m args below meth c A Q X hQ
  show Z p l e { frames := 0, cells := 0, slots := 0, locals := 0 } s m args below meth c D A 4 0 0 Q (wT kI kC r T) [(0, .ref (r 0))] 0 []
  obtain ⟨t, ht1, ht2, ht0⟩ := ht
  refine z_iconst (v := (-1 : Int32)) X dX1_read_0 (by decide) ?_
  refine z_istore_n (lv' := [(1, .int (-1 : Int32)), (0, .ref (r 0))]) X dX1_read_1 (Nat.le_of_ble_eq_true rfl) rfl ?_
  refine z_aload_n X dX1_read_2 1 rfl ?_
  refine zT_g2 X wd1_118 dX1_read_3 ?_
  refine z_iconst (v := (0 : Int32)) X dX1_read_6 (by decide) ?_
  refine z_iconst (v := (0 : Int32)) X dX1_read_7 (by decide) ?_
  refine zT_s1 X vi_0_16 cl_0 dX1_read_8 (fun T_8 eT_8 => ?_)
  refine z_aload_n X dX1_read_9 1 rfl ?_
  refine z_iconst (v := (1 : Int32)) X dX1_read_10 (by decide) ?_
  refine zT_p3 X wd1_120 dX1_read_11 (fun T_11 eT_11 => ?_)
  refine z_iconst (v := (0 : Int32)) X dX1_read_14 (by decide) ?_
  refine z_istore_n (lv' := [(2, .int (0 : Int32)), (1, .int (-1 : Int32)), (0, .ref (r 0))]) X dX1_read_15 (Nat.le_of_ble_eq_true rfl) rfl ?_
  refine z_lv (lv' := [(0, .ref (r 0)), (1, .int (-1 : Int32)), (2, .int (0 : Int32))]) [2, 1, 0] rfl ?_
  have Lp_16 : ∀ (n : Nat) (x1_16 : Int32) (x2_16 : Int32) (T_16 : ARR), (cu t n x2_16) → (T_16 2 1 = nI t) → (bn 1 16 (T_16 2 3)) → (F_T_read T = L_T_read_16 n x1_16 x2_16 T_16) → Z p l e { frames := 0, cells := 0, slots := 0, locals := 0 } s m args below meth c D A 4 0 0 Q (wT kI kC r T_16) [(0, .ref (r 0)), (1, .int x1_16), (2, .int x2_16)] 16 [] := by
    intro n
    induction n with
    | zero =>
      intro x1_16 x2_16 T_16 hi hT hs hF_16
      exfalso
      exact cu_0 hi
    | succ n ih_16 =>
      intro x1_16 x2_16 T_16 hi hT hs hF_16
      refine z_iload_n X dX1_read_16 2 rfl ?_
      refine z_aload_n X dX1_read_17 0 rfl ?_
      refine zT_g1 X wd1_116 dX1_read_18 ?_
      refine z_icmp_ge (tgt := 146) X dX1_read_21 (by decide) (fun c_21 => ?_) (fun c_21 => ?_)
      · refine z_iload_n X dX1_read_146 1 rfl ?_
        refine z_iconst (v := (-1 : Int32)) X dX1_read_147 (by decide) ?_
        have J_j_159 : ∀ (j_159 : Int32), j_159 = (if x1_16 = (-1 : Int32) then ((T_16 2 1)) else ((-1 : Int32))) → Z p l e { frames := 0, cells := 0, slots := 0, locals := 0 } s m args below meth c D A 4 0 0 Q (wT kI kC r T_16) [] 159 [.int j_159] := by
          intro j_159 ej_159
          exact z_iret X hQ rfl (j_159, T_16) rfl rfl (by rw [hF_16]; subst ej_159; simp only [L_T_read_16, if_pos c_21]) dX1_read_159
        refine z_icmp_ne (tgt := 158) X dX1_read_148 (by decide) (fun c_148 => ?_) (fun c_148 => ?_)
        · refine z_iconst (v := (-1 : Int32)) X dX1_read_158 (by decide) ?_
          refine z_lv (lv' := []) [] rfl ?_
          exact J_j_159 (-1 : Int32) (by simp only [if_neg c_148])
        · refine z_aload_n X dX1_read_151 0 rfl ?_
          refine zT_g1 X wd1_116 dX1_read_152 ?_
          refine z_goto (tgt := 159) X dX1_read_155 (by decide) ?_
          refine z_lv (lv' := []) [] rfl ?_
          exact J_j_159 (T_16 2 1) (by simp only [if_pos c_148])
      · refine z_aload_n X dX1_read_24 0 rfl ?_
        refine zT_g0 X wd1_115 dX1_read_25 ?_
        refine z_iload_n X dX1_read_28 2 rfl ?_
        refine zT_l0 X (vin_k (cu_lt hi (by omega) hT c_21) (by omega) (by omega)) rfl dX1_read_29 ?_
        refine z_topi (fun v_30 ev_30 => ?_)
        refine z_istore_n (lv' := [(3, .int v_30), (0, .ref (r 0)), (1, .int x1_16), (2, .int x2_16)]) X dX1_read_30 (Nat.le_of_ble_eq_true rfl) rfl ?_
        refine z_iload_n X dX1_read_31 0 rfl ?_
        refine z_bipush (v := (44 : Int32)) X dX1_read_32 (by decide) ?_
        refine z_icmp_ne (tgt := 76) X dX1_read_34 (by decide) (fun c_34 => ?_) (fun c_34 => ?_)
        · refine z_iload_n X dX1_read_76 0 rfl ?_
          refine z_bipush (v := (45 : Int32)) X dX1_read_77 (by decide) ?_
          refine z_icmp_ne (tgt := 93) X dX1_read_79 (by decide) (fun c_79 => ?_) (fun c_79 => ?_)
          · refine z_iload_n X dX1_read_93 0 rfl ?_
            refine z_bipush (v := (48 : Int32)) X dX1_read_94 (by decide) ?_
            refine z_icmp_lt (tgt := 138) X dX1_read_96 (by decide) (fun c_96 => ?_) (fun c_96 => ?_)
            · refine z_iload_n X dX1_read_138 3 rfl ?_
              exact z_iret X hQ rfl (x2_16, T_16) rfl rfl (by rw [hF_16]; subst ev_30; simp only [L_T_read_16, if_neg c_21, if_neg c_34, if_neg c_79, if_pos c_96]) dX1_read_139
            · refine z_iload_n X dX1_read_99 0 rfl ?_
              refine z_bipush (v := (55 : Int32)) X dX1_read_100 (by decide) ?_
              refine z_icmp_gt (tgt := 138) X dX1_read_102 (by decide) (fun c_102 => ?_) (fun c_102 => ?_)
              · refine z_iload_n X dX1_read_138 3 rfl ?_
                exact z_iret X hQ rfl (x2_16, T_16) rfl rfl (by rw [hF_16]; subst ev_30; simp only [L_T_read_16, if_neg c_21, if_neg c_34, if_neg c_79, if_neg c_96, if_pos c_102]) dX1_read_139
              · refine z_iload_n X dX1_read_105 0 rfl ?_
                refine z_bipush (v := (48 : Int32)) X dX1_read_106 (by decide) ?_
                refine z_isub X dX1_read_108 ?_
                refine z_iload_n X dX1_read_109 2 rfl ?_
                refine z_icmp_le (tgt := 138) X dX1_read_110 (by decide) (fun c_110 => ?_) (fun c_110 => ?_)
                · refine z_iload_n X dX1_read_138 3 rfl ?_
                  exact z_iret X hQ rfl (x2_16, T_16) rfl rfl (by rw [hF_16]; subst ev_30; simp only [L_T_read_16, if_neg c_21, if_neg c_34, if_neg c_79, if_neg c_96, if_neg c_102, if_pos c_110]) dX1_read_139
                · refine z_iload_n X dX1_read_113 0 rfl ?_
                  refine z_bipush (v := (48 : Int32)) X dX1_read_114 (by decide) ?_
                  refine z_isub X dX1_read_116 ?_
                  refine z_topi (fun v_117 ev_117 => ?_)
                  refine z_istore_n (lv' := [(1, .int v_117), (3, .int v_30), (0, .ref (r 0)), (2, .int x2_16)]) X dX1_read_117 (Nat.le_of_ble_eq_true rfl) rfl ?_
                  refine z_aload_n X dX1_read_118 2 rfl ?_
                  refine zT_g2 X wd1_118 dX1_read_119 ?_
                  refine z_aload_n X dX1_read_122 2 rfl ?_
                  refine zT_g3 X wd1_120 dX1_read_123 ?_
                  refine z_iconst (v := (1 : Int32)) X dX1_read_126 (by decide) ?_
                  refine z_isub X dX1_read_127 ?_
                  refine z_topi (fun v_128 ev_128 => ?_)
                  refine z_dup2 X dX1_read_128 rfl rfl ?_
                  refine zT_l1 X (by rw [ev_128]; exact bn_pred hs) rfl dX1_read_129 ?_
                  refine z_iconst (v := (1 : Int32)) X dX1_read_130 (by decide) ?_
                  refine z_iload_n X dX1_read_131 0 rfl ?_
                  refine z_ishl X dX1_read_132 ?_
                  refine z_ior X dX1_read_133 ?_
                  refine zT_s1 X (by rw [ev_128]; exact bn_pred hs) rfl dX1_read_134 (fun T_134 eT_134 => ?_)
                  refine z_goto (tgt := 140) X dX1_read_135 (by decide) ?_
                  obtain ⟨v_140, ev_140⟩ : ∃ y : Int32, y = x2_16 + (1 : Int32) := ⟨_, rfl⟩
                  refine z_iinc (v := v_140) (lv' := [(2, .int v_140), (1, .int v_117), (3, .int v_30), (0, .ref (r 0))]) X dX1_read_140 3 rfl (by rw [ev_140]; rfl) (Nat.le_of_ble_eq_true rfl) rfl ?_
                  refine z_goto (tgt := 16) X dX1_read_143 (by decide) ?_
                  refine z_lv (lv' := [(0, .ref (r 0)), (1, .int v_117), (2, .int v_140)]) [3, 1, 0] rfl ?_
                  exact ih_16 v_117 v_140 T_134 (cu_b hi (by omega) hT c_21 ev_140) (by first | exact hT | (rw [eT_134, sA_o _ _ _ _ (by decide)]; exact hT) | (rw [eT_68, sA_ne _ _ _ _ (by decide), eT_60, sA_o _ _ _ _ (by decide)]; exact hT)) (by first | exact hs | (rw [eT_134, sA_o _ _ _ _ (by decide)]; exact hs) | (rw [eT_68, sA_e, eT_60, sA_o _ _ _ _ (by decide)]; exact bn_inc16 hs c_48)) (hF_16.trans (by subst ev_30 ev_117 ev_128 eT_134 ev_140; simp only [L_T_read_16, if_neg c_21, if_neg c_34, if_neg c_79, if_neg c_96, if_neg c_102, if_neg c_110]))
          · refine z_iload_n X dX1_read_82 2 rfl ?_
            refine z_iconst (v := (-1 : Int32)) X dX1_read_83 (by decide) ?_
            refine z_icmp_ne (tgt := 93) X dX1_read_84 (by decide) (fun c_84 => ?_) (fun c_84 => ?_)
            · refine z_iload_n X dX1_read_93 0 rfl ?_
              refine z_bipush (v := (48 : Int32)) X dX1_read_94 (by decide) ?_
              refine z_icmp_lt (tgt := 138) X dX1_read_96 (by decide) (fun c_96 => ?_) (fun c_96 => ?_)
              · refine z_iload_n X dX1_read_138 3 rfl ?_
                exact z_iret X hQ rfl (x2_16, T_16) rfl rfl (by rw [hF_16]; subst ev_30; simp only [L_T_read_16, if_neg c_21, if_neg c_34, if_pos c_79, if_neg c_84, if_pos c_96]) dX1_read_139
              · refine z_iload_n X dX1_read_99 0 rfl ?_
                refine z_bipush (v := (55 : Int32)) X dX1_read_100 (by decide) ?_
                refine z_icmp_gt (tgt := 138) X dX1_read_102 (by decide) (fun c_102 => ?_) (fun c_102 => ?_)
                · refine z_iload_n X dX1_read_138 3 rfl ?_
                  exact z_iret X hQ rfl (x2_16, T_16) rfl rfl (by rw [hF_16]; subst ev_30; simp only [L_T_read_16, if_neg c_21, if_neg c_34, if_pos c_79, if_neg c_84, if_neg c_96, if_pos c_102]) dX1_read_139
                · refine z_iload_n X dX1_read_105 0 rfl ?_
                  refine z_bipush (v := (48 : Int32)) X dX1_read_106 (by decide) ?_
                  refine z_isub X dX1_read_108 ?_
                  refine z_iload_n X dX1_read_109 2 rfl ?_
                  refine z_icmp_le (tgt := 138) X dX1_read_110 (by decide) (fun c_110 => ?_) (fun c_110 => ?_)
                  · refine z_iload_n X dX1_read_138 3 rfl ?_
                    exact z_iret X hQ rfl (x2_16, T_16) rfl rfl (by rw [hF_16]; subst ev_30; simp only [L_T_read_16, if_neg c_21, if_neg c_34, if_pos c_79, if_neg c_84, if_neg c_96, if_neg c_102, if_pos c_110]) dX1_read_139
                  · refine z_iload_n X dX1_read_113 0 rfl ?_
                    refine z_bipush (v := (48 : Int32)) X dX1_read_114 (by decide) ?_
                    refine z_isub X dX1_read_116 ?_
                    refine z_topi (fun v_117 ev_117 => ?_)
                    refine z_istore_n (lv' := [(1, .int v_117), (3, .int v_30), (0, .ref (r 0)), (2, .int x2_16)]) X dX1_read_117 (Nat.le_of_ble_eq_true rfl) rfl ?_
                    refine z_aload_n X dX1_read_118 2 rfl ?_
                    refine zT_g2 X wd1_118 dX1_read_119 ?_
                    refine z_aload_n X dX1_read_122 2 rfl ?_
                    refine zT_g3 X wd1_120 dX1_read_123 ?_
                    refine z_iconst (v := (1 : Int32)) X dX1_read_126 (by decide) ?_
                    refine z_isub X dX1_read_127 ?_
                    refine z_topi (fun v_128 ev_128 => ?_)
                    refine z_dup2 X dX1_read_128 rfl rfl ?_
                    refine zT_l1 X (by rw [ev_128]; exact bn_pred hs) rfl dX1_read_129 ?_
                    refine z_iconst (v := (1 : Int32)) X dX1_read_130 (by decide) ?_
                    refine z_iload_n X dX1_read_131 0 rfl ?_
                    refine z_ishl X dX1_read_132 ?_
                    refine z_ior X dX1_read_133 ?_
                    refine zT_s1 X (by rw [ev_128]; exact bn_pred hs) rfl dX1_read_134 (fun T_134 eT_134 => ?_)
                    refine z_goto (tgt := 140) X dX1_read_135 (by decide) ?_
                    obtain ⟨v_140, ev_140⟩ : ∃ y : Int32, y = x2_16 + (1 : Int32) := ⟨_, rfl⟩
                    refine z_iinc (v := v_140) (lv' := [(2, .int v_140), (1, .int v_117), (3, .int v_30), (0, .ref (r 0))]) X dX1_read_140 3 rfl (by rw [ev_140]; rfl) (Nat.le_of_ble_eq_true rfl) rfl ?_
                    refine z_goto (tgt := 16) X dX1_read_143 (by decide) ?_
                    refine z_lv (lv' := [(0, .ref (r 0)), (1, .int v_117), (2, .int v_140)]) [3, 1, 0] rfl ?_
                    exact ih_16 v_117 v_140 T_134 (cu_b hi (by omega) hT c_21 ev_140) (by first | exact hT | (rw [eT_134, sA_o _ _ _ _ (by decide)]; exact hT) | (rw [eT_68, sA_ne _ _ _ _ (by decide), eT_60, sA_o _ _ _ _ (by decide)]; exact hT)) (by first | exact hs | (rw [eT_134, sA_o _ _ _ _ (by decide)]; exact hs) | (rw [eT_68, sA_e, eT_60, sA_o _ _ _ _ (by decide)]; exact bn_inc16 hs c_48)) (hF_16.trans (by subst ev_30 ev_117 ev_128 eT_134 ev_140; simp only [L_T_read_16, if_neg c_21, if_neg c_34, if_pos c_79, if_neg c_84, if_neg c_96, if_neg c_102, if_neg c_110]))
            · refine z_bipush (v := (8 : Int32)) X dX1_read_87 (by decide) ?_
              refine z_istore_n (lv' := [(1, .int (8 : Int32)), (3, .int v_30), (0, .ref (r 0)), (2, .int x2_16)]) X dX1_read_89 (Nat.le_of_ble_eq_true rfl) rfl ?_
              refine z_goto (tgt := 140) X dX1_read_90 (by decide) ?_
              obtain ⟨v_140, ev_140⟩ : ∃ y : Int32, y = x2_16 + (1 : Int32) := ⟨_, rfl⟩
              refine z_iinc (v := v_140) (lv' := [(2, .int v_140), (1, .int (8 : Int32)), (3, .int v_30), (0, .ref (r 0))]) X dX1_read_140 3 rfl (by rw [ev_140]; rfl) (Nat.le_of_ble_eq_true rfl) rfl ?_
              refine z_goto (tgt := 16) X dX1_read_143 (by decide) ?_
              refine z_lv (lv' := [(0, .ref (r 0)), (1, .int (8 : Int32)), (2, .int v_140)]) [3, 1, 0] rfl ?_
              exact ih_16 (8 : Int32) v_140 T_16 (cu_b hi (by omega) hT c_21 ev_140) (by first | exact hT | (rw [eT_134, sA_o _ _ _ _ (by decide)]; exact hT) | (rw [eT_68, sA_ne _ _ _ _ (by decide), eT_60, sA_o _ _ _ _ (by decide)]; exact hT)) (by first | exact hs | (rw [eT_134, sA_o _ _ _ _ (by decide)]; exact hs) | (rw [eT_68, sA_e, eT_60, sA_o _ _ _ _ (by decide)]; exact bn_inc16 hs c_48)) (hF_16.trans (by subst ev_30 ev_140; simp only [L_T_read_16, if_neg c_21, if_neg c_34, if_pos c_79, if_pos c_84]))
        · refine z_iload_n X dX1_read_37 2 rfl ?_
          refine z_iconst (v := (-1 : Int32)) X dX1_read_38 (by decide) ?_
          refine z_icmp_eq (tgt := 76) X dX1_read_39 (by decide) (fun c_39 => ?_) (fun c_39 => ?_)
          · refine z_iload_n X dX1_read_76 0 rfl ?_
            refine z_bipush (v := (45 : Int32)) X dX1_read_77 (by decide) ?_
            refine z_icmp_ne (tgt := 93) X dX1_read_79 (by decide) (fun c_79 => ?_) (fun c_79 => ?_)
            · refine z_iload_n X dX1_read_93 0 rfl ?_
              refine z_bipush (v := (48 : Int32)) X dX1_read_94 (by decide) ?_
              refine z_icmp_lt (tgt := 138) X dX1_read_96 (by decide) (fun c_96 => ?_) (fun c_96 => ?_)
              · refine z_iload_n X dX1_read_138 3 rfl ?_
                exact z_iret X hQ rfl (x2_16, T_16) rfl rfl (by rw [hF_16]; subst ev_30; simp only [L_T_read_16, if_neg c_21, if_pos c_34, if_pos c_39, if_neg c_79, if_pos c_96]) dX1_read_139
              · refine z_iload_n X dX1_read_99 0 rfl ?_
                refine z_bipush (v := (55 : Int32)) X dX1_read_100 (by decide) ?_
                refine z_icmp_gt (tgt := 138) X dX1_read_102 (by decide) (fun c_102 => ?_) (fun c_102 => ?_)
                · refine z_iload_n X dX1_read_138 3 rfl ?_
                  exact z_iret X hQ rfl (x2_16, T_16) rfl rfl (by rw [hF_16]; subst ev_30; simp only [L_T_read_16, if_neg c_21, if_pos c_34, if_pos c_39, if_neg c_79, if_neg c_96, if_pos c_102]) dX1_read_139
                · refine z_iload_n X dX1_read_105 0 rfl ?_
                  refine z_bipush (v := (48 : Int32)) X dX1_read_106 (by decide) ?_
                  refine z_isub X dX1_read_108 ?_
                  refine z_iload_n X dX1_read_109 2 rfl ?_
                  refine z_icmp_le (tgt := 138) X dX1_read_110 (by decide) (fun c_110 => ?_) (fun c_110 => ?_)
                  · refine z_iload_n X dX1_read_138 3 rfl ?_
                    exact z_iret X hQ rfl (x2_16, T_16) rfl rfl (by rw [hF_16]; subst ev_30; simp only [L_T_read_16, if_neg c_21, if_pos c_34, if_pos c_39, if_neg c_79, if_neg c_96, if_neg c_102, if_pos c_110]) dX1_read_139
                  · refine z_iload_n X dX1_read_113 0 rfl ?_
                    refine z_bipush (v := (48 : Int32)) X dX1_read_114 (by decide) ?_
                    refine z_isub X dX1_read_116 ?_
                    refine z_topi (fun v_117 ev_117 => ?_)
                    refine z_istore_n (lv' := [(1, .int v_117), (3, .int v_30), (0, .ref (r 0)), (2, .int x2_16)]) X dX1_read_117 (Nat.le_of_ble_eq_true rfl) rfl ?_
                    refine z_aload_n X dX1_read_118 2 rfl ?_
                    refine zT_g2 X wd1_118 dX1_read_119 ?_
                    refine z_aload_n X dX1_read_122 2 rfl ?_
                    refine zT_g3 X wd1_120 dX1_read_123 ?_
                    refine z_iconst (v := (1 : Int32)) X dX1_read_126 (by decide) ?_
                    refine z_isub X dX1_read_127 ?_
                    refine z_topi (fun v_128 ev_128 => ?_)
                    refine z_dup2 X dX1_read_128 rfl rfl ?_
                    refine zT_l1 X (by rw [ev_128]; exact bn_pred hs) rfl dX1_read_129 ?_
                    refine z_iconst (v := (1 : Int32)) X dX1_read_130 (by decide) ?_
                    refine z_iload_n X dX1_read_131 0 rfl ?_
                    refine z_ishl X dX1_read_132 ?_
                    refine z_ior X dX1_read_133 ?_
                    refine zT_s1 X (by rw [ev_128]; exact bn_pred hs) rfl dX1_read_134 (fun T_134 eT_134 => ?_)
                    refine z_goto (tgt := 140) X dX1_read_135 (by decide) ?_
                    obtain ⟨v_140, ev_140⟩ : ∃ y : Int32, y = x2_16 + (1 : Int32) := ⟨_, rfl⟩
                    refine z_iinc (v := v_140) (lv' := [(2, .int v_140), (1, .int v_117), (3, .int v_30), (0, .ref (r 0))]) X dX1_read_140 3 rfl (by rw [ev_140]; rfl) (Nat.le_of_ble_eq_true rfl) rfl ?_
                    refine z_goto (tgt := 16) X dX1_read_143 (by decide) ?_
                    refine z_lv (lv' := [(0, .ref (r 0)), (1, .int v_117), (2, .int v_140)]) [3, 1, 0] rfl ?_
                    exact ih_16 v_117 v_140 T_134 (cu_b hi (by omega) hT c_21 ev_140) (by first | exact hT | (rw [eT_134, sA_o _ _ _ _ (by decide)]; exact hT) | (rw [eT_68, sA_ne _ _ _ _ (by decide), eT_60, sA_o _ _ _ _ (by decide)]; exact hT)) (by first | exact hs | (rw [eT_134, sA_o _ _ _ _ (by decide)]; exact hs) | (rw [eT_68, sA_e, eT_60, sA_o _ _ _ _ (by decide)]; exact bn_inc16 hs c_48)) (hF_16.trans (by subst ev_30 ev_117 ev_128 eT_134 ev_140; simp only [L_T_read_16, if_neg c_21, if_pos c_34, if_pos c_39, if_neg c_79, if_neg c_96, if_neg c_102, if_neg c_110]))
            · refine z_iload_n X dX1_read_82 2 rfl ?_
              refine z_iconst (v := (-1 : Int32)) X dX1_read_83 (by decide) ?_
              refine z_icmp_ne (tgt := 93) X dX1_read_84 (by decide) (fun c_84 => absurd c_39 c_84) (fun c_84 => ?_)
              refine z_bipush (v := (8 : Int32)) X dX1_read_87 (by decide) ?_
              refine z_istore_n (lv' := [(1, .int (8 : Int32)), (3, .int v_30), (0, .ref (r 0)), (2, .int x2_16)]) X dX1_read_89 (Nat.le_of_ble_eq_true rfl) rfl ?_
              refine z_goto (tgt := 140) X dX1_read_90 (by decide) ?_
              obtain ⟨v_140, ev_140⟩ : ∃ y : Int32, y = x2_16 + (1 : Int32) := ⟨_, rfl⟩
              refine z_iinc (v := v_140) (lv' := [(2, .int v_140), (1, .int (8 : Int32)), (3, .int v_30), (0, .ref (r 0))]) X dX1_read_140 3 rfl (by rw [ev_140]; rfl) (Nat.le_of_ble_eq_true rfl) rfl ?_
              refine z_goto (tgt := 16) X dX1_read_143 (by decide) ?_
              refine z_lv (lv' := [(0, .ref (r 0)), (1, .int (8 : Int32)), (2, .int v_140)]) [3, 1, 0] rfl ?_
              exact ih_16 (8 : Int32) v_140 T_16 (cu_b hi (by omega) hT c_21 ev_140) (by first | exact hT | (rw [eT_134, sA_o _ _ _ _ (by decide)]; exact hT) | (rw [eT_68, sA_ne _ _ _ _ (by decide), eT_60, sA_o _ _ _ _ (by decide)]; exact hT)) (by first | exact hs | (rw [eT_134, sA_o _ _ _ _ (by decide)]; exact hs) | (rw [eT_68, sA_e, eT_60, sA_o _ _ _ _ (by decide)]; exact bn_inc16 hs c_48)) (hF_16.trans (by subst ev_30 ev_140; simp only [L_T_read_16, if_neg c_21, if_pos c_34, if_pos c_39, if_pos c_79]))
          · refine z_aload_n X dX1_read_42 1 rfl ?_
            refine zT_g3 X wd1_120 dX1_read_43 ?_
            refine z_bipush (v := (16 : Int32)) X dX1_read_46 (by decide) ?_
            refine z_icmp_ge (tgt := 76) X dX1_read_48 (by decide) (fun c_48 => ?_) (fun c_48 => ?_)
            · refine z_iload_n X dX1_read_76 0 rfl ?_
              refine z_bipush (v := (45 : Int32)) X dX1_read_77 (by decide) ?_
              refine z_icmp_ne (tgt := 93) X dX1_read_79 (by decide) (fun c_79 => ?_) (fun c_79 => ?_)
              · refine z_iload_n X dX1_read_93 0 rfl ?_
                refine z_bipush (v := (48 : Int32)) X dX1_read_94 (by decide) ?_
                refine z_icmp_lt (tgt := 138) X dX1_read_96 (by decide) (fun c_96 => ?_) (fun c_96 => ?_)
                · refine z_iload_n X dX1_read_138 3 rfl ?_
                  exact z_iret X hQ rfl (x2_16, T_16) rfl rfl (by rw [hF_16]; subst ev_30; simp only [L_T_read_16, if_neg c_21, if_pos c_34, if_neg c_39, if_pos c_48, if_neg c_79, if_pos c_96]) dX1_read_139
                · refine z_iload_n X dX1_read_99 0 rfl ?_
                  refine z_bipush (v := (55 : Int32)) X dX1_read_100 (by decide) ?_
                  refine z_icmp_gt (tgt := 138) X dX1_read_102 (by decide) (fun c_102 => ?_) (fun c_102 => ?_)
                  · refine z_iload_n X dX1_read_138 3 rfl ?_
                    exact z_iret X hQ rfl (x2_16, T_16) rfl rfl (by rw [hF_16]; subst ev_30; simp only [L_T_read_16, if_neg c_21, if_pos c_34, if_neg c_39, if_pos c_48, if_neg c_79, if_neg c_96, if_pos c_102]) dX1_read_139
                  · refine z_iload_n X dX1_read_105 0 rfl ?_
                    refine z_bipush (v := (48 : Int32)) X dX1_read_106 (by decide) ?_
                    refine z_isub X dX1_read_108 ?_
                    refine z_iload_n X dX1_read_109 2 rfl ?_
                    refine z_icmp_le (tgt := 138) X dX1_read_110 (by decide) (fun c_110 => ?_) (fun c_110 => ?_)
                    · refine z_iload_n X dX1_read_138 3 rfl ?_
                      exact z_iret X hQ rfl (x2_16, T_16) rfl rfl (by rw [hF_16]; subst ev_30; simp only [L_T_read_16, if_neg c_21, if_pos c_34, if_neg c_39, if_pos c_48, if_neg c_79, if_neg c_96, if_neg c_102, if_pos c_110]) dX1_read_139
                    · refine z_iload_n X dX1_read_113 0 rfl ?_
                      refine z_bipush (v := (48 : Int32)) X dX1_read_114 (by decide) ?_
                      refine z_isub X dX1_read_116 ?_
                      refine z_topi (fun v_117 ev_117 => ?_)
                      refine z_istore_n (lv' := [(1, .int v_117), (3, .int v_30), (0, .ref (r 0)), (2, .int x2_16)]) X dX1_read_117 (Nat.le_of_ble_eq_true rfl) rfl ?_
                      refine z_aload_n X dX1_read_118 2 rfl ?_
                      refine zT_g2 X wd1_118 dX1_read_119 ?_
                      refine z_aload_n X dX1_read_122 2 rfl ?_
                      refine zT_g3 X wd1_120 dX1_read_123 ?_
                      refine z_iconst (v := (1 : Int32)) X dX1_read_126 (by decide) ?_
                      refine z_isub X dX1_read_127 ?_
                      refine z_topi (fun v_128 ev_128 => ?_)
                      refine z_dup2 X dX1_read_128 rfl rfl ?_
                      refine zT_l1 X (by rw [ev_128]; exact bn_pred hs) rfl dX1_read_129 ?_
                      refine z_iconst (v := (1 : Int32)) X dX1_read_130 (by decide) ?_
                      refine z_iload_n X dX1_read_131 0 rfl ?_
                      refine z_ishl X dX1_read_132 ?_
                      refine z_ior X dX1_read_133 ?_
                      refine zT_s1 X (by rw [ev_128]; exact bn_pred hs) rfl dX1_read_134 (fun T_134 eT_134 => ?_)
                      refine z_goto (tgt := 140) X dX1_read_135 (by decide) ?_
                      obtain ⟨v_140, ev_140⟩ : ∃ y : Int32, y = x2_16 + (1 : Int32) := ⟨_, rfl⟩
                      refine z_iinc (v := v_140) (lv' := [(2, .int v_140), (1, .int v_117), (3, .int v_30), (0, .ref (r 0))]) X dX1_read_140 3 rfl (by rw [ev_140]; rfl) (Nat.le_of_ble_eq_true rfl) rfl ?_
                      refine z_goto (tgt := 16) X dX1_read_143 (by decide) ?_
                      refine z_lv (lv' := [(0, .ref (r 0)), (1, .int v_117), (2, .int v_140)]) [3, 1, 0] rfl ?_
                      exact ih_16 v_117 v_140 T_134 (cu_b hi (by omega) hT c_21 ev_140) (by first | exact hT | (rw [eT_134, sA_o _ _ _ _ (by decide)]; exact hT) | (rw [eT_68, sA_ne _ _ _ _ (by decide), eT_60, sA_o _ _ _ _ (by decide)]; exact hT)) (by first | exact hs | (rw [eT_134, sA_o _ _ _ _ (by decide)]; exact hs) | (rw [eT_68, sA_e, eT_60, sA_o _ _ _ _ (by decide)]; exact bn_inc16 hs c_48)) (hF_16.trans (by subst ev_30 ev_117 ev_128 eT_134 ev_140; simp only [L_T_read_16, if_neg c_21, if_pos c_34, if_neg c_39, if_pos c_48, if_neg c_79, if_neg c_96, if_neg c_102, if_neg c_110]))
              · refine z_iload_n X dX1_read_82 2 rfl ?_
                refine z_iconst (v := (-1 : Int32)) X dX1_read_83 (by decide) ?_
                refine z_icmp_ne (tgt := 93) X dX1_read_84 (by decide) (fun c_84 => ?_) (fun c_84 => absurd c_84 c_39)
                refine z_iload_n X dX1_read_93 0 rfl ?_
                refine z_bipush (v := (48 : Int32)) X dX1_read_94 (by decide) ?_
                refine z_icmp_lt (tgt := 138) X dX1_read_96 (by decide) (fun c_96 => ?_) (fun c_96 => ?_)
                · refine z_iload_n X dX1_read_138 3 rfl ?_
                  exact z_iret X hQ rfl (x2_16, T_16) rfl rfl (by rw [hF_16]; subst ev_30; simp only [L_T_read_16, if_neg c_21, if_pos c_34, if_neg c_39, if_pos c_48, if_pos c_79, if_pos c_96]) dX1_read_139
                · refine z_iload_n X dX1_read_99 0 rfl ?_
                  refine z_bipush (v := (55 : Int32)) X dX1_read_100 (by decide) ?_
                  refine z_icmp_gt (tgt := 138) X dX1_read_102 (by decide) (fun c_102 => ?_) (fun c_102 => ?_)
                  · refine z_iload_n X dX1_read_138 3 rfl ?_
                    exact z_iret X hQ rfl (x2_16, T_16) rfl rfl (by rw [hF_16]; subst ev_30; simp only [L_T_read_16, if_neg c_21, if_pos c_34, if_neg c_39, if_pos c_48, if_pos c_79, if_neg c_96, if_pos c_102]) dX1_read_139
                  · refine z_iload_n X dX1_read_105 0 rfl ?_
                    refine z_bipush (v := (48 : Int32)) X dX1_read_106 (by decide) ?_
                    refine z_isub X dX1_read_108 ?_
                    refine z_iload_n X dX1_read_109 2 rfl ?_
                    refine z_icmp_le (tgt := 138) X dX1_read_110 (by decide) (fun c_110 => ?_) (fun c_110 => ?_)
                    · refine z_iload_n X dX1_read_138 3 rfl ?_
                      exact z_iret X hQ rfl (x2_16, T_16) rfl rfl (by rw [hF_16]; subst ev_30; simp only [L_T_read_16, if_neg c_21, if_pos c_34, if_neg c_39, if_pos c_48, if_pos c_79, if_neg c_96, if_neg c_102, if_pos c_110]) dX1_read_139
                    · refine z_iload_n X dX1_read_113 0 rfl ?_
                      refine z_bipush (v := (48 : Int32)) X dX1_read_114 (by decide) ?_
                      refine z_isub X dX1_read_116 ?_
                      refine z_topi (fun v_117 ev_117 => ?_)
                      refine z_istore_n (lv' := [(1, .int v_117), (3, .int v_30), (0, .ref (r 0)), (2, .int x2_16)]) X dX1_read_117 (Nat.le_of_ble_eq_true rfl) rfl ?_
                      refine z_aload_n X dX1_read_118 2 rfl ?_
                      refine zT_g2 X wd1_118 dX1_read_119 ?_
                      refine z_aload_n X dX1_read_122 2 rfl ?_
                      refine zT_g3 X wd1_120 dX1_read_123 ?_
                      refine z_iconst (v := (1 : Int32)) X dX1_read_126 (by decide) ?_
                      refine z_isub X dX1_read_127 ?_
                      refine z_topi (fun v_128 ev_128 => ?_)
                      refine z_dup2 X dX1_read_128 rfl rfl ?_
                      refine zT_l1 X (by rw [ev_128]; exact bn_pred hs) rfl dX1_read_129 ?_
                      refine z_iconst (v := (1 : Int32)) X dX1_read_130 (by decide) ?_
                      refine z_iload_n X dX1_read_131 0 rfl ?_
                      refine z_ishl X dX1_read_132 ?_
                      refine z_ior X dX1_read_133 ?_
                      refine zT_s1 X (by rw [ev_128]; exact bn_pred hs) rfl dX1_read_134 (fun T_134 eT_134 => ?_)
                      refine z_goto (tgt := 140) X dX1_read_135 (by decide) ?_
                      obtain ⟨v_140, ev_140⟩ : ∃ y : Int32, y = x2_16 + (1 : Int32) := ⟨_, rfl⟩
                      refine z_iinc (v := v_140) (lv' := [(2, .int v_140), (1, .int v_117), (3, .int v_30), (0, .ref (r 0))]) X dX1_read_140 3 rfl (by rw [ev_140]; rfl) (Nat.le_of_ble_eq_true rfl) rfl ?_
                      refine z_goto (tgt := 16) X dX1_read_143 (by decide) ?_
                      refine z_lv (lv' := [(0, .ref (r 0)), (1, .int v_117), (2, .int v_140)]) [3, 1, 0] rfl ?_
                      exact ih_16 v_117 v_140 T_134 (cu_b hi (by omega) hT c_21 ev_140) (by first | exact hT | (rw [eT_134, sA_o _ _ _ _ (by decide)]; exact hT) | (rw [eT_68, sA_ne _ _ _ _ (by decide), eT_60, sA_o _ _ _ _ (by decide)]; exact hT)) (by first | exact hs | (rw [eT_134, sA_o _ _ _ _ (by decide)]; exact hs) | (rw [eT_68, sA_e, eT_60, sA_o _ _ _ _ (by decide)]; exact bn_inc16 hs c_48)) (hF_16.trans (by subst ev_30 ev_117 ev_128 eT_134 ev_140; simp only [L_T_read_16, if_neg c_21, if_pos c_34, if_neg c_39, if_pos c_48, if_pos c_79, if_neg c_96, if_neg c_102, if_neg c_110]))
            · refine z_aload_n X dX1_read_51 1 rfl ?_
              refine zT_g2 X wd1_118 dX1_read_52 ?_
              refine z_aload_n X dX1_read_55 1 rfl ?_
              refine zT_g3 X wd1_120 dX1_read_56 ?_
              refine z_iconst (v := (0 : Int32)) X dX1_read_59 (by decide) ?_
              refine zT_s1 X (vin_k (bn_i16 hs c_48) (by omega) (by omega)) rfl dX1_read_60 (fun T_60 eT_60 => ?_)
              refine z_aload_n X dX1_read_61 1 rfl ?_
              refine z_dup X dX1_read_62 rfl ?_
              refine zT_g3 X wd1_120 dX1_read_63 ?_
              refine z_iconst (v := (1 : Int32)) X dX1_read_66 (by decide) ?_
              refine z_iadd X dX1_read_67 ?_
              refine zT_p3 X wd1_120 dX1_read_68 (fun T_68 eT_68 => ?_)
              refine z_iconst (v := (-1 : Int32)) X dX1_read_71 (by decide) ?_
              refine z_istore_n (lv' := [(1, .int (-1 : Int32)), (3, .int v_30), (0, .ref (r 0)), (2, .int x2_16)]) X dX1_read_72 (Nat.le_of_ble_eq_true rfl) rfl ?_
              refine z_goto (tgt := 140) X dX1_read_73 (by decide) ?_
              obtain ⟨v_140, ev_140⟩ : ∃ y : Int32, y = x2_16 + (1 : Int32) := ⟨_, rfl⟩
              refine z_iinc (v := v_140) (lv' := [(2, .int v_140), (1, .int (-1 : Int32)), (3, .int v_30), (0, .ref (r 0))]) X dX1_read_140 3 rfl (by rw [ev_140]; rfl) (Nat.le_of_ble_eq_true rfl) rfl ?_
              refine z_goto (tgt := 16) X dX1_read_143 (by decide) ?_
              refine z_lv (lv' := [(0, .ref (r 0)), (1, .int (-1 : Int32)), (2, .int v_140)]) [3, 1, 0] rfl ?_
              exact ih_16 (-1 : Int32) v_140 T_68 (cu_b hi (by omega) hT c_21 ev_140) (by first | exact hT | (rw [eT_134, sA_o _ _ _ _ (by decide)]; exact hT) | (rw [eT_68, sA_ne _ _ _ _ (by decide), eT_60, sA_o _ _ _ _ (by decide)]; exact hT)) (by first | exact hs | (rw [eT_134, sA_o _ _ _ _ (by decide)]; exact hs) | (rw [eT_68, sA_e, eT_60, sA_o _ _ _ _ (by decide)]; exact bn_inc16 hs c_48)) (hF_16.trans (by subst ev_30 eT_60 eT_68 ev_140; simp only [L_T_read_16, if_neg c_21, if_pos c_34, if_neg c_39, if_neg c_48]))
  exact Lp_16 61 (-1 : Int32) (0 : Int32) T_11 (cu_i (by omega)) (by rw [eT_11, sA_ne _ _ _ _ (by decide), eT_8, sA_o _ _ _ _ (by decide)]; exact ht0) (by rw [eT_11, sA_e]; exact ⟨1, by omega, by omega, rfl⟩) (by subst eT_8 eT_11; simp only [F_T_read])
