set_option maxRecDepth 100000 in
set_option maxHeartbeats 4000000 in
theorem c_M_cycles (l : Launch) (D : va_G) (kI kC kQ : ClassId) (o : Nat → Nat) (M : ARR) (hI : IA (M 0)) : CtV (U := ARR) l yX3_cycles cX3_cycles 4 none { frames := 3, cells := 0, slots := 0, locals := 70 } D (tysG kI kC kQ) (wM kI o M) [.ref (o 0)] (fun u => (wM kI o u)) (fun u => u = F_M_cycles M) := by
  refine met_Zv (own := "ShadowLatchesModel") (by decide +kernel) rfl (Nat.le_of_ble_eq_true rfl) ?_
  intro p e s m args below meth c A Q X hQ
  show Z p l e { frames := 3, cells := 0, slots := 0, locals := 70 } s m args below meth c D A 4 0 0 Q (wM kI o M) [(0, .ref (o 0))] 0 []
  obtain ⟨P, hP1, hP2, hP⟩ := hI.p
  obtain ⟨R9, hR1, hR2, hR9⟩ := hI.s2
  obtain ⟨K, N, hKN, hN16, hK, hN⟩ := hI.w
  refine z_aload_n X dX3_cycles_0 0 rfl ?_
  refine zM_g0 X wd2_126 dX3_cycles_1 ?_
  refine z_bipush (v := (16 : Int32)) X dX3_cycles_4 (by decide) ?_
  refine z_aload_n X dX3_cycles_6 0 rfl ?_
  refine zM_g0 X wd2_126 dX3_cycles_7 ?_
  refine z_bipush (v := (50 : Int32)) X dX3_cycles_10 (by decide) ?_
  refine zM_l0 X vi_50_55 cl_50 dX3_cycles_12 ?_
  refine z_iadd X dX3_cycles_13 ?_
  refine zM_l0 X (vin_a 16 ⟨K, Nat.lt_of_lt_of_le hKN hN16, hK⟩ (by omega) (by omega)) rfl dX3_cycles_14 ?_
  refine z_topi (fun v_15 ev_15 => ?_)
  refine z_istore_n (lv' := [(1, .int v_15), (0, .ref (o 0))]) X dX3_cycles_15 (Nat.le_of_ble_eq_true rfl) rfl ?_
  refine z_aload_n X dX3_cycles_16 1 rfl ?_
  refine z_iload_n X dX3_cycles_17 0 rfl ?_
  refine z_callVi0 X (c_M_worstOf l D kI kC kQ o M v_15 hI) (gV wd3_33 wd3_35 wd0_20 wd1_4 wd3_36) k_M_worstOf rfl rfl ⟨Nat.le_of_ble_eq_true rfl, Nat.le_of_ble_eq_true rfl⟩ ⟨Nat.zero_le _, Nat.zero_le _⟩ 3 0 rfl rfl rfl rfl rfl (Nat.le_of_ble_eq_true rfl) dX3_cycles_18 (fun r_18 er_18 => ?_)
  refine z_istore_n (lv' := [(2, .int r_18), (1, .int v_15), (0, .ref (o 0))]) X dX3_cycles_21 (Nat.le_of_ble_eq_true rfl) rfl ?_
  refine z_aload_n X dX3_cycles_22 2 rfl ?_
  refine zM_g0 X wd2_126 dX3_cycles_23 ?_
  refine z_bipush (v := (50 : Int32)) X dX3_cycles_26 (by decide) ?_
  refine z_aload_n X dX3_cycles_28 2 rfl ?_
  refine zM_g0 X wd2_126 dX3_cycles_29 ?_
  refine z_bipush (v := (50 : Int32)) X dX3_cycles_32 (by decide) ?_
  refine zM_l0 X vi_50_55 cl_50 dX3_cycles_34 ?_
  refine z_iconst (v := (1 : Int32)) X dX3_cycles_35 (by decide) ?_
  refine z_iadd X dX3_cycles_36 ?_
  refine z_aload_n X dX3_cycles_37 2 rfl ?_
  refine zM_g0 X wd2_126 dX3_cycles_38 ?_
  refine z_bipush (v := (49 : Int32)) X dX3_cycles_41 (by decide) ?_
  refine zM_l0 X vi_49_55 cl_49 dX3_cycles_43 ?_
  refine z_irem X dX3_cycles_44 (by rw [hN]; exact nI_ne0 (by omega) (by omega)) ?_
  refine zM_s0 X vi_50_55 cl_50 dX3_cycles_45 (fun M_45 eM_45 => ?_)
  refine z_iconst (v := (0 : Int32)) X dX3_cycles_46 (by decide) ?_
  refine z_istore_n (lv' := [(3, .int (0 : Int32)), (2, .int r_18), (1, .int v_15), (0, .ref (o 0))]) X dX3_cycles_47 (Nat.le_of_ble_eq_true rfl) rfl ?_
  refine z_lv (lv' := [(0, .ref (o 0)), (1, .int v_15), (2, .int r_18), (3, .int (0 : Int32))]) [3, 2, 1, 0] rfl ?_
  have Lp_48 : ∀ (n : Nat) (x3_48 : Int32) (M_48 : ARR), (cu P n x3_48) → (M_48 0 51 = nI P) → (M_48 0 34 = nI R9) → (∀ q_48 : ARR, q_48 = L_M_cycles_48 v_15 n x3_48 M_48 → (q_48 0 34 = nI R9) → Z p l e { frames := 3, cells := 0, slots := 0, locals := 70 } s m args below meth c D A 4 0 0 Q (wM kI o q_48) [(0, .ref (o 0)), (1, .int v_15), (2, .int r_18)] 90 []) → Z p l e { frames := 3, cells := 0, slots := 0, locals := 70 } s m args below meth c D A 4 0 0 Q (wM kI o M_48) [(0, .ref (o 0)), (1, .int v_15), (2, .int r_18), (3, .int x3_48)] 48 [] := by
    intro n
    induction n with
    | zero =>
      intro x3_48 M_48 hi hp hq kk_48
      exfalso
      exact cu_0 hi
    | succ n ih_48 =>
      intro x3_48 M_48 hi hp hq kk_48
      refine z_iload_n X dX3_cycles_48 3 rfl ?_
      refine z_aload_n X dX3_cycles_49 0 rfl ?_
      refine zM_g0 X wd2_126 dX3_cycles_50 ?_
      refine z_bipush (v := (51 : Int32)) X dX3_cycles_53 (by decide) ?_
      refine zM_l0 X vi_51_55 cl_51 dX3_cycles_55 ?_
      refine z_icmp_ge (tgt := 90) X dX3_cycles_56 (by decide) (fun c_56 => ?_) (fun c_56 => ?_)
      · refine z_lv (lv' := [(0, .ref (o 0)), (1, .int v_15), (2, .int r_18)]) [0, 1, 2] rfl ?_
        exact kk_48 M_48 (by simp only [L_M_cycles_48, if_pos c_56]) hq
      · refine z_aload_n X dX3_cycles_59 0 rfl ?_
        refine zM_g0 X wd2_126 dX3_cycles_60 ?_
        refine z_bipush (v := (8 : Int32)) X dX3_cycles_63 (by decide) ?_
        refine z_iload_n X dX3_cycles_65 3 rfl ?_
        refine z_iadd X dX3_cycles_66 ?_
        refine z_topi (fun v_67 ev_67 => ?_)
        refine z_dup2 X dX3_cycles_67 rfl rfl ?_
        refine zM_l0 X (by rw [ev_67]; exact vin_a 8 (cu_lt hi (by omega) hp c_56) (by omega) (by omega)) rfl dX3_cycles_68 ?_
        refine z_iload_n X dX3_cycles_69 1 rfl ?_
        refine z_iload_n X dX3_cycles_70 3 rfl ?_
        refine z_callSiN X (c_M_has l D kI kC kQ v_15 x3_48) (gS wd3_37 wd3_38 wd1_4 wd3_39) k_M_has rfl rfl ⟨Nat.le_of_ble_eq_true rfl, Nat.le_of_ble_eq_true rfl⟩ ⟨Nat.zero_le _, Nat.zero_le _⟩ rfl rfl (Nat.le_of_ble_eq_true rfl) dX3_cycles_71 rfl (fun _ => rfl) (fun r_71 er_71 => ?_)
        have J_j_82 : ∀ (j_82 : Int32), j_82 = (if r_71 = (0 : Int32) then ((0 : Int32)) else ((1 : Int32))) → Z p l e { frames := 3, cells := 0, slots := 0, locals := 70 } s m args below meth c D A 4 0 0 Q (wM kI o M_48) [(0, .ref (o 0)), (1, .int v_15), (2, .int r_18), (3, .int x3_48)] 82 [.int j_82, .int (M_48 0 (v_67.toNatClampNeg)), .int v_67, .ref (o 1)] := by
          intro j_82 ej_82
          refine z_iadd X dX3_cycles_82 ?_
          refine zM_s0 X (by rw [ev_67]; exact vin_a 8 (cu_lt hi (by omega) hp c_56) (by omega) (by omega)) rfl dX3_cycles_83 (fun M_83 eM_83 => ?_)
          obtain ⟨v_84, ev_84⟩ : ∃ y : Int32, y = x3_48 + (1 : Int32) := ⟨_, rfl⟩
          refine z_iinc (v := v_84) (lv' := [(3, .int v_84), (0, .ref (o 0)), (1, .int v_15), (2, .int r_18)]) X dX3_cycles_84 3 rfl (by rw [ev_84]; rfl) (Nat.le_of_ble_eq_true rfl) rfl ?_
          refine z_goto (tgt := 48) X dX3_cycles_87 (by decide) ?_
          refine z_lv (lv' := [(0, .ref (o 0)), (1, .int v_15), (2, .int r_18), (3, .int v_84)]) [1, 2, 3, 0] rfl ?_
          exact ih_48 v_84 M_83 (cu_b hi (by omega) hp c_56 ev_84) (by rw [eM_83, sA_ne _ _ _ _ (cy_ne hP2 ev_67 (cu_lt hi (by omega) hp c_56) (by omega))]; exact hp) (by rw [eM_83, sA_ne _ _ _ _ (cy_ne hP2 ev_67 (cu_lt hi (by omega) hp c_56) (by omega))]; exact hq) (fun q_48 eq_48 => kk_48 q_48 (eq_48.trans (by subst ev_67 er_71 ej_82 eM_83 ev_84; simp only [L_M_cycles_48, if_neg c_56])))
        refine z_if_eq (tgt := 81) X dX3_cycles_74 (by decide) (fun c_74 => ?_) (fun c_74 => ?_)
        · refine z_iconst (v := (0 : Int32)) X dX3_cycles_81 (by decide) ?_
          exact J_j_82 (0 : Int32) (by simp only [if_pos c_74])
        · refine z_iconst (v := (1 : Int32)) X dX3_cycles_77 (by decide) ?_
          refine z_goto (tgt := 82) X dX3_cycles_78 (by decide) ?_
          exact J_j_82 (1 : Int32) (by simp only [if_neg c_74])
  refine Lp_48 9 (0 : Int32) M_45 (cu_i (by omega)) (by rw [eM_45, sA_ne _ _ _ _ (by decide)]; exact hP) (by rw [eM_45, sA_ne _ _ _ _ (by decide)]; exact hR9) (fun q_48 eq_48 ho => ?_)
  refine z_aload_n X dX3_cycles_90 0 rfl ?_
  refine z_iload_n X dX3_cycles_91 1 rfl ?_
  refine z_callSiN X (c_M_many l D kI kC kQ v_15 (by rw [ev_15]; exact set_bn hI)) (gS wd2_204 wd2_205 wd1_4 wd2_206) k_M_many rfl rfl ⟨Nat.le_of_ble_eq_true rfl, Nat.le_of_ble_eq_true rfl⟩ ⟨Nat.zero_le _, Nat.zero_le _⟩ rfl rfl (Nat.le_of_ble_eq_true rfl) dX3_cycles_92 rfl (fun _ => rfl) (fun r_92 er_92 => ?_)
  refine z_callVv0 X (c_M_spends l D kI kC kQ o q_48 r_92) (gV wd3_48 wd3_50 wd0_23 wd1_4 wd3_51) k_M_spends rfl rfl ⟨Nat.le_of_ble_eq_true rfl, Nat.le_of_ble_eq_true rfl⟩ ⟨Nat.zero_le _, Nat.zero_le _⟩ 3 0 rfl rfl rfl rfl rfl (Nat.le_of_ble_eq_true rfl) dX3_cycles_95 (fun r_95 er_95 => ?_)
  refine z_iload_n X dX3_cycles_98 2 rfl ?_
  refine z_iconst (v := (2 : Int32)) X dX3_cycles_99 (by decide) ?_
  have J_j_128 : ∀ (j_128 : ARR), j_128 = (if r_18 = (2 : Int32) then (let M_113 : ARR := sA r_95 0 45 ((r_95 0 45) + (1 : Int32)); M_113) else (let M_127 : ARR := sA r_95 0 43 ((r_95 0 43) + (1 : Int32)); M_127)) → (j_128 0 34 = nI R9) → Z p l e { frames := 3, cells := 0, slots := 0, locals := 70 } s m args below meth c D A 4 0 0 Q (wM kI o j_128) [(0, .ref (o 0)), (2, .int r_18)] 128 [] := by
    intro j_128 ej_128 hj
    refine z_iload_n X dX3_cycles_128 1 rfl ?_
    refine z_iconst (v := (1 : Int32)) X dX3_cycles_129 (by decide) ?_
    have J_j_185 : ∀ (j_185 : ARR), j_185 = (if r_18 = (1 : Int32) then (let M_143 : ARR := sA j_128 0 44 ((j_128 0 44) + (1 : Int32)); let M_160 : ARR := sA M_143 0 48 ((M_143 0 48) + (M_143 0 41)); let q_163 : ARR := L_M_cycles_163 21 (0 : Int32) M_160; q_163) else (j_128)) → Z p l e { frames := 3, cells := 0, slots := 0, locals := 70 } s m args below meth c D A 4 0 0 Q (wM kI o j_185) [(0, .ref (o 0))] 185 [] := by
      intro j_185 ej_185
      refine z_aload_n X dX3_cycles_185 0 rfl ?_
      refine zM_g0 X wd2_126 dX3_cycles_186 ?_
      refine z_bipush (v := (41 : Int32)) X dX3_cycles_189 (by decide) ?_
      refine zM_l0 X vi_41_55 cl_41 dX3_cycles_191 ?_
      refine z_iconst (v := (1 : Int32)) X dX3_cycles_192 (by decide) ?_
      have J_j_217 : ∀ (j_217 : ARR), j_217 = (if (j_185 0 41) = (1 : Int32) then (if (j_185 0 47) < (j_185 0 35) then (j_185) else (let r_214 : ARR := (F_M_looks j_185); r_214)) else (j_185)) → Z p l e { frames := 3, cells := 0, slots := 0, locals := 70 } s m args below meth c D A 4 0 0 Q (wM kI o j_217) [] 217 [] := by
        intro j_217 ej_217
        exact z_vret X hQ rfl j_217 rfl (by subst ev_15 er_18 eM_45 eq_48 er_92 er_95 ej_128 ej_185 ej_217; simp only [F_M_cycles]) dX3_cycles_217
      refine z_icmp_ne (tgt := 217) X dX3_cycles_193 (by decide) (fun c_193 => ?_) (fun c_193 => ?_)
      · refine z_lv (lv' := []) [] rfl ?_
        exact J_j_217 j_185 (by simp only [if_neg c_193])
      · refine z_aload_n X dX3_cycles_196 0 rfl ?_
        refine zM_g0 X wd2_126 dX3_cycles_197 ?_
        refine z_bipush (v := (47 : Int32)) X dX3_cycles_200 (by decide) ?_
        refine zM_l0 X vi_47_55 cl_47 dX3_cycles_202 ?_
        refine z_aload_n X dX3_cycles_203 0 rfl ?_
        refine zM_g0 X wd2_126 dX3_cycles_204 ?_
        refine z_bipush (v := (35 : Int32)) X dX3_cycles_207 (by decide) ?_
        refine zM_l0 X vi_35_55 cl_35 dX3_cycles_209 ?_
        refine z_icmp_lt (tgt := 217) X dX3_cycles_210 (by decide) (fun c_210 => ?_) (fun c_210 => ?_)
        · refine z_lv (lv' := []) [] rfl ?_
          exact J_j_217 j_185 (by simp only [if_pos c_193, if_pos c_210])
        · refine z_aload_n X dX3_cycles_213 0 rfl ?_
          refine z_callVv0 X (c_M_looks l D kI kC kQ o j_185) (gV wd3_52 wd3_54 wd0_24 wd1_4 wd3_55) k_M_looks rfl rfl ⟨Nat.le_of_ble_eq_true rfl, Nat.le_of_ble_eq_true rfl⟩ ⟨Nat.zero_le _, Nat.zero_le _⟩ 3 0 rfl rfl rfl rfl rfl (Nat.le_of_ble_eq_true rfl) dX3_cycles_214 (fun r_214 er_214 => ?_)
          refine z_lv (lv' := []) [] rfl ?_
          exact J_j_217 r_214 (by subst er_214; simp only [if_pos c_193, if_neg c_210])
    refine z_icmp_ne (tgt := 185) X dX3_cycles_130 (by decide) (fun c_130 => ?_) (fun c_130 => ?_)
    · refine z_lv (lv' := [(0, .ref (o 0))]) [0] rfl ?_
      exact J_j_185 j_128 (by simp only [if_neg c_130])
    · refine z_aload_n X dX3_cycles_133 0 rfl ?_
      refine zM_g0 X wd2_126 dX3_cycles_134 ?_
      refine z_bipush (v := (44 : Int32)) X dX3_cycles_137 (by decide) ?_
      refine z_dup2 X dX3_cycles_139 rfl rfl ?_
      refine zM_l0 X vi_44_55 cl_44 dX3_cycles_140 ?_
      refine z_iconst (v := (1 : Int32)) X dX3_cycles_141 (by decide) ?_
      refine z_iadd X dX3_cycles_142 ?_
      refine zM_s0 X vi_44_55 cl_44 dX3_cycles_143 (fun M_143 eM_143 => ?_)
      refine z_aload_n X dX3_cycles_144 0 rfl ?_
      refine zM_g0 X wd2_126 dX3_cycles_145 ?_
      refine z_bipush (v := (48 : Int32)) X dX3_cycles_148 (by decide) ?_
      refine z_dup2 X dX3_cycles_150 rfl rfl ?_
      refine zM_l0 X vi_48_55 cl_48 dX3_cycles_151 ?_
      refine z_aload_n X dX3_cycles_152 0 rfl ?_
      refine zM_g0 X wd2_126 dX3_cycles_153 ?_
      refine z_bipush (v := (41 : Int32)) X dX3_cycles_156 (by decide) ?_
      refine zM_l0 X vi_41_55 cl_41 dX3_cycles_158 ?_
      refine z_iadd X dX3_cycles_159 ?_
      refine zM_s0 X vi_48_55 cl_48 dX3_cycles_160 (fun M_160 eM_160 => ?_)
      refine z_iconst (v := (0 : Int32)) X dX3_cycles_161 (by decide) ?_
      refine z_istore_n (lv' := [(3, .int (0 : Int32)), (0, .ref (o 0)), (2, .int r_18)]) X dX3_cycles_162 (Nat.le_of_ble_eq_true rfl) rfl ?_
      refine z_lv (lv' := [(0, .ref (o 0)), (3, .int (0 : Int32))]) [1, 0] rfl ?_
      have Lp_163 : ∀ (n : Nat) (x3_163 : Int32) (M_163 : ARR), (cu R9 n x3_163) → (M_163 0 34 = nI R9) → (∀ q_163 : ARR, q_163 = L_M_cycles_163 n x3_163 M_163 → Z p l e { frames := 3, cells := 0, slots := 0, locals := 70 } s m args below meth c D A 4 0 0 Q (wM kI o q_163) [(0, .ref (o 0))] 185 []) → Z p l e { frames := 3, cells := 0, slots := 0, locals := 70 } s m args below meth c D A 4 0 0 Q (wM kI o M_163) [(0, .ref (o 0)), (3, .int x3_163)] 163 [] := by
        intro n
        induction n with
        | zero =>
          intro x3_163 M_163 hi hp kk_163
          exfalso
          exact cu_0 hi
        | succ n ih_163 =>
          intro x3_163 M_163 hi hp kk_163
          refine z_iload_n X dX3_cycles_163 1 rfl ?_
          refine z_aload_n X dX3_cycles_164 0 rfl ?_
          refine zM_g0 X wd2_126 dX3_cycles_165 ?_
          refine z_bipush (v := (34 : Int32)) X dX3_cycles_168 (by decide) ?_
          refine zM_l0 X vi_34_55 cl_34 dX3_cycles_170 ?_
          refine z_icmp_ge (tgt := 185) X dX3_cycles_171 (by decide) (fun c_171 => ?_) (fun c_171 => ?_)
          · refine z_lv (lv' := [(0, .ref (o 0))]) [0] rfl ?_
            exact kk_163 M_163 (by simp only [L_M_cycles_163, if_pos c_171]) 
          · refine z_aload_n X dX3_cycles_174 0 rfl ?_
            refine z_iconst (v := (0 : Int32)) X dX3_cycles_175 (by decide) ?_
            refine z_callVv0 X (c_M_spends l D kI kC kQ o M_163 (0 : Int32)) (gV wd3_48 wd3_50 wd0_23 wd1_4 wd3_51) k_M_spends rfl rfl ⟨Nat.le_of_ble_eq_true rfl, Nat.le_of_ble_eq_true rfl⟩ ⟨Nat.zero_le _, Nat.zero_le _⟩ 3 0 rfl rfl rfl rfl rfl (Nat.le_of_ble_eq_true rfl) dX3_cycles_176 (fun r_176 er_176 => ?_)
            obtain ⟨v_179, ev_179⟩ : ∃ y : Int32, y = x3_163 + (1 : Int32) := ⟨_, rfl⟩
            refine z_iinc (v := v_179) (lv' := [(3, .int v_179), (0, .ref (o 0))]) X dX3_cycles_179 1 rfl (by rw [ev_179]; rfl) (Nat.le_of_ble_eq_true rfl) rfl ?_
            refine z_goto (tgt := 163) X dX3_cycles_182 (by decide) ?_
            refine z_lv (lv' := [(0, .ref (o 0)), (3, .int v_179)]) [1, 0] rfl ?_
            exact ih_163 v_179 r_176 (cu_b hi (by omega) hp c_171 ev_179) (by rw [er_176, spends_at _ _ (by decide) (by decide) (by decide) (by decide) (by decide)]; exact hp) (fun q_163 eq_163 => kk_163 q_163 (eq_163.trans (by subst er_176 ev_179; simp only [L_M_cycles_163, if_neg c_171])))
      refine Lp_163 21 (0 : Int32) M_160 (cu_i (by omega)) (by rw [eM_160, sA_ne _ _ _ _ (by decide), eM_143, sA_ne _ _ _ _ (by decide)]; exact hj) (fun q_163 eq_163 => ?_)
      exact J_j_185 q_163 (by subst eM_143 eM_160 eq_163; simp only [if_pos c_130])
  refine z_icmp_ne (tgt := 117) X dX3_cycles_100 (by decide) (fun c_100 => ?_) (fun c_100 => ?_)
  · refine z_aload_n X dX3_cycles_117 0 rfl ?_
    refine zM_g0 X wd2_126 dX3_cycles_118 ?_
    refine z_bipush (v := (43 : Int32)) X dX3_cycles_121 (by decide) ?_
    refine z_dup2 X dX3_cycles_123 rfl rfl ?_
    refine zM_l0 X vi_43_55 cl_43 dX3_cycles_124 ?_
    refine z_iconst (v := (1 : Int32)) X dX3_cycles_125 (by decide) ?_
    refine z_iadd X dX3_cycles_126 ?_
    refine zM_s0 X vi_43_55 cl_43 dX3_cycles_127 (fun M_127 eM_127 => ?_)
    refine z_lv (lv' := [(0, .ref (o 0)), (2, .int r_18)]) [0, 2] rfl ?_
    exact J_j_128 M_127 (by subst eM_127; simp only [if_neg c_100]) (by rw [eM_127, sA_ne _ _ _ _ (by decide), er_95, spends_at _ _ (by decide) (by decide) (by decide) (by decide) (by decide)]; exact ho)
  · refine z_aload_n X dX3_cycles_103 0 rfl ?_
    refine zM_g0 X wd2_126 dX3_cycles_104 ?_
    refine z_bipush (v := (45 : Int32)) X dX3_cycles_107 (by decide) ?_
    refine z_dup2 X dX3_cycles_109 rfl rfl ?_
    refine zM_l0 X vi_45_55 cl_45 dX3_cycles_110 ?_
    refine z_iconst (v := (1 : Int32)) X dX3_cycles_111 (by decide) ?_
    refine z_iadd X dX3_cycles_112 ?_
    refine zM_s0 X vi_45_55 cl_45 dX3_cycles_113 (fun M_113 eM_113 => ?_)
    refine z_goto (tgt := 128) X dX3_cycles_114 (by decide) ?_
    refine z_lv (lv' := [(0, .ref (o 0)), (2, .int r_18)]) [0, 2] rfl ?_
    exact J_j_128 M_113 (by subst eM_113; simp only [if_pos c_100]) (by rw [eM_113, sA_ne _ _ _ _ (by decide), er_95, spends_at _ _ (by decide) (by decide) (by decide) (by decide) (by decide)]; exact ho)
set_option maxRecDepth 100000 in
set_option maxHeartbeats 4000000 in
theorem c_M_run (l : Launch) (D : va_G) (kI kC kQ : ClassId) (o : Nat → Nat) (M : ARR) (a1 : Int32) (hI : IA (M 0)) (hh : bn 0 4 (M 7 4)) : CtI (U := Int32 × ARR) l yX3_run cX3_run 3 (some .int) { frames := 4, cells := 0, slots := 0, locals := 93 } D (tysG kI kC kQ) (wM kI o M) [.ref (o 0), .int a1] (fun u => u.1) (fun u => (wM kI o u.2)) (fun u => u = F_M_run M a1) := by
  refine met_Zi (own := "ShadowLatchesModel") (by decide +kernel) rfl (Nat.le_of_ble_eq_true rfl) ?_
  intro p e s m args below meth c A Q X hQ
  show Z p l e { frames := 4, cells := 0, slots := 0, locals := 93 } s m args below meth c D A 3 0 0 Q (wM kI o M) [(0, .ref (o 0)), (1, .int a1)] 0 []
  refine z_iload_n X dX3_run_0 1 rfl ?_
  refine z_i2l X dX3_run_1 ?_
  refine z_lconst (v := (1 : Int64)) X dX3_run_2 (by decide) ?_
  refine z_ldc2 X dX3_run_3 wd3_28 ?_
  refine z_callSiN X (c_M_in l D kI kC kQ (a1.toInt64) (1 : Int64) (2000 : Int64)) (gS wd2_172 wd2_173 wd1_4 wd2_174) k_M_in rfl rfl ⟨Nat.le_of_ble_eq_true rfl, Nat.le_of_ble_eq_true rfl⟩ ⟨Nat.zero_le _, Nat.zero_le _⟩ rfl rfl (Nat.le_of_ble_eq_true rfl) dX3_run_6 rfl (fun _ => rfl) (fun r_6 er_6 => ?_)
  refine z_if_ne (tgt := 15) X dX3_run_9 (by decide) (fun c_9 => ?_) (fun c_9 => ?_)
  · refine z_aload_n X dX3_run_15 0 rfl ?_
    refine z_callVv0 X (c_M_remember l D kI kC kQ o M) (gV wd2_175 wd2_177 wd0_10 wd1_4 wd2_178) k_M_remember rfl rfl ⟨Nat.le_of_ble_eq_true rfl, Nat.le_of_ble_eq_true rfl⟩ ⟨Nat.zero_le _, Nat.zero_le _⟩ 3 0 rfl rfl rfl rfl rfl (Nat.le_of_ble_eq_true rfl) dX3_run_16 (fun r_16 er_16 => ?_)
    obtain ⟨K, hK1, hK2, hK⟩ := in_bn 1 2000 (by omega) er_6 c_9
    refine z_iconst (v := (0 : Int32)) X dX3_run_19 (by decide) ?_
    refine z_istore_n (lv' := [(2, .int (0 : Int32)), (0, .ref (o 0)), (1, .int a1)]) X dX3_run_20 (Nat.le_of_ble_eq_true rfl) rfl ?_
    refine z_lv (lv' := [(0, .ref (o 0)), (1, .int a1), (2, .int (0 : Int32))]) [1, 2, 0] rfl ?_
    have Lp_21 : ∀ (n : Nat) (x2_21 : Int32) (M_21 : ARR), (cu K n x2_21) → (IA (M_21 0)) → (M_21 7 4 = M 7 4) → (∀ q_21 : ARR, q_21 = L_M_run_21 a1 n x2_21 M_21 → (q_21 7 4 = M 7 4) → Z p l e { frames := 4, cells := 0, slots := 0, locals := 93 } s m args below meth c D A 3 0 0 Q (wM kI o q_21) [(0, .ref (o 0))] 36 []) → Z p l e { frames := 4, cells := 0, slots := 0, locals := 93 } s m args below meth c D A 3 0 0 Q (wM kI o M_21) [(0, .ref (o 0)), (1, .int a1), (2, .int x2_21)] 21 [] := by
      intro n
      induction n with
      | zero =>
        intro x2_21 M_21 hi hJ hm kk_21
        exfalso
        exact cu_0 hi
      | succ n ih_21 =>
        intro x2_21 M_21 hi hJ hm kk_21
        refine z_iload_n X dX3_run_21 2 rfl ?_
        refine z_iload_n X dX3_run_22 1 rfl ?_
        refine z_icmp_ge (tgt := 36) X dX3_run_23 (by decide) (fun c_23 => ?_) (fun c_23 => ?_)
        · refine z_lv (lv' := [(0, .ref (o 0))]) [0] rfl ?_
          exact kk_21 M_21 (by simp only [L_M_run_21, if_pos c_23]) hm
        · refine z_aload_n X dX3_run_26 0 rfl ?_
          refine z_callVv0 X (c_M_cycles l D kI kC kQ o M_21 hJ) (gV wd3_29 wd3_31 wd0_19 wd1_4 wd3_32) k_M_cycles rfl rfl ⟨Nat.le_of_ble_eq_true rfl, Nat.le_of_ble_eq_true rfl⟩ ⟨Nat.zero_le _, Nat.zero_le _⟩ 3 0 rfl rfl rfl rfl rfl (Nat.le_of_ble_eq_true rfl) dX3_run_27 (fun r_27 er_27 => ?_)
          obtain ⟨v_30, ev_30⟩ : ∃ y : Int32, y = x2_21 + (1 : Int32) := ⟨_, rfl⟩
          refine z_iinc (v := v_30) (lv' := [(2, .int v_30), (0, .ref (o 0)), (1, .int a1)]) X dX3_run_30 2 rfl (by rw [ev_30]; rfl) (Nat.le_of_ble_eq_true rfl) rfl ?_
          refine z_goto (tgt := 21) X dX3_run_33 (by decide) ?_
          refine z_lv (lv' := [(0, .ref (o 0)), (1, .int a1), (2, .int v_30)]) [1, 2, 0] rfl ?_
          exact ih_21 v_30 r_27 (cu_b hi (by omega) hK c_23 ev_30) (by rw [er_27]; exact IA_cycles hJ) (by rw [er_27, cycles_o _ (by decide)]; exact hm) (fun q_21 eq_21 => kk_21 q_21 (eq_21.trans (by subst er_27 ev_30; simp only [L_M_run_21, if_neg c_23])))
    refine Lp_21 2001 (0 : Int32) r_16 (cu_i (by omega)) (by rw [er_16, rem_o M (by decide)]; exact hI) (by rw [er_16, rem_o M (by decide)]) (fun q_21 eq_21 ho => ?_)
    refine z_aload_n X dX3_run_36 0 rfl ?_
    refine z_aload_n X dX3_run_37 0 rfl ?_
    refine zM_g0 X wd2_126 dX3_run_38 ?_
    refine z_bipush (v := (44 : Int32)) X dX3_run_41 (by decide) ?_
    refine zM_l0 X vi_44_55 cl_44 dX3_run_43 ?_
    refine z_aload_n X dX3_run_44 0 rfl ?_
    refine zM_g1 X wd2_127 dX3_run_45 ?_
    refine z_bipush (v := (44 : Int32)) X dX3_run_48 (by decide) ?_
    refine zM_l1 X vi_44_55 cl_44 dX3_run_50 ?_
    refine z_isub X dX3_run_51 ?_
    refine z_callVi0 X (c_M_acted l D kI kC kQ o q_21 ((q_21 0 44) - (q_21 1 44)) (by rw [ho]; exact hh)) (gV wd2_182 wd2_184 wd0_11 wd1_4 wd2_185) k_M_acted rfl rfl ⟨Nat.le_of_ble_eq_true rfl, Nat.le_of_ble_eq_true rfl⟩ ⟨Nat.zero_le _, Nat.zero_le _⟩ 3 0 rfl rfl rfl rfl rfl (Nat.le_of_ble_eq_true rfl) dX3_run_52 (fun r_52 er_52 => ?_)
    exact z_iret X hQ rfl (r_52.1, r_52.2) rfl rfl (by subst er_6 er_16 eq_21 er_52; simp only [F_M_run, if_neg c_9]) dX3_run_55
  · refine z_bipush (v := (-2 : Int32)) X dX3_run_12 (by decide) ?_
    exact z_iret X hQ rfl ((-2 : Int32), M) rfl rfl (by subst er_6; simp only [F_M_run, if_pos c_9]) dX3_run_14
set_option maxRecDepth 100000 in
set_option maxHeartbeats 4000000 in
theorem c_M_undo (l : Launch) (D : va_G) (kI kC kQ : ClassId) (o : Nat → Nat) (M : ARR) (hh : bn 0 4 (M 7 4)) : CtI (U := Int32 × ARR) l yX3_undo cX3_undo 2 (some .int) { frames := 0, cells := 0, slots := 0, locals := 0 } D (tysG kI kC kQ) (wM kI o M) [.ref (o 0)] (fun u => u.1) (fun u => (wM kI o u.2)) (fun u => u = F_M_undo M) := by
  refine met_Zi (own := "ShadowLatchesModel") (by decide +kernel) rfl (Nat.le_of_ble_eq_true rfl) ?_
  intro p e s m args below meth c A Q X hQ
  show Z p l e { frames := 0, cells := 0, slots := 0, locals := 0 } s m args below meth c D A 2 0 0 Q (wM kI o M) [(0, .ref (o 0))] 0 []
  refine z_aload_n X dX3_undo_0 0 rfl ?_
  refine zM_g4 X wd2_130 dX3_undo_1 ?_
  refine z_if_ne (tgt := 10) X dX3_undo_4 (by decide) (fun c_4 => ?_) (fun c_4 => ?_)
  · refine z_aload_n X dX3_undo_10 0 rfl ?_
    refine z_dup X dX3_undo_11 rfl ?_
    refine zM_g4 X wd2_130 dX3_undo_12 ?_
    refine z_iconst (v := (1 : Int32)) X dX3_undo_15 (by decide) ?_
    refine z_isub X dX3_undo_16 ?_
    refine zM_p4 X wd2_130 dX3_undo_17 (fun M_17 eM_17 => ?_)
    refine z_iconst (v := (0 : Int32)) X dX3_undo_20 (by decide) ?_
    refine z_istore_n (lv' := [(1, .int (0 : Int32)), (0, .ref (o 0))]) X dX3_undo_21 (Nat.le_of_ble_eq_true rfl) rfl ?_
    refine z_lv (lv' := [(0, .ref (o 0)), (1, .int (0 : Int32))]) [1, 0] rfl ?_
    have Lp_22 : ∀ (n : Nat) (x1_22 : Int32) (M_22 : ARR), (cu 55 n x1_22) → (bn 0 3 (M_22 7 4)) → (∀ q_22 : ARR, q_22 = L_M_undo_22 n x1_22 M_22 → Z p l e { frames := 0, cells := 0, slots := 0, locals := 0 } s m args below meth c D A 2 0 0 Q (wM kI o q_22) [(0, .ref (o 0))] 54 []) → Z p l e { frames := 0, cells := 0, slots := 0, locals := 0 } s m args below meth c D A 2 0 0 Q (wM kI o M_22) [(0, .ref (o 0)), (1, .int x1_22)] 22 [] := by
      intro n
      induction n with
      | zero =>
        intro x1_22 M_22 hi hm kk_22
        exfalso
        exact cu_0 hi
      | succ n ih_22 =>
        intro x1_22 M_22 hi hm kk_22
        refine z_iload_n X dX3_undo_22 1 rfl ?_
        refine z_bipush (v := (55 : Int32)) X dX3_undo_23 (by decide) ?_
        refine z_icmp_ge (tgt := 54) X dX3_undo_25 (by decide) (fun c_25 => ?_) (fun c_25 => ?_)
        · refine z_lv (lv' := [(0, .ref (o 0))]) [0] rfl ?_
          exact kk_22 M_22 (by simp only [L_M_undo_22, if_pos c_25]) 
        · refine z_aload_n X dX3_undo_28 0 rfl ?_
          refine zM_g0 X wd2_126 dX3_undo_29 ?_
          refine z_iload_n X dX3_undo_32 1 rfl ?_
          refine z_aload_n X dX3_undo_33 0 rfl ?_
          refine zM_g3 X wd2_129 dX3_undo_34 ?_
          refine z_bipush (v := (55 : Int32)) X dX3_undo_37 (by decide) ?_
          refine z_aload_n X dX3_undo_39 0 rfl ?_
          refine zM_g4 X wd2_130 dX3_undo_40 ?_
          refine z_imul X dX3_undo_43 ?_
          refine z_iload_n X dX3_undo_44 1 rfl ?_
          refine z_iadd X dX3_undo_45 ?_
          refine zM_l3 X (vin_h hm (cu_lt hi (by omega) rfl c_25)) rfl dX3_undo_46 ?_
          refine zM_s0 X (vin_k (cu_lt hi (by omega) rfl c_25) (by omega) (by omega)) rfl dX3_undo_47 (fun M_47 eM_47 => ?_)
          obtain ⟨v_48, ev_48⟩ : ∃ y : Int32, y = x1_22 + (1 : Int32) := ⟨_, rfl⟩
          refine z_iinc (v := v_48) (lv' := [(1, .int v_48), (0, .ref (o 0))]) X dX3_undo_48 1 rfl (by rw [ev_48]; rfl) (Nat.le_of_ble_eq_true rfl) rfl ?_
          refine z_goto (tgt := 22) X dX3_undo_51 (by decide) ?_
          refine z_lv (lv' := [(0, .ref (o 0)), (1, .int v_48)]) [1, 0] rfl ?_
          exact ih_22 v_48 M_47 (cu_b hi (by omega) rfl c_25 ev_48) (by rw [eM_47, sA_o _ _ _ _ (by decide)]; exact hm) (fun q_22 eq_22 => kk_22 q_22 (eq_22.trans (by subst eM_47 ev_48; simp only [L_M_undo_22, if_neg c_25])))
    refine Lp_22 56 (0 : Int32) M_17 (cu_i (by omega)) (by rw [eM_17, sA_e]; exact bn_dec hh c_4) (fun q_22 eq_22 => ?_)
    refine z_aload_n X dX3_undo_54 0 rfl ?_
    refine zM_g4 X wd2_130 dX3_undo_55 ?_
    exact z_iret X hQ rfl ((q_22 7 4), q_22) rfl rfl (by subst eM_17 eq_22; simp only [F_M_undo, if_neg c_4]) dX3_undo_58
  · refine z_bipush (v := (-5 : Int32)) X dX3_undo_7 (by decide) ?_
    exact z_iret X hQ rfl ((-5 : Int32), M) rfl rfl (by simp only [F_M_undo, if_pos c_4]) dX3_undo_9
set_option maxRecDepth 100000 in
set_option maxHeartbeats 4000000 in
theorem c_M_keep (l : Launch) (D : va_G) (kI kC kQ : ClassId) (o : Nat → Nat) (M : ARR) : CtI (U := Int32 × ARR) l yX3_keep cX3_keep 1 (some .int) { frames := 1, cells := 0, slots := 0, locals := 22 } D (tysG kI kC kQ) (wM kI o M) [.ref (o 0)] (fun u => u.1) (fun u => (wM kI o u.2)) (fun u => u = F_M_keep M) := by
  refine met_Zi (own := "ShadowLatchesModel") (by decide +kernel) rfl (Nat.le_of_ble_eq_true rfl) ?_
  intro p e s m args below meth c A Q X hQ
  show Z p l e { frames := 1, cells := 0, slots := 0, locals := 22 } s m args below meth c D A 1 0 0 Q (wM kI o M) [(0, .ref (o 0))] 0 []
  refine z_aload_n X dX3_keep_0 0 rfl ?_
  refine zM_g0 X wd2_126 dX3_keep_1 ?_
  refine z_aload_n X dX3_keep_4 0 rfl ?_
  refine zM_g5 X wd2_131 dX3_keep_5 ?_
  refine zM_cp_0_4 X (gS wd2_179 wd2_180 wd1_4 wd2_181) ⟨Nat.le_of_ble_eq_true rfl, Nat.le_of_ble_eq_true rfl⟩ ⟨Nat.zero_le _, Nat.zero_le _⟩ (Nat.le_of_ble_eq_true rfl) dX3_keep_8 (fun M_8 eM_8 => ?_)
  refine z_aload_n X dX3_keep_11 0 rfl ?_
  refine z_iconst (v := (1 : Int32)) X dX3_keep_12 (by decide) ?_
  refine zM_p6 X wd2_132 dX3_keep_13 (fun M_13 eM_13 => ?_)
  refine z_aload_n X dX3_keep_16 0 rfl ?_
  refine zM_g0 X wd2_126 dX3_keep_17 ?_
  refine z_bipush (v := (39 : Int32)) X dX3_keep_20 (by decide) ?_
  refine zM_l0 X vi_39_55 cl_39 dX3_keep_22 ?_
  exact z_iret X hQ rfl ((M_13 0 39), M_13) rfl rfl (by subst eM_8 eM_13; simp only [F_M_keep]) dX3_keep_23
set_option maxRecDepth 100000 in
set_option maxHeartbeats 4000000 in
theorem c_M_restore (l : Launch) (D : va_G) (kI kC kQ : ClassId) (o : Nat → Nat) (M : ARR) (hh : bn 0 4 (M 7 4)) : CtI (U := Int32 × ARR) l yX3_restore cX3_restore 1 (some .int) { frames := 2, cells := 0, slots := 0, locals := 42 } D (tysG kI kC kQ) (wM kI o M) [.ref (o 0)] (fun u => u.1) (fun u => (wM kI o u.2)) (fun u => u = F_M_restore M) := by
  refine met_Zi (own := "ShadowLatchesModel") (by decide +kernel) rfl (Nat.le_of_ble_eq_true rfl) ?_
  intro p e s m args below meth c A Q X hQ
  show Z p l e { frames := 2, cells := 0, slots := 0, locals := 42 } s m args below meth c D A 1 0 0 Q (wM kI o M) [(0, .ref (o 0))] 0 []
  refine z_aload_n X dX3_restore_0 0 rfl ?_
  refine zM_g6 X wd2_132 dX3_restore_1 ?_
  refine z_if_ne (tgt := 10) X dX3_restore_4 (by decide) (fun c_4 => ?_) (fun c_4 => ?_)
  · refine z_aload_n X dX3_restore_10 0 rfl ?_
    refine z_callVv0 X (c_M_remember l D kI kC kQ o M) (gV wd2_175 wd2_177 wd0_10 wd1_4 wd2_178) k_M_remember rfl rfl ⟨Nat.le_of_ble_eq_true rfl, Nat.le_of_ble_eq_true rfl⟩ ⟨Nat.zero_le _, Nat.zero_le _⟩ 3 0 rfl rfl rfl rfl rfl (Nat.le_of_ble_eq_true rfl) dX3_restore_11 (fun r_11 er_11 => ?_)
    refine z_aload_n X dX3_restore_14 0 rfl ?_
    refine zM_g5 X wd2_131 dX3_restore_15 ?_
    refine z_aload_n X dX3_restore_18 0 rfl ?_
    refine zM_g0 X wd2_126 dX3_restore_19 ?_
    refine zM_cp_4_0 X (gS wd2_179 wd2_180 wd1_4 wd2_181) ⟨Nat.le_of_ble_eq_true rfl, Nat.le_of_ble_eq_true rfl⟩ ⟨Nat.zero_le _, Nat.zero_le _⟩ (Nat.le_of_ble_eq_true rfl) dX3_restore_22 (fun M_22 eM_22 => ?_)
    refine z_aload_n X dX3_restore_25 0 rfl ?_
    refine z_aload_n X dX3_restore_26 0 rfl ?_
    refine zM_g0 X wd2_126 dX3_restore_27 ?_
    refine z_bipush (v := (39 : Int32)) X dX3_restore_30 (by decide) ?_
    refine zM_l0 X vi_39_55 cl_39 dX3_restore_32 ?_
    refine z_callVi0 X (c_M_acted l D kI kC kQ o M_22 (M_22 0 39) (by rw [eM_22, sR_o _ _ _ (by decide), er_11, rem_o M (by decide)]; exact hh)) (gV wd2_182 wd2_184 wd0_11 wd1_4 wd2_185) k_M_acted rfl rfl ⟨Nat.le_of_ble_eq_true rfl, Nat.le_of_ble_eq_true rfl⟩ ⟨Nat.zero_le _, Nat.zero_le _⟩ 3 0 rfl rfl rfl rfl rfl (Nat.le_of_ble_eq_true rfl) dX3_restore_33 (fun r_33 er_33 => ?_)
    exact z_iret X hQ rfl (r_33.1, r_33.2) rfl rfl (by subst er_11 eM_22 er_33; simp only [F_M_restore, if_neg c_4]) dX3_restore_36
  · refine z_bipush (v := (-5 : Int32)) X dX3_restore_7 (by decide) ?_
    exact z_iret X hQ rfl ((-5 : Int32), M) rfl rfl (by simp only [F_M_restore, if_pos c_4]) dX3_restore_9
set_option maxRecDepth 100000 in
set_option maxHeartbeats 4000000 in
theorem c_M_govern (l : Launch) (D : va_G) (kI kC kQ : ClassId) (o : Nat → Nat) (M : ARR) (a1 : Int32) (hh : bn 0 4 (M 7 4)) : CtI (U := Int32 × ARR) l yX3_govern cX3_govern 3 (some .int) { frames := 2, cells := 0, slots := 0, locals := 42 } D (tysG kI kC kQ) (wM kI o M) [.ref (o 0), .int a1] (fun u => u.1) (fun u => (wM kI o u.2)) (fun u => u = F_M_govern M a1) := by
  refine met_Zi (own := "ShadowLatchesModel") (by decide +kernel) rfl (Nat.le_of_ble_eq_true rfl) ?_
  intro p e s m args below meth c A Q X hQ
  show Z p l e { frames := 2, cells := 0, slots := 0, locals := 42 } s m args below meth c D A 3 0 0 Q (wM kI o M) [(0, .ref (o 0)), (1, .int a1)] 0 []
  refine z_iload_n X dX3_govern_0 1 rfl ?_
  have J_j_9 : ∀ (j_9 : Int32), j_9 = (if a1 = (0 : Int32) then ((0 : Int32)) else ((1 : Int32))) → Z p l e { frames := 2, cells := 0, slots := 0, locals := 42 } s m args below meth c D A 3 0 0 Q (wM kI o M) [(0, .ref (o 0))] 9 [.int j_9] := by
    intro j_9 ej_9
    refine z_istore_n (lv' := [(2, .int j_9), (0, .ref (o 0))]) X dX3_govern_9 (Nat.le_of_ble_eq_true rfl) rfl ?_
    refine z_aload_n X dX3_govern_10 1 rfl ?_
    refine zM_g0 X wd2_126 dX3_govern_11 ?_
    refine z_bipush (v := (41 : Int32)) X dX3_govern_14 (by decide) ?_
    refine zM_l0 X vi_41_55 cl_41 dX3_govern_16 ?_
    refine z_iload_n X dX3_govern_17 0 rfl ?_
    refine z_icmp_ne (tgt := 24) X dX3_govern_18 (by decide) (fun c_18 => ?_) (fun c_18 => ?_)
    · refine z_aload_n X dX3_govern_24 1 rfl ?_
      refine z_callVv0 X (c_M_remember l D kI kC kQ o M) (gV wd2_175 wd2_177 wd0_10 wd1_4 wd2_178) k_M_remember rfl rfl ⟨Nat.le_of_ble_eq_true rfl, Nat.le_of_ble_eq_true rfl⟩ ⟨Nat.zero_le _, Nat.zero_le _⟩ 3 0 rfl rfl rfl rfl rfl (Nat.le_of_ble_eq_true rfl) dX3_govern_25 (fun r_25 er_25 => ?_)
      refine z_aload_n X dX3_govern_28 1 rfl ?_
      refine zM_g0 X wd2_126 dX3_govern_29 ?_
      refine z_bipush (v := (41 : Int32)) X dX3_govern_32 (by decide) ?_
      refine z_iload_n X dX3_govern_34 0 rfl ?_
      refine zM_s0 X vi_41_55 cl_41 dX3_govern_35 (fun M_35 eM_35 => ?_)
      refine z_aload_n X dX3_govern_36 1 rfl ?_
      refine zM_g0 X wd2_126 dX3_govern_37 ?_
      refine z_bipush (v := (47 : Int32)) X dX3_govern_40 (by decide) ?_
      refine z_iconst (v := (0 : Int32)) X dX3_govern_42 (by decide) ?_
      refine zM_s0 X vi_47_55 cl_47 dX3_govern_43 (fun M_43 eM_43 => ?_)
      refine z_aload_n X dX3_govern_44 1 rfl ?_
      refine zM_g0 X wd2_126 dX3_govern_45 ?_
      refine z_bipush (v := (48 : Int32)) X dX3_govern_48 (by decide) ?_
      refine z_iconst (v := (0 : Int32)) X dX3_govern_50 (by decide) ?_
      refine zM_s0 X vi_48_55 cl_48 dX3_govern_51 (fun M_51 eM_51 => ?_)
      refine z_aload_n X dX3_govern_52 1 rfl ?_
      refine z_aload_n X dX3_govern_53 1 rfl ?_
      refine zM_g0 X wd2_126 dX3_govern_54 ?_
      refine z_bipush (v := (39 : Int32)) X dX3_govern_57 (by decide) ?_
      refine zM_l0 X vi_39_55 cl_39 dX3_govern_59 ?_
      refine z_callVi0 X (c_M_acted l D kI kC kQ o M_51 (M_51 0 39) (by rw [eM_51, sA_o _ _ _ _ (by decide), eM_43, sA_o _ _ _ _ (by decide), eM_35, sA_o _ _ _ _ (by decide), er_25, rem_o M (by decide)]; exact hh)) (gV wd2_182 wd2_184 wd0_11 wd1_4 wd2_185) k_M_acted rfl rfl ⟨Nat.le_of_ble_eq_true rfl, Nat.le_of_ble_eq_true rfl⟩ ⟨Nat.zero_le _, Nat.zero_le _⟩ 3 0 rfl rfl rfl rfl rfl (Nat.le_of_ble_eq_true rfl) dX3_govern_60 (fun r_60 er_60 => ?_)
      exact z_iret X hQ rfl (r_60.1, r_60.2) rfl rfl (by subst ej_9 er_25 eM_35 eM_43 eM_51 er_60; simp only [F_M_govern, if_neg c_18]) dX3_govern_63
    · refine z_bipush (v := (-5 : Int32)) X dX3_govern_21 (by decide) ?_
      exact z_iret X hQ rfl ((-5 : Int32), M) rfl rfl (by subst ej_9; simp only [F_M_govern, if_pos c_18]) dX3_govern_23
  refine z_if_eq (tgt := 8) X dX3_govern_1 (by decide) (fun c_1 => ?_) (fun c_1 => ?_)
  · refine z_iconst (v := (0 : Int32)) X dX3_govern_8 (by decide) ?_
    refine z_lv (lv' := [(0, .ref (o 0))]) [0] rfl ?_
    exact J_j_9 (0 : Int32) (by simp only [if_pos c_1])
  · refine z_iconst (v := (1 : Int32)) X dX3_govern_4 (by decide) ?_
    refine z_goto (tgt := 9) X dX3_govern_5 (by decide) ?_
    refine z_lv (lv' := [(0, .ref (o 0))]) [0] rfl ?_
    exact J_j_9 (1 : Int32) (by simp only [if_neg c_1])
set_option maxRecDepth 100000 in
set_option maxHeartbeats 4000000 in
theorem c_M_setsWith (l : Launch) (D : va_G) (kI kC kQ : ClassId) (o : Nat → Nat) (M : ARR) (a1 : Int32) (hI : IA (M 0)) : CtI (U := Int32) l yX3_setsWith cX3_setsWith 4 (some .int) { frames := 1, cells := 0, slots := 0, locals := 21 } D (tysG kI kC kQ) (wM kI o M) [.ref (o 0), .int a1] (fun u => u) (fun _ => (wM kI o M)) (fun u => u = F_M_setsWith M a1) := by
  refine met_Zi (own := "ShadowLatchesModel") (by decide +kernel) rfl (Nat.le_of_ble_eq_true rfl) ?_
  intro p e s m args below meth c A Q X hQ
  show Z p l e { frames := 1, cells := 0, slots := 0, locals := 21 } s m args below meth c D A 4 0 0 Q (wM kI o M) [(0, .ref (o 0)), (1, .int a1)] 0 []
  obtain ⟨N, hN1, hN2, hN⟩ := hI.c
  refine z_iconst (v := (0 : Int32)) X dX3_setsWith_0 (by decide) ?_
  refine z_istore_n (lv' := [(2, .int (0 : Int32)), (0, .ref (o 0)), (1, .int a1)]) X dX3_setsWith_1 (Nat.le_of_ble_eq_true rfl) rfl ?_
  refine z_iconst (v := (0 : Int32)) X dX3_setsWith_2 (by decide) ?_
  refine z_istore_n (lv' := [(3, .int (0 : Int32)), (2, .int (0 : Int32)), (0, .ref (o 0)), (1, .int a1)]) X dX3_setsWith_3 (Nat.le_of_ble_eq_true rfl) rfl ?_
  refine z_lv (lv' := [(0, .ref (o 0)), (1, .int a1), (2, .int (0 : Int32)), (3, .int (0 : Int32))]) [2, 3, 1, 0] rfl ?_
  have Lp_4 : ∀ (n : Nat) (x2_4 : Int32) (x3_4 : Int32), (cu N n x3_4) → (∀ q_4 : Int32, q_4 = L_M_setsWith_4 M a1 n x2_4 x3_4 → Z p l e { frames := 1, cells := 0, slots := 0, locals := 21 } s m args below meth c D A 4 0 0 Q (wM kI o M) [(2, .int q_4)] 45 []) → Z p l e { frames := 1, cells := 0, slots := 0, locals := 21 } s m args below meth c D A 4 0 0 Q (wM kI o M) [(0, .ref (o 0)), (1, .int a1), (2, .int x2_4), (3, .int x3_4)] 4 [] := by
    intro n
    induction n with
    | zero =>
      intro x2_4 x3_4 hi kk_4
      exfalso
      exact cu_0 hi
    | succ n ih_4 =>
      intro x2_4 x3_4 hi kk_4
      refine z_iload_n X dX3_setsWith_4 3 rfl ?_
      refine z_aload_n X dX3_setsWith_5 0 rfl ?_
      refine zM_g0 X wd2_126 dX3_setsWith_6 ?_
      refine z_bipush (v := (49 : Int32)) X dX3_setsWith_9 (by decide) ?_
      refine zM_l0 X vi_49_55 cl_49 dX3_setsWith_11 ?_
      refine z_icmp_ge (tgt := 45) X dX3_setsWith_12 (by decide) (fun c_12 => ?_) (fun c_12 => ?_)
      · refine z_lv (lv' := [(2, .int x2_4)]) [2] rfl ?_
        exact kk_4 x2_4 (by simp only [L_M_setsWith_4, if_pos c_12]) 
      · refine z_iload_n X dX3_setsWith_15 2 rfl ?_
        refine z_aload_n X dX3_setsWith_16 0 rfl ?_
        refine zM_g0 X wd2_126 dX3_setsWith_17 ?_
        refine z_bipush (v := (16 : Int32)) X dX3_setsWith_20 (by decide) ?_
        refine z_iload_n X dX3_setsWith_22 3 rfl ?_
        refine z_iadd X dX3_setsWith_23 ?_
        refine zM_l0 X (vin_a 16 (cu_lt hi (by omega) hN c_12) (by omega) (by omega)) rfl dX3_setsWith_24 ?_
        refine z_iload_n X dX3_setsWith_25 1 rfl ?_
        refine z_callSiN X (c_M_has l D kI kC kQ (M 0 (((16 : Int32) + x3_4).toNatClampNeg)) a1) (gS wd3_37 wd3_38 wd1_4 wd3_39) k_M_has rfl rfl ⟨Nat.le_of_ble_eq_true rfl, Nat.le_of_ble_eq_true rfl⟩ ⟨Nat.zero_le _, Nat.zero_le _⟩ rfl rfl (Nat.le_of_ble_eq_true rfl) dX3_setsWith_26 rfl (fun _ => rfl) (fun r_26 er_26 => ?_)
        have J_j_37 : ∀ (j_37 : Int32), j_37 = (if r_26 = (0 : Int32) then ((0 : Int32)) else ((1 : Int32))) → Z p l e { frames := 1, cells := 0, slots := 0, locals := 21 } s m args below meth c D A 4 0 0 Q (wM kI o M) [(0, .ref (o 0)), (1, .int a1), (3, .int x3_4)] 37 [.int j_37, .int x2_4] := by
          intro j_37 ej_37
          refine z_iadd X dX3_setsWith_37 ?_
          refine z_topi (fun v_38 ev_38 => ?_)
          refine z_istore_n (lv' := [(2, .int v_38), (0, .ref (o 0)), (1, .int a1), (3, .int x3_4)]) X dX3_setsWith_38 (Nat.le_of_ble_eq_true rfl) rfl ?_
          obtain ⟨v_39, ev_39⟩ : ∃ y : Int32, y = x3_4 + (1 : Int32) := ⟨_, rfl⟩
          refine z_iinc (v := v_39) (lv' := [(3, .int v_39), (2, .int v_38), (0, .ref (o 0)), (1, .int a1)]) X dX3_setsWith_39 3 rfl (by rw [ev_39]; rfl) (Nat.le_of_ble_eq_true rfl) rfl ?_
          refine z_goto (tgt := 4) X dX3_setsWith_42 (by decide) ?_
          refine z_lv (lv' := [(0, .ref (o 0)), (1, .int a1), (2, .int v_38), (3, .int v_39)]) [2, 3, 1, 0] rfl ?_
          exact ih_4 v_38 v_39 (cu_b hi (by omega) hN c_12 ev_39) (fun q_4 eq_4 => kk_4 q_4 (eq_4.trans (by subst er_26 ej_37 ev_38 ev_39; simp only [L_M_setsWith_4, if_neg c_12])))
        refine z_if_eq (tgt := 36) X dX3_setsWith_29 (by decide) (fun c_29 => ?_) (fun c_29 => ?_)
        · refine z_iconst (v := (0 : Int32)) X dX3_setsWith_36 (by decide) ?_
          refine z_lv (lv' := [(0, .ref (o 0)), (1, .int a1), (3, .int x3_4)]) [0, 1, 3] rfl ?_
          exact J_j_37 (0 : Int32) (by simp only [if_pos c_29])
        · refine z_iconst (v := (1 : Int32)) X dX3_setsWith_32 (by decide) ?_
          refine z_goto (tgt := 37) X dX3_setsWith_33 (by decide) ?_
          refine z_lv (lv' := [(0, .ref (o 0)), (1, .int a1), (3, .int x3_4)]) [0, 1, 3] rfl ?_
          exact J_j_37 (1 : Int32) (by simp only [if_neg c_29])
  refine Lp_4 17 (0 : Int32) (0 : Int32) (cu_i (by omega)) (fun q_4 eq_4 => ?_)
  refine z_iload_n X dX3_setsWith_45 0 rfl ?_
  exact z_iret X hQ rfl q_4 rfl rfl (by subst eq_4; simp only [F_M_setsWith]) dX3_setsWith_46
set_option maxRecDepth 100000 in
set_option maxHeartbeats 4000000 in
theorem c_M_path (l : Launch) (D : va_G) (kI kC kQ : ClassId) (o : Nat → Nat) (M : ARR) (a1 : Int32) (a2 : Int32) (hI : IA (M 0)) : CtI (U := Int32) l yX3_path cX3_path 3 (some .int) { frames := 2, cells := 0, slots := 0, locals := 46 } D (tysG kI kC kQ) (wM kI o M) [.ref (o 0), .int a1, .int a2] (fun u => u) (fun _ => (wM kI o M)) (fun u => u = F_M_path M a1 a2) := by
  refine met_Zi (own := "ShadowLatchesModel") (by decide +kernel) rfl (Nat.le_of_ble_eq_true rfl) ?_
  intro p e s m args below meth c A Q X hQ
  show Z p l e { frames := 2, cells := 0, slots := 0, locals := 46 } s m args below meth c D A 3 0 0 Q (wM kI o M) [(0, .ref (o 0)), (1, .int a1), (2, .int a2)] 0 []
  refine z_aload_n X dX3_path_0 0 rfl ?_
  refine z_iload_n X dX3_path_1 1 rfl ?_
  refine z_callVi0 X (c_M_isPath l D kI kC kQ o M a1) (gV wd2_190 wd2_192 wd0_12 wd1_4 wd2_193) k_M_isPath rfl rfl ⟨Nat.le_of_ble_eq_true rfl, Nat.le_of_ble_eq_true rfl⟩ ⟨Nat.zero_le _, Nat.zero_le _⟩ 3 0 rfl rfl rfl rfl rfl (Nat.le_of_ble_eq_true rfl) dX3_path_2 (fun r_2 er_2 => ?_)
  refine z_if_ne (tgt := 10) X dX3_path_5 (by decide) (fun c_5 => ?_) (fun c_5 => ?_)
  · refine z_iload_n X dX3_path_10 2 rfl ?_
    by_cases c_11_0 : a2 = (0 : Int32)
    · refine z_tableIn (tgt := 44) X dX3_path_11 (by rw [c_11_0]; decide) (by rw [c_11_0]; decide) (by rw [c_11_0]; rfl) (by decide) ?_
      refine z_aload_n X dX3_path_44 0 rfl ?_
      refine zM_g0 X wd2_126 dX3_path_45 ?_
      refine z_iconst (v := (0 : Int32)) X dX3_path_48 (by decide) ?_
      refine z_iload_n X dX3_path_49 1 rfl ?_
      refine z_iadd X dX3_path_50 ?_
      refine zM_l0 X (vin_a 0 (isPath_lt hI.p er_2 c_5) (by omega) (by omega)) rfl dX3_path_51 ?_
      exact z_iret X hQ rfl (M 0 (((0 : Int32) + a1).toNatClampNeg)) rfl rfl (by subst er_2; simp only [F_M_path, if_neg c_5, if_pos c_11_0]) dX3_path_52
    by_cases c_11_1 : a2 = (1 : Int32)
    · refine z_tableIn (tgt := 53) X dX3_path_11 (by rw [c_11_1]; decide) (by rw [c_11_1]; decide) (by rw [c_11_1]; rfl) (by decide) ?_
      refine z_aload_n X dX3_path_53 0 rfl ?_
      refine z_iload_n X dX3_path_54 1 rfl ?_
      refine z_aload_n X dX3_path_55 0 rfl ?_
      refine zM_g0 X wd2_126 dX3_path_56 ?_
      refine z_bipush (v := (39 : Int32)) X dX3_path_59 (by decide) ?_
      refine zM_l0 X vi_39_55 cl_39 dX3_path_61 ?_
      refine z_aload_n X dX3_path_62 0 rfl ?_
      refine zM_g0 X wd2_126 dX3_path_63 ?_
      refine z_bipush (v := (40 : Int32)) X dX3_path_66 (by decide) ?_
      refine zM_l0 X vi_40_55 cl_40 dX3_path_68 ?_
      refine z_callVi0 X (c_M_delayWith l D kI kC kQ o M a1 (M 0 39) (M 0 40) (vin_a 0 (isPath_lt hI.p er_2 c_5) (by omega) (by omega)) (vne hI.v)) (gV wd3_44 wd3_46 wd0_22 wd1_4 wd3_47) k_M_delayWith rfl rfl ⟨Nat.le_of_ble_eq_true rfl, Nat.le_of_ble_eq_true rfl⟩ ⟨Nat.zero_le _, Nat.zero_le _⟩ 3 0 rfl rfl rfl rfl rfl (Nat.le_of_ble_eq_true rfl) dX3_path_69 (fun r_69 er_69 => ?_)
      exact z_iret X hQ rfl r_69 rfl rfl (by subst er_2 er_69; simp only [F_M_path, if_neg c_5, if_neg c_11_0, if_pos c_11_1]) dX3_path_72
    by_cases c_11_2 : a2 = (2 : Int32)
    · refine z_tableIn (tgt := 73) X dX3_path_11 (by rw [c_11_2]; decide) (by rw [c_11_2]; decide) (by rw [c_11_2]; rfl) (by decide) ?_
      refine z_aload_n X dX3_path_73 0 rfl ?_
      refine z_iload_n X dX3_path_74 1 rfl ?_
      refine z_aload_n X dX3_path_75 0 rfl ?_
      refine zM_g0 X wd2_126 dX3_path_76 ?_
      refine z_bipush (v := (39 : Int32)) X dX3_path_79 (by decide) ?_
      refine zM_l0 X vi_39_55 cl_39 dX3_path_81 ?_
      refine z_callVi0 X (c_M_stateWith l D kI kC kQ o M a1 (M 0 39) (vin_a 0 (isPath_lt hI.p er_2 c_5) (by omega) (by omega)) (vne hI.v)) (gV wd3_40 wd3_42 wd0_21 wd1_4 wd3_43) k_M_stateWith rfl rfl ⟨Nat.le_of_ble_eq_true rfl, Nat.le_of_ble_eq_true rfl⟩ ⟨Nat.zero_le _, Nat.zero_le _⟩ 3 0 rfl rfl rfl rfl rfl (Nat.le_of_ble_eq_true rfl) dX3_path_82 (fun r_82 er_82 => ?_)
      exact z_iret X hQ rfl r_82 rfl rfl (by subst er_2 er_82; simp only [F_M_path, if_neg c_5, if_neg c_11_0, if_neg c_11_1, if_pos c_11_2]) dX3_path_85
    by_cases c_11_3 : a2 = (3 : Int32)
    · refine z_tableIn (tgt := 86) X dX3_path_11 (by rw [c_11_3]; decide) (by rw [c_11_3]; decide) (by rw [c_11_3]; rfl) (by decide) ?_
      refine z_aload_n X dX3_path_86 0 rfl ?_
      refine zM_g0 X wd2_126 dX3_path_87 ?_
      refine z_bipush (v := (8 : Int32)) X dX3_path_90 (by decide) ?_
      refine z_iload_n X dX3_path_92 1 rfl ?_
      refine z_iadd X dX3_path_93 ?_
      refine zM_l0 X (vin_a 8 (isPath_lt hI.p er_2 c_5) (by omega) (by omega)) rfl dX3_path_94 ?_
      exact z_iret X hQ rfl (M 0 (((8 : Int32) + a1).toNatClampNeg)) rfl rfl (by subst er_2; simp only [F_M_path, if_neg c_5, if_neg c_11_0, if_neg c_11_1, if_neg c_11_2, if_pos c_11_3]) dX3_path_95
    by_cases c_11_4 : a2 = (4 : Int32)
    · refine z_tableIn (tgt := 96) X dX3_path_11 (by rw [c_11_4]; decide) (by rw [c_11_4]; decide) (by rw [c_11_4]; rfl) (by decide) ?_
      refine z_aload_n X dX3_path_96 0 rfl ?_
      refine z_iload_n X dX3_path_97 1 rfl ?_
      refine z_callVi0 X (c_M_setsWith l D kI kC kQ o M a1 hI) (gV wd3_72 wd3_74 wd0_25 wd1_4 wd3_75) k_M_setsWith rfl rfl ⟨Nat.le_of_ble_eq_true rfl, Nat.le_of_ble_eq_true rfl⟩ ⟨Nat.zero_le _, Nat.zero_le _⟩ 3 0 rfl rfl rfl rfl rfl (Nat.le_of_ble_eq_true rfl) dX3_path_98 (fun r_98 er_98 => ?_)
      exact z_iret X hQ rfl r_98 rfl rfl (by subst er_2 er_98; simp only [F_M_path, if_neg c_5, if_neg c_11_0, if_neg c_11_1, if_neg c_11_2, if_neg c_11_3, if_pos c_11_4]) dX3_path_101
    refine z_tableOut (tgt := 102) X dX3_path_11 (by have t0 : a2.toInt ≠ 0 := fun q => c_11_0 (Int32.toInt_inj.mp q); have t1 : a2.toInt ≠ 1 := fun q => c_11_1 (Int32.toInt_inj.mp q); have t2 : a2.toInt ≠ 2 := fun q => c_11_2 (Int32.toInt_inj.mp q); have t3 : a2.toInt ≠ 3 := fun q => c_11_3 (Int32.toInt_inj.mp q); have t4 : a2.toInt ≠ 4 := fun q => c_11_4 (Int32.toInt_inj.mp q); omega) (by decide) ?_
    refine z_bipush (v := (-2 : Int32)) X dX3_path_102 (by decide) ?_
    exact z_iret X hQ rfl (-2 : Int32) rfl rfl (by subst er_2; simp only [F_M_path, if_neg c_5, if_neg c_11_0, if_neg c_11_1, if_neg c_11_2, if_neg c_11_3, if_neg c_11_4]) dX3_path_104
  · refine z_iconst (v := (-1 : Int32)) X dX3_path_8 (by decide) ?_
    exact z_iret X hQ rfl (-1 : Int32) rfl rfl (by subst er_2; simp only [F_M_path, if_pos c_5]) dX3_path_9
set_option maxRecDepth 100000 in
set_option maxHeartbeats 4000000 in
theorem c_M_delay (l : Launch) (D : va_G) (kI kC kQ : ClassId) (o : Nat → Nat) (M : ARR) (a1 : Int32) (a2 : Int32) (a3 : Int32) (hI : IA (M 0)) : CtI (U := Int32) l yX3_delay cX3_delay 4 (some .int) { frames := 2, cells := 0, slots := 0, locals := 46 } D (tysG kI kC kQ) (wM kI o M) [.ref (o 0), .int a1, .int a2, .int a3] (fun u => u) (fun _ => (wM kI o M)) (fun u => u = F_M_delay M a1 a2 a3) := by
  refine met_Zi (own := "ShadowLatchesModel") (by decide +kernel) rfl (Nat.le_of_ble_eq_true rfl) ?_
  intro p e s m args below meth c A Q X hQ
  show Z p l e { frames := 2, cells := 0, slots := 0, locals := 46 } s m args below meth c D A 4 0 0 Q (wM kI o M) [(0, .ref (o 0)), (1, .int a1), (2, .int a2), (3, .int a3)] 0 []
  refine z_aload_n X dX3_delay_0 0 rfl ?_
  refine z_iload_n X dX3_delay_1 1 rfl ?_
  refine z_callVi0 X (c_M_isPath l D kI kC kQ o M a1) (gV wd2_190 wd2_192 wd0_12 wd1_4 wd2_193) k_M_isPath rfl rfl ⟨Nat.le_of_ble_eq_true rfl, Nat.le_of_ble_eq_true rfl⟩ ⟨Nat.zero_le _, Nat.zero_le _⟩ 3 0 rfl rfl rfl rfl rfl (Nat.le_of_ble_eq_true rfl) dX3_delay_2 (fun r_2 er_2 => ?_)
  refine z_if_ne (tgt := 10) X dX3_delay_5 (by decide) (fun c_5 => ?_) (fun c_5 => ?_)
  · refine z_iload_n X dX3_delay_10 2 rfl ?_
    refine z_callSiN X (c_M_isVoltage l D kI kC kQ a2) (gS wd3_3 wd3_4 wd1_4 wd3_5) k_M_isVoltage rfl rfl ⟨Nat.le_of_ble_eq_true rfl, Nat.le_of_ble_eq_true rfl⟩ ⟨Nat.zero_le _, Nat.zero_le _⟩ rfl rfl (Nat.le_of_ble_eq_true rfl) dX3_delay_11 rfl (fun _ => rfl) (fun r_11 er_11 => ?_)
    have J_j_43 : ∀ (j_43 : Int32), j_43 = (if r_11 = (0 : Int32) then ((-2 : Int32)) else (let r_25 : Int32 := (F_M_in (a3.toInt64) (20 : Int64) (120 : Int64)); if r_25 = (0 : Int32) then ((-2 : Int32)) else (let r_35 : Int32 := (F_M_delayWith M a1 a2 a3); r_35))) → Z p l e { frames := 2, cells := 0, slots := 0, locals := 46 } s m args below meth c D A 4 0 0 Q (wM kI o M) [] 43 [.int j_43] := by
      intro j_43 ej_43
      exact z_iret X hQ rfl j_43 rfl rfl (by subst er_2 er_11 ej_43; simp only [F_M_delay, if_neg c_5]) dX3_delay_43
    refine z_if_eq (tgt := 41) X dX3_delay_14 (by decide) (fun c_14 => ?_) (fun c_14 => ?_)
    · refine z_bipush (v := (-2 : Int32)) X dX3_delay_41 (by decide) ?_
      refine z_lv (lv' := []) [] rfl ?_
      exact J_j_43 (-2 : Int32) (by simp only [if_pos c_14])
    · refine z_iload_n X dX3_delay_17 3 rfl ?_
      refine z_i2l X dX3_delay_18 ?_
      refine z_ldc2 X dX3_delay_19 wd3_22 ?_
      refine z_ldc2 X dX3_delay_22 wd3_80 ?_
      refine z_callSiN X (c_M_in l D kI kC kQ (a3.toInt64) (20 : Int64) (120 : Int64)) (gS wd2_172 wd2_173 wd1_4 wd2_174) k_M_in rfl rfl ⟨Nat.le_of_ble_eq_true rfl, Nat.le_of_ble_eq_true rfl⟩ ⟨Nat.zero_le _, Nat.zero_le _⟩ rfl rfl (Nat.le_of_ble_eq_true rfl) dX3_delay_25 rfl (fun _ => rfl) (fun r_25 er_25 => ?_)
      refine z_if_eq (tgt := 41) X dX3_delay_28 (by decide) (fun c_28 => ?_) (fun c_28 => ?_)
      · refine z_bipush (v := (-2 : Int32)) X dX3_delay_41 (by decide) ?_
        refine z_lv (lv' := []) [] rfl ?_
        exact J_j_43 (-2 : Int32) (by subst er_25; simp only [if_neg c_14, if_pos c_28])
      · refine z_aload_n X dX3_delay_31 0 rfl ?_
        refine z_iload_n X dX3_delay_32 1 rfl ?_
        refine z_iload_n X dX3_delay_33 2 rfl ?_
        refine z_iload_n X dX3_delay_34 3 rfl ?_
        refine z_callVi0 X (c_M_delayWith l D kI kC kQ o M a1 a2 a3 (vin_a 0 (isPath_lt hI.p er_2 c_5) (by omega) (by omega)) (vne (in_bn 500 1200 (by omega) er_11 c_14))) (gV wd3_44 wd3_46 wd0_22 wd1_4 wd3_47) k_M_delayWith rfl rfl ⟨Nat.le_of_ble_eq_true rfl, Nat.le_of_ble_eq_true rfl⟩ ⟨Nat.zero_le _, Nat.zero_le _⟩ 3 0 rfl rfl rfl rfl rfl (Nat.le_of_ble_eq_true rfl) dX3_delay_35 (fun r_35 er_35 => ?_)
        refine z_goto (tgt := 43) X dX3_delay_38 (by decide) ?_
        refine z_lv (lv' := []) [] rfl ?_
        exact J_j_43 r_35 (by subst er_25 er_35; simp only [if_neg c_14, if_neg c_28])
  · refine z_iconst (v := (-1 : Int32)) X dX3_delay_8 (by decide) ?_
    exact z_iret X hQ rfl (-1 : Int32) rfl rfl (by subst er_2; simp only [F_M_delay, if_pos c_5]) dX3_delay_9
set_option maxRecDepth 100000 in
set_option maxHeartbeats 4000000 in
theorem c_M_workload (l : Launch) (D : va_G) (kI kC kQ : ClassId) (o : Nat → Nat) (M : ARR) (a1 : Int32) (hI : IA (M 0)) : CtI (U := Int32) l yX3_workload cX3_workload 2 (some .int) { frames := 0, cells := 0, slots := 0, locals := 0 } D (tysG kI kC kQ) (wM kI o M) [.ref (o 0), .int a1] (fun u => u) (fun _ => (wM kI o M)) (fun u => u = F_M_workload M a1) := by
  refine met_Zi (own := "ShadowLatchesModel") (by decide +kernel) rfl (Nat.le_of_ble_eq_true rfl) ?_
  intro p e s m args below meth c A Q X hQ
  show Z p l e { frames := 0, cells := 0, slots := 0, locals := 0 } s m args below meth c D A 2 0 0 Q (wM kI o M) [(0, .ref (o 0)), (1, .int a1)] 0 []
  refine z_iload_n X dX3_workload_0 1 rfl ?_
  refine z_if_ge (tgt := 7) X dX3_workload_1 (by decide) (fun c_1 => ?_) (fun c_1 => ?_)
  · refine z_iload_n X dX3_workload_7 1 rfl ?_
    refine z_aload_n X dX3_workload_8 0 rfl ?_
    refine zM_g0 X wd2_126 dX3_workload_9 ?_
    refine z_bipush (v := (49 : Int32)) X dX3_workload_12 (by decide) ?_
    refine zM_l0 X vi_49_55 cl_49 dX3_workload_14 ?_
    have J_j_32 : ∀ (j_32 : Int32), j_32 = (if (M 0 49) ≤ a1 then ((-5 : Int32)) else ((M 0 (((16 : Int32) + a1).toNatClampNeg)))) → Z p l e { frames := 0, cells := 0, slots := 0, locals := 0 } s m args below meth c D A 2 0 0 Q (wM kI o M) [] 32 [.int j_32] := by
      intro j_32 ej_32
      exact z_iret X hQ rfl j_32 rfl rfl (by subst ej_32; simp only [F_M_workload, if_pos c_1]) dX3_workload_32
    refine z_icmp_ge (tgt := 30) X dX3_workload_15 (by decide) (fun c_15 => ?_) (fun c_15 => ?_)
    · refine z_bipush (v := (-5 : Int32)) X dX3_workload_30 (by decide) ?_
      refine z_lv (lv' := []) [] rfl ?_
      exact J_j_32 (-5 : Int32) (by simp only [if_pos c_15])
    · refine z_aload_n X dX3_workload_18 0 rfl ?_
      refine zM_g0 X wd2_126 dX3_workload_19 ?_
      refine z_bipush (v := (16 : Int32)) X dX3_workload_22 (by decide) ?_
      refine z_iload_n X dX3_workload_24 1 rfl ?_
      refine z_iadd X dX3_workload_25 ?_
      refine zM_l0 X (vin_a 16 (wl_i c_1 hI.c c_15) (by omega) (by omega)) rfl dX3_workload_26 ?_
      refine z_goto (tgt := 32) X dX3_workload_27 (by decide) ?_
      refine z_lv (lv' := []) [] rfl ?_
      exact J_j_32 (M 0 (((16 : Int32) + a1).toNatClampNeg)) (by simp only [if_neg c_15])
  · refine z_bipush (v := (-2 : Int32)) X dX3_workload_4 (by decide) ?_
    exact z_iret X hQ rfl (-2 : Int32) rfl rfl (by simp only [F_M_workload, if_neg c_1]) dX3_workload_6
