set_option maxRecDepth 100000 in
set_option maxHeartbeats 4000000 in
theorem c_L_isStep (l : Launch) (D : va_G) (kI kC kQ : ClassId) (o r o9 r9 : Nat → Nat) (a9 : Nat) (ao ap : ADT) (V : LW) (a4 : Int32) (hO : ROK V.1) (hP : ROK V.2.1) : CtI (U := (Int32 × LW) × (ADT × ADT)) l yL_isStep cL_isStep 12 (some .boolean) { frames := 7, cells := 0, slots := 0, locals := 175 } D (tysG kI kC kQ) (wV kI kC kQ o r o9 r9 a9 ao ap V) [.ref (o 0), .ref (o9 0), .ref (a9), .int a4] (fun u => u.1.1) (fun u => wV kI kC kQ o r o9 r9 a9 u.2.1 u.2.2 u.1.2) (fun u => u.1 = F_L_isStep V a4) := by
  refine met_Zi (own := "ShadowLatchesLaw") (by decide +kernel) rfl (Nat.le_of_ble_eq_true rfl) ?_
  intro p e s m args below meth c A Q X hQ
  show Z p l e { frames := 7, cells := 0, slots := 0, locals := 175 } s m args below meth c D A 12 0 0 Q (wV kI kC kQ o r o9 r9 a9 ao ap V) [(0, .ref (o 0)), (1, .ref (o9 0)), (2, .ref (a9)), (3, .int a4)] 0 []
  refine z_iload_n X dL_isStep_0 3 rfl ?_
  refine z_iconst (v := (4 : Int32)) X dL_isStep_1 (by decide) ?_
  refine z_ishr X dL_isStep_2 ?_
  refine z_topi (fun v_3 ev_3 => ?_)
  refine z_istore (lv' := [(4, .int v_3), (0, .ref (o 0)), (1, .ref (o9 0)), (2, .ref (a9)), (3, .int a4)]) X dL_isStep_3 (Nat.le_of_ble_eq_true rfl) rfl ?_
  refine z_aload_n X dL_isStep_5 1 rfl ?_
  refine z_iconst (v := (3 : Int32)) X dL_isStep_6 (by decide) ?_
  refine zV_or X (c_S_count l D kI kC kQ o r ao V.1 (3 : Int32) hO.ok) (gV wd1_185 wd1_186 wd1_187 wd1_1 wd1_188) k_S_count rfl rfl ⟨Nat.le_of_ble_eq_true rfl, Nat.le_of_ble_eq_true rfl⟩ ⟨Nat.zero_le _, Nat.zero_le _⟩ rfl rfl (Nat.le_of_ble_eq_true rfl) dL_isStep_7 (fun r_7 er_7 => ?_)
  refine z_istore (lv' := [(5, .int r_7), (4, .int v_3), (0, .ref (o 0)), (1, .ref (o9 0)), (2, .ref (a9)), (3, .int a4)]) X dL_isStep_10 (Nat.le_of_ble_eq_true rfl) rfl ?_
  refine z_aload_n X dL_isStep_12 2 rfl ?_
  refine z_iconst (v := (0 : Int32)) X dL_isStep_13 (by decide) ?_
  refine zV_or X (c_S_count l D kI kC kQ o r ao V.1 (0 : Int32) hO.ok) (gV wd1_185 wd1_186 wd1_187 wd1_1 wd1_188) k_S_count rfl rfl ⟨Nat.le_of_ble_eq_true rfl, Nat.le_of_ble_eq_true rfl⟩ ⟨Nat.zero_le _, Nat.zero_le _⟩ rfl rfl (Nat.le_of_ble_eq_true rfl) dL_isStep_14 (fun r_14 er_14 => ?_)
  refine z_istore (lv' := [(6, .int r_14), (5, .int r_7), (4, .int v_3), (0, .ref (o 0)), (1, .ref (o9 0)), (2, .ref (a9)), (3, .int a4)]) X dL_isStep_17 (Nat.le_of_ble_eq_true rfl) rfl ?_
  refine z_iload_n X dL_isStep_19 6 rfl ?_
  refine z_bipush (v := (15 : Int32)) X dL_isStep_20 (by decide) ?_
  refine z_callSiN X (c_L_up l D kI kC kQ a4 (15 : Int32) (by decide)) (gS wd1_205 wd1_206 wd1_0 wd1_207) k_L_up rfl rfl ⟨Nat.le_of_ble_eq_true rfl, Nat.le_of_ble_eq_true rfl⟩ ⟨Nat.zero_le _, Nat.zero_le _⟩ rfl rfl (Nat.le_of_ble_eq_true rfl) dL_isStep_22 rfl (fun _ => rfl) (fun r_22 er_22 => ?_)
  by_cases g_92 : r_22 = (0 : Int32) ∨ r_22 = (1 : Int32)
  · have K_92 : Z p l e { frames := 7, cells := 0, slots := 0, locals := 175 } s m args below meth c D A 12 0 0 Q (wV kI kC kQ o r o9 r9 a9 ao ap V) [(6, .int r_14), (5, .int r_7), (4, .int v_3), (0, .ref (o 0)), (1, .ref (o9 0)), (2, .ref (a9)), (3, .int a4)] 92 [] := by
      refine z_iload X dL_isStep_92 2 rfl ?_
      refine z_iconst (v := (3 : Int32)) X dL_isStep_94 (by decide) ?_
      refine z_callSiN X (c_L_up l D kI kC kQ v_3 (3 : Int32) (by decide)) (gS wd1_205 wd1_206 wd1_0 wd1_207) k_L_up rfl rfl ⟨Nat.le_of_ble_eq_true rfl, Nat.le_of_ble_eq_true rfl⟩ ⟨Nat.zero_le _, Nat.zero_le _⟩ rfl rfl (Nat.le_of_ble_eq_true rfl) dL_isStep_95 rfl (fun _ => rfl) (fun r_95 er_95 => ?_)
      refine z_istore (lv' := [(7, .int r_95), (6, .int r_14), (5, .int r_7), (4, .int v_3), (0, .ref (o 0)), (1, .ref (o9 0)), (2, .ref (a9)), (3, .int a4)]) X dL_isStep_98 (Nat.le_of_ble_eq_true rfl) rfl ?_
      refine z_bipush (v := (40 : Int32)) X dL_isStep_100 (by decide) ?_
      refine z_iload X dL_isStep_102 3 rfl ?_
      refine z_iconst (v := (2 : Int32)) X dL_isStep_104 (by decide) ?_
      refine z_ishr X dL_isStep_105 ?_
      refine z_sipush (v := (190 : Int32)) X dL_isStep_106 (by decide) ?_
      refine z_callSiN X (c_L_up l D kI kC kQ (v_3 >>> ((2 : Int32) &&& 31)) (190 : Int32) (by decide)) (gS wd1_205 wd1_206 wd1_0 wd1_207) k_L_up rfl rfl ⟨Nat.le_of_ble_eq_true rfl, Nat.le_of_ble_eq_true rfl⟩ ⟨Nat.zero_le _, Nat.zero_le _⟩ rfl rfl (Nat.le_of_ble_eq_true rfl) dL_isStep_109 rfl (fun _ => rfl) (fun r_109 er_109 => ?_)
      refine z_iadd X dL_isStep_112 ?_
      refine z_topi (fun v_113 ev_113 => ?_)
      refine z_istore (lv' := [(8, .int v_113), (7, .int r_95), (6, .int r_14), (5, .int r_7), (4, .int v_3), (0, .ref (o 0)), (1, .ref (o9 0)), (2, .ref (a9)), (3, .int a4)]) X dL_isStep_113 (Nat.le_of_ble_eq_true rfl) rfl ?_
      refine z_aload_n X dL_isStep_115 5 rfl ?_
      refine z_iload X dL_isStep_116 1 rfl ?_
      refine z_iload X dL_isStep_118 0 rfl ?_
      refine zV_oc X (c_S_setLength l D kI kC kQ o r ao V.1 r_95 v_113 hO.ok) (gV wd1_209 wd1_210 wd1_211 wd1_1 wd1_212) k_S_setLength rfl rfl ⟨Nat.le_of_ble_eq_true rfl, Nat.le_of_ble_eq_true rfl⟩ ⟨Nat.zero_le _, Nat.zero_le _⟩ rfl rfl (Nat.le_of_ble_eq_true rfl) dL_isStep_120 (fun r_120 ao er_120 => ?_)
      refine zV_nm (fun V_120 eV_120 => ?_)
      have hO_120 : ROK V_120.1 := (by rw [eV_120, er_120]; exact hO.setLength _ _)
      have hP_120 : ROK V_120.2.1 := (by rw [eV_120]; exact hP)
      refine z_aload_n X dL_isStep_123 6 rfl ?_
      refine z_iload X dL_isStep_124 1 rfl ?_
      refine z_iload X dL_isStep_126 0 rfl ?_
      refine zV_pc X (c_S_setLength l D kI kC kQ o9 r9 ap V_120.2.1 r_95 v_113 hP_120.ok) (gV wd1_209 wd1_210 wd1_211 wd1_1 wd1_212) k_S_setLength rfl rfl ⟨Nat.le_of_ble_eq_true rfl, Nat.le_of_ble_eq_true rfl⟩ ⟨Nat.zero_le _, Nat.zero_le _⟩ rfl rfl (Nat.le_of_ble_eq_true rfl) dL_isStep_128 (fun r_128 ap er_128 => ?_)
      refine zV_nm (fun V_128 eV_128 => ?_)
      have hO_128 : ROK V_128.1 := (by rw [eV_128]; exact hO_120)
      have hP_128 : ROK V_128.2.1 := (by rw [eV_128, er_128]; exact hP_120.setLength _ _)
      have J_j_151 : ∀ (j_151 : Int32) (ao ap : ADT), j_151 = (if r_120.1 = r_128.1 then (let r_138 : Int32 := (F_S_path V_128.1 r_95 (0 : Int32)); if r_138 = v_113 then ((1 : Int32)) else ((0 : Int32))) else ((0 : Int32))) → Z p l e { frames := 7, cells := 0, slots := 0, locals := 175 } s m args below meth c D A 12 0 0 Q (wV kI kC kQ o r o9 r9 a9 ao ap V_128) [] 151 [.int j_151] := by
        intro j_151 ao ap ej_151
        exact z_zret X hQ rfl ((j_151, V_128), (ao, ap)) rfl rfl (by (with_reducible subst ev_3 er_7 er_14 er_22 er_95 er_109 ev_113 er_120 eV_120 er_128 eV_128 ej_151); simp only [F_L_isStep, F_L_isStep_c92, if_pos g_92]) (nb (by rw [ej_151]; (try dsimp only); repeat' first | (with_reducible apply bl_ite) | exact Or.inl rfl | exact Or.inr rfl)) dL_isStep_151
      refine z_icmp_ne (tgt := 150) X dL_isStep_131 (by decide) (fun c_131 => ?_) (fun c_131 => ?_)
      · refine z_iconst (v := (0 : Int32)) X dL_isStep_150 (by decide) ?_
        refine z_lv (lv' := []) [] rfl ?_
        exact J_j_151 (0 : Int32) ao ap (by simp only [if_neg c_131])
      · refine z_aload_n X dL_isStep_134 5 rfl ?_
        refine z_iload X dL_isStep_135 1 rfl ?_
        refine z_iconst (v := (0 : Int32)) X dL_isStep_137 (by decide) ?_
        refine zV_or X (c_S_path l D kI kC kQ o r ao V_128.1 r_95 (0 : Int32) hO_128.ok) (gV wd1_217 wd1_218 wd1_219 wd1_1 wd1_220) k_S_path rfl rfl ⟨Nat.le_of_ble_eq_true rfl, Nat.le_of_ble_eq_true rfl⟩ ⟨Nat.zero_le _, Nat.zero_le _⟩ rfl rfl (Nat.le_of_ble_eq_true rfl) dL_isStep_138 (fun r_138 er_138 => ?_)
        refine z_iload X dL_isStep_141 0 rfl ?_
        refine z_icmp_ne (tgt := 150) X dL_isStep_143 (by decide) (fun c_143 => ?_) (fun c_143 => ?_)
        · refine z_iconst (v := (0 : Int32)) X dL_isStep_150 (by decide) ?_
          refine z_lv (lv' := []) [] rfl ?_
          exact J_j_151 (0 : Int32) ao ap (by (with_reducible subst er_138); simp only [if_pos c_131, if_neg c_143])
        · refine z_iconst (v := (1 : Int32)) X dL_isStep_146 (by decide) ?_
          refine z_goto (tgt := 151) X dL_isStep_147 (by decide) ?_
          refine z_lv (lv' := []) [] rfl ?_
          exact J_j_151 (1 : Int32) ao ap (by (with_reducible subst er_138); simp only [if_pos c_131, if_pos c_143])
    rcases g_92 with g_92 | g_92
    · exact z_tableIn (tgt := 92) X dL_isStep_25 (by rw [g_92]; decide) (by rw [g_92]; decide) (by rw [g_92]; rfl) (by decide) K_92
    exact z_tableIn (tgt := 92) X dL_isStep_25 (by rw [g_92]; decide) (by rw [g_92]; decide) (by rw [g_92]; rfl) (by decide) K_92
  by_cases g_152 : r_22 = (2 : Int32) ∨ r_22 = (3 : Int32)
  · have K_152 : Z p l e { frames := 7, cells := 0, slots := 0, locals := 175 } s m args below meth c D A 12 0 0 Q (wV kI kC kQ o r o9 r9 a9 ao ap V) [(6, .int r_14), (5, .int r_7), (4, .int v_3), (0, .ref (o 0)), (1, .ref (o9 0)), (2, .ref (a9)), (3, .int a4)] 152 [] := by
      refine z_iconst (v := (1 : Int32)) X dL_isStep_152 (by decide) ?_
      refine z_iload X dL_isStep_153 2 rfl ?_
      refine z_bipush (v := (6 : Int32)) X dL_isStep_155 (by decide) ?_
      refine z_callSiN X (c_L_up l D kI kC kQ v_3 (6 : Int32) (by decide)) (gS wd1_205 wd1_206 wd1_0 wd1_207) k_L_up rfl rfl ⟨Nat.le_of_ble_eq_true rfl, Nat.le_of_ble_eq_true rfl⟩ ⟨Nat.zero_le _, Nat.zero_le _⟩ rfl rfl (Nat.le_of_ble_eq_true rfl) dL_isStep_157 rfl (fun _ => rfl) (fun r_157 er_157 => ?_)
      refine z_iadd X dL_isStep_160 ?_
      refine z_topi (fun v_161 ev_161 => ?_)
      obtain ⟨K, hK1, hK2, hK⟩ : bn 1 6 v_161 := by rw [ev_161, er_157]; exact up_1 6 (by omega) (by omega) v_3
      refine z_istore (lv' := [(7, .int v_161), (6, .int r_14), (5, .int r_7), (4, .int v_3), (0, .ref (o 0)), (1, .ref (o9 0)), (2, .ref (a9)), (3, .int a4)]) X dL_isStep_161 (Nat.le_of_ble_eq_true rfl) rfl ?_
      refine z_aload_n X dL_isStep_163 4 rfl ?_
      refine zV_ob X (c_S_clearText l D kI kC kQ o r ao V.1) (gV wd1_227 wd1_228 wd1_229 wd1_1 wd1_230) k_S_clearText rfl rfl ⟨Nat.le_of_ble_eq_true rfl, Nat.le_of_ble_eq_true rfl⟩ ⟨Nat.zero_le _, Nat.zero_le _⟩ rfl rfl (Nat.le_of_ble_eq_true rfl) dL_isStep_164 (fun r_164 er_164 => ?_)
      refine zV_nm (fun V_164 eV_164 => ?_)
      have hO_164 : ROK V_164.1 := (by rw [eV_164, er_164]; exact hO.clearText)
      have hP_164 : ROK V_164.2.1 := (by rw [eV_164]; exact hP)
      refine z_aload_n X dL_isStep_167 5 rfl ?_
      refine zV_pb X (c_S_clearText l D kI kC kQ o9 r9 ap V_164.2.1) (gV wd1_227 wd1_228 wd1_229 wd1_1 wd1_230) k_S_clearText rfl rfl ⟨Nat.le_of_ble_eq_true rfl, Nat.le_of_ble_eq_true rfl⟩ ⟨Nat.zero_le _, Nat.zero_le _⟩ rfl rfl (Nat.le_of_ble_eq_true rfl) dL_isStep_168 (fun r_168 er_168 => ?_)
      refine zV_nm (fun V_168 eV_168 => ?_)
      have hO_168 : ROK V_168.1 := (by rw [eV_168]; exact hO_164)
      have hP_168 : ROK V_168.2.1 := (by rw [eV_168, er_168]; exact hP_164.clearText)
      have J_j_179 : ∀ (j_179 : Int32) (ao ap : ADT), j_179 = (if r_164.1 = r_168.1 then ((1 : Int32)) else ((0 : Int32))) → Z p l e { frames := 7, cells := 0, slots := 0, locals := 175 } s m args below meth c D A 12 0 0 Q (wV kI kC kQ o r o9 r9 a9 ao ap V_168) [(0, .ref (o 0)), (1, .ref (o9 0)), (2, .ref (a9)), (4, .int v_3), (7, .int v_161)] 179 [.int j_179] := by
        intro j_179 ao ap ej_179
        refine z_istore (lv' := [(8, .int j_179), (0, .ref (o 0)), (1, .ref (o9 0)), (2, .ref (a9)), (4, .int v_3), (7, .int v_161)]) X dL_isStep_179 (Nat.le_of_ble_eq_true rfl) rfl ?_
        refine z_iconst (v := (0 : Int32)) X dL_isStep_181 (by decide) ?_
        refine z_istore (lv' := [(9, .int (0 : Int32)), (8, .int j_179), (0, .ref (o 0)), (1, .ref (o9 0)), (2, .ref (a9)), (4, .int v_3), (7, .int v_161)]) X dL_isStep_182 (Nat.le_of_ble_eq_true rfl) rfl ?_
        refine z_lv (lv' := [(0, .ref (o 0)), (1, .ref (o9 0)), (2, .ref (a9)), (4, .int v_3), (7, .int v_161), (8, .int j_179), (9, .int (0 : Int32))]) [2, 3, 4, 5, 6, 1, 0] rfl ?_
        have Lp_184 : ∀ (n : Nat) (x8_184 : Int32) (x9_184 : Int32) (V_184 : LW) (ao ap : ADT), (cu K n x9_184) → (ROK V_184.1) → (ROK V_184.2.1) → (∀ (q_184 : Int32 × LW) (ao ap : ADT), q_184 = L_L_isStep_184 v_3 v_161 n x8_184 x9_184 V_184 → (ROK q_184.2.1) → (ROK q_184.2.2.1) → Z p l e { frames := 7, cells := 0, slots := 0, locals := 175 } s m args below meth c D A 12 0 0 Q (wV kI kC kQ o r o9 r9 a9 ao ap q_184.2) [(0, .ref (o 0)), (1, .ref (o9 0)), (2, .ref (a9)), (7, .int v_161), (8, .int q_184.1)] 329 []) → Z p l e { frames := 7, cells := 0, slots := 0, locals := 175 } s m args below meth c D A 12 0 0 Q (wV kI kC kQ o r o9 r9 a9 ao ap V_184) [(0, .ref (o 0)), (1, .ref (o9 0)), (2, .ref (a9)), (4, .int v_3), (7, .int v_161), (8, .int x8_184), (9, .int x9_184)] 184 [] := by
          intro n
          induction n with
          | zero =>
            intro x8_184 x9_184 V_184 ao ap hi hO_184 hP_184 kk_184
            exfalso
            exact cu_0 hi
          | succ n ih_184 =>
            intro x8_184 x9_184 V_184 ao ap hi hO_184 hP_184 kk_184
            refine z_iload X dL_isStep_184 6 rfl ?_
            refine z_iload X dL_isStep_186 4 rfl ?_
            refine z_icmp_ge (tgt := 329) X dL_isStep_188 (by decide) (fun c_188 => ?_) (fun c_188 => ?_)
            · refine z_lv (lv' := [(0, .ref (o 0)), (1, .ref (o9 0)), (2, .ref (a9)), (7, .int v_161), (8, .int x8_184)]) [0, 1, 2, 4, 5] rfl ?_
              exact kk_184 (x8_184, V_184) ao ap (by simp only [L_L_isStep_184, if_pos c_188])  hO_184 hP_184
            · refine z_iload X dL_isStep_191 3 rfl ?_
              refine z_iconst (v := (2 : Int32)) X dL_isStep_193 (by decide) ?_
              refine z_iload X dL_isStep_194 6 rfl ?_
              refine z_imul X dL_isStep_196 ?_
              refine z_ishr X dL_isStep_197 ?_
              refine z_bipush (v := (8 : Int32)) X dL_isStep_198 (by decide) ?_
              refine z_callSiN X (c_L_up l D kI kC kQ (v_3 >>> (((2 : Int32) * x9_184) &&& 31)) (8 : Int32) (by decide)) (gS wd1_205 wd1_206 wd1_0 wd1_207) k_L_up rfl rfl ⟨Nat.le_of_ble_eq_true rfl, Nat.le_of_ble_eq_true rfl⟩ ⟨Nat.zero_le _, Nat.zero_le _⟩ rfl rfl (Nat.le_of_ble_eq_true rfl) dL_isStep_200 rfl (fun _ => rfl) (fun r_200 er_200 => ?_)
              refine z_istore (lv' := [(10, .int r_200), (0, .ref (o 0)), (1, .ref (o9 0)), (2, .ref (a9)), (4, .int v_3), (7, .int v_161), (8, .int x8_184), (9, .int x9_184)]) X dL_isStep_203 (Nat.le_of_ble_eq_true rfl) rfl ?_
              refine z_iload X dL_isStep_205 6 rfl ?_
              have J_j_255 : ∀ (j_255 : Int32 × LW) (ao ap : ADT), j_255 = (if x8_184 = (0 : Int32) then (((0 : Int32), V_184)) else (if x9_184 = (0 : Int32) then (if (0 : Int32) < r_200 then (((1 : Int32), V_184)) else (let r_238 : Int32 × SLS := (F_S_type V_184.1 (45 : Int32)); let V_238 : LW := (r_238.2, V_184.2); let r_244 : Int32 × SLS := (F_S_type V_238.2.1 (45 : Int32)); let V_244 : LW := (V_238.1, r_244.2, V_238.2.2); if r_238.1 = r_244.1 then (((1 : Int32), V_244)) else (((0 : Int32), V_244)))) else (let r_218 : Int32 × SLS := (F_S_type V_184.1 (44 : Int32)); let V_218 : LW := (r_218.2, V_184.2); let r_224 : Int32 × SLS := (F_S_type V_218.2.1 (44 : Int32)); let V_224 : LW := (V_218.1, r_224.2, V_218.2.2); if r_218.1 = r_224.1 then (if (0 : Int32) < r_200 then (((1 : Int32), V_224)) else (let r_238 : Int32 × SLS := (F_S_type V_224.1 (45 : Int32)); let V_238 : LW := (r_238.2, V_224.2); let r_244 : Int32 × SLS := (F_S_type V_238.2.1 (45 : Int32)); let V_244 : LW := (V_238.1, r_244.2, V_238.2.2); if r_238.1 = r_244.1 then (((1 : Int32), V_244)) else (((0 : Int32), V_244)))) else (((0 : Int32), V_224))))) → (ROK j_255.2.1) → (ROK j_255.2.2.1) → Z p l e { frames := 7, cells := 0, slots := 0, locals := 175 } s m args below meth c D A 12 0 0 Q (wV kI kC kQ o r o9 r9 a9 ao ap j_255.2) [(0, .ref (o 0)), (1, .ref (o9 0)), (2, .ref (a9)), (4, .int v_3), (7, .int v_161), (9, .int x9_184), (10, .int r_200)] 255 [.int j_255.1] := by
                intro j_255 ao ap ej_255 hOj_255_207 hPj_255_207
                refine z_istore (lv' := [(8, .int j_255.1), (0, .ref (o 0)), (1, .ref (o9 0)), (2, .ref (a9)), (4, .int v_3), (7, .int v_161), (9, .int x9_184), (10, .int r_200)]) X dL_isStep_255 (Nat.le_of_ble_eq_true rfl) rfl ?_
                refine z_iconst (v := (0 : Int32)) X dL_isStep_257 (by decide) ?_
                refine z_istore (lv' := [(11, .int (0 : Int32)), (8, .int j_255.1), (0, .ref (o 0)), (1, .ref (o9 0)), (2, .ref (a9)), (4, .int v_3), (7, .int v_161), (9, .int x9_184), (10, .int r_200)]) X dL_isStep_258 (Nat.le_of_ble_eq_true rfl) rfl ?_
                refine z_lv (lv' := [(0, .ref (o 0)), (1, .ref (o9 0)), (2, .ref (a9)), (4, .int v_3), (7, .int v_161), (8, .int j_255.1), (9, .int x9_184), (10, .int r_200), (11, .int (0 : Int32))]) [2, 3, 4, 5, 6, 1, 7, 8, 0] rfl ?_
                have Lp_260 : ∀ (n : Nat) (x8_260 : Int32) (x11_260 : Int32) (V_260 : LW) (ao ap : ADT), (cu 3 n x11_260) → (ROK V_260.1) → (ROK V_260.2.1) → (∀ (q_260 : Int32 × LW) (ao ap : ADT), q_260 = L_L_isStep_260 r_200 n x8_260 x11_260 V_260 → (ROK q_260.2.1) → (ROK q_260.2.2.1) → Z p l e { frames := 7, cells := 0, slots := 0, locals := 175 } s m args below meth c D A 12 0 0 Q (wV kI kC kQ o r o9 r9 a9 ao ap q_260.2) [(0, .ref (o 0)), (1, .ref (o9 0)), (2, .ref (a9)), (4, .int v_3), (7, .int v_161), (8, .int q_260.1), (9, .int x9_184), (10, .int r_200)] 317 []) → Z p l e { frames := 7, cells := 0, slots := 0, locals := 175 } s m args below meth c D A 12 0 0 Q (wV kI kC kQ o r o9 r9 a9 ao ap V_260) [(0, .ref (o 0)), (1, .ref (o9 0)), (2, .ref (a9)), (4, .int v_3), (7, .int v_161), (8, .int x8_260), (9, .int x9_184), (10, .int r_200), (11, .int x11_260)] 260 [] := by
                  intro n
                  induction n with
                  | zero =>
                    intro x8_260 x11_260 V_260 ao ap hi hO_260 hP_260 kk_260
                    exfalso
                    exact cu_0 hi
                  | succ n ih_260 =>
                    intro x8_260 x11_260 V_260 ao ap hi hO_260 hP_260 kk_260
                    refine z_iload X dL_isStep_260 8 rfl ?_
                    refine z_iconst (v := (3 : Int32)) X dL_isStep_262 (by decide) ?_
                    refine z_icmp_ge (tgt := 317) X dL_isStep_263 (by decide) (fun c_263 => ?_) (fun c_263 => ?_)
                    · refine z_lv (lv' := [(0, .ref (o 0)), (1, .ref (o9 0)), (2, .ref (a9)), (4, .int v_3), (7, .int v_161), (8, .int x8_260), (9, .int x9_184), (10, .int r_200)]) [0, 1, 2, 3, 4, 5, 6, 7] rfl ?_
                      exact kk_260 (x8_260, V_260) ao ap (by simp only [L_L_isStep_260, if_pos c_263])  hO_260 hP_260
                    · refine z_iload X dL_isStep_266 5 rfl ?_
                      have J_j_309 : ∀ (j_309 : Int32 × LW) (ao ap : ADT), j_309 = (if x8_260 = (0 : Int32) then (((0 : Int32), V_260)) else (if ((r_200 >>> (x11_260 &&& 31)) &&& (1 : Int32)) = (0 : Int32) then (((1 : Int32), V_260)) else (let r_288 : Int32 × SLS := (F_S_type V_260.1 ((((48 : Int32) + x11_260).toUInt32 % 65536).toInt32)); let V_288 : LW := (r_288.2, V_260.2); let r_298 : Int32 × SLS := (F_S_type V_288.2.1 ((((48 : Int32) + x11_260).toUInt32 % 65536).toInt32)); let V_298 : LW := (V_288.1, r_298.2, V_288.2.2); if r_288.1 = r_298.1 then (((1 : Int32), V_298)) else (((0 : Int32), V_298))))) → (ROK j_309.2.1) → (ROK j_309.2.2.1) → Z p l e { frames := 7, cells := 0, slots := 0, locals := 175 } s m args below meth c D A 12 0 0 Q (wV kI kC kQ o r o9 r9 a9 ao ap j_309.2) [(0, .ref (o 0)), (1, .ref (o9 0)), (2, .ref (a9)), (4, .int v_3), (7, .int v_161), (9, .int x9_184), (10, .int r_200), (11, .int x11_260)] 309 [.int j_309.1] := by
                        intro j_309 ao ap ej_309 hOj_309_268 hPj_309_268
                        refine z_istore (lv' := [(8, .int j_309.1), (0, .ref (o 0)), (1, .ref (o9 0)), (2, .ref (a9)), (4, .int v_3), (7, .int v_161), (9, .int x9_184), (10, .int r_200), (11, .int x11_260)]) X dL_isStep_309 (Nat.le_of_ble_eq_true rfl) rfl ?_
                        obtain ⟨v_311, ev_311⟩ : ∃ y : Int32, y = x11_260 + (1 : Int32) := ⟨_, rfl⟩
                        refine z_iinc (v := v_311) (lv' := [(11, .int v_311), (8, .int j_309.1), (0, .ref (o 0)), (1, .ref (o9 0)), (2, .ref (a9)), (4, .int v_3), (7, .int v_161), (9, .int x9_184), (10, .int r_200)]) X dL_isStep_311 8 rfl (by rw [ev_311]; rfl) (Nat.le_of_ble_eq_true rfl) rfl ?_
                        refine z_goto (tgt := 260) X dL_isStep_314 (by decide) ?_
                        refine z_lv (lv' := [(0, .ref (o 0)), (1, .ref (o9 0)), (2, .ref (a9)), (4, .int v_3), (7, .int v_161), (8, .int j_309.1), (9, .int x9_184), (10, .int r_200), (11, .int v_311)]) [2, 3, 4, 5, 6, 1, 7, 8, 0] rfl ?_
                        exact ih_260 j_309.1 v_311 j_309.2 ao ap (cu_b hi (by omega) rfl c_263 ev_311) hOj_309_268 hPj_309_268 (fun q_260 ao ap eq_260 => kk_260 q_260 ao ap (eq_260.trans (by (with_reducible subst ej_309 ev_311); simp only [L_L_isStep_260, if_neg c_263])))
                      refine z_if_eq (tgt := 308) X dL_isStep_268 (by decide) (fun c_268 => ?_) (fun c_268 => ?_)
                      · refine z_iconst (v := (0 : Int32)) X dL_isStep_308 (by decide) ?_
                        refine z_lv (lv' := [(0, .ref (o 0)), (1, .ref (o9 0)), (2, .ref (a9)), (4, .int v_3), (7, .int v_161), (9, .int x9_184), (10, .int r_200), (11, .int x11_260)]) [0, 1, 2, 3, 4, 6, 7, 8] rfl ?_
                        exact J_j_309 ((0 : Int32), V_260) ao ap (by simp only [if_pos c_268]) hO_260 hP_260
                      · refine z_iload X dL_isStep_271 7 rfl ?_
                        refine z_iload X dL_isStep_273 8 rfl ?_
                        refine z_ishr X dL_isStep_275 ?_
                        refine z_iconst (v := (1 : Int32)) X dL_isStep_276 (by decide) ?_
                        refine z_iand X dL_isStep_277 ?_
                        refine z_if_eq (tgt := 304) X dL_isStep_278 (by decide) (fun c_278 => ?_) (fun c_278 => ?_)
                        · refine z_iconst (v := (1 : Int32)) X dL_isStep_304 (by decide) ?_
                          refine z_goto (tgt := 309) X dL_isStep_305 (by decide) ?_
                          refine z_lv (lv' := [(0, .ref (o 0)), (1, .ref (o9 0)), (2, .ref (a9)), (4, .int v_3), (7, .int v_161), (9, .int x9_184), (10, .int r_200), (11, .int x11_260)]) [0, 1, 2, 3, 4, 6, 7, 8] rfl ?_
                          exact J_j_309 ((1 : Int32), V_260) ao ap (by simp only [if_neg c_268, if_pos c_278]) hO_260 hP_260
                        · refine z_aload_n X dL_isStep_281 0 rfl ?_
                          refine z_bipush (v := (48 : Int32)) X dL_isStep_282 (by decide) ?_
                          refine z_iload X dL_isStep_284 8 rfl ?_
                          refine z_iadd X dL_isStep_286 ?_
                          refine z_i2c X dL_isStep_287 ?_
                          refine zV_ob X (c_S_type l D kI kC kQ o r ao V_260.1 ((((48 : Int32) + x11_260).toUInt32 % 65536).toInt32) hO_260.ok (char_ok _).2) (gV wd1_231 wd1_232 wd1_233 wd1_1 wd1_234) k_S_type rfl rfl ⟨Nat.le_of_ble_eq_true rfl, Nat.le_of_ble_eq_true rfl⟩ ⟨Nat.zero_le _, Nat.zero_le _⟩ rfl rfl (Nat.le_of_ble_eq_true rfl) dL_isStep_288 (fun r_288 er_288 => ?_)
                          refine zV_nm (fun V_288 eV_288 => ?_)
                          have hO_288 : ROK V_288.1 := (by rw [eV_288, er_288]; exact hO_260.type (char_ok _).1)
                          have hP_288 : ROK V_288.2.1 := (by rw [eV_288]; exact hP_260)
                          refine z_aload_n X dL_isStep_291 1 rfl ?_
                          refine z_bipush (v := (48 : Int32)) X dL_isStep_292 (by decide) ?_
                          refine z_iload X dL_isStep_294 8 rfl ?_
                          refine z_iadd X dL_isStep_296 ?_
                          refine z_i2c X dL_isStep_297 ?_
                          refine zV_pb X (c_S_type l D kI kC kQ o9 r9 ap V_288.2.1 ((((48 : Int32) + x11_260).toUInt32 % 65536).toInt32) hP_288.ok (char_ok _).2) (gV wd1_231 wd1_232 wd1_233 wd1_1 wd1_234) k_S_type rfl rfl ⟨Nat.le_of_ble_eq_true rfl, Nat.le_of_ble_eq_true rfl⟩ ⟨Nat.zero_le _, Nat.zero_le _⟩ rfl rfl (Nat.le_of_ble_eq_true rfl) dL_isStep_298 (fun r_298 er_298 => ?_)
                          refine zV_nm (fun V_298 eV_298 => ?_)
                          have hO_298 : ROK V_298.1 := (by rw [eV_298]; exact hO_288)
                          have hP_298 : ROK V_298.2.1 := (by rw [eV_298, er_298]; exact hP_288.type (char_ok _).1)
                          refine z_icmp_ne (tgt := 308) X dL_isStep_301 (by decide) (fun c_301 => ?_) (fun c_301 => ?_)
                          · refine z_iconst (v := (0 : Int32)) X dL_isStep_308 (by decide) ?_
                            refine z_lv (lv' := [(0, .ref (o 0)), (1, .ref (o9 0)), (2, .ref (a9)), (4, .int v_3), (7, .int v_161), (9, .int x9_184), (10, .int r_200), (11, .int x11_260)]) [0, 1, 2, 3, 4, 6, 7, 8] rfl ?_
                            exact J_j_309 ((0 : Int32), V_298) ao ap (by (with_reducible subst er_288 eV_288 er_298 eV_298); simp only [if_neg c_268, if_neg c_278, if_neg c_301]) hO_298 hP_298
                          · refine z_iconst (v := (1 : Int32)) X dL_isStep_304 (by decide) ?_
                            refine z_goto (tgt := 309) X dL_isStep_305 (by decide) ?_
                            refine z_lv (lv' := [(0, .ref (o 0)), (1, .ref (o9 0)), (2, .ref (a9)), (4, .int v_3), (7, .int v_161), (9, .int x9_184), (10, .int r_200), (11, .int x11_260)]) [0, 1, 2, 3, 4, 6, 7, 8] rfl ?_
                            exact J_j_309 ((1 : Int32), V_298) ao ap (by (with_reducible subst er_288 eV_288 er_298 eV_298); simp only [if_neg c_268, if_neg c_278, if_pos c_301]) hO_298 hP_298
                refine Lp_260 4 j_255.1 (0 : Int32) j_255.2 ao ap (cu_i (by omega)) hOj_255_207 hPj_255_207 (fun q_260 ao ap eq_260 hOq_260 hPq_260 => ?_)
                refine z_aload_n X dL_isStep_317 2 rfl ?_
                refine z_iload X dL_isStep_318 6 rfl ?_
                refine z_iload X dL_isStep_320 7 rfl ?_
                refine zV_st X (vin_k (cu_lt hi (by omega) hK c_188) (by omega) (by omega)) rfl dL_isStep_322 (fun V_322 eV_322 => ?_)
                have hO_322 : ROK V_322.1 := by rw [eV_322]; exact hOq_260
                have hP_322 : ROK V_322.2.1 := by rw [eV_322]; exact hPq_260
                obtain ⟨v_323, ev_323⟩ : ∃ y : Int32, y = x9_184 + (1 : Int32) := ⟨_, rfl⟩
                refine z_iinc (v := v_323) (lv' := [(9, .int v_323), (0, .ref (o 0)), (1, .ref (o9 0)), (2, .ref (a9)), (4, .int v_3), (7, .int v_161), (8, .int q_260.1), (10, .int r_200)]) X dL_isStep_323 6 rfl (by rw [ev_323]; rfl) (Nat.le_of_ble_eq_true rfl) rfl ?_
                refine z_goto (tgt := 184) X dL_isStep_326 (by decide) ?_
                refine z_lv (lv' := [(0, .ref (o 0)), (1, .ref (o9 0)), (2, .ref (a9)), (4, .int v_3), (7, .int v_161), (8, .int q_260.1), (9, .int v_323)]) [1, 2, 3, 4, 5, 6, 0] rfl ?_
                exact ih_184 q_260.1 v_323 V_322 ao ap (cu_b hi (by omega) hK c_188 ev_323) hO_322 hP_322 (fun q_184 ao ap eq_184 => kk_184 q_184 ao ap (eq_184.trans (by (with_reducible subst er_200 ej_255 eq_260 eV_322 ev_323); simp only [L_L_isStep_184, if_neg c_188])))
              refine z_if_eq (tgt := 254) X dL_isStep_207 (by decide) (fun c_207 => ?_) (fun c_207 => ?_)
              · refine z_iconst (v := (0 : Int32)) X dL_isStep_254 (by decide) ?_
                refine z_lv (lv' := [(0, .ref (o 0)), (1, .ref (o9 0)), (2, .ref (a9)), (4, .int v_3), (7, .int v_161), (9, .int x9_184), (10, .int r_200)]) [1, 2, 3, 4, 5, 7, 0] rfl ?_
                exact J_j_255 ((0 : Int32), V_184) ao ap (by simp only [if_pos c_207]) hO_184 hP_184
              · refine z_iload X dL_isStep_210 7 rfl ?_
                refine z_if_eq (tgt := 230) X dL_isStep_212 (by decide) (fun c_212 => ?_) (fun c_212 => ?_)
                · refine z_iload X dL_isStep_230 0 rfl ?_
                  refine z_if_gt (tgt := 250) X dL_isStep_232 (by decide) (fun c_232 => ?_) (fun c_232 => ?_)
                  · refine z_iconst (v := (1 : Int32)) X dL_isStep_250 (by decide) ?_
                    refine z_goto (tgt := 255) X dL_isStep_251 (by decide) ?_
                    refine z_lv (lv' := [(0, .ref (o 0)), (1, .ref (o9 0)), (2, .ref (a9)), (4, .int v_3), (7, .int v_161), (9, .int x9_184), (10, .int r_200)]) [1, 2, 3, 4, 5, 7, 0] rfl ?_
                    exact J_j_255 ((1 : Int32), V_184) ao ap (by simp only [if_neg c_207, if_pos c_212, if_pos c_232]) hO_184 hP_184
                  · refine z_aload_n X dL_isStep_235 1 rfl ?_
                    refine z_bipush (v := (45 : Int32)) X dL_isStep_236 (by decide) ?_
                    refine zV_ob X (c_S_type l D kI kC kQ o r ao V_184.1 (45 : Int32) hO_184.ok rfl) (gV wd1_231 wd1_232 wd1_233 wd1_1 wd1_234) k_S_type rfl rfl ⟨Nat.le_of_ble_eq_true rfl, Nat.le_of_ble_eq_true rfl⟩ ⟨Nat.zero_le _, Nat.zero_le _⟩ rfl rfl (Nat.le_of_ble_eq_true rfl) dL_isStep_238 (fun r_238 er_238 => ?_)
                    refine zV_nm (fun V_238 eV_238 => ?_)
                    have hO_238 : ROK V_238.1 := (by rw [eV_238, er_238]; exact hO_184.type (bn_c 45 (by omega) (by omega)))
                    have hP_238 : ROK V_238.2.1 := (by rw [eV_238]; exact hP_184)
                    refine z_aload_n X dL_isStep_241 2 rfl ?_
                    refine z_bipush (v := (45 : Int32)) X dL_isStep_242 (by decide) ?_
                    refine zV_pb X (c_S_type l D kI kC kQ o9 r9 ap V_238.2.1 (45 : Int32) hP_238.ok rfl) (gV wd1_231 wd1_232 wd1_233 wd1_1 wd1_234) k_S_type rfl rfl ⟨Nat.le_of_ble_eq_true rfl, Nat.le_of_ble_eq_true rfl⟩ ⟨Nat.zero_le _, Nat.zero_le _⟩ rfl rfl (Nat.le_of_ble_eq_true rfl) dL_isStep_244 (fun r_244 er_244 => ?_)
                    refine zV_nm (fun V_244 eV_244 => ?_)
                    have hO_244 : ROK V_244.1 := (by rw [eV_244]; exact hO_238)
                    have hP_244 : ROK V_244.2.1 := (by rw [eV_244, er_244]; exact hP_238.type (bn_c 45 (by omega) (by omega)))
                    refine z_icmp_ne (tgt := 254) X dL_isStep_247 (by decide) (fun c_247 => ?_) (fun c_247 => ?_)
                    · refine z_iconst (v := (0 : Int32)) X dL_isStep_254 (by decide) ?_
                      refine z_lv (lv' := [(0, .ref (o 0)), (1, .ref (o9 0)), (2, .ref (a9)), (4, .int v_3), (7, .int v_161), (9, .int x9_184), (10, .int r_200)]) [1, 2, 3, 4, 5, 7, 0] rfl ?_
                      exact J_j_255 ((0 : Int32), V_244) ao ap (by (with_reducible subst er_238 eV_238 er_244 eV_244); simp only [if_neg c_207, if_pos c_212, if_neg c_232, if_neg c_247]) hO_244 hP_244
                    · refine z_iconst (v := (1 : Int32)) X dL_isStep_250 (by decide) ?_
                      refine z_goto (tgt := 255) X dL_isStep_251 (by decide) ?_
                      refine z_lv (lv' := [(0, .ref (o 0)), (1, .ref (o9 0)), (2, .ref (a9)), (4, .int v_3), (7, .int v_161), (9, .int x9_184), (10, .int r_200)]) [1, 2, 3, 4, 5, 7, 0] rfl ?_
                      exact J_j_255 ((1 : Int32), V_244) ao ap (by (with_reducible subst er_238 eV_238 er_244 eV_244); simp only [if_neg c_207, if_pos c_212, if_neg c_232, if_pos c_247]) hO_244 hP_244
                · refine z_aload_n X dL_isStep_215 1 rfl ?_
                  refine z_bipush (v := (44 : Int32)) X dL_isStep_216 (by decide) ?_
                  refine zV_ob X (c_S_type l D kI kC kQ o r ao V_184.1 (44 : Int32) hO_184.ok rfl) (gV wd1_231 wd1_232 wd1_233 wd1_1 wd1_234) k_S_type rfl rfl ⟨Nat.le_of_ble_eq_true rfl, Nat.le_of_ble_eq_true rfl⟩ ⟨Nat.zero_le _, Nat.zero_le _⟩ rfl rfl (Nat.le_of_ble_eq_true rfl) dL_isStep_218 (fun r_218 er_218 => ?_)
                  refine zV_nm (fun V_218 eV_218 => ?_)
                  have hO_218 : ROK V_218.1 := (by rw [eV_218, er_218]; exact hO_184.type (bn_c 44 (by omega) (by omega)))
                  have hP_218 : ROK V_218.2.1 := (by rw [eV_218]; exact hP_184)
                  refine z_aload_n X dL_isStep_221 2 rfl ?_
                  refine z_bipush (v := (44 : Int32)) X dL_isStep_222 (by decide) ?_
                  refine zV_pb X (c_S_type l D kI kC kQ o9 r9 ap V_218.2.1 (44 : Int32) hP_218.ok rfl) (gV wd1_231 wd1_232 wd1_233 wd1_1 wd1_234) k_S_type rfl rfl ⟨Nat.le_of_ble_eq_true rfl, Nat.le_of_ble_eq_true rfl⟩ ⟨Nat.zero_le _, Nat.zero_le _⟩ rfl rfl (Nat.le_of_ble_eq_true rfl) dL_isStep_224 (fun r_224 er_224 => ?_)
                  refine zV_nm (fun V_224 eV_224 => ?_)
                  have hO_224 : ROK V_224.1 := (by rw [eV_224]; exact hO_218)
                  have hP_224 : ROK V_224.2.1 := (by rw [eV_224, er_224]; exact hP_218.type (bn_c 44 (by omega) (by omega)))
                  refine z_icmp_ne (tgt := 254) X dL_isStep_227 (by decide) (fun c_227 => ?_) (fun c_227 => ?_)
                  · refine z_iconst (v := (0 : Int32)) X dL_isStep_254 (by decide) ?_
                    refine z_lv (lv' := [(0, .ref (o 0)), (1, .ref (o9 0)), (2, .ref (a9)), (4, .int v_3), (7, .int v_161), (9, .int x9_184), (10, .int r_200)]) [1, 2, 3, 4, 5, 7, 0] rfl ?_
                    exact J_j_255 ((0 : Int32), V_224) ao ap (by (with_reducible subst er_218 eV_218 er_224 eV_224); simp only [if_neg c_207, if_neg c_212, if_neg c_227]) hO_224 hP_224
                  · refine z_iload X dL_isStep_230 0 rfl ?_
                    refine z_if_gt (tgt := 250) X dL_isStep_232 (by decide) (fun c_232 => ?_) (fun c_232 => ?_)
                    · refine z_iconst (v := (1 : Int32)) X dL_isStep_250 (by decide) ?_
                      refine z_goto (tgt := 255) X dL_isStep_251 (by decide) ?_
                      refine z_lv (lv' := [(0, .ref (o 0)), (1, .ref (o9 0)), (2, .ref (a9)), (4, .int v_3), (7, .int v_161), (9, .int x9_184), (10, .int r_200)]) [1, 2, 3, 4, 5, 7, 0] rfl ?_
                      exact J_j_255 ((1 : Int32), V_224) ao ap (by (with_reducible subst er_218 eV_218 er_224 eV_224); simp only [if_neg c_207, if_neg c_212, if_pos c_227, if_pos c_232]) hO_224 hP_224
                    · refine z_aload_n X dL_isStep_235 1 rfl ?_
                      refine z_bipush (v := (45 : Int32)) X dL_isStep_236 (by decide) ?_
                      refine zV_ob X (c_S_type l D kI kC kQ o r ao V_224.1 (45 : Int32) hO_224.ok rfl) (gV wd1_231 wd1_232 wd1_233 wd1_1 wd1_234) k_S_type rfl rfl ⟨Nat.le_of_ble_eq_true rfl, Nat.le_of_ble_eq_true rfl⟩ ⟨Nat.zero_le _, Nat.zero_le _⟩ rfl rfl (Nat.le_of_ble_eq_true rfl) dL_isStep_238 (fun r_238 er_238 => ?_)
                      refine zV_nm (fun V_238 eV_238 => ?_)
                      have hO_238 : ROK V_238.1 := (by rw [eV_238, er_238]; exact hO_224.type (bn_c 45 (by omega) (by omega)))
                      have hP_238 : ROK V_238.2.1 := (by rw [eV_238]; exact hP_224)
                      refine z_aload_n X dL_isStep_241 2 rfl ?_
                      refine z_bipush (v := (45 : Int32)) X dL_isStep_242 (by decide) ?_
                      refine zV_pb X (c_S_type l D kI kC kQ o9 r9 ap V_238.2.1 (45 : Int32) hP_238.ok rfl) (gV wd1_231 wd1_232 wd1_233 wd1_1 wd1_234) k_S_type rfl rfl ⟨Nat.le_of_ble_eq_true rfl, Nat.le_of_ble_eq_true rfl⟩ ⟨Nat.zero_le _, Nat.zero_le _⟩ rfl rfl (Nat.le_of_ble_eq_true rfl) dL_isStep_244 (fun r_244 er_244 => ?_)
                      refine zV_nm (fun V_244 eV_244 => ?_)
                      have hO_244 : ROK V_244.1 := (by rw [eV_244]; exact hO_238)
                      have hP_244 : ROK V_244.2.1 := (by rw [eV_244, er_244]; exact hP_238.type (bn_c 45 (by omega) (by omega)))
                      refine z_icmp_ne (tgt := 254) X dL_isStep_247 (by decide) (fun c_247 => ?_) (fun c_247 => ?_)
                      · refine z_iconst (v := (0 : Int32)) X dL_isStep_254 (by decide) ?_
                        refine z_lv (lv' := [(0, .ref (o 0)), (1, .ref (o9 0)), (2, .ref (a9)), (4, .int v_3), (7, .int v_161), (9, .int x9_184), (10, .int r_200)]) [1, 2, 3, 4, 5, 7, 0] rfl ?_
                        exact J_j_255 ((0 : Int32), V_244) ao ap (by (with_reducible subst er_218 eV_218 er_224 eV_224 er_238 eV_238 er_244 eV_244); simp only [if_neg c_207, if_neg c_212, if_pos c_227, if_neg c_232, if_neg c_247]) hO_244 hP_244
                      · refine z_iconst (v := (1 : Int32)) X dL_isStep_250 (by decide) ?_
                        refine z_goto (tgt := 255) X dL_isStep_251 (by decide) ?_
                        refine z_lv (lv' := [(0, .ref (o 0)), (1, .ref (o9 0)), (2, .ref (a9)), (4, .int v_3), (7, .int v_161), (9, .int x9_184), (10, .int r_200)]) [1, 2, 3, 4, 5, 7, 0] rfl ?_
                        exact J_j_255 ((1 : Int32), V_244) ao ap (by (with_reducible subst er_218 eV_218 er_224 eV_224 er_238 eV_238 er_244 eV_244); simp only [if_neg c_207, if_neg c_212, if_pos c_227, if_neg c_232, if_pos c_247]) hO_244 hP_244
        refine Lp_184 7 j_179 (0 : Int32) V_168 ao ap (cu_i (by omega)) hO_168 hP_168 (fun q_184 ao ap eq_184 hOq_184 hPq_184 => ?_)
        refine z_iload X dL_isStep_329 4 rfl ?_
        have J_j_383 : ∀ (j_383 : Int32 × LW) (ao ap : ADT), j_383 = (if q_184.1 = (0 : Int32) then (((0 : Int32), q_184.2)) else (let r_335 : Int32 × SLS := (F_S_takeWorkload q_184.2.1); let V_335 : LW := (r_335.2, q_184.2.2); if r_335.1 = v_161 then (let r_344 : Int32 × SLS := (F_S_takeWorkload V_335.2.1); let V_344 : LW := (V_335.1, r_344.2, V_335.2.2); if r_344.1 = v_161 then (let r_357 : Int32 := (F_S_workload V_344.1 (v_161 - (1 : Int32))); if r_357 = (V_344.2.2 ((v_161 - (1 : Int32)).toNatClampNeg)) then (let r_372 : Int32 := (F_S_count V_344.1 (11 : Int32)); if r_372 = (0 : Int32) then (((1 : Int32), V_344)) else (((0 : Int32), V_344))) else (((0 : Int32), V_344))) else (((0 : Int32), V_344))) else (((0 : Int32), V_335)))) → (ROK j_383.2.1) → (ROK j_383.2.2.1) → Z p l e { frames := 7, cells := 0, slots := 0, locals := 175 } s m args below meth c D A 12 0 0 Q (wV kI kC kQ o r o9 r9 a9 ao ap j_383.2) [] 383 [.int j_383.1] := by
          intro j_383 ao ap ej_383 hOj_383_331 hPj_383_331
          exact z_zret X hQ rfl ((j_383.1, j_383.2), (ao, ap)) rfl rfl (by (with_reducible subst ev_3 er_7 er_14 er_22 er_157 ev_161 er_164 eV_164 er_168 eV_168 ej_179 eq_184 ej_383); simp only [F_L_isStep, F_L_isStep_c152, if_neg g_92, if_pos g_152]) (nb (by rw [ej_383]; dsimp only; simp only [apply_ite Prod.fst]; repeat' first | (with_reducible apply bl_ite) | exact Or.inl rfl | exact Or.inr rfl)) dL_isStep_383
        refine z_if_eq (tgt := 382) X dL_isStep_331 (by decide) (fun c_331 => ?_) (fun c_331 => ?_)
        · refine z_iconst (v := (0 : Int32)) X dL_isStep_382 (by decide) ?_
          refine z_lv (lv' := []) [] rfl ?_
          exact J_j_383 ((0 : Int32), q_184.2) ao ap (by simp only [if_pos c_331]) hOq_184 hPq_184
        · refine z_aload_n X dL_isStep_334 0 rfl ?_
          refine zV_oc X (c_S_takeWorkload l D kI kC kQ o r ao q_184.2.1 hOq_184.ok) (gV wd1_239 wd2_0 wd2_1 wd1_1 wd2_2) k_S_takeWorkload rfl rfl ⟨Nat.le_of_ble_eq_true rfl, Nat.le_of_ble_eq_true rfl⟩ ⟨Nat.zero_le _, Nat.zero_le _⟩ rfl rfl (Nat.le_of_ble_eq_true rfl) dL_isStep_335 (fun r_335 ao er_335 => ?_)
          refine zV_nm (fun V_335 eV_335 => ?_)
          have hO_335 : ROK V_335.1 := (by rw [eV_335, er_335]; exact hOq_184.takeWorkload)
          have hP_335 : ROK V_335.2.1 := (by rw [eV_335]; exact hPq_184)
          refine z_iload X dL_isStep_338 3 rfl ?_
          refine z_icmp_ne (tgt := 382) X dL_isStep_340 (by decide) (fun c_340 => ?_) (fun c_340 => ?_)
          · refine z_iconst (v := (0 : Int32)) X dL_isStep_382 (by decide) ?_
            refine z_lv (lv' := []) [] rfl ?_
            exact J_j_383 ((0 : Int32), V_335) ao ap (by (with_reducible subst er_335 eV_335); simp only [if_neg c_331, if_neg c_340]) hO_335 hP_335
          · refine z_aload_n X dL_isStep_343 1 rfl ?_
            refine zV_pc X (c_S_takeWorkload l D kI kC kQ o9 r9 ap V_335.2.1 hP_335.ok) (gV wd1_239 wd2_0 wd2_1 wd1_1 wd2_2) k_S_takeWorkload rfl rfl ⟨Nat.le_of_ble_eq_true rfl, Nat.le_of_ble_eq_true rfl⟩ ⟨Nat.zero_le _, Nat.zero_le _⟩ rfl rfl (Nat.le_of_ble_eq_true rfl) dL_isStep_344 (fun r_344 ap er_344 => ?_)
            refine zV_nm (fun V_344 eV_344 => ?_)
            have hO_344 : ROK V_344.1 := (by rw [eV_344]; exact hO_335)
            have hP_344 : ROK V_344.2.1 := (by rw [eV_344, er_344]; exact hP_335.takeWorkload)
            refine z_iload X dL_isStep_347 3 rfl ?_
            refine z_icmp_ne (tgt := 382) X dL_isStep_349 (by decide) (fun c_349 => ?_) (fun c_349 => ?_)
            · refine z_iconst (v := (0 : Int32)) X dL_isStep_382 (by decide) ?_
              refine z_lv (lv' := []) [] rfl ?_
              exact J_j_383 ((0 : Int32), V_344) ao ap (by (with_reducible subst er_335 eV_335 er_344 eV_344); simp only [if_neg c_331, if_pos c_340, if_neg c_349]) hO_344 hP_344
            · refine z_aload_n X dL_isStep_352 0 rfl ?_
              refine z_iload X dL_isStep_353 3 rfl ?_
              refine z_iconst (v := (1 : Int32)) X dL_isStep_355 (by decide) ?_
              refine z_isub X dL_isStep_356 ?_
              refine zV_or X (c_S_workload l D kI kC kQ o r ao V_344.1 (v_161 - (1 : Int32)) hO_344.ok) (gV wd2_11 wd2_12 wd2_13 wd1_1 wd2_14) k_S_workload rfl rfl ⟨Nat.le_of_ble_eq_true rfl, Nat.le_of_ble_eq_true rfl⟩ ⟨Nat.zero_le _, Nat.zero_le _⟩ rfl rfl (Nat.le_of_ble_eq_true rfl) dL_isStep_357 (fun r_357 er_357 => ?_)
              refine z_aload_n X dL_isStep_360 2 rfl ?_
              refine z_iload X dL_isStep_361 3 rfl ?_
              refine z_iconst (v := (1 : Int32)) X dL_isStep_363 (by decide) ?_
              refine z_isub X dL_isStep_364 ?_
              refine zV_ld X (by rw [hK, show nI K - (1 : Int32) = nI (K - 1) from pk_sub (b := 1) hK1]; exact vp_in_nI (by omega) (by omega)) rfl dL_isStep_365 ?_
              refine z_icmp_ne (tgt := 382) X dL_isStep_366 (by decide) (fun c_366 => ?_) (fun c_366 => ?_)
              · refine z_iconst (v := (0 : Int32)) X dL_isStep_382 (by decide) ?_
                refine z_lv (lv' := []) [] rfl ?_
                exact J_j_383 ((0 : Int32), V_344) ao ap (by (with_reducible subst er_335 eV_335 er_344 eV_344 er_357); simp only [if_neg c_331, if_pos c_340, if_pos c_349, if_neg c_366]) hO_344 hP_344
              · refine z_aload_n X dL_isStep_369 0 rfl ?_
                refine z_bipush (v := (11 : Int32)) X dL_isStep_370 (by decide) ?_
                refine zV_or X (c_S_count l D kI kC kQ o r ao V_344.1 (11 : Int32) hO_344.ok) (gV wd1_185 wd1_186 wd1_187 wd1_1 wd1_188) k_S_count rfl rfl ⟨Nat.le_of_ble_eq_true rfl, Nat.le_of_ble_eq_true rfl⟩ ⟨Nat.zero_le _, Nat.zero_le _⟩ rfl rfl (Nat.le_of_ble_eq_true rfl) dL_isStep_372 (fun r_372 er_372 => ?_)
                refine z_if_ne (tgt := 382) X dL_isStep_375 (by decide) (fun c_375 => ?_) (fun c_375 => ?_)
                · refine z_iconst (v := (0 : Int32)) X dL_isStep_382 (by decide) ?_
                  refine z_lv (lv' := []) [] rfl ?_
                  exact J_j_383 ((0 : Int32), V_344) ao ap (by (with_reducible subst er_335 eV_335 er_344 eV_344 er_357 er_372); simp only [if_neg c_331, if_pos c_340, if_pos c_349, if_pos c_366, if_neg c_375]) hO_344 hP_344
                · refine z_iconst (v := (1 : Int32)) X dL_isStep_378 (by decide) ?_
                  refine z_goto (tgt := 383) X dL_isStep_379 (by decide) ?_
                  refine z_lv (lv' := []) [] rfl ?_
                  exact J_j_383 ((1 : Int32), V_344) ao ap (by (with_reducible subst er_335 eV_335 er_344 eV_344 er_357 er_372); simp only [if_neg c_331, if_pos c_340, if_pos c_349, if_pos c_366, if_pos c_375]) hO_344 hP_344
      refine z_icmp_ne (tgt := 178) X dL_isStep_171 (by decide) (fun c_171 => ?_) (fun c_171 => ?_)
      · refine z_iconst (v := (0 : Int32)) X dL_isStep_178 (by decide) ?_
        refine z_lv (lv' := [(0, .ref (o 0)), (1, .ref (o9 0)), (2, .ref (a9)), (4, .int v_3), (7, .int v_161)]) [4, 5, 6, 3, 0] rfl ?_
        exact J_j_179 (0 : Int32) ao ap (by simp only [if_neg c_171])
      · refine z_iconst (v := (1 : Int32)) X dL_isStep_174 (by decide) ?_
        refine z_goto (tgt := 179) X dL_isStep_175 (by decide) ?_
        refine z_lv (lv' := [(0, .ref (o 0)), (1, .ref (o9 0)), (2, .ref (a9)), (4, .int v_3), (7, .int v_161)]) [4, 5, 6, 3, 0] rfl ?_
        exact J_j_179 (1 : Int32) ao ap (by simp only [if_pos c_171])
    rcases g_152 with g_152 | g_152
    · exact z_tableIn (tgt := 152) X dL_isStep_25 (by rw [g_152]; decide) (by rw [g_152]; decide) (by rw [g_152]; rfl) (by decide) K_152
    exact z_tableIn (tgt := 152) X dL_isStep_25 (by rw [g_152]; decide) (by rw [g_152]; decide) (by rw [g_152]; rfl) (by decide) K_152
  by_cases g_384 : r_22 = (4 : Int32) ∨ r_22 = (5 : Int32) ∨ r_22 = (6 : Int32) ∨ r_22 = (7 : Int32) ∨ r_22 = (8 : Int32)
  · have K_384 : Z p l e { frames := 7, cells := 0, slots := 0, locals := 175 } s m args below meth c D A 12 0 0 Q (wV kI kC kQ o r o9 r9 a9 ao ap V) [(6, .int r_14), (5, .int r_7), (4, .int v_3), (0, .ref (o 0)), (1, .ref (o9 0)), (2, .ref (a9)), (3, .int a4)] 384 [] := by
      refine z_iconst (v := (1 : Int32)) X dL_isStep_384 (by decide) ?_
      refine z_iload X dL_isStep_385 2 rfl ?_
      refine z_iload X dL_isStep_387 2 rfl ?_
      refine z_bipush (v := (6 : Int32)) X dL_isStep_389 (by decide) ?_
      refine z_ishr X dL_isStep_391 ?_
      refine z_iconst (v := (3 : Int32)) X dL_isStep_392 (by decide) ?_
      refine z_callSiN X (c_L_up l D kI kC kQ (v_3 >>> ((6 : Int32) &&& 31)) (3 : Int32) (by decide)) (gS wd1_205 wd1_206 wd1_0 wd1_207) k_L_up rfl rfl ⟨Nat.le_of_ble_eq_true rfl, Nat.le_of_ble_eq_true rfl⟩ ⟨Nat.zero_le _, Nat.zero_le _⟩ rfl rfl (Nat.le_of_ble_eq_true rfl) dL_isStep_393 rfl (fun _ => rfl) (fun r_393 er_393 => ?_)
      have J_j_407 : ∀ (j_407 : Int32) (ao ap : ADT), j_407 = (if r_393 = (0 : Int32) then ((200 : Int32)) else ((30 : Int32))) → Z p l e { frames := 7, cells := 0, slots := 0, locals := 175 } s m args below meth c D A 12 0 0 Q (wV kI kC kQ o r o9 r9 a9 ao ap V) [(0, .ref (o 0)), (1, .ref (o9 0)), (5, .int r_7)] 407 [.int j_407, .int v_3, .int (1 : Int32)] := by
        intro j_407 ao ap ej_407
        refine z_callSiN X (c_L_up l D kI kC kQ v_3 j_407 (by rw [ej_407]; split <;> decide)) (gS wd1_205 wd1_206 wd1_0 wd1_207) k_L_up rfl rfl ⟨Nat.le_of_ble_eq_true rfl, Nat.le_of_ble_eq_true rfl⟩ ⟨Nat.zero_le _, Nat.zero_le _⟩ rfl rfl (Nat.le_of_ble_eq_true rfl) dL_isStep_407 rfl (fun _ => rfl) (fun r_407 er_407 => ?_)
        refine z_iadd X dL_isStep_410 ?_
        refine z_topi (fun v_411 ev_411 => ?_)
        obtain ⟨K, hK1, hK2, hK⟩ : bn 1 200 v_411 := by
          rw [ev_411, er_407, ej_407]
          split
          · exact up_1 200 (by omega) (by omega) v_3
          · exact bn_w (up_1 30 (by omega) (by omega) v_3) (by omega) (by omega)
        refine z_istore (lv' := [(7, .int v_411), (0, .ref (o 0)), (1, .ref (o9 0)), (5, .int r_7)]) X dL_isStep_411 (Nat.le_of_ble_eq_true rfl) rfl ?_
        refine z_aload_n X dL_isStep_413 1 rfl ?_
        refine z_iload X dL_isStep_414 0 rfl ?_
        refine zV_oc X (c_S_run l D kI kC kQ o r ao V.1 v_411 hO.ok) (gV wd2_15 wd2_16 wd2_17 wd1_1 wd2_18) k_S_run rfl rfl ⟨Nat.le_of_ble_eq_true rfl, Nat.le_of_ble_eq_true rfl⟩ ⟨Nat.zero_le _, Nat.zero_le _⟩ rfl rfl (Nat.le_of_ble_eq_true rfl) dL_isStep_416 (fun r_416 ao er_416 => ?_)
        refine zV_nm (fun V_416 eV_416 => ?_)
        have hO_416 : ROK V_416.1 := (by rw [eV_416, er_416]; exact hO.run _)
        have hP_416 : ROK V_416.2.1 := (by rw [eV_416]; exact hP)
        refine z_istore (lv' := [(8, .int r_416.1), (7, .int v_411), (0, .ref (o 0)), (1, .ref (o9 0)), (5, .int r_7)]) X dL_isStep_419 (Nat.le_of_ble_eq_true rfl) rfl ?_
        refine z_iload X dL_isStep_421 0 rfl ?_
        have J_j_438 : ∀ (j_438 : Int32) (ao ap : ADT), j_438 = (if r_416.1 < (0 : Int32) then ((0 : Int32)) else (if v_411 < r_416.1 then ((0 : Int32)) else ((1 : Int32)))) → Z p l e { frames := 7, cells := 0, slots := 0, locals := 175 } s m args below meth c D A 12 0 0 Q (wV kI kC kQ o r o9 r9 a9 ao ap V_416) [(0, .ref (o 0)), (1, .ref (o9 0)), (5, .int r_7), (7, .int v_411)] 438 [.int j_438] := by
          intro j_438 ao ap ej_438
          refine z_istore (lv' := [(9, .int j_438), (0, .ref (o 0)), (1, .ref (o9 0)), (5, .int r_7), (7, .int v_411)]) X dL_isStep_438 (Nat.le_of_ble_eq_true rfl) rfl ?_
          refine z_iconst (v := (0 : Int32)) X dL_isStep_440 (by decide) ?_
          refine z_istore (lv' := [(10, .int (0 : Int32)), (9, .int j_438), (0, .ref (o 0)), (1, .ref (o9 0)), (5, .int r_7), (7, .int v_411)]) X dL_isStep_441 (Nat.le_of_ble_eq_true rfl) rfl ?_
          refine z_lv (lv' := [(0, .ref (o 0)), (1, .ref (o9 0)), (5, .int r_7), (7, .int v_411), (9, .int j_438), (10, .int (0 : Int32))]) [2, 3, 4, 5, 1, 0] rfl ?_
          have Lp_443 : ∀ (n : Nat) (x9_443 : Int32) (x10_443 : Int32) (V_443 : LW) (ao ap : ADT), (cu K n x10_443) → (ROK V_443.1) → (ROK V_443.2.1) → (∀ (q_443 : Int32 × LW) (ao ap : ADT), q_443 = L_L_isStep_443 v_411 n x9_443 x10_443 V_443 → (ROK q_443.2.1) → (ROK q_443.2.2.1) → Z p l e { frames := 7, cells := 0, slots := 0, locals := 175 } s m args below meth c D A 12 0 0 Q (wV kI kC kQ o r o9 r9 a9 ao ap q_443.2) [(0, .ref (o 0)), (1, .ref (o9 0)), (5, .int r_7), (7, .int v_411), (9, .int q_443.1)] 467 []) → Z p l e { frames := 7, cells := 0, slots := 0, locals := 175 } s m args below meth c D A 12 0 0 Q (wV kI kC kQ o r o9 r9 a9 ao ap V_443) [(0, .ref (o 0)), (1, .ref (o9 0)), (5, .int r_7), (7, .int v_411), (9, .int x9_443), (10, .int x10_443)] 443 [] := by
            intro n
            induction n with
            | zero =>
              intro x9_443 x10_443 V_443 ao ap hi hO_443 hP_443 kk_443
              exfalso
              exact cu_0 hi
            | succ n ih_443 =>
              intro x9_443 x10_443 V_443 ao ap hi hO_443 hP_443 kk_443
              refine z_iload X dL_isStep_443 5 rfl ?_
              refine z_iload X dL_isStep_445 3 rfl ?_
              refine z_icmp_ge (tgt := 467) X dL_isStep_447 (by decide) (fun c_447 => ?_) (fun c_447 => ?_)
              · refine z_lv (lv' := [(0, .ref (o 0)), (1, .ref (o9 0)), (5, .int r_7), (7, .int v_411), (9, .int x9_443)]) [0, 1, 2, 3, 4] rfl ?_
                exact kk_443 (x9_443, V_443) ao ap (by simp only [L_L_isStep_443, if_pos c_447])  hO_443 hP_443
              · refine z_iload X dL_isStep_450 4 rfl ?_
                refine z_if_eq (tgt := 467) X dL_isStep_452 (by decide) (fun c_452 => ?_) (fun c_452 => ?_)
                · refine z_lv (lv' := [(0, .ref (o 0)), (1, .ref (o9 0)), (5, .int r_7), (7, .int v_411), (9, .int x9_443)]) [0, 1, 2, 3, 4] rfl ?_
                  exact kk_443 (x9_443, V_443) ao ap (by simp only [L_L_isStep_443, if_neg c_447, if_pos c_452])  hO_443 hP_443
                · refine z_aload_n X dL_isStep_455 1 rfl ?_
                  refine zVs_pc X (c_L_isCycle l D kI kC kQ o9 r9 ap V_443.2.1 hP_443) (gS wd2_67 wd2_68 wd1_0 wd2_69) k_L_isCycle rfl rfl ⟨Nat.le_of_ble_eq_true rfl, Nat.le_of_ble_eq_true rfl⟩ ⟨Nat.zero_le _, Nat.zero_le _⟩ rfl rfl (Nat.le_of_ble_eq_true rfl) dL_isStep_456 (fun r_456 ap er_456 => ?_)
                  refine zV_nm (fun V_456 eV_456 => ?_)
                  have hO_456 : ROK V_456.1 := (by rw [eV_456]; exact hO_443)
                  have hP_456 : ROK V_456.2.1 := (by rw [eV_456, er_456]; exact hP_443.isCycle)
                  refine z_istore (lv' := [(9, .int r_456.1), (0, .ref (o 0)), (1, .ref (o9 0)), (5, .int r_7), (7, .int v_411), (10, .int x10_443)]) X dL_isStep_459 (Nat.le_of_ble_eq_true rfl) rfl ?_
                  obtain ⟨v_461, ev_461⟩ : ∃ y : Int32, y = x10_443 + (1 : Int32) := ⟨_, rfl⟩
                  refine z_iinc (v := v_461) (lv' := [(10, .int v_461), (9, .int r_456.1), (0, .ref (o 0)), (1, .ref (o9 0)), (5, .int r_7), (7, .int v_411)]) X dL_isStep_461 5 rfl (by rw [ev_461]; rfl) (Nat.le_of_ble_eq_true rfl) rfl ?_
                  refine z_goto (tgt := 443) X dL_isStep_464 (by decide) ?_
                  refine z_lv (lv' := [(0, .ref (o 0)), (1, .ref (o9 0)), (5, .int r_7), (7, .int v_411), (9, .int r_456.1), (10, .int v_461)]) [2, 3, 4, 5, 1, 0] rfl ?_
                  exact ih_443 r_456.1 v_461 V_456 ao ap (cu_b hi (by omega) hK c_447 ev_461) hO_456 hP_456 (fun q_443 ao ap eq_443 => kk_443 q_443 ao ap (eq_443.trans (by (with_reducible subst er_456 eV_456 ev_461); simp only [L_L_isStep_443, if_neg c_447, if_neg c_452])))
          refine Lp_443 201 j_438 (0 : Int32) V_416 ao ap (cu_i (by omega)) hO_416 hP_416 (fun q_443 ao ap eq_443 hOq_443 hPq_443 => ?_)
          refine z_iload X dL_isStep_467 4 rfl ?_
          have J_j_516 : ∀ (j_516 : Int32) (ao ap : ADT), j_516 = (if q_443.1 = (0 : Int32) then ((0 : Int32)) else (let r_474 : Int32 := (F_S_count q_443.2.2.1 (5 : Int32)); let r_479 : Int32 := (F_S_count q_443.2.1 (5 : Int32)); if r_474 = r_479 then (let r_487 : Int32 := (F_S_count q_443.2.1 (3 : Int32)); let r_492 : Int32 := (F_S_count q_443.2.2.1 (3 : Int32)); if r_487 = r_492 then (let r_500 : Int32 := (F_S_count q_443.2.1 (3 : Int32)); if r_500 < (r_7 + v_411) then ((0 : Int32)) else ((1 : Int32))) else ((0 : Int32))) else ((0 : Int32)))) → Z p l e { frames := 7, cells := 0, slots := 0, locals := 175 } s m args below meth c D A 12 0 0 Q (wV kI kC kQ o r o9 r9 a9 ao ap q_443.2) [] 516 [.int j_516] := by
            intro j_516 ao ap ej_516
            exact z_zret X hQ rfl ((j_516, q_443.2), (ao, ap)) rfl rfl (by (with_reducible subst ev_3 er_7 er_14 er_22 er_393 ej_407 er_407 ev_411 er_416 eV_416 ej_438 eq_443 ej_516); simp only [F_L_isStep, F_L_isStep_c384, if_neg g_92, if_neg g_152, if_pos g_384]) (nb (by rw [ej_516]; (try dsimp only); repeat' first | (with_reducible apply bl_ite) | exact Or.inl rfl | exact Or.inr rfl)) dL_isStep_516
          refine z_if_eq (tgt := 515) X dL_isStep_469 (by decide) (fun c_469 => ?_) (fun c_469 => ?_)
          · refine z_iconst (v := (0 : Int32)) X dL_isStep_515 (by decide) ?_
            refine z_lv (lv' := []) [] rfl ?_
            exact J_j_516 (0 : Int32) ao ap (by simp only [if_pos c_469])
          · refine z_aload_n X dL_isStep_472 1 rfl ?_
            refine z_iconst (v := (5 : Int32)) X dL_isStep_473 (by decide) ?_
            refine zV_pr X (c_S_count l D kI kC kQ o9 r9 ap q_443.2.2.1 (5 : Int32) hPq_443.ok) (gV wd1_185 wd1_186 wd1_187 wd1_1 wd1_188) k_S_count rfl rfl ⟨Nat.le_of_ble_eq_true rfl, Nat.le_of_ble_eq_true rfl⟩ ⟨Nat.zero_le _, Nat.zero_le _⟩ rfl rfl (Nat.le_of_ble_eq_true rfl) dL_isStep_474 (fun r_474 er_474 => ?_)
            refine z_aload_n X dL_isStep_477 0 rfl ?_
            refine z_iconst (v := (5 : Int32)) X dL_isStep_478 (by decide) ?_
            refine zV_or X (c_S_count l D kI kC kQ o r ao q_443.2.1 (5 : Int32) hOq_443.ok) (gV wd1_185 wd1_186 wd1_187 wd1_1 wd1_188) k_S_count rfl rfl ⟨Nat.le_of_ble_eq_true rfl, Nat.le_of_ble_eq_true rfl⟩ ⟨Nat.zero_le _, Nat.zero_le _⟩ rfl rfl (Nat.le_of_ble_eq_true rfl) dL_isStep_479 (fun r_479 er_479 => ?_)
            refine z_icmp_ne (tgt := 515) X dL_isStep_482 (by decide) (fun c_482 => ?_) (fun c_482 => ?_)
            · refine z_iconst (v := (0 : Int32)) X dL_isStep_515 (by decide) ?_
              refine z_lv (lv' := []) [] rfl ?_
              exact J_j_516 (0 : Int32) ao ap (by (with_reducible subst er_474 er_479); simp only [if_neg c_469, if_neg c_482])
            · refine z_aload_n X dL_isStep_485 0 rfl ?_
              refine z_iconst (v := (3 : Int32)) X dL_isStep_486 (by decide) ?_
              refine zV_or X (c_S_count l D kI kC kQ o r ao q_443.2.1 (3 : Int32) hOq_443.ok) (gV wd1_185 wd1_186 wd1_187 wd1_1 wd1_188) k_S_count rfl rfl ⟨Nat.le_of_ble_eq_true rfl, Nat.le_of_ble_eq_true rfl⟩ ⟨Nat.zero_le _, Nat.zero_le _⟩ rfl rfl (Nat.le_of_ble_eq_true rfl) dL_isStep_487 (fun r_487 er_487 => ?_)
              refine z_aload_n X dL_isStep_490 1 rfl ?_
              refine z_iconst (v := (3 : Int32)) X dL_isStep_491 (by decide) ?_
              refine zV_pr X (c_S_count l D kI kC kQ o9 r9 ap q_443.2.2.1 (3 : Int32) hPq_443.ok) (gV wd1_185 wd1_186 wd1_187 wd1_1 wd1_188) k_S_count rfl rfl ⟨Nat.le_of_ble_eq_true rfl, Nat.le_of_ble_eq_true rfl⟩ ⟨Nat.zero_le _, Nat.zero_le _⟩ rfl rfl (Nat.le_of_ble_eq_true rfl) dL_isStep_492 (fun r_492 er_492 => ?_)
              refine z_icmp_ne (tgt := 515) X dL_isStep_495 (by decide) (fun c_495 => ?_) (fun c_495 => ?_)
              · refine z_iconst (v := (0 : Int32)) X dL_isStep_515 (by decide) ?_
                refine z_lv (lv' := []) [] rfl ?_
                exact J_j_516 (0 : Int32) ao ap (by (with_reducible subst er_474 er_479 er_487 er_492); simp only [if_neg c_469, if_pos c_482, if_neg c_495])
              · refine z_aload_n X dL_isStep_498 0 rfl ?_
                refine z_iconst (v := (3 : Int32)) X dL_isStep_499 (by decide) ?_
                refine zV_or X (c_S_count l D kI kC kQ o r ao q_443.2.1 (3 : Int32) hOq_443.ok) (gV wd1_185 wd1_186 wd1_187 wd1_1 wd1_188) k_S_count rfl rfl ⟨Nat.le_of_ble_eq_true rfl, Nat.le_of_ble_eq_true rfl⟩ ⟨Nat.zero_le _, Nat.zero_le _⟩ rfl rfl (Nat.le_of_ble_eq_true rfl) dL_isStep_500 (fun r_500 er_500 => ?_)
                refine z_iload X dL_isStep_503 2 rfl ?_
                refine z_iload X dL_isStep_505 3 rfl ?_
                refine z_iadd X dL_isStep_507 ?_
                refine z_icmp_lt (tgt := 515) X dL_isStep_508 (by decide) (fun c_508 => ?_) (fun c_508 => ?_)
                · refine z_iconst (v := (0 : Int32)) X dL_isStep_515 (by decide) ?_
                  refine z_lv (lv' := []) [] rfl ?_
                  exact J_j_516 (0 : Int32) ao ap (by (with_reducible subst er_474 er_479 er_487 er_492 er_500); simp only [if_neg c_469, if_pos c_482, if_pos c_495, if_pos c_508])
                · refine z_iconst (v := (1 : Int32)) X dL_isStep_511 (by decide) ?_
                  refine z_goto (tgt := 516) X dL_isStep_512 (by decide) ?_
                  refine z_lv (lv' := []) [] rfl ?_
                  exact J_j_516 (1 : Int32) ao ap (by (with_reducible subst er_474 er_479 er_487 er_492 er_500); simp only [if_neg c_469, if_pos c_482, if_pos c_495, if_neg c_508])
        refine z_if_lt (tgt := 437) X dL_isStep_423 (by decide) (fun c_423 => ?_) (fun c_423 => ?_)
        · refine z_iconst (v := (0 : Int32)) X dL_isStep_437 (by decide) ?_
          refine z_lv (lv' := [(0, .ref (o 0)), (1, .ref (o9 0)), (5, .int r_7), (7, .int v_411)]) [2, 3, 4, 1] rfl ?_
          exact J_j_438 (0 : Int32) ao ap (by simp only [if_pos c_423])
        · refine z_iload X dL_isStep_426 0 rfl ?_
          refine z_iload X dL_isStep_428 1 rfl ?_
          refine z_icmp_gt (tgt := 437) X dL_isStep_430 (by decide) (fun c_430 => ?_) (fun c_430 => ?_)
          · refine z_iconst (v := (0 : Int32)) X dL_isStep_437 (by decide) ?_
            refine z_lv (lv' := [(0, .ref (o 0)), (1, .ref (o9 0)), (5, .int r_7), (7, .int v_411)]) [2, 3, 4, 1] rfl ?_
            exact J_j_438 (0 : Int32) ao ap (by simp only [if_neg c_423, if_pos c_430])
          · refine z_iconst (v := (1 : Int32)) X dL_isStep_433 (by decide) ?_
            refine z_goto (tgt := 438) X dL_isStep_434 (by decide) ?_
            refine z_lv (lv' := [(0, .ref (o 0)), (1, .ref (o9 0)), (5, .int r_7), (7, .int v_411)]) [2, 3, 4, 1] rfl ?_
            exact J_j_438 (1 : Int32) ao ap (by simp only [if_neg c_423, if_neg c_430])
      refine z_if_ne (tgt := 405) X dL_isStep_396 (by decide) (fun c_396 => ?_) (fun c_396 => ?_)
      · refine z_bipush (v := (30 : Int32)) X dL_isStep_405 (by decide) ?_
        refine z_lv (lv' := [(0, .ref (o 0)), (1, .ref (o9 0)), (5, .int r_7)]) [3, 4, 1] rfl ?_
        exact J_j_407 (30 : Int32) ao ap (by simp only [if_neg c_396])
      · refine z_sipush (v := (200 : Int32)) X dL_isStep_399 (by decide) ?_
        refine z_goto (tgt := 407) X dL_isStep_402 (by decide) ?_
        refine z_lv (lv' := [(0, .ref (o 0)), (1, .ref (o9 0)), (5, .int r_7)]) [3, 4, 1] rfl ?_
        exact J_j_407 (200 : Int32) ao ap (by simp only [if_pos c_396])
    rcases g_384 with g_384 | g_384
    · exact z_tableIn (tgt := 384) X dL_isStep_25 (by rw [g_384]; decide) (by rw [g_384]; decide) (by rw [g_384]; rfl) (by decide) K_384
    rcases g_384 with g_384 | g_384
    · exact z_tableIn (tgt := 384) X dL_isStep_25 (by rw [g_384]; decide) (by rw [g_384]; decide) (by rw [g_384]; rfl) (by decide) K_384
    rcases g_384 with g_384 | g_384
    · exact z_tableIn (tgt := 384) X dL_isStep_25 (by rw [g_384]; decide) (by rw [g_384]; decide) (by rw [g_384]; rfl) (by decide) K_384
    rcases g_384 with g_384 | g_384
    · exact z_tableIn (tgt := 384) X dL_isStep_25 (by rw [g_384]; decide) (by rw [g_384]; decide) (by rw [g_384]; rfl) (by decide) K_384
    exact z_tableIn (tgt := 384) X dL_isStep_25 (by rw [g_384]; decide) (by rw [g_384]; decide) (by rw [g_384]; rfl) (by decide) K_384
  by_cases g_517 : r_22 = (9 : Int32)
  · have K_517 : Z p l e { frames := 7, cells := 0, slots := 0, locals := 175 } s m args below meth c D A 12 0 0 Q (wV kI kC kQ o r o9 r9 a9 ao ap V) [(6, .int r_14), (5, .int r_7), (4, .int v_3), (0, .ref (o 0)), (1, .ref (o9 0)), (2, .ref (a9)), (3, .int a4)] 517 [] := by
      refine z_sipush (v := (500 : Int32)) X dL_isStep_517 (by decide) ?_
      refine z_iload X dL_isStep_520 2 rfl ?_
      refine z_sipush (v := (701 : Int32)) X dL_isStep_522 (by decide) ?_
      refine z_callSiN X (c_L_up l D kI kC kQ v_3 (701 : Int32) (by decide)) (gS wd1_205 wd1_206 wd1_0 wd1_207) k_L_up rfl rfl ⟨Nat.le_of_ble_eq_true rfl, Nat.le_of_ble_eq_true rfl⟩ ⟨Nat.zero_le _, Nat.zero_le _⟩ rfl rfl (Nat.le_of_ble_eq_true rfl) dL_isStep_525 rfl (fun _ => rfl) (fun r_525 er_525 => ?_)
      refine z_iadd X dL_isStep_528 ?_
      refine z_topi (fun v_529 ev_529 => ?_)
      refine z_istore (lv' := [(7, .int v_529), (6, .int r_14), (5, .int r_7), (4, .int v_3), (0, .ref (o 0)), (1, .ref (o9 0)), (2, .ref (a9)), (3, .int a4)]) X dL_isStep_529 (Nat.le_of_ble_eq_true rfl) rfl ?_
      refine z_aload_n X dL_isStep_531 4 rfl ?_
      refine z_iload X dL_isStep_532 0 rfl ?_
      refine zV_oc X (c_S_setVoltage l D kI kC kQ o r ao V.1 v_529 hO.ok) (gV wd2_70 wd2_71 wd2_72 wd1_1 wd2_73) k_S_setVoltage rfl rfl ⟨Nat.le_of_ble_eq_true rfl, Nat.le_of_ble_eq_true rfl⟩ ⟨Nat.zero_le _, Nat.zero_le _⟩ rfl rfl (Nat.le_of_ble_eq_true rfl) dL_isStep_534 (fun r_534 ao er_534 => ?_)
      refine zV_nm (fun V_534 eV_534 => ?_)
      have hO_534 : ROK V_534.1 := (by rw [eV_534, er_534]; exact hO.setVoltage _)
      have hP_534 : ROK V_534.2.1 := (by rw [eV_534]; exact hP)
      refine z_aload_n X dL_isStep_537 5 rfl ?_
      refine z_iload X dL_isStep_538 0 rfl ?_
      refine zV_pc X (c_S_setVoltage l D kI kC kQ o9 r9 ap V_534.2.1 v_529 hP_534.ok) (gV wd2_70 wd2_71 wd2_72 wd1_1 wd2_73) k_S_setVoltage rfl rfl ⟨Nat.le_of_ble_eq_true rfl, Nat.le_of_ble_eq_true rfl⟩ ⟨Nat.zero_le _, Nat.zero_le _⟩ rfl rfl (Nat.le_of_ble_eq_true rfl) dL_isStep_540 (fun r_540 ap er_540 => ?_)
      refine zV_nm (fun V_540 eV_540 => ?_)
      have hO_540 : ROK V_540.1 := (by rw [eV_540]; exact hO_534)
      have hP_540 : ROK V_540.2.1 := (by rw [eV_540, er_540]; exact hP_534.setVoltage _)
      have J_j_561 : ∀ (j_561 : Int32) (ao ap : ADT), j_561 = (if r_534.1 = r_540.1 then (let r_548 : Int32 := (F_S_count V_540.1 (0 : Int32)); if r_548 = v_529 then ((1 : Int32)) else ((0 : Int32))) else ((0 : Int32))) → Z p l e { frames := 7, cells := 0, slots := 0, locals := 175 } s m args below meth c D A 12 0 0 Q (wV kI kC kQ o r o9 r9 a9 ao ap V_540) [] 561 [.int j_561] := by
        intro j_561 ao ap ej_561
        exact z_zret X hQ rfl ((j_561, V_540), (ao, ap)) rfl rfl (by (with_reducible subst ev_3 er_7 er_14 er_22 er_525 ev_529 er_534 eV_534 er_540 eV_540 ej_561); simp only [F_L_isStep, F_L_isStep_c517, if_neg g_92, if_neg g_152, if_neg g_384, if_pos g_517]) (nb (by rw [ej_561]; (try dsimp only); repeat' first | (with_reducible apply bl_ite) | exact Or.inl rfl | exact Or.inr rfl)) dL_isStep_561
      refine z_icmp_ne (tgt := 560) X dL_isStep_543 (by decide) (fun c_543 => ?_) (fun c_543 => ?_)
      · refine z_iconst (v := (0 : Int32)) X dL_isStep_560 (by decide) ?_
        refine z_lv (lv' := []) [] rfl ?_
        exact J_j_561 (0 : Int32) ao ap (by simp only [if_neg c_543])
      · refine z_aload_n X dL_isStep_546 4 rfl ?_
        refine z_iconst (v := (0 : Int32)) X dL_isStep_547 (by decide) ?_
        refine zV_or X (c_S_count l D kI kC kQ o r ao V_540.1 (0 : Int32) hO_540.ok) (gV wd1_185 wd1_186 wd1_187 wd1_1 wd1_188) k_S_count rfl rfl ⟨Nat.le_of_ble_eq_true rfl, Nat.le_of_ble_eq_true rfl⟩ ⟨Nat.zero_le _, Nat.zero_le _⟩ rfl rfl (Nat.le_of_ble_eq_true rfl) dL_isStep_548 (fun r_548 er_548 => ?_)
        refine z_iload X dL_isStep_551 0 rfl ?_
        refine z_icmp_ne (tgt := 560) X dL_isStep_553 (by decide) (fun c_553 => ?_) (fun c_553 => ?_)
        · refine z_iconst (v := (0 : Int32)) X dL_isStep_560 (by decide) ?_
          refine z_lv (lv' := []) [] rfl ?_
          exact J_j_561 (0 : Int32) ao ap (by (with_reducible subst er_548); simp only [if_pos c_543, if_neg c_553])
        · refine z_iconst (v := (1 : Int32)) X dL_isStep_556 (by decide) ?_
          refine z_goto (tgt := 561) X dL_isStep_557 (by decide) ?_
          refine z_lv (lv' := []) [] rfl ?_
          exact J_j_561 (1 : Int32) ao ap (by (with_reducible subst er_548); simp only [if_pos c_543, if_pos c_553])
    exact z_tableIn (tgt := 517) X dL_isStep_25 (by rw [g_517]; decide) (by rw [g_517]; decide) (by rw [g_517]; rfl) (by decide) K_517
  by_cases g_562 : r_22 = (10 : Int32)
  · have K_562 : Z p l e { frames := 7, cells := 0, slots := 0, locals := 175 } s m args below meth c D A 12 0 0 Q (wV kI kC kQ o r o9 r9 a9 ao ap V) [(6, .int r_14), (5, .int r_7), (4, .int v_3), (0, .ref (o 0)), (1, .ref (o9 0)), (2, .ref (a9)), (3, .int a4)] 562 [] := by
      refine z_iload X dL_isStep_562 2 rfl ?_
      refine z_iconst (v := (4 : Int32)) X dL_isStep_564 (by decide) ?_
      refine z_callSiN X (c_L_up l D kI kC kQ v_3 (4 : Int32) (by decide)) (gS wd1_205 wd1_206 wd1_0 wd1_207) k_L_up rfl rfl ⟨Nat.le_of_ble_eq_true rfl, Nat.le_of_ble_eq_true rfl⟩ ⟨Nat.zero_le _, Nat.zero_le _⟩ rfl rfl (Nat.le_of_ble_eq_true rfl) dL_isStep_565 rfl (fun _ => rfl) (fun r_565 er_565 => ?_)
      have J_j_576 : ∀ (j_576 : Int32) (ao ap : ADT), j_576 = (if r_565 ≤ (0 : Int32) then ((0 : Int32)) else ((1 : Int32))) → Z p l e { frames := 7, cells := 0, slots := 0, locals := 175 } s m args below meth c D A 12 0 0 Q (wV kI kC kQ o r o9 r9 a9 ao ap V) [(0, .ref (o 0)), (1, .ref (o9 0)), (6, .int r_14)] 576 [.int j_576] := by
        intro j_576 ao ap ej_576
        refine z_istore (lv' := [(7, .int j_576), (0, .ref (o 0)), (1, .ref (o9 0)), (6, .int r_14)]) X dL_isStep_576 (Nat.le_of_ble_eq_true rfl) rfl ?_
        refine z_aload_n X dL_isStep_578 1 rfl ?_
        refine z_iconst (v := (2 : Int32)) X dL_isStep_579 (by decide) ?_
        refine zV_or X (c_S_count l D kI kC kQ o r ao V.1 (2 : Int32) hO.ok) (gV wd1_185 wd1_186 wd1_187 wd1_1 wd1_188) k_S_count rfl rfl ⟨Nat.le_of_ble_eq_true rfl, Nat.le_of_ble_eq_true rfl⟩ ⟨Nat.zero_le _, Nat.zero_le _⟩ rfl rfl (Nat.le_of_ble_eq_true rfl) dL_isStep_580 (fun r_580 er_580 => ?_)
        refine z_iconst (v := (1 : Int32)) X dL_isStep_583 (by decide) ?_
        have J_j_592 : ∀ (j_592 : Int32) (ao ap : ADT), j_592 = (if r_580 = (1 : Int32) then ((1 : Int32)) else ((0 : Int32))) → Z p l e { frames := 7, cells := 0, slots := 0, locals := 175 } s m args below meth c D A 12 0 0 Q (wV kI kC kQ o r o9 r9 a9 ao ap V) [(0, .ref (o 0)), (1, .ref (o9 0)), (6, .int r_14), (7, .int j_576)] 592 [.int j_592] := by
          intro j_592 ao ap ej_592
          refine z_istore (lv' := [(8, .int j_592), (0, .ref (o 0)), (1, .ref (o9 0)), (6, .int r_14), (7, .int j_576)]) X dL_isStep_592 (Nat.le_of_ble_eq_true rfl) rfl ?_
          refine z_aload_n X dL_isStep_594 1 rfl ?_
          refine z_iload X dL_isStep_595 4 rfl ?_
          refine zV_oc X (c_S_govern l D kI kC kQ o r ao V.1 j_576 hO.ok (by rw [ej_576]; exact bl_ite (Or.inl rfl) (Or.inr rfl))) (gV wd2_77 wd2_78 wd2_79 wd1_1 wd2_80) k_S_govern rfl rfl ⟨Nat.le_of_ble_eq_true rfl, Nat.le_of_ble_eq_true rfl⟩ ⟨Nat.zero_le _, Nat.zero_le _⟩ rfl rfl (Nat.le_of_ble_eq_true rfl) dL_isStep_597 (fun r_597 ao er_597 => ?_)
          refine zV_nm (fun V_597 eV_597 => ?_)
          have hO_597 : ROK V_597.1 := (by rw [eV_597, er_597]; exact hO.govern (by rw [ej_576]; exact bl_ite (Or.inl rfl) (Or.inr rfl)))
          have hP_597 : ROK V_597.2.1 := (by rw [eV_597]; exact hP)
          refine z_istore (lv' := [(9, .int r_597.1), (8, .int j_592), (0, .ref (o 0)), (1, .ref (o9 0)), (6, .int r_14), (7, .int j_576)]) X dL_isStep_600 (Nat.le_of_ble_eq_true rfl) rfl ?_
          refine z_iload X dL_isStep_602 0 rfl ?_
          refine z_aload_n X dL_isStep_604 3 rfl ?_
          refine z_iload X dL_isStep_605 5 rfl ?_
          refine zV_pc X (c_S_govern l D kI kC kQ o9 r9 ap V_597.2.1 j_576 hP_597.ok (by rw [ej_576]; exact bl_ite (Or.inl rfl) (Or.inr rfl))) (gV wd2_77 wd2_78 wd2_79 wd1_1 wd2_80) k_S_govern rfl rfl ⟨Nat.le_of_ble_eq_true rfl, Nat.le_of_ble_eq_true rfl⟩ ⟨Nat.zero_le _, Nat.zero_le _⟩ rfl rfl (Nat.le_of_ble_eq_true rfl) dL_isStep_607 (fun r_607 ap er_607 => ?_)
          refine zV_nm (fun V_607 eV_607 => ?_)
          have hO_607 : ROK V_607.1 := (by rw [eV_607]; exact hO_597)
          have hP_607 : ROK V_607.2.1 := (by rw [eV_607, er_607]; exact hP_597.govern (by rw [ej_576]; exact bl_ite (Or.inl rfl) (Or.inr rfl)))
          have J_j_662 : ∀ (j_662 : Int32) (ao ap : ADT), j_662 = (if r_597.1 = r_607.1 then (let j_629 : Int32 := (if j_576 = j_592 then ((-5 : Int32)) else (r_14)); if r_597.1 = j_629 then (if j_576 = j_592 then ((1 : Int32)) else (let r_642 : Int32 := (F_S_count V_607.1 (8 : Int32)); if r_642 = (0 : Int32) then (let r_651 : Int32 := (F_S_count V_607.1 (9 : Int32)); if r_651 = (0 : Int32) then ((1 : Int32)) else ((0 : Int32))) else ((0 : Int32)))) else ((0 : Int32))) else ((0 : Int32))) → Z p l e { frames := 7, cells := 0, slots := 0, locals := 175 } s m args below meth c D A 12 0 0 Q (wV kI kC kQ o r o9 r9 a9 ao ap V_607) [] 662 [.int j_662] := by
            intro j_662 ao ap ej_662
            exact z_zret X hQ rfl ((j_662, V_607), (ao, ap)) rfl rfl (by (with_reducible subst ev_3 er_7 er_14 er_22 er_565 ej_576 er_580 ej_592 er_597 eV_597 er_607 eV_607 ej_662); simp only [F_L_isStep, F_L_isStep_c562, if_neg g_92, if_neg g_152, if_neg g_384, if_neg g_517, if_pos g_562]) (nb (by rw [ej_662]; (try dsimp only); repeat' first | (with_reducible apply bl_ite) | exact Or.inl rfl | exact Or.inr rfl)) dL_isStep_662
          refine z_icmp_ne (tgt := 661) X dL_isStep_610 (by decide) (fun c_610 => ?_) (fun c_610 => ?_)
          · refine z_iconst (v := (0 : Int32)) X dL_isStep_661 (by decide) ?_
            refine z_lv (lv' := []) [] rfl ?_
            exact J_j_662 (0 : Int32) ao ap (by simp only [if_neg c_610])
          · refine z_iload X dL_isStep_613 0 rfl ?_
            refine z_iload X dL_isStep_615 5 rfl ?_
            refine z_iload X dL_isStep_617 1 rfl ?_
            have J_j_629 : ∀ (j_629 : Int32) (ao ap : ADT), j_629 = (if j_576 = j_592 then ((-5 : Int32)) else (r_14)) → Z p l e { frames := 7, cells := 0, slots := 0, locals := 175 } s m args below meth c D A 12 0 0 Q (wV kI kC kQ o r o9 r9 a9 ao ap V_607) [(0, .ref (o 0)), (7, .int j_576), (8, .int j_592)] 629 [.int j_629, .int r_597.1] := by
              intro j_629 ao ap ej_629
              refine z_icmp_ne (tgt := 661) X dL_isStep_629 (by decide) (fun c_629 => ?_) (fun c_629 => ?_)
              · refine z_iconst (v := (0 : Int32)) X dL_isStep_661 (by decide) ?_
                refine z_lv (lv' := []) [] rfl ?_
                exact J_j_662 (0 : Int32) ao ap (by (with_reducible subst ej_629); simp only [if_pos c_610, if_neg c_629])
              · refine z_iload X dL_isStep_632 1 rfl ?_
                refine z_iload X dL_isStep_634 2 rfl ?_
                refine z_icmp_eq (tgt := 657) X dL_isStep_636 (by decide) (fun c_636 => ?_) (fun c_636 => ?_)
                · refine z_iconst (v := (1 : Int32)) X dL_isStep_657 (by decide) ?_
                  refine z_goto (tgt := 662) X dL_isStep_658 (by decide) ?_
                  refine z_lv (lv' := []) [] rfl ?_
                  exact J_j_662 (1 : Int32) ao ap (by (with_reducible subst ej_629); dsimp only; rw [if_pos c_610, if_pos c_629, if_pos c_636])
                · refine z_aload_n X dL_isStep_639 0 rfl ?_
                  refine z_bipush (v := (8 : Int32)) X dL_isStep_640 (by decide) ?_
                  refine zV_or X (c_S_count l D kI kC kQ o r ao V_607.1 (8 : Int32) hO_607.ok) (gV wd1_185 wd1_186 wd1_187 wd1_1 wd1_188) k_S_count rfl rfl ⟨Nat.le_of_ble_eq_true rfl, Nat.le_of_ble_eq_true rfl⟩ ⟨Nat.zero_le _, Nat.zero_le _⟩ rfl rfl (Nat.le_of_ble_eq_true rfl) dL_isStep_642 (fun r_642 er_642 => ?_)
                  refine z_if_ne (tgt := 661) X dL_isStep_645 (by decide) (fun c_645 => ?_) (fun c_645 => ?_)
                  · refine z_iconst (v := (0 : Int32)) X dL_isStep_661 (by decide) ?_
                    refine z_lv (lv' := []) [] rfl ?_
                    exact J_j_662 (0 : Int32) ao ap (by (with_reducible subst ej_629 er_642); dsimp only; rw [if_pos c_610, if_pos c_629, if_neg c_636, if_neg c_645])
                  · refine z_aload_n X dL_isStep_648 0 rfl ?_
                    refine z_bipush (v := (9 : Int32)) X dL_isStep_649 (by decide) ?_
                    refine zV_or X (c_S_count l D kI kC kQ o r ao V_607.1 (9 : Int32) hO_607.ok) (gV wd1_185 wd1_186 wd1_187 wd1_1 wd1_188) k_S_count rfl rfl ⟨Nat.le_of_ble_eq_true rfl, Nat.le_of_ble_eq_true rfl⟩ ⟨Nat.zero_le _, Nat.zero_le _⟩ rfl rfl (Nat.le_of_ble_eq_true rfl) dL_isStep_651 (fun r_651 er_651 => ?_)
                    refine z_if_ne (tgt := 661) X dL_isStep_654 (by decide) (fun c_654 => ?_) (fun c_654 => ?_)
                    · refine z_iconst (v := (0 : Int32)) X dL_isStep_661 (by decide) ?_
                      refine z_lv (lv' := []) [] rfl ?_
                      exact J_j_662 (0 : Int32) ao ap (by (with_reducible subst ej_629 er_642 er_651); dsimp only; rw [if_pos c_610, if_pos c_629, if_neg c_636, if_pos c_645, if_neg c_654])
                    · refine z_iconst (v := (1 : Int32)) X dL_isStep_657 (by decide) ?_
                      refine z_goto (tgt := 662) X dL_isStep_658 (by decide) ?_
                      refine z_lv (lv' := []) [] rfl ?_
                      exact J_j_662 (1 : Int32) ao ap (by (with_reducible subst ej_629 er_642 er_651); dsimp only; rw [if_pos c_610, if_pos c_629, if_neg c_636, if_pos c_645, if_pos c_654])
            refine z_icmp_ne (tgt := 627) X dL_isStep_619 (by decide) (fun c_619 => ?_) (fun c_619 => ?_)
            · refine z_iload X dL_isStep_627 4 rfl ?_
              refine z_lv (lv' := [(0, .ref (o 0)), (7, .int j_576), (8, .int j_592)]) [2, 5, 1] rfl ?_
              exact J_j_629 r_14 ao ap (by simp only [if_neg c_619])
            · refine z_bipush (v := (-5 : Int32)) X dL_isStep_622 (by decide) ?_
              refine z_goto (tgt := 629) X dL_isStep_624 (by decide) ?_
              refine z_lv (lv' := [(0, .ref (o 0)), (7, .int j_576), (8, .int j_592)]) [2, 5, 1] rfl ?_
              exact J_j_629 (-5 : Int32) ao ap (by simp only [if_pos c_619])
        refine z_icmp_ne (tgt := 591) X dL_isStep_584 (by decide) (fun c_584 => ?_) (fun c_584 => ?_)
        · refine z_iconst (v := (0 : Int32)) X dL_isStep_591 (by decide) ?_
          refine z_lv (lv' := [(0, .ref (o 0)), (1, .ref (o9 0)), (6, .int r_14), (7, .int j_576)]) [1, 2, 3, 0] rfl ?_
          exact J_j_592 (0 : Int32) ao ap (by simp only [if_neg c_584])
        · refine z_iconst (v := (1 : Int32)) X dL_isStep_587 (by decide) ?_
          refine z_goto (tgt := 592) X dL_isStep_588 (by decide) ?_
          refine z_lv (lv' := [(0, .ref (o 0)), (1, .ref (o9 0)), (6, .int r_14), (7, .int j_576)]) [1, 2, 3, 0] rfl ?_
          exact J_j_592 (1 : Int32) ao ap (by simp only [if_pos c_584])
      refine z_if_le (tgt := 575) X dL_isStep_568 (by decide) (fun c_568 => ?_) (fun c_568 => ?_)
      · refine z_iconst (v := (0 : Int32)) X dL_isStep_575 (by decide) ?_
        refine z_lv (lv' := [(0, .ref (o 0)), (1, .ref (o9 0)), (6, .int r_14)]) [3, 4, 0] rfl ?_
        exact J_j_576 (0 : Int32) ao ap (by simp only [if_pos c_568])
      · refine z_iconst (v := (1 : Int32)) X dL_isStep_571 (by decide) ?_
        refine z_goto (tgt := 576) X dL_isStep_572 (by decide) ?_
        refine z_lv (lv' := [(0, .ref (o 0)), (1, .ref (o9 0)), (6, .int r_14)]) [3, 4, 0] rfl ?_
        exact J_j_576 (1 : Int32) ao ap (by simp only [if_neg c_568])
    exact z_tableIn (tgt := 562) X dL_isStep_25 (by rw [g_562]; decide) (by rw [g_562]; decide) (by rw [g_562]; rfl) (by decide) K_562
  by_cases g_663 : r_22 = (11 : Int32) ∨ r_22 = (12 : Int32)
  · have K_663 : Z p l e { frames := 7, cells := 0, slots := 0, locals := 175 } s m args below meth c D A 12 0 0 Q (wV kI kC kQ o r o9 r9 a9 ao ap V) [(6, .int r_14), (5, .int r_7), (4, .int v_3), (0, .ref (o 0)), (1, .ref (o9 0)), (2, .ref (a9)), (3, .int a4)] 663 [] := by
      refine z_iload X dL_isStep_663 2 rfl ?_
      refine z_bipush (v := (7 : Int32)) X dL_isStep_665 (by decide) ?_
      refine z_callSiN X (c_L_up l D kI kC kQ v_3 (7 : Int32) (by decide)) (gS wd1_205 wd1_206 wd1_0 wd1_207) k_L_up rfl rfl ⟨Nat.le_of_ble_eq_true rfl, Nat.le_of_ble_eq_true rfl⟩ ⟨Nat.zero_le _, Nat.zero_le _⟩ rfl rfl (Nat.le_of_ble_eq_true rfl) dL_isStep_667 rfl (fun _ => rfl) (fun r_667 er_667 => ?_)
      refine z_istore (lv' := [(7, .int r_667), (6, .int r_14), (5, .int r_7), (4, .int v_3), (0, .ref (o 0)), (1, .ref (o9 0)), (2, .ref (a9)), (3, .int a4)]) X dL_isStep_670 (Nat.le_of_ble_eq_true rfl) rfl ?_
      refine z_iload X dL_isStep_672 0 rfl ?_
      have J_j_802 : ∀ (j_802 : Int32) (ao ap : ADT), j_802 = (if r_667 = (0 : Int32) then (let r_686 : Int32 := (F_L_up (v_3 >>> ((3 : Int32) &&& 31)) (200 : Int32)); ((100 : Int32) + r_686)) else (if r_667 = (1 : Int32) then (let r_706 : Int32 := (F_L_up (v_3 >>> ((3 : Int32) &&& 31)) (150 : Int32)); r_706) else (if r_667 = (2 : Int32) then (let r_725 : Int32 := (F_L_up (v_3 >>> ((3 : Int32) &&& 31)) (20 : Int32)); ((1 : Int32) + r_725)) else (if r_667 = (3 : Int32) then (let r_746 : Int32 := (F_L_up (v_3 >>> ((3 : Int32) &&& 31)) (90 : Int32)); ((10 : Int32) + r_746)) else (if r_667 = (4 : Int32) then (let r_765 : Int32 := (F_L_up (v_3 >>> ((3 : Int32) &&& 31)) (12 : Int32)); r_765) else (if r_667 = (5 : Int32) then (let r_784 : Int32 := (F_L_up (v_3 >>> ((3 : Int32) &&& 31)) (50 : Int32)); ((1 : Int32) + r_784)) else (let r_798 : Int32 := (F_L_up (v_3 >>> ((3 : Int32) &&& 31)) (10 : Int32)); ((1 : Int32) + r_798)))))))) → Z p l e { frames := 7, cells := 0, slots := 0, locals := 175 } s m args below meth c D A 12 0 0 Q (wV kI kC kQ o r o9 r9 a9 ao ap V) [(0, .ref (o 0)), (1, .ref (o9 0)), (7, .int r_667)] 802 [.int j_802] := by
        intro j_802 ao ap ej_802
        refine z_istore (lv' := [(8, .int j_802), (0, .ref (o 0)), (1, .ref (o9 0)), (7, .int r_667)]) X dL_isStep_802 (Nat.le_of_ble_eq_true rfl) rfl ?_
        refine z_aload_n X dL_isStep_804 1 rfl ?_
        refine z_iload X dL_isStep_805 3 rfl ?_
        refine z_iload X dL_isStep_807 0 rfl ?_
        refine zV_oc X (c_S_set l D kI kC kQ o r ao V.1 r_667 j_802 hO.ok) (gV wd2_82 wd2_83 wd2_84 wd1_1 wd2_85) k_S_set rfl rfl ⟨Nat.le_of_ble_eq_true rfl, Nat.le_of_ble_eq_true rfl⟩ ⟨Nat.zero_le _, Nat.zero_le _⟩ rfl rfl (Nat.le_of_ble_eq_true rfl) dL_isStep_809 (fun r_809 ao er_809 => ?_)
        refine zV_nm (fun V_809 eV_809 => ?_)
        have hO_809 : ROK V_809.1 := (by rw [eV_809, er_809]; exact hO.set _ _)
        have hP_809 : ROK V_809.2.1 := (by rw [eV_809]; exact hP)
        refine z_aload_n X dL_isStep_812 2 rfl ?_
        refine z_iload X dL_isStep_813 3 rfl ?_
        refine z_iload X dL_isStep_815 0 rfl ?_
        refine zV_pc X (c_S_set l D kI kC kQ o9 r9 ap V_809.2.1 r_667 j_802 hP_809.ok) (gV wd2_82 wd2_83 wd2_84 wd1_1 wd2_85) k_S_set rfl rfl ⟨Nat.le_of_ble_eq_true rfl, Nat.le_of_ble_eq_true rfl⟩ ⟨Nat.zero_le _, Nat.zero_le _⟩ rfl rfl (Nat.le_of_ble_eq_true rfl) dL_isStep_817 (fun r_817 ap er_817 => ?_)
        refine zV_nm (fun V_817 eV_817 => ?_)
        have hO_817 : ROK V_817.1 := (by rw [eV_817]; exact hO_809)
        have hP_817 : ROK V_817.2.1 := (by rw [eV_817, er_817]; exact hP_809.set _ _)
        have J_j_842 : ∀ (j_842 : Int32) (ao ap : ADT), j_842 = (if r_809.1 = r_817.1 then (let r_829 : Int32 := (F_S_count V_817.1 ((17 : Int32) + r_667)); if r_829 = j_802 then ((1 : Int32)) else ((0 : Int32))) else ((0 : Int32))) → Z p l e { frames := 7, cells := 0, slots := 0, locals := 175 } s m args below meth c D A 12 0 0 Q (wV kI kC kQ o r o9 r9 a9 ao ap V_817) [] 842 [.int j_842] := by
          intro j_842 ao ap ej_842
          exact z_zret X hQ rfl ((j_842, V_817), (ao, ap)) rfl rfl (by (with_reducible subst ev_3 er_7 er_14 er_22 er_667 ej_802 er_809 eV_809 er_817 eV_817 ej_842); simp only [F_L_isStep, F_L_isStep_c663, if_neg g_92, if_neg g_152, if_neg g_384, if_neg g_517, if_neg g_562, if_pos g_663]) (nb (by rw [ej_842]; (try dsimp only); repeat' first | (with_reducible apply bl_ite) | exact Or.inl rfl | exact Or.inr rfl)) dL_isStep_842
        refine z_icmp_ne (tgt := 841) X dL_isStep_820 (by decide) (fun c_820 => ?_) (fun c_820 => ?_)
        · refine z_iconst (v := (0 : Int32)) X dL_isStep_841 (by decide) ?_
          refine z_lv (lv' := []) [] rfl ?_
          exact J_j_842 (0 : Int32) ao ap (by simp only [if_neg c_820])
        · refine z_aload_n X dL_isStep_823 1 rfl ?_
          refine z_bipush (v := (17 : Int32)) X dL_isStep_824 (by decide) ?_
          refine z_iload X dL_isStep_826 3 rfl ?_
          refine z_iadd X dL_isStep_828 ?_
          refine zV_or X (c_S_count l D kI kC kQ o r ao V_817.1 ((17 : Int32) + r_667) hO_817.ok) (gV wd1_185 wd1_186 wd1_187 wd1_1 wd1_188) k_S_count rfl rfl ⟨Nat.le_of_ble_eq_true rfl, Nat.le_of_ble_eq_true rfl⟩ ⟨Nat.zero_le _, Nat.zero_le _⟩ rfl rfl (Nat.le_of_ble_eq_true rfl) dL_isStep_829 (fun r_829 er_829 => ?_)
          refine z_iload X dL_isStep_832 0 rfl ?_
          refine z_icmp_ne (tgt := 841) X dL_isStep_834 (by decide) (fun c_834 => ?_) (fun c_834 => ?_)
          · refine z_iconst (v := (0 : Int32)) X dL_isStep_841 (by decide) ?_
            refine z_lv (lv' := []) [] rfl ?_
            exact J_j_842 (0 : Int32) ao ap (by (with_reducible subst er_829); simp only [if_pos c_820, if_neg c_834])
          · refine z_iconst (v := (1 : Int32)) X dL_isStep_837 (by decide) ?_
            refine z_goto (tgt := 842) X dL_isStep_838 (by decide) ?_
            refine z_lv (lv' := []) [] rfl ?_
            exact J_j_842 (1 : Int32) ao ap (by (with_reducible subst er_829); simp only [if_pos c_820, if_pos c_834])
      refine z_if_ne (tgt := 693) X dL_isStep_674 (by decide) (fun c_674 => ?_) (fun c_674 => ?_)
      · refine z_iload X dL_isStep_693 0 rfl ?_
        refine z_iconst (v := (1 : Int32)) X dL_isStep_695 (by decide) ?_
        refine z_icmp_ne (tgt := 712) X dL_isStep_696 (by decide) (fun c_696 => ?_) (fun c_696 => ?_)
        · refine z_iload X dL_isStep_712 0 rfl ?_
          refine z_iconst (v := (2 : Int32)) X dL_isStep_714 (by decide) ?_
          refine z_icmp_ne (tgt := 732) X dL_isStep_715 (by decide) (fun c_715 => ?_) (fun c_715 => ?_)
          · refine z_iload X dL_isStep_732 0 rfl ?_
            refine z_iconst (v := (3 : Int32)) X dL_isStep_734 (by decide) ?_
            refine z_icmp_ne (tgt := 753) X dL_isStep_735 (by decide) (fun c_735 => ?_) (fun c_735 => ?_)
            · refine z_iload X dL_isStep_753 0 rfl ?_
              refine z_iconst (v := (4 : Int32)) X dL_isStep_755 (by decide) ?_
              refine z_icmp_ne (tgt := 771) X dL_isStep_756 (by decide) (fun c_756 => ?_) (fun c_756 => ?_)
              · refine z_iload X dL_isStep_771 0 rfl ?_
                refine z_iconst (v := (5 : Int32)) X dL_isStep_773 (by decide) ?_
                refine z_icmp_ne (tgt := 791) X dL_isStep_774 (by decide) (fun c_774 => ?_) (fun c_774 => ?_)
                · refine z_iconst (v := (1 : Int32)) X dL_isStep_791 (by decide) ?_
                  refine z_iload X dL_isStep_792 3 rfl ?_
                  refine z_iconst (v := (3 : Int32)) X dL_isStep_794 (by decide) ?_
                  refine z_ishr X dL_isStep_795 ?_
                  refine z_bipush (v := (10 : Int32)) X dL_isStep_796 (by decide) ?_
                  refine z_callSiN X (c_L_up l D kI kC kQ (v_3 >>> ((3 : Int32) &&& 31)) (10 : Int32) (by decide)) (gS wd1_205 wd1_206 wd1_0 wd1_207) k_L_up rfl rfl ⟨Nat.le_of_ble_eq_true rfl, Nat.le_of_ble_eq_true rfl⟩ ⟨Nat.zero_le _, Nat.zero_le _⟩ rfl rfl (Nat.le_of_ble_eq_true rfl) dL_isStep_798 rfl (fun _ => rfl) (fun r_798 er_798 => ?_)
                  refine z_iadd X dL_isStep_801 ?_
                  refine z_lv (lv' := [(0, .ref (o 0)), (1, .ref (o9 0)), (7, .int r_667)]) [4, 5, 0] rfl ?_
                  exact J_j_802 ((1 : Int32) + r_798) ao ap (by (with_reducible subst er_798); simp only [if_neg c_674, if_neg c_696, if_neg c_715, if_neg c_735, if_neg c_756, if_neg c_774])
                · refine z_iconst (v := (1 : Int32)) X dL_isStep_777 (by decide) ?_
                  refine z_iload X dL_isStep_778 3 rfl ?_
                  refine z_iconst (v := (3 : Int32)) X dL_isStep_780 (by decide) ?_
                  refine z_ishr X dL_isStep_781 ?_
                  refine z_bipush (v := (50 : Int32)) X dL_isStep_782 (by decide) ?_
                  refine z_callSiN X (c_L_up l D kI kC kQ (v_3 >>> ((3 : Int32) &&& 31)) (50 : Int32) (by decide)) (gS wd1_205 wd1_206 wd1_0 wd1_207) k_L_up rfl rfl ⟨Nat.le_of_ble_eq_true rfl, Nat.le_of_ble_eq_true rfl⟩ ⟨Nat.zero_le _, Nat.zero_le _⟩ rfl rfl (Nat.le_of_ble_eq_true rfl) dL_isStep_784 rfl (fun _ => rfl) (fun r_784 er_784 => ?_)
                  refine z_iadd X dL_isStep_787 ?_
                  refine z_goto (tgt := 802) X dL_isStep_788 (by decide) ?_
                  refine z_lv (lv' := [(0, .ref (o 0)), (1, .ref (o9 0)), (7, .int r_667)]) [4, 5, 0] rfl ?_
                  exact J_j_802 ((1 : Int32) + r_784) ao ap (by (with_reducible subst er_784); simp only [if_neg c_674, if_neg c_696, if_neg c_715, if_neg c_735, if_neg c_756, if_pos c_774])
              · refine z_iload X dL_isStep_759 3 rfl ?_
                refine z_iconst (v := (3 : Int32)) X dL_isStep_761 (by decide) ?_
                refine z_ishr X dL_isStep_762 ?_
                refine z_bipush (v := (12 : Int32)) X dL_isStep_763 (by decide) ?_
                refine z_callSiN X (c_L_up l D kI kC kQ (v_3 >>> ((3 : Int32) &&& 31)) (12 : Int32) (by decide)) (gS wd1_205 wd1_206 wd1_0 wd1_207) k_L_up rfl rfl ⟨Nat.le_of_ble_eq_true rfl, Nat.le_of_ble_eq_true rfl⟩ ⟨Nat.zero_le _, Nat.zero_le _⟩ rfl rfl (Nat.le_of_ble_eq_true rfl) dL_isStep_765 rfl (fun _ => rfl) (fun r_765 er_765 => ?_)
                refine z_goto (tgt := 802) X dL_isStep_768 (by decide) ?_
                refine z_lv (lv' := [(0, .ref (o 0)), (1, .ref (o9 0)), (7, .int r_667)]) [4, 5, 0] rfl ?_
                exact J_j_802 r_765 ao ap (by (with_reducible subst er_765); simp only [if_neg c_674, if_neg c_696, if_neg c_715, if_neg c_735, if_pos c_756])
            · refine z_bipush (v := (10 : Int32)) X dL_isStep_738 (by decide) ?_
              refine z_iload X dL_isStep_740 3 rfl ?_
              refine z_iconst (v := (3 : Int32)) X dL_isStep_742 (by decide) ?_
              refine z_ishr X dL_isStep_743 ?_
              refine z_bipush (v := (90 : Int32)) X dL_isStep_744 (by decide) ?_
              refine z_callSiN X (c_L_up l D kI kC kQ (v_3 >>> ((3 : Int32) &&& 31)) (90 : Int32) (by decide)) (gS wd1_205 wd1_206 wd1_0 wd1_207) k_L_up rfl rfl ⟨Nat.le_of_ble_eq_true rfl, Nat.le_of_ble_eq_true rfl⟩ ⟨Nat.zero_le _, Nat.zero_le _⟩ rfl rfl (Nat.le_of_ble_eq_true rfl) dL_isStep_746 rfl (fun _ => rfl) (fun r_746 er_746 => ?_)
              refine z_iadd X dL_isStep_749 ?_
              refine z_goto (tgt := 802) X dL_isStep_750 (by decide) ?_
              refine z_lv (lv' := [(0, .ref (o 0)), (1, .ref (o9 0)), (7, .int r_667)]) [4, 5, 0] rfl ?_
              exact J_j_802 ((10 : Int32) + r_746) ao ap (by (with_reducible subst er_746); simp only [if_neg c_674, if_neg c_696, if_neg c_715, if_pos c_735])
          · refine z_iconst (v := (1 : Int32)) X dL_isStep_718 (by decide) ?_
            refine z_iload X dL_isStep_719 3 rfl ?_
            refine z_iconst (v := (3 : Int32)) X dL_isStep_721 (by decide) ?_
            refine z_ishr X dL_isStep_722 ?_
            refine z_bipush (v := (20 : Int32)) X dL_isStep_723 (by decide) ?_
            refine z_callSiN X (c_L_up l D kI kC kQ (v_3 >>> ((3 : Int32) &&& 31)) (20 : Int32) (by decide)) (gS wd1_205 wd1_206 wd1_0 wd1_207) k_L_up rfl rfl ⟨Nat.le_of_ble_eq_true rfl, Nat.le_of_ble_eq_true rfl⟩ ⟨Nat.zero_le _, Nat.zero_le _⟩ rfl rfl (Nat.le_of_ble_eq_true rfl) dL_isStep_725 rfl (fun _ => rfl) (fun r_725 er_725 => ?_)
            refine z_iadd X dL_isStep_728 ?_
            refine z_goto (tgt := 802) X dL_isStep_729 (by decide) ?_
            refine z_lv (lv' := [(0, .ref (o 0)), (1, .ref (o9 0)), (7, .int r_667)]) [4, 5, 0] rfl ?_
            exact J_j_802 ((1 : Int32) + r_725) ao ap (by (with_reducible subst er_725); simp only [if_neg c_674, if_neg c_696, if_pos c_715])
        · refine z_iload X dL_isStep_699 3 rfl ?_
          refine z_iconst (v := (3 : Int32)) X dL_isStep_701 (by decide) ?_
          refine z_ishr X dL_isStep_702 ?_
          refine z_sipush (v := (150 : Int32)) X dL_isStep_703 (by decide) ?_
          refine z_callSiN X (c_L_up l D kI kC kQ (v_3 >>> ((3 : Int32) &&& 31)) (150 : Int32) (by decide)) (gS wd1_205 wd1_206 wd1_0 wd1_207) k_L_up rfl rfl ⟨Nat.le_of_ble_eq_true rfl, Nat.le_of_ble_eq_true rfl⟩ ⟨Nat.zero_le _, Nat.zero_le _⟩ rfl rfl (Nat.le_of_ble_eq_true rfl) dL_isStep_706 rfl (fun _ => rfl) (fun r_706 er_706 => ?_)
          refine z_goto (tgt := 802) X dL_isStep_709 (by decide) ?_
          refine z_lv (lv' := [(0, .ref (o 0)), (1, .ref (o9 0)), (7, .int r_667)]) [4, 5, 0] rfl ?_
          exact J_j_802 r_706 ao ap (by (with_reducible subst er_706); simp only [if_neg c_674, if_pos c_696])
      · refine z_bipush (v := (100 : Int32)) X dL_isStep_677 (by decide) ?_
        refine z_iload X dL_isStep_679 3 rfl ?_
        refine z_iconst (v := (3 : Int32)) X dL_isStep_681 (by decide) ?_
        refine z_ishr X dL_isStep_682 ?_
        refine z_sipush (v := (200 : Int32)) X dL_isStep_683 (by decide) ?_
        refine z_callSiN X (c_L_up l D kI kC kQ (v_3 >>> ((3 : Int32) &&& 31)) (200 : Int32) (by decide)) (gS wd1_205 wd1_206 wd1_0 wd1_207) k_L_up rfl rfl ⟨Nat.le_of_ble_eq_true rfl, Nat.le_of_ble_eq_true rfl⟩ ⟨Nat.zero_le _, Nat.zero_le _⟩ rfl rfl (Nat.le_of_ble_eq_true rfl) dL_isStep_686 rfl (fun _ => rfl) (fun r_686 er_686 => ?_)
        refine z_iadd X dL_isStep_689 ?_
        refine z_goto (tgt := 802) X dL_isStep_690 (by decide) ?_
        refine z_lv (lv' := [(0, .ref (o 0)), (1, .ref (o9 0)), (7, .int r_667)]) [4, 5, 0] rfl ?_
        exact J_j_802 ((100 : Int32) + r_686) ao ap (by (with_reducible subst er_686); simp only [if_pos c_674])
    rcases g_663 with g_663 | g_663
    · exact z_tableIn (tgt := 663) X dL_isStep_25 (by rw [g_663]; decide) (by rw [g_663]; decide) (by rw [g_663]; rfl) (by decide) K_663
    exact z_tableIn (tgt := 663) X dL_isStep_25 (by rw [g_663]; decide) (by rw [g_663]; decide) (by rw [g_663]; rfl) (by decide) K_663
  have t0 : r_22.toInt ≠ 0 := fun q => (fun (h : r_22 = (0 : Int32)) => g_92 (Or.inl h)) (Int32.toInt_inj.mp q)
  have t1 : r_22.toInt ≠ 1 := fun q => (fun (h : r_22 = (1 : Int32)) => g_92 (Or.inr (h))) (Int32.toInt_inj.mp q)
  have t2 : r_22.toInt ≠ 2 := fun q => (fun (h : r_22 = (2 : Int32)) => g_152 (Or.inl h)) (Int32.toInt_inj.mp q)
  have t3 : r_22.toInt ≠ 3 := fun q => (fun (h : r_22 = (3 : Int32)) => g_152 (Or.inr (h))) (Int32.toInt_inj.mp q)
  have t4 : r_22.toInt ≠ 4 := fun q => (fun (h : r_22 = (4 : Int32)) => g_384 (Or.inl h)) (Int32.toInt_inj.mp q)
  have t5 : r_22.toInt ≠ 5 := fun q => (fun (h : r_22 = (5 : Int32)) => g_384 (Or.inr (Or.inl h))) (Int32.toInt_inj.mp q)
  have t6 : r_22.toInt ≠ 6 := fun q => (fun (h : r_22 = (6 : Int32)) => g_384 (Or.inr (Or.inr (Or.inl h)))) (Int32.toInt_inj.mp q)
  have t7 : r_22.toInt ≠ 7 := fun q => (fun (h : r_22 = (7 : Int32)) => g_384 (Or.inr (Or.inr (Or.inr (Or.inl h))))) (Int32.toInt_inj.mp q)
  have t8 : r_22.toInt ≠ 8 := fun q => (fun (h : r_22 = (8 : Int32)) => g_384 (Or.inr (Or.inr (Or.inr (Or.inr (h)))))) (Int32.toInt_inj.mp q)
  have t9 : r_22.toInt ≠ 9 := fun q => (fun (h : r_22 = (9 : Int32)) => g_517 h) (Int32.toInt_inj.mp q)
  have t10 : r_22.toInt ≠ 10 := fun q => (fun (h : r_22 = (10 : Int32)) => g_562 h) (Int32.toInt_inj.mp q)
  have t11 : r_22.toInt ≠ 11 := fun q => (fun (h : r_22 = (11 : Int32)) => g_663 (Or.inl h)) (Int32.toInt_inj.mp q)
  have t12 : r_22.toInt ≠ 12 := fun q => (fun (h : r_22 = (12 : Int32)) => g_663 (Or.inr (h))) (Int32.toInt_inj.mp q)
  refine z_tableOut (tgt := 843) X dL_isStep_25 (by omega) (by decide) ?_
  refine z_iconst (v := (1 : Int32)) X dL_isStep_843 (by decide) ?_
  refine z_iload X dL_isStep_844 2 rfl ?_
  refine z_bipush (v := (40 : Int32)) X dL_isStep_846 (by decide) ?_
  refine z_callSiN X (c_L_up l D kI kC kQ v_3 (40 : Int32) (by decide)) (gS wd1_205 wd1_206 wd1_0 wd1_207) k_L_up rfl rfl ⟨Nat.le_of_ble_eq_true rfl, Nat.le_of_ble_eq_true rfl⟩ ⟨Nat.zero_le _, Nat.zero_le _⟩ rfl rfl (Nat.le_of_ble_eq_true rfl) dL_isStep_848 rfl (fun _ => rfl) (fun r_848 er_848 => ?_)
  refine z_iadd X dL_isStep_851 ?_
  refine z_topi (fun v_852 ev_852 => ?_)
  refine z_istore (lv' := [(7, .int v_852), (6, .int r_14), (5, .int r_7), (4, .int v_3), (0, .ref (o 0)), (1, .ref (o9 0)), (2, .ref (a9)), (3, .int a4)]) X dL_isStep_852 (Nat.le_of_ble_eq_true rfl) rfl ?_
  refine z_aload_n X dL_isStep_854 4 rfl ?_
  refine z_iconst (v := (1 : Int32)) X dL_isStep_855 (by decide) ?_
  refine zV_or X (c_S_least l D kI kC kQ o r ao V.1 (1 : Int32) hO.ok) (gV wd2_90 wd2_91 wd2_92 wd1_1 wd2_93) k_S_least rfl rfl ⟨Nat.le_of_ble_eq_true rfl, Nat.le_of_ble_eq_true rfl⟩ ⟨Nat.zero_le _, Nat.zero_le _⟩ rfl rfl (Nat.le_of_ble_eq_true rfl) dL_isStep_856 (fun r_856 er_856 => ?_)
  refine z_istore (lv' := [(8, .int r_856), (7, .int v_852), (6, .int r_14), (5, .int r_7), (4, .int v_3), (0, .ref (o 0)), (1, .ref (o9 0)), (2, .ref (a9)), (3, .int a4)]) X dL_isStep_859 (Nat.le_of_ble_eq_true rfl) rfl ?_
  refine z_aload_n X dL_isStep_861 5 rfl ?_
  refine z_iconst (v := (0 : Int32)) X dL_isStep_862 (by decide) ?_
  refine zV_or X (c_S_least l D kI kC kQ o r ao V.1 (0 : Int32) hO.ok) (gV wd2_90 wd2_91 wd2_92 wd1_1 wd2_93) k_S_least rfl rfl ⟨Nat.le_of_ble_eq_true rfl, Nat.le_of_ble_eq_true rfl⟩ ⟨Nat.zero_le _, Nat.zero_le _⟩ rfl rfl (Nat.le_of_ble_eq_true rfl) dL_isStep_863 (fun r_863 er_863 => ?_)
  refine z_istore (lv' := [(9, .int r_863), (8, .int r_856), (7, .int v_852), (6, .int r_14), (5, .int r_7), (4, .int v_3), (0, .ref (o 0)), (1, .ref (o9 0)), (2, .ref (a9)), (3, .int a4)]) X dL_isStep_866 (Nat.le_of_ble_eq_true rfl) rfl ?_
  refine z_aload_n X dL_isStep_868 6 rfl ?_
  refine z_iload X dL_isStep_869 2 rfl ?_
  refine zV_ob X (c_S_best l D kI kC kQ o r ao V.1 v_852 hO.ok) (gV wd2_99 wd2_100 wd2_101 wd1_1 wd2_102) k_S_best rfl rfl ⟨Nat.le_of_ble_eq_true rfl, Nat.le_of_ble_eq_true rfl⟩ ⟨Nat.zero_le _, Nat.zero_le _⟩ rfl rfl (Nat.le_of_ble_eq_true rfl) dL_isStep_871 (fun r_871 er_871 => ?_)
  refine zV_nm (fun V_871 eV_871 => ?_)
  have hO_871 : ROK V_871.1 := (by rw [eV_871, er_871]; exact hO.best _)
  have hP_871 : ROK V_871.2.1 := (by rw [eV_871]; exact hP)
  refine z_aload_n X dL_isStep_874 7 rfl ?_
  refine z_iload X dL_isStep_875 2 rfl ?_
  refine zV_pb X (c_S_best l D kI kC kQ o9 r9 ap V_871.2.1 v_852 hP_871.ok) (gV wd2_99 wd2_100 wd2_101 wd1_1 wd2_102) k_S_best rfl rfl ⟨Nat.le_of_ble_eq_true rfl, Nat.le_of_ble_eq_true rfl⟩ ⟨Nat.zero_le _, Nat.zero_le _⟩ rfl rfl (Nat.le_of_ble_eq_true rfl) dL_isStep_877 (fun r_877 er_877 => ?_)
  refine zV_nm (fun V_877 eV_877 => ?_)
  have hO_877 : ROK V_877.1 := (by rw [eV_877]; exact hO_871)
  have hP_877 : ROK V_877.2.1 := (by rw [eV_877, er_877]; exact hP_871.best _)
  have J_j_930 : ∀ (j_930 : Int32) (ao ap : ADT), j_930 = (if r_871.1 = r_877.1 then (let r_887 : Int32 := (F_S_least V_877.2.1 (1 : Int32)); if r_856 = r_887 then (let r_897 : Int32 := (F_S_least V_877.2.1 (0 : Int32)); if r_863 = r_897 then (if r_863 = (-5 : Int32) then ((1 : Int32)) else (if r_856 < (500 : Int32) then ((0 : Int32)) else (if r_863 < r_856 then ((0 : Int32)) else ((1 : Int32))))) else ((0 : Int32))) else ((0 : Int32))) else ((0 : Int32))) → Z p l e { frames := 7, cells := 0, slots := 0, locals := 175 } s m args below meth c D A 12 0 0 Q (wV kI kC kQ o r o9 r9 a9 ao ap V_877) [(0, .ref (o 0)), (1, .ref (o9 0)), (4, .int v_3), (7, .int v_852)] 930 [.int j_930] := by
    intro j_930 ao ap ej_930
    refine z_istore (lv' := [(10, .int j_930), (0, .ref (o 0)), (1, .ref (o9 0)), (4, .int v_3), (7, .int v_852)]) X dL_isStep_930 (Nat.le_of_ble_eq_true rfl) rfl ?_
    refine z_iload X dL_isStep_932 0 rfl ?_
    have J_j_999 : ∀ (j_999 : Int32 × LW) (ao ap : ADT), j_999 = (if j_930 = (0 : Int32) then (((0 : Int32), V_877)) else (let r_946 : Int32 := (F_L_up v_3 (701 : Int32)); let r_958 : Int32 := (F_L_up (v_3 >>> ((9 : Int32) &&& 31)) (5 : Int32)); let r_961 : Int32 × SLS := (F_S_would V_877.1 ((500 : Int32) + r_946) v_852 r_958); let V_961 : LW := (r_961.2, V_877.2); let r_973 : Int32 := (F_L_up v_3 (701 : Int32)); let r_985 : Int32 := (F_L_up (v_3 >>> ((9 : Int32) &&& 31)) (5 : Int32)); let r_988 : Int32 × SLS := (F_S_would V_961.2.1 ((500 : Int32) + r_973) v_852 r_985); let V_988 : LW := (V_961.1, r_988.2, V_961.2.2); if r_961.1 = r_988.1 then (((1 : Int32), V_988)) else (((0 : Int32), V_988)))) → (ROK j_999.2.1) → (ROK j_999.2.2.1) → Z p l e { frames := 7, cells := 0, slots := 0, locals := 175 } s m args below meth c D A 12 0 0 Q (wV kI kC kQ o r o9 r9 a9 ao ap j_999.2) [] 999 [.int j_999.1] := by
      intro j_999 ao ap ej_999 hOj_999_934 hPj_999_934
      exact z_zret X hQ rfl ((j_999.1, j_999.2), (ao, ap)) rfl rfl (by (with_reducible subst ev_3 er_7 er_14 er_22 er_848 ev_852 er_856 er_863 er_871 eV_871 er_877 eV_877 ej_930 ej_999); simp only [F_L_isStep, F_L_isStep_c843, if_neg g_92, if_neg g_152, if_neg g_384, if_neg g_517, if_neg g_562, if_neg g_663]) (nb (by rw [ej_999]; dsimp only; simp only [apply_ite Prod.fst]; repeat' first | (with_reducible apply bl_ite) | exact Or.inl rfl | exact Or.inr rfl)) dL_isStep_999
    refine z_if_eq (tgt := 998) X dL_isStep_934 (by decide) (fun c_934 => ?_) (fun c_934 => ?_)
    · refine z_iconst (v := (0 : Int32)) X dL_isStep_998 (by decide) ?_
      refine z_lv (lv' := []) [] rfl ?_
      exact J_j_999 ((0 : Int32), V_877) ao ap (by simp only [if_pos c_934]) hO_877 hP_877
    · refine z_aload_n X dL_isStep_937 1 rfl ?_
      refine z_sipush (v := (500 : Int32)) X dL_isStep_938 (by decide) ?_
      refine z_iload X dL_isStep_941 3 rfl ?_
      refine z_sipush (v := (701 : Int32)) X dL_isStep_943 (by decide) ?_
      refine z_callSiN X (c_L_up l D kI kC kQ v_3 (701 : Int32) (by decide)) (gS wd1_205 wd1_206 wd1_0 wd1_207) k_L_up rfl rfl ⟨Nat.le_of_ble_eq_true rfl, Nat.le_of_ble_eq_true rfl⟩ ⟨Nat.zero_le _, Nat.zero_le _⟩ rfl rfl (Nat.le_of_ble_eq_true rfl) dL_isStep_946 rfl (fun _ => rfl) (fun r_946 er_946 => ?_)
      refine z_iadd X dL_isStep_949 ?_
      refine z_iload X dL_isStep_950 4 rfl ?_
      refine z_iload X dL_isStep_952 3 rfl ?_
      refine z_bipush (v := (9 : Int32)) X dL_isStep_954 (by decide) ?_
      refine z_ishr X dL_isStep_956 ?_
      refine z_iconst (v := (5 : Int32)) X dL_isStep_957 (by decide) ?_
      refine z_callSiN X (c_L_up l D kI kC kQ (v_3 >>> ((9 : Int32) &&& 31)) (5 : Int32) (by decide)) (gS wd1_205 wd1_206 wd1_0 wd1_207) k_L_up rfl rfl ⟨Nat.le_of_ble_eq_true rfl, Nat.le_of_ble_eq_true rfl⟩ ⟨Nat.zero_le _, Nat.zero_le _⟩ rfl rfl (Nat.le_of_ble_eq_true rfl) dL_isStep_958 rfl (fun _ => rfl) (fun r_958 er_958 => ?_)
      refine zV_ob X (c_S_would l D kI kC kQ o r ao V_877.1 ((500 : Int32) + r_946) v_852 r_958 hO_877.ok) (gV wd2_107 wd2_108 wd2_109 wd1_1 wd2_110) k_S_would rfl rfl ⟨Nat.le_of_ble_eq_true rfl, Nat.le_of_ble_eq_true rfl⟩ ⟨Nat.zero_le _, Nat.zero_le _⟩ rfl rfl (Nat.le_of_ble_eq_true rfl) dL_isStep_961 (fun r_961 er_961 => ?_)
      refine zV_nm (fun V_961 eV_961 => ?_)
      have hO_961 : ROK V_961.1 := (by rw [eV_961, er_961]; exact hO_877.would _ _ _)
      have hP_961 : ROK V_961.2.1 := (by rw [eV_961]; exact hP_877)
      refine z_aload_n X dL_isStep_964 2 rfl ?_
      refine z_sipush (v := (500 : Int32)) X dL_isStep_965 (by decide) ?_
      refine z_iload X dL_isStep_968 3 rfl ?_
      refine z_sipush (v := (701 : Int32)) X dL_isStep_970 (by decide) ?_
      refine z_callSiN X (c_L_up l D kI kC kQ v_3 (701 : Int32) (by decide)) (gS wd1_205 wd1_206 wd1_0 wd1_207) k_L_up rfl rfl ⟨Nat.le_of_ble_eq_true rfl, Nat.le_of_ble_eq_true rfl⟩ ⟨Nat.zero_le _, Nat.zero_le _⟩ rfl rfl (Nat.le_of_ble_eq_true rfl) dL_isStep_973 rfl (fun _ => rfl) (fun r_973 er_973 => ?_)
      refine z_iadd X dL_isStep_976 ?_
      refine z_iload X dL_isStep_977 4 rfl ?_
      refine z_iload X dL_isStep_979 3 rfl ?_
      refine z_bipush (v := (9 : Int32)) X dL_isStep_981 (by decide) ?_
      refine z_ishr X dL_isStep_983 ?_
      refine z_iconst (v := (5 : Int32)) X dL_isStep_984 (by decide) ?_
      refine z_callSiN X (c_L_up l D kI kC kQ (v_3 >>> ((9 : Int32) &&& 31)) (5 : Int32) (by decide)) (gS wd1_205 wd1_206 wd1_0 wd1_207) k_L_up rfl rfl ⟨Nat.le_of_ble_eq_true rfl, Nat.le_of_ble_eq_true rfl⟩ ⟨Nat.zero_le _, Nat.zero_le _⟩ rfl rfl (Nat.le_of_ble_eq_true rfl) dL_isStep_985 rfl (fun _ => rfl) (fun r_985 er_985 => ?_)
      refine zV_pb X (c_S_would l D kI kC kQ o9 r9 ap V_961.2.1 ((500 : Int32) + r_973) v_852 r_985 hP_961.ok) (gV wd2_107 wd2_108 wd2_109 wd1_1 wd2_110) k_S_would rfl rfl ⟨Nat.le_of_ble_eq_true rfl, Nat.le_of_ble_eq_true rfl⟩ ⟨Nat.zero_le _, Nat.zero_le _⟩ rfl rfl (Nat.le_of_ble_eq_true rfl) dL_isStep_988 (fun r_988 er_988 => ?_)
      refine zV_nm (fun V_988 eV_988 => ?_)
      have hO_988 : ROK V_988.1 := (by rw [eV_988]; exact hO_961)
      have hP_988 : ROK V_988.2.1 := (by rw [eV_988, er_988]; exact hP_961.would _ _ _)
      refine z_icmp_ne (tgt := 998) X dL_isStep_991 (by decide) (fun c_991 => ?_) (fun c_991 => ?_)
      · refine z_iconst (v := (0 : Int32)) X dL_isStep_998 (by decide) ?_
        refine z_lv (lv' := []) [] rfl ?_
        exact J_j_999 ((0 : Int32), V_988) ao ap (by (with_reducible subst er_946 er_958 er_961 eV_961 er_973 er_985 er_988 eV_988); simp only [if_neg c_934, if_neg c_991]) hO_988 hP_988
      · refine z_iconst (v := (1 : Int32)) X dL_isStep_994 (by decide) ?_
        refine z_goto (tgt := 999) X dL_isStep_995 (by decide) ?_
        refine z_lv (lv' := []) [] rfl ?_
        exact J_j_999 ((1 : Int32), V_988) ao ap (by (with_reducible subst er_946 er_958 er_961 eV_961 er_973 er_985 er_988 eV_988); simp only [if_neg c_934, if_pos c_991]) hO_988 hP_988
  refine z_icmp_ne (tgt := 929) X dL_isStep_880 (by decide) (fun c_880 => ?_) (fun c_880 => ?_)
  · refine z_iconst (v := (0 : Int32)) X dL_isStep_929 (by decide) ?_
    refine z_lv (lv' := [(0, .ref (o 0)), (1, .ref (o9 0)), (4, .int v_3), (7, .int v_852)]) [6, 7, 5, 2] rfl ?_
    exact J_j_930 (0 : Int32) ao ap (by simp only [if_neg c_880])
  · refine z_iload X dL_isStep_883 1 rfl ?_
    refine z_aload_n X dL_isStep_885 7 rfl ?_
    refine z_iconst (v := (1 : Int32)) X dL_isStep_886 (by decide) ?_
    refine zV_pr X (c_S_least l D kI kC kQ o9 r9 ap V_877.2.1 (1 : Int32) hP_877.ok) (gV wd2_90 wd2_91 wd2_92 wd1_1 wd2_93) k_S_least rfl rfl ⟨Nat.le_of_ble_eq_true rfl, Nat.le_of_ble_eq_true rfl⟩ ⟨Nat.zero_le _, Nat.zero_le _⟩ rfl rfl (Nat.le_of_ble_eq_true rfl) dL_isStep_887 (fun r_887 er_887 => ?_)
    refine z_icmp_ne (tgt := 929) X dL_isStep_890 (by decide) (fun c_890 => ?_) (fun c_890 => ?_)
    · refine z_iconst (v := (0 : Int32)) X dL_isStep_929 (by decide) ?_
      refine z_lv (lv' := [(0, .ref (o 0)), (1, .ref (o9 0)), (4, .int v_3), (7, .int v_852)]) [6, 7, 5, 2] rfl ?_
      exact J_j_930 (0 : Int32) ao ap (by (with_reducible subst er_887); simp only [if_pos c_880, if_neg c_890])
    · refine z_iload X dL_isStep_893 0 rfl ?_
      refine z_aload_n X dL_isStep_895 7 rfl ?_
      refine z_iconst (v := (0 : Int32)) X dL_isStep_896 (by decide) ?_
      refine zV_pr X (c_S_least l D kI kC kQ o9 r9 ap V_877.2.1 (0 : Int32) hP_877.ok) (gV wd2_90 wd2_91 wd2_92 wd1_1 wd2_93) k_S_least rfl rfl ⟨Nat.le_of_ble_eq_true rfl, Nat.le_of_ble_eq_true rfl⟩ ⟨Nat.zero_le _, Nat.zero_le _⟩ rfl rfl (Nat.le_of_ble_eq_true rfl) dL_isStep_897 (fun r_897 er_897 => ?_)
      refine z_icmp_ne (tgt := 929) X dL_isStep_900 (by decide) (fun c_900 => ?_) (fun c_900 => ?_)
      · refine z_iconst (v := (0 : Int32)) X dL_isStep_929 (by decide) ?_
        refine z_lv (lv' := [(0, .ref (o 0)), (1, .ref (o9 0)), (4, .int v_3), (7, .int v_852)]) [6, 7, 5, 2] rfl ?_
        exact J_j_930 (0 : Int32) ao ap (by (with_reducible subst er_887 er_897); simp only [if_pos c_880, if_pos c_890, if_neg c_900])
      · refine z_iload X dL_isStep_903 0 rfl ?_
        refine z_bipush (v := (-5 : Int32)) X dL_isStep_905 (by decide) ?_
        refine z_icmp_eq (tgt := 925) X dL_isStep_907 (by decide) (fun c_907 => ?_) (fun c_907 => ?_)
        · refine z_iconst (v := (1 : Int32)) X dL_isStep_925 (by decide) ?_
          refine z_goto (tgt := 930) X dL_isStep_926 (by decide) ?_
          refine z_lv (lv' := [(0, .ref (o 0)), (1, .ref (o9 0)), (4, .int v_3), (7, .int v_852)]) [6, 7, 5, 2] rfl ?_
          exact J_j_930 (1 : Int32) ao ap (by (with_reducible subst er_887 er_897); simp only [if_pos c_880, if_pos c_890, if_pos c_900, if_pos c_907])
        · refine z_iload X dL_isStep_910 1 rfl ?_
          refine z_sipush (v := (500 : Int32)) X dL_isStep_912 (by decide) ?_
          refine z_icmp_lt (tgt := 929) X dL_isStep_915 (by decide) (fun c_915 => ?_) (fun c_915 => ?_)
          · refine z_iconst (v := (0 : Int32)) X dL_isStep_929 (by decide) ?_
            refine z_lv (lv' := [(0, .ref (o 0)), (1, .ref (o9 0)), (4, .int v_3), (7, .int v_852)]) [6, 7, 5, 2] rfl ?_
            exact J_j_930 (0 : Int32) ao ap (by (with_reducible subst er_887 er_897); simp only [if_pos c_880, if_pos c_890, if_pos c_900, if_neg c_907, if_pos c_915])
          · refine z_iload X dL_isStep_918 1 rfl ?_
            refine z_iload X dL_isStep_920 0 rfl ?_
            refine z_icmp_gt (tgt := 929) X dL_isStep_922 (by decide) (fun c_922 => ?_) (fun c_922 => ?_)
            · refine z_iconst (v := (0 : Int32)) X dL_isStep_929 (by decide) ?_
              refine z_lv (lv' := [(0, .ref (o 0)), (1, .ref (o9 0)), (4, .int v_3), (7, .int v_852)]) [6, 7, 5, 2] rfl ?_
              exact J_j_930 (0 : Int32) ao ap (by (with_reducible subst er_887 er_897); simp only [if_pos c_880, if_pos c_890, if_pos c_900, if_neg c_907, if_neg c_915, if_pos c_922])
            · refine z_iconst (v := (1 : Int32)) X dL_isStep_925 (by decide) ?_
              refine z_goto (tgt := 930) X dL_isStep_926 (by decide) ?_
              refine z_lv (lv' := [(0, .ref (o 0)), (1, .ref (o9 0)), (4, .int v_3), (7, .int v_852)]) [6, 7, 5, 2] rfl ?_
              exact J_j_930 (1 : Int32) ao ap (by (with_reducible subst er_887 er_897); simp only [if_pos c_880, if_pos c_890, if_pos c_900, if_neg c_907, if_neg c_915, if_neg c_922])
