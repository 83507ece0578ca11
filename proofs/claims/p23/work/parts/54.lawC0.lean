set_option maxRecDepth 100000 in
set_option maxHeartbeats 4000000 in
theorem c_L_up (l : Launch) (D : va_G) (kI kC kQ : ClassId) (a1 : Int32) (a2 : Int32) (hn : ¬ a2 = 0) : CtI (U := Int32) l yL_up cL_up 2 (some .int) { frames := 0, cells := 0, slots := 0, locals := 0 } D (tysG kI kC kQ) [] [.int a1, .int a2] (fun u => u) (fun _ => []) (fun u => u = F_L_up a1 a2) := by
  refine met_Zi (own := "ShadowLatchesLaw") (by decide +kernel) rfl (Nat.le_of_ble_eq_true rfl) ?_
  intro p e s m args below meth c A Q X hQ
  show Z p l e { frames := 0, cells := 0, slots := 0, locals := 0 } s m args below meth c D A 2 0 0 Q [] [(0, .int a1), (1, .int a2)] 0 []
  refine z_iload_n X dL_up_0 0 rfl ?_
  refine z_ldc X dL_up_1 wd1_208 ?_
  refine z_iand X dL_up_3 ?_
  refine z_iload_n X dL_up_4 1 rfl ?_
  refine z_irem X dL_up_5 hn ?_
  exact z_iret X hQ rfl ((a1 &&& (2147483647 : Int32)) - (a1 &&& (2147483647 : Int32)) / a2 * a2) rfl rfl (by simp only [F_L_up]) dL_up_6
set_option maxRecDepth 100000 in
set_option maxHeartbeats 4000000 in
theorem c_L_isWell (l : Launch) (D : va_G) (kI kC kQ : ClassId) (o r : Nat → Nat) (ad : ADT) (S : SLS) (hO : OKS S) : CtI (U := Int32) l yL_isWell cL_isWell 8 (some .boolean) { frames := 4, cells := 0, slots := 0, locals := 88 } D (tysG kI kC kQ) (wS kI kC kQ o r ad S) [.ref (o 0)] (fun u => u) (fun _ => (wS kI kC kQ o r ad S)) (fun u => u = F_L_isWell S) := by
  refine met_Zi (own := "ShadowLatchesLaw") (by decide +kernel) rfl (Nat.le_of_ble_eq_true rfl) ?_
  intro p e s m args below meth c A Q X hQ
  show Z p l e { frames := 4, cells := 0, slots := 0, locals := 88 } s m args below meth c D A 8 0 0 Q (wS kI kC kQ o r ad S) [(0, .ref (o 0))] 0 []
  obtain ⟨P, hP1, hP2, hP⟩ := cnt12_bn hO
  obtain ⟨N, hN1, hN2, hN⟩ := cnt10_bn hO
  refine z_aload_n X dL_isWell_0 0 rfl ?_
  refine z_iconst (v := (4 : Int32)) X dL_isWell_1 (by decide) ?_
  refine z_callVi0 X (c_S_count l D kI kC kQ o r ad S (4 : Int32) hO) (gV wd1_185 wd1_186 wd1_187 wd1_1 wd1_188) k_S_count rfl rfl ⟨Nat.le_of_ble_eq_true rfl, Nat.le_of_ble_eq_true rfl⟩ ⟨Nat.zero_le _, Nat.zero_le _⟩ 2 0 wS_0 rfl rfl rfl rfl (Nat.le_of_ble_eq_true rfl) dL_isWell_2 (fun r_2 er_2 => ?_)
  refine z_aload_n X dL_isWell_5 0 rfl ?_
  refine z_bipush (v := (6 : Int32)) X dL_isWell_6 (by decide) ?_
  refine z_callVi0 X (c_S_count l D kI kC kQ o r ad S (6 : Int32) hO) (gV wd1_185 wd1_186 wd1_187 wd1_1 wd1_188) k_S_count rfl rfl ⟨Nat.le_of_ble_eq_true rfl, Nat.le_of_ble_eq_true rfl⟩ ⟨Nat.zero_le _, Nat.zero_le _⟩ 2 0 wS_0 rfl rfl rfl rfl (Nat.le_of_ble_eq_true rfl) dL_isWell_8 (fun r_8 er_8 => ?_)
  refine z_iadd X dL_isWell_11 ?_
  refine z_aload_n X dL_isWell_12 0 rfl ?_
  refine z_iconst (v := (3 : Int32)) X dL_isWell_13 (by decide) ?_
  refine z_callVi0 X (c_S_count l D kI kC kQ o r ad S (3 : Int32) hO) (gV wd1_185 wd1_186 wd1_187 wd1_1 wd1_188) k_S_count rfl rfl ⟨Nat.le_of_ble_eq_true rfl, Nat.le_of_ble_eq_true rfl⟩ ⟨Nat.zero_le _, Nat.zero_le _⟩ 2 0 wS_0 rfl rfl rfl rfl (Nat.le_of_ble_eq_true rfl) dL_isWell_14 (fun r_14 er_14 => ?_)
  have J_j_75 : ∀ (j_75 : Int32), j_75 = (if r_14 < (r_2 + r_8) then ((0 : Int32)) else (let r_22 : Int32 := (F_S_count S (5 : Int32)); let r_27 : Int32 := (F_S_count S (4 : Int32)); if r_27 < r_22 then ((0 : Int32)) else (let r_35 : Int32 := (F_S_count S (0 : Int32)); if r_35 < (500 : Int32) then ((0 : Int32)) else (let r_46 : Int32 := (F_S_count S (0 : Int32)); if (1200 : Int32) < r_46 then ((0 : Int32)) else (let r_58 : Int32 := (F_S_count S (11 : Int32)); let r_64 : Int32 := (F_S_count S (10 : Int32)); if r_64 ≤ r_58 then ((0 : Int32)) else ((1 : Int32))))))) → Z p l e { frames := 4, cells := 0, slots := 0, locals := 88 } s m args below meth c D A 8 0 0 Q (wS kI kC kQ o r ad S) [(0, .ref (o 0))] 75 [.int j_75] := by
    intro j_75 ej_75
    refine z_istore_n (lv' := [(1, .int j_75), (0, .ref (o 0))]) X dL_isWell_75 (Nat.le_of_ble_eq_true rfl) rfl ?_
    refine z_iconst (v := (0 : Int32)) X dL_isWell_76 (by decide) ?_
    refine z_istore_n (lv' := [(2, .int (0 : Int32)), (1, .int j_75), (0, .ref (o 0))]) X dL_isWell_77 (Nat.le_of_ble_eq_true rfl) rfl ?_
    refine z_lv (lv' := [(0, .ref (o 0)), (1, .int j_75), (2, .int (0 : Int32))]) [2, 1, 0] rfl ?_
    have Lp_78 : ∀ (n : Nat) (x1_78 : Int32) (x2_78 : Int32), (cu P n x2_78) → (x1_78 = 0 ∨ x1_78 = 1) → (∀ (q_78 : Int32), q_78 = L_L_isWell_78 S n x1_78 x2_78 → (q_78 = 0 ∨ q_78 = 1) → Z p l e { frames := 4, cells := 0, slots := 0, locals := 88 } s m args below meth c D A 8 0 0 Q (wS kI kC kQ o r ad S) [(1, .int q_78)] 320 []) → Z p l e { frames := 4, cells := 0, slots := 0, locals := 88 } s m args below meth c D A 8 0 0 Q (wS kI kC kQ o r ad S) [(0, .ref (o 0)), (1, .int x1_78), (2, .int x2_78)] 78 [] := by
      intro n
      induction n with
      | zero =>
        intro x1_78 x2_78 hi hb kk_78
        exfalso
        exact cu_0 hi
      | succ n ih_78 =>
        intro x1_78 x2_78 hi hb kk_78
        refine z_iload_n X dL_isWell_78 2 rfl ?_
        refine z_aload_n X dL_isWell_79 0 rfl ?_
        refine z_bipush (v := (12 : Int32)) X dL_isWell_80 (by decide) ?_
        refine z_callVi0 X (c_S_count l D kI kC kQ o r ad S (12 : Int32) hO) (gV wd1_185 wd1_186 wd1_187 wd1_1 wd1_188) k_S_count rfl rfl ⟨Nat.le_of_ble_eq_true rfl, Nat.le_of_ble_eq_true rfl⟩ ⟨Nat.zero_le _, Nat.zero_le _⟩ 2 0 wS_0 rfl rfl rfl rfl (Nat.le_of_ble_eq_true rfl) dL_isWell_82 (fun r_82 er_82 => ?_)
        refine z_icmp_ge (tgt := 320) X dL_isWell_85 (by decide) (fun c_85 => ?_) (fun c_85 => ?_)
        · refine z_lv (lv' := [(1, .int x1_78)]) [1] rfl ?_
          exact kk_78 x1_78 (by (with_reducible subst er_82); simp only [L_L_isWell_78, if_pos c_85]) hb
        · refine z_iload_n X dL_isWell_88 1 rfl ?_
          refine z_if_eq (tgt := 320) X dL_isWell_89 (by decide) (fun c_89 => ?_) (fun c_89 => ?_)
          · refine z_lv (lv' := [(1, .int x1_78)]) [1] rfl ?_
            exact kk_78 x1_78 (by (with_reducible subst er_82); simp only [L_L_isWell_78, if_neg c_85, if_pos c_89]) hb
          · refine z_aload_n X dL_isWell_92 0 rfl ?_
            refine z_iload_n X dL_isWell_93 2 rfl ?_
            refine z_iconst (v := (1 : Int32)) X dL_isWell_94 (by decide) ?_
            refine z_callVi0 X (c_S_path l D kI kC kQ o r ad S x2_78 (1 : Int32) hO) (gV wd1_217 wd1_218 wd1_219 wd1_1 wd1_220) k_S_path rfl rfl ⟨Nat.le_of_ble_eq_true rfl, Nat.le_of_ble_eq_true rfl⟩ ⟨Nat.zero_le _, Nat.zero_le _⟩ 2 0 wS_0 rfl rfl rfl rfl (Nat.le_of_ble_eq_true rfl) dL_isWell_95 (fun r_95 er_95 => ?_)
            refine z_istore_n (lv' := [(3, .int r_95), (0, .ref (o 0)), (1, .int x1_78), (2, .int x2_78)]) X dL_isWell_98 (Nat.le_of_ble_eq_true rfl) rfl ?_
            refine z_aload_n X dL_isWell_99 1 rfl ?_
            refine z_bipush (v := (17 : Int32)) X dL_isWell_100 (by decide) ?_
            refine z_callVi0 X (c_S_count l D kI kC kQ o r ad S (17 : Int32) hO) (gV wd1_185 wd1_186 wd1_187 wd1_1 wd1_188) k_S_count rfl rfl ⟨Nat.le_of_ble_eq_true rfl, Nat.le_of_ble_eq_true rfl⟩ ⟨Nat.zero_le _, Nat.zero_le _⟩ 2 0 wS_0 rfl rfl rfl rfl (Nat.le_of_ble_eq_true rfl) dL_isWell_102 (fun r_102 er_102 => ?_)
            refine z_istore (lv' := [(4, .int r_102), (3, .int r_95), (0, .ref (o 0)), (1, .int x1_78), (2, .int x2_78)]) X dL_isWell_105 (Nat.le_of_ble_eq_true rfl) rfl ?_
            refine z_iload_n X dL_isWell_107 1 rfl ?_
            refine z_iload X dL_isWell_108 0 rfl ?_
            have J_j_135 : ∀ (j_135 : Int32), j_135 = (if r_102 < r_95 then (let r_123 : Int32 := (F_S_count S (18 : Int32)); if (r_102 + r_123) < r_95 then ((2 : Int32)) else ((1 : Int32))) else ((0 : Int32))) → Z p l e { frames := 4, cells := 0, slots := 0, locals := 88 } s m args below meth c D A 8 0 0 Q (wS kI kC kQ o r ad S) [(0, .ref (o 0)), (2, .int x2_78), (3, .int r_95)] 135 [.int j_135] := by
              intro j_135 ej_135
              refine z_istore (lv' := [(5, .int j_135), (0, .ref (o 0)), (2, .int x2_78), (3, .int r_95)]) X dL_isWell_135 (Nat.le_of_ble_eq_true rfl) rfl ?_
              refine z_iconst (v := (0 : Int32)) X dL_isWell_137 (by decide) ?_
              refine z_istore (lv' := [(6, .int (0 : Int32)), (5, .int j_135), (0, .ref (o 0)), (2, .int x2_78), (3, .int r_95)]) X dL_isWell_138 (Nat.le_of_ble_eq_true rfl) rfl ?_
              refine z_iconst (v := (0 : Int32)) X dL_isWell_140 (by decide) ?_
              refine z_istore (lv' := [(7, .int (0 : Int32)), (6, .int (0 : Int32)), (5, .int j_135), (0, .ref (o 0)), (2, .int x2_78), (3, .int r_95)]) X dL_isWell_141 (Nat.le_of_ble_eq_true rfl) rfl ?_
              refine z_lv (lv' := [(0, .ref (o 0)), (2, .int x2_78), (3, .int r_95), (5, .int j_135), (6, .int (0 : Int32)), (7, .int (0 : Int32))]) [3, 4, 5, 2, 1, 0] rfl ?_
              have Lp_143 : ∀ (n : Nat) (x6_143 : Int32) (x7_143 : Int32), (cu N n x7_143) → (∀ (q_143 : Int32), q_143 = L_L_isWell_143 S x2_78 n x6_143 x7_143 → Z p l e { frames := 4, cells := 0, slots := 0, locals := 88 } s m args below meth c D A 8 0 0 Q (wS kI kC kQ o r ad S) [(0, .ref (o 0)), (2, .int x2_78), (3, .int r_95), (5, .int j_135), (6, .int q_143)] 175 []) → Z p l e { frames := 4, cells := 0, slots := 0, locals := 88 } s m args below meth c D A 8 0 0 Q (wS kI kC kQ o r ad S) [(0, .ref (o 0)), (2, .int x2_78), (3, .int r_95), (5, .int j_135), (6, .int x6_143), (7, .int x7_143)] 143 [] := by
                intro n
                induction n with
                | zero =>
                  intro x6_143 x7_143 hi kk_143
                  exfalso
                  exact cu_0 hi
                | succ n ih_143 =>
                  intro x6_143 x7_143 hi kk_143
                  refine z_iload X dL_isWell_143 5 rfl ?_
                  refine z_aload_n X dL_isWell_145 0 rfl ?_
                  refine z_bipush (v := (10 : Int32)) X dL_isWell_146 (by decide) ?_
                  refine z_callVi0 X (c_S_count l D kI kC kQ o r ad S (10 : Int32) hO) (gV wd1_185 wd1_186 wd1_187 wd1_1 wd1_188) k_S_count rfl rfl ⟨Nat.le_of_ble_eq_true rfl, Nat.le_of_ble_eq_true rfl⟩ ⟨Nat.zero_le _, Nat.zero_le _⟩ 2 0 wS_0 rfl rfl rfl rfl (Nat.le_of_ble_eq_true rfl) dL_isWell_148 (fun r_148 er_148 => ?_)
                  refine z_icmp_ge (tgt := 175) X dL_isWell_151 (by decide) (fun c_151 => ?_) (fun c_151 => ?_)
                  · refine z_lv (lv' := [(0, .ref (o 0)), (2, .int x2_78), (3, .int r_95), (5, .int j_135), (6, .int x6_143)]) [0, 1, 2, 3, 4] rfl ?_
                    exact kk_143 x6_143 (by (with_reducible subst er_148); simp only [L_L_isWell_143, if_pos c_151]) 
                  · refine z_iload X dL_isWell_154 4 rfl ?_
                    refine z_aload_n X dL_isWell_156 0 rfl ?_
                    refine z_iload X dL_isWell_157 5 rfl ?_
                    refine z_callVi0 X (c_S_workload l D kI kC kQ o r ad S x7_143 hO) (gV wd2_11 wd2_12 wd2_13 wd1_1 wd2_14) k_S_workload rfl rfl ⟨Nat.le_of_ble_eq_true rfl, Nat.le_of_ble_eq_true rfl⟩ ⟨Nat.zero_le _, Nat.zero_le _⟩ 2 0 wS_0 rfl rfl rfl rfl (Nat.le_of_ble_eq_true rfl) dL_isWell_159 (fun r_159 er_159 => ?_)
                    refine z_iload_n X dL_isWell_162 1 rfl ?_
                    refine z_ishr X dL_isWell_163 ?_
                    refine z_iconst (v := (1 : Int32)) X dL_isWell_164 (by decide) ?_
                    refine z_iand X dL_isWell_165 ?_
                    refine z_iadd X dL_isWell_166 ?_
                    refine z_topi (fun v_167 ev_167 => ?_)
                    refine z_istore (lv' := [(6, .int v_167), (0, .ref (o 0)), (2, .int x2_78), (3, .int r_95), (5, .int j_135), (7, .int x7_143)]) X dL_isWell_167 (Nat.le_of_ble_eq_true rfl) rfl ?_
                    obtain ⟨v_169, ev_169⟩ : ∃ y : Int32, y = x7_143 + (1 : Int32) := ⟨_, rfl⟩
                    refine z_iinc (v := v_169) (lv' := [(7, .int v_169), (6, .int v_167), (0, .ref (o 0)), (2, .int x2_78), (3, .int r_95), (5, .int j_135)]) X dL_isWell_169 5 rfl (by rw [ev_169]; rfl) (Nat.le_of_ble_eq_true rfl) rfl ?_
                    refine z_goto (tgt := 143) X dL_isWell_172 (by decide) ?_
                    refine z_lv (lv' := [(0, .ref (o 0)), (2, .int x2_78), (3, .int r_95), (5, .int j_135), (6, .int v_167), (7, .int v_169)]) [2, 3, 4, 5, 1, 0] rfl ?_
                    exact ih_143 v_167 v_169 (cu_b hi (by omega) (er_148.trans hN) c_151 ev_169) (fun q_143 eq_143 => kk_143 q_143 (eq_143.trans (by (with_reducible subst er_148 er_159 ev_167 ev_169); simp only [L_L_isWell_143, if_neg c_151])))
              refine Lp_143 17 (0 : Int32) (0 : Int32) (cu_i (by omega)) (fun q_143 eq_143 => ?_)
              refine z_iload_n X dL_isWell_175 2 rfl ?_
              refine z_aload_n X dL_isWell_176 0 rfl ?_
              refine z_iload_n X dL_isWell_177 1 rfl ?_
              refine z_aload_n X dL_isWell_178 0 rfl ?_
              refine z_iconst (v := (0 : Int32)) X dL_isWell_179 (by decide) ?_
              refine z_callVi0 X (c_S_count l D kI kC kQ o r ad S (0 : Int32) hO) (gV wd1_185 wd1_186 wd1_187 wd1_1 wd1_188) k_S_count rfl rfl ⟨Nat.le_of_ble_eq_true rfl, Nat.le_of_ble_eq_true rfl⟩ ⟨Nat.zero_le _, Nat.zero_le _⟩ 2 0 wS_0 rfl rfl rfl rfl (Nat.le_of_ble_eq_true rfl) dL_isWell_180 (fun r_180 er_180 => ?_)
              refine z_aload_n X dL_isWell_183 0 rfl ?_
              refine z_iconst (v := (1 : Int32)) X dL_isWell_184 (by decide) ?_
              refine z_callVi0 X (c_S_count l D kI kC kQ o r ad S (1 : Int32) hO) (gV wd1_185 wd1_186 wd1_187 wd1_1 wd1_188) k_S_count rfl rfl ⟨Nat.le_of_ble_eq_true rfl, Nat.le_of_ble_eq_true rfl⟩ ⟨Nat.zero_le _, Nat.zero_le _⟩ 2 0 wS_0 rfl rfl rfl rfl (Nat.le_of_ble_eq_true rfl) dL_isWell_185 (fun r_185 er_185 => ?_)
              refine z_callVi0 X (c_S_delay l D kI kC kQ o r ad S x2_78 r_180 r_185 hO) (gV wd2_117 wd2_118 wd2_119 wd1_1 wd2_120) k_S_delay rfl rfl ⟨Nat.le_of_ble_eq_true rfl, Nat.le_of_ble_eq_true rfl⟩ ⟨Nat.zero_le _, Nat.zero_le _⟩ 2 0 wS_0 rfl rfl rfl rfl (Nat.le_of_ble_eq_true rfl) dL_isWell_188 (fun r_188 er_188 => ?_)
              have J_j_313 : ∀ (j_313 : Int32), j_313 = (if r_95 = r_188 then (let r_197 : Int32 := (F_S_path S x2_78 (2 : Int32)); if r_197 = j_135 then (let r_208 : Int32 := (F_S_count S (13 : Int32)); let j_226 : Int32 := (if j_135 = (1 : Int32) then ((1 : Int32)) else ((0 : Int32))); if ((r_208 >>> (x2_78 &&& 31)) &&& (1 : Int32)) = j_226 then (let r_232 : Int32 := (F_S_count S (14 : Int32)); let j_250 : Int32 := (if j_135 = (2 : Int32) then ((1 : Int32)) else ((0 : Int32))); if ((r_232 >>> (x2_78 &&& 31)) &&& (1 : Int32)) = j_250 then (let r_256 : Int32 := (F_S_path S x2_78 (4 : Int32)); if r_256 = q_143 then (let r_266 : Int32 := (F_S_count S (0 : Int32)); if r_266 = (1200 : Int32) then (let r_296 : Int32 := (F_S_count S (0 : Int32)); let r_301 : Int32 := (F_S_delay S x2_78 r_296 (120 : Int32)); if r_301 < r_95 then ((0 : Int32)) else ((1 : Int32))) else (let r_282 : Int32 := (F_S_count S (1 : Int32)); let r_285 : Int32 := (F_S_delay S x2_78 (1200 : Int32) r_282); if r_95 < r_285 then ((0 : Int32)) else (let r_296 : Int32 := (F_S_count S (0 : Int32)); let r_301 : Int32 := (F_S_delay S x2_78 r_296 (120 : Int32)); if r_301 < r_95 then ((0 : Int32)) else ((1 : Int32))))) else ((0 : Int32))) else ((0 : Int32))) else ((0 : Int32))) else ((0 : Int32))) else ((0 : Int32))) → Z p l e { frames := 4, cells := 0, slots := 0, locals := 88 } s m args below meth c D A 8 0 0 Q (wS kI kC kQ o r ad S) [(0, .ref (o 0)), (2, .int x2_78)] 313 [.int j_313] := by
                intro j_313 ej_313
                refine z_istore_n (lv' := [(1, .int j_313), (0, .ref (o 0)), (2, .int x2_78)]) X dL_isWell_313 (Nat.le_of_ble_eq_true rfl) rfl ?_
                obtain ⟨v_314, ev_314⟩ : ∃ y : Int32, y = x2_78 + (1 : Int32) := ⟨_, rfl⟩
                refine z_iinc (v := v_314) (lv' := [(2, .int v_314), (1, .int j_313), (0, .ref (o 0))]) X dL_isWell_314 2 rfl (by rw [ev_314]; rfl) (Nat.le_of_ble_eq_true rfl) rfl ?_
                refine z_goto (tgt := 78) X dL_isWell_317 (by decide) ?_
                refine z_lv (lv' := [(0, .ref (o 0)), (1, .int j_313), (2, .int v_314)]) [2, 1, 0] rfl ?_
                exact ih_78 j_313 v_314 (cu_b hi (by omega) (er_82.trans hP) c_85 ev_314) (by rw [ej_313]; (try dsimp only); repeat' first | apply bl_ite | exact Or.inl rfl | exact Or.inr rfl) (fun q_78 eq_78 => kk_78 q_78 (eq_78.trans (by (with_reducible subst er_82 er_95 er_102 ej_135 eq_143 er_180 er_185 er_188 ej_313 ev_314); simp only [L_L_isWell_78, if_neg c_85, if_neg c_89])))
              refine z_icmp_ne (tgt := 312) X dL_isWell_191 (by decide) (fun c_191 => ?_) (fun c_191 => ?_)
              · refine z_iconst (v := (0 : Int32)) X dL_isWell_312 (by decide) ?_
                refine z_lv (lv' := [(0, .ref (o 0)), (2, .int x2_78)]) [0, 1] rfl ?_
                exact J_j_313 (0 : Int32) (by simp only [if_neg c_191])
              · refine z_aload_n X dL_isWell_194 0 rfl ?_
                refine z_iload_n X dL_isWell_195 1 rfl ?_
                refine z_iconst (v := (2 : Int32)) X dL_isWell_196 (by decide) ?_
                refine z_callVi0 X (c_S_path l D kI kC kQ o r ad S x2_78 (2 : Int32) hO) (gV wd1_217 wd1_218 wd1_219 wd1_1 wd1_220) k_S_path rfl rfl ⟨Nat.le_of_ble_eq_true rfl, Nat.le_of_ble_eq_true rfl⟩ ⟨Nat.zero_le _, Nat.zero_le _⟩ 2 0 wS_0 rfl rfl rfl rfl (Nat.le_of_ble_eq_true rfl) dL_isWell_197 (fun r_197 er_197 => ?_)
                refine z_iload X dL_isWell_200 3 rfl ?_
                refine z_icmp_ne (tgt := 312) X dL_isWell_202 (by decide) (fun c_202 => ?_) (fun c_202 => ?_)
                · refine z_iconst (v := (0 : Int32)) X dL_isWell_312 (by decide) ?_
                  refine z_lv (lv' := [(0, .ref (o 0)), (2, .int x2_78)]) [0, 1] rfl ?_
                  exact J_j_313 (0 : Int32) (by (with_reducible subst er_197); simp only [if_pos c_191, if_neg c_202])
                · refine z_aload_n X dL_isWell_205 0 rfl ?_
                  refine z_bipush (v := (13 : Int32)) X dL_isWell_206 (by decide) ?_
                  refine z_callVi0 X (c_S_count l D kI kC kQ o r ad S (13 : Int32) hO) (gV wd1_185 wd1_186 wd1_187 wd1_1 wd1_188) k_S_count rfl rfl ⟨Nat.le_of_ble_eq_true rfl, Nat.le_of_ble_eq_true rfl⟩ ⟨Nat.zero_le _, Nat.zero_le _⟩ 2 0 wS_0 rfl rfl rfl rfl (Nat.le_of_ble_eq_true rfl) dL_isWell_208 (fun r_208 er_208 => ?_)
                  refine z_iload_n X dL_isWell_211 1 rfl ?_
                  refine z_ishr X dL_isWell_212 ?_
                  refine z_iconst (v := (1 : Int32)) X dL_isWell_213 (by decide) ?_
                  refine z_iand X dL_isWell_214 ?_
                  refine z_iload X dL_isWell_215 3 rfl ?_
                  refine z_iconst (v := (1 : Int32)) X dL_isWell_217 (by decide) ?_
                  have J_j_226 : ∀ (j_226 : Int32), j_226 = (if j_135 = (1 : Int32) then ((1 : Int32)) else ((0 : Int32))) → Z p l e { frames := 4, cells := 0, slots := 0, locals := 88 } s m args below meth c D A 8 0 0 Q (wS kI kC kQ o r ad S) [(0, .ref (o 0)), (2, .int x2_78), (3, .int r_95), (5, .int j_135), (6, .int q_143)] 226 [.int j_226, .int ((r_208 >>> (x2_78 &&& 31)) &&& (1 : Int32))] := by
                    intro j_226 ej_226
                    refine z_icmp_ne (tgt := 312) X dL_isWell_226 (by decide) (fun c_226 => ?_) (fun c_226 => ?_)
                    · refine z_iconst (v := (0 : Int32)) X dL_isWell_312 (by decide) ?_
                      refine z_lv (lv' := [(0, .ref (o 0)), (2, .int x2_78)]) [0, 1] rfl ?_
                      exact J_j_313 (0 : Int32) (by (with_reducible subst er_197 er_208 ej_226); simp only [if_pos c_191, if_pos c_202, if_neg c_226])
                    · refine z_aload_n X dL_isWell_229 0 rfl ?_
                      refine z_bipush (v := (14 : Int32)) X dL_isWell_230 (by decide) ?_
                      refine z_callVi0 X (c_S_count l D kI kC kQ o r ad S (14 : Int32) hO) (gV wd1_185 wd1_186 wd1_187 wd1_1 wd1_188) k_S_count rfl rfl ⟨Nat.le_of_ble_eq_true rfl, Nat.le_of_ble_eq_true rfl⟩ ⟨Nat.zero_le _, Nat.zero_le _⟩ 2 0 wS_0 rfl rfl rfl rfl (Nat.le_of_ble_eq_true rfl) dL_isWell_232 (fun r_232 er_232 => ?_)
                      refine z_iload_n X dL_isWell_235 1 rfl ?_
                      refine z_ishr X dL_isWell_236 ?_
                      refine z_iconst (v := (1 : Int32)) X dL_isWell_237 (by decide) ?_
                      refine z_iand X dL_isWell_238 ?_
                      refine z_iload X dL_isWell_239 3 rfl ?_
                      refine z_iconst (v := (2 : Int32)) X dL_isWell_241 (by decide) ?_
                      have J_j_250 : ∀ (j_250 : Int32), j_250 = (if j_135 = (2 : Int32) then ((1 : Int32)) else ((0 : Int32))) → Z p l e { frames := 4, cells := 0, slots := 0, locals := 88 } s m args below meth c D A 8 0 0 Q (wS kI kC kQ o r ad S) [(0, .ref (o 0)), (2, .int x2_78), (3, .int r_95), (6, .int q_143)] 250 [.int j_250, .int ((r_232 >>> (x2_78 &&& 31)) &&& (1 : Int32))] := by
                        intro j_250 ej_250
                        refine z_icmp_ne (tgt := 312) X dL_isWell_250 (by decide) (fun c_250 => ?_) (fun c_250 => ?_)
                        · refine z_iconst (v := (0 : Int32)) X dL_isWell_312 (by decide) ?_
                          refine z_lv (lv' := [(0, .ref (o 0)), (2, .int x2_78)]) [0, 1] rfl ?_
                          exact J_j_313 (0 : Int32) (by (with_reducible subst er_197 er_208 ej_226 er_232 ej_250); simp only [if_pos c_191, if_pos c_202, if_pos c_226, if_neg c_250])
                        · refine z_aload_n X dL_isWell_253 0 rfl ?_
                          refine z_iload_n X dL_isWell_254 1 rfl ?_
                          refine z_iconst (v := (4 : Int32)) X dL_isWell_255 (by decide) ?_
                          refine z_callVi0 X (c_S_path l D kI kC kQ o r ad S x2_78 (4 : Int32) hO) (gV wd1_217 wd1_218 wd1_219 wd1_1 wd1_220) k_S_path rfl rfl ⟨Nat.le_of_ble_eq_true rfl, Nat.le_of_ble_eq_true rfl⟩ ⟨Nat.zero_le _, Nat.zero_le _⟩ 2 0 wS_0 rfl rfl rfl rfl (Nat.le_of_ble_eq_true rfl) dL_isWell_256 (fun r_256 er_256 => ?_)
                          refine z_iload X dL_isWell_259 3 rfl ?_
                          refine z_icmp_ne (tgt := 312) X dL_isWell_261 (by decide) (fun c_261 => ?_) (fun c_261 => ?_)
                          · refine z_iconst (v := (0 : Int32)) X dL_isWell_312 (by decide) ?_
                            refine z_lv (lv' := [(0, .ref (o 0)), (2, .int x2_78)]) [0, 1] rfl ?_
                            exact J_j_313 (0 : Int32) (by (with_reducible subst er_197 er_208 ej_226 er_232 ej_250 er_256); simp only [if_pos c_191, if_pos c_202, if_pos c_226, if_pos c_250, if_neg c_261])
                          · refine z_aload_n X dL_isWell_264 0 rfl ?_
                            refine z_iconst (v := (0 : Int32)) X dL_isWell_265 (by decide) ?_
                            refine z_callVi0 X (c_S_count l D kI kC kQ o r ad S (0 : Int32) hO) (gV wd1_185 wd1_186 wd1_187 wd1_1 wd1_188) k_S_count rfl rfl ⟨Nat.le_of_ble_eq_true rfl, Nat.le_of_ble_eq_true rfl⟩ ⟨Nat.zero_le _, Nat.zero_le _⟩ 2 0 wS_0 rfl rfl rfl rfl (Nat.le_of_ble_eq_true rfl) dL_isWell_266 (fun r_266 er_266 => ?_)
                            refine z_sipush (v := (1200 : Int32)) X dL_isWell_269 (by decide) ?_
                            refine z_icmp_eq (tgt := 292) X dL_isWell_272 (by decide) (fun c_272 => ?_) (fun c_272 => ?_)
                            · refine z_aload_n X dL_isWell_292 0 rfl ?_
                              refine z_iload_n X dL_isWell_293 1 rfl ?_
                              refine z_aload_n X dL_isWell_294 0 rfl ?_
                              refine z_iconst (v := (0 : Int32)) X dL_isWell_295 (by decide) ?_
                              refine z_callVi0 X (c_S_count l D kI kC kQ o r ad S (0 : Int32) hO) (gV wd1_185 wd1_186 wd1_187 wd1_1 wd1_188) k_S_count rfl rfl ⟨Nat.le_of_ble_eq_true rfl, Nat.le_of_ble_eq_true rfl⟩ ⟨Nat.zero_le _, Nat.zero_le _⟩ 2 0 wS_0 rfl rfl rfl rfl (Nat.le_of_ble_eq_true rfl) dL_isWell_296 (fun r_296 er_296 => ?_)
                              refine z_bipush (v := (120 : Int32)) X dL_isWell_299 (by decide) ?_
                              refine z_callVi0 X (c_S_delay l D kI kC kQ o r ad S x2_78 r_296 (120 : Int32) hO) (gV wd2_117 wd2_118 wd2_119 wd1_1 wd2_120) k_S_delay rfl rfl ⟨Nat.le_of_ble_eq_true rfl, Nat.le_of_ble_eq_true rfl⟩ ⟨Nat.zero_le _, Nat.zero_le _⟩ 2 0 wS_0 rfl rfl rfl rfl (Nat.le_of_ble_eq_true rfl) dL_isWell_301 (fun r_301 er_301 => ?_)
                              refine z_iload_n X dL_isWell_304 2 rfl ?_
                              refine z_icmp_lt (tgt := 312) X dL_isWell_305 (by decide) (fun c_305 => ?_) (fun c_305 => ?_)
                              · refine z_iconst (v := (0 : Int32)) X dL_isWell_312 (by decide) ?_
                                refine z_lv (lv' := [(0, .ref (o 0)), (2, .int x2_78)]) [0, 1] rfl ?_
                                exact J_j_313 (0 : Int32) (by (with_reducible subst er_197 er_208 ej_226 er_232 ej_250 er_256 er_266 er_296 er_301); simp only [if_pos c_191, if_pos c_202, if_pos c_226, if_pos c_250, if_pos c_261, if_pos c_272, if_pos c_305])
                              · refine z_iconst (v := (1 : Int32)) X dL_isWell_308 (by decide) ?_
                                refine z_goto (tgt := 313) X dL_isWell_309 (by decide) ?_
                                refine z_lv (lv' := [(0, .ref (o 0)), (2, .int x2_78)]) [0, 1] rfl ?_
                                exact J_j_313 (1 : Int32) (by (with_reducible subst er_197 er_208 ej_226 er_232 ej_250 er_256 er_266 er_296 er_301); simp only [if_pos c_191, if_pos c_202, if_pos c_226, if_pos c_250, if_pos c_261, if_pos c_272, if_neg c_305])
                            · refine z_aload_n X dL_isWell_275 0 rfl ?_
                              refine z_iload_n X dL_isWell_276 1 rfl ?_
                              refine z_sipush (v := (1200 : Int32)) X dL_isWell_277 (by decide) ?_
                              refine z_aload_n X dL_isWell_280 0 rfl ?_
                              refine z_iconst (v := (1 : Int32)) X dL_isWell_281 (by decide) ?_
                              refine z_callVi0 X (c_S_count l D kI kC kQ o r ad S (1 : Int32) hO) (gV wd1_185 wd1_186 wd1_187 wd1_1 wd1_188) k_S_count rfl rfl ⟨Nat.le_of_ble_eq_true rfl, Nat.le_of_ble_eq_true rfl⟩ ⟨Nat.zero_le _, Nat.zero_le _⟩ 2 0 wS_0 rfl rfl rfl rfl (Nat.le_of_ble_eq_true rfl) dL_isWell_282 (fun r_282 er_282 => ?_)
                              refine z_callVi0 X (c_S_delay l D kI kC kQ o r ad S x2_78 (1200 : Int32) r_282 hO) (gV wd2_117 wd2_118 wd2_119 wd1_1 wd2_120) k_S_delay rfl rfl ⟨Nat.le_of_ble_eq_true rfl, Nat.le_of_ble_eq_true rfl⟩ ⟨Nat.zero_le _, Nat.zero_le _⟩ 2 0 wS_0 rfl rfl rfl rfl (Nat.le_of_ble_eq_true rfl) dL_isWell_285 (fun r_285 er_285 => ?_)
                              refine z_iload_n X dL_isWell_288 2 rfl ?_
                              refine z_icmp_gt (tgt := 312) X dL_isWell_289 (by decide) (fun c_289 => ?_) (fun c_289 => ?_)
                              · refine z_iconst (v := (0 : Int32)) X dL_isWell_312 (by decide) ?_
                                refine z_lv (lv' := [(0, .ref (o 0)), (2, .int x2_78)]) [0, 1] rfl ?_
                                exact J_j_313 (0 : Int32) (by (with_reducible subst er_197 er_208 ej_226 er_232 ej_250 er_256 er_266 er_282 er_285); simp only [if_pos c_191, if_pos c_202, if_pos c_226, if_pos c_250, if_pos c_261, if_neg c_272, if_pos c_289])
                              · refine z_aload_n X dL_isWell_292 0 rfl ?_
                                refine z_iload_n X dL_isWell_293 1 rfl ?_
                                refine z_aload_n X dL_isWell_294 0 rfl ?_
                                refine z_iconst (v := (0 : Int32)) X dL_isWell_295 (by decide) ?_
                                refine z_callVi0 X (c_S_count l D kI kC kQ o r ad S (0 : Int32) hO) (gV wd1_185 wd1_186 wd1_187 wd1_1 wd1_188) k_S_count rfl rfl ⟨Nat.le_of_ble_eq_true rfl, Nat.le_of_ble_eq_true rfl⟩ ⟨Nat.zero_le _, Nat.zero_le _⟩ 2 0 wS_0 rfl rfl rfl rfl (Nat.le_of_ble_eq_true rfl) dL_isWell_296 (fun r_296 er_296 => ?_)
                                refine z_bipush (v := (120 : Int32)) X dL_isWell_299 (by decide) ?_
                                refine z_callVi0 X (c_S_delay l D kI kC kQ o r ad S x2_78 r_296 (120 : Int32) hO) (gV wd2_117 wd2_118 wd2_119 wd1_1 wd2_120) k_S_delay rfl rfl ⟨Nat.le_of_ble_eq_true rfl, Nat.le_of_ble_eq_true rfl⟩ ⟨Nat.zero_le _, Nat.zero_le _⟩ 2 0 wS_0 rfl rfl rfl rfl (Nat.le_of_ble_eq_true rfl) dL_isWell_301 (fun r_301 er_301 => ?_)
                                refine z_iload_n X dL_isWell_304 2 rfl ?_
                                refine z_icmp_lt (tgt := 312) X dL_isWell_305 (by decide) (fun c_305 => ?_) (fun c_305 => ?_)
                                · refine z_iconst (v := (0 : Int32)) X dL_isWell_312 (by decide) ?_
                                  refine z_lv (lv' := [(0, .ref (o 0)), (2, .int x2_78)]) [0, 1] rfl ?_
                                  exact J_j_313 (0 : Int32) (by (with_reducible subst er_197 er_208 ej_226 er_232 ej_250 er_256 er_266 er_282 er_285 er_296 er_301); simp only [if_pos c_191, if_pos c_202, if_pos c_226, if_pos c_250, if_pos c_261, if_neg c_272, if_neg c_289, if_pos c_305])
                                · refine z_iconst (v := (1 : Int32)) X dL_isWell_308 (by decide) ?_
                                  refine z_goto (tgt := 313) X dL_isWell_309 (by decide) ?_
                                  refine z_lv (lv' := [(0, .ref (o 0)), (2, .int x2_78)]) [0, 1] rfl ?_
                                  exact J_j_313 (1 : Int32) (by (with_reducible subst er_197 er_208 ej_226 er_232 ej_250 er_256 er_266 er_282 er_285 er_296 er_301); simp only [if_pos c_191, if_pos c_202, if_pos c_226, if_pos c_250, if_pos c_261, if_neg c_272, if_neg c_289, if_neg c_305])
                      refine z_icmp_ne (tgt := 249) X dL_isWell_242 (by decide) (fun c_242 => ?_) (fun c_242 => ?_)
                      · refine z_iconst (v := (0 : Int32)) X dL_isWell_249 (by decide) ?_
                        refine z_lv (lv' := [(0, .ref (o 0)), (2, .int x2_78), (3, .int r_95), (6, .int q_143)]) [0, 1, 2, 4] rfl ?_
                        exact J_j_250 (0 : Int32) (by simp only [if_neg c_242])
                      · refine z_iconst (v := (1 : Int32)) X dL_isWell_245 (by decide) ?_
                        refine z_goto (tgt := 250) X dL_isWell_246 (by decide) ?_
                        refine z_lv (lv' := [(0, .ref (o 0)), (2, .int x2_78), (3, .int r_95), (6, .int q_143)]) [0, 1, 2, 4] rfl ?_
                        exact J_j_250 (1 : Int32) (by simp only [if_pos c_242])
                  refine z_icmp_ne (tgt := 225) X dL_isWell_218 (by decide) (fun c_218 => ?_) (fun c_218 => ?_)
                  · refine z_iconst (v := (0 : Int32)) X dL_isWell_225 (by decide) ?_
                    exact J_j_226 (0 : Int32) (by simp only [if_neg c_218])
                  · refine z_iconst (v := (1 : Int32)) X dL_isWell_221 (by decide) ?_
                    refine z_goto (tgt := 226) X dL_isWell_222 (by decide) ?_
                    exact J_j_226 (1 : Int32) (by simp only [if_pos c_218])
            refine z_icmp_gt (tgt := 117) X dL_isWell_110 (by decide) (fun c_110 => ?_) (fun c_110 => ?_)
            · refine z_iload_n X dL_isWell_117 1 rfl ?_
              refine z_iload X dL_isWell_118 0 rfl ?_
              refine z_aload_n X dL_isWell_120 2 rfl ?_
              refine z_bipush (v := (18 : Int32)) X dL_isWell_121 (by decide) ?_
              refine z_callVi0 X (c_S_count l D kI kC kQ o r ad S (18 : Int32) hO) (gV wd1_185 wd1_186 wd1_187 wd1_1 wd1_188) k_S_count rfl rfl ⟨Nat.le_of_ble_eq_true rfl, Nat.le_of_ble_eq_true rfl⟩ ⟨Nat.zero_le _, Nat.zero_le _⟩ 2 0 wS_0 rfl rfl rfl rfl (Nat.le_of_ble_eq_true rfl) dL_isWell_123 (fun r_123 er_123 => ?_)
              refine z_iadd X dL_isWell_126 ?_
              refine z_icmp_gt (tgt := 134) X dL_isWell_127 (by decide) (fun c_127 => ?_) (fun c_127 => ?_)
              · refine z_iconst (v := (2 : Int32)) X dL_isWell_134 (by decide) ?_
                refine z_lv (lv' := [(0, .ref (o 0)), (2, .int x2_78), (3, .int r_95)]) [2, 4, 1] rfl ?_
                exact J_j_135 (2 : Int32) (by (with_reducible subst er_123); simp only [if_pos c_110, if_pos c_127])
              · refine z_iconst (v := (1 : Int32)) X dL_isWell_130 (by decide) ?_
                refine z_goto (tgt := 135) X dL_isWell_131 (by decide) ?_
                refine z_lv (lv' := [(0, .ref (o 0)), (2, .int x2_78), (3, .int r_95)]) [2, 4, 1] rfl ?_
                exact J_j_135 (1 : Int32) (by (with_reducible subst er_123); simp only [if_pos c_110, if_neg c_127])
            · refine z_iconst (v := (0 : Int32)) X dL_isWell_113 (by decide) ?_
              refine z_goto (tgt := 135) X dL_isWell_114 (by decide) ?_
              refine z_lv (lv' := [(0, .ref (o 0)), (2, .int x2_78), (3, .int r_95)]) [2, 4, 1] rfl ?_
              exact J_j_135 (0 : Int32) (by simp only [if_neg c_110])
    refine Lp_78 9 j_75 (0 : Int32) (cu_i (by omega)) (by rw [ej_75]; (try dsimp only); repeat' first | apply bl_ite | exact Or.inl rfl | exact Or.inr rfl) (fun q_78 eq_78 ho => ?_)
    refine z_iload_n X dL_isWell_320 0 rfl ?_
    exact z_zret X hQ rfl q_78 rfl rfl (by (with_reducible subst er_2 er_8 er_14 ej_75 eq_78); simp only [F_L_isWell]) (nb ho) dL_isWell_321
  refine z_icmp_gt (tgt := 74) X dL_isWell_17 (by decide) (fun c_17 => ?_) (fun c_17 => ?_)
  · refine z_iconst (v := (0 : Int32)) X dL_isWell_74 (by decide) ?_
    exact J_j_75 (0 : Int32) (by simp only [if_pos c_17])
  · refine z_aload_n X dL_isWell_20 0 rfl ?_
    refine z_iconst (v := (5 : Int32)) X dL_isWell_21 (by decide) ?_
    refine z_callVi0 X (c_S_count l D kI kC kQ o r ad S (5 : Int32) hO) (gV wd1_185 wd1_186 wd1_187 wd1_1 wd1_188) k_S_count rfl rfl ⟨Nat.le_of_ble_eq_true rfl, Nat.le_of_ble_eq_true rfl⟩ ⟨Nat.zero_le _, Nat.zero_le _⟩ 2 0 wS_0 rfl rfl rfl rfl (Nat.le_of_ble_eq_true rfl) dL_isWell_22 (fun r_22 er_22 => ?_)
    refine z_aload_n X dL_isWell_25 0 rfl ?_
    refine z_iconst (v := (4 : Int32)) X dL_isWell_26 (by decide) ?_
    refine z_callVi0 X (c_S_count l D kI kC kQ o r ad S (4 : Int32) hO) (gV wd1_185 wd1_186 wd1_187 wd1_1 wd1_188) k_S_count rfl rfl ⟨Nat.le_of_ble_eq_true rfl, Nat.le_of_ble_eq_true rfl⟩ ⟨Nat.zero_le _, Nat.zero_le _⟩ 2 0 wS_0 rfl rfl rfl rfl (Nat.le_of_ble_eq_true rfl) dL_isWell_27 (fun r_27 er_27 => ?_)
    refine z_icmp_gt (tgt := 74) X dL_isWell_30 (by decide) (fun c_30 => ?_) (fun c_30 => ?_)
    · refine z_iconst (v := (0 : Int32)) X dL_isWell_74 (by decide) ?_
      exact J_j_75 (0 : Int32) (by (with_reducible subst er_22 er_27); simp only [if_neg c_17, if_pos c_30])
    · refine z_aload_n X dL_isWell_33 0 rfl ?_
      refine z_iconst (v := (0 : Int32)) X dL_isWell_34 (by decide) ?_
      refine z_callVi0 X (c_S_count l D kI kC kQ o r ad S (0 : Int32) hO) (gV wd1_185 wd1_186 wd1_187 wd1_1 wd1_188) k_S_count rfl rfl ⟨Nat.le_of_ble_eq_true rfl, Nat.le_of_ble_eq_true rfl⟩ ⟨Nat.zero_le _, Nat.zero_le _⟩ 2 0 wS_0 rfl rfl rfl rfl (Nat.le_of_ble_eq_true rfl) dL_isWell_35 (fun r_35 er_35 => ?_)
      refine z_sipush (v := (500 : Int32)) X dL_isWell_38 (by decide) ?_
      refine z_icmp_lt (tgt := 74) X dL_isWell_41 (by decide) (fun c_41 => ?_) (fun c_41 => ?_)
      · refine z_iconst (v := (0 : Int32)) X dL_isWell_74 (by decide) ?_
        exact J_j_75 (0 : Int32) (by (with_reducible subst er_22 er_27 er_35); simp only [if_neg c_17, if_neg c_30, if_pos c_41])
      · refine z_aload_n X dL_isWell_44 0 rfl ?_
        refine z_iconst (v := (0 : Int32)) X dL_isWell_45 (by decide) ?_
        refine z_callVi0 X (c_S_count l D kI kC kQ o r ad S (0 : Int32) hO) (gV wd1_185 wd1_186 wd1_187 wd1_1 wd1_188) k_S_count rfl rfl ⟨Nat.le_of_ble_eq_true rfl, Nat.le_of_ble_eq_true rfl⟩ ⟨Nat.zero_le _, Nat.zero_le _⟩ 2 0 wS_0 rfl rfl rfl rfl (Nat.le_of_ble_eq_true rfl) dL_isWell_46 (fun r_46 er_46 => ?_)
        refine z_sipush (v := (1200 : Int32)) X dL_isWell_49 (by decide) ?_
        refine z_icmp_gt (tgt := 74) X dL_isWell_52 (by decide) (fun c_52 => ?_) (fun c_52 => ?_)
        · refine z_iconst (v := (0 : Int32)) X dL_isWell_74 (by decide) ?_
          exact J_j_75 (0 : Int32) (by (with_reducible subst er_22 er_27 er_35 er_46); simp only [if_neg c_17, if_neg c_30, if_neg c_41, if_pos c_52])
        · refine z_aload_n X dL_isWell_55 0 rfl ?_
          refine z_bipush (v := (11 : Int32)) X dL_isWell_56 (by decide) ?_
          refine z_callVi0 X (c_S_count l D kI kC kQ o r ad S (11 : Int32) hO) (gV wd1_185 wd1_186 wd1_187 wd1_1 wd1_188) k_S_count rfl rfl ⟨Nat.le_of_ble_eq_true rfl, Nat.le_of_ble_eq_true rfl⟩ ⟨Nat.zero_le _, Nat.zero_le _⟩ 2 0 wS_0 rfl rfl rfl rfl (Nat.le_of_ble_eq_true rfl) dL_isWell_58 (fun r_58 er_58 => ?_)
          refine z_aload_n X dL_isWell_61 0 rfl ?_
          refine z_bipush (v := (10 : Int32)) X dL_isWell_62 (by decide) ?_
          refine z_callVi0 X (c_S_count l D kI kC kQ o r ad S (10 : Int32) hO) (gV wd1_185 wd1_186 wd1_187 wd1_1 wd1_188) k_S_count rfl rfl ⟨Nat.le_of_ble_eq_true rfl, Nat.le_of_ble_eq_true rfl⟩ ⟨Nat.zero_le _, Nat.zero_le _⟩ 2 0 wS_0 rfl rfl rfl rfl (Nat.le_of_ble_eq_true rfl) dL_isWell_64 (fun r_64 er_64 => ?_)
          refine z_icmp_ge (tgt := 74) X dL_isWell_67 (by decide) (fun c_67 => ?_) (fun c_67 => ?_)
          · refine z_iconst (v := (0 : Int32)) X dL_isWell_74 (by decide) ?_
            exact J_j_75 (0 : Int32) (by (with_reducible subst er_22 er_27 er_35 er_46 er_58 er_64); simp only [if_neg c_17, if_neg c_30, if_neg c_41, if_neg c_52, if_pos c_67])
          · refine z_iconst (v := (1 : Int32)) X dL_isWell_70 (by decide) ?_
            refine z_goto (tgt := 75) X dL_isWell_71 (by decide) ?_
            exact J_j_75 (1 : Int32) (by (with_reducible subst er_22 er_27 er_35 er_46 er_58 er_64); simp only [if_neg c_17, if_neg c_30, if_neg c_41, if_neg c_52, if_neg c_67])
