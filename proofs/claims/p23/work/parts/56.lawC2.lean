set_option maxRecDepth 100000 in
set_option maxHeartbeats 4000000 in
theorem c_L_isCycle (l : Launch) (D : va_G) (kI kC kQ : ClassId) (o r : Nat → Nat) (ad : ADT) (S : SLS) (hR : ROK S) : CtI (U := (Int32 × SLS) × ADT) l yL_isCycle cL_isCycle 27 (some .boolean) { frames := 6, cells := 0, slots := 0, locals := 129 } D (tysG kI kC kQ) (wS kI kC kQ o r ad S) [.ref (o 0)] (fun u => u.1.1) (fun u => wS kI kC kQ o r u.2 u.1.2) (fun u => u.1 = F_L_isCycle S) := by
  refine met_Zi (own := "ShadowLatchesLaw") (by decide +kernel) rfl (Nat.le_of_ble_eq_true rfl) ?_
  intro p e s m args below meth c A Q X hQ
  show Z p l e { frames := 6, cells := 0, slots := 0, locals := 129 } s m args below meth c D A 27 0 0 Q (wS kI kC kQ o r ad S) [(0, .ref (o 0))] 0 []
  have hO := hR.ok
  obtain ⟨P, hP1, hP2, hP⟩ := cnt12_bn hO
  refine z_aload_n X dL_isCycle_0 0 rfl ?_
  refine z_bipush (v := (11 : Int32)) X dL_isCycle_1 (by decide) ?_
  refine z_callVi0 X (c_S_count l D kI kC kQ o r ad S (11 : Int32) hO) (gV wd1_185 wd1_186 wd1_187 wd1_1 wd1_188) k_S_count rfl rfl ⟨Nat.le_of_ble_eq_true rfl, Nat.le_of_ble_eq_true rfl⟩ ⟨Nat.zero_le _, Nat.zero_le _⟩ 2 0 wS_0 rfl rfl rfl rfl (Nat.le_of_ble_eq_true rfl) dL_isCycle_3 (fun r_3 er_3 => ?_)
  refine z_istore_n (lv' := [(1, .int r_3), (0, .ref (o 0))]) X dL_isCycle_6 (Nat.le_of_ble_eq_true rfl) rfl ?_
  refine z_aload_n X dL_isCycle_7 1 rfl ?_
  refine z_iload_n X dL_isCycle_8 0 rfl ?_
  refine z_callVi0 X (c_S_workload l D kI kC kQ o r ad S r_3 hO) (gV wd2_11 wd2_12 wd2_13 wd1_1 wd2_14) k_S_workload rfl rfl ⟨Nat.le_of_ble_eq_true rfl, Nat.le_of_ble_eq_true rfl⟩ ⟨Nat.zero_le _, Nat.zero_le _⟩ 2 0 wS_0 rfl rfl rfl rfl (Nat.le_of_ble_eq_true rfl) dL_isCycle_9 (fun r_9 er_9 => ?_)
  refine z_istore_n (lv' := [(2, .int r_9), (1, .int r_3), (0, .ref (o 0))]) X dL_isCycle_12 (Nat.le_of_ble_eq_true rfl) rfl ?_
  refine z_iconst (v := (0 : Int32)) X dL_isCycle_13 (by decide) ?_
  refine z_istore_n (lv' := [(3, .int (0 : Int32)), (2, .int r_9), (1, .int r_3), (0, .ref (o 0))]) X dL_isCycle_14 (Nat.le_of_ble_eq_true rfl) rfl ?_
  refine z_iconst (v := (0 : Int32)) X dL_isCycle_15 (by decide) ?_
  refine z_istore (lv' := [(4, .int (0 : Int32)), (3, .int (0 : Int32)), (2, .int r_9), (1, .int r_3), (0, .ref (o 0))]) X dL_isCycle_16 (Nat.le_of_ble_eq_true rfl) rfl ?_
  refine z_iconst (v := (0 : Int32)) X dL_isCycle_18 (by decide) ?_
  refine z_istore (lv' := [(5, .int (0 : Int32)), (4, .int (0 : Int32)), (3, .int (0 : Int32)), (2, .int r_9), (1, .int r_3), (0, .ref (o 0))]) X dL_isCycle_19 (Nat.le_of_ble_eq_true rfl) rfl ?_
  refine z_lv (lv' := [(0, .ref (o 0)), (1, .int r_3), (2, .int r_9), (3, .int (0 : Int32)), (4, .int (0 : Int32)), (5, .int (0 : Int32))]) [5, 4, 3, 2, 1, 0] rfl ?_
  have Lp_21 : ∀ (n : Nat) (x3_21 : Int32) (x4_21 : Int32) (x5_21 : Int32), (cu P n x5_21) → (∀ (q_21 : Int32 × Int32), q_21 = L_L_isCycle_21 S r_9 n x3_21 x4_21 x5_21 → Z p l e { frames := 6, cells := 0, slots := 0, locals := 129 } s m args below meth c D A 27 0 0 Q (wS kI kC kQ o r ad S) [(0, .ref (o 0)), (1, .int r_3), (2, .int r_9), (3, .int q_21.1), (4, .int q_21.2)] 82 []) → Z p l e { frames := 6, cells := 0, slots := 0, locals := 129 } s m args below meth c D A 27 0 0 Q (wS kI kC kQ o r ad S) [(0, .ref (o 0)), (1, .int r_3), (2, .int r_9), (3, .int x3_21), (4, .int x4_21), (5, .int x5_21)] 21 [] := by
    intro n
    induction n with
    | zero =>
      intro x3_21 x4_21 x5_21 hi kk_21
      exfalso
      exact cu_0 hi
    | succ n ih_21 =>
      intro x3_21 x4_21 x5_21 hi kk_21
      refine z_iload X dL_isCycle_21 5 rfl ?_
      refine z_aload_n X dL_isCycle_23 0 rfl ?_
      refine z_bipush (v := (12 : Int32)) X dL_isCycle_24 (by decide) ?_
      refine z_callVi0 X (c_S_count l D kI kC kQ o r ad S (12 : Int32) hO) (gV wd1_185 wd1_186 wd1_187 wd1_1 wd1_188) k_S_count rfl rfl ⟨Nat.le_of_ble_eq_true rfl, Nat.le_of_ble_eq_true rfl⟩ ⟨Nat.zero_le _, Nat.zero_le _⟩ 2 0 wS_0 rfl rfl rfl rfl (Nat.le_of_ble_eq_true rfl) dL_isCycle_26 (fun r_26 er_26 => ?_)
      refine z_icmp_ge (tgt := 82) X dL_isCycle_29 (by decide) (fun c_29 => ?_) (fun c_29 => ?_)
      · refine z_lv (lv' := [(0, .ref (o 0)), (1, .int r_3), (2, .int r_9), (3, .int x3_21), (4, .int x4_21)]) [0, 1, 2, 3, 4] rfl ?_
        exact kk_21 (x3_21, x4_21) (by (with_reducible subst er_26); simp only [L_L_isCycle_21, if_pos c_29]) 
      · refine z_iload_n X dL_isCycle_32 2 rfl ?_
        refine z_iload X dL_isCycle_33 5 rfl ?_
        refine z_ishr X dL_isCycle_35 ?_
        refine z_iconst (v := (1 : Int32)) X dL_isCycle_36 (by decide) ?_
        refine z_iand X dL_isCycle_37 ?_
        refine z_iconst (v := (1 : Int32)) X dL_isCycle_38 (by decide) ?_
        have J_j_76 : ∀ (j_76 : Int32 × Int32), j_76 = (if ((r_9 >>> (x5_21 &&& 31)) &&& (1 : Int32)) = (1 : Int32) then (let r_46 : Int32 := (F_S_path S x5_21 (2 : Int32)); let j_63 : Int32 := (if r_46 ≤ x3_21 then (x3_21) else (r_46)); let r_70 : Int32 := (F_S_path S x5_21 (3 : Int32)); let v_74 : Int32 := (x4_21 + r_70); (j_63, v_74)) else ((x3_21, x4_21))) → Z p l e { frames := 6, cells := 0, slots := 0, locals := 129 } s m args below meth c D A 27 0 0 Q (wS kI kC kQ o r ad S) [(0, .ref (o 0)), (1, .int r_3), (2, .int r_9), (3, .int j_76.1), (4, .int j_76.2), (5, .int x5_21)] 76 [] := by
          intro j_76 ej_76
          obtain ⟨v_76, ev_76⟩ : ∃ y : Int32, y = x5_21 + (1 : Int32) := ⟨_, rfl⟩
          refine z_iinc (v := v_76) (lv' := [(5, .int v_76), (0, .ref (o 0)), (1, .int r_3), (2, .int r_9), (3, .int j_76.1), (4, .int j_76.2)]) X dL_isCycle_76 5 rfl (by rw [ev_76]; rfl) (Nat.le_of_ble_eq_true rfl) rfl ?_
          refine z_goto (tgt := 21) X dL_isCycle_79 (by decide) ?_
          refine z_lv (lv' := [(0, .ref (o 0)), (1, .int r_3), (2, .int r_9), (3, .int j_76.1), (4, .int j_76.2), (5, .int v_76)]) [1, 2, 3, 4, 5, 0] rfl ?_
          exact ih_21 j_76.1 j_76.2 v_76 (cu_b hi (by omega) (er_26.trans hP) c_29 ev_76) (fun q_21 eq_21 => kk_21 q_21 (eq_21.trans (by (with_reducible subst er_26 ej_76 ev_76); simp only [L_L_isCycle_21, if_neg c_29])))
        refine z_icmp_ne (tgt := 76) X dL_isCycle_39 (by decide) (fun c_39 => ?_) (fun c_39 => ?_)
        · exact J_j_76 (x3_21, x4_21) (by simp only [if_neg c_39])
        · refine z_aload_n X dL_isCycle_42 0 rfl ?_
          refine z_iload X dL_isCycle_43 5 rfl ?_
          refine z_iconst (v := (2 : Int32)) X dL_isCycle_45 (by decide) ?_
          refine z_callVi0 X (c_S_path l D kI kC kQ o r ad S x5_21 (2 : Int32) hO) (gV wd1_217 wd1_218 wd1_219 wd1_1 wd1_220) k_S_path rfl rfl ⟨Nat.le_of_ble_eq_true rfl, Nat.le_of_ble_eq_true rfl⟩ ⟨Nat.zero_le _, Nat.zero_le _⟩ 2 0 wS_0 rfl rfl rfl rfl (Nat.le_of_ble_eq_true rfl) dL_isCycle_46 (fun r_46 er_46 => ?_)
          refine z_istore (lv' := [(6, .int r_46), (0, .ref (o 0)), (1, .int r_3), (2, .int r_9), (3, .int x3_21), (4, .int x4_21), (5, .int x5_21)]) X dL_isCycle_49 (Nat.le_of_ble_eq_true rfl) rfl ?_
          refine z_iload X dL_isCycle_51 0 rfl ?_
          refine z_iload_n X dL_isCycle_53 4 rfl ?_
          have J_j_63 : ∀ (j_63 : Int32), j_63 = (if r_46 ≤ x3_21 then (x3_21) else (r_46)) → Z p l e { frames := 6, cells := 0, slots := 0, locals := 129 } s m args below meth c D A 27 0 0 Q (wS kI kC kQ o r ad S) [(0, .ref (o 0)), (1, .int r_3), (2, .int r_9), (4, .int x4_21), (5, .int x5_21)] 63 [.int j_63] := by
            intro j_63 ej_63
            refine z_istore_n (lv' := [(3, .int j_63), (0, .ref (o 0)), (1, .int r_3), (2, .int r_9), (4, .int x4_21), (5, .int x5_21)]) X dL_isCycle_63 (Nat.le_of_ble_eq_true rfl) rfl ?_
            refine z_iload X dL_isCycle_64 4 rfl ?_
            refine z_aload_n X dL_isCycle_66 1 rfl ?_
            refine z_iload X dL_isCycle_67 5 rfl ?_
            refine z_iconst (v := (3 : Int32)) X dL_isCycle_69 (by decide) ?_
            refine z_callVi0 X (c_S_path l D kI kC kQ o r ad S x5_21 (3 : Int32) hO) (gV wd1_217 wd1_218 wd1_219 wd1_1 wd1_220) k_S_path rfl rfl ⟨Nat.le_of_ble_eq_true rfl, Nat.le_of_ble_eq_true rfl⟩ ⟨Nat.zero_le _, Nat.zero_le _⟩ 2 0 wS_0 rfl rfl rfl rfl (Nat.le_of_ble_eq_true rfl) dL_isCycle_70 (fun r_70 er_70 => ?_)
            refine z_iadd X dL_isCycle_73 ?_
            refine z_topi (fun v_74 ev_74 => ?_)
            refine z_istore (lv' := [(4, .int v_74), (3, .int j_63), (0, .ref (o 0)), (1, .int r_3), (2, .int r_9), (5, .int x5_21)]) X dL_isCycle_74 (Nat.le_of_ble_eq_true rfl) rfl ?_
            refine z_lv (lv' := [(0, .ref (o 0)), (1, .int r_3), (2, .int r_9), (3, .int j_63), (4, .int v_74), (5, .int x5_21)]) [2, 3, 4, 1, 0, 5] rfl ?_
            exact J_j_76 (j_63, v_74) (by (with_reducible subst er_46 ej_63 er_70 ev_74); simp only [if_pos c_39])
          refine z_icmp_le (tgt := 62) X dL_isCycle_54 (by decide) (fun c_54 => ?_) (fun c_54 => ?_)
          · refine z_iload_n X dL_isCycle_62 4 rfl ?_
            refine z_lv (lv' := [(0, .ref (o 0)), (1, .int r_3), (2, .int r_9), (4, .int x4_21), (5, .int x5_21)]) [1, 2, 3, 5, 6] rfl ?_
            exact J_j_63 x3_21 (by simp only [if_pos c_54])
          · refine z_iload X dL_isCycle_57 0 rfl ?_
            refine z_goto (tgt := 63) X dL_isCycle_59 (by decide) ?_
            refine z_lv (lv' := [(0, .ref (o 0)), (1, .int r_3), (2, .int r_9), (4, .int x4_21), (5, .int x5_21)]) [1, 2, 3, 5, 6] rfl ?_
            exact J_j_63 r_46 (by simp only [if_neg c_54])
  refine Lp_21 9 (0 : Int32) (0 : Int32) (0 : Int32) (cu_i (by omega)) (fun q_21 eq_21 => ?_)
  refine z_aload_n X dL_isCycle_82 0 rfl ?_
  refine z_iconst (v := (0 : Int32)) X dL_isCycle_83 (by decide) ?_
  refine z_callVi0 X (c_S_count l D kI kC kQ o r ad S (0 : Int32) hO) (gV wd1_185 wd1_186 wd1_187 wd1_1 wd1_188) k_S_count rfl rfl ⟨Nat.le_of_ble_eq_true rfl, Nat.le_of_ble_eq_true rfl⟩ ⟨Nat.zero_le _, Nat.zero_le _⟩ 2 0 wS_0 rfl rfl rfl rfl (Nat.le_of_ble_eq_true rfl) dL_isCycle_84 (fun r_84 er_84 => ?_)
  refine z_istore (lv' := [(5, .int r_84), (0, .ref (o 0)), (1, .int r_3), (2, .int r_9), (3, .int q_21.1), (4, .int q_21.2)]) X dL_isCycle_87 (Nat.le_of_ble_eq_true rfl) rfl ?_
  refine z_aload_n X dL_isCycle_89 1 rfl ?_
  refine z_iconst (v := (1 : Int32)) X dL_isCycle_90 (by decide) ?_
  refine z_callVi0 X (c_S_count l D kI kC kQ o r ad S (1 : Int32) hO) (gV wd1_185 wd1_186 wd1_187 wd1_1 wd1_188) k_S_count rfl rfl ⟨Nat.le_of_ble_eq_true rfl, Nat.le_of_ble_eq_true rfl⟩ ⟨Nat.zero_le _, Nat.zero_le _⟩ 2 0 wS_0 rfl rfl rfl rfl (Nat.le_of_ble_eq_true rfl) dL_isCycle_91 (fun r_91 er_91 => ?_)
  refine z_istore (lv' := [(6, .int r_91), (5, .int r_84), (0, .ref (o 0)), (1, .int r_3), (2, .int r_9), (3, .int q_21.1), (4, .int q_21.2)]) X dL_isCycle_94 (Nat.le_of_ble_eq_true rfl) rfl ?_
  refine z_aload_n X dL_isCycle_96 2 rfl ?_
  refine z_iconst (v := (3 : Int32)) X dL_isCycle_97 (by decide) ?_
  refine z_callVi0 X (c_S_count l D kI kC kQ o r ad S (3 : Int32) hO) (gV wd1_185 wd1_186 wd1_187 wd1_1 wd1_188) k_S_count rfl rfl ⟨Nat.le_of_ble_eq_true rfl, Nat.le_of_ble_eq_true rfl⟩ ⟨Nat.zero_le _, Nat.zero_le _⟩ 2 0 wS_0 rfl rfl rfl rfl (Nat.le_of_ble_eq_true rfl) dL_isCycle_98 (fun r_98 er_98 => ?_)
  refine z_istore (lv' := [(7, .int r_98), (6, .int r_91), (5, .int r_84), (0, .ref (o 0)), (1, .int r_3), (2, .int r_9), (3, .int q_21.1), (4, .int q_21.2)]) X dL_isCycle_101 (Nat.le_of_ble_eq_true rfl) rfl ?_
  refine z_aload_n X dL_isCycle_103 3 rfl ?_
  refine z_iconst (v := (4 : Int32)) X dL_isCycle_104 (by decide) ?_
  refine z_callVi0 X (c_S_count l D kI kC kQ o r ad S (4 : Int32) hO) (gV wd1_185 wd1_186 wd1_187 wd1_1 wd1_188) k_S_count rfl rfl ⟨Nat.le_of_ble_eq_true rfl, Nat.le_of_ble_eq_true rfl⟩ ⟨Nat.zero_le _, Nat.zero_le _⟩ 2 0 wS_0 rfl rfl rfl rfl (Nat.le_of_ble_eq_true rfl) dL_isCycle_105 (fun r_105 er_105 => ?_)
  refine z_istore (lv' := [(8, .int r_105), (7, .int r_98), (6, .int r_91), (5, .int r_84), (0, .ref (o 0)), (1, .int r_3), (2, .int r_9), (3, .int q_21.1), (4, .int q_21.2)]) X dL_isCycle_108 (Nat.le_of_ble_eq_true rfl) rfl ?_
  refine z_aload_n X dL_isCycle_110 4 rfl ?_
  refine z_bipush (v := (6 : Int32)) X dL_isCycle_111 (by decide) ?_
  refine z_callVi0 X (c_S_count l D kI kC kQ o r ad S (6 : Int32) hO) (gV wd1_185 wd1_186 wd1_187 wd1_1 wd1_188) k_S_count rfl rfl ⟨Nat.le_of_ble_eq_true rfl, Nat.le_of_ble_eq_true rfl⟩ ⟨Nat.zero_le _, Nat.zero_le _⟩ 2 0 wS_0 rfl rfl rfl rfl (Nat.le_of_ble_eq_true rfl) dL_isCycle_113 (fun r_113 er_113 => ?_)
  refine z_istore (lv' := [(9, .int r_113), (8, .int r_105), (7, .int r_98), (6, .int r_91), (5, .int r_84), (0, .ref (o 0)), (1, .int r_3), (2, .int r_9), (3, .int q_21.1), (4, .int q_21.2)]) X dL_isCycle_116 (Nat.le_of_ble_eq_true rfl) rfl ?_
  refine z_aload_n X dL_isCycle_118 5 rfl ?_
  refine z_bipush (v := (8 : Int32)) X dL_isCycle_119 (by decide) ?_
  refine z_callVi0 X (c_S_count l D kI kC kQ o r ad S (8 : Int32) hO) (gV wd1_185 wd1_186 wd1_187 wd1_1 wd1_188) k_S_count rfl rfl ⟨Nat.le_of_ble_eq_true rfl, Nat.le_of_ble_eq_true rfl⟩ ⟨Nat.zero_le _, Nat.zero_le _⟩ 2 0 wS_0 rfl rfl rfl rfl (Nat.le_of_ble_eq_true rfl) dL_isCycle_121 (fun r_121 er_121 => ?_)
  refine z_istore (lv' := [(10, .int r_121), (9, .int r_113), (8, .int r_105), (7, .int r_98), (6, .int r_91), (5, .int r_84), (0, .ref (o 0)), (1, .int r_3), (2, .int r_9), (3, .int q_21.1), (4, .int q_21.2)]) X dL_isCycle_124 (Nat.le_of_ble_eq_true rfl) rfl ?_
  refine z_aload_n X dL_isCycle_126 6 rfl ?_
  refine z_bipush (v := (9 : Int32)) X dL_isCycle_127 (by decide) ?_
  refine z_callVi0 X (c_S_count l D kI kC kQ o r ad S (9 : Int32) hO) (gV wd1_185 wd1_186 wd1_187 wd1_1 wd1_188) k_S_count rfl rfl ⟨Nat.le_of_ble_eq_true rfl, Nat.le_of_ble_eq_true rfl⟩ ⟨Nat.zero_le _, Nat.zero_le _⟩ 2 0 wS_0 rfl rfl rfl rfl (Nat.le_of_ble_eq_true rfl) dL_isCycle_129 (fun r_129 er_129 => ?_)
  refine z_istore (lv' := [(11, .int r_129), (10, .int r_121), (9, .int r_113), (8, .int r_105), (7, .int r_98), (6, .int r_91), (5, .int r_84), (0, .ref (o 0)), (1, .int r_3), (2, .int r_9), (3, .int q_21.1), (4, .int q_21.2)]) X dL_isCycle_132 (Nat.le_of_ble_eq_true rfl) rfl ?_
  refine z_aload_n X dL_isCycle_134 7 rfl ?_
  refine z_bipush (v := (19 : Int32)) X dL_isCycle_135 (by decide) ?_
  refine z_callVi0 X (c_S_count l D kI kC kQ o r ad S (19 : Int32) hO) (gV wd1_185 wd1_186 wd1_187 wd1_1 wd1_188) k_S_count rfl rfl ⟨Nat.le_of_ble_eq_true rfl, Nat.le_of_ble_eq_true rfl⟩ ⟨Nat.zero_le _, Nat.zero_le _⟩ 2 0 wS_0 rfl rfl rfl rfl (Nat.le_of_ble_eq_true rfl) dL_isCycle_137 (fun r_137 er_137 => ?_)
  refine z_istore (lv' := [(12, .int r_137), (11, .int r_129), (10, .int r_121), (9, .int r_113), (8, .int r_105), (7, .int r_98), (6, .int r_91), (5, .int r_84), (0, .ref (o 0)), (1, .int r_3), (2, .int r_9), (3, .int q_21.1), (4, .int q_21.2)]) X dL_isCycle_140 (Nat.le_of_ble_eq_true rfl) rfl ?_
  refine z_aload_n X dL_isCycle_142 8 rfl ?_
  refine z_iconst (v := (2 : Int32)) X dL_isCycle_143 (by decide) ?_
  refine z_callVi0 X (c_S_count l D kI kC kQ o r ad S (2 : Int32) hO) (gV wd1_185 wd1_186 wd1_187 wd1_1 wd1_188) k_S_count rfl rfl ⟨Nat.le_of_ble_eq_true rfl, Nat.le_of_ble_eq_true rfl⟩ ⟨Nat.zero_le _, Nat.zero_le _⟩ 2 0 wS_0 rfl rfl rfl rfl (Nat.le_of_ble_eq_true rfl) dL_isCycle_144 (fun r_144 er_144 => ?_)
  refine z_iconst (v := (1 : Int32)) X dL_isCycle_147 (by decide) ?_
  have J_j_156 : ∀ (j_156 : Int32), j_156 = (if r_144 = (1 : Int32) then ((1 : Int32)) else ((0 : Int32))) → Z p l e { frames := 6, cells := 0, slots := 0, locals := 129 } s m args below meth c D A 27 0 0 Q (wS kI kC kQ o r ad S) [(0, .ref (o 0)), (1, .int r_3), (2, .int r_9), (3, .int q_21.1), (4, .int q_21.2), (5, .int r_84), (6, .int r_91), (7, .int r_98), (8, .int r_105), (9, .int r_113), (10, .int r_121), (11, .int r_129), (12, .int r_137)] 156 [.int j_156] := by
    intro j_156 ej_156
    refine z_istore (lv' := [(13, .int j_156), (0, .ref (o 0)), (1, .int r_3), (2, .int r_9), (3, .int q_21.1), (4, .int q_21.2), (5, .int r_84), (6, .int r_91), (7, .int r_98), (8, .int r_105), (9, .int r_113), (10, .int r_121), (11, .int r_129), (12, .int r_137)]) X dL_isCycle_156 (Nat.le_of_ble_eq_true rfl) rfl ?_
    refine z_aload_n X dL_isCycle_158 1 rfl ?_
    refine z_bipush (v := (15 : Int32)) X dL_isCycle_159 (by decide) ?_
    refine z_callVi0 X (c_S_count l D kI kC kQ o r ad S (15 : Int32) hO) (gV wd1_185 wd1_186 wd1_187 wd1_1 wd1_188) k_S_count rfl rfl ⟨Nat.le_of_ble_eq_true rfl, Nat.le_of_ble_eq_true rfl⟩ ⟨Nat.zero_le _, Nat.zero_le _⟩ 2 0 wS_0 rfl rfl rfl rfl (Nat.le_of_ble_eq_true rfl) dL_isCycle_161 (fun r_161 er_161 => ?_)
    refine z_aload_n X dL_isCycle_164 1 rfl ?_
    refine z_bipush (v := (16 : Int32)) X dL_isCycle_165 (by decide) ?_
    refine z_callVi0 X (c_S_count l D kI kC kQ o r ad S (16 : Int32) hO) (gV wd1_185 wd1_186 wd1_187 wd1_1 wd1_188) k_S_count rfl rfl ⟨Nat.le_of_ble_eq_true rfl, Nat.le_of_ble_eq_true rfl⟩ ⟨Nat.zero_le _, Nat.zero_le _⟩ 2 0 wS_0 rfl rfl rfl rfl (Nat.le_of_ble_eq_true rfl) dL_isCycle_167 (fun r_167 er_167 => ?_)
    refine z_iadd X dL_isCycle_170 ?_
    refine z_topi (fun v_171 ev_171 => ?_)
    refine z_istore (lv' := [(14, .int v_171), (13, .int j_156), (0, .ref (o 0)), (1, .int r_3), (2, .int r_9), (3, .int q_21.1), (4, .int q_21.2), (5, .int r_84), (6, .int r_91), (7, .int r_98), (8, .int r_105), (9, .int r_113), (10, .int r_121), (11, .int r_129), (12, .int r_137)]) X dL_isCycle_171 (Nat.le_of_ble_eq_true rfl) rfl ?_
    refine z_aload_n X dL_isCycle_173 2 rfl ?_
    refine z_iconst (v := (1 : Int32)) X dL_isCycle_174 (by decide) ?_
    refine zS_R X (c_S_run l D kI kC kQ o r ad S (1 : Int32) hO) (gV wd2_15 wd2_16 wd2_17 wd1_1 wd2_18) k_S_run rfl rfl ⟨Nat.le_of_ble_eq_true rfl, Nat.le_of_ble_eq_true rfl⟩ ⟨Nat.zero_le _, Nat.zero_le _⟩ rfl rfl (Nat.le_of_ble_eq_true rfl) dL_isCycle_175 (fun r_175 ad_175 er_175 => ?_)
    have hO2 : OKS r_175.2 := by rw [er_175]; exact (hR.run _).ok
    obtain ⟨P2, hQ1, hQ2, hP2'⟩ := cnt12_bn hO2
    refine z_istore (lv' := [(15, .int r_175.1), (14, .int v_171), (13, .int j_156), (0, .ref (o 0)), (1, .int r_3), (2, .int r_9), (3, .int q_21.1), (4, .int q_21.2), (5, .int r_84), (6, .int r_91), (7, .int r_98), (8, .int r_105), (9, .int r_113), (10, .int r_121), (11, .int r_129), (12, .int r_137)]) X dL_isCycle_178 (Nat.le_of_ble_eq_true rfl) rfl ?_
    refine z_iload_n X dL_isCycle_180 6 rfl ?_
    refine z_iconst (v := (1 : Int32)) X dL_isCycle_181 (by decide) ?_
    have J_j_193 : ∀ (j_193 : Int32), j_193 = (if q_21.1 = (1 : Int32) then (((1 : Int32) + r_137)) else ((1 : Int32))) → Z p l e { frames := 6, cells := 0, slots := 0, locals := 129 } s m args below meth c D A 27 0 0 Q (wS kI kC kQ o r ad_175 r_175.2) [(0, .ref (o 0)), (1, .int r_3), (2, .int r_9), (3, .int q_21.1), (4, .int q_21.2), (5, .int r_84), (6, .int r_91), (7, .int r_98), (8, .int r_105), (9, .int r_113), (10, .int r_121), (11, .int r_129), (13, .int j_156), (14, .int v_171), (15, .int r_175.1)] 193 [.int j_193] := by
      intro j_193 ej_193
      refine z_istore (lv' := [(16, .int j_193), (0, .ref (o 0)), (1, .int r_3), (2, .int r_9), (3, .int q_21.1), (4, .int q_21.2), (5, .int r_84), (6, .int r_91), (7, .int r_98), (8, .int r_105), (9, .int r_113), (10, .int r_121), (11, .int r_129), (13, .int j_156), (14, .int v_171), (15, .int r_175.1)]) X dL_isCycle_193 (Nat.le_of_ble_eq_true rfl) rfl ?_
      refine z_iconst (v := (0 : Int32)) X dL_isCycle_195 (by decide) ?_
      refine z_istore (lv' := [(17, .int (0 : Int32)), (16, .int j_193), (0, .ref (o 0)), (1, .int r_3), (2, .int r_9), (3, .int q_21.1), (4, .int q_21.2), (5, .int r_84), (6, .int r_91), (7, .int r_98), (8, .int r_105), (9, .int r_113), (10, .int r_121), (11, .int r_129), (13, .int j_156), (14, .int v_171), (15, .int r_175.1)]) X dL_isCycle_196 (Nat.le_of_ble_eq_true rfl) rfl ?_
      refine z_iconst (v := (0 : Int32)) X dL_isCycle_198 (by decide) ?_
      refine z_istore (lv' := [(18, .int (0 : Int32)), (17, .int (0 : Int32)), (16, .int j_193), (0, .ref (o 0)), (1, .int r_3), (2, .int r_9), (3, .int q_21.1), (4, .int q_21.2), (5, .int r_84), (6, .int r_91), (7, .int r_98), (8, .int r_105), (9, .int r_113), (10, .int r_121), (11, .int r_129), (13, .int j_156), (14, .int v_171), (15, .int r_175.1)]) X dL_isCycle_199 (Nat.le_of_ble_eq_true rfl) rfl ?_
      refine z_iconst (v := (0 : Int32)) X dL_isCycle_201 (by decide) ?_
      refine z_istore (lv' := [(19, .int (0 : Int32)), (18, .int (0 : Int32)), (17, .int (0 : Int32)), (16, .int j_193), (0, .ref (o 0)), (1, .int r_3), (2, .int r_9), (3, .int q_21.1), (4, .int q_21.2), (5, .int r_84), (6, .int r_91), (7, .int r_98), (8, .int r_105), (9, .int r_113), (10, .int r_121), (11, .int r_129), (13, .int j_156), (14, .int v_171), (15, .int r_175.1)]) X dL_isCycle_202 (Nat.le_of_ble_eq_true rfl) rfl ?_
      refine z_lv (lv' := [(0, .ref (o 0)), (1, .int r_3), (2, .int r_9), (3, .int q_21.1), (4, .int q_21.2), (5, .int r_84), (6, .int r_91), (7, .int r_98), (8, .int r_105), (9, .int r_113), (10, .int r_121), (11, .int r_129), (13, .int j_156), (14, .int v_171), (15, .int r_175.1), (16, .int j_193), (17, .int (0 : Int32)), (18, .int (0 : Int32)), (19, .int (0 : Int32))]) [4, 5, 6, 7, 8, 9, 10, 11, 12, 13, 14, 15, 16, 17, 18, 3, 2, 1, 0] rfl ?_
      have Lp_204 : ∀ (n : Nat) (x17_204 : Int32) (x18_204 : Int32) (x19_204 : Int32), (cu P2 n x19_204) → (∀ (q_204 : Int32 × Int32), q_204 = L_L_isCycle_204 r_9 r_175 n x17_204 x18_204 x19_204 → Z p l e { frames := 6, cells := 0, slots := 0, locals := 129 } s m args below meth c D A 27 0 0 Q (wS kI kC kQ o r ad_175 r_175.2) [(0, .ref (o 0)), (1, .int r_3), (3, .int q_21.1), (4, .int q_21.2), (5, .int r_84), (6, .int r_91), (7, .int r_98), (8, .int r_105), (9, .int r_113), (10, .int r_121), (11, .int r_129), (13, .int j_156), (14, .int v_171), (15, .int r_175.1), (16, .int j_193), (17, .int q_204.1), (18, .int q_204.2)] 258 []) → Z p l e { frames := 6, cells := 0, slots := 0, locals := 129 } s m args below meth c D A 27 0 0 Q (wS kI kC kQ o r ad_175 r_175.2) [(0, .ref (o 0)), (1, .int r_3), (2, .int r_9), (3, .int q_21.1), (4, .int q_21.2), (5, .int r_84), (6, .int r_91), (7, .int r_98), (8, .int r_105), (9, .int r_113), (10, .int r_121), (11, .int r_129), (13, .int j_156), (14, .int v_171), (15, .int r_175.1), (16, .int j_193), (17, .int x17_204), (18, .int x18_204), (19, .int x19_204)] 204 [] := by
        intro n
        induction n with
        | zero =>
          intro x17_204 x18_204 x19_204 hi kk_204
          exfalso
          exact cu_0 hi
        | succ n ih_204 =>
          intro x17_204 x18_204 x19_204 hi kk_204
          refine z_iload X dL_isCycle_204 18 rfl ?_
          refine z_aload_n X dL_isCycle_206 0 rfl ?_
          refine z_bipush (v := (12 : Int32)) X dL_isCycle_207 (by decide) ?_
          refine z_callVi0 X (c_S_count l D kI kC kQ o r ad_175 r_175.2 (12 : Int32) hO2) (gV wd1_185 wd1_186 wd1_187 wd1_1 wd1_188) k_S_count rfl rfl ⟨Nat.le_of_ble_eq_true rfl, Nat.le_of_ble_eq_true rfl⟩ ⟨Nat.zero_le _, Nat.zero_le _⟩ 2 0 wS_0 rfl rfl rfl rfl (Nat.le_of_ble_eq_true rfl) dL_isCycle_209 (fun r_209 er_209 => ?_)
          refine z_icmp_ge (tgt := 258) X dL_isCycle_212 (by decide) (fun c_212 => ?_) (fun c_212 => ?_)
          · refine z_lv (lv' := [(0, .ref (o 0)), (1, .int r_3), (3, .int q_21.1), (4, .int q_21.2), (5, .int r_84), (6, .int r_91), (7, .int r_98), (8, .int r_105), (9, .int r_113), (10, .int r_121), (11, .int r_129), (13, .int j_156), (14, .int v_171), (15, .int r_175.1), (16, .int j_193), (17, .int x17_204), (18, .int x18_204)]) [0, 1, 3, 4, 5, 6, 7, 8, 9, 10, 11, 12, 13, 14, 15, 16, 17] rfl ?_
            exact kk_204 (x17_204, x18_204) (by (with_reducible subst er_209); simp only [L_L_isCycle_204, if_pos c_212]) 
          · refine z_iload X dL_isCycle_215 16 rfl ?_
            refine z_iload_n X dL_isCycle_217 2 rfl ?_
            refine z_iload X dL_isCycle_218 18 rfl ?_
            refine z_ishr X dL_isCycle_220 ?_
            refine z_iconst (v := (1 : Int32)) X dL_isCycle_221 (by decide) ?_
            refine z_iand X dL_isCycle_222 ?_
            refine z_iconst (v := (1 : Int32)) X dL_isCycle_223 (by decide) ?_
            have J_j_238 : ∀ (j_238 : Int32), j_238 = (if ((r_9 >>> (x19_204 &&& 31)) &&& (1 : Int32)) = (1 : Int32) then (let r_231 : Int32 := (F_S_path r_175.2 x19_204 (3 : Int32)); r_231) else ((0 : Int32))) → Z p l e { frames := 6, cells := 0, slots := 0, locals := 129 } s m args below meth c D A 27 0 0 Q (wS kI kC kQ o r ad_175 r_175.2) [(0, .ref (o 0)), (1, .int r_3), (2, .int r_9), (3, .int q_21.1), (4, .int q_21.2), (5, .int r_84), (6, .int r_91), (7, .int r_98), (8, .int r_105), (9, .int r_113), (10, .int r_121), (11, .int r_129), (13, .int j_156), (14, .int v_171), (15, .int r_175.1), (16, .int j_193), (18, .int x18_204), (19, .int x19_204)] 238 [.int j_238, .int x17_204] := by
              intro j_238 ej_238
              refine z_iadd X dL_isCycle_238 ?_
              refine z_topi (fun v_239 ev_239 => ?_)
              refine z_istore (lv' := [(17, .int v_239), (0, .ref (o 0)), (1, .int r_3), (2, .int r_9), (3, .int q_21.1), (4, .int q_21.2), (5, .int r_84), (6, .int r_91), (7, .int r_98), (8, .int r_105), (9, .int r_113), (10, .int r_121), (11, .int r_129), (13, .int j_156), (14, .int v_171), (15, .int r_175.1), (16, .int j_193), (18, .int x18_204), (19, .int x19_204)]) X dL_isCycle_239 (Nat.le_of_ble_eq_true rfl) rfl ?_
              refine z_iload X dL_isCycle_241 17 rfl ?_
              refine z_iload_n X dL_isCycle_243 3 rfl ?_
              refine z_iload X dL_isCycle_244 18 rfl ?_
              refine z_ishr X dL_isCycle_246 ?_
              refine z_iconst (v := (1 : Int32)) X dL_isCycle_247 (by decide) ?_
              refine z_iand X dL_isCycle_248 ?_
              refine z_iadd X dL_isCycle_249 ?_
              refine z_topi (fun v_250 ev_250 => ?_)
              refine z_istore (lv' := [(18, .int v_250), (17, .int v_239), (0, .ref (o 0)), (1, .int r_3), (2, .int r_9), (3, .int q_21.1), (4, .int q_21.2), (5, .int r_84), (6, .int r_91), (7, .int r_98), (8, .int r_105), (9, .int r_113), (10, .int r_121), (11, .int r_129), (13, .int j_156), (14, .int v_171), (15, .int r_175.1), (16, .int j_193), (19, .int x19_204)]) X dL_isCycle_250 (Nat.le_of_ble_eq_true rfl) rfl ?_
              obtain ⟨v_252, ev_252⟩ : ∃ y : Int32, y = x19_204 + (1 : Int32) := ⟨_, rfl⟩
              refine z_iinc (v := v_252) (lv' := [(19, .int v_252), (18, .int v_250), (17, .int v_239), (0, .ref (o 0)), (1, .int r_3), (2, .int r_9), (3, .int q_21.1), (4, .int q_21.2), (5, .int r_84), (6, .int r_91), (7, .int r_98), (8, .int r_105), (9, .int r_113), (10, .int r_121), (11, .int r_129), (13, .int j_156), (14, .int v_171), (15, .int r_175.1), (16, .int j_193)]) X dL_isCycle_252 18 rfl (by rw [ev_252]; rfl) (Nat.le_of_ble_eq_true rfl) rfl ?_
              refine z_goto (tgt := 204) X dL_isCycle_255 (by decide) ?_
              refine z_lv (lv' := [(0, .ref (o 0)), (1, .int r_3), (2, .int r_9), (3, .int q_21.1), (4, .int q_21.2), (5, .int r_84), (6, .int r_91), (7, .int r_98), (8, .int r_105), (9, .int r_113), (10, .int r_121), (11, .int r_129), (13, .int j_156), (14, .int v_171), (15, .int r_175.1), (16, .int j_193), (17, .int v_239), (18, .int v_250), (19, .int v_252)]) [3, 4, 5, 6, 7, 8, 9, 10, 11, 12, 13, 14, 15, 16, 17, 18, 2, 1, 0] rfl ?_
              exact ih_204 v_239 v_250 v_252 (cu_b hi (by omega) (er_209.trans hP2') c_212 ev_252) (fun q_204 eq_204 => kk_204 q_204 (eq_204.trans (by (with_reducible subst er_209 ej_238 ev_239 ev_250 ev_252); simp only [L_L_isCycle_204, if_neg c_212])))
            refine z_icmp_ne (tgt := 237) X dL_isCycle_224 (by decide) (fun c_224 => ?_) (fun c_224 => ?_)
            · refine z_iconst (v := (0 : Int32)) X dL_isCycle_237 (by decide) ?_
              refine z_lv (lv' := [(0, .ref (o 0)), (1, .int r_3), (2, .int r_9), (3, .int q_21.1), (4, .int q_21.2), (5, .int r_84), (6, .int r_91), (7, .int r_98), (8, .int r_105), (9, .int r_113), (10, .int r_121), (11, .int r_129), (13, .int j_156), (14, .int v_171), (15, .int r_175.1), (16, .int j_193), (18, .int x18_204), (19, .int x19_204)]) [0, 1, 2, 3, 4, 5, 6, 7, 8, 9, 10, 11, 12, 13, 14, 15, 17, 18] rfl ?_
              exact J_j_238 (0 : Int32) (by simp only [if_neg c_224])
            · refine z_aload_n X dL_isCycle_227 0 rfl ?_
              refine z_iload X dL_isCycle_228 18 rfl ?_
              refine z_iconst (v := (3 : Int32)) X dL_isCycle_230 (by decide) ?_
              refine z_callVi0 X (c_S_path l D kI kC kQ o r ad_175 r_175.2 x19_204 (3 : Int32) hO2) (gV wd1_217 wd1_218 wd1_219 wd1_1 wd1_220) k_S_path rfl rfl ⟨Nat.le_of_ble_eq_true rfl, Nat.le_of_ble_eq_true rfl⟩ ⟨Nat.zero_le _, Nat.zero_le _⟩ 2 0 wS_0 rfl rfl rfl rfl (Nat.le_of_ble_eq_true rfl) dL_isCycle_231 (fun r_231 er_231 => ?_)
              refine z_goto (tgt := 238) X dL_isCycle_234 (by decide) ?_
              refine z_lv (lv' := [(0, .ref (o 0)), (1, .int r_3), (2, .int r_9), (3, .int q_21.1), (4, .int q_21.2), (5, .int r_84), (6, .int r_91), (7, .int r_98), (8, .int r_105), (9, .int r_113), (10, .int r_121), (11, .int r_129), (13, .int j_156), (14, .int v_171), (15, .int r_175.1), (16, .int j_193), (18, .int x18_204), (19, .int x19_204)]) [0, 1, 2, 3, 4, 5, 6, 7, 8, 9, 10, 11, 12, 13, 14, 15, 17, 18] rfl ?_
              exact J_j_238 r_231 (by (with_reducible subst er_231); simp only [if_pos c_224])
      refine Lp_204 9 (0 : Int32) (0 : Int32) (0 : Int32) (cu_i (by omega)) (fun q_204 eq_204 => ?_)
      refine z_iload X dL_isCycle_258 13 rfl ?_
      refine z_iload_n X dL_isCycle_260 2 rfl ?_
      refine z_iconst (v := (1 : Int32)) X dL_isCycle_261 (by decide) ?_
      have J_j_270 : ∀ (j_270 : Int32), j_270 = (if q_21.1 = (1 : Int32) then ((1 : Int32)) else ((0 : Int32))) → Z p l e { frames := 6, cells := 0, slots := 0, locals := 129 } s m args below meth c D A 27 0 0 Q (wS kI kC kQ o r ad_175 r_175.2) [(0, .ref (o 0)), (1, .int r_3), (3, .int q_21.1), (4, .int q_21.2), (5, .int r_84), (6, .int r_91), (7, .int r_98), (8, .int r_105), (9, .int r_113), (10, .int r_121), (11, .int r_129), (13, .int j_156), (14, .int v_171), (15, .int r_175.1), (16, .int j_193), (17, .int q_204.1), (18, .int q_204.2)] 270 [.int j_270, .int r_175.1] := by
        intro j_270 ej_270
        have J_j_363 : ∀ (j_363 : Int32), j_363 = (if r_175.1 = j_270 then (let r_275 : Int32 := (F_S_count r_175.2 (3 : Int32)); if r_275 = (r_98 + j_193) then (let r_288 : Int32 := (F_S_count r_175.2 (4 : Int32)); let j_303 : Int32 := (if q_21.1 = (2 : Int32) then ((0 : Int32)) else ((1 : Int32))); if r_288 = (r_105 + j_303) then (let r_310 : Int32 := (F_S_count r_175.2 (6 : Int32)); let j_325 : Int32 := (if q_21.1 = (2 : Int32) then ((1 : Int32)) else ((0 : Int32))); if r_310 = (r_113 + j_325) then (if q_204.1 = (q_21.2 + q_204.2) then (let r_342 : Int32 := (F_S_count r_175.2 (11 : Int32)); let r_351 : Int32 := (F_S_count r_175.2 (10 : Int32)); if r_342 = ((r_3 + (1 : Int32)) - (r_3 + (1 : Int32)) / r_351 * r_351) then ((1 : Int32)) else ((0 : Int32))) else ((0 : Int32))) else ((0 : Int32))) else ((0 : Int32))) else ((0 : Int32))) else ((0 : Int32))) → Z p l e { frames := 6, cells := 0, slots := 0, locals := 129 } s m args below meth c D A 27 0 0 Q (wS kI kC kQ o r ad_175 r_175.2) [(0, .ref (o 0)), (5, .int r_84), (6, .int r_91), (7, .int r_98), (10, .int r_121), (11, .int r_129), (13, .int j_156), (14, .int v_171), (15, .int r_175.1), (16, .int j_193)] 363 [.int j_363] := by
          intro j_363 ej_363
          refine z_istore (lv' := [(19, .int j_363), (0, .ref (o 0)), (5, .int r_84), (6, .int r_91), (7, .int r_98), (10, .int r_121), (11, .int r_129), (13, .int j_156), (14, .int v_171), (15, .int r_175.1), (16, .int j_193)]) X dL_isCycle_363 (Nat.le_of_ble_eq_true rfl) rfl ?_
          refine z_aload_n X dL_isCycle_365 1 rfl ?_
          refine z_iconst (v := (1 : Int32)) X dL_isCycle_366 (by decide) ?_
          refine z_callVi0 X (c_S_count l D kI kC kQ o r ad_175 r_175.2 (1 : Int32) hO2) (gV wd1_185 wd1_186 wd1_187 wd1_1 wd1_188) k_S_count rfl rfl ⟨Nat.le_of_ble_eq_true rfl, Nat.le_of_ble_eq_true rfl⟩ ⟨Nat.zero_le _, Nat.zero_le _⟩ 2 0 wS_0 rfl rfl rfl rfl (Nat.le_of_ble_eq_true rfl) dL_isCycle_367 (fun r_367 er_367 => ?_)
          refine z_iload X dL_isCycle_370 3 rfl ?_
          refine z_isub X dL_isCycle_372 ?_
          refine z_topi (fun v_373 ev_373 => ?_)
          refine z_istore (lv' := [(20, .int v_373), (19, .int j_363), (0, .ref (o 0)), (5, .int r_84), (6, .int r_91), (7, .int r_98), (10, .int r_121), (11, .int r_129), (13, .int j_156), (14, .int v_171), (15, .int r_175.1), (16, .int j_193)]) X dL_isCycle_373 (Nat.le_of_ble_eq_true rfl) rfl ?_
          refine z_iload X dL_isCycle_375 5 rfl ?_
          refine z_iload X dL_isCycle_377 11 rfl ?_
          refine z_iadd X dL_isCycle_379 ?_
          refine z_iconst (v := (4 : Int32)) X dL_isCycle_380 (by decide) ?_
          refine z_idiv X dL_isCycle_381 (by decide) ?_
          refine z_iload X dL_isCycle_382 5 rfl ?_
          refine z_iconst (v := (4 : Int32)) X dL_isCycle_384 (by decide) ?_
          refine z_idiv X dL_isCycle_385 (by decide) ?_
          refine z_isub X dL_isCycle_386 ?_
          refine z_topi (fun v_387 ev_387 => ?_)
          refine z_istore (lv' := [(21, .int v_387), (20, .int v_373), (19, .int j_363), (0, .ref (o 0)), (5, .int r_84), (6, .int r_91), (7, .int r_98), (10, .int r_121), (11, .int r_129), (13, .int j_156), (14, .int v_171), (15, .int r_175.1), (16, .int j_193)]) X dL_isCycle_387 (Nat.le_of_ble_eq_true rfl) rfl ?_
          refine z_iload X dL_isCycle_389 2 rfl ?_
          have J_j_434 : ∀ (j_434 : Int32), j_434 = (if j_363 = (0 : Int32) then ((0 : Int32)) else (if v_387 < v_373 then ((0 : Int32)) else (if v_387 < (-v_373) then ((0 : Int32)) else (let r_411 : Int32 := (F_S_count r_175.2 (1 : Int32)); if r_411 < (20 : Int32) then ((0 : Int32)) else (let r_421 : Int32 := (F_S_count r_175.2 (1 : Int32)); if (120 : Int32) < r_421 then ((0 : Int32)) else ((1 : Int32))))))) → Z p l e { frames := 6, cells := 0, slots := 0, locals := 129 } s m args below meth c D A 27 0 0 Q (wS kI kC kQ o r ad_175 r_175.2) [(0, .ref (o 0)), (5, .int r_84), (10, .int r_121), (11, .int r_129), (13, .int j_156), (14, .int v_171), (15, .int r_175.1), (16, .int j_193)] 434 [.int j_434] := by
            intro j_434 ej_434
            refine z_istore (lv' := [(19, .int j_434), (0, .ref (o 0)), (5, .int r_84), (10, .int r_121), (11, .int r_129), (13, .int j_156), (14, .int v_171), (15, .int r_175.1), (16, .int j_193)]) X dL_isCycle_434 (Nat.le_of_ble_eq_true rfl) rfl ?_
            refine z_iload X dL_isCycle_436 5 rfl ?_
            refine z_if_ne (tgt := 498) X dL_isCycle_438 (by decide) (fun c_438 => ?_) (fun c_438 => ?_)
            · refine z_iload X dL_isCycle_498 4 rfl ?_
              refine z_iload X dL_isCycle_500 7 rfl ?_
              refine z_iadd X dL_isCycle_502 ?_
              refine z_topi (fun v_503 ev_503 => ?_)
              refine z_istore (lv' := [(22, .int v_503), (19, .int j_434), (0, .ref (o 0)), (5, .int r_84), (10, .int r_121), (11, .int r_129), (13, .int j_156), (14, .int v_171), (15, .int r_175.1), (16, .int j_193)]) X dL_isCycle_503 (Nat.le_of_ble_eq_true rfl) rfl ?_
              refine z_aload_n X dL_isCycle_505 2 rfl ?_
              refine z_bipush (v := (21 : Int32)) X dL_isCycle_506 (by decide) ?_
              refine z_callVi0 X (c_S_count l D kI kC kQ o r ad_175 r_175.2 (21 : Int32) hO2) (gV wd1_185 wd1_186 wd1_187 wd1_1 wd1_188) k_S_count rfl rfl ⟨Nat.le_of_ble_eq_true rfl, Nat.le_of_ble_eq_true rfl⟩ ⟨Nat.zero_le _, Nat.zero_le _⟩ 2 0 wS_0 rfl rfl rfl rfl (Nat.le_of_ble_eq_true rfl) dL_isCycle_508 (fun r_508 er_508 => ?_)
              refine z_istore (lv' := [(23, .int r_508), (22, .int v_503), (19, .int j_434), (0, .ref (o 0)), (5, .int r_84), (10, .int r_121), (11, .int r_129), (13, .int j_156), (14, .int v_171), (15, .int r_175.1), (16, .int j_193)]) X dL_isCycle_511 (Nat.le_of_ble_eq_true rfl) rfl ?_
              refine z_iload X dL_isCycle_513 5 rfl ?_
              refine z_iload X dL_isCycle_515 10 rfl ?_
              refine z_iadd X dL_isCycle_517 ?_
              refine z_aload_n X dL_isCycle_518 3 rfl ?_
              refine z_bipush (v := (20 : Int32)) X dL_isCycle_519 (by decide) ?_
              refine z_callVi0 X (c_S_count l D kI kC kQ o r ad_175 r_175.2 (20 : Int32) hO2) (gV wd1_185 wd1_186 wd1_187 wd1_1 wd1_188) k_S_count rfl rfl ⟨Nat.le_of_ble_eq_true rfl, Nat.le_of_ble_eq_true rfl⟩ ⟨Nat.zero_le _, Nat.zero_le _⟩ 2 0 wS_0 rfl rfl rfl rfl (Nat.le_of_ble_eq_true rfl) dL_isCycle_521 (fun r_521 er_521 => ?_)
              have J_j_532 : ∀ (j_532 : Int32), j_532 = (if (r_121 + j_193) < r_521 then ((0 : Int32)) else ((1 : Int32))) → Z p l e { frames := 6, cells := 0, slots := 0, locals := 129 } s m args below meth c D A 27 0 0 Q (wS kI kC kQ o r ad_175 r_175.2) [(0, .ref (o 0)), (5, .int r_84), (10, .int r_121), (14, .int v_171), (16, .int j_193), (19, .int j_434), (22, .int v_503), (23, .int r_508)] 532 [.int j_532] := by
                intro j_532 ej_532
                refine z_istore (lv' := [(24, .int j_532), (0, .ref (o 0)), (5, .int r_84), (10, .int r_121), (14, .int v_171), (16, .int j_193), (19, .int j_434), (22, .int v_503), (23, .int r_508)]) X dL_isCycle_532 (Nat.le_of_ble_eq_true rfl) rfl ?_
                refine z_iload X dL_isCycle_534 0 rfl ?_
                refine z_if_ne (tgt := 585) X dL_isCycle_536 (by decide) (fun c_536 => ?_) (fun c_536 => ?_)
                · refine z_iload X dL_isCycle_585 7 rfl ?_
                  refine z_iload X dL_isCycle_587 8 rfl ?_
                  refine z_isub X dL_isCycle_589 ?_
                  refine z_aload_n X dL_isCycle_590 1 rfl ?_
                  refine z_bipush (v := (23 : Int32)) X dL_isCycle_591 (by decide) ?_
                  refine z_callVi0 X (c_S_count l D kI kC kQ o r ad_175 r_175.2 (23 : Int32) hO2) (gV wd1_185 wd1_186 wd1_187 wd1_1 wd1_188) k_S_count rfl rfl ⟨Nat.le_of_ble_eq_true rfl, Nat.le_of_ble_eq_true rfl⟩ ⟨Nat.zero_le _, Nat.zero_le _⟩ 2 0 wS_0 rfl rfl rfl rfl (Nat.le_of_ble_eq_true rfl) dL_isCycle_593 (fun r_593 er_593 => ?_)
                  have J_j_613 : ∀ (j_613 : Int32), j_613 = (if (v_503 - r_508) ≤ r_593 then ((v_503 - r_508)) else (let r_602 : Int32 := (F_S_count r_175.2 (23 : Int32)); r_602)) → Z p l e { frames := 6, cells := 0, slots := 0, locals := 129 } s m args below meth c D A 27 0 0 Q (wS kI kC kQ o r ad_175 r_175.2) [(0, .ref (o 0)), (5, .int r_84), (14, .int v_171), (19, .int j_434), (22, .int v_503), (23, .int r_508)] 613 [.int j_613] := by
                    intro j_613 ej_613
                    refine z_istore (lv' := [(25, .int j_613), (0, .ref (o 0)), (5, .int r_84), (14, .int v_171), (19, .int j_434), (22, .int v_503), (23, .int r_508)]) X dL_isCycle_613 (Nat.le_of_ble_eq_true rfl) rfl ?_
                    refine z_iload X dL_isCycle_615 5 rfl ?_
                    refine z_iload X dL_isCycle_617 6 rfl ?_
                    have J_j_655 : ∀ (j_655 : Int32), j_655 = (if r_508 ≤ v_503 then (let j_647 : Int32 := (if j_613 ≤ (0 : Int32) then ((0 : Int32)) else (j_613)); let r_650 : Int32 := (F_S_count r_175.2 (22 : Int32)); (r_84 + (j_647 * r_650))) else (let r_627 : Int32 := (F_S_count r_175.2 (22 : Int32)); (r_84 - r_627))) → Z p l e { frames := 6, cells := 0, slots := 0, locals := 129 } s m args below meth c D A 27 0 0 Q (wS kI kC kQ o r ad_175 r_175.2) [(0, .ref (o 0)), (14, .int v_171), (19, .int j_434), (22, .int v_503), (23, .int r_508), (25, .int j_613)] 655 [.int j_655] := by
                      intro j_655 ej_655
                      refine z_istore (lv' := [(26, .int j_655), (0, .ref (o 0)), (14, .int v_171), (19, .int j_434), (22, .int v_503), (23, .int r_508), (25, .int j_613)]) X dL_isCycle_655 (Nat.le_of_ble_eq_true rfl) rfl ?_
                      refine z_iload X dL_isCycle_657 0 rfl ?_
                      refine z_sipush (v := (500 : Int32)) X dL_isCycle_659 (by decide) ?_
                      have J_j_687 : ∀ (j_687 : Int32), j_687 = (if (500 : Int32) ≤ j_655 then (if j_655 ≤ (1200 : Int32) then (j_655) else ((1200 : Int32))) else ((500 : Int32))) → Z p l e { frames := 6, cells := 0, slots := 0, locals := 129 } s m args below meth c D A 27 0 0 Q (wS kI kC kQ o r ad_175 r_175.2) [(0, .ref (o 0)), (14, .int v_171), (19, .int j_434), (22, .int v_503), (23, .int r_508), (25, .int j_613)] 687 [.int j_687] := by
                        intro j_687 ej_687
                        refine z_istore (lv' := [(26, .int j_687), (0, .ref (o 0)), (14, .int v_171), (19, .int j_434), (22, .int v_503), (23, .int r_508), (25, .int j_613)]) X dL_isCycle_687 (Nat.le_of_ble_eq_true rfl) rfl ?_
                        refine z_iload X dL_isCycle_689 3 rfl ?_
                        have J_j_768 : ∀ (j_768 : Int32), j_768 = (if j_434 = (0 : Int32) then ((0 : Int32)) else (let r_697 : Int32 := (F_S_count r_175.2 (8 : Int32)); if r_697 = (0 : Int32) then (let r_706 : Int32 := (F_S_count r_175.2 (9 : Int32)); if r_706 = (0 : Int32) then (let r_714 : Int32 := (F_S_count r_175.2 (0 : Int32)); if r_714 = j_687 then (let r_725 : Int32 := (F_S_count r_175.2 (15 : Int32)); let r_731 : Int32 := (F_S_count r_175.2 (16 : Int32)); let j_759 : Int32 := (if r_508 ≤ v_503 then (if j_613 ≤ (0 : Int32) then ((0 : Int32)) else (j_613)) else ((1 : Int32))); if (r_725 + r_731) = (v_171 + j_759) then ((1 : Int32)) else ((0 : Int32))) else ((0 : Int32))) else ((0 : Int32))) else ((0 : Int32)))) → Z p l e { frames := 6, cells := 0, slots := 0, locals := 129 } s m args below meth c D A 27 0 0 Q (wS kI kC kQ o r ad_175 r_175.2) [] 768 [.int j_768] := by
                          intro j_768 ej_768
                          exact z_zret X hQ rfl ((j_768, r_175.2), ad_175) rfl rfl (by (with_reducible subst er_3 er_9 eq_21 er_84 er_91 er_98 er_105 er_113 er_121 er_129 er_137 er_144 ej_156 er_161 er_167 ev_171 er_175 ej_193 eq_204 ej_270 ej_363 er_367 ev_373 ev_387 ej_434 ev_503 er_508 er_521 ej_532 er_593 ej_613 ej_655 ej_687 ej_768); simp only [F_L_isCycle, if_neg c_438, if_neg c_536]) (nb (by rw [ej_768]; (try dsimp only); repeat' first | (with_reducible apply bl_ite) | exact Or.inl rfl | exact Or.inr rfl)) dL_isCycle_768
                        refine z_if_eq (tgt := 767) X dL_isCycle_691 (by decide) (fun c_691 => ?_) (fun c_691 => ?_)
                        · refine z_iconst (v := (0 : Int32)) X dL_isCycle_767 (by decide) ?_
                          refine z_lv (lv' := []) [] rfl ?_
                          exact J_j_768 (0 : Int32) (by simp only [if_pos c_691])
                        · refine z_aload_n X dL_isCycle_694 1 rfl ?_
                          refine z_bipush (v := (8 : Int32)) X dL_isCycle_695 (by decide) ?_
                          refine z_callVi0 X (c_S_count l D kI kC kQ o r ad_175 r_175.2 (8 : Int32) hO2) (gV wd1_185 wd1_186 wd1_187 wd1_1 wd1_188) k_S_count rfl rfl ⟨Nat.le_of_ble_eq_true rfl, Nat.le_of_ble_eq_true rfl⟩ ⟨Nat.zero_le _, Nat.zero_le _⟩ 2 0 wS_0 rfl rfl rfl rfl (Nat.le_of_ble_eq_true rfl) dL_isCycle_697 (fun r_697 er_697 => ?_)
                          refine z_if_ne (tgt := 767) X dL_isCycle_700 (by decide) (fun c_700 => ?_) (fun c_700 => ?_)
                          · refine z_iconst (v := (0 : Int32)) X dL_isCycle_767 (by decide) ?_
                            refine z_lv (lv' := []) [] rfl ?_
                            exact J_j_768 (0 : Int32) (by (with_reducible subst er_697); simp only [if_neg c_691, if_neg c_700])
                          · refine z_aload_n X dL_isCycle_703 1 rfl ?_
                            refine z_bipush (v := (9 : Int32)) X dL_isCycle_704 (by decide) ?_
                            refine z_callVi0 X (c_S_count l D kI kC kQ o r ad_175 r_175.2 (9 : Int32) hO2) (gV wd1_185 wd1_186 wd1_187 wd1_1 wd1_188) k_S_count rfl rfl ⟨Nat.le_of_ble_eq_true rfl, Nat.le_of_ble_eq_true rfl⟩ ⟨Nat.zero_le _, Nat.zero_le _⟩ 2 0 wS_0 rfl rfl rfl rfl (Nat.le_of_ble_eq_true rfl) dL_isCycle_706 (fun r_706 er_706 => ?_)
                            refine z_if_ne (tgt := 767) X dL_isCycle_709 (by decide) (fun c_709 => ?_) (fun c_709 => ?_)
                            · refine z_iconst (v := (0 : Int32)) X dL_isCycle_767 (by decide) ?_
                              refine z_lv (lv' := []) [] rfl ?_
                              exact J_j_768 (0 : Int32) (by (with_reducible subst er_697 er_706); simp only [if_neg c_691, if_pos c_700, if_neg c_709])
                            · refine z_aload_n X dL_isCycle_712 1 rfl ?_
                              refine z_iconst (v := (0 : Int32)) X dL_isCycle_713 (by decide) ?_
                              refine z_callVi0 X (c_S_count l D kI kC kQ o r ad_175 r_175.2 (0 : Int32) hO2) (gV wd1_185 wd1_186 wd1_187 wd1_1 wd1_188) k_S_count rfl rfl ⟨Nat.le_of_ble_eq_true rfl, Nat.le_of_ble_eq_true rfl⟩ ⟨Nat.zero_le _, Nat.zero_le _⟩ 2 0 wS_0 rfl rfl rfl rfl (Nat.le_of_ble_eq_true rfl) dL_isCycle_714 (fun r_714 er_714 => ?_)
                              refine z_iload X dL_isCycle_717 0 rfl ?_
                              refine z_icmp_ne (tgt := 767) X dL_isCycle_719 (by decide) (fun c_719 => ?_) (fun c_719 => ?_)
                              · refine z_iconst (v := (0 : Int32)) X dL_isCycle_767 (by decide) ?_
                                refine z_lv (lv' := []) [] rfl ?_
                                exact J_j_768 (0 : Int32) (by (with_reducible subst er_697 er_706 er_714); simp only [if_neg c_691, if_pos c_700, if_pos c_709, if_neg c_719])
                              · refine z_aload_n X dL_isCycle_722 1 rfl ?_
                                refine z_bipush (v := (15 : Int32)) X dL_isCycle_723 (by decide) ?_
                                refine z_callVi0 X (c_S_count l D kI kC kQ o r ad_175 r_175.2 (15 : Int32) hO2) (gV wd1_185 wd1_186 wd1_187 wd1_1 wd1_188) k_S_count rfl rfl ⟨Nat.le_of_ble_eq_true rfl, Nat.le_of_ble_eq_true rfl⟩ ⟨Nat.zero_le _, Nat.zero_le _⟩ 2 0 wS_0 rfl rfl rfl rfl (Nat.le_of_ble_eq_true rfl) dL_isCycle_725 (fun r_725 er_725 => ?_)
                                refine z_aload_n X dL_isCycle_728 1 rfl ?_
                                refine z_bipush (v := (16 : Int32)) X dL_isCycle_729 (by decide) ?_
                                refine z_callVi0 X (c_S_count l D kI kC kQ o r ad_175 r_175.2 (16 : Int32) hO2) (gV wd1_185 wd1_186 wd1_187 wd1_1 wd1_188) k_S_count rfl rfl ⟨Nat.le_of_ble_eq_true rfl, Nat.le_of_ble_eq_true rfl⟩ ⟨Nat.zero_le _, Nat.zero_le _⟩ 2 0 wS_0 rfl rfl rfl rfl (Nat.le_of_ble_eq_true rfl) dL_isCycle_731 (fun r_731 er_731 => ?_)
                                refine z_iadd X dL_isCycle_734 ?_
                                refine z_iload X dL_isCycle_735 2 rfl ?_
                                refine z_iload X dL_isCycle_737 4 rfl ?_
                                refine z_iload X dL_isCycle_739 5 rfl ?_
                                have J_j_759 : ∀ (j_759 : Int32), j_759 = (if r_508 ≤ v_503 then (if j_613 ≤ (0 : Int32) then ((0 : Int32)) else (j_613)) else ((1 : Int32))) → Z p l e { frames := 6, cells := 0, slots := 0, locals := 129 } s m args below meth c D A 27 0 0 Q (wS kI kC kQ o r ad_175 r_175.2) [] 759 [.int j_759, .int v_171, .int (r_725 + r_731)] := by
                                  intro j_759 ej_759
                                  refine z_iadd X dL_isCycle_759 ?_
                                  refine z_icmp_ne (tgt := 767) X dL_isCycle_760 (by decide) (fun c_760 => ?_) (fun c_760 => ?_)
                                  · refine z_iconst (v := (0 : Int32)) X dL_isCycle_767 (by decide) ?_
                                    exact J_j_768 (0 : Int32) (by (with_reducible subst er_697 er_706 er_714 er_725 er_731 ej_759); simp only [if_neg c_691, if_pos c_700, if_pos c_709, if_pos c_719, if_neg c_760])
                                  · refine z_iconst (v := (1 : Int32)) X dL_isCycle_763 (by decide) ?_
                                    refine z_goto (tgt := 768) X dL_isCycle_764 (by decide) ?_
                                    exact J_j_768 (1 : Int32) (by (with_reducible subst er_697 er_706 er_714 er_725 er_731 ej_759); simp only [if_neg c_691, if_pos c_700, if_pos c_709, if_pos c_719, if_pos c_760])
                                refine z_icmp_ge (tgt := 748) X dL_isCycle_741 (by decide) (fun c_741 => ?_) (fun c_741 => ?_)
                                · refine z_iload X dL_isCycle_748 6 rfl ?_
                                  refine z_if_le (tgt := 758) X dL_isCycle_750 (by decide) (fun c_750 => ?_) (fun c_750 => ?_)
                                  · refine z_iconst (v := (0 : Int32)) X dL_isCycle_758 (by decide) ?_
                                    refine z_lv (lv' := []) [] rfl ?_
                                    exact J_j_759 (0 : Int32) (by simp only [if_pos c_741, if_pos c_750])
                                  · refine z_iload X dL_isCycle_753 6 rfl ?_
                                    refine z_goto (tgt := 759) X dL_isCycle_755 (by decide) ?_
                                    refine z_lv (lv' := []) [] rfl ?_
                                    exact J_j_759 j_613 (by simp only [if_pos c_741, if_neg c_750])
                                · refine z_iconst (v := (1 : Int32)) X dL_isCycle_744 (by decide) ?_
                                  refine z_goto (tgt := 759) X dL_isCycle_745 (by decide) ?_
                                  refine z_lv (lv' := []) [] rfl ?_
                                  exact J_j_759 (1 : Int32) (by simp only [if_neg c_741])
                      refine z_icmp_ge (tgt := 671) X dL_isCycle_662 (by decide) (fun c_662 => ?_) (fun c_662 => ?_)
                      · refine z_iload X dL_isCycle_671 0 rfl ?_
                        refine z_sipush (v := (1200 : Int32)) X dL_isCycle_673 (by decide) ?_
                        refine z_icmp_le (tgt := 685) X dL_isCycle_676 (by decide) (fun c_676 => ?_) (fun c_676 => ?_)
                        · refine z_iload X dL_isCycle_685 0 rfl ?_
                          refine z_lv (lv' := [(0, .ref (o 0)), (14, .int v_171), (19, .int j_434), (22, .int v_503), (23, .int r_508), (25, .int j_613)]) [1, 2, 3, 4, 5, 6] rfl ?_
                          exact J_j_687 j_655 (by simp only [if_pos c_662, if_pos c_676])
                        · refine z_sipush (v := (1200 : Int32)) X dL_isCycle_679 (by decide) ?_
                          refine z_goto (tgt := 687) X dL_isCycle_682 (by decide) ?_
                          refine z_lv (lv' := [(0, .ref (o 0)), (14, .int v_171), (19, .int j_434), (22, .int v_503), (23, .int r_508), (25, .int j_613)]) [1, 2, 3, 4, 5, 6] rfl ?_
                          exact J_j_687 (1200 : Int32) (by simp only [if_pos c_662, if_neg c_676])
                      · refine z_sipush (v := (500 : Int32)) X dL_isCycle_665 (by decide) ?_
                        refine z_goto (tgt := 687) X dL_isCycle_668 (by decide) ?_
                        refine z_lv (lv' := [(0, .ref (o 0)), (14, .int v_171), (19, .int j_434), (22, .int v_503), (23, .int r_508), (25, .int j_613)]) [1, 2, 3, 4, 5, 6] rfl ?_
                        exact J_j_687 (500 : Int32) (by simp only [if_neg c_662])
                    refine z_icmp_ge (tgt := 634) X dL_isCycle_619 (by decide) (fun c_619 => ?_) (fun c_619 => ?_)
                    · refine z_iload X dL_isCycle_634 2 rfl ?_
                      refine z_iload X dL_isCycle_636 0 rfl ?_
                      have J_j_647 : ∀ (j_647 : Int32), j_647 = (if j_613 ≤ (0 : Int32) then ((0 : Int32)) else (j_613)) → Z p l e { frames := 6, cells := 0, slots := 0, locals := 129 } s m args below meth c D A 27 0 0 Q (wS kI kC kQ o r ad_175 r_175.2) [(0, .ref (o 0)), (14, .int v_171), (19, .int j_434), (22, .int v_503), (23, .int r_508), (25, .int j_613)] 647 [.int j_647, .int r_84] := by
                        intro j_647 ej_647
                        refine z_aload_n X dL_isCycle_647 0 rfl ?_
                        refine z_bipush (v := (22 : Int32)) X dL_isCycle_648 (by decide) ?_
                        refine z_callVi0 X (c_S_count l D kI kC kQ o r ad_175 r_175.2 (22 : Int32) hO2) (gV wd1_185 wd1_186 wd1_187 wd1_1 wd1_188) k_S_count rfl rfl ⟨Nat.le_of_ble_eq_true rfl, Nat.le_of_ble_eq_true rfl⟩ ⟨Nat.zero_le _, Nat.zero_le _⟩ 2 0 wS_0 rfl rfl rfl rfl (Nat.le_of_ble_eq_true rfl) dL_isCycle_650 (fun r_650 er_650 => ?_)
                        refine z_imul X dL_isCycle_653 ?_
                        refine z_iadd X dL_isCycle_654 ?_
                        exact J_j_655 (r_84 + (j_647 * r_650)) (by (with_reducible subst ej_647 er_650); simp only [if_pos c_619])
                      refine z_if_le (tgt := 646) X dL_isCycle_638 (by decide) (fun c_638 => ?_) (fun c_638 => ?_)
                      · refine z_iconst (v := (0 : Int32)) X dL_isCycle_646 (by decide) ?_
                        refine z_lv (lv' := [(0, .ref (o 0)), (14, .int v_171), (19, .int j_434), (22, .int v_503), (23, .int r_508), (25, .int j_613)]) [1, 3, 4, 5, 6, 0] rfl ?_
                        exact J_j_647 (0 : Int32) (by simp only [if_pos c_638])
                      · refine z_iload X dL_isCycle_641 0 rfl ?_
                        refine z_goto (tgt := 647) X dL_isCycle_643 (by decide) ?_
                        refine z_lv (lv' := [(0, .ref (o 0)), (14, .int v_171), (19, .int j_434), (22, .int v_503), (23, .int r_508), (25, .int j_613)]) [1, 3, 4, 5, 6, 0] rfl ?_
                        exact J_j_647 j_613 (by simp only [if_neg c_638])
                    · refine z_iload X dL_isCycle_622 2 rfl ?_
                      refine z_aload_n X dL_isCycle_624 1 rfl ?_
                      refine z_bipush (v := (22 : Int32)) X dL_isCycle_625 (by decide) ?_
                      refine z_callVi0 X (c_S_count l D kI kC kQ o r ad_175 r_175.2 (22 : Int32) hO2) (gV wd1_185 wd1_186 wd1_187 wd1_1 wd1_188) k_S_count rfl rfl ⟨Nat.le_of_ble_eq_true rfl, Nat.le_of_ble_eq_true rfl⟩ ⟨Nat.zero_le _, Nat.zero_le _⟩ 2 0 wS_0 rfl rfl rfl rfl (Nat.le_of_ble_eq_true rfl) dL_isCycle_627 (fun r_627 er_627 => ?_)
                      refine z_isub X dL_isCycle_630 ?_
                      refine z_goto (tgt := 655) X dL_isCycle_631 (by decide) ?_
                      refine z_lv (lv' := [(0, .ref (o 0)), (14, .int v_171), (19, .int j_434), (22, .int v_503), (23, .int r_508), (25, .int j_613)]) [1, 3, 4, 5, 6, 0] rfl ?_
                      exact J_j_655 (r_84 - r_627) (by (with_reducible subst er_627); simp only [if_neg c_619])
                  refine z_icmp_le (tgt := 608) X dL_isCycle_596 (by decide) (fun c_596 => ?_) (fun c_596 => ?_)
                  · refine z_iload X dL_isCycle_608 7 rfl ?_
                    refine z_iload X dL_isCycle_610 8 rfl ?_
                    refine z_isub X dL_isCycle_612 ?_
                    refine z_lv (lv' := [(0, .ref (o 0)), (5, .int r_84), (14, .int v_171), (19, .int j_434), (22, .int v_503), (23, .int r_508)]) [1, 2, 4, 6, 7, 8] rfl ?_
                    exact J_j_613 (v_503 - r_508) (by simp only [if_pos c_596])
                  · refine z_aload_n X dL_isCycle_599 1 rfl ?_
                    refine z_bipush (v := (23 : Int32)) X dL_isCycle_600 (by decide) ?_
                    refine z_callVi0 X (c_S_count l D kI kC kQ o r ad_175 r_175.2 (23 : Int32) hO2) (gV wd1_185 wd1_186 wd1_187 wd1_1 wd1_188) k_S_count rfl rfl ⟨Nat.le_of_ble_eq_true rfl, Nat.le_of_ble_eq_true rfl⟩ ⟨Nat.zero_le _, Nat.zero_le _⟩ 2 0 wS_0 rfl rfl rfl rfl (Nat.le_of_ble_eq_true rfl) dL_isCycle_602 (fun r_602 er_602 => ?_)
                    refine z_goto (tgt := 613) X dL_isCycle_605 (by decide) ?_
                    refine z_lv (lv' := [(0, .ref (o 0)), (5, .int r_84), (14, .int v_171), (19, .int j_434), (22, .int v_503), (23, .int r_508)]) [1, 2, 4, 6, 7, 8] rfl ?_
                    exact J_j_613 r_602 (by (with_reducible subst er_602); simp only [if_neg c_596])
                · refine z_iload X dL_isCycle_539 6 rfl ?_
                  have J_j_584 : ∀ (j_584 : Int32), j_584 = (if j_434 = (0 : Int32) then ((0 : Int32)) else (let r_547 : Int32 := (F_S_count r_175.2 (8 : Int32)); if r_547 = (r_121 + j_193) then (let r_561 : Int32 := (F_S_count r_175.2 (9 : Int32)); if r_561 = v_503 then (let r_571 : Int32 := (F_S_count r_175.2 (0 : Int32)); if r_571 = r_84 then ((1 : Int32)) else ((0 : Int32))) else ((0 : Int32))) else ((0 : Int32)))) → Z p l e { frames := 6, cells := 0, slots := 0, locals := 129 } s m args below meth c D A 27 0 0 Q (wS kI kC kQ o r ad_175 r_175.2) [] 584 [.int j_584] := by
                    intro j_584 ej_584
                    exact z_zret X hQ rfl ((j_584, r_175.2), ad_175) rfl rfl (by (with_reducible subst er_3 er_9 eq_21 er_84 er_91 er_98 er_105 er_113 er_121 er_129 er_137 er_144 ej_156 er_161 er_167 ev_171 er_175 ej_193 eq_204 ej_270 ej_363 er_367 ev_373 ev_387 ej_434 ev_503 er_508 er_521 ej_532 ej_584); simp only [F_L_isCycle, if_neg c_438, if_pos c_536]) (nb (by rw [ej_584]; (try dsimp only); repeat' first | (with_reducible apply bl_ite) | exact Or.inl rfl | exact Or.inr rfl)) dL_isCycle_584
                  refine z_if_eq (tgt := 583) X dL_isCycle_541 (by decide) (fun c_541 => ?_) (fun c_541 => ?_)
                  · refine z_iconst (v := (0 : Int32)) X dL_isCycle_583 (by decide) ?_
                    refine z_lv (lv' := []) [] rfl ?_
                    exact J_j_584 (0 : Int32) (by simp only [if_pos c_541])
                  · refine z_aload_n X dL_isCycle_544 1 rfl ?_
                    refine z_bipush (v := (8 : Int32)) X dL_isCycle_545 (by decide) ?_
                    refine z_callVi0 X (c_S_count l D kI kC kQ o r ad_175 r_175.2 (8 : Int32) hO2) (gV wd1_185 wd1_186 wd1_187 wd1_1 wd1_188) k_S_count rfl rfl ⟨Nat.le_of_ble_eq_true rfl, Nat.le_of_ble_eq_true rfl⟩ ⟨Nat.zero_le _, Nat.zero_le _⟩ 2 0 wS_0 rfl rfl rfl rfl (Nat.le_of_ble_eq_true rfl) dL_isCycle_547 (fun r_547 er_547 => ?_)
                    refine z_iload X dL_isCycle_550 3 rfl ?_
                    refine z_iload X dL_isCycle_552 5 rfl ?_
                    refine z_iadd X dL_isCycle_554 ?_
                    refine z_icmp_ne (tgt := 583) X dL_isCycle_555 (by decide) (fun c_555 => ?_) (fun c_555 => ?_)
                    · refine z_iconst (v := (0 : Int32)) X dL_isCycle_583 (by decide) ?_
                      refine z_lv (lv' := []) [] rfl ?_
                      exact J_j_584 (0 : Int32) (by (with_reducible subst er_547); simp only [if_neg c_541, if_neg c_555])
                    · refine z_aload_n X dL_isCycle_558 1 rfl ?_
                      refine z_bipush (v := (9 : Int32)) X dL_isCycle_559 (by decide) ?_
                      refine z_callVi0 X (c_S_count l D kI kC kQ o r ad_175 r_175.2 (9 : Int32) hO2) (gV wd1_185 wd1_186 wd1_187 wd1_1 wd1_188) k_S_count rfl rfl ⟨Nat.le_of_ble_eq_true rfl, Nat.le_of_ble_eq_true rfl⟩ ⟨Nat.zero_le _, Nat.zero_le _⟩ 2 0 wS_0 rfl rfl rfl rfl (Nat.le_of_ble_eq_true rfl) dL_isCycle_561 (fun r_561 er_561 => ?_)
                      refine z_iload X dL_isCycle_564 7 rfl ?_
                      refine z_icmp_ne (tgt := 583) X dL_isCycle_566 (by decide) (fun c_566 => ?_) (fun c_566 => ?_)
                      · refine z_iconst (v := (0 : Int32)) X dL_isCycle_583 (by decide) ?_
                        refine z_lv (lv' := []) [] rfl ?_
                        exact J_j_584 (0 : Int32) (by (with_reducible subst er_547 er_561); simp only [if_neg c_541, if_pos c_555, if_neg c_566])
                      · refine z_aload_n X dL_isCycle_569 1 rfl ?_
                        refine z_iconst (v := (0 : Int32)) X dL_isCycle_570 (by decide) ?_
                        refine z_callVi0 X (c_S_count l D kI kC kQ o r ad_175 r_175.2 (0 : Int32) hO2) (gV wd1_185 wd1_186 wd1_187 wd1_1 wd1_188) k_S_count rfl rfl ⟨Nat.le_of_ble_eq_true rfl, Nat.le_of_ble_eq_true rfl⟩ ⟨Nat.zero_le _, Nat.zero_le _⟩ 2 0 wS_0 rfl rfl rfl rfl (Nat.le_of_ble_eq_true rfl) dL_isCycle_571 (fun r_571 er_571 => ?_)
                        refine z_iload X dL_isCycle_574 2 rfl ?_
                        refine z_icmp_ne (tgt := 583) X dL_isCycle_576 (by decide) (fun c_576 => ?_) (fun c_576 => ?_)
                        · refine z_iconst (v := (0 : Int32)) X dL_isCycle_583 (by decide) ?_
                          refine z_lv (lv' := []) [] rfl ?_
                          exact J_j_584 (0 : Int32) (by (with_reducible subst er_547 er_561 er_571); simp only [if_neg c_541, if_pos c_555, if_pos c_566, if_neg c_576])
                        · refine z_iconst (v := (1 : Int32)) X dL_isCycle_579 (by decide) ?_
                          refine z_goto (tgt := 584) X dL_isCycle_580 (by decide) ?_
                          refine z_lv (lv' := []) [] rfl ?_
                          exact J_j_584 (1 : Int32) (by (with_reducible subst er_547 er_561 er_571); simp only [if_neg c_541, if_pos c_555, if_pos c_566, if_pos c_576])
              refine z_icmp_lt (tgt := 531) X dL_isCycle_524 (by decide) (fun c_524 => ?_) (fun c_524 => ?_)
              · refine z_iconst (v := (0 : Int32)) X dL_isCycle_531 (by decide) ?_
                refine z_lv (lv' := [(0, .ref (o 0)), (5, .int r_84), (10, .int r_121), (14, .int v_171), (16, .int j_193), (19, .int j_434), (22, .int v_503), (23, .int r_508)]) [3, 4, 5, 8, 10, 2, 1, 0] rfl ?_
                exact J_j_532 (0 : Int32) (by simp only [if_pos c_524])
              · refine z_iconst (v := (1 : Int32)) X dL_isCycle_527 (by decide) ?_
                refine z_goto (tgt := 532) X dL_isCycle_528 (by decide) ?_
                refine z_lv (lv' := [(0, .ref (o 0)), (5, .int r_84), (10, .int r_121), (14, .int v_171), (16, .int j_193), (19, .int j_434), (22, .int v_503), (23, .int r_508)]) [3, 4, 5, 8, 10, 2, 1, 0] rfl ?_
                exact J_j_532 (1 : Int32) (by simp only [if_neg c_524])
            · refine z_iload X dL_isCycle_441 0 rfl ?_
              have J_j_497 : ∀ (j_497 : Int32), j_497 = (if j_434 = (0 : Int32) then ((0 : Int32)) else (let r_449 : Int32 := (F_S_count r_175.2 (8 : Int32)); if r_449 = (0 : Int32) then (let r_458 : Int32 := (F_S_count r_175.2 (9 : Int32)); if r_458 = (0 : Int32) then (let r_466 : Int32 := (F_S_count r_175.2 (0 : Int32)); if r_466 = r_84 then (let r_477 : Int32 := (F_S_count r_175.2 (15 : Int32)); let r_483 : Int32 := (F_S_count r_175.2 (16 : Int32)); if (r_477 + r_483) = v_171 then ((1 : Int32)) else ((0 : Int32))) else ((0 : Int32))) else ((0 : Int32))) else ((0 : Int32)))) → Z p l e { frames := 6, cells := 0, slots := 0, locals := 129 } s m args below meth c D A 27 0 0 Q (wS kI kC kQ o r ad_175 r_175.2) [] 497 [.int j_497] := by
                intro j_497 ej_497
                exact z_zret X hQ rfl ((j_497, r_175.2), ad_175) rfl rfl (by (with_reducible subst er_3 er_9 eq_21 er_84 er_91 er_98 er_105 er_113 er_121 er_129 er_137 er_144 ej_156 er_161 er_167 ev_171 er_175 ej_193 eq_204 ej_270 ej_363 er_367 ev_373 ev_387 ej_434 ej_497); simp only [F_L_isCycle, if_pos c_438]) (nb (by rw [ej_497]; (try dsimp only); repeat' first | (with_reducible apply bl_ite) | exact Or.inl rfl | exact Or.inr rfl)) dL_isCycle_497
              refine z_if_eq (tgt := 496) X dL_isCycle_443 (by decide) (fun c_443 => ?_) (fun c_443 => ?_)
              · refine z_iconst (v := (0 : Int32)) X dL_isCycle_496 (by decide) ?_
                refine z_lv (lv' := []) [] rfl ?_
                exact J_j_497 (0 : Int32) (by simp only [if_pos c_443])
              · refine z_aload_n X dL_isCycle_446 1 rfl ?_
                refine z_bipush (v := (8 : Int32)) X dL_isCycle_447 (by decide) ?_
                refine z_callVi0 X (c_S_count l D kI kC kQ o r ad_175 r_175.2 (8 : Int32) hO2) (gV wd1_185 wd1_186 wd1_187 wd1_1 wd1_188) k_S_count rfl rfl ⟨Nat.le_of_ble_eq_true rfl, Nat.le_of_ble_eq_true rfl⟩ ⟨Nat.zero_le _, Nat.zero_le _⟩ 2 0 wS_0 rfl rfl rfl rfl (Nat.le_of_ble_eq_true rfl) dL_isCycle_449 (fun r_449 er_449 => ?_)
                refine z_if_ne (tgt := 496) X dL_isCycle_452 (by decide) (fun c_452 => ?_) (fun c_452 => ?_)
                · refine z_iconst (v := (0 : Int32)) X dL_isCycle_496 (by decide) ?_
                  refine z_lv (lv' := []) [] rfl ?_
                  exact J_j_497 (0 : Int32) (by (with_reducible subst er_449); simp only [if_neg c_443, if_neg c_452])
                · refine z_aload_n X dL_isCycle_455 1 rfl ?_
                  refine z_bipush (v := (9 : Int32)) X dL_isCycle_456 (by decide) ?_
                  refine z_callVi0 X (c_S_count l D kI kC kQ o r ad_175 r_175.2 (9 : Int32) hO2) (gV wd1_185 wd1_186 wd1_187 wd1_1 wd1_188) k_S_count rfl rfl ⟨Nat.le_of_ble_eq_true rfl, Nat.le_of_ble_eq_true rfl⟩ ⟨Nat.zero_le _, Nat.zero_le _⟩ 2 0 wS_0 rfl rfl rfl rfl (Nat.le_of_ble_eq_true rfl) dL_isCycle_458 (fun r_458 er_458 => ?_)
                  refine z_if_ne (tgt := 496) X dL_isCycle_461 (by decide) (fun c_461 => ?_) (fun c_461 => ?_)
                  · refine z_iconst (v := (0 : Int32)) X dL_isCycle_496 (by decide) ?_
                    refine z_lv (lv' := []) [] rfl ?_
                    exact J_j_497 (0 : Int32) (by (with_reducible subst er_449 er_458); simp only [if_neg c_443, if_pos c_452, if_neg c_461])
                  · refine z_aload_n X dL_isCycle_464 1 rfl ?_
                    refine z_iconst (v := (0 : Int32)) X dL_isCycle_465 (by decide) ?_
                    refine z_callVi0 X (c_S_count l D kI kC kQ o r ad_175 r_175.2 (0 : Int32) hO2) (gV wd1_185 wd1_186 wd1_187 wd1_1 wd1_188) k_S_count rfl rfl ⟨Nat.le_of_ble_eq_true rfl, Nat.le_of_ble_eq_true rfl⟩ ⟨Nat.zero_le _, Nat.zero_le _⟩ 2 0 wS_0 rfl rfl rfl rfl (Nat.le_of_ble_eq_true rfl) dL_isCycle_466 (fun r_466 er_466 => ?_)
                    refine z_iload X dL_isCycle_469 2 rfl ?_
                    refine z_icmp_ne (tgt := 496) X dL_isCycle_471 (by decide) (fun c_471 => ?_) (fun c_471 => ?_)
                    · refine z_iconst (v := (0 : Int32)) X dL_isCycle_496 (by decide) ?_
                      refine z_lv (lv' := []) [] rfl ?_
                      exact J_j_497 (0 : Int32) (by (with_reducible subst er_449 er_458 er_466); simp only [if_neg c_443, if_pos c_452, if_pos c_461, if_neg c_471])
                    · refine z_aload_n X dL_isCycle_474 1 rfl ?_
                      refine z_bipush (v := (15 : Int32)) X dL_isCycle_475 (by decide) ?_
                      refine z_callVi0 X (c_S_count l D kI kC kQ o r ad_175 r_175.2 (15 : Int32) hO2) (gV wd1_185 wd1_186 wd1_187 wd1_1 wd1_188) k_S_count rfl rfl ⟨Nat.le_of_ble_eq_true rfl, Nat.le_of_ble_eq_true rfl⟩ ⟨Nat.zero_le _, Nat.zero_le _⟩ 2 0 wS_0 rfl rfl rfl rfl (Nat.le_of_ble_eq_true rfl) dL_isCycle_477 (fun r_477 er_477 => ?_)
                      refine z_aload_n X dL_isCycle_480 1 rfl ?_
                      refine z_bipush (v := (16 : Int32)) X dL_isCycle_481 (by decide) ?_
                      refine z_callVi0 X (c_S_count l D kI kC kQ o r ad_175 r_175.2 (16 : Int32) hO2) (gV wd1_185 wd1_186 wd1_187 wd1_1 wd1_188) k_S_count rfl rfl ⟨Nat.le_of_ble_eq_true rfl, Nat.le_of_ble_eq_true rfl⟩ ⟨Nat.zero_le _, Nat.zero_le _⟩ 2 0 wS_0 rfl rfl rfl rfl (Nat.le_of_ble_eq_true rfl) dL_isCycle_483 (fun r_483 er_483 => ?_)
                      refine z_iadd X dL_isCycle_486 ?_
                      refine z_iload X dL_isCycle_487 6 rfl ?_
                      refine z_icmp_ne (tgt := 496) X dL_isCycle_489 (by decide) (fun c_489 => ?_) (fun c_489 => ?_)
                      · refine z_iconst (v := (0 : Int32)) X dL_isCycle_496 (by decide) ?_
                        refine z_lv (lv' := []) [] rfl ?_
                        exact J_j_497 (0 : Int32) (by (with_reducible subst er_449 er_458 er_466 er_477 er_483); simp only [if_neg c_443, if_pos c_452, if_pos c_461, if_pos c_471, if_neg c_489])
                      · refine z_iconst (v := (1 : Int32)) X dL_isCycle_492 (by decide) ?_
                        refine z_goto (tgt := 497) X dL_isCycle_493 (by decide) ?_
                        refine z_lv (lv' := []) [] rfl ?_
                        exact J_j_497 (1 : Int32) (by (with_reducible subst er_449 er_458 er_466 er_477 er_483); simp only [if_neg c_443, if_pos c_452, if_pos c_461, if_pos c_471, if_pos c_489])
          refine z_if_eq (tgt := 433) X dL_isCycle_391 (by decide) (fun c_391 => ?_) (fun c_391 => ?_)
          · refine z_iconst (v := (0 : Int32)) X dL_isCycle_433 (by decide) ?_
            refine z_lv (lv' := [(0, .ref (o 0)), (5, .int r_84), (10, .int r_121), (11, .int r_129), (13, .int j_156), (14, .int v_171), (15, .int r_175.1), (16, .int j_193)]) [3, 4, 7, 8, 9, 10, 11, 12] rfl ?_
            exact J_j_434 (0 : Int32) (by simp only [if_pos c_391])
          · refine z_iload X dL_isCycle_394 1 rfl ?_
            refine z_iload X dL_isCycle_396 0 rfl ?_
            refine z_icmp_gt (tgt := 433) X dL_isCycle_398 (by decide) (fun c_398 => ?_) (fun c_398 => ?_)
            · refine z_iconst (v := (0 : Int32)) X dL_isCycle_433 (by decide) ?_
              refine z_lv (lv' := [(0, .ref (o 0)), (5, .int r_84), (10, .int r_121), (11, .int r_129), (13, .int j_156), (14, .int v_171), (15, .int r_175.1), (16, .int j_193)]) [3, 4, 7, 8, 9, 10, 11, 12] rfl ?_
              exact J_j_434 (0 : Int32) (by simp only [if_neg c_391, if_pos c_398])
            · refine z_iload X dL_isCycle_401 1 rfl ?_
              refine z_ineg X dL_isCycle_403 ?_
              refine z_iload X dL_isCycle_404 0 rfl ?_
              refine z_icmp_gt (tgt := 433) X dL_isCycle_406 (by decide) (fun c_406 => ?_) (fun c_406 => ?_)
              · refine z_iconst (v := (0 : Int32)) X dL_isCycle_433 (by decide) ?_
                refine z_lv (lv' := [(0, .ref (o 0)), (5, .int r_84), (10, .int r_121), (11, .int r_129), (13, .int j_156), (14, .int v_171), (15, .int r_175.1), (16, .int j_193)]) [3, 4, 7, 8, 9, 10, 11, 12] rfl ?_
                exact J_j_434 (0 : Int32) (by simp only [if_neg c_391, if_neg c_398, if_pos c_406])
              · refine z_aload_n X dL_isCycle_409 3 rfl ?_
                refine z_iconst (v := (1 : Int32)) X dL_isCycle_410 (by decide) ?_
                refine z_callVi0 X (c_S_count l D kI kC kQ o r ad_175 r_175.2 (1 : Int32) hO2) (gV wd1_185 wd1_186 wd1_187 wd1_1 wd1_188) k_S_count rfl rfl ⟨Nat.le_of_ble_eq_true rfl, Nat.le_of_ble_eq_true rfl⟩ ⟨Nat.zero_le _, Nat.zero_le _⟩ 2 0 wS_0 rfl rfl rfl rfl (Nat.le_of_ble_eq_true rfl) dL_isCycle_411 (fun r_411 er_411 => ?_)
                refine z_bipush (v := (20 : Int32)) X dL_isCycle_414 (by decide) ?_
                refine z_icmp_lt (tgt := 433) X dL_isCycle_416 (by decide) (fun c_416 => ?_) (fun c_416 => ?_)
                · refine z_iconst (v := (0 : Int32)) X dL_isCycle_433 (by decide) ?_
                  refine z_lv (lv' := [(0, .ref (o 0)), (5, .int r_84), (10, .int r_121), (11, .int r_129), (13, .int j_156), (14, .int v_171), (15, .int r_175.1), (16, .int j_193)]) [3, 4, 7, 8, 9, 10, 11, 12] rfl ?_
                  exact J_j_434 (0 : Int32) (by (with_reducible subst er_411); simp only [if_neg c_391, if_neg c_398, if_neg c_406, if_pos c_416])
                · refine z_aload_n X dL_isCycle_419 3 rfl ?_
                  refine z_iconst (v := (1 : Int32)) X dL_isCycle_420 (by decide) ?_
                  refine z_callVi0 X (c_S_count l D kI kC kQ o r ad_175 r_175.2 (1 : Int32) hO2) (gV wd1_185 wd1_186 wd1_187 wd1_1 wd1_188) k_S_count rfl rfl ⟨Nat.le_of_ble_eq_true rfl, Nat.le_of_ble_eq_true rfl⟩ ⟨Nat.zero_le _, Nat.zero_le _⟩ 2 0 wS_0 rfl rfl rfl rfl (Nat.le_of_ble_eq_true rfl) dL_isCycle_421 (fun r_421 er_421 => ?_)
                  refine z_bipush (v := (120 : Int32)) X dL_isCycle_424 (by decide) ?_
                  refine z_icmp_gt (tgt := 433) X dL_isCycle_426 (by decide) (fun c_426 => ?_) (fun c_426 => ?_)
                  · refine z_iconst (v := (0 : Int32)) X dL_isCycle_433 (by decide) ?_
                    refine z_lv (lv' := [(0, .ref (o 0)), (5, .int r_84), (10, .int r_121), (11, .int r_129), (13, .int j_156), (14, .int v_171), (15, .int r_175.1), (16, .int j_193)]) [3, 4, 7, 8, 9, 10, 11, 12] rfl ?_
                    exact J_j_434 (0 : Int32) (by (with_reducible subst er_411 er_421); simp only [if_neg c_391, if_neg c_398, if_neg c_406, if_neg c_416, if_pos c_426])
                  · refine z_iconst (v := (1 : Int32)) X dL_isCycle_429 (by decide) ?_
                    refine z_goto (tgt := 434) X dL_isCycle_430 (by decide) ?_
                    refine z_lv (lv' := [(0, .ref (o 0)), (5, .int r_84), (10, .int r_121), (11, .int r_129), (13, .int j_156), (14, .int v_171), (15, .int r_175.1), (16, .int j_193)]) [3, 4, 7, 8, 9, 10, 11, 12] rfl ?_
                    exact J_j_434 (1 : Int32) (by (with_reducible subst er_411 er_421); simp only [if_neg c_391, if_neg c_398, if_neg c_406, if_neg c_416, if_neg c_426])
        refine z_icmp_ne (tgt := 362) X dL_isCycle_270 (by decide) (fun c_270 => ?_) (fun c_270 => ?_)
        · refine z_iconst (v := (0 : Int32)) X dL_isCycle_362 (by decide) ?_
          refine z_lv (lv' := [(0, .ref (o 0)), (5, .int r_84), (6, .int r_91), (7, .int r_98), (10, .int r_121), (11, .int r_129), (13, .int j_156), (14, .int v_171), (15, .int r_175.1), (16, .int j_193)]) [0, 4, 5, 6, 9, 10, 11, 12, 13, 14] rfl ?_
          exact J_j_363 (0 : Int32) (by simp only [if_neg c_270])
        · refine z_aload_n X dL_isCycle_273 0 rfl ?_
          refine z_iconst (v := (3 : Int32)) X dL_isCycle_274 (by decide) ?_
          refine z_callVi0 X (c_S_count l D kI kC kQ o r ad_175 r_175.2 (3 : Int32) hO2) (gV wd1_185 wd1_186 wd1_187 wd1_1 wd1_188) k_S_count rfl rfl ⟨Nat.le_of_ble_eq_true rfl, Nat.le_of_ble_eq_true rfl⟩ ⟨Nat.zero_le _, Nat.zero_le _⟩ 2 0 wS_0 rfl rfl rfl rfl (Nat.le_of_ble_eq_true rfl) dL_isCycle_275 (fun r_275 er_275 => ?_)
          refine z_iload X dL_isCycle_278 6 rfl ?_
          refine z_iload X dL_isCycle_280 14 rfl ?_
          refine z_iadd X dL_isCycle_282 ?_
          refine z_icmp_ne (tgt := 362) X dL_isCycle_283 (by decide) (fun c_283 => ?_) (fun c_283 => ?_)
          · refine z_iconst (v := (0 : Int32)) X dL_isCycle_362 (by decide) ?_
            refine z_lv (lv' := [(0, .ref (o 0)), (5, .int r_84), (6, .int r_91), (7, .int r_98), (10, .int r_121), (11, .int r_129), (13, .int j_156), (14, .int v_171), (15, .int r_175.1), (16, .int j_193)]) [0, 4, 5, 6, 9, 10, 11, 12, 13, 14] rfl ?_
            exact J_j_363 (0 : Int32) (by (with_reducible subst er_275); simp only [if_pos c_270, if_neg c_283])
          · refine z_aload_n X dL_isCycle_286 0 rfl ?_
            refine z_iconst (v := (4 : Int32)) X dL_isCycle_287 (by decide) ?_
            refine z_callVi0 X (c_S_count l D kI kC kQ o r ad_175 r_175.2 (4 : Int32) hO2) (gV wd1_185 wd1_186 wd1_187 wd1_1 wd1_188) k_S_count rfl rfl ⟨Nat.le_of_ble_eq_true rfl, Nat.le_of_ble_eq_true rfl⟩ ⟨Nat.zero_le _, Nat.zero_le _⟩ 2 0 wS_0 rfl rfl rfl rfl (Nat.le_of_ble_eq_true rfl) dL_isCycle_288 (fun r_288 er_288 => ?_)
            refine z_iload X dL_isCycle_291 7 rfl ?_
            refine z_iload_n X dL_isCycle_293 2 rfl ?_
            refine z_iconst (v := (2 : Int32)) X dL_isCycle_294 (by decide) ?_
            have J_j_303 : ∀ (j_303 : Int32), j_303 = (if q_21.1 = (2 : Int32) then ((0 : Int32)) else ((1 : Int32))) → Z p l e { frames := 6, cells := 0, slots := 0, locals := 129 } s m args below meth c D A 27 0 0 Q (wS kI kC kQ o r ad_175 r_175.2) [(0, .ref (o 0)), (1, .int r_3), (3, .int q_21.1), (4, .int q_21.2), (5, .int r_84), (6, .int r_91), (7, .int r_98), (9, .int r_113), (10, .int r_121), (11, .int r_129), (13, .int j_156), (14, .int v_171), (15, .int r_175.1), (16, .int j_193), (17, .int q_204.1), (18, .int q_204.2)] 303 [.int j_303, .int r_105, .int r_288] := by
              intro j_303 ej_303
              refine z_iadd X dL_isCycle_303 ?_
              refine z_icmp_ne (tgt := 362) X dL_isCycle_304 (by decide) (fun c_304 => ?_) (fun c_304 => ?_)
              · refine z_iconst (v := (0 : Int32)) X dL_isCycle_362 (by decide) ?_
                refine z_lv (lv' := [(0, .ref (o 0)), (5, .int r_84), (6, .int r_91), (7, .int r_98), (10, .int r_121), (11, .int r_129), (13, .int j_156), (14, .int v_171), (15, .int r_175.1), (16, .int j_193)]) [0, 4, 5, 6, 8, 9, 10, 11, 12, 13] rfl ?_
                exact J_j_363 (0 : Int32) (by (with_reducible subst er_275 er_288 ej_303); simp only [if_pos c_270, if_pos c_283, if_neg c_304])
              · refine z_aload_n X dL_isCycle_307 0 rfl ?_
                refine z_bipush (v := (6 : Int32)) X dL_isCycle_308 (by decide) ?_
                refine z_callVi0 X (c_S_count l D kI kC kQ o r ad_175 r_175.2 (6 : Int32) hO2) (gV wd1_185 wd1_186 wd1_187 wd1_1 wd1_188) k_S_count rfl rfl ⟨Nat.le_of_ble_eq_true rfl, Nat.le_of_ble_eq_true rfl⟩ ⟨Nat.zero_le _, Nat.zero_le _⟩ 2 0 wS_0 rfl rfl rfl rfl (Nat.le_of_ble_eq_true rfl) dL_isCycle_310 (fun r_310 er_310 => ?_)
                refine z_iload X dL_isCycle_313 7 rfl ?_
                refine z_iload_n X dL_isCycle_315 2 rfl ?_
                refine z_iconst (v := (2 : Int32)) X dL_isCycle_316 (by decide) ?_
                have J_j_325 : ∀ (j_325 : Int32), j_325 = (if q_21.1 = (2 : Int32) then ((1 : Int32)) else ((0 : Int32))) → Z p l e { frames := 6, cells := 0, slots := 0, locals := 129 } s m args below meth c D A 27 0 0 Q (wS kI kC kQ o r ad_175 r_175.2) [(0, .ref (o 0)), (1, .int r_3), (4, .int q_21.2), (5, .int r_84), (6, .int r_91), (7, .int r_98), (10, .int r_121), (11, .int r_129), (13, .int j_156), (14, .int v_171), (15, .int r_175.1), (16, .int j_193), (17, .int q_204.1), (18, .int q_204.2)] 325 [.int j_325, .int r_113, .int r_310] := by
                  intro j_325 ej_325
                  refine z_iadd X dL_isCycle_325 ?_
                  refine z_icmp_ne (tgt := 362) X dL_isCycle_326 (by decide) (fun c_326 => ?_) (fun c_326 => ?_)
                  · refine z_iconst (v := (0 : Int32)) X dL_isCycle_362 (by decide) ?_
                    refine z_lv (lv' := [(0, .ref (o 0)), (5, .int r_84), (6, .int r_91), (7, .int r_98), (10, .int r_121), (11, .int r_129), (13, .int j_156), (14, .int v_171), (15, .int r_175.1), (16, .int j_193)]) [0, 3, 4, 5, 6, 7, 8, 9, 10, 11] rfl ?_
                    exact J_j_363 (0 : Int32) (by (with_reducible subst er_275 er_288 ej_303 er_310 ej_325); simp only [if_pos c_270, if_pos c_283, if_pos c_304, if_neg c_326])
                  · refine z_iload X dL_isCycle_329 12 rfl ?_
                    refine z_iload X dL_isCycle_331 2 rfl ?_
                    refine z_iload X dL_isCycle_333 13 rfl ?_
                    refine z_iadd X dL_isCycle_335 ?_
                    refine z_icmp_ne (tgt := 362) X dL_isCycle_336 (by decide) (fun c_336 => ?_) (fun c_336 => ?_)
                    · refine z_iconst (v := (0 : Int32)) X dL_isCycle_362 (by decide) ?_
                      refine z_lv (lv' := [(0, .ref (o 0)), (5, .int r_84), (6, .int r_91), (7, .int r_98), (10, .int r_121), (11, .int r_129), (13, .int j_156), (14, .int v_171), (15, .int r_175.1), (16, .int j_193)]) [0, 3, 4, 5, 6, 7, 8, 9, 10, 11] rfl ?_
                      exact J_j_363 (0 : Int32) (by (with_reducible subst er_275 er_288 ej_303 er_310 ej_325); simp only [if_pos c_270, if_pos c_283, if_pos c_304, if_pos c_326, if_neg c_336])
                    · refine z_aload_n X dL_isCycle_339 0 rfl ?_
                      refine z_bipush (v := (11 : Int32)) X dL_isCycle_340 (by decide) ?_
                      refine z_callVi0 X (c_S_count l D kI kC kQ o r ad_175 r_175.2 (11 : Int32) hO2) (gV wd1_185 wd1_186 wd1_187 wd1_1 wd1_188) k_S_count rfl rfl ⟨Nat.le_of_ble_eq_true rfl, Nat.le_of_ble_eq_true rfl⟩ ⟨Nat.zero_le _, Nat.zero_le _⟩ 2 0 wS_0 rfl rfl rfl rfl (Nat.le_of_ble_eq_true rfl) dL_isCycle_342 (fun r_342 er_342 => ?_)
                      refine z_iload_n X dL_isCycle_345 1 rfl ?_
                      refine z_iconst (v := (1 : Int32)) X dL_isCycle_346 (by decide) ?_
                      refine z_iadd X dL_isCycle_347 ?_
                      refine z_aload_n X dL_isCycle_348 0 rfl ?_
                      refine z_bipush (v := (10 : Int32)) X dL_isCycle_349 (by decide) ?_
                      refine z_callVi0 X (c_S_count l D kI kC kQ o r ad_175 r_175.2 (10 : Int32) hO2) (gV wd1_185 wd1_186 wd1_187 wd1_1 wd1_188) k_S_count rfl rfl ⟨Nat.le_of_ble_eq_true rfl, Nat.le_of_ble_eq_true rfl⟩ ⟨Nat.zero_le _, Nat.zero_le _⟩ 2 0 wS_0 rfl rfl rfl rfl (Nat.le_of_ble_eq_true rfl) dL_isCycle_351 (fun r_351 er_351 => ?_)
                      refine z_irem X dL_isCycle_354 (by rw [er_351]; exact cnt10_ne hO2) ?_
                      refine z_icmp_ne (tgt := 362) X dL_isCycle_355 (by decide) (fun c_355 => ?_) (fun c_355 => ?_)
                      · refine z_iconst (v := (0 : Int32)) X dL_isCycle_362 (by decide) ?_
                        refine z_lv (lv' := [(0, .ref (o 0)), (5, .int r_84), (6, .int r_91), (7, .int r_98), (10, .int r_121), (11, .int r_129), (13, .int j_156), (14, .int v_171), (15, .int r_175.1), (16, .int j_193)]) [0, 3, 4, 5, 6, 7, 8, 9, 10, 11] rfl ?_
                        exact J_j_363 (0 : Int32) (by (with_reducible subst er_275 er_288 ej_303 er_310 ej_325 er_342 er_351); simp only [if_pos c_270, if_pos c_283, if_pos c_304, if_pos c_326, if_pos c_336, if_neg c_355])
                      · refine z_iconst (v := (1 : Int32)) X dL_isCycle_358 (by decide) ?_
                        refine z_goto (tgt := 363) X dL_isCycle_359 (by decide) ?_
                        refine z_lv (lv' := [(0, .ref (o 0)), (5, .int r_84), (6, .int r_91), (7, .int r_98), (10, .int r_121), (11, .int r_129), (13, .int j_156), (14, .int v_171), (15, .int r_175.1), (16, .int j_193)]) [0, 3, 4, 5, 6, 7, 8, 9, 10, 11] rfl ?_
                        exact J_j_363 (1 : Int32) (by (with_reducible subst er_275 er_288 ej_303 er_310 ej_325 er_342 er_351); simp only [if_pos c_270, if_pos c_283, if_pos c_304, if_pos c_326, if_pos c_336, if_pos c_355])
                refine z_icmp_ne (tgt := 324) X dL_isCycle_317 (by decide) (fun c_317 => ?_) (fun c_317 => ?_)
                · refine z_iconst (v := (0 : Int32)) X dL_isCycle_324 (by decide) ?_
                  refine z_lv (lv' := [(0, .ref (o 0)), (1, .int r_3), (4, .int q_21.2), (5, .int r_84), (6, .int r_91), (7, .int r_98), (10, .int r_121), (11, .int r_129), (13, .int j_156), (14, .int v_171), (15, .int r_175.1), (16, .int j_193), (17, .int q_204.1), (18, .int q_204.2)]) [0, 1, 3, 4, 5, 6, 8, 9, 10, 11, 12, 13, 14, 15] rfl ?_
                  exact J_j_325 (0 : Int32) (by simp only [if_neg c_317])
                · refine z_iconst (v := (1 : Int32)) X dL_isCycle_320 (by decide) ?_
                  refine z_goto (tgt := 325) X dL_isCycle_321 (by decide) ?_
                  refine z_lv (lv' := [(0, .ref (o 0)), (1, .int r_3), (4, .int q_21.2), (5, .int r_84), (6, .int r_91), (7, .int r_98), (10, .int r_121), (11, .int r_129), (13, .int j_156), (14, .int v_171), (15, .int r_175.1), (16, .int j_193), (17, .int q_204.1), (18, .int q_204.2)]) [0, 1, 3, 4, 5, 6, 8, 9, 10, 11, 12, 13, 14, 15] rfl ?_
                  exact J_j_325 (1 : Int32) (by simp only [if_pos c_317])
            refine z_icmp_ne (tgt := 302) X dL_isCycle_295 (by decide) (fun c_295 => ?_) (fun c_295 => ?_)
            · refine z_iconst (v := (1 : Int32)) X dL_isCycle_302 (by decide) ?_
              refine z_lv (lv' := [(0, .ref (o 0)), (1, .int r_3), (3, .int q_21.1), (4, .int q_21.2), (5, .int r_84), (6, .int r_91), (7, .int r_98), (9, .int r_113), (10, .int r_121), (11, .int r_129), (13, .int j_156), (14, .int v_171), (15, .int r_175.1), (16, .int j_193), (17, .int q_204.1), (18, .int q_204.2)]) [0, 1, 2, 3, 4, 5, 6, 8, 9, 10, 11, 12, 13, 14, 15, 16] rfl ?_
              exact J_j_303 (1 : Int32) (by simp only [if_neg c_295])
            · refine z_iconst (v := (0 : Int32)) X dL_isCycle_298 (by decide) ?_
              refine z_goto (tgt := 303) X dL_isCycle_299 (by decide) ?_
              refine z_lv (lv' := [(0, .ref (o 0)), (1, .int r_3), (3, .int q_21.1), (4, .int q_21.2), (5, .int r_84), (6, .int r_91), (7, .int r_98), (9, .int r_113), (10, .int r_121), (11, .int r_129), (13, .int j_156), (14, .int v_171), (15, .int r_175.1), (16, .int j_193), (17, .int q_204.1), (18, .int q_204.2)]) [0, 1, 2, 3, 4, 5, 6, 8, 9, 10, 11, 12, 13, 14, 15, 16] rfl ?_
              exact J_j_303 (0 : Int32) (by simp only [if_pos c_295])
      refine z_icmp_ne (tgt := 269) X dL_isCycle_262 (by decide) (fun c_262 => ?_) (fun c_262 => ?_)
      · refine z_iconst (v := (0 : Int32)) X dL_isCycle_269 (by decide) ?_
        exact J_j_270 (0 : Int32) (by simp only [if_neg c_262])
      · refine z_iconst (v := (1 : Int32)) X dL_isCycle_265 (by decide) ?_
        refine z_goto (tgt := 270) X dL_isCycle_266 (by decide) ?_
        exact J_j_270 (1 : Int32) (by simp only [if_pos c_262])
    refine z_icmp_ne (tgt := 192) X dL_isCycle_182 (by decide) (fun c_182 => ?_) (fun c_182 => ?_)
    · refine z_iconst (v := (1 : Int32)) X dL_isCycle_192 (by decide) ?_
      refine z_lv (lv' := [(0, .ref (o 0)), (1, .int r_3), (2, .int r_9), (3, .int q_21.1), (4, .int q_21.2), (5, .int r_84), (6, .int r_91), (7, .int r_98), (8, .int r_105), (9, .int r_113), (10, .int r_121), (11, .int r_129), (13, .int j_156), (14, .int v_171), (15, .int r_175.1)]) [3, 4, 5, 6, 7, 8, 9, 10, 11, 12, 13, 14, 2, 1, 0] rfl ?_
      exact J_j_193 (1 : Int32) (by simp only [if_neg c_182])
    · refine z_iconst (v := (1 : Int32)) X dL_isCycle_185 (by decide) ?_
      refine z_iload X dL_isCycle_186 15 rfl ?_
      refine z_iadd X dL_isCycle_188 ?_
      refine z_goto (tgt := 193) X dL_isCycle_189 (by decide) ?_
      refine z_lv (lv' := [(0, .ref (o 0)), (1, .int r_3), (2, .int r_9), (3, .int q_21.1), (4, .int q_21.2), (5, .int r_84), (6, .int r_91), (7, .int r_98), (8, .int r_105), (9, .int r_113), (10, .int r_121), (11, .int r_129), (13, .int j_156), (14, .int v_171), (15, .int r_175.1)]) [3, 4, 5, 6, 7, 8, 9, 10, 11, 12, 13, 14, 2, 1, 0] rfl ?_
      exact J_j_193 ((1 : Int32) + r_137) (by simp only [if_pos c_182])
  refine z_icmp_ne (tgt := 155) X dL_isCycle_148 (by decide) (fun c_148 => ?_) (fun c_148 => ?_)
  · refine z_iconst (v := (0 : Int32)) X dL_isCycle_155 (by decide) ?_
    refine z_lv (lv' := [(0, .ref (o 0)), (1, .int r_3), (2, .int r_9), (3, .int q_21.1), (4, .int q_21.2), (5, .int r_84), (6, .int r_91), (7, .int r_98), (8, .int r_105), (9, .int r_113), (10, .int r_121), (11, .int r_129), (12, .int r_137)]) [8, 9, 10, 11, 12, 7, 6, 5, 4, 3, 2, 1, 0] rfl ?_
    exact J_j_156 (0 : Int32) (by simp only [if_neg c_148])
  · refine z_iconst (v := (1 : Int32)) X dL_isCycle_151 (by decide) ?_
    refine z_goto (tgt := 156) X dL_isCycle_152 (by decide) ?_
    refine z_lv (lv' := [(0, .ref (o 0)), (1, .int r_3), (2, .int r_9), (3, .int q_21.1), (4, .int q_21.2), (5, .int r_84), (6, .int r_91), (7, .int r_98), (8, .int r_105), (9, .int r_113), (10, .int r_121), (11, .int r_129), (12, .int r_137)]) [8, 9, 10, 11, 12, 7, 6, 5, 4, 3, 2, 1, 0] rfl ?_
    exact J_j_156 (1 : Int32) (by simp only [if_pos c_148])
