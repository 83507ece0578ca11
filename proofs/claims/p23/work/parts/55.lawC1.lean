set_option maxRecDepth 100000 in
set_option maxHeartbeats 4000000 in
theorem c_L_areAlike (l : Launch) (D : va_G) (kI kC kQ : ClassId) (o r o9 r9 : Nat → Nat) (a9 : Nat) (ao ap : ADT) (V : LW) (hO : ROK V.1) (hP : ROK V.2.1) : CtI (U := Int32) l yL_areAlike cL_areAlike 5 (some .boolean) { frames := 4, cells := 0, slots := 0, locals := 88 } D (tysG kI kC kQ) (wV kI kC kQ o r o9 r9 a9 ao ap V) [.ref (o 0), .ref (o9 0)] (fun u => u) (fun _ => (wV kI kC kQ o r o9 r9 a9 ao ap V)) (fun u => u = F_L_areAlike V) := by
  refine met_Zi (own := "ShadowLatchesLaw") (by decide +kernel) rfl (Nat.le_of_ble_eq_true rfl) ?_
  intro p e s m args below meth c A Q X hQ
  show Z p l e { frames := 4, cells := 0, slots := 0, locals := 88 } s m args below meth c D A 5 0 0 Q (wV kI kC kQ o r o9 r9 a9 ao ap V) [(0, .ref (o 0)), (1, .ref (o9 0))] 0 []
  refine z_aload_n X dL_areAlike_0 0 rfl ?_
  refine z_bipush (v := (12 : Int32)) X dL_areAlike_1 (by decide) ?_
  refine zV_or X (c_S_count l D kI kC kQ o r ao V.1 (12 : Int32) hO.ok) (gV wd1_185 wd1_186 wd1_187 wd1_1 wd1_188) k_S_count rfl rfl ⟨Nat.le_of_ble_eq_true rfl, Nat.le_of_ble_eq_true rfl⟩ ⟨Nat.zero_le _, Nat.zero_le _⟩ rfl rfl (Nat.le_of_ble_eq_true rfl) dL_areAlike_3 (fun r_3 er_3 => ?_)
  refine z_iconst (v := (3 : Int32)) X dL_areAlike_6 (by decide) ?_
  have J_j_61 : ∀ (j_61 : Int32), j_61 = (if r_3 = (3 : Int32) then (let r_13 : Int32 := (F_S_count V.2.1 (12 : Int32)); if r_13 = (5 : Int32) then (let r_23 : Int32 := (F_S_count V.1 (13 : Int32)); let r_29 : Int32 := (F_S_count V.2.1 (13 : Int32)); if r_23 = (r_29 &&& (7 : Int32)) then (let r_41 : Int32 := (F_S_count V.1 (14 : Int32)); let r_47 : Int32 := (F_S_count V.2.1 (14 : Int32)); if r_41 = (r_47 &&& (7 : Int32)) then ((1 : Int32)) else ((0 : Int32))) else ((0 : Int32))) else ((0 : Int32))) else ((0 : Int32))) → Z p l e { frames := 4, cells := 0, slots := 0, locals := 88 } s m args below meth c D A 5 0 0 Q (wV kI kC kQ o r o9 r9 a9 ao ap V) [(0, .ref (o 0)), (1, .ref (o9 0))] 61 [.int j_61] := by
    intro j_61 ej_61
    refine z_istore_n (lv' := [(2, .int j_61), (0, .ref (o 0)), (1, .ref (o9 0))]) X dL_areAlike_61 (Nat.le_of_ble_eq_true rfl) rfl ?_
    refine z_iconst (v := (0 : Int32)) X dL_areAlike_62 (by decide) ?_
    refine z_istore_n (lv' := [(3, .int (0 : Int32)), (2, .int j_61), (0, .ref (o 0)), (1, .ref (o9 0))]) X dL_areAlike_63 (Nat.le_of_ble_eq_true rfl) rfl ?_
    refine z_lv (lv' := [(0, .ref (o 0)), (1, .ref (o9 0)), (2, .int j_61), (3, .int (0 : Int32))]) [2, 3, 1, 0] rfl ?_
    have Lp_64 : ∀ (n : Nat) (x2_64 : Int32) (x3_64 : Int32), (cu 24 n x3_64) → (∀ (q_64 : Int32), q_64 = L_L_areAlike_64 V n x2_64 x3_64 → Z p l e { frames := 4, cells := 0, slots := 0, locals := 88 } s m args below meth c D A 5 0 0 Q (wV kI kC kQ o r o9 r9 a9 ao ap V) [(0, .ref (o 0)), (1, .ref (o9 0)), (2, .int q_64)] 117 []) → Z p l e { frames := 4, cells := 0, slots := 0, locals := 88 } s m args below meth c D A 5 0 0 Q (wV kI kC kQ o r o9 r9 a9 ao ap V) [(0, .ref (o 0)), (1, .ref (o9 0)), (2, .int x2_64), (3, .int x3_64)] 64 [] := by
      intro n
      induction n with
      | zero =>
        intro x2_64 x3_64 hi kk_64
        exfalso
        exact cu_0 hi
      | succ n ih_64 =>
        intro x2_64 x3_64 hi kk_64
        refine z_iload_n X dL_areAlike_64 3 rfl ?_
        refine z_bipush (v := (24 : Int32)) X dL_areAlike_65 (by decide) ?_
        refine z_icmp_ge (tgt := 117) X dL_areAlike_67 (by decide) (fun c_67 => ?_) (fun c_67 => ?_)
        · refine z_lv (lv' := [(0, .ref (o 0)), (1, .ref (o9 0)), (2, .int x2_64)]) [0, 1, 2] rfl ?_
          exact kk_64 x2_64 (by simp only [L_L_areAlike_64, if_pos c_67]) 
        · refine z_iload_n X dL_areAlike_70 2 rfl ?_
          have J_j_110 : ∀ (j_110 : Int32), j_110 = (if x2_64 = (0 : Int32) then ((0 : Int32)) else (if x3_64 = (12 : Int32) then ((1 : Int32)) else (if x3_64 = (13 : Int32) then ((1 : Int32)) else (if x3_64 = (14 : Int32) then ((1 : Int32)) else (let r_94 : Int32 := (F_S_count V.1 x3_64); let r_99 : Int32 := (F_S_count V.2.1 x3_64); if r_94 = r_99 then ((1 : Int32)) else ((0 : Int32))))))) → Z p l e { frames := 4, cells := 0, slots := 0, locals := 88 } s m args below meth c D A 5 0 0 Q (wV kI kC kQ o r o9 r9 a9 ao ap V) [(0, .ref (o 0)), (1, .ref (o9 0)), (3, .int x3_64)] 110 [.int j_110] := by
            intro j_110 ej_110
            refine z_istore_n (lv' := [(2, .int j_110), (0, .ref (o 0)), (1, .ref (o9 0)), (3, .int x3_64)]) X dL_areAlike_110 (Nat.le_of_ble_eq_true rfl) rfl ?_
            obtain ⟨v_111, ev_111⟩ : ∃ y : Int32, y = x3_64 + (1 : Int32) := ⟨_, rfl⟩
            refine z_iinc (v := v_111) (lv' := [(3, .int v_111), (2, .int j_110), (0, .ref (o 0)), (1, .ref (o9 0))]) X dL_areAlike_111 3 rfl (by rw [ev_111]; rfl) (Nat.le_of_ble_eq_true rfl) rfl ?_
            refine z_goto (tgt := 64) X dL_areAlike_114 (by decide) ?_
            refine z_lv (lv' := [(0, .ref (o 0)), (1, .ref (o9 0)), (2, .int j_110), (3, .int v_111)]) [2, 3, 1, 0] rfl ?_
            exact ih_64 j_110 v_111 (cu_b hi (by omega) rfl c_67 ev_111) (fun q_64 eq_64 => kk_64 q_64 (eq_64.trans (by (with_reducible subst ej_110 ev_111); simp only [L_L_areAlike_64, if_neg c_67])))
          refine z_if_eq (tgt := 109) X dL_areAlike_71 (by decide) (fun c_71 => ?_) (fun c_71 => ?_)
          · refine z_iconst (v := (0 : Int32)) X dL_areAlike_109 (by decide) ?_
            refine z_lv (lv' := [(0, .ref (o 0)), (1, .ref (o9 0)), (3, .int x3_64)]) [0, 1, 3] rfl ?_
            exact J_j_110 (0 : Int32) (by simp only [if_pos c_71])
          · refine z_iload_n X dL_areAlike_74 3 rfl ?_
            refine z_bipush (v := (12 : Int32)) X dL_areAlike_75 (by decide) ?_
            refine z_icmp_eq (tgt := 105) X dL_areAlike_77 (by decide) (fun c_77 => ?_) (fun c_77 => ?_)
            · refine z_iconst (v := (1 : Int32)) X dL_areAlike_105 (by decide) ?_
              refine z_goto (tgt := 110) X dL_areAlike_106 (by decide) ?_
              refine z_lv (lv' := [(0, .ref (o 0)), (1, .ref (o9 0)), (3, .int x3_64)]) [0, 1, 3] rfl ?_
              exact J_j_110 (1 : Int32) (by simp only [if_neg c_71, if_pos c_77])
            · refine z_iload_n X dL_areAlike_80 3 rfl ?_
              refine z_bipush (v := (13 : Int32)) X dL_areAlike_81 (by decide) ?_
              refine z_icmp_eq (tgt := 105) X dL_areAlike_83 (by decide) (fun c_83 => ?_) (fun c_83 => ?_)
              · refine z_iconst (v := (1 : Int32)) X dL_areAlike_105 (by decide) ?_
                refine z_goto (tgt := 110) X dL_areAlike_106 (by decide) ?_
                refine z_lv (lv' := [(0, .ref (o 0)), (1, .ref (o9 0)), (3, .int x3_64)]) [0, 1, 3] rfl ?_
                exact J_j_110 (1 : Int32) (by simp only [if_neg c_71, if_neg c_77, if_pos c_83])
              · refine z_iload_n X dL_areAlike_86 3 rfl ?_
                refine z_bipush (v := (14 : Int32)) X dL_areAlike_87 (by decide) ?_
                refine z_icmp_eq (tgt := 105) X dL_areAlike_89 (by decide) (fun c_89 => ?_) (fun c_89 => ?_)
                · refine z_iconst (v := (1 : Int32)) X dL_areAlike_105 (by decide) ?_
                  refine z_goto (tgt := 110) X dL_areAlike_106 (by decide) ?_
                  refine z_lv (lv' := [(0, .ref (o 0)), (1, .ref (o9 0)), (3, .int x3_64)]) [0, 1, 3] rfl ?_
                  exact J_j_110 (1 : Int32) (by simp only [if_neg c_71, if_neg c_77, if_neg c_83, if_pos c_89])
                · refine z_aload_n X dL_areAlike_92 0 rfl ?_
                  refine z_iload_n X dL_areAlike_93 3 rfl ?_
                  refine zV_or X (c_S_count l D kI kC kQ o r ao V.1 x3_64 hO.ok) (gV wd1_185 wd1_186 wd1_187 wd1_1 wd1_188) k_S_count rfl rfl ⟨Nat.le_of_ble_eq_true rfl, Nat.le_of_ble_eq_true rfl⟩ ⟨Nat.zero_le _, Nat.zero_le _⟩ rfl rfl (Nat.le_of_ble_eq_true rfl) dL_areAlike_94 (fun r_94 er_94 => ?_)
                  refine z_aload_n X dL_areAlike_97 1 rfl ?_
                  refine z_iload_n X dL_areAlike_98 3 rfl ?_
                  refine zV_pr X (c_S_count l D kI kC kQ o9 r9 ap V.2.1 x3_64 hP.ok) (gV wd1_185 wd1_186 wd1_187 wd1_1 wd1_188) k_S_count rfl rfl ⟨Nat.le_of_ble_eq_true rfl, Nat.le_of_ble_eq_true rfl⟩ ⟨Nat.zero_le _, Nat.zero_le _⟩ rfl rfl (Nat.le_of_ble_eq_true rfl) dL_areAlike_99 (fun r_99 er_99 => ?_)
                  refine z_icmp_ne (tgt := 109) X dL_areAlike_102 (by decide) (fun c_102 => ?_) (fun c_102 => ?_)
                  · refine z_iconst (v := (0 : Int32)) X dL_areAlike_109 (by decide) ?_
                    refine z_lv (lv' := [(0, .ref (o 0)), (1, .ref (o9 0)), (3, .int x3_64)]) [0, 1, 3] rfl ?_
                    exact J_j_110 (0 : Int32) (by (with_reducible subst er_94 er_99); simp only [if_neg c_71, if_neg c_77, if_neg c_83, if_neg c_89, if_neg c_102])
                  · refine z_iconst (v := (1 : Int32)) X dL_areAlike_105 (by decide) ?_
                    refine z_goto (tgt := 110) X dL_areAlike_106 (by decide) ?_
                    refine z_lv (lv' := [(0, .ref (o 0)), (1, .ref (o9 0)), (3, .int x3_64)]) [0, 1, 3] rfl ?_
                    exact J_j_110 (1 : Int32) (by (with_reducible subst er_94 er_99); simp only [if_neg c_71, if_neg c_77, if_neg c_83, if_neg c_89, if_pos c_102])
    refine Lp_64 25 j_61 (0 : Int32) (cu_i (by omega)) (fun q_64 eq_64 => ?_)
    refine z_iconst (v := (0 : Int32)) X dL_areAlike_117 (by decide) ?_
    refine z_istore_n (lv' := [(3, .int (0 : Int32)), (0, .ref (o 0)), (1, .ref (o9 0)), (2, .int q_64)]) X dL_areAlike_118 (Nat.le_of_ble_eq_true rfl) rfl ?_
    refine z_lv (lv' := [(0, .ref (o 0)), (1, .ref (o9 0)), (2, .int q_64), (3, .int (0 : Int32))]) [1, 2, 3, 0] rfl ?_
    have Lp_119 : ∀ (n : Nat) (x2_119 : Int32) (x3_119 : Int32), (cu 3 n x3_119) → (∀ (q_119 : Int32), q_119 = L_L_areAlike_119 V n x2_119 x3_119 → Z p l e { frames := 4, cells := 0, slots := 0, locals := 88 } s m args below meth c D A 5 0 0 Q (wV kI kC kQ o r o9 r9 a9 ao ap V) [(1, .ref (o9 0)), (2, .int q_119)] 172 []) → Z p l e { frames := 4, cells := 0, slots := 0, locals := 88 } s m args below meth c D A 5 0 0 Q (wV kI kC kQ o r o9 r9 a9 ao ap V) [(0, .ref (o 0)), (1, .ref (o9 0)), (2, .int x2_119), (3, .int x3_119)] 119 [] := by
      intro n
      induction n with
      | zero =>
        intro x2_119 x3_119 hi kk_119
        exfalso
        exact cu_0 hi
      | succ n ih_119 =>
        intro x2_119 x3_119 hi kk_119
        refine z_iload_n X dL_areAlike_119 3 rfl ?_
        refine z_iconst (v := (3 : Int32)) X dL_areAlike_120 (by decide) ?_
        refine z_icmp_ge (tgt := 172) X dL_areAlike_121 (by decide) (fun c_121 => ?_) (fun c_121 => ?_)
        · refine z_lv (lv' := [(1, .ref (o9 0)), (2, .int x2_119)]) [1, 2] rfl ?_
          exact kk_119 x2_119 (by simp only [L_L_areAlike_119, if_pos c_121]) 
        · refine z_iconst (v := (0 : Int32)) X dL_areAlike_124 (by decide) ?_
          refine z_istore (lv' := [(4, .int (0 : Int32)), (0, .ref (o 0)), (1, .ref (o9 0)), (2, .int x2_119), (3, .int x3_119)]) X dL_areAlike_125 (Nat.le_of_ble_eq_true rfl) rfl ?_
          refine z_lv (lv' := [(0, .ref (o 0)), (1, .ref (o9 0)), (2, .int x2_119), (3, .int x3_119), (4, .int (0 : Int32))]) [1, 2, 3, 4, 0] rfl ?_
          have Lp_127 : ∀ (n : Nat) (x2_127 : Int32) (x4_127 : Int32), (cu 5 n x4_127) → (∀ (q_127 : Int32), q_127 = L_L_areAlike_127 V x3_119 n x2_127 x4_127 → Z p l e { frames := 4, cells := 0, slots := 0, locals := 88 } s m args below meth c D A 5 0 0 Q (wV kI kC kQ o r o9 r9 a9 ao ap V) [(0, .ref (o 0)), (1, .ref (o9 0)), (2, .int q_127), (3, .int x3_119)] 166 []) → Z p l e { frames := 4, cells := 0, slots := 0, locals := 88 } s m args below meth c D A 5 0 0 Q (wV kI kC kQ o r o9 r9 a9 ao ap V) [(0, .ref (o 0)), (1, .ref (o9 0)), (2, .int x2_127), (3, .int x3_119), (4, .int x4_127)] 127 [] := by
            intro n
            induction n with
            | zero =>
              intro x2_127 x4_127 hi kk_127
              exfalso
              exact cu_0 hi
            | succ n ih_127 =>
              intro x2_127 x4_127 hi kk_127
              refine z_iload X dL_areAlike_127 4 rfl ?_
              refine z_iconst (v := (5 : Int32)) X dL_areAlike_129 (by decide) ?_
              refine z_icmp_ge (tgt := 166) X dL_areAlike_130 (by decide) (fun c_130 => ?_) (fun c_130 => ?_)
              · refine z_lv (lv' := [(0, .ref (o 0)), (1, .ref (o9 0)), (2, .int x2_127), (3, .int x3_119)]) [0, 1, 2, 3] rfl ?_
                exact kk_127 x2_127 (by simp only [L_L_areAlike_127, if_pos c_130]) 
              · refine z_iload_n X dL_areAlike_133 2 rfl ?_
                have J_j_159 : ∀ (j_159 : Int32), j_159 = (if x2_127 = (0 : Int32) then ((0 : Int32)) else (let r_141 : Int32 := (F_S_path V.1 x3_119 x4_127); let r_148 : Int32 := (F_S_path V.2.1 x3_119 x4_127); if r_141 = r_148 then ((1 : Int32)) else ((0 : Int32)))) → Z p l e { frames := 4, cells := 0, slots := 0, locals := 88 } s m args below meth c D A 5 0 0 Q (wV kI kC kQ o r o9 r9 a9 ao ap V) [(0, .ref (o 0)), (1, .ref (o9 0)), (3, .int x3_119), (4, .int x4_127)] 159 [.int j_159] := by
                  intro j_159 ej_159
                  refine z_istore_n (lv' := [(2, .int j_159), (0, .ref (o 0)), (1, .ref (o9 0)), (3, .int x3_119), (4, .int x4_127)]) X dL_areAlike_159 (Nat.le_of_ble_eq_true rfl) rfl ?_
                  obtain ⟨v_160, ev_160⟩ : ∃ y : Int32, y = x4_127 + (1 : Int32) := ⟨_, rfl⟩
                  refine z_iinc (v := v_160) (lv' := [(4, .int v_160), (2, .int j_159), (0, .ref (o 0)), (1, .ref (o9 0)), (3, .int x3_119)]) X dL_areAlike_160 4 rfl (by rw [ev_160]; rfl) (Nat.le_of_ble_eq_true rfl) rfl ?_
                  refine z_goto (tgt := 127) X dL_areAlike_163 (by decide) ?_
                  refine z_lv (lv' := [(0, .ref (o 0)), (1, .ref (o9 0)), (2, .int j_159), (3, .int x3_119), (4, .int v_160)]) [2, 3, 1, 4, 0] rfl ?_
                  exact ih_127 j_159 v_160 (cu_b hi (by omega) rfl c_130 ev_160) (fun q_127 eq_127 => kk_127 q_127 (eq_127.trans (by (with_reducible subst ej_159 ev_160); simp only [L_L_areAlike_127, if_neg c_130])))
                refine z_if_eq (tgt := 158) X dL_areAlike_134 (by decide) (fun c_134 => ?_) (fun c_134 => ?_)
                · refine z_iconst (v := (0 : Int32)) X dL_areAlike_158 (by decide) ?_
                  refine z_lv (lv' := [(0, .ref (o 0)), (1, .ref (o9 0)), (3, .int x3_119), (4, .int x4_127)]) [0, 1, 3, 4] rfl ?_
                  exact J_j_159 (0 : Int32) (by simp only [if_pos c_134])
                · refine z_aload_n X dL_areAlike_137 0 rfl ?_
                  refine z_iload_n X dL_areAlike_138 3 rfl ?_
                  refine z_iload X dL_areAlike_139 4 rfl ?_
                  refine zV_or X (c_S_path l D kI kC kQ o r ao V.1 x3_119 x4_127 hO.ok) (gV wd1_217 wd1_218 wd1_219 wd1_1 wd1_220) k_S_path rfl rfl ⟨Nat.le_of_ble_eq_true rfl, Nat.le_of_ble_eq_true rfl⟩ ⟨Nat.zero_le _, Nat.zero_le _⟩ rfl rfl (Nat.le_of_ble_eq_true rfl) dL_areAlike_141 (fun r_141 er_141 => ?_)
                  refine z_aload_n X dL_areAlike_144 1 rfl ?_
                  refine z_iload_n X dL_areAlike_145 3 rfl ?_
                  refine z_iload X dL_areAlike_146 4 rfl ?_
                  refine zV_pr X (c_S_path l D kI kC kQ o9 r9 ap V.2.1 x3_119 x4_127 hP.ok) (gV wd1_217 wd1_218 wd1_219 wd1_1 wd1_220) k_S_path rfl rfl ⟨Nat.le_of_ble_eq_true rfl, Nat.le_of_ble_eq_true rfl⟩ ⟨Nat.zero_le _, Nat.zero_le _⟩ rfl rfl (Nat.le_of_ble_eq_true rfl) dL_areAlike_148 (fun r_148 er_148 => ?_)
                  refine z_icmp_ne (tgt := 158) X dL_areAlike_151 (by decide) (fun c_151 => ?_) (fun c_151 => ?_)
                  · refine z_iconst (v := (0 : Int32)) X dL_areAlike_158 (by decide) ?_
                    refine z_lv (lv' := [(0, .ref (o 0)), (1, .ref (o9 0)), (3, .int x3_119), (4, .int x4_127)]) [0, 1, 3, 4] rfl ?_
                    exact J_j_159 (0 : Int32) (by (with_reducible subst er_141 er_148); simp only [if_neg c_134, if_neg c_151])
                  · refine z_iconst (v := (1 : Int32)) X dL_areAlike_154 (by decide) ?_
                    refine z_goto (tgt := 159) X dL_areAlike_155 (by decide) ?_
                    refine z_lv (lv' := [(0, .ref (o 0)), (1, .ref (o9 0)), (3, .int x3_119), (4, .int x4_127)]) [0, 1, 3, 4] rfl ?_
                    exact J_j_159 (1 : Int32) (by (with_reducible subst er_141 er_148); simp only [if_neg c_134, if_pos c_151])
          refine Lp_127 6 x2_119 (0 : Int32) (cu_i (by omega)) (fun q_127 eq_127 => ?_)
          obtain ⟨v_166, ev_166⟩ : ∃ y : Int32, y = x3_119 + (1 : Int32) := ⟨_, rfl⟩
          refine z_iinc (v := v_166) (lv' := [(3, .int v_166), (0, .ref (o 0)), (1, .ref (o9 0)), (2, .int q_127)]) X dL_areAlike_166 3 rfl (by rw [ev_166]; rfl) (Nat.le_of_ble_eq_true rfl) rfl ?_
          refine z_goto (tgt := 119) X dL_areAlike_169 (by decide) ?_
          refine z_lv (lv' := [(0, .ref (o 0)), (1, .ref (o9 0)), (2, .int q_127), (3, .int v_166)]) [1, 2, 3, 0] rfl ?_
          exact ih_119 q_127 v_166 (cu_b hi (by omega) rfl c_121 ev_166) (fun q_119 eq_119 => kk_119 q_119 (eq_119.trans (by (with_reducible subst eq_127 ev_166); simp only [L_L_areAlike_119, if_neg c_121])))
    refine Lp_119 4 q_64 (0 : Int32) (cu_i (by omega)) (fun q_119 eq_119 => ?_)
    refine z_iload_n X dL_areAlike_172 1 rfl ?_
    have J_j_199 : ∀ (j_199 : Int32), j_199 = (if q_119 = (0 : Int32) then ((0 : Int32)) else (let r_179 : Int32 := (F_S_path V.2.1 (3 : Int32) (3 : Int32)); if r_179 = (0 : Int32) then (let r_188 : Int32 := (F_S_path V.2.1 (4 : Int32) (3 : Int32)); if r_188 = (0 : Int32) then ((1 : Int32)) else ((0 : Int32))) else ((0 : Int32)))) → Z p l e { frames := 4, cells := 0, slots := 0, locals := 88 } s m args below meth c D A 5 0 0 Q (wV kI kC kQ o r o9 r9 a9 ao ap V) [] 199 [.int j_199] := by
      intro j_199 ej_199
      exact z_zret X hQ rfl j_199 rfl rfl (by (with_reducible subst er_3 ej_61 eq_64 eq_119 ej_199); simp only [F_L_areAlike]) (nb (by rw [ej_199]; (try dsimp only); repeat' first | (with_reducible apply bl_ite) | exact Or.inl rfl | exact Or.inr rfl)) dL_areAlike_199
    refine z_if_eq (tgt := 198) X dL_areAlike_173 (by decide) (fun c_173 => ?_) (fun c_173 => ?_)
    · refine z_iconst (v := (0 : Int32)) X dL_areAlike_198 (by decide) ?_
      refine z_lv (lv' := []) [] rfl ?_
      exact J_j_199 (0 : Int32) (by simp only [if_pos c_173])
    · refine z_aload_n X dL_areAlike_176 0 rfl ?_
      refine z_iconst (v := (3 : Int32)) X dL_areAlike_177 (by decide) ?_
      refine z_iconst (v := (3 : Int32)) X dL_areAlike_178 (by decide) ?_
      refine zV_pr X (c_S_path l D kI kC kQ o9 r9 ap V.2.1 (3 : Int32) (3 : Int32) hP.ok) (gV wd1_217 wd1_218 wd1_219 wd1_1 wd1_220) k_S_path rfl rfl ⟨Nat.le_of_ble_eq_true rfl, Nat.le_of_ble_eq_true rfl⟩ ⟨Nat.zero_le _, Nat.zero_le _⟩ rfl rfl (Nat.le_of_ble_eq_true rfl) dL_areAlike_179 (fun r_179 er_179 => ?_)
      refine z_if_ne (tgt := 198) X dL_areAlike_182 (by decide) (fun c_182 => ?_) (fun c_182 => ?_)
      · refine z_iconst (v := (0 : Int32)) X dL_areAlike_198 (by decide) ?_
        refine z_lv (lv' := []) [] rfl ?_
        exact J_j_199 (0 : Int32) (by (with_reducible subst er_179); simp only [if_neg c_173, if_neg c_182])
      · refine z_aload_n X dL_areAlike_185 0 rfl ?_
        refine z_iconst (v := (4 : Int32)) X dL_areAlike_186 (by decide) ?_
        refine z_iconst (v := (3 : Int32)) X dL_areAlike_187 (by decide) ?_
        refine zV_pr X (c_S_path l D kI kC kQ o9 r9 ap V.2.1 (4 : Int32) (3 : Int32) hP.ok) (gV wd1_217 wd1_218 wd1_219 wd1_1 wd1_220) k_S_path rfl rfl ⟨Nat.le_of_ble_eq_true rfl, Nat.le_of_ble_eq_true rfl⟩ ⟨Nat.zero_le _, Nat.zero_le _⟩ rfl rfl (Nat.le_of_ble_eq_true rfl) dL_areAlike_188 (fun r_188 er_188 => ?_)
        refine z_if_ne (tgt := 198) X dL_areAlike_191 (by decide) (fun c_191 => ?_) (fun c_191 => ?_)
        · refine z_iconst (v := (0 : Int32)) X dL_areAlike_198 (by decide) ?_
          refine z_lv (lv' := []) [] rfl ?_
          exact J_j_199 (0 : Int32) (by (with_reducible subst er_179 er_188); simp only [if_neg c_173, if_pos c_182, if_neg c_191])
        · refine z_iconst (v := (1 : Int32)) X dL_areAlike_194 (by decide) ?_
          refine z_goto (tgt := 199) X dL_areAlike_195 (by decide) ?_
          refine z_lv (lv' := []) [] rfl ?_
          exact J_j_199 (1 : Int32) (by (with_reducible subst er_179 er_188); simp only [if_neg c_173, if_pos c_182, if_pos c_191])
  refine z_icmp_ne (tgt := 60) X dL_areAlike_7 (by decide) (fun c_7 => ?_) (fun c_7 => ?_)
  · refine z_iconst (v := (0 : Int32)) X dL_areAlike_60 (by decide) ?_
    exact J_j_61 (0 : Int32) (by simp only [if_neg c_7])
  · refine z_aload_n X dL_areAlike_10 1 rfl ?_
    refine z_bipush (v := (12 : Int32)) X dL_areAlike_11 (by decide) ?_
    refine zV_pr X (c_S_count l D kI kC kQ o9 r9 ap V.2.1 (12 : Int32) hP.ok) (gV wd1_185 wd1_186 wd1_187 wd1_1 wd1_188) k_S_count rfl rfl ⟨Nat.le_of_ble_eq_true rfl, Nat.le_of_ble_eq_true rfl⟩ ⟨Nat.zero_le _, Nat.zero_le _⟩ rfl rfl (Nat.le_of_ble_eq_true rfl) dL_areAlike_13 (fun r_13 er_13 => ?_)
    refine z_iconst (v := (5 : Int32)) X dL_areAlike_16 (by decide) ?_
    refine z_icmp_ne (tgt := 60) X dL_areAlike_17 (by decide) (fun c_17 => ?_) (fun c_17 => ?_)
    · refine z_iconst (v := (0 : Int32)) X dL_areAlike_60 (by decide) ?_
      exact J_j_61 (0 : Int32) (by (with_reducible subst er_13); simp only [if_pos c_7, if_neg c_17])
    · refine z_aload_n X dL_areAlike_20 0 rfl ?_
      refine z_bipush (v := (13 : Int32)) X dL_areAlike_21 (by decide) ?_
      refine zV_or X (c_S_count l D kI kC kQ o r ao V.1 (13 : Int32) hO.ok) (gV wd1_185 wd1_186 wd1_187 wd1_1 wd1_188) k_S_count rfl rfl ⟨Nat.le_of_ble_eq_true rfl, Nat.le_of_ble_eq_true rfl⟩ ⟨Nat.zero_le _, Nat.zero_le _⟩ rfl rfl (Nat.le_of_ble_eq_true rfl) dL_areAlike_23 (fun r_23 er_23 => ?_)
      refine z_aload_n X dL_areAlike_26 1 rfl ?_
      refine z_bipush (v := (13 : Int32)) X dL_areAlike_27 (by decide) ?_
      refine zV_pr X (c_S_count l D kI kC kQ o9 r9 ap V.2.1 (13 : Int32) hP.ok) (gV wd1_185 wd1_186 wd1_187 wd1_1 wd1_188) k_S_count rfl rfl ⟨Nat.le_of_ble_eq_true rfl, Nat.le_of_ble_eq_true rfl⟩ ⟨Nat.zero_le _, Nat.zero_le _⟩ rfl rfl (Nat.le_of_ble_eq_true rfl) dL_areAlike_29 (fun r_29 er_29 => ?_)
      refine z_bipush (v := (7 : Int32)) X dL_areAlike_32 (by decide) ?_
      refine z_iand X dL_areAlike_34 ?_
      refine z_icmp_ne (tgt := 60) X dL_areAlike_35 (by decide) (fun c_35 => ?_) (fun c_35 => ?_)
      · refine z_iconst (v := (0 : Int32)) X dL_areAlike_60 (by decide) ?_
        exact J_j_61 (0 : Int32) (by (with_reducible subst er_13 er_23 er_29); simp only [if_pos c_7, if_pos c_17, if_neg c_35])
      · refine z_aload_n X dL_areAlike_38 0 rfl ?_
        refine z_bipush (v := (14 : Int32)) X dL_areAlike_39 (by decide) ?_
        refine zV_or X (c_S_count l D kI kC kQ o r ao V.1 (14 : Int32) hO.ok) (gV wd1_185 wd1_186 wd1_187 wd1_1 wd1_188) k_S_count rfl rfl ⟨Nat.le_of_ble_eq_true rfl, Nat.le_of_ble_eq_true rfl⟩ ⟨Nat.zero_le _, Nat.zero_le _⟩ rfl rfl (Nat.le_of_ble_eq_true rfl) dL_areAlike_41 (fun r_41 er_41 => ?_)
        refine z_aload_n X dL_areAlike_44 1 rfl ?_
        refine z_bipush (v := (14 : Int32)) X dL_areAlike_45 (by decide) ?_
        refine zV_pr X (c_S_count l D kI kC kQ o9 r9 ap V.2.1 (14 : Int32) hP.ok) (gV wd1_185 wd1_186 wd1_187 wd1_1 wd1_188) k_S_count rfl rfl ⟨Nat.le_of_ble_eq_true rfl, Nat.le_of_ble_eq_true rfl⟩ ⟨Nat.zero_le _, Nat.zero_le _⟩ rfl rfl (Nat.le_of_ble_eq_true rfl) dL_areAlike_47 (fun r_47 er_47 => ?_)
        refine z_bipush (v := (7 : Int32)) X dL_areAlike_50 (by decide) ?_
        refine z_iand X dL_areAlike_52 ?_
        refine z_icmp_ne (tgt := 60) X dL_areAlike_53 (by decide) (fun c_53 => ?_) (fun c_53 => ?_)
        · refine z_iconst (v := (0 : Int32)) X dL_areAlike_60 (by decide) ?_
          exact J_j_61 (0 : Int32) (by (with_reducible subst er_13 er_23 er_29 er_41 er_47); simp only [if_pos c_7, if_pos c_17, if_pos c_35, if_neg c_53])
        · refine z_iconst (v := (1 : Int32)) X dL_areAlike_56 (by decide) ?_
          refine z_goto (tgt := 61) X dL_areAlike_57 (by decide) ?_
          exact J_j_61 (1 : Int32) (by (with_reducible subst er_13 er_23 er_29 er_41 er_47); simp only [if_pos c_7, if_pos c_17, if_pos c_35, if_pos c_53])
