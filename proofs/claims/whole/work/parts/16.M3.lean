set_option maxRecDepth 100000 in
set_option maxHeartbeats 4000000 in
theorem c_M_areWell (l : Launch) (D : va_G) (kI kC kQ : ClassId) (o : Nat → Nat) (M : ARR) (a1 : Int32) (a2 : Int32) (hI : IA (M 0)) (hv : bn 500 1200 a1) : CtI (U := Int32) l yX3_areWell cX3_areWell 5 (some .boolean) { frames := 2, cells := 0, slots := 0, locals := 46 } D (tysG kI kC kQ) (wM kI o M) [.ref (o 0), .int a1, .int a2] (fun u => u) (fun _ => (wM kI o M)) (fun u => u = F_M_areWell M a1 a2) := by
  refine met_Zi (own := "ShadowLatchesModel") (by decide +kernel) rfl (Nat.le_of_ble_eq_true rfl) ?_
  intro p e s m args below meth c A Q X hQ
  show Z p l e { frames := 2, cells := 0, slots := 0, locals := 46 } s m args below meth c D A 5 0 0 Q (wM kI o M) [(0, .ref (o 0)), (1, .int a1), (2, .int a2)] 0 []
  obtain ⟨P, hP1, hP2, hP⟩ := hI.p
  refine z_iconst (v := (1 : Int32)) X dX3_areWell_0 (by decide) ?_
  refine z_istore_n (lv' := [(3, .int (1 : Int32)), (0, .ref (o 0)), (1, .int a1), (2, .int a2)]) X dX3_areWell_1 (Nat.le_of_ble_eq_true rfl) rfl ?_
  refine z_iconst (v := (0 : Int32)) X dX3_areWell_2 (by decide) ?_
  refine z_istore (lv' := [(4, .int (0 : Int32)), (3, .int (1 : Int32)), (0, .ref (o 0)), (1, .int a1), (2, .int a2)]) X dX3_areWell_3 (Nat.le_of_ble_eq_true rfl) rfl ?_
  refine z_lv (lv' := [(0, .ref (o 0)), (1, .int a1), (2, .int a2), (3, .int (1 : Int32)), (4, .int (0 : Int32))]) [2, 3, 4, 1, 0] rfl ?_
  have Lp_5 : ∀ (n : Nat) (x3_5 : Int32) (x4_5 : Int32), (cu P n x4_5) → (x3_5 = 0 ∨ x3_5 = 1) → (∀ q_5 : Int32, q_5 = L_M_areWell_5 M a1 a2 n x3_5 x4_5 → (q_5 = 0 ∨ q_5 = 1) → Z p l e { frames := 2, cells := 0, slots := 0, locals := 46 } s m args below meth c D A 5 0 0 Q (wM kI o M) [(3, .int q_5)] 53 []) → Z p l e { frames := 2, cells := 0, slots := 0, locals := 46 } s m args below meth c D A 5 0 0 Q (wM kI o M) [(0, .ref (o 0)), (1, .int a1), (2, .int a2), (3, .int x3_5), (4, .int x4_5)] 5 [] := by
    intro n
    induction n with
    | zero =>
      intro x3_5 x4_5 hi hb kk_5
      exfalso
      exact cu_0 hi
    | succ n ih_5 =>
      intro x3_5 x4_5 hi hb kk_5
      refine z_iload X dX3_areWell_5 4 rfl ?_
      refine z_aload_n X dX3_areWell_7 0 rfl ?_
      refine zM_g0 X wd2_126 dX3_areWell_8 ?_
      refine z_bipush (v := (51 : Int32)) X dX3_areWell_11 (by decide) ?_
      refine zM_l0 X vi_51_55 cl_51 dX3_areWell_13 ?_
      refine z_icmp_ge (tgt := 53) X dX3_areWell_14 (by decide) (fun c_14 => ?_) (fun c_14 => ?_)
      · refine z_lv (lv' := [(3, .int x3_5)]) [3] rfl ?_
        exact kk_5 x3_5 (by simp only [L_M_areWell_5, if_pos c_14]) hb
      · refine z_iload_n X dX3_areWell_17 3 rfl ?_
        have J_j_46 : ∀ (j_46 : Int32), j_46 = (if x3_5 = (0 : Int32) then ((0 : Int32)) else (let r_24 : Int32 := (F_M_setsWith M x4_5); if r_24 = (0 : Int32) then ((1 : Int32)) else (let r_34 : Int32 := (F_M_stateWith M x4_5 a1); if a2 < r_34 then ((0 : Int32)) else ((1 : Int32))))) → Z p l e { frames := 2, cells := 0, slots := 0, locals := 46 } s m args below meth c D A 5 0 0 Q (wM kI o M) [(0, .ref (o 0)), (1, .int a1), (2, .int a2), (4, .int x4_5)] 46 [.int j_46] := by
          intro j_46 ej_46
          refine z_istore_n (lv' := [(3, .int j_46), (0, .ref (o 0)), (1, .int a1), (2, .int a2), (4, .int x4_5)]) X dX3_areWell_46 (Nat.le_of_ble_eq_true rfl) rfl ?_
          obtain ⟨v_47, ev_47⟩ : ∃ y : Int32, y = x4_5 + (1 : Int32) := ⟨_, rfl⟩
          refine z_iinc (v := v_47) (lv' := [(4, .int v_47), (3, .int j_46), (0, .ref (o 0)), (1, .int a1), (2, .int a2)]) X dX3_areWell_47 4 rfl (by rw [ev_47]; rfl) (Nat.le_of_ble_eq_true rfl) rfl ?_
          refine z_goto (tgt := 5) X dX3_areWell_50 (by decide) ?_
          refine z_lv (lv' := [(0, .ref (o 0)), (1, .int a1), (2, .int a2), (3, .int j_46), (4, .int v_47)]) [2, 3, 4, 1, 0] rfl ?_
          exact ih_5 j_46 v_47 (cu_b hi (by omega) hP c_14 ev_47) (by rw [ej_46]; (try dsimp only); repeat' first | apply bl_ite | exact Or.inl rfl | exact Or.inr rfl) (fun q_5 eq_5 => kk_5 q_5 (eq_5.trans (by subst ej_46 ev_47; simp only [L_M_areWell_5, if_neg c_14])))
        refine z_if_eq (tgt := 45) X dX3_areWell_18 (by decide) (fun c_18 => ?_) (fun c_18 => ?_)
        · refine z_iconst (v := (0 : Int32)) X dX3_areWell_45 (by decide) ?_
          refine z_lv (lv' := [(0, .ref (o 0)), (1, .int a1), (2, .int a2), (4, .int x4_5)]) [0, 1, 2, 4] rfl ?_
          exact J_j_46 (0 : Int32) (by simp only [if_pos c_18])
        · refine z_aload_n X dX3_areWell_21 0 rfl ?_
          refine z_iload X dX3_areWell_22 4 rfl ?_
          refine z_callVi0 X (c_M_setsWith l D kI kC kQ o M x4_5 hI) (gV wd3_72 wd3_74 wd0_25 wd1_4 wd3_75) k_M_setsWith rfl rfl ⟨Nat.le_of_ble_eq_true rfl, Nat.le_of_ble_eq_true rfl⟩ ⟨Nat.zero_le _, Nat.zero_le _⟩ 3 0 rfl rfl rfl rfl rfl (Nat.le_of_ble_eq_true rfl) dX3_areWell_24 (fun r_24 er_24 => ?_)
          refine z_if_eq (tgt := 41) X dX3_areWell_27 (by decide) (fun c_27 => ?_) (fun c_27 => ?_)
          · refine z_iconst (v := (1 : Int32)) X dX3_areWell_41 (by decide) ?_
            refine z_goto (tgt := 46) X dX3_areWell_42 (by decide) ?_
            refine z_lv (lv' := [(0, .ref (o 0)), (1, .int a1), (2, .int a2), (4, .int x4_5)]) [0, 1, 2, 4] rfl ?_
            exact J_j_46 (1 : Int32) (by subst er_24; simp only [if_neg c_18, if_pos c_27])
          · refine z_aload_n X dX3_areWell_30 0 rfl ?_
            refine z_iload X dX3_areWell_31 4 rfl ?_
            refine z_iload_n X dX3_areWell_33 1 rfl ?_
            refine z_callVi0 X (c_M_stateWith l D kI kC kQ o M x4_5 a1 (vin_a 0 (cu_lt hi (by omega) hP c_14) (by omega) (by omega)) (vne hv)) (gV wd3_40 wd3_42 wd0_21 wd1_4 wd3_43) k_M_stateWith rfl rfl ⟨Nat.le_of_ble_eq_true rfl, Nat.le_of_ble_eq_true rfl⟩ ⟨Nat.zero_le _, Nat.zero_le _⟩ 3 0 rfl rfl rfl rfl rfl (Nat.le_of_ble_eq_true rfl) dX3_areWell_34 (fun r_34 er_34 => ?_)
            refine z_iload_n X dX3_areWell_37 2 rfl ?_
            refine z_icmp_gt (tgt := 45) X dX3_areWell_38 (by decide) (fun c_38 => ?_) (fun c_38 => ?_)
            · refine z_iconst (v := (0 : Int32)) X dX3_areWell_45 (by decide) ?_
              refine z_lv (lv' := [(0, .ref (o 0)), (1, .int a1), (2, .int a2), (4, .int x4_5)]) [0, 1, 2, 4] rfl ?_
              exact J_j_46 (0 : Int32) (by subst er_24 er_34; simp only [if_neg c_18, if_neg c_27, if_pos c_38])
            · refine z_iconst (v := (1 : Int32)) X dX3_areWell_41 (by decide) ?_
              refine z_goto (tgt := 46) X dX3_areWell_42 (by decide) ?_
              refine z_lv (lv' := [(0, .ref (o 0)), (1, .int a1), (2, .int a2), (4, .int x4_5)]) [0, 1, 2, 4] rfl ?_
              exact J_j_46 (1 : Int32) (by subst er_24 er_34; simp only [if_neg c_18, if_neg c_27, if_neg c_38])
  refine Lp_5 9 (1 : Int32) (0 : Int32) (cu_i (by omega)) (Or.inr rfl) (fun q_5 eq_5 ho => ?_)
  refine z_iload_n X dX3_areWell_53 0 rfl ?_
  exact z_zret X hQ rfl q_5 rfl rfl (by subst eq_5; simp only [F_M_areWell]) (nb ho) dX3_areWell_54
set_option maxRecDepth 100000 in
set_option maxHeartbeats 4000000 in
theorem c_M_least (l : Launch) (D : va_G) (kI kC kQ : ClassId) (o : Nat → Nat) (M : ARR) (a1 : Int32) (hI : IA (M 0)) : CtI (U := Int32) l yX3_least cX3_least 3 (some .int) { frames := 3, cells := 0, slots := 0, locals := 70 } D (tysG kI kC kQ) (wM kI o M) [.ref (o 0), .int a1] (fun u => u) (fun _ => (wM kI o M)) (fun u => u = F_M_least M a1) := by
  refine met_Zi (own := "ShadowLatchesModel") (by decide +kernel) rfl (Nat.le_of_ble_eq_true rfl) ?_
  intro p e s m args below meth c A Q X hQ
  show Z p l e { frames := 3, cells := 0, slots := 0, locals := 70 } s m args below meth c D A 3 0 0 Q (wM kI o M) [(0, .ref (o 0)), (1, .int a1)] 0 []
  refine z_sipush (v := (500 : Int32)) X dX3_least_0 (by decide) ?_
  refine z_istore_n (lv' := [(2, .int (500 : Int32)), (0, .ref (o 0)), (1, .int a1)]) X dX3_least_3 (Nat.le_of_ble_eq_true rfl) rfl ?_
  refine z_lv (lv' := [(0, .ref (o 0)), (1, .int a1), (2, .int (500 : Int32))]) [1, 2, 0] rfl ?_
  have Lp_4 : ∀ (n : Nat) (x2_4 : Int32), (lv7 n x2_4) → (F_M_least M a1 = L_M_least_4 M a1 n x2_4) → Z p l e { frames := 3, cells := 0, slots := 0, locals := 70 } s m args below meth c D A 3 0 0 Q (wM kI o M) [(0, .ref (o 0)), (1, .int a1), (2, .int x2_4)] 4 [] := by
    intro n
    induction n with
    | zero =>
      intro x2_4 hi hF_4
      exfalso
      obtain ⟨k, _, h1, h2, h3⟩ := hi
      omega
    | succ n ih_4 =>
      intro x2_4 hi hF_4
      refine z_iload_n X dX3_least_4 2 rfl ?_
      refine z_sipush (v := (1200 : Int32)) X dX3_least_5 (by decide) ?_
      refine z_icmp_gt (tgt := 36) X dX3_least_8 (by decide) (fun c_8 => ?_) (fun c_8 => ?_)
      · refine z_bipush (v := (-5 : Int32)) X dX3_least_36 (by decide) ?_
        exact z_iret X hQ rfl (-5 : Int32) rfl rfl (by rw [hF_4]; simp only [L_M_least_4, if_pos c_8]) dX3_least_38
      · refine z_aload_n X dX3_least_11 0 rfl ?_
        refine z_iload_n X dX3_least_12 2 rfl ?_
        refine z_iload_n X dX3_least_13 1 rfl ?_
        have J_j_22 : ∀ (j_22 : Int32), j_22 = (if a1 = (0 : Int32) then ((0 : Int32)) else ((1 : Int32))) → Z p l e { frames := 3, cells := 0, slots := 0, locals := 70 } s m args below meth c D A 3 0 0 Q (wM kI o M) [(0, .ref (o 0)), (1, .int a1), (2, .int x2_4)] 22 [.int j_22, .int x2_4, .ref (o 0)] := by
          intro j_22 ej_22
          refine z_callVi0 X (c_M_areWell l D kI kC kQ o M x2_4 j_22 hI (lv7_v hi c_8)) (gV wd3_89 wd3_91 wd0_26 wd1_4 wd3_92) k_M_areWell rfl rfl ⟨Nat.le_of_ble_eq_true rfl, Nat.le_of_ble_eq_true rfl⟩ ⟨Nat.zero_le _, Nat.zero_le _⟩ 3 0 rfl rfl rfl rfl rfl (Nat.le_of_ble_eq_true rfl) dX3_least_22 (fun r_22 er_22 => ?_)
          refine z_if_eq (tgt := 30) X dX3_least_25 (by decide) (fun c_25 => ?_) (fun c_25 => ?_)
          · obtain ⟨v_30, ev_30⟩ : ∃ y : Int32, y = x2_4 + (1 : Int32) := ⟨_, rfl⟩
            refine z_iinc (v := v_30) (lv' := [(2, .int v_30), (0, .ref (o 0)), (1, .int a1)]) X dX3_least_30 2 rfl (by rw [ev_30]; rfl) (Nat.le_of_ble_eq_true rfl) rfl ?_
            refine z_goto (tgt := 4) X dX3_least_33 (by decide) ?_
            refine z_lv (lv' := [(0, .ref (o 0)), (1, .int a1), (2, .int v_30)]) [1, 2, 0] rfl ?_
            exact ih_4 v_30 (lv7_b hi c_8 ev_30) (hF_4.trans (by subst ej_22 er_22 ev_30; simp only [L_M_least_4, if_neg c_8, if_pos c_25]))
          · refine z_iload_n X dX3_least_28 2 rfl ?_
            exact z_iret X hQ rfl x2_4 rfl rfl (by rw [hF_4]; subst ej_22 er_22; simp only [L_M_least_4, if_neg c_8, if_neg c_25]) dX3_least_29
        refine z_if_eq (tgt := 21) X dX3_least_14 (by decide) (fun c_14 => ?_) (fun c_14 => ?_)
        · refine z_iconst (v := (0 : Int32)) X dX3_least_21 (by decide) ?_
          exact J_j_22 (0 : Int32) (by simp only [if_pos c_14])
        · refine z_iconst (v := (1 : Int32)) X dX3_least_17 (by decide) ?_
          refine z_goto (tgt := 22) X dX3_least_18 (by decide) ?_
          exact J_j_22 (1 : Int32) (by simp only [if_neg c_14])
  exact Lp_4 702 (500 : Int32) ⟨500, rfl, by omega, by omega, by omega⟩ (by simp only [F_M_least])
set_option maxRecDepth 100000 in
set_option maxHeartbeats 4000000 in
theorem c_M_brings (l : Launch) (D : va_G) (kI kC kQ : ClassId) (o : Nat → Nat) (M : ARR) (a1 : Int32) (a2 : Int32) (a3 : Int32) (hI : IA (M 0)) (hv : bn 500 1200 a1) (hc : bn 1 500 a2) : CtI (U := Int32 × ARR) l yX3_brings cX3_brings 5 (some .int) { frames := 4, cells := 0, slots := 0, locals := 93 } D (tysG kI kC kQ) (wM kI o M) [.ref (o 0), .int a1, .int a2, .int a3] (fun u => u.1) (fun u => (wM kI o u.2)) (fun u => u = F_M_brings M a1 a2 a3) := by
  refine met_Zi (own := "ShadowLatchesModel") (by decide +kernel) rfl (Nat.le_of_ble_eq_true rfl) ?_
  intro p e s m args below meth c A Q X hQ
  show Z p l e { frames := 4, cells := 0, slots := 0, locals := 93 } s m args below meth c D A 5 0 0 Q (wM kI o M) [(0, .ref (o 0)), (1, .int a1), (2, .int a2), (3, .int a3)] 0 []
  obtain ⟨K, hK1, hK2, hK⟩ := hc
  refine z_aload_n X dX3_brings_0 0 rfl ?_
  refine zM_g0 X wd2_126 dX3_brings_1 ?_
  refine z_aload_n X dX3_brings_4 0 rfl ?_
  refine zM_g2 X wd2_128 dX3_brings_5 ?_
  refine zM_cp_0_2 X (gS wd2_179 wd2_180 wd1_4 wd2_181) ⟨Nat.le_of_ble_eq_true rfl, Nat.le_of_ble_eq_true rfl⟩ ⟨Nat.zero_le _, Nat.zero_le _⟩ (Nat.le_of_ble_eq_true rfl) dX3_brings_8 (fun M_8 eM_8 => ?_)
  refine z_aload_n X dX3_brings_11 0 rfl ?_
  refine zM_g0 X wd2_126 dX3_brings_12 ?_
  refine z_bipush (v := (39 : Int32)) X dX3_brings_15 (by decide) ?_
  refine z_iload_n X dX3_brings_17 1 rfl ?_
  refine zM_s0 X vi_39_55 cl_39 dX3_brings_18 (fun M_18 eM_18 => ?_)
  refine z_aload_n X dX3_brings_19 0 rfl ?_
  refine zM_g0 X wd2_126 dX3_brings_20 ?_
  refine z_bipush (v := (41 : Int32)) X dX3_brings_23 (by decide) ?_
  refine z_iconst (v := (0 : Int32)) X dX3_brings_25 (by decide) ?_
  refine zM_s0 X vi_41_55 cl_41 dX3_brings_26 (fun M_26 eM_26 => ?_)
  refine z_iconst (v := (0 : Int32)) X dX3_brings_27 (by decide) ?_
  refine z_istore (lv' := [(4, .int (0 : Int32)), (0, .ref (o 0)), (1, .int a1), (2, .int a2), (3, .int a3)]) X dX3_brings_28 (Nat.le_of_ble_eq_true rfl) rfl ?_
  refine z_lv (lv' := [(0, .ref (o 0)), (2, .int a2), (3, .int a3), (4, .int (0 : Int32))]) [1, 3, 4, 0] rfl ?_
  have Lp_30 : ∀ (n : Nat) (x4_30 : Int32) (M_30 : ARR), (cu K n x4_30) → (IA (M_30 0)) → (∀ q_30 : ARR, q_30 = L_M_brings_30 a2 n x4_30 M_30 → Z p l e { frames := 4, cells := 0, slots := 0, locals := 93 } s m args below meth c D A 5 0 0 Q (wM kI o q_30) [(0, .ref (o 0)), (3, .int a3)] 46 []) → Z p l e { frames := 4, cells := 0, slots := 0, locals := 93 } s m args below meth c D A 5 0 0 Q (wM kI o M_30) [(0, .ref (o 0)), (2, .int a2), (3, .int a3), (4, .int x4_30)] 30 [] := by
    intro n
    induction n with
    | zero =>
      intro x4_30 M_30 hi hJ kk_30
      exfalso
      exact cu_0 hi
    | succ n ih_30 =>
      intro x4_30 M_30 hi hJ kk_30
      refine z_iload X dX3_brings_30 3 rfl ?_
      refine z_iload_n X dX3_brings_32 1 rfl ?_
      refine z_icmp_ge (tgt := 46) X dX3_brings_33 (by decide) (fun c_33 => ?_) (fun c_33 => ?_)
      · refine z_lv (lv' := [(0, .ref (o 0)), (3, .int a3)]) [0, 2] rfl ?_
        exact kk_30 M_30 (by simp only [L_M_brings_30, if_pos c_33]) 
      · refine z_aload_n X dX3_brings_36 0 rfl ?_
        refine z_callVv0 X (c_M_cycles l D kI kC kQ o M_30 hJ) (gV wd3_29 wd3_31 wd0_19 wd1_4 wd3_32) k_M_cycles rfl rfl ⟨Nat.le_of_ble_eq_true rfl, Nat.le_of_ble_eq_true rfl⟩ ⟨Nat.zero_le _, Nat.zero_le _⟩ 3 0 rfl rfl rfl rfl rfl (Nat.le_of_ble_eq_true rfl) dX3_brings_37 (fun r_37 er_37 => ?_)
        obtain ⟨v_40, ev_40⟩ : ∃ y : Int32, y = x4_30 + (1 : Int32) := ⟨_, rfl⟩
        refine z_iinc (v := v_40) (lv' := [(4, .int v_40), (0, .ref (o 0)), (2, .int a2), (3, .int a3)]) X dX3_brings_40 3 rfl (by rw [ev_40]; rfl) (Nat.le_of_ble_eq_true rfl) rfl ?_
        refine z_goto (tgt := 30) X dX3_brings_43 (by decide) ?_
        refine z_lv (lv' := [(0, .ref (o 0)), (2, .int a2), (3, .int a3), (4, .int v_40)]) [1, 2, 3, 0] rfl ?_
        exact ih_30 v_40 r_37 (cu_b hi (by omega) hK c_33 ev_40) (by rw [er_37]; exact IA_cycles hJ) (fun q_30 eq_30 => kk_30 q_30 (eq_30.trans (by subst er_37 ev_40; simp only [L_M_brings_30, if_neg c_33])))
  refine Lp_30 501 (0 : Int32) M_26 (cu_i (by omega)) (by rw [eM_26, eM_18, eM_8]; exact IA_tr hI hv _) (fun q_30 eq_30 => ?_)
  refine z_iload_n X dX3_brings_46 1 rfl ?_
  have J_j_137 : ∀ (j_137 : Int32), j_137 = (if a3 = (0 : Int32) then (((q_30 0 44) - (q_30 2 44))) else (if a3 = (1 : Int32) then (((q_30 0 45) - (q_30 2 45))) else (if a3 = (2 : Int32) then (let r_101 : Int32 := (F_M_energySince q_30); r_101) else (if a3 = (3 : Int32) then (((q_30 0 42) - (q_30 2 42))) else ((q_30 0 40)))))) → Z p l e { frames := 4, cells := 0, slots := 0, locals := 93 } s m args below meth c D A 5 0 0 Q (wM kI o q_30) [(0, .ref (o 0))] 137 [.int j_137] := by
    intro j_137 ej_137
    refine z_istore (lv' := [(4, .int j_137), (0, .ref (o 0))]) X dX3_brings_137 (Nat.le_of_ble_eq_true rfl) rfl ?_
    refine z_aload_n X dX3_brings_139 1 rfl ?_
    refine zM_g2 X wd2_128 dX3_brings_140 ?_
    refine z_aload_n X dX3_brings_143 1 rfl ?_
    refine zM_g0 X wd2_126 dX3_brings_144 ?_
    refine zM_cp_2_0 X (gS wd2_179 wd2_180 wd1_4 wd2_181) ⟨Nat.le_of_ble_eq_true rfl, Nat.le_of_ble_eq_true rfl⟩ ⟨Nat.zero_le _, Nat.zero_le _⟩ (Nat.le_of_ble_eq_true rfl) dX3_brings_147 (fun M_147 eM_147 => ?_)
    refine z_iload X dX3_brings_150 0 rfl ?_
    exact z_iret X hQ rfl (j_137, M_147) rfl rfl (by subst eM_8 eM_18 eM_26 eq_30 ej_137 eM_147; simp only [F_M_brings]) dX3_brings_152
  refine z_if_ne (tgt := 68) X dX3_brings_47 (by decide) (fun c_47 => ?_) (fun c_47 => ?_)
  · refine z_iload_n X dX3_brings_68 1 rfl ?_
    refine z_iconst (v := (1 : Int32)) X dX3_brings_69 (by decide) ?_
    refine z_icmp_ne (tgt := 91) X dX3_brings_70 (by decide) (fun c_70 => ?_) (fun c_70 => ?_)
    · refine z_iload_n X dX3_brings_91 1 rfl ?_
      refine z_iconst (v := (2 : Int32)) X dX3_brings_92 (by decide) ?_
      refine z_icmp_ne (tgt := 107) X dX3_brings_93 (by decide) (fun c_93 => ?_) (fun c_93 => ?_)
      · refine z_iload_n X dX3_brings_107 1 rfl ?_
        refine z_iconst (v := (3 : Int32)) X dX3_brings_108 (by decide) ?_
        refine z_icmp_ne (tgt := 130) X dX3_brings_109 (by decide) (fun c_109 => ?_) (fun c_109 => ?_)
        · refine z_aload_n X dX3_brings_130 0 rfl ?_
          refine zM_g0 X wd2_126 dX3_brings_131 ?_
          refine z_bipush (v := (40 : Int32)) X dX3_brings_134 (by decide) ?_
          refine zM_l0 X vi_40_55 cl_40 dX3_brings_136 ?_
          refine z_lv (lv' := [(0, .ref (o 0))]) [0] rfl ?_
          exact J_j_137 (q_30 0 40) (by simp only [if_neg c_47, if_neg c_70, if_neg c_93, if_neg c_109])
        · refine z_aload_n X dX3_brings_112 0 rfl ?_
          refine zM_g0 X wd2_126 dX3_brings_113 ?_
          refine z_bipush (v := (42 : Int32)) X dX3_brings_116 (by decide) ?_
          refine zM_l0 X vi_42_55 cl_42 dX3_brings_118 ?_
          refine z_aload_n X dX3_brings_119 0 rfl ?_
          refine zM_g2 X wd2_128 dX3_brings_120 ?_
          refine z_bipush (v := (42 : Int32)) X dX3_brings_123 (by decide) ?_
          refine zM_l2 X vi_42_55 cl_42 dX3_brings_125 ?_
          refine z_isub X dX3_brings_126 ?_
          refine z_goto (tgt := 137) X dX3_brings_127 (by decide) ?_
          refine z_lv (lv' := [(0, .ref (o 0))]) [0] rfl ?_
          exact J_j_137 ((q_30 0 42) - (q_30 2 42)) (by simp only [if_neg c_47, if_neg c_70, if_neg c_93, if_pos c_109])
      · refine z_aload_n X dX3_brings_96 0 rfl ?_
        refine z_aload_n X dX3_brings_97 0 rfl ?_
        refine zM_g2 X wd2_128 dX3_brings_98 ?_
        refine z_callVi0 X (c_M_energySince l D kI kC kQ o q_30) (gV wd3_102 wd3_104 wd0_28 wd1_4 wd3_105) k_M_energySince rfl rfl ⟨Nat.le_of_ble_eq_true rfl, Nat.le_of_ble_eq_true rfl⟩ ⟨Nat.zero_le _, Nat.zero_le _⟩ 3 0 rfl rfl rfl rfl rfl (Nat.le_of_ble_eq_true rfl) dX3_brings_101 (fun r_101 er_101 => ?_)
        refine z_goto (tgt := 137) X dX3_brings_104 (by decide) ?_
        refine z_lv (lv' := [(0, .ref (o 0))]) [0] rfl ?_
        exact J_j_137 r_101 (by subst er_101; simp only [if_neg c_47, if_neg c_70, if_pos c_93])
    · refine z_aload_n X dX3_brings_73 0 rfl ?_
      refine zM_g0 X wd2_126 dX3_brings_74 ?_
      refine z_bipush (v := (45 : Int32)) X dX3_brings_77 (by decide) ?_
      refine zM_l0 X vi_45_55 cl_45 dX3_brings_79 ?_
      refine z_aload_n X dX3_brings_80 0 rfl ?_
      refine zM_g2 X wd2_128 dX3_brings_81 ?_
      refine z_bipush (v := (45 : Int32)) X dX3_brings_84 (by decide) ?_
      refine zM_l2 X vi_45_55 cl_45 dX3_brings_86 ?_
      refine z_isub X dX3_brings_87 ?_
      refine z_goto (tgt := 137) X dX3_brings_88 (by decide) ?_
      refine z_lv (lv' := [(0, .ref (o 0))]) [0] rfl ?_
      exact J_j_137 ((q_30 0 45) - (q_30 2 45)) (by simp only [if_neg c_47, if_pos c_70])
  · refine z_aload_n X dX3_brings_50 0 rfl ?_
    refine zM_g0 X wd2_126 dX3_brings_51 ?_
    refine z_bipush (v := (44 : Int32)) X dX3_brings_54 (by decide) ?_
    refine zM_l0 X vi_44_55 cl_44 dX3_brings_56 ?_
    refine z_aload_n X dX3_brings_57 0 rfl ?_
    refine zM_g2 X wd2_128 dX3_brings_58 ?_
    refine z_bipush (v := (44 : Int32)) X dX3_brings_61 (by decide) ?_
    refine zM_l2 X vi_44_55 cl_44 dX3_brings_63 ?_
    refine z_isub X dX3_brings_64 ?_
    refine z_goto (tgt := 137) X dX3_brings_65 (by decide) ?_
    refine z_lv (lv' := [(0, .ref (o 0))]) [0] rfl ?_
    exact J_j_137 ((q_30 0 44) - (q_30 2 44)) (by simp only [if_pos c_47])
set_option maxRecDepth 100000 in
set_option maxHeartbeats 4000000 in
theorem c_M_would (l : Launch) (D : va_G) (kI kC kQ : ClassId) (o : Nat → Nat) (M : ARR) (a1 : Int32) (a2 : Int32) (a3 : Int32) (hI : IA (M 0)) : CtI (U := Int32 × ARR) l yX3_would cX3_would 4 (some .int) { frames := 5, cells := 0, slots := 0, locals := 117 } D (tysG kI kC kQ) (wM kI o M) [.ref (o 0), .int a1, .int a2, .int a3] (fun u => u.1) (fun u => (wM kI o u.2)) (fun u => u = F_M_would M a1 a2 a3) := by
  refine met_Zi (own := "ShadowLatchesModel") (by decide +kernel) rfl (Nat.le_of_ble_eq_true rfl) ?_
  intro p e s m args below meth c A Q X hQ
  show Z p l e { frames := 5, cells := 0, slots := 0, locals := 117 } s m args below meth c D A 4 0 0 Q (wM kI o M) [(0, .ref (o 0)), (1, .int a1), (2, .int a2), (3, .int a3)] 0 []
  refine z_iload_n X dX3_would_0 1 rfl ?_
  refine z_callSiN X (c_M_isVoltage l D kI kC kQ a1) (gS wd3_3 wd3_4 wd1_4 wd3_5) k_M_isVoltage rfl rfl ⟨Nat.le_of_ble_eq_true rfl, Nat.le_of_ble_eq_true rfl⟩ ⟨Nat.zero_le _, Nat.zero_le _⟩ rfl rfl (Nat.le_of_ble_eq_true rfl) dX3_would_1 rfl (fun _ => rfl) (fun r_1 er_1 => ?_)
  have J_j_43 : ∀ (j_43 : Int32 × ARR), j_43 = (if r_1 = (0 : Int32) then (((-2 : Int32), M)) else (let r_13 : Int32 := (F_M_in (a2.toInt64) (1 : Int64) (500 : Int64)); if r_13 = (0 : Int32) then (((-2 : Int32), M)) else (let r_25 : Int32 := (F_M_in (a3.toInt64) (0 : Int64) (4 : Int64)); if r_25 = (0 : Int32) then (((-2 : Int32), M)) else (let r_35 : Int32 × ARR := (F_M_brings M a1 a2 a3); (r_35.1, r_35.2))))) → Z p l e { frames := 5, cells := 0, slots := 0, locals := 117 } s m args below meth c D A 4 0 0 Q (wM kI o j_43.2) [] 43 [.int j_43.1] := by
    intro j_43 ej_43
    exact z_iret X hQ rfl (j_43.1, j_43.2) rfl rfl (by subst er_1 ej_43; simp only [F_M_would]) dX3_would_43
  refine z_if_eq (tgt := 41) X dX3_would_4 (by decide) (fun c_4 => ?_) (fun c_4 => ?_)
  · refine z_bipush (v := (-2 : Int32)) X dX3_would_41 (by decide) ?_
    refine z_lv (lv' := []) [] rfl ?_
    exact J_j_43 ((-2 : Int32), M) (by simp only [if_pos c_4])
  · refine z_iload_n X dX3_would_7 2 rfl ?_
    refine z_i2l X dX3_would_8 ?_
    refine z_lconst (v := (1 : Int64)) X dX3_would_9 (by decide) ?_
    refine z_ldc2 X dX3_would_10 wd3_6 ?_
    refine z_callSiN X (c_M_in l D kI kC kQ (a2.toInt64) (1 : Int64) (500 : Int64)) (gS wd2_172 wd2_173 wd1_4 wd2_174) k_M_in rfl rfl ⟨Nat.le_of_ble_eq_true rfl, Nat.le_of_ble_eq_true rfl⟩ ⟨Nat.zero_le _, Nat.zero_le _⟩ rfl rfl (Nat.le_of_ble_eq_true rfl) dX3_would_13 rfl (fun _ => rfl) (fun r_13 er_13 => ?_)
    refine z_if_eq (tgt := 41) X dX3_would_16 (by decide) (fun c_16 => ?_) (fun c_16 => ?_)
    · refine z_bipush (v := (-2 : Int32)) X dX3_would_41 (by decide) ?_
      refine z_lv (lv' := []) [] rfl ?_
      exact J_j_43 ((-2 : Int32), M) (by subst er_13; simp only [if_neg c_4, if_pos c_16])
    · refine z_iload_n X dX3_would_19 3 rfl ?_
      refine z_i2l X dX3_would_20 ?_
      refine z_lconst (v := (0 : Int64)) X dX3_would_21 (by decide) ?_
      refine z_ldc2 X dX3_would_22 wd3_97 ?_
      refine z_callSiN X (c_M_in l D kI kC kQ (a3.toInt64) (0 : Int64) (4 : Int64)) (gS wd2_172 wd2_173 wd1_4 wd2_174) k_M_in rfl rfl ⟨Nat.le_of_ble_eq_true rfl, Nat.le_of_ble_eq_true rfl⟩ ⟨Nat.zero_le _, Nat.zero_le _⟩ rfl rfl (Nat.le_of_ble_eq_true rfl) dX3_would_25 rfl (fun _ => rfl) (fun r_25 er_25 => ?_)
      refine z_if_eq (tgt := 41) X dX3_would_28 (by decide) (fun c_28 => ?_) (fun c_28 => ?_)
      · refine z_bipush (v := (-2 : Int32)) X dX3_would_41 (by decide) ?_
        refine z_lv (lv' := []) [] rfl ?_
        exact J_j_43 ((-2 : Int32), M) (by subst er_13 er_25; simp only [if_neg c_4, if_neg c_16, if_pos c_28])
      · refine z_aload_n X dX3_would_31 0 rfl ?_
        refine z_iload_n X dX3_would_32 1 rfl ?_
        refine z_iload_n X dX3_would_33 2 rfl ?_
        refine z_iload_n X dX3_would_34 3 rfl ?_
        refine z_callVi0 X (c_M_brings l D kI kC kQ o M a1 a2 a3 hI (in_bn 500 1200 (by omega) er_1 c_4) (in_bn 1 500 (by omega) er_13 c_16)) (gV wd3_98 wd3_100 wd0_27 wd1_4 wd3_101) k_M_brings rfl rfl ⟨Nat.le_of_ble_eq_true rfl, Nat.le_of_ble_eq_true rfl⟩ ⟨Nat.zero_le _, Nat.zero_le _⟩ 3 0 rfl rfl rfl rfl rfl (Nat.le_of_ble_eq_true rfl) dX3_would_35 (fun r_35 er_35 => ?_)
        refine z_goto (tgt := 43) X dX3_would_38 (by decide) ?_
        refine z_lv (lv' := []) [] rfl ?_
        exact J_j_43 (r_35.1, r_35.2) (by subst er_13 er_25 er_35; simp only [if_neg c_4, if_neg c_16, if_neg c_28])
set_option maxRecDepth 100000 in
set_option maxHeartbeats 4000000 in
theorem c_M_best (l : Launch) (D : va_G) (kI kC kQ : ClassId) (o : Nat → Nat) (M : ARR) (a1 : Int32) (hI : IA (M 0)) : CtI (U := Int32 × ARR) l yX3_best cX3_best 6 (some .int) { frames := 5, cells := 0, slots := 0, locals := 117 } D (tysG kI kC kQ) (wM kI o M) [.ref (o 0), .int a1] (fun u => u.1) (fun u => (wM kI o u.2)) (fun u => u = F_M_best M a1) := by
  refine met_Zi (own := "ShadowLatchesModel") (by decide +kernel) rfl (Nat.le_of_ble_eq_true rfl) ?_
  intro p e s m args below meth c A Q X hQ
  show Z p l e { frames := 5, cells := 0, slots := 0, locals := 117 } s m args below meth c D A 6 0 0 Q (wM kI o M) [(0, .ref (o 0)), (1, .int a1)] 0 []
  refine z_iload_n X dX3_best_0 1 rfl ?_
  refine z_i2l X dX3_best_1 ?_
  refine z_lconst (v := (1 : Int64)) X dX3_best_2 (by decide) ?_
  refine z_ldc2 X dX3_best_3 wd3_21 ?_
  refine z_callSiN X (c_M_in l D kI kC kQ (a1.toInt64) (1 : Int64) (200 : Int64)) (gS wd2_172 wd2_173 wd1_4 wd2_174) k_M_in rfl rfl ⟨Nat.le_of_ble_eq_true rfl, Nat.le_of_ble_eq_true rfl⟩ ⟨Nat.zero_le _, Nat.zero_le _⟩ rfl rfl (Nat.le_of_ble_eq_true rfl) dX3_best_6 rfl (fun _ => rfl) (fun r_6 er_6 => ?_)
  refine z_if_ne (tgt := 15) X dX3_best_9 (by decide) (fun c_9 => ?_) (fun c_9 => ?_)
  · refine z_bipush (v := (-5 : Int32)) X dX3_best_15 (by decide) ?_
    refine z_istore_n (lv' := [(2, .int (-5 : Int32)), (0, .ref (o 0)), (1, .int a1)]) X dX3_best_17 (Nat.le_of_ble_eq_true rfl) rfl ?_
    refine z_iconst (v := (0 : Int32)) X dX3_best_18 (by decide) ?_
    refine z_istore_n (lv' := [(3, .int (0 : Int32)), (2, .int (-5 : Int32)), (0, .ref (o 0)), (1, .int a1)]) X dX3_best_19 (Nat.le_of_ble_eq_true rfl) rfl ?_
    refine z_sipush (v := (500 : Int32)) X dX3_best_20 (by decide) ?_
    refine z_istore (lv' := [(4, .int (500 : Int32)), (3, .int (0 : Int32)), (2, .int (-5 : Int32)), (0, .ref (o 0)), (1, .int a1)]) X dX3_best_23 (Nat.le_of_ble_eq_true rfl) rfl ?_
    refine z_lv (lv' := [(0, .ref (o 0)), (1, .int a1), (2, .int (-5 : Int32)), (3, .int (0 : Int32)), (4, .int (500 : Int32))]) [3, 4, 2, 1, 0] rfl ?_
    have Lp_25 : ∀ (n : Nat) (x2_25 : Int32) (x3_25 : Int32) (x4_25 : Int32) (M_25 : ARR), (bs5 n x4_25) → (IA (M_25 0)) → (∀ q_25 : Int32 × ARR, q_25 = L_M_best_25 a1 n x2_25 x3_25 x4_25 M_25 → Z p l e { frames := 5, cells := 0, slots := 0, locals := 117 } s m args below meth c D A 6 0 0 Q (wM kI o q_25.2) [(2, .int q_25.1)] 78 []) → Z p l e { frames := 5, cells := 0, slots := 0, locals := 117 } s m args below meth c D A 6 0 0 Q (wM kI o M_25) [(0, .ref (o 0)), (1, .int a1), (2, .int x2_25), (3, .int x3_25), (4, .int x4_25)] 25 [] := by
      intro n
      induction n with
      | zero =>
        intro x2_25 x3_25 x4_25 M_25 hi hJ kk_25
        exfalso
        obtain ⟨j, _, h1, h2⟩ := hi
        omega
      | succ n ih_25 =>
        intro x2_25 x3_25 x4_25 M_25 hi hJ kk_25
        refine z_iload X dX3_best_25 4 rfl ?_
        refine z_sipush (v := (1200 : Int32)) X dX3_best_27 (by decide) ?_
        refine z_icmp_gt (tgt := 78) X dX3_best_30 (by decide) (fun c_30 => ?_) (fun c_30 => ?_)
        · refine z_lv (lv' := [(2, .int x2_25)]) [2] rfl ?_
          exact kk_25 (x2_25, M_25) (by simp only [L_M_best_25, if_pos c_30]) 
        · refine z_aload_n X dX3_best_33 0 rfl ?_
          refine z_iload X dX3_best_34 4 rfl ?_
          refine z_iload_n X dX3_best_36 1 rfl ?_
          refine z_iconst (v := (2 : Int32)) X dX3_best_37 (by decide) ?_
          refine z_callVi0 X (c_M_brings l D kI kC kQ o M_25 x4_25 a1 (2 : Int32) hJ (bs5_v hi c_30) (bn_w (in_bn 1 200 (by omega) er_6 c_9) (by omega) (by omega))) (gV wd3_98 wd3_100 wd0_27 wd1_4 wd3_101) k_M_brings rfl rfl ⟨Nat.le_of_ble_eq_true rfl, Nat.le_of_ble_eq_true rfl⟩ ⟨Nat.zero_le _, Nat.zero_le _⟩ 3 0 rfl rfl rfl rfl rfl (Nat.le_of_ble_eq_true rfl) dX3_best_38 (fun r_38 er_38 => ?_)
          refine z_istore (lv' := [(5, .int r_38.1), (0, .ref (o 0)), (1, .int a1), (2, .int x2_25), (3, .int x3_25), (4, .int x4_25)]) X dX3_best_41 (Nat.le_of_ble_eq_true rfl) rfl ?_
          refine z_aload_n X dX3_best_43 1 rfl ?_
          refine z_iload X dX3_best_44 5 rfl ?_
          refine z_iload_n X dX3_best_46 2 rfl ?_
          refine z_iconst (v := (1 : Int32)) X dX3_best_47 (by decide) ?_
          refine z_callVi0 X (c_M_brings l D kI kC kQ o r_38.2 x4_25 a1 (1 : Int32) (by rw [er_38]; exact brings_IA hJ _ _ _) (bs5_v hi c_30) (bn_w (in_bn 1 200 (by omega) er_6 c_9) (by omega) (by omega))) (gV wd3_98 wd3_100 wd0_27 wd1_4 wd3_101) k_M_brings rfl rfl ⟨Nat.le_of_ble_eq_true rfl, Nat.le_of_ble_eq_true rfl⟩ ⟨Nat.zero_le _, Nat.zero_le _⟩ 3 0 rfl rfl rfl rfl rfl (Nat.le_of_ble_eq_true rfl) dX3_best_48 (fun r_48 er_48 => ?_)
          have J_j_72 : ∀ (j_72 : Int32 × Int32), j_72 = (if r_48.1 = (0 : Int32) then (if x2_25 = (-5 : Int32) then ((x4_25, r_38.1)) else (if x3_25 ≤ r_38.1 then ((x2_25, x3_25)) else ((x4_25, r_38.1)))) else ((x2_25, x3_25))) → Z p l e { frames := 5, cells := 0, slots := 0, locals := 117 } s m args below meth c D A 6 0 0 Q (wM kI o r_48.2) [(0, .ref (o 0)), (1, .int a1), (2, .int j_72.1), (3, .int j_72.2), (4, .int x4_25)] 72 [] := by
            intro j_72 ej_72
            obtain ⟨v_72, ev_72⟩ : ∃ y : Int32, y = x4_25 + (50 : Int32) := ⟨_, rfl⟩
            refine z_iinc (v := v_72) (lv' := [(4, .int v_72), (0, .ref (o 0)), (1, .int a1), (2, .int j_72.1), (3, .int j_72.2)]) X dX3_best_72 4 rfl (by rw [ev_72]; rfl) (Nat.le_of_ble_eq_true rfl) rfl ?_
            refine z_goto (tgt := 25) X dX3_best_75 (by decide) ?_
            refine z_lv (lv' := [(0, .ref (o 0)), (1, .int a1), (2, .int j_72.1), (3, .int j_72.2), (4, .int v_72)]) [1, 2, 3, 4, 0] rfl ?_
            exact ih_25 j_72.1 j_72.2 v_72 r_48.2 (bs5_b hi c_30 ev_72) (by rw [er_48, er_38]; exact brings_IA (brings_IA hJ _ _ _) _ _ _) (fun q_25 eq_25 => kk_25 q_25 (eq_25.trans (by subst er_38 er_48 ej_72 ev_72; simp only [L_M_best_25, if_neg c_30])))
          refine z_if_ne (tgt := 72) X dX3_best_51 (by decide) (fun c_51 => ?_) (fun c_51 => ?_)
          · refine z_lv (lv' := [(0, .ref (o 0)), (1, .int a1), (2, .int x2_25), (3, .int x3_25), (4, .int x4_25)]) [1, 2, 3, 4, 5] rfl ?_
            exact J_j_72 (x2_25, x3_25) (by simp only [if_neg c_51])
          · refine z_iload_n X dX3_best_54 3 rfl ?_
            refine z_bipush (v := (-5 : Int32)) X dX3_best_55 (by decide) ?_
            refine z_icmp_eq (tgt := 66) X dX3_best_57 (by decide) (fun c_57 => ?_) (fun c_57 => ?_)
            · refine z_iload X dX3_best_66 5 rfl ?_
              refine z_istore_n (lv' := [(2, .int x4_25), (5, .int r_38.1), (0, .ref (o 0)), (1, .int a1), (3, .int x3_25), (4, .int x4_25)]) X dX3_best_68 (Nat.le_of_ble_eq_true rfl) rfl ?_
              refine z_iload X dX3_best_69 1 rfl ?_
              refine z_istore_n (lv' := [(3, .int r_38.1), (2, .int x4_25), (5, .int r_38.1), (0, .ref (o 0)), (1, .int a1), (4, .int x4_25)]) X dX3_best_71 (Nat.le_of_ble_eq_true rfl) rfl ?_
              refine z_lv (lv' := [(0, .ref (o 0)), (1, .int a1), (2, .int x4_25), (3, .int r_38.1), (4, .int x4_25)]) [3, 4, 1, 0, 5] rfl ?_
              exact J_j_72 (x4_25, r_38.1) (by simp only [if_pos c_51, if_pos c_57])
            · refine z_iload X dX3_best_60 0 rfl ?_
              refine z_iload_n X dX3_best_62 4 rfl ?_
              refine z_icmp_ge (tgt := 72) X dX3_best_63 (by decide) (fun c_63 => ?_) (fun c_63 => ?_)
              · refine z_lv (lv' := [(0, .ref (o 0)), (1, .int a1), (2, .int x2_25), (3, .int x3_25), (4, .int x4_25)]) [1, 2, 3, 4, 5] rfl ?_
                exact J_j_72 (x2_25, x3_25) (by simp only [if_pos c_51, if_neg c_57, if_pos c_63])
              · refine z_iload X dX3_best_66 5 rfl ?_
                refine z_istore_n (lv' := [(2, .int x4_25), (5, .int r_38.1), (0, .ref (o 0)), (1, .int a1), (3, .int x3_25), (4, .int x4_25)]) X dX3_best_68 (Nat.le_of_ble_eq_true rfl) rfl ?_
                refine z_iload X dX3_best_69 1 rfl ?_
                refine z_istore_n (lv' := [(3, .int r_38.1), (2, .int x4_25), (5, .int r_38.1), (0, .ref (o 0)), (1, .int a1), (4, .int x4_25)]) X dX3_best_71 (Nat.le_of_ble_eq_true rfl) rfl ?_
                refine z_lv (lv' := [(0, .ref (o 0)), (1, .int a1), (2, .int x4_25), (3, .int r_38.1), (4, .int x4_25)]) [3, 4, 1, 0, 5] rfl ?_
                exact J_j_72 (x4_25, r_38.1) (by simp only [if_pos c_51, if_neg c_57, if_neg c_63])
    refine Lp_25 16 (-5 : Int32) (0 : Int32) (500 : Int32) M ⟨0, rfl, by omega, by omega⟩ hI (fun q_25 eq_25 => ?_)
    refine z_iload_n X dX3_best_78 0 rfl ?_
    exact z_iret X hQ rfl (q_25.1, q_25.2) rfl rfl (by subst er_6 eq_25; simp only [F_M_best, if_neg c_9]) dX3_best_79
  · refine z_bipush (v := (-2 : Int32)) X dX3_best_12 (by decide) ?_
    exact z_iret X hQ rfl ((-2 : Int32), M) rfl rfl (by subst er_6; simp only [F_M_best, if_pos c_9]) dX3_best_14
set_option maxRecDepth 100000 in
set_option maxHeartbeats 4000000 in
theorem c_M_pathsThat (l : Launch) (D : va_G) (kI kC kQ : ClassId) (o : Nat → Nat) (M : ARR) (a1 : Int32) (hI : IA (M 0)) : CtI (U := Int32) l yX3_pathsThat cX3_pathsThat 4 (some .int) { frames := 2, cells := 0, slots := 0, locals := 46 } D (tysG kI kC kQ) (wM kI o M) [.ref (o 0), .int a1] (fun u => u) (fun _ => (wM kI o M)) (fun u => u = F_M_pathsThat M a1) := by
  refine met_Zi (own := "ShadowLatchesModel") (by decide +kernel) rfl (Nat.le_of_ble_eq_true rfl) ?_
  intro p e s m args below meth c A Q X hQ
  show Z p l e { frames := 2, cells := 0, slots := 0, locals := 46 } s m args below meth c D A 4 0 0 Q (wM kI o M) [(0, .ref (o 0)), (1, .int a1)] 0 []
  obtain ⟨P, hP1, hP2, hP⟩ := hI.p
  refine z_iconst (v := (0 : Int32)) X dX3_pathsThat_0 (by decide) ?_
  refine z_istore_n (lv' := [(2, .int (0 : Int32)), (0, .ref (o 0)), (1, .int a1)]) X dX3_pathsThat_1 (Nat.le_of_ble_eq_true rfl) rfl ?_
  refine z_iconst (v := (0 : Int32)) X dX3_pathsThat_2 (by decide) ?_
  refine z_istore_n (lv' := [(3, .int (0 : Int32)), (2, .int (0 : Int32)), (0, .ref (o 0)), (1, .int a1)]) X dX3_pathsThat_3 (Nat.le_of_ble_eq_true rfl) rfl ?_
  refine z_lv (lv' := [(0, .ref (o 0)), (1, .int a1), (2, .int (0 : Int32)), (3, .int (0 : Int32))]) [2, 3, 1, 0] rfl ?_
  have Lp_4 : ∀ (n : Nat) (x2_4 : Int32) (x3_4 : Int32), (cu P n x3_4) → (∀ q_4 : Int32, q_4 = L_M_pathsThat_4 M a1 n x2_4 x3_4 → Z p l e { frames := 2, cells := 0, slots := 0, locals := 46 } s m args below meth c D A 4 0 0 Q (wM kI o M) [(2, .int q_4)] 47 []) → Z p l e { frames := 2, cells := 0, slots := 0, locals := 46 } s m args below meth c D A 4 0 0 Q (wM kI o M) [(0, .ref (o 0)), (1, .int a1), (2, .int x2_4), (3, .int x3_4)] 4 [] := by
    intro n
    induction n with
    | zero =>
      intro x2_4 x3_4 hi kk_4
      exfalso
      exact cu_0 hi
    | succ n ih_4 =>
      intro x2_4 x3_4 hi kk_4
      refine z_iload_n X dX3_pathsThat_4 3 rfl ?_
      refine z_aload_n X dX3_pathsThat_5 0 rfl ?_
      refine zM_g0 X wd2_126 dX3_pathsThat_6 ?_
      refine z_bipush (v := (51 : Int32)) X dX3_pathsThat_9 (by decide) ?_
      refine zM_l0 X vi_51_55 cl_51 dX3_pathsThat_11 ?_
      refine z_icmp_ge (tgt := 47) X dX3_pathsThat_12 (by decide) (fun c_12 => ?_) (fun c_12 => ?_)
      · refine z_lv (lv' := [(2, .int x2_4)]) [2] rfl ?_
        exact kk_4 x2_4 (by simp only [L_M_pathsThat_4, if_pos c_12]) 
      · refine z_iload_n X dX3_pathsThat_15 2 rfl ?_
        refine z_aload_n X dX3_pathsThat_16 0 rfl ?_
        refine z_iload_n X dX3_pathsThat_17 3 rfl ?_
        refine z_aload_n X dX3_pathsThat_18 0 rfl ?_
        refine zM_g0 X wd2_126 dX3_pathsThat_19 ?_
        refine z_bipush (v := (39 : Int32)) X dX3_pathsThat_22 (by decide) ?_
        refine zM_l0 X vi_39_55 cl_39 dX3_pathsThat_24 ?_
        refine z_callVi0 X (c_M_stateWith l D kI kC kQ o M x3_4 (M 0 39) (vin_a 0 (cu_lt hi (by omega) hP c_12) (by omega) (by omega)) (vne hI.v)) (gV wd3_40 wd3_42 wd0_21 wd1_4 wd3_43) k_M_stateWith rfl rfl ⟨Nat.le_of_ble_eq_true rfl, Nat.le_of_ble_eq_true rfl⟩ ⟨Nat.zero_le _, Nat.zero_le _⟩ 3 0 rfl rfl rfl rfl rfl (Nat.le_of_ble_eq_true rfl) dX3_pathsThat_25 (fun r_25 er_25 => ?_)
        refine z_iload_n X dX3_pathsThat_28 1 rfl ?_
        have J_j_39 : ∀ (j_39 : Int32), j_39 = (if r_25 = a1 then (((1 : Int32) <<< (x3_4 &&& 31))) else ((0 : Int32))) → Z p l e { frames := 2, cells := 0, slots := 0, locals := 46 } s m args below meth c D A 4 0 0 Q (wM kI o M) [(0, .ref (o 0)), (1, .int a1), (3, .int x3_4)] 39 [.int j_39, .int x2_4] := by
          intro j_39 ej_39
          refine z_ior X dX3_pathsThat_39 ?_
          refine z_topi (fun v_40 ev_40 => ?_)
          refine z_istore_n (lv' := [(2, .int v_40), (0, .ref (o 0)), (1, .int a1), (3, .int x3_4)]) X dX3_pathsThat_40 (Nat.le_of_ble_eq_true rfl) rfl ?_
          obtain ⟨v_41, ev_41⟩ : ∃ y : Int32, y = x3_4 + (1 : Int32) := ⟨_, rfl⟩
          refine z_iinc (v := v_41) (lv' := [(3, .int v_41), (2, .int v_40), (0, .ref (o 0)), (1, .int a1)]) X dX3_pathsThat_41 3 rfl (by rw [ev_41]; rfl) (Nat.le_of_ble_eq_true rfl) rfl ?_
          refine z_goto (tgt := 4) X dX3_pathsThat_44 (by decide) ?_
          refine z_lv (lv' := [(0, .ref (o 0)), (1, .int a1), (2, .int v_40), (3, .int v_41)]) [2, 3, 1, 0] rfl ?_
          exact ih_4 v_40 v_41 (cu_b hi (by omega) hP c_12 ev_41) (fun q_4 eq_4 => kk_4 q_4 (eq_4.trans (by subst er_25 ej_39 ev_40 ev_41; simp only [L_M_pathsThat_4, if_neg c_12])))
        refine z_icmp_ne (tgt := 38) X dX3_pathsThat_29 (by decide) (fun c_29 => ?_) (fun c_29 => ?_)
        · refine z_iconst (v := (0 : Int32)) X dX3_pathsThat_38 (by decide) ?_
          refine z_lv (lv' := [(0, .ref (o 0)), (1, .int a1), (3, .int x3_4)]) [0, 1, 3] rfl ?_
          exact J_j_39 (0 : Int32) (by simp only [if_neg c_29])
        · refine z_iconst (v := (1 : Int32)) X dX3_pathsThat_32 (by decide) ?_
          refine z_iload_n X dX3_pathsThat_33 3 rfl ?_
          refine z_ishl X dX3_pathsThat_34 ?_
          refine z_goto (tgt := 39) X dX3_pathsThat_35 (by decide) ?_
          refine z_lv (lv' := [(0, .ref (o 0)), (1, .int a1), (3, .int x3_4)]) [0, 1, 3] rfl ?_
          exact J_j_39 ((1 : Int32) <<< (x3_4 &&& 31)) (by simp only [if_pos c_29])
  refine Lp_4 9 (0 : Int32) (0 : Int32) (cu_i (by omega)) (fun q_4 eq_4 => ?_)
  refine z_iload_n X dX3_pathsThat_47 0 rfl ?_
  exact z_iret X hQ rfl q_4 rfl rfl (by subst eq_4; simp only [F_M_pathsThat]) dX3_pathsThat_48
set_option maxRecDepth 100000 in
set_option maxHeartbeats 4000000 in
theorem c_M_count (l : Launch) (D : va_G) (kI kC kQ : ClassId) (o : Nat → Nat) (M : ARR) (a1 : Int32) (hI : IA (M 0)) : CtI (U := Int32) l yX3_count cX3_count 2 (some .int) { frames := 3, cells := 0, slots := 0, locals := 69 } D (tysG kI kC kQ) (wM kI o M) [.ref (o 0), .int a1] (fun u => u) (fun _ => (wM kI o M)) (fun u => u = F_M_count M a1) := by
  refine met_Zi (own := "ShadowLatchesModel") (by decide +kernel) rfl (Nat.le_of_ble_eq_true rfl) ?_
  intro p e s m args below meth c A Q X hQ
  show Z p l e { frames := 3, cells := 0, slots := 0, locals := 69 } s m args below meth c D A 2 0 0 Q (wM kI o M) [(0, .ref (o 0)), (1, .int a1)] 0 []
  refine z_iload_n X dX3_count_0 1 rfl ?_
  refine z_i2l X dX3_count_1 ?_
  refine z_lconst (v := (0 : Int64)) X dX3_count_2 (by decide) ?_
  refine z_ldc2 X dX3_count_3 wd3_114 ?_
  refine z_callSiN X (c_M_in l D kI kC kQ (a1.toInt64) (0 : Int64) (12 : Int64)) (gS wd2_172 wd2_173 wd1_4 wd2_174) k_M_in rfl rfl ⟨Nat.le_of_ble_eq_true rfl, Nat.le_of_ble_eq_true rfl⟩ ⟨Nat.zero_le _, Nat.zero_le _⟩ rfl rfl (Nat.le_of_ble_eq_true rfl) dX3_count_6 rfl (fun _ => rfl) (fun r_6 er_6 => ?_)
  refine z_if_eq (tgt := 22) X dX3_count_9 (by decide) (fun c_9 => ?_) (fun c_9 => ?_)
  · refine z_iload_n X dX3_count_22 1 rfl ?_
    refine z_i2l X dX3_count_23 ?_
    refine z_ldc2 X dX3_count_24 wd3_115 ?_
    refine z_ldc2 X dX3_count_27 wd3_116 ?_
    refine z_callSiN X (c_M_in l D kI kC kQ (a1.toInt64) (17 : Int64) (23 : Int64)) (gS wd2_172 wd2_173 wd1_4 wd2_174) k_M_in rfl rfl ⟨Nat.le_of_ble_eq_true rfl, Nat.le_of_ble_eq_true rfl⟩ ⟨Nat.zero_le _, Nat.zero_le _⟩ rfl rfl (Nat.le_of_ble_eq_true rfl) dX3_count_30 rfl (fun _ => rfl) (fun r_30 er_30 => ?_)
    refine z_if_eq (tgt := 49) X dX3_count_33 (by decide) (fun c_33 => ?_) (fun c_33 => ?_)
    · refine z_iload_n X dX3_count_49 1 rfl ?_
      by_cases c_50_13 : a1 = (13 : Int32)
      · refine z_tableIn (tgt := 116) X dX3_count_50 (by rw [c_50_13]; decide) (by rw [c_50_13]; decide) (by rw [c_50_13]; rfl) (by decide) ?_
        refine z_aload_n X dX3_count_116 0 rfl ?_
        refine z_iload_n X dX3_count_117 1 rfl ?_
        refine z_bipush (v := (12 : Int32)) X dX3_count_118 (by decide) ?_
        refine z_isub X dX3_count_120 ?_
        refine z_callVi0 X (c_M_pathsThat l D kI kC kQ o M (a1 - (12 : Int32)) hI) (gV wd3_117 wd3_119 wd0_29 wd1_4 wd3_120) k_M_pathsThat rfl rfl ⟨Nat.le_of_ble_eq_true rfl, Nat.le_of_ble_eq_true rfl⟩ ⟨Nat.zero_le _, Nat.zero_le _⟩ 3 0 rfl rfl rfl rfl rfl (Nat.le_of_ble_eq_true rfl) dX3_count_121 (fun r_121 er_121 => ?_)
        exact z_iret X hQ rfl r_121 rfl rfl (by subst er_6 er_30 er_121; simp only [F_M_count, if_pos c_9, if_pos c_33, if_pos c_50_13]) dX3_count_124
      by_cases c_50_14 : a1 = (14 : Int32)
      · refine z_tableIn (tgt := 116) X dX3_count_50 (by rw [c_50_14]; decide) (by rw [c_50_14]; decide) (by rw [c_50_14]; rfl) (by decide) ?_
        refine z_aload_n X dX3_count_116 0 rfl ?_
        refine z_iload_n X dX3_count_117 1 rfl ?_
        refine z_bipush (v := (12 : Int32)) X dX3_count_118 (by decide) ?_
        refine z_isub X dX3_count_120 ?_
        refine z_callVi0 X (c_M_pathsThat l D kI kC kQ o M (a1 - (12 : Int32)) hI) (gV wd3_117 wd3_119 wd0_29 wd1_4 wd3_120) k_M_pathsThat rfl rfl ⟨Nat.le_of_ble_eq_true rfl, Nat.le_of_ble_eq_true rfl⟩ ⟨Nat.zero_le _, Nat.zero_le _⟩ 3 0 rfl rfl rfl rfl rfl (Nat.le_of_ble_eq_true rfl) dX3_count_121 (fun r_121 er_121 => ?_)
        exact z_iret X hQ rfl r_121 rfl rfl (by subst er_6 er_30 er_121; simp only [F_M_count, if_pos c_9, if_pos c_33, if_neg c_50_13, if_pos c_50_14]) dX3_count_124
      by_cases c_50_15 : a1 = (15 : Int32)
      · refine z_tableIn (tgt := 125) X dX3_count_50 (by rw [c_50_15]; decide) (by rw [c_50_15]; decide) (by rw [c_50_15]; rfl) (by decide) ?_
        refine z_aload_n X dX3_count_125 0 rfl ?_
        refine zM_g0 X wd2_126 dX3_count_126 ?_
        refine z_bipush (v := (52 : Int32)) X dX3_count_129 (by decide) ?_
        refine zM_l0 X vi_52_55 cl_52 dX3_count_131 ?_
        exact z_iret X hQ rfl (M 0 52) rfl rfl (by subst er_6 er_30; simp only [F_M_count, if_pos c_9, if_pos c_33, if_neg c_50_13, if_neg c_50_14, if_pos c_50_15]) dX3_count_132
      by_cases c_50_16 : a1 = (16 : Int32)
      · refine z_tableIn (tgt := 133) X dX3_count_50 (by rw [c_50_16]; decide) (by rw [c_50_16]; decide) (by rw [c_50_16]; rfl) (by decide) ?_
        refine z_aload_n X dX3_count_133 0 rfl ?_
        refine zM_g0 X wd2_126 dX3_count_134 ?_
        refine z_bipush (v := (53 : Int32)) X dX3_count_137 (by decide) ?_
        refine zM_l0 X vi_53_55 cl_53 dX3_count_139 ?_
        exact z_iret X hQ rfl (M 0 53) rfl rfl (by subst er_6 er_30; simp only [F_M_count, if_pos c_9, if_pos c_33, if_neg c_50_13, if_neg c_50_14, if_neg c_50_15, if_pos c_50_16]) dX3_count_140
      by_cases c_50_17 : a1 = (17 : Int32)
      · refine z_tableIn (tgt := 151) X dX3_count_50 (by rw [c_50_17]; decide) (by rw [c_50_17]; decide) (by rw [c_50_17]; rfl) (by decide) ?_
        refine z_bipush (v := (-2 : Int32)) X dX3_count_151 (by decide) ?_
        exact z_iret X hQ rfl (-2 : Int32) rfl rfl (by subst er_6 er_30; simp only [F_M_count, if_pos c_9, if_pos c_33, if_neg (show ¬ a1 = (13 : Int32) by rw [c_50_17]; decide), if_neg (show ¬ a1 = (14 : Int32) by rw [c_50_17]; decide), if_neg (show ¬ a1 = (15 : Int32) by rw [c_50_17]; decide), if_neg (show ¬ a1 = (16 : Int32) by rw [c_50_17]; decide), if_neg (show ¬ a1 = (24 : Int32) by rw [c_50_17]; decide), if_neg (show ¬ a1 = (25 : Int32) by rw [c_50_17]; decide)]) dX3_count_153
      by_cases c_50_18 : a1 = (18 : Int32)
      · refine z_tableIn (tgt := 151) X dX3_count_50 (by rw [c_50_18]; decide) (by rw [c_50_18]; decide) (by rw [c_50_18]; rfl) (by decide) ?_
        refine z_bipush (v := (-2 : Int32)) X dX3_count_151 (by decide) ?_
        exact z_iret X hQ rfl (-2 : Int32) rfl rfl (by subst er_6 er_30; simp only [F_M_count, if_pos c_9, if_pos c_33, if_neg (show ¬ a1 = (13 : Int32) by rw [c_50_18]; decide), if_neg (show ¬ a1 = (14 : Int32) by rw [c_50_18]; decide), if_neg (show ¬ a1 = (15 : Int32) by rw [c_50_18]; decide), if_neg (show ¬ a1 = (16 : Int32) by rw [c_50_18]; decide), if_neg (show ¬ a1 = (24 : Int32) by rw [c_50_18]; decide), if_neg (show ¬ a1 = (25 : Int32) by rw [c_50_18]; decide)]) dX3_count_153
      by_cases c_50_19 : a1 = (19 : Int32)
      · refine z_tableIn (tgt := 151) X dX3_count_50 (by rw [c_50_19]; decide) (by rw [c_50_19]; decide) (by rw [c_50_19]; rfl) (by decide) ?_
        refine z_bipush (v := (-2 : Int32)) X dX3_count_151 (by decide) ?_
        exact z_iret X hQ rfl (-2 : Int32) rfl rfl (by subst er_6 er_30; simp only [F_M_count, if_pos c_9, if_pos c_33, if_neg (show ¬ a1 = (13 : Int32) by rw [c_50_19]; decide), if_neg (show ¬ a1 = (14 : Int32) by rw [c_50_19]; decide), if_neg (show ¬ a1 = (15 : Int32) by rw [c_50_19]; decide), if_neg (show ¬ a1 = (16 : Int32) by rw [c_50_19]; decide), if_neg (show ¬ a1 = (24 : Int32) by rw [c_50_19]; decide), if_neg (show ¬ a1 = (25 : Int32) by rw [c_50_19]; decide)]) dX3_count_153
      by_cases c_50_20 : a1 = (20 : Int32)
      · refine z_tableIn (tgt := 151) X dX3_count_50 (by rw [c_50_20]; decide) (by rw [c_50_20]; decide) (by rw [c_50_20]; rfl) (by decide) ?_
        refine z_bipush (v := (-2 : Int32)) X dX3_count_151 (by decide) ?_
        exact z_iret X hQ rfl (-2 : Int32) rfl rfl (by subst er_6 er_30; simp only [F_M_count, if_pos c_9, if_pos c_33, if_neg (show ¬ a1 = (13 : Int32) by rw [c_50_20]; decide), if_neg (show ¬ a1 = (14 : Int32) by rw [c_50_20]; decide), if_neg (show ¬ a1 = (15 : Int32) by rw [c_50_20]; decide), if_neg (show ¬ a1 = (16 : Int32) by rw [c_50_20]; decide), if_neg (show ¬ a1 = (24 : Int32) by rw [c_50_20]; decide), if_neg (show ¬ a1 = (25 : Int32) by rw [c_50_20]; decide)]) dX3_count_153
      by_cases c_50_21 : a1 = (21 : Int32)
      · refine z_tableIn (tgt := 151) X dX3_count_50 (by rw [c_50_21]; decide) (by rw [c_50_21]; decide) (by rw [c_50_21]; rfl) (by decide) ?_
        refine z_bipush (v := (-2 : Int32)) X dX3_count_151 (by decide) ?_
        exact z_iret X hQ rfl (-2 : Int32) rfl rfl (by subst er_6 er_30; simp only [F_M_count, if_pos c_9, if_pos c_33, if_neg (show ¬ a1 = (13 : Int32) by rw [c_50_21]; decide), if_neg (show ¬ a1 = (14 : Int32) by rw [c_50_21]; decide), if_neg (show ¬ a1 = (15 : Int32) by rw [c_50_21]; decide), if_neg (show ¬ a1 = (16 : Int32) by rw [c_50_21]; decide), if_neg (show ¬ a1 = (24 : Int32) by rw [c_50_21]; decide), if_neg (show ¬ a1 = (25 : Int32) by rw [c_50_21]; decide)]) dX3_count_153
      by_cases c_50_22 : a1 = (22 : Int32)
      · refine z_tableIn (tgt := 151) X dX3_count_50 (by rw [c_50_22]; decide) (by rw [c_50_22]; decide) (by rw [c_50_22]; rfl) (by decide) ?_
        refine z_bipush (v := (-2 : Int32)) X dX3_count_151 (by decide) ?_
        exact z_iret X hQ rfl (-2 : Int32) rfl rfl (by subst er_6 er_30; simp only [F_M_count, if_pos c_9, if_pos c_33, if_neg (show ¬ a1 = (13 : Int32) by rw [c_50_22]; decide), if_neg (show ¬ a1 = (14 : Int32) by rw [c_50_22]; decide), if_neg (show ¬ a1 = (15 : Int32) by rw [c_50_22]; decide), if_neg (show ¬ a1 = (16 : Int32) by rw [c_50_22]; decide), if_neg (show ¬ a1 = (24 : Int32) by rw [c_50_22]; decide), if_neg (show ¬ a1 = (25 : Int32) by rw [c_50_22]; decide)]) dX3_count_153
      by_cases c_50_23 : a1 = (23 : Int32)
      · refine z_tableIn (tgt := 151) X dX3_count_50 (by rw [c_50_23]; decide) (by rw [c_50_23]; decide) (by rw [c_50_23]; rfl) (by decide) ?_
        refine z_bipush (v := (-2 : Int32)) X dX3_count_151 (by decide) ?_
        exact z_iret X hQ rfl (-2 : Int32) rfl rfl (by subst er_6 er_30; simp only [F_M_count, if_pos c_9, if_pos c_33, if_neg (show ¬ a1 = (13 : Int32) by rw [c_50_23]; decide), if_neg (show ¬ a1 = (14 : Int32) by rw [c_50_23]; decide), if_neg (show ¬ a1 = (15 : Int32) by rw [c_50_23]; decide), if_neg (show ¬ a1 = (16 : Int32) by rw [c_50_23]; decide), if_neg (show ¬ a1 = (24 : Int32) by rw [c_50_23]; decide), if_neg (show ¬ a1 = (25 : Int32) by rw [c_50_23]; decide)]) dX3_count_153
      by_cases c_50_24 : a1 = (24 : Int32)
      · refine z_tableIn (tgt := 141) X dX3_count_50 (by rw [c_50_24]; decide) (by rw [c_50_24]; decide) (by rw [c_50_24]; rfl) (by decide) ?_
        refine z_aload_n X dX3_count_141 0 rfl ?_
        refine zM_g4 X wd2_130 dX3_count_142 ?_
        exact z_iret X hQ rfl (M 7 4) rfl rfl (by subst er_6 er_30; simp only [F_M_count, if_pos c_9, if_pos c_33, if_neg c_50_13, if_neg c_50_14, if_neg c_50_15, if_neg c_50_16, if_pos c_50_24]) dX3_count_145
      by_cases c_50_25 : a1 = (25 : Int32)
      · refine z_tableIn (tgt := 146) X dX3_count_50 (by rw [c_50_25]; decide) (by rw [c_50_25]; decide) (by rw [c_50_25]; rfl) (by decide) ?_
        refine z_aload_n X dX3_count_146 0 rfl ?_
        refine zM_g8 X wd2_134 dX3_count_147 ?_
        exact z_iret X hQ rfl (M 7 8) rfl rfl (by subst er_6 er_30; simp only [F_M_count, if_pos c_9, if_pos c_33, if_neg c_50_13, if_neg c_50_14, if_neg c_50_15, if_neg c_50_16, if_neg c_50_24, if_pos c_50_25]) dX3_count_150
      refine z_tableOut (tgt := 151) X dX3_count_50 (by have t0 : a1.toInt ≠ 13 := fun q => c_50_13 (Int32.toInt_inj.mp q); have t1 : a1.toInt ≠ 14 := fun q => c_50_14 (Int32.toInt_inj.mp q); have t2 : a1.toInt ≠ 15 := fun q => c_50_15 (Int32.toInt_inj.mp q); have t3 : a1.toInt ≠ 16 := fun q => c_50_16 (Int32.toInt_inj.mp q); have t4 : a1.toInt ≠ 17 := fun q => c_50_17 (Int32.toInt_inj.mp q); have t5 : a1.toInt ≠ 18 := fun q => c_50_18 (Int32.toInt_inj.mp q); have t6 : a1.toInt ≠ 19 := fun q => c_50_19 (Int32.toInt_inj.mp q); have t7 : a1.toInt ≠ 20 := fun q => c_50_20 (Int32.toInt_inj.mp q); have t8 : a1.toInt ≠ 21 := fun q => c_50_21 (Int32.toInt_inj.mp q); have t9 : a1.toInt ≠ 22 := fun q => c_50_22 (Int32.toInt_inj.mp q); have t10 : a1.toInt ≠ 23 := fun q => c_50_23 (Int32.toInt_inj.mp q); have t11 : a1.toInt ≠ 24 := fun q => c_50_24 (Int32.toInt_inj.mp q); have t12 : a1.toInt ≠ 25 := fun q => c_50_25 (Int32.toInt_inj.mp q); omega) (by decide) ?_
      refine z_bipush (v := (-2 : Int32)) X dX3_count_151 (by decide) ?_
      exact z_iret X hQ rfl (-2 : Int32) rfl rfl (by subst er_6 er_30; simp only [F_M_count, if_pos c_9, if_pos c_33, if_neg c_50_13, if_neg c_50_14, if_neg c_50_15, if_neg c_50_16, if_neg c_50_24, if_neg c_50_25]) dX3_count_153
    · refine z_aload_n X dX3_count_36 0 rfl ?_
      refine zM_g0 X wd2_126 dX3_count_37 ?_
      refine z_bipush (v := (32 : Int32)) X dX3_count_40 (by decide) ?_
      refine z_iload_n X dX3_count_42 1 rfl ?_
      refine z_iadd X dX3_count_43 ?_
      refine z_bipush (v := (17 : Int32)) X dX3_count_44 (by decide) ?_
      refine z_isub X dX3_count_46 ?_
      refine zM_l0 X (vin_set (in_bn 17 23 (by omega) er_30 c_33)) rfl dX3_count_47 ?_
      exact z_iret X hQ rfl (M 0 ((((32 : Int32) + a1) - (17 : Int32)).toNatClampNeg)) rfl rfl (by subst er_6 er_30; simp only [F_M_count, if_pos c_9, if_neg c_33]) dX3_count_48
  · refine z_aload_n X dX3_count_12 0 rfl ?_
    refine zM_g0 X wd2_126 dX3_count_13 ?_
    refine z_bipush (v := (39 : Int32)) X dX3_count_16 (by decide) ?_
    refine z_iload_n X dX3_count_18 1 rfl ?_
    refine z_iadd X dX3_count_19 ?_
    refine zM_l0 X (vin_a 39 (bn_lt (in_bn 0 12 (by omega) er_6 c_9)) (by omega) (by omega)) rfl dX3_count_20 ?_
    exact z_iret X hQ rfl (M 0 (((39 : Int32) + a1).toNatClampNeg)) rfl rfl (by subst er_6; simp only [F_M_count, if_neg c_9]) dX3_count_21
set_option maxRecDepth 100000 in
set_option maxHeartbeats 4000000 in
theorem c_M_readsSet (l : Launch) (D : va_G) (kI kC kQ : ClassId) (o : Nat → Nat) (M : ARR) (hT : TP M) (hr : bn 0 15 (M 7 11)) : CtI (U := Int32 × ARR) l yX3_readsSet cX3_readsSet 3 (some .boolean) { frames := 3, cells := 0, slots := 0, locals := 69 } D (tysG kI kC kQ) (wM kI o M) [.ref (o 0)] (fun u => u.1) (fun u => (wM kI o u.2)) (fun u => u = F_M_readsSet M) := by
  refine met_Zi (own := "ShadowLatchesModel") (by decide +kernel) rfl (Nat.le_of_ble_eq_true rfl) ?_
  intro p e s m args below meth c A Q X hQ
  show Z p l e { frames := 3, cells := 0, slots := 0, locals := 69 } s m args below meth c D A 3 0 0 Q (wM kI o M) [(0, .ref (o 0))] 0 []
  refine z_iconst (v := (0 : Int32)) X dX3_readsSet_0 (by decide) ?_
  refine z_istore_n (lv' := [(1, .int (0 : Int32)), (0, .ref (o 0))]) X dX3_readsSet_1 (Nat.le_of_ble_eq_true rfl) rfl ?_
  refine z_aload_n X dX3_readsSet_2 1 rfl ?_
  refine z_bipush (v := (45 : Int32)) X dX3_readsSet_3 (by decide) ?_
  refine z_callVi0 X (c_M_takes l D kI kC kQ o M (45 : Int32) hT.s hT.t) (gV wd2_231 wd2_233 wd0_17 wd1_4 wd2_234) k_M_takes rfl rfl ⟨Nat.le_of_ble_eq_true rfl, Nat.le_of_ble_eq_true rfl⟩ ⟨Nat.zero_le _, Nat.zero_le _⟩ 3 0 rfl rfl rfl rfl rfl (Nat.le_of_ble_eq_true rfl) dX3_readsSet_5 (fun r_5 er_5 => ?_)
  refine z_if_ne (tgt := 71) X dX3_readsSet_8 (by decide) (fun c_8 => ?_) (fun c_8 => ?_)
  · refine z_aload_n X dX3_readsSet_71 1 rfl ?_
    refine zM_g10 X wd2_136 dX3_readsSet_72 ?_
    refine z_aload_n X dX3_readsSet_75 1 rfl ?_
    refine zM_g11 X wd2_137 dX3_readsSet_76 ?_
    refine z_iload_n X dX3_readsSet_79 0 rfl ?_
    refine zM_s6 X (vin_k (bn_lt (by first | (rw [er_5, takes_7 _ _ (by decide)]; exact hr) | (rw [eq_27, L27_7 _ _ _ _ (by decide), er_5, takes_7 _ _ (by decide)]; exact hr))) (by omega) (by omega)) rfl dX3_readsSet_80 (fun M_80 eM_80 => ?_)
    refine z_aload_n X dX3_readsSet_81 1 rfl ?_
    refine z_dup X dX3_readsSet_82 rfl ?_
    refine zM_g11 X wd2_137 dX3_readsSet_83 ?_
    refine z_iconst (v := (1 : Int32)) X dX3_readsSet_86 (by decide) ?_
    refine z_iadd X dX3_readsSet_87 ?_
    refine zM_p11 X wd2_137 dX3_readsSet_88 (fun M_88 eM_88 => ?_)
    refine z_iconst (v := (1 : Int32)) X dX3_readsSet_91 (by decide) ?_
    exact z_zret X hQ rfl ((1 : Int32), M_88) rfl rfl (by subst er_5 eM_80 eM_88; simp only [F_M_readsSet, if_neg c_8]) rfl dX3_readsSet_92
  · refine z_aload_n X dX3_readsSet_11 1 rfl ?_
    refine z_bipush (v := (48 : Int32)) X dX3_readsSet_12 (by decide) ?_
    refine z_bipush (v := (55 : Int32)) X dX3_readsSet_14 (by decide) ?_
    refine z_callVi0 X (c_M_isHere l D kI kC kQ o r_5.2 (48 : Int32) (55 : Int32) (by rw [er_5]; exact (takes_TP 45 hT).s) (by rw [er_5]; exact (takes_TP 45 hT).t)) (gV wd2_235 wd2_237 wd0_18 wd1_4 wd2_238) k_M_isHere rfl rfl ⟨Nat.le_of_ble_eq_true rfl, Nat.le_of_ble_eq_true rfl⟩ ⟨Nat.zero_le _, Nat.zero_le _⟩ 3 0 rfl rfl rfl rfl rfl (Nat.le_of_ble_eq_true rfl) dX3_readsSet_16 (fun r_16 er_16 => ?_)
    refine z_if_ne (tgt := 24) X dX3_readsSet_19 (by decide) (fun c_19 => ?_) (fun c_19 => ?_)
    · refine z_bipush (v := (47 : Int32)) X dX3_readsSet_24 (by decide) ?_
      refine z_istore_n (lv' := [(2, .int (47 : Int32)), (1, .int (0 : Int32)), (0, .ref (o 0))]) X dX3_readsSet_26 (Nat.le_of_ble_eq_true rfl) rfl ?_
      refine z_lv (lv' := [(0, .ref (o 0)), (1, .int (0 : Int32)), (2, .int (47 : Int32))]) [2, 1, 0] rfl ?_
      have Lp_27 : ∀ (n : Nat) (x1_27 : Int32) (x2_27 : Int32) (M_27 : ARR), (TP M_27) → (∃ k t : Nat, k ≤ t ∧ t ≤ 60 ∧ M_27 7 9 = nI k ∧ M_27 7 8 = nI t ∧ t + 1 ≤ k + n) → (∀ q_27 : Int32 × ARR, q_27 = L_M_readsSet_27 n x1_27 x2_27 M_27 → Z p l e { frames := 3, cells := 0, slots := 0, locals := 69 } s m args below meth c D A 3 0 0 Q (wM kI o q_27.2) [(0, .ref (o 0)), (1, .int q_27.1)] 71 []) → Z p l e { frames := 3, cells := 0, slots := 0, locals := 69 } s m args below meth c D A 3 0 0 Q (wM kI o M_27) [(0, .ref (o 0)), (1, .int x1_27), (2, .int x2_27)] 27 [] := by
        intro n
        induction n with
        | zero =>
          intro x1_27 x2_27 M_27 hU hz kk_27
          exfalso
          obtain ⟨k, t, h1, h2, h3, h4, h5⟩ := hz
          omega
        | succ n ih_27 =>
          intro x1_27 x2_27 M_27 hU hz kk_27
          refine z_aload_n X dX3_readsSet_27 0 rfl ?_
          refine z_iload_n X dX3_readsSet_28 2 rfl ?_
          refine z_iconst (v := (1 : Int32)) X dX3_readsSet_29 (by decide) ?_
          refine z_iadd X dX3_readsSet_30 ?_
          refine z_bipush (v := (55 : Int32)) X dX3_readsSet_31 (by decide) ?_
          refine z_callVi0 X (c_M_isHere l D kI kC kQ o M_27 (x2_27 + (1 : Int32)) (55 : Int32) hU.s hU.t) (gV wd2_235 wd2_237 wd0_18 wd1_4 wd2_238) k_M_isHere rfl rfl ⟨Nat.le_of_ble_eq_true rfl, Nat.le_of_ble_eq_true rfl⟩ ⟨Nat.zero_le _, Nat.zero_le _⟩ 3 0 rfl rfl rfl rfl rfl (Nat.le_of_ble_eq_true rfl) dX3_readsSet_33 (fun r_33 er_33 => ?_)
          refine z_if_eq (tgt := 71) X dX3_readsSet_36 (by decide) (fun c_36 => ?_) (fun c_36 => ?_)
          · refine z_lv (lv' := [(0, .ref (o 0)), (1, .int x1_27)]) [0, 1] rfl ?_
            exact kk_27 (x1_27, M_27) (by subst er_33; simp only [L_M_readsSet_27, if_pos c_36]) 
          · refine z_aload_n X dX3_readsSet_39 0 rfl ?_
            refine zM_g7 X wd2_133 dX3_readsSet_40 ?_
            refine z_aload_n X dX3_readsSet_43 0 rfl ?_
            refine zM_g9 X wd2_135 dX3_readsSet_44 ?_
            refine zM_l5 X (here_i hU.t hU.s (isHere_lt (by rw [← er_33]; exact c_36))) rfl dX3_readsSet_47 ?_
            refine z_topi (fun v_48 ev_48 => ?_)
            refine z_istore_n (lv' := [(2, .int v_48), (0, .ref (o 0)), (1, .int x1_27)]) X dX3_readsSet_48 (Nat.le_of_ble_eq_true rfl) rfl ?_
            refine z_iload_n X dX3_readsSet_49 2 rfl ?_
            refine z_iconst (v := (1 : Int32)) X dX3_readsSet_50 (by decide) ?_
            refine z_iload_n X dX3_readsSet_51 0 rfl ?_
            refine z_bipush (v := (48 : Int32)) X dX3_readsSet_52 (by decide) ?_
            refine z_isub X dX3_readsSet_54 ?_
            refine z_ishl X dX3_readsSet_55 ?_
            refine z_ior X dX3_readsSet_56 ?_
            refine z_topi (fun v_57 ev_57 => ?_)
            refine z_istore_n (lv' := [(1, .int v_57), (2, .int v_48), (0, .ref (o 0))]) X dX3_readsSet_57 (Nat.le_of_ble_eq_true rfl) rfl ?_
            refine z_aload_n X dX3_readsSet_58 2 rfl ?_
            refine z_dup X dX3_readsSet_59 rfl ?_
            refine zM_g9 X wd2_135 dX3_readsSet_60 ?_
            refine z_iconst (v := (1 : Int32)) X dX3_readsSet_63 (by decide) ?_
            refine z_iadd X dX3_readsSet_64 ?_
            refine zM_p9 X wd2_135 dX3_readsSet_65 (fun M_65 eM_65 => ?_)
            refine z_goto (tgt := 27) X dX3_readsSet_68 (by decide) ?_
            refine z_lv (lv' := [(0, .ref (o 0)), (1, .int v_57), (2, .int v_48)]) [2, 0, 1] rfl ?_
            exact ih_27 v_57 v_48 M_65 (by rw [eM_65]; exact TP_next hU (isHere_lt (by rw [← er_33]; exact c_36))) (by rw [eM_65]; exact hz_next hz (isHere_lt (by rw [← er_33]; exact c_36))) (fun q_27 eq_27 => kk_27 q_27 (eq_27.trans (by subst er_33 ev_48 ev_57 eM_65; simp only [L_M_readsSet_27, if_neg c_36])))
      refine Lp_27 61 (0 : Int32) (47 : Int32) r_5.2 (by rw [er_5]; exact takes_TP 45 hT) (by obtain ⟨k, t, h1, h2, h3, h4⟩ := takes_TP 45 hT; rw [er_5]; exact ⟨k, t, h1, h2, h3, h4, by omega⟩) (fun q_27 eq_27 => ?_)
      refine z_aload_n X dX3_readsSet_71 0 rfl ?_
      refine zM_g10 X wd2_136 dX3_readsSet_72 ?_
      refine z_aload_n X dX3_readsSet_75 0 rfl ?_
      refine zM_g11 X wd2_137 dX3_readsSet_76 ?_
      refine z_iload_n X dX3_readsSet_79 1 rfl ?_
      refine zM_s6 X (vin_k (bn_lt (by first | (rw [er_5, takes_7 _ _ (by decide)]; exact hr) | (rw [eq_27, L27_7 _ _ _ _ (by decide), er_5, takes_7 _ _ (by decide)]; exact hr))) (by omega) (by omega)) rfl dX3_readsSet_80 (fun M_80 eM_80 => ?_)
      refine z_aload_n X dX3_readsSet_81 0 rfl ?_
      refine z_dup X dX3_readsSet_82 rfl ?_
      refine zM_g11 X wd2_137 dX3_readsSet_83 ?_
      refine z_iconst (v := (1 : Int32)) X dX3_readsSet_86 (by decide) ?_
      refine z_iadd X dX3_readsSet_87 ?_
      refine zM_p11 X wd2_137 dX3_readsSet_88 (fun M_88 eM_88 => ?_)
      refine z_iconst (v := (1 : Int32)) X dX3_readsSet_91 (by decide) ?_
      exact z_zret X hQ rfl ((1 : Int32), M_88) rfl rfl (by subst er_5 er_16 eq_27 eM_80 eM_88; simp only [F_M_readsSet, if_pos c_8, if_neg c_19]) rfl dX3_readsSet_92
    · refine z_iconst (v := (0 : Int32)) X dX3_readsSet_22 (by decide) ?_
      exact z_zret X hQ rfl ((0 : Int32), r_5.2) rfl rfl (by subst er_5 er_16; simp only [F_M_readsSet, if_pos c_8, if_pos c_19]) rfl dX3_readsSet_23
set_option maxRecDepth 100000 in
set_option maxHeartbeats 4000000 in
theorem c_M_fault (l : Launch) (D : va_G) (kI kC kQ : ClassId) (o : Nat → Nat) (M : ARR) (ht : bn 0 60 (M 7 8)) : CtI (U := Int32 × ARR) l yX3_fault cX3_fault 2 (some .int) { frames := 4, cells := 0, slots := 0, locals := 91 } D (tysG kI kC kQ) (wM kI o M) [.ref (o 0)] (fun u => u.1) (fun u => (wM kI o u.2)) (fun u => u = F_M_fault M) := by
  refine met_Zi (own := "ShadowLatchesModel") (by decide +kernel) rfl (Nat.le_of_ble_eq_true rfl) ?_
  intro p e s m args below meth c A Q X hQ
  show Z p l e { frames := 4, cells := 0, slots := 0, locals := 91 } s m args below meth c D A 2 0 0 Q (wM kI o M) [(0, .ref (o 0))] 0 []
  refine z_aload_n X dX3_fault_0 0 rfl ?_
  refine z_iconst (v := (0 : Int32)) X dX3_fault_1 (by decide) ?_
  refine zM_p9 X wd2_135 dX3_fault_2 (fun M_2 eM_2 => ?_)
  refine z_aload_n X dX3_fault_5 0 rfl ?_
  refine z_iconst (v := (0 : Int32)) X dX3_fault_6 (by decide) ?_
  refine zM_p11 X wd2_137 dX3_fault_7 (fun M_7 eM_7 => ?_)
  refine z_iconst (v := (1 : Int32)) X dX3_fault_10 (by decide) ?_
  refine z_istore_n (lv' := [(1, .int (1 : Int32)), (0, .ref (o 0))]) X dX3_fault_11 (Nat.le_of_ble_eq_true rfl) rfl ?_
  refine z_lv (lv' := [(0, .ref (o 0)), (1, .int (1 : Int32))]) [1, 0] rfl ?_
  have Lp_12 : ∀ (n : Nat) (x1_12 : Int32) (M_12 : ARR), (FK n x1_12 M_12) → (F_M_fault M = L_M_fault_12 n x1_12 M_12) → Z p l e { frames := 4, cells := 0, slots := 0, locals := 91 } s m args below meth c D A 2 0 0 Q (wM kI o M_12) [(0, .ref (o 0)), (1, .int x1_12)] 12 [] := by
    intro n
    induction n with
    | zero =>
      intro x1_12 M_12 hi hF_12
      exfalso
      exact FK_0 hi
    | succ n ih_12 =>
      intro x1_12 M_12 hi hF_12
      refine z_iload_n X dX3_fault_12 1 rfl ?_
      refine z_if_eq (tgt := 55) X dX3_fault_13 (by decide) (fun c_13 => ?_) (fun c_13 => ?_)
      · refine z_aload_n X dX3_fault_55 0 rfl ?_
        refine zM_g9 X wd2_135 dX3_fault_56 ?_
        refine z_aload_n X dX3_fault_59 0 rfl ?_
        refine zM_g8 X wd2_134 dX3_fault_60 ?_
        have J_j_75 : ∀ (j_75 : Int32), j_75 = (if (M_12 7 9) = (M_12 7 8) then ((-5 : Int32)) else ((M_12 7 9))) → Z p l e { frames := 4, cells := 0, slots := 0, locals := 91 } s m args below meth c D A 2 0 0 Q (wM kI o M_12) [] 75 [.int j_75] := by
          intro j_75 ej_75
          exact z_iret X hQ rfl (j_75, M_12) rfl rfl (by rw [hF_12]; subst ej_75; simp only [L_M_fault_12, if_pos c_13]) dX3_fault_75
        refine z_icmp_ne (tgt := 71) X dX3_fault_63 (by decide) (fun c_63 => ?_) (fun c_63 => ?_)
        · refine z_aload_n X dX3_fault_71 0 rfl ?_
          refine zM_g9 X wd2_135 dX3_fault_72 ?_
          refine z_lv (lv' := []) [] rfl ?_
          exact J_j_75 (M_12 7 9) (by simp only [if_neg c_63])
        · refine z_bipush (v := (-5 : Int32)) X dX3_fault_66 (by decide) ?_
          refine z_goto (tgt := 75) X dX3_fault_68 (by decide) ?_
          refine z_lv (lv' := []) [] rfl ?_
          exact J_j_75 (-5 : Int32) (by simp only [if_pos c_63])
      · refine z_aload_n X dX3_fault_16 0 rfl ?_
        refine z_callVi0 X (c_M_readsSet l D kI kC kQ o M_12 hi.1 (FK_15 hi c_13)) (gV wd2_227 wd2_229 wd0_16 wd1_4 wd2_230) k_M_readsSet rfl rfl ⟨Nat.le_of_ble_eq_true rfl, Nat.le_of_ble_eq_true rfl⟩ ⟨Nat.zero_le _, Nat.zero_le _⟩ 3 0 rfl rfl rfl rfl rfl (Nat.le_of_ble_eq_true rfl) dX3_fault_17 (fun r_17 er_17 => ?_)
        refine z_if_ne (tgt := 28) X dX3_fault_20 (by decide) (fun c_20 => ?_) (fun c_20 => ?_)
        · refine z_aload_n X dX3_fault_28 0 rfl ?_
          refine zM_g11 X wd2_137 dX3_fault_29 ?_
          refine z_bipush (v := (16 : Int32)) X dX3_fault_32 (by decide) ?_
          have J_j_51 : ∀ (j_51 : Int32 × ARR), j_51 = (if (16 : Int32) ≤ (r_17.2 7 11) then (((0 : Int32), r_17.2)) else (let r_40 : Int32 × ARR := (F_M_takes r_17.2 (44 : Int32)); if r_40.1 = (0 : Int32) then (((0 : Int32), r_40.2)) else (((1 : Int32), r_40.2)))) → (FK n j_51.1 j_51.2) → Z p l e { frames := 4, cells := 0, slots := 0, locals := 91 } s m args below meth c D A 2 0 0 Q (wM kI o j_51.2) [(0, .ref (o 0))] 51 [.int j_51.1] := by
            intro j_51 ej_51 hk
            refine z_istore_n (lv' := [(1, .int j_51.1), (0, .ref (o 0))]) X dX3_fault_51 (Nat.le_of_ble_eq_true rfl) rfl ?_
            refine z_goto (tgt := 12) X dX3_fault_52 (by decide) ?_
            refine z_lv (lv' := [(0, .ref (o 0)), (1, .int j_51.1)]) [1, 0] rfl ?_
            exact ih_12 j_51.1 j_51.2 hk (hF_12.trans (by subst er_17 ej_51; simp only [L_M_fault_12, if_neg c_13, if_neg c_20]))
          refine z_icmp_ge (tgt := 50) X dX3_fault_34 (by decide) (fun c_34 => ?_) (fun c_34 => ?_)
          · refine z_iconst (v := (0 : Int32)) X dX3_fault_50 (by decide) ?_
            refine z_lv (lv' := [(0, .ref (o 0))]) [0] rfl ?_
            exact J_j_51 ((0 : Int32), r_17.2) (by simp only [if_pos c_34]) (FK_a (M := r_17.2) (FK_r hi c_13 er_17 c_20))
          · refine z_aload_n X dX3_fault_37 0 rfl ?_
            refine z_bipush (v := (44 : Int32)) X dX3_fault_38 (by decide) ?_
            refine z_callVi0 X (c_M_takes l D kI kC kQ o r_17.2 (44 : Int32) (FK_r hi c_13 er_17 c_20).1.s (FK_r hi c_13 er_17 c_20).1.t) (gV wd2_231 wd2_233 wd0_17 wd1_4 wd2_234) k_M_takes rfl rfl ⟨Nat.le_of_ble_eq_true rfl, Nat.le_of_ble_eq_true rfl⟩ ⟨Nat.zero_le _, Nat.zero_le _⟩ 3 0 rfl rfl rfl rfl rfl (Nat.le_of_ble_eq_true rfl) dX3_fault_40 (fun r_40 er_40 => ?_)
            refine z_if_eq (tgt := 50) X dX3_fault_43 (by decide) (fun c_43 => ?_) (fun c_43 => ?_)
            · refine z_iconst (v := (0 : Int32)) X dX3_fault_50 (by decide) ?_
              refine z_lv (lv' := [(0, .ref (o 0))]) [0] rfl ?_
              exact J_j_51 ((0 : Int32), r_40.2) (by subst er_40; simp only [if_neg c_34, if_pos c_43]) (by rw [er_40]; exact FK_a (FK_t 44 (FK_r hi c_13 er_17 c_20)))
            · refine z_iconst (v := (1 : Int32)) X dX3_fault_46 (by decide) ?_
              refine z_goto (tgt := 51) X dX3_fault_47 (by decide) ?_
              refine z_lv (lv' := [(0, .ref (o 0))]) [0] rfl ?_
              exact J_j_51 ((1 : Int32), r_40.2) (by subst er_40; simp only [if_neg c_34, if_neg c_43]) (by rw [er_40]; exact FK_b 44 (FK_r hi c_13 er_17 c_20) c_34)
        · refine z_aload_n X dX3_fault_23 0 rfl ?_
          refine zM_g9 X wd2_135 dX3_fault_24 ?_
          exact z_iret X hQ rfl ((r_17.2 7 9), r_17.2) rfl rfl (by rw [hF_12]; subst er_17; simp only [L_M_fault_12, if_neg c_13, if_pos c_20]) dX3_fault_27
  exact Lp_12 17 (1 : Int32) M_7 (by rw [eM_7, eM_2]; exact FK_i ht) (by subst eM_2 eM_7; simp only [F_M_fault])
set_option maxRecDepth 100000 in
set_option maxHeartbeats 4000000 in
theorem c_M_takeWorkload (l : Launch) (D : va_G) (kI kC kQ : ClassId) (o : Nat → Nat) (M : ARR) (hI : IA (M 0)) (hh : bn 0 4 (M 7 4)) (ht : bn 0 60 (M 7 8)) : CtI (U := Int32 × ARR) l yX3_takeWorkload cX3_takeWorkload 3 (some .int) { frames := 5, cells := 0, slots := 0, locals := 112 } D (tysG kI kC kQ) (wM kI o M) [.ref (o 0)] (fun u => u.1) (fun u => (wM kI o u.2)) (fun u => u = F_M_takeWorkload M) := by
  refine met_Zi (own := "ShadowLatchesModel") (by decide +kernel) rfl (Nat.le_of_ble_eq_true rfl) ?_
  intro p e s m args below meth c A Q X hQ
  show Z p l e { frames := 5, cells := 0, slots := 0, locals := 112 } s m args below meth c D A 3 0 0 Q (wM kI o M) [(0, .ref (o 0))] 0 []
  refine z_aload_n X dX3_takeWorkload_0 0 rfl ?_
  refine z_callVi0 X (c_M_fault l D kI kC kQ o M ht) (gV wd2_223 wd2_225 wd0_15 wd1_4 wd2_226) k_M_fault rfl rfl ⟨Nat.le_of_ble_eq_true rfl, Nat.le_of_ble_eq_true rfl⟩ ⟨Nat.zero_le _, Nat.zero_le _⟩ 3 0 rfl rfl rfl rfl rfl (Nat.le_of_ble_eq_true rfl) dX3_takeWorkload_1 (fun r_1 er_1 => ?_)
  obtain ⟨K, hK1, hK2, hK⟩ : bn 0 16 (r_1.2 7 11) := by rw [er_1]; exact fault_n ht
  have h74 : r_1.2 7 4 = M 7 4 := by rw [er_1]; exact fault_7 ht (by decide) (by decide)
  refine z_istore_n (lv' := [(1, .int r_1.1), (0, .ref (o 0))]) X dX3_takeWorkload_4 (Nat.le_of_ble_eq_true rfl) rfl ?_
  refine z_iload_n X dX3_takeWorkload_5 0 rfl ?_
  refine z_bipush (v := (-5 : Int32)) X dX3_takeWorkload_6 (by decide) ?_
  refine z_icmp_eq (tgt := 16) X dX3_takeWorkload_8 (by decide) (fun c_8 => ?_) (fun c_8 => ?_)
  · refine z_iconst (v := (0 : Int32)) X dX3_takeWorkload_16 (by decide) ?_
    refine z_istore_n (lv' := [(2, .int (0 : Int32)), (1, .int r_1.1), (0, .ref (o 0))]) X dX3_takeWorkload_17 (Nat.le_of_ble_eq_true rfl) rfl ?_
    refine z_lv (lv' := [(0, .ref (o 0)), (2, .int (0 : Int32))]) [2, 0] rfl ?_
    have Lp_18 : ∀ (n : Nat) (x2_18 : Int32), (cu K n x2_18) → (F_M_takeWorkload M = L_M_takeWorkload_18 r_1 n x2_18) → Z p l e { frames := 5, cells := 0, slots := 0, locals := 112 } s m args below meth c D A 3 0 0 Q (wM kI o r_1.2) [(0, .ref (o 0)), (2, .int x2_18)] 18 [] := by
      intro n
      induction n with
      | zero =>
        intro x2_18 hi hF_18
        exfalso
        exact cu_0 hi
      | succ n ih_18 =>
        intro x2_18 hi hF_18
        refine z_iload_n X dX3_takeWorkload_18 1 rfl ?_
        refine z_aload_n X dX3_takeWorkload_19 0 rfl ?_
        refine zM_g11 X wd2_137 dX3_takeWorkload_20 ?_
        refine z_icmp_ge (tgt := 52) X dX3_takeWorkload_23 (by decide) (fun c_23 => ?_) (fun c_23 => ?_)
        · refine z_aload_n X dX3_takeWorkload_52 0 rfl ?_
          refine z_callVv0 X (c_M_remember l D kI kC kQ o r_1.2) (gV wd2_175 wd2_177 wd0_10 wd1_4 wd2_178) k_M_remember rfl rfl ⟨Nat.le_of_ble_eq_true rfl, Nat.le_of_ble_eq_true rfl⟩ ⟨Nat.zero_le _, Nat.zero_le _⟩ 3 0 rfl rfl rfl rfl rfl (Nat.le_of_ble_eq_true rfl) dX3_takeWorkload_53 (fun r_53 er_53 => ?_)
          refine z_iconst (v := (0 : Int32)) X dX3_takeWorkload_56 (by decide) ?_
          refine z_istore_n (lv' := [(2, .int (0 : Int32)), (0, .ref (o 0))]) X dX3_takeWorkload_57 (Nat.le_of_ble_eq_true rfl) rfl ?_
          refine z_lv (lv' := [(0, .ref (o 0)), (2, .int (0 : Int32))]) [1, 0] rfl ?_
          have Lp_58 : ∀ (n : Nat) (x2_58 : Int32) (M_58 : ARR), (cu K n x2_58) → (M_58 7 11 = nI K) → (M_58 7 4 = M 7 4) → (∀ q_58 : ARR, q_58 = L_M_takeWorkload_58 n x2_58 M_58 → (q_58 7 11 = nI K) → (q_58 7 4 = M 7 4) → Z p l e { frames := 5, cells := 0, slots := 0, locals := 112 } s m args below meth c D A 3 0 0 Q (wM kI o q_58) [(0, .ref (o 0))] 87 []) → Z p l e { frames := 5, cells := 0, slots := 0, locals := 112 } s m args below meth c D A 3 0 0 Q (wM kI o M_58) [(0, .ref (o 0)), (2, .int x2_58)] 58 [] := by
            intro n
            induction n with
            | zero =>
              intro x2_58 M_58 hi hp hm kk_58
              exfalso
              exact cu_0 hi
            | succ n ih_58 =>
              intro x2_58 M_58 hi hp hm kk_58
              refine z_iload_n X dX3_takeWorkload_58 1 rfl ?_
              refine z_aload_n X dX3_takeWorkload_59 0 rfl ?_
              refine zM_g11 X wd2_137 dX3_takeWorkload_60 ?_
              refine z_icmp_ge (tgt := 87) X dX3_takeWorkload_63 (by decide) (fun c_63 => ?_) (fun c_63 => ?_)
              · refine z_lv (lv' := [(0, .ref (o 0))]) [0] rfl ?_
                exact kk_58 M_58 (by simp only [L_M_takeWorkload_58, if_pos c_63]) hp hm
              · refine z_aload_n X dX3_takeWorkload_66 0 rfl ?_
                refine zM_g0 X wd2_126 dX3_takeWorkload_67 ?_
                refine z_bipush (v := (16 : Int32)) X dX3_takeWorkload_70 (by decide) ?_
                refine z_iload_n X dX3_takeWorkload_72 1 rfl ?_
                refine z_iadd X dX3_takeWorkload_73 ?_
                refine z_aload_n X dX3_takeWorkload_74 0 rfl ?_
                refine zM_g10 X wd2_136 dX3_takeWorkload_75 ?_
                refine z_iload_n X dX3_takeWorkload_78 1 rfl ?_
                refine zM_l6 X (vin_k (cu_lt hi (by omega) hp c_63) (by omega) (by omega)) rfl dX3_takeWorkload_79 ?_
                refine zM_s0 X (vin_a 16 (cu_lt hi (by omega) hp c_63) (by omega) (by omega)) rfl dX3_takeWorkload_80 (fun M_80 eM_80 => ?_)
                obtain ⟨v_81, ev_81⟩ : ∃ y : Int32, y = x2_58 + (1 : Int32) := ⟨_, rfl⟩
                refine z_iinc (v := v_81) (lv' := [(2, .int v_81), (0, .ref (o 0))]) X dX3_takeWorkload_81 1 rfl (by rw [ev_81]; rfl) (Nat.le_of_ble_eq_true rfl) rfl ?_
                refine z_goto (tgt := 58) X dX3_takeWorkload_84 (by decide) ?_
                refine z_lv (lv' := [(0, .ref (o 0)), (2, .int v_81)]) [1, 0] rfl ?_
                exact ih_58 v_81 M_80 (cu_b hi (by omega) hp c_63 ev_81) (by rw [eM_80, sA_o _ _ _ _ (by decide)]; exact hp) (by rw [eM_80, sA_o _ _ _ _ (by decide)]; exact hm) (fun q_58 eq_58 => kk_58 q_58 (eq_58.trans (by subst eM_80 ev_81; simp only [L_M_takeWorkload_58, if_neg c_63])))
          refine Lp_58 17 (0 : Int32) r_53 (cu_i (by omega)) (by rw [er_53, rem_o _ (by decide)]; exact hK) (by rw [er_53, rem_o _ (by decide)]; exact h74) (fun q_58 eq_58 hq hm4 => ?_)
          refine z_aload_n X dX3_takeWorkload_87 0 rfl ?_
          refine z_aload_n X dX3_takeWorkload_88 0 rfl ?_
          refine zM_g11 X wd2_137 dX3_takeWorkload_89 ?_
          refine z_callVv0 X (c_M_begins l D kI kC kQ o q_58 (q_58 7 11) (bn_w ⟨K, hK1, hK2, hq⟩ (by omega) (by omega))) (gV wd2_207 wd2_209 wd0_14 wd1_4 wd2_210) k_M_begins rfl rfl ⟨Nat.le_of_ble_eq_true rfl, Nat.le_of_ble_eq_true rfl⟩ ⟨Nat.zero_le _, Nat.zero_le _⟩ 3 0 rfl rfl rfl rfl rfl (Nat.le_of_ble_eq_true rfl) dX3_takeWorkload_92 (fun r_92 er_92 => ?_)
          refine z_aload_n X dX3_takeWorkload_95 0 rfl ?_
          refine z_aload_n X dX3_takeWorkload_96 0 rfl ?_
          refine zM_g11 X wd2_137 dX3_takeWorkload_97 ?_
          refine z_callVi0 X (c_M_acted l D kI kC kQ o r_92 (r_92 7 11) (by rw [er_92, begins_o _ _ (by decide), hm4]; exact hh)) (gV wd2_182 wd2_184 wd0_11 wd1_4 wd2_185) k_M_acted rfl rfl ⟨Nat.le_of_ble_eq_true rfl, Nat.le_of_ble_eq_true rfl⟩ ⟨Nat.zero_le _, Nat.zero_le _⟩ 3 0 rfl rfl rfl rfl rfl (Nat.le_of_ble_eq_true rfl) dX3_takeWorkload_100 (fun r_100 er_100 => ?_)
          exact z_iret X hQ rfl (r_100.1, r_100.2) rfl rfl (by rw [hF_18]; subst er_53 eq_58 er_92 er_100; simp only [L_M_takeWorkload_18, if_pos c_23]) dX3_takeWorkload_103
        · refine z_aload_n X dX3_takeWorkload_26 0 rfl ?_
          refine zM_g10 X wd2_136 dX3_takeWorkload_27 ?_
          refine z_iload_n X dX3_takeWorkload_30 1 rfl ?_
          refine zM_l6 X (vin_k (cu_lt hi (by omega) hK c_23) (by omega) (by omega)) rfl dX3_takeWorkload_31 ?_
          refine z_iconst (v := (1 : Int32)) X dX3_takeWorkload_32 (by decide) ?_
          refine z_aload_n X dX3_takeWorkload_33 0 rfl ?_
          refine zM_g0 X wd2_126 dX3_takeWorkload_34 ?_
          refine z_bipush (v := (51 : Int32)) X dX3_takeWorkload_37 (by decide) ?_
          refine zM_l0 X vi_51_55 cl_51 dX3_takeWorkload_39 ?_
          refine z_ishl X dX3_takeWorkload_40 ?_
          refine z_icmp_lt (tgt := 46) X dX3_takeWorkload_41 (by decide) (fun c_41 => ?_) (fun c_41 => ?_)
          · obtain ⟨v_46, ev_46⟩ : ∃ y : Int32, y = x2_18 + (1 : Int32) := ⟨_, rfl⟩
            refine z_iinc (v := v_46) (lv' := [(2, .int v_46), (0, .ref (o 0))]) X dX3_takeWorkload_46 1 rfl (by rw [ev_46]; rfl) (Nat.le_of_ble_eq_true rfl) rfl ?_
            refine z_goto (tgt := 18) X dX3_takeWorkload_49 (by decide) ?_
            refine z_lv (lv' := [(0, .ref (o 0)), (2, .int v_46)]) [1, 0] rfl ?_
            exact ih_18 v_46 (cu_b hi (by omega) hK c_23 ev_46) (hF_18.trans (by subst ev_46; simp only [L_M_takeWorkload_18, if_neg c_23, if_pos c_41]))
          · refine z_iconst (v := (-1 : Int32)) X dX3_takeWorkload_44 (by decide) ?_
            exact z_iret X hQ rfl ((-1 : Int32), r_1.2) rfl rfl (by rw [hF_18]; simp only [L_M_takeWorkload_18, if_neg c_23, if_neg c_41]) dX3_takeWorkload_45
    exact Lp_18 17 (0 : Int32) (cu_i (by omega)) (by subst er_1; simp only [F_M_takeWorkload, if_pos c_8])
  · refine z_bipush (v := (-100 : Int32)) X dX3_takeWorkload_11 (by decide) ?_
    refine z_iload_n X dX3_takeWorkload_13 0 rfl ?_
    refine z_isub X dX3_takeWorkload_14 ?_
    exact z_iret X hQ rfl (((-100 : Int32) - r_1.1), r_1.2) rfl rfl (by subst er_1; simp only [F_M_takeWorkload, if_neg c_8]) dX3_takeWorkload_15
