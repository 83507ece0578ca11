set_option maxRecDepth 100000 in
set_option maxHeartbeats 4000000 in
theorem c_S_isWithin (l : Launch) (D : va_G) (kI kC kQ : ClassId) (a1 : Int32) (a2 : Int32) (a3 : Int32) : CtI (U := Int32) l yX2_isWithin cX2_isWithin 3 (some .boolean) { frames := 0, cells := 0, slots := 0, locals := 0 } D (tysG kI kC kQ) [] [.int a1, .int a2, .int a3] (fun u => u) (fun _ => []) (fun u => u = F_S_isWithin a1 a2 a3) := by
  refine met_Zi (own := "ShadowLatches") (by decide +kernel) rfl (Nat.le_of_ble_eq_true rfl) ?_
  intro p e s m args below meth c A Q X hQ
  show Z p l e { frames := 0, cells := 0, slots := 0, locals := 0 } s m args below meth c D A 3 0 0 Q [] [(0, .int a1), (1, .int a2), (2, .int a3)] 0 []
  refine z_iload_n X dX2_isWithin_0 0 rfl ?_
  refine z_iload_n X dX2_isWithin_1 1 rfl ?_
  have J_j_15 : ∀ (j_15 : Int32), j_15 = (if a1 < a2 then ((0 : Int32)) else (if a3 < a1 then ((0 : Int32)) else ((1 : Int32)))) → Z p l e { frames := 0, cells := 0, slots := 0, locals := 0 } s m args below meth c D A 3 0 0 Q [] [] 15 [.int j_15] := by
    intro j_15 ej_15
    exact z_zret X hQ rfl j_15 rfl rfl (by subst ej_15; simp only [F_S_isWithin]) (nb (by rw [ej_15]; (try dsimp only); repeat' first | exact bl_in _ _ _ | apply bl_ite | exact Or.inl rfl | exact Or.inr rfl)) dX2_isWithin_15
  refine z_icmp_lt (tgt := 14) X dX2_isWithin_2 (by decide) (fun c_2 => ?_) (fun c_2 => ?_)
  · refine z_iconst (v := (0 : Int32)) X dX2_isWithin_14 (by decide) ?_
    refine z_lv (lv' := []) [] rfl ?_
    exact J_j_15 (0 : Int32) (by simp only [if_pos c_2])
  · refine z_iload_n X dX2_isWithin_5 0 rfl ?_
    refine z_iload_n X dX2_isWithin_6 2 rfl ?_
    refine z_icmp_gt (tgt := 14) X dX2_isWithin_7 (by decide) (fun c_7 => ?_) (fun c_7 => ?_)
    · refine z_iconst (v := (0 : Int32)) X dX2_isWithin_14 (by decide) ?_
      refine z_lv (lv' := []) [] rfl ?_
      exact J_j_15 (0 : Int32) (by simp only [if_neg c_2, if_pos c_7])
    · refine z_iconst (v := (1 : Int32)) X dX2_isWithin_10 (by decide) ?_
      refine z_goto (tgt := 15) X dX2_isWithin_11 (by decide) ?_
      refine z_lv (lv' := []) [] rfl ?_
      exact J_j_15 (1 : Int32) (by simp only [if_neg c_2, if_neg c_7])
set_option maxRecDepth 100000 in
set_option maxHeartbeats 4000000 in
theorem c_S_isLength (l : Launch) (D : va_G) (kI kC kQ : ClassId) (a1 : Int32) : CtI (U := Int32) l yX2_isLength cX2_isLength 1 (some .boolean) { frames := 1, cells := 0, slots := 0, locals := 22 } D (tysG kI kC kQ) [] [.int a1] (fun u => u) (fun _ => []) (fun u => u = F_S_isLength a1) := by
  refine met_Zi (own := "ShadowLatches") (by decide +kernel) rfl (Nat.le_of_ble_eq_true rfl) ?_
  intro p e s m args below meth c A Q X hQ
  show Z p l e { frames := 1, cells := 0, slots := 0, locals := 22 } s m args below meth c D A 1 0 0 Q [] [(0, .int a1)] 0 []
  refine z_iload_n X dX2_isLength_0 0 rfl ?_
  refine z_bipush (v := (10 : Int32)) X dX2_isLength_1 (by decide) ?_
  refine z_sipush (v := (400 : Int32)) X dX2_isLength_3 (by decide) ?_
  refine z_callSiN X (c_S_isWithin l D kI kC kQ a1 (10 : Int32) (400 : Int32)) (gS wd1_160 wd1_161 wd1_1 wd1_162) k_S_isWithin rfl rfl ⟨Nat.le_of_ble_eq_true rfl, Nat.le_of_ble_eq_true rfl⟩ ⟨Nat.zero_le _, Nat.zero_le _⟩ rfl rfl (Nat.le_of_ble_eq_true rfl) dX2_isLength_6 rfl (fun _ => rfl) (fun r_6 er_6 => ?_)
  exact z_zret X hQ rfl r_6 rfl rfl (by subst er_6; simp only [F_S_isLength]) (nb (by rw [er_6]; exact bl_isWithin _ _ _)) dX2_isLength_9
set_option maxRecDepth 100000 in
set_option maxHeartbeats 4000000 in
theorem c_S_recordState (l : Launch) (D : va_G) (kI kC kQ : ClassId) (o r : Nat → Nat) (ad : ADT) (S : SLS) (hO : OKS S) : CtV (U := SLS × ADT) l yX2_recordState cX2_recordState 1 none { frames := 2, cells := 0, slots := 0, locals := 81 } D (tysG kI kC kQ) (wS kI kC kQ o r ad S) [.ref (o 0)] (fun u => wS kI kC kQ o r u.2 u.1) (fun u => u.1 = F_S_recordState S) := by
  refine met_Zv (own := "ShadowLatches") (by decide +kernel) rfl (Nat.le_of_ble_eq_true rfl) ?_
  intro p e s m args below meth c A Q X hQ
  show Z p l e { frames := 2, cells := 0, slots := 0, locals := 81 } s m args below meth c D A 1 0 0 Q (wS kI kC kQ o r ad S) [(0, .ref (o 0))] 0 []
  refine z_aload_n X dX2_recordState_0 0 rfl ?_
  refine z_get X inW2 rfl 0 wS_0 5 (by decide) wd1_137 rfl rfl dX2_recordState_1 ?_
  refine z_iconst (v := (4 : Int32)) X dX2_recordState_4 (by decide) ?_
  have J_j_12 : ∀ (j_12 : SLS) (ad_12 : ADT), j_12 = (if (S.2.2 5) = (4 : Int32) then (let r_9 : SLS := (F_S_dropOldestState S); r_9) else (S)) → (bn 0 3 (j_12.2.2 5)) → ((j_12.1 0).1 4 9 = 0 ∨ (j_12.1 0).1 4 9 = 1) → Z p l e { frames := 2, cells := 0, slots := 0, locals := 81 } s m args below meth c D A 1 0 0 Q (wS kI kC kQ o r ad_12 j_12) [(0, .ref (o 0))] 12 [] := by
    intro j_12 ad_12 ej_12 hk hb
    refine z_aload_n X dX2_recordState_12 0 rfl ?_
    refine z_get X inW2 rfl 0 wS_0 3 (by decide) wd1_135 rfl rfl dX2_recordState_13 ?_
    refine z_aload_n X dX2_recordState_16 0 rfl ?_
    refine z_get X inW2 rfl 0 wS_0 5 (by decide) wd1_137 rfl rfl dX2_recordState_17 ?_
    refine zS_hl X (bn_4v hk) rfl dX2_recordState_20 ?_
    refine z_aload_n X dX2_recordState_21 0 rfl ?_
    refine z_get X inW2 rfl 0 wS_0 0 (by decide) wd1_132 rfl rfl dX2_recordState_22 ?_
    refine zS_cph X (bn_4k hk) hb (gV wd1_171 wd1_172 wd1_173 wd1_2 wd1_174) ⟨Nat.le_of_ble_eq_true rfl, Nat.le_of_ble_eq_true rfl⟩ ⟨Nat.zero_le _, Nat.zero_le _⟩ (Nat.le_of_ble_eq_true rfl) dX2_recordState_25 (fun S_25 eS_25 => ?_)
    refine z_aload_n X dX2_recordState_28 0 rfl ?_
    refine z_dup X dX2_recordState_29 rfl ?_
    refine z_get X inW2 rfl 0 wS_0 5 (by decide) wd1_137 rfl rfl dX2_recordState_30 ?_
    refine z_iconst (v := (1 : Int32)) X dX2_recordState_33 (by decide) ?_
    refine z_iadd X dX2_recordState_34 ?_
    refine zS_p5 X wd1_137 dX2_recordState_35 (fun S_35 eS_35 => ?_)
    exact z_vret X hQ rfl (S_35, ad_12) rfl (by subst ej_12 eS_25 eS_35; simp only [F_S_recordState]) dX2_recordState_38
  refine z_icmp_ne (tgt := 12) X dX2_recordState_5 (by decide) (fun c_5 => ?_) (fun c_5 => ?_)
  · exact J_j_12 S ad (by simp only [if_neg c_5]) (bn_ne4 hO.h c_5) (hO.b 0 (by omega))
  · refine z_aload_n X dX2_recordState_8 0 rfl ?_
    refine zS_Rv X (c_S_dropOldestState l D kI kC kQ o r ad S) (gV wd1_167 wd1_169 wd0_1 wd1_1 wd1_170) k_S_dropOldestState rfl rfl ⟨Nat.le_of_ble_eq_true rfl, Nat.le_of_ble_eq_true rfl⟩ ⟨Nat.zero_le _, Nat.zero_le _⟩ rfl rfl (Nat.le_of_ble_eq_true rfl) dX2_recordState_9 (fun r_9 ad_9 er_9 => ?_)
    exact J_j_12 r_9 ad_9 (by subst er_9; simp only [if_pos c_5]) (by rw [er_9, drop_5]; exact ⟨3, by omega, by omega, rfl⟩) (by rw [er_9, drop_1 S (by omega)]; exact hO.b 0 (by omega))
set_option maxRecDepth 100000 in
set_option maxHeartbeats 4000000 in
theorem c_S_addPath (l : Launch) (D : va_G) (kI kC kQ : ClassId) (o r : Nat → Nat) (ad : ADT) (S : SLS) (a1 : Int32) (hO : OKS S) : CtI (U := (Int32 × SLS) × ADT) l yX2_addPath cX2_addPath 3 (some .int) { frames := 3, cells := 0, slots := 0, locals := 101 } D (tysG kI kC kQ) (wS kI kC kQ o r ad S) [.ref (o 0), .int a1] (fun u => u.1.1) (fun u => wS kI kC kQ o r u.2 u.1.2) (fun u => u.1 = F_S_addPath S a1) := by
  refine met_Zi (own := "ShadowLatches") (by decide +kernel) rfl (Nat.le_of_ble_eq_true rfl) ?_
  intro p e s m args below meth c A Q X hQ
  show Z p l e { frames := 3, cells := 0, slots := 0, locals := 101 } s m args below meth c D A 3 0 0 Q (wS kI kC kQ o r ad S) [(0, .ref (o 0)), (1, .int a1)] 0 []
  refine z_iload_n X dX2_addPath_0 1 rfl ?_
  refine z_callSiN X (c_S_isLength l D kI kC kQ a1) (gS wd1_157 wd1_158 wd1_1 wd1_159) k_S_isLength rfl rfl ⟨Nat.le_of_ble_eq_true rfl, Nat.le_of_ble_eq_true rfl⟩ ⟨Nat.zero_le _, Nat.zero_le _⟩ rfl rfl (Nat.le_of_ble_eq_true rfl) dX2_addPath_1 rfl (fun _ => rfl) (fun r_1 er_1 => ?_)
  refine z_if_ne (tgt := 10) X dX2_addPath_4 (by decide) (fun c_4 => ?_) (fun c_4 => ?_)
  · refine z_aload_n X dX2_addPath_10 0 rfl ?_
    refine z_get X inW2 rfl 0 wS_0 0 (by decide) wd1_132 rfl rfl dX2_addPath_11 ?_
    refine z_get X inW0 rfl 5 wS_5 2 (by decide) wd1_35 rfl rfl dX2_addPath_14 ?_
    refine z_bipush (v := (8 : Int32)) X dX2_addPath_17 (by decide) ?_
    refine z_icmp_lt (tgt := 25) X dX2_addPath_19 (by decide) (fun c_19 => ?_) (fun c_19 => ?_)
    · refine z_aload_n X dX2_addPath_25 0 rfl ?_
      refine zS_Rv X (c_S_recordState l D kI kC kQ o r ad S hO) (gV wd1_163 wd1_165 wd0_0 wd1_1 wd1_166) k_S_recordState rfl rfl ⟨Nat.le_of_ble_eq_true rfl, Nat.le_of_ble_eq_true rfl⟩ ⟨Nat.zero_le _, Nat.zero_le _⟩ rfl rfl (Nat.le_of_ble_eq_true rfl) dX2_addPath_26 (fun r_26 ad_26 er_26 => ?_)
      refine z_aload_n X dX2_addPath_29 0 rfl ?_
      refine z_get X inW2 rfl 0 wS_0 0 (by decide) wd1_132 rfl rfl dX2_addPath_30 ?_
      refine z_get X inW0 rfl 5 wS_5 2 (by decide) wd1_35 rfl rfl dX2_addPath_33 ?_
      refine z_topi (fun v_36 ev_36 => ?_)
      refine z_istore_n (lv' := [(2, .int v_36), (0, .ref (o 0)), (1, .int a1)]) X dX2_addPath_36 (Nat.le_of_ble_eq_true rfl) rfl ?_
      refine z_aload_n X dX2_addPath_37 1 rfl ?_
      refine z_get X inW2 rfl 0 wS_0 0 (by decide) wd1_132 rfl rfl dX2_addPath_38 ?_
      refine z_get X inW0 rfl 5 wS_5 0 (by decide) wd1_31 rfl rfl dX2_addPath_41 ?_
      refine z_iload_n X dX2_addPath_44 0 rfl ?_
      refine z_iload_n X dX2_addPath_45 2 rfl ?_
      refine zS_sc_0_0 X (by rw [ev_36, er_26, rec_1 S (by omega)]; exact vin_k (bn_l8 hO.o.p c_19) (by omega) (by omega)) rfl dX2_addPath_46 (fun S_46 eS_46 => ?_)
      refine z_aload_n X dX2_addPath_47 1 rfl ?_
      refine z_get X inW2 rfl 0 wS_0 0 (by decide) wd1_132 rfl rfl dX2_addPath_48 ?_
      refine z_iload_n X dX2_addPath_51 0 rfl ?_
      refine z_iconst (v := (1 : Int32)) X dX2_addPath_52 (by decide) ?_
      refine z_iadd X dX2_addPath_53 ?_
      refine zS_pc_0_2 X wd1_35 dX2_addPath_54 (fun S_54 eS_54 => ?_)
      refine z_iload_n X dX2_addPath_57 0 rfl ?_
      exact z_iret X hQ rfl ((v_36, S_54), ad_26) rfl rfl (by subst er_1 er_26 ev_36 eS_46 eS_54; simp only [F_S_addPath, if_neg c_4, if_pos c_19]) dX2_addPath_58
    · refine z_bipush (v := (-3 : Int32)) X dX2_addPath_22 (by decide) ?_
      exact z_iret X hQ rfl (((-3 : Int32), S), ad) rfl rfl (by subst er_1; simp only [F_S_addPath, if_neg c_4, if_neg c_19]) dX2_addPath_24
  · refine z_bipush (v := (-2 : Int32)) X dX2_addPath_7 (by decide) ?_
    exact z_iret X hQ rfl (((-2 : Int32), S), ad) rfl rfl (by subst er_1; simp only [F_S_addPath, if_pos c_4]) dX2_addPath_9
set_option maxRecDepth 100000 in
set_option maxHeartbeats 4000000 in
theorem c_S_isPath (l : Launch) (D : va_G) (kI kC kQ : ClassId) (o r : Nat → Nat) (ad : ADT) (S : SLS) (a1 : Int32) : CtI (U := Int32) l yX2_isPath cX2_isPath 2 (some .boolean) { frames := 1, cells := 0, slots := 0, locals := 22 } D (tysG kI kC kQ) (wS kI kC kQ o r ad S) [.ref (o 0), .int a1] (fun u => u) (fun _ => (wS kI kC kQ o r ad S)) (fun u => u = F_S_isPath S a1) := by
  refine met_Zi (own := "ShadowLatches") (by decide +kernel) rfl (Nat.le_of_ble_eq_true rfl) ?_
  intro p e s m args below meth c A Q X hQ
  show Z p l e { frames := 1, cells := 0, slots := 0, locals := 22 } s m args below meth c D A 2 0 0 Q (wS kI kC kQ o r ad S) [(0, .ref (o 0)), (1, .int a1)] 0 []
  refine z_iload_n X dX2_isPath_0 1 rfl ?_
  refine z_iconst (v := (0 : Int32)) X dX2_isPath_1 (by decide) ?_
  refine z_aload_n X dX2_isPath_2 0 rfl ?_
  refine z_get X inW2 rfl 0 wS_0 0 (by decide) wd1_132 rfl rfl dX2_isPath_3 ?_
  refine z_get X inW0 rfl 5 wS_5 2 (by decide) wd1_35 rfl rfl dX2_isPath_6 ?_
  refine z_iconst (v := (1 : Int32)) X dX2_isPath_9 (by decide) ?_
  refine z_isub X dX2_isPath_10 ?_
  refine z_callSiN X (c_S_isWithin l D kI kC kQ a1 (0 : Int32) (((S.1 0).1 4 2) - (1 : Int32))) (gS wd1_160 wd1_161 wd1_1 wd1_162) k_S_isWithin rfl rfl ⟨Nat.le_of_ble_eq_true rfl, Nat.le_of_ble_eq_true rfl⟩ ⟨Nat.zero_le _, Nat.zero_le _⟩ rfl rfl (Nat.le_of_ble_eq_true rfl) dX2_isPath_11 rfl (fun _ => rfl) (fun r_11 er_11 => ?_)
  exact z_zret X hQ rfl r_11 rfl rfl (by subst er_11; simp only [F_S_isPath]) (nb (by rw [er_11]; exact bl_isWithin _ _ _)) dX2_isPath_14
set_option maxRecDepth 100000 in
set_option maxHeartbeats 4000000 in
theorem c_S_setLength (l : Launch) (D : va_G) (kI kC kQ : ClassId) (o r : Nat → Nat) (ad : ADT) (S : SLS) (a1 : Int32) (a2 : Int32) (hO : OKS S) : CtI (U := (Int32 × SLS) × ADT) l yX2_setLength cX2_setLength 4 (some .int) { frames := 3, cells := 0, slots := 0, locals := 101 } D (tysG kI kC kQ) (wS kI kC kQ o r ad S) [.ref (o 0), .int a1, .int a2] (fun u => u.1.1) (fun u => wS kI kC kQ o r u.2 u.1.2) (fun u => u.1 = F_S_setLength S a1 a2) := by
  refine met_Zi (own := "ShadowLatches") (by decide +kernel) rfl (Nat.le_of_ble_eq_true rfl) ?_
  intro p e s m args below meth c A Q X hQ
  show Z p l e { frames := 3, cells := 0, slots := 0, locals := 101 } s m args below meth c D A 4 0 0 Q (wS kI kC kQ o r ad S) [(0, .ref (o 0)), (1, .int a1), (2, .int a2)] 0 []
  refine z_aload_n X dX2_setLength_0 0 rfl ?_
  refine z_iload_n X dX2_setLength_1 1 rfl ?_
  refine z_callVi0 X (c_S_isPath l D kI kC kQ o r ad S a1) (gV wd1_213 wd1_215 wd0_2 wd1_1 wd1_216) k_S_isPath rfl rfl ⟨Nat.le_of_ble_eq_true rfl, Nat.le_of_ble_eq_true rfl⟩ ⟨Nat.zero_le _, Nat.zero_le _⟩ 2 0 wS_0 rfl rfl rfl rfl (Nat.le_of_ble_eq_true rfl) dX2_setLength_2 (fun r_2 er_2 => ?_)
  refine z_if_ne (tgt := 10) X dX2_setLength_5 (by decide) (fun c_5 => ?_) (fun c_5 => ?_)
  · refine z_iload_n X dX2_setLength_10 2 rfl ?_
    refine z_callSiN X (c_S_isLength l D kI kC kQ a2) (gS wd1_157 wd1_158 wd1_1 wd1_159) k_S_isLength rfl rfl ⟨Nat.le_of_ble_eq_true rfl, Nat.le_of_ble_eq_true rfl⟩ ⟨Nat.zero_le _, Nat.zero_le _⟩ rfl rfl (Nat.le_of_ble_eq_true rfl) dX2_setLength_11 rfl (fun _ => rfl) (fun r_11 er_11 => ?_)
    refine z_if_ne (tgt := 20) X dX2_setLength_14 (by decide) (fun c_14 => ?_) (fun c_14 => ?_)
    · refine z_aload_n X dX2_setLength_20 0 rfl ?_
      refine z_get X inW2 rfl 0 wS_0 0 (by decide) wd1_132 rfl rfl dX2_setLength_21 ?_
      refine z_get X inW0 rfl 5 wS_5 0 (by decide) wd1_31 rfl rfl dX2_setLength_24 ?_
      refine z_iload_n X dX2_setLength_27 1 rfl ?_
      refine z_iald X 6 0 wS_6 rfl (vin_k (S_path_lt hO.o.p er_2 c_5) (by omega) (by omega)) rfl dX2_setLength_28 ?_
      refine z_topi (fun v_29 ev_29 => ?_)
      refine z_istore_n (lv' := [(3, .int v_29), (0, .ref (o 0)), (1, .int a1), (2, .int a2)]) X dX2_setLength_29 (Nat.le_of_ble_eq_true rfl) rfl ?_
      refine z_iload_n X dX2_setLength_30 0 rfl ?_
      refine z_iload_n X dX2_setLength_31 3 rfl ?_
      refine z_icmp_ne (tgt := 38) X dX2_setLength_32 (by decide) (fun c_32 => ?_) (fun c_32 => ?_)
      · refine z_aload_n X dX2_setLength_38 1 rfl ?_
        refine zS_Rv X (c_S_recordState l D kI kC kQ o r ad S hO) (gV wd1_163 wd1_165 wd0_0 wd1_1 wd1_166) k_S_recordState rfl rfl ⟨Nat.le_of_ble_eq_true rfl, Nat.le_of_ble_eq_true rfl⟩ ⟨Nat.zero_le _, Nat.zero_le _⟩ rfl rfl (Nat.le_of_ble_eq_true rfl) dX2_setLength_39 (fun r_39 ad_39 er_39 => ?_)
        refine z_aload_n X dX2_setLength_42 1 rfl ?_
        refine z_get X inW2 rfl 0 wS_0 0 (by decide) wd1_132 rfl rfl dX2_setLength_43 ?_
        refine z_get X inW0 rfl 5 wS_5 0 (by decide) wd1_31 rfl rfl dX2_setLength_46 ?_
        refine z_iload_n X dX2_setLength_49 2 rfl ?_
        refine z_iload_n X dX2_setLength_50 3 rfl ?_
        refine zS_sc_0_0 X (vin_k (S_path_lt hO.o.p er_2 c_5) (by omega) (by omega)) rfl dX2_setLength_51 (fun S_51 eS_51 => ?_)
        refine z_iload_n X dX2_setLength_52 0 rfl ?_
        exact z_iret X hQ rfl ((v_29, S_51), ad_39) rfl rfl (by subst er_2 er_11 ev_29 er_39 eS_51; simp only [F_S_setLength, if_neg c_5, if_neg c_14, if_neg c_32]) dX2_setLength_53
      · refine z_bipush (v := (-5 : Int32)) X dX2_setLength_35 (by decide) ?_
        exact z_iret X hQ rfl (((-5 : Int32), S), ad) rfl rfl (by subst er_2 er_11 ev_29; simp only [F_S_setLength, if_neg c_5, if_neg c_14, if_pos c_32]) dX2_setLength_37
    · refine z_bipush (v := (-2 : Int32)) X dX2_setLength_17 (by decide) ?_
      exact z_iret X hQ rfl (((-2 : Int32), S), ad) rfl rfl (by subst er_2 er_11; simp only [F_S_setLength, if_neg c_5, if_pos c_14]) dX2_setLength_19
  · refine z_iconst (v := (-1 : Int32)) X dX2_setLength_8 (by decide) ?_
    exact z_iret X hQ rfl (((-1 : Int32), S), ad) rfl rfl (by subst er_2; simp only [F_S_setLength, if_pos c_5]) dX2_setLength_9
set_option maxRecDepth 100000 in
set_option maxHeartbeats 4000000 in
theorem c_S_takeWorkload (l : Launch) (D : va_G) (kI kC kQ : ClassId) (o r : Nat → Nat) (ad : ADT) (S : SLS) (hO : OKS S) : CtI (U := (Int32 × SLS) × ADT) l yX2_takeWorkload cX2_takeWorkload 3 (some .int) { frames := 3, cells := 0, slots := 0, locals := 101 } D (tysG kI kC kQ) (wS kI kC kQ o r ad S) [.ref (o 0)] (fun u => u.1.1) (fun u => wS kI kC kQ o r u.2 u.1.2) (fun u => u.1 = F_S_takeWorkload S) := by
  refine met_Zi (own := "ShadowLatches") (by decide +kernel) rfl (Nat.le_of_ble_eq_true rfl) ?_
  intro p e s m args below meth c A Q X hQ
  show Z p l e { frames := 3, cells := 0, slots := 0, locals := 101 } s m args below meth c D A 3 0 0 Q (wS kI kC kQ o r ad S) [(0, .ref (o 0))] 0 []
  refine z_aload_n X dX2_takeWorkload_0 0 rfl ?_
  refine z_get X inW2 rfl 0 wS_0 4 (by decide) wd1_136 rfl rfl dX2_takeWorkload_1 ?_
  refine zS_tb X (c_T_read l D kI kC kQ r S.2.1 hO.t) (gV wd2_3 wd2_4 wd2_5 wd1_3 wd2_6) k_T_read rfl rfl ⟨Nat.le_of_ble_eq_true rfl, Nat.le_of_ble_eq_true rfl⟩ ⟨Nat.zero_le _, Nat.zero_le _⟩ rfl rfl (Nat.le_of_ble_eq_true rfl) dX2_takeWorkload_4 (fun r_4 er_4 => ?_)
  refine zS_nm (fun S_4 eS_4 => ?_)
  obtain ⟨N, hN1, hN2, hN⟩ : bn 1 16 (S_4.2.1 2 3) := by rw [eS_4, er_4]; exact (read_P hO.t).2.1
  have hO4 : OKS S_4 := by rw [eS_4, er_4]; exact OKS_read hO
  refine z_istore_n (lv' := [(1, .int r_4.1), (0, .ref (o 0))]) X dX2_takeWorkload_7 (Nat.le_of_ble_eq_true rfl) rfl ?_
  refine z_iload_n X dX2_takeWorkload_8 0 rfl ?_
  refine z_iconst (v := (-1 : Int32)) X dX2_takeWorkload_9 (by decide) ?_
  refine z_icmp_eq (tgt := 18) X dX2_takeWorkload_10 (by decide) (fun c_10 => ?_) (fun c_10 => ?_)
  · refine z_iconst (v := (0 : Int32)) X dX2_takeWorkload_18 (by decide) ?_
    refine z_istore_n (lv' := [(2, .int (0 : Int32)), (1, .int r_4.1), (0, .ref (o 0))]) X dX2_takeWorkload_19 (Nat.le_of_ble_eq_true rfl) rfl ?_
    refine z_lv (lv' := [(0, .ref (o 0)), (2, .int (0 : Int32))]) [2, 0] rfl ?_
    have Lp_20 : ∀ (n : Nat) (x2_20 : Int32), (cu N n x2_20) → (F_S_takeWorkload S = L_S_takeWorkload_20 S_4 n x2_20) → Z p l e { frames := 3, cells := 0, slots := 0, locals := 101 } s m args below meth c D A 3 0 0 Q (wS kI kC kQ o r ad S_4) [(0, .ref (o 0)), (2, .int x2_20)] 20 [] := by
      intro n
      induction n with
      | zero =>
        intro x2_20 hi hF_20
        exfalso
        exact cu_0 hi
      | succ n ih_20 =>
        intro x2_20 hi hF_20
        refine z_iload_n X dX2_takeWorkload_20 1 rfl ?_
        refine z_aload_n X dX2_takeWorkload_21 0 rfl ?_
        refine z_get X inW2 rfl 0 wS_0 4 (by decide) wd1_136 rfl rfl dX2_takeWorkload_22 ?_
        refine z_get X inW1 rfl 2 wS_2 3 (by decide) wd1_121 rfl rfl dX2_takeWorkload_25 ?_
        refine z_icmp_ge (tgt := 60) X dX2_takeWorkload_28 (by decide) (fun c_28 => ?_) (fun c_28 => ?_)
        · refine z_aload_n X dX2_takeWorkload_60 0 rfl ?_
          refine zS_Rv X (c_S_recordState l D kI kC kQ o r ad S_4 hO4) (gV wd1_163 wd1_165 wd0_0 wd1_1 wd1_166) k_S_recordState rfl rfl ⟨Nat.le_of_ble_eq_true rfl, Nat.le_of_ble_eq_true rfl⟩ ⟨Nat.zero_le _, Nat.zero_le _⟩ rfl rfl (Nat.le_of_ble_eq_true rfl) dX2_takeWorkload_61 (fun r_61 ad_61 er_61 => ?_)
          refine z_iconst (v := (0 : Int32)) X dX2_takeWorkload_64 (by decide) ?_
          refine z_istore_n (lv' := [(2, .int (0 : Int32)), (0, .ref (o 0))]) X dX2_takeWorkload_65 (Nat.le_of_ble_eq_true rfl) rfl ?_
          refine z_lv (lv' := [(0, .ref (o 0)), (2, .int (0 : Int32))]) [1, 0] rfl ?_
          have Lp_66 : ∀ (n : Nat) (x2_66 : Int32) (S_66 : SLS), (cu N n x2_66) → (S_66.2.1 2 3 = nI N) → (∀ (q_66 : SLS), q_66 = L_S_takeWorkload_66 n x2_66 S_66 → Z p l e { frames := 3, cells := 0, slots := 0, locals := 101 } s m args below meth c D A 3 0 0 Q (wS kI kC kQ o r ad_61 q_66) [(0, .ref (o 0))] 101 []) → Z p l e { frames := 3, cells := 0, slots := 0, locals := 101 } s m args below meth c D A 3 0 0 Q (wS kI kC kQ o r ad_61 S_66) [(0, .ref (o 0)), (2, .int x2_66)] 66 [] := by
            intro n
            induction n with
            | zero =>
              intro x2_66 S_66 hi hp kk_66
              exfalso
              exact cu_0 hi
            | succ n ih_66 =>
              intro x2_66 S_66 hi hp kk_66
              refine z_iload_n X dX2_takeWorkload_66 1 rfl ?_
              refine z_aload_n X dX2_takeWorkload_67 0 rfl ?_
              refine z_get X inW2 rfl 0 wS_0 4 (by decide) wd1_136 rfl rfl dX2_takeWorkload_68 ?_
              refine z_get X inW1 rfl 2 wS_2 3 (by decide) wd1_121 rfl rfl dX2_takeWorkload_71 ?_
              refine z_icmp_ge (tgt := 101) X dX2_takeWorkload_74 (by decide) (fun c_74 => ?_) (fun c_74 => ?_)
              · refine z_lv (lv' := [(0, .ref (o 0))]) [0] rfl ?_
                exact kk_66 S_66 (by simp only [L_S_takeWorkload_66, if_pos c_74]) 
              · refine z_aload_n X dX2_takeWorkload_77 0 rfl ?_
                refine z_get X inW2 rfl 0 wS_0 0 (by decide) wd1_132 rfl rfl dX2_takeWorkload_78 ?_
                refine z_get X inW0 rfl 5 wS_5 3 (by decide) wd1_37 rfl rfl dX2_takeWorkload_81 ?_
                refine z_iload_n X dX2_takeWorkload_84 1 rfl ?_
                refine z_aload_n X dX2_takeWorkload_85 0 rfl ?_
                refine z_get X inW2 rfl 0 wS_0 4 (by decide) wd1_136 rfl rfl dX2_takeWorkload_86 ?_
                refine z_get X inW1 rfl 2 wS_2 2 (by decide) wd1_119 rfl rfl dX2_takeWorkload_89 ?_
                refine z_iload_n X dX2_takeWorkload_92 1 rfl ?_
                refine z_iald X 4 0 wS_4 rfl (vin_k (cu_lt hi (by omega) hp c_74) (by omega) (by omega)) rfl dX2_takeWorkload_93 ?_
                refine zS_sc_0_2 X (vin_k (cu_lt hi (by omega) hp c_74) (by omega) (by omega)) rfl dX2_takeWorkload_94 (fun S_94 eS_94 => ?_)
                obtain ⟨v_95, ev_95⟩ : ∃ y : Int32, y = x2_66 + (1 : Int32) := ⟨_, rfl⟩
                refine z_iinc (v := v_95) (lv' := [(2, .int v_95), (0, .ref (o 0))]) X dX2_takeWorkload_95 1 rfl (by rw [ev_95]; rfl) (Nat.le_of_ble_eq_true rfl) rfl ?_
                refine z_goto (tgt := 66) X dX2_takeWorkload_98 (by decide) ?_
                refine z_lv (lv' := [(0, .ref (o 0)), (2, .int v_95)]) [1, 0] rfl ?_
                exact ih_66 v_95 S_94 (cu_b hi (by omega) hp c_74 ev_95) (by rw [eS_94, sSC_2]; exact hp) (fun q_66 eq_66 => kk_66 q_66 (eq_66.trans (by subst eS_94 ev_95; simp only [L_S_takeWorkload_66, if_neg c_74])))
          refine Lp_66 17 (0 : Int32) r_61 (cu_i (by omega)) (by rw [er_61, rec_T]; exact hN) (fun q_66 eq_66 => ?_)
          refine z_aload_n X dX2_takeWorkload_101 0 rfl ?_
          refine z_get X inW2 rfl 0 wS_0 0 (by decide) wd1_132 rfl rfl dX2_takeWorkload_102 ?_
          refine z_aload_n X dX2_takeWorkload_105 0 rfl ?_
          refine z_get X inW2 rfl 0 wS_0 4 (by decide) wd1_136 rfl rfl dX2_takeWorkload_106 ?_
          refine z_get X inW1 rfl 2 wS_2 3 (by decide) wd1_121 rfl rfl dX2_takeWorkload_109 ?_
          refine zS_cv0 X (c_C_beginWorkload l D kI kC kQ (ad_61 0) (q_66.1 0) (q_66.2.1 2 3)) (gV wd2_7 wd2_8 wd2_9 wd1_2 wd2_10) k_C_beginWorkload rfl rfl ⟨Nat.le_of_ble_eq_true rfl, Nat.le_of_ble_eq_true rfl⟩ ⟨Nat.zero_le _, Nat.zero_le _⟩ rfl rfl (Nat.le_of_ble_eq_true rfl) dX2_takeWorkload_112 (fun r_112 er_112 => ?_)
          refine zS_nm (fun S_112 eS_112 => ?_)
          refine z_aload_n X dX2_takeWorkload_115 0 rfl ?_
          refine z_get X inW2 rfl 0 wS_0 4 (by decide) wd1_136 rfl rfl dX2_takeWorkload_116 ?_
          refine z_get X inW1 rfl 2 wS_2 3 (by decide) wd1_121 rfl rfl dX2_takeWorkload_119 ?_
          exact z_iret X hQ rfl (((S_112.2.1 2 3), S_112), ad_61) rfl rfl (by rw [hF_20]; subst er_61 eq_66 er_112 eS_112; simp only [L_S_takeWorkload_20, if_pos c_28]) dX2_takeWorkload_122
        · refine z_aload_n X dX2_takeWorkload_31 0 rfl ?_
          refine z_get X inW2 rfl 0 wS_0 4 (by decide) wd1_136 rfl rfl dX2_takeWorkload_32 ?_
          refine z_get X inW1 rfl 2 wS_2 2 (by decide) wd1_119 rfl rfl dX2_takeWorkload_35 ?_
          refine z_iload_n X dX2_takeWorkload_38 1 rfl ?_
          refine z_iald X 4 0 wS_4 rfl (vin_k (cu_lt hi (by omega) hN c_28) (by omega) (by omega)) rfl dX2_takeWorkload_39 ?_
          refine z_iconst (v := (1 : Int32)) X dX2_takeWorkload_40 (by decide) ?_
          refine z_aload_n X dX2_takeWorkload_41 0 rfl ?_
          refine z_get X inW2 rfl 0 wS_0 0 (by decide) wd1_132 rfl rfl dX2_takeWorkload_42 ?_
          refine z_get X inW0 rfl 5 wS_5 2 (by decide) wd1_35 rfl rfl dX2_takeWorkload_45 ?_
          refine z_ishl X dX2_takeWorkload_48 ?_
          refine z_icmp_lt (tgt := 54) X dX2_takeWorkload_49 (by decide) (fun c_49 => ?_) (fun c_49 => ?_)
          · obtain ⟨v_54, ev_54⟩ : ∃ y : Int32, y = x2_20 + (1 : Int32) := ⟨_, rfl⟩
            refine z_iinc (v := v_54) (lv' := [(2, .int v_54), (0, .ref (o 0))]) X dX2_takeWorkload_54 1 rfl (by rw [ev_54]; rfl) (Nat.le_of_ble_eq_true rfl) rfl ?_
            refine z_goto (tgt := 20) X dX2_takeWorkload_57 (by decide) ?_
            refine z_lv (lv' := [(0, .ref (o 0)), (2, .int v_54)]) [1, 0] rfl ?_
            exact ih_20 v_54 (cu_b hi (by omega) hN c_28 ev_54) (hF_20.trans (by subst ev_54; simp only [L_S_takeWorkload_20, if_neg c_28, if_pos c_49]))
          · refine z_iconst (v := (-1 : Int32)) X dX2_takeWorkload_52 (by decide) ?_
            exact z_iret X hQ rfl (((-1 : Int32), S_4), ad) rfl rfl (by rw [hF_20]; simp only [L_S_takeWorkload_20, if_neg c_28, if_neg c_49]) dX2_takeWorkload_53
    exact Lp_20 17 (0 : Int32) (cu_i (by omega)) (by subst er_4 eS_4; simp only [F_S_takeWorkload, if_pos c_10])
  · refine z_bipush (v := (-100 : Int32)) X dX2_takeWorkload_13 (by decide) ?_
    refine z_iload_n X dX2_takeWorkload_15 0 rfl ?_
    refine z_isub X dX2_takeWorkload_16 ?_
    exact z_iret X hQ rfl ((((-100 : Int32) - r_4.1), S_4), ad) rfl rfl (by subst er_4 eS_4; simp only [F_S_takeWorkload, if_neg c_10]) dX2_takeWorkload_17
set_option maxRecDepth 100000 in
set_option maxHeartbeats 4000000 in
theorem c_S_isVoltage (l : Launch) (D : va_G) (kI kC kQ : ClassId) (a1 : Int32) : CtI (U := Int32) l yX2_isVoltage cX2_isVoltage 1 (some .boolean) { frames := 1, cells := 0, slots := 0, locals := 22 } D (tysG kI kC kQ) [] [.int a1] (fun u => u) (fun _ => []) (fun u => u = F_S_isVoltage a1) := by
  refine met_Zi (own := "ShadowLatches") (by decide +kernel) rfl (Nat.le_of_ble_eq_true rfl) ?_
  intro p e s m args below meth c A Q X hQ
  show Z p l e { frames := 1, cells := 0, slots := 0, locals := 22 } s m args below meth c D A 1 0 0 Q [] [(0, .int a1)] 0 []
  refine z_iload_n X dX2_isVoltage_0 0 rfl ?_
  refine z_sipush (v := (500 : Int32)) X dX2_isVoltage_1 (by decide) ?_
  refine z_sipush (v := (1200 : Int32)) X dX2_isVoltage_4 (by decide) ?_
  refine z_callSiN X (c_S_isWithin l D kI kC kQ a1 (500 : Int32) (1200 : Int32)) (gS wd1_160 wd1_161 wd1_1 wd1_162) k_S_isWithin rfl rfl ⟨Nat.le_of_ble_eq_true rfl, Nat.le_of_ble_eq_true rfl⟩ ⟨Nat.zero_le _, Nat.zero_le _⟩ rfl rfl (Nat.le_of_ble_eq_true rfl) dX2_isVoltage_7 rfl (fun _ => rfl) (fun r_7 er_7 => ?_)
  exact z_zret X hQ rfl r_7 rfl rfl (by subst er_7; simp only [F_S_isVoltage]) (nb (by rw [er_7]; exact bl_isWithin _ _ _)) dX2_isVoltage_10
set_option maxRecDepth 100000 in
set_option maxHeartbeats 4000000 in
theorem c_S_setVoltage (l : Launch) (D : va_G) (kI kC kQ : ClassId) (o r : Nat → Nat) (ad : ADT) (S : SLS) (a1 : Int32) (hO : OKS S) : CtI (U := (Int32 × SLS) × ADT) l yX2_setVoltage cX2_setVoltage 3 (some .int) { frames := 3, cells := 0, slots := 0, locals := 101 } D (tysG kI kC kQ) (wS kI kC kQ o r ad S) [.ref (o 0), .int a1] (fun u => u.1.1) (fun u => wS kI kC kQ o r u.2 u.1.2) (fun u => u.1 = F_S_setVoltage S a1) := by
  refine met_Zi (own := "ShadowLatches") (by decide +kernel) rfl (Nat.le_of_ble_eq_true rfl) ?_
  intro p e s m args below meth c A Q X hQ
  show Z p l e { frames := 3, cells := 0, slots := 0, locals := 101 } s m args below meth c D A 3 0 0 Q (wS kI kC kQ o r ad S) [(0, .ref (o 0)), (1, .int a1)] 0 []
  refine z_iload_n X dX2_setVoltage_0 1 rfl ?_
  refine z_callSiN X (c_S_isVoltage l D kI kC kQ a1) (gS wd2_74 wd2_75 wd1_1 wd2_76) k_S_isVoltage rfl rfl ⟨Nat.le_of_ble_eq_true rfl, Nat.le_of_ble_eq_true rfl⟩ ⟨Nat.zero_le _, Nat.zero_le _⟩ rfl rfl (Nat.le_of_ble_eq_true rfl) dX2_setVoltage_1 rfl (fun _ => rfl) (fun r_1 er_1 => ?_)
  refine z_if_ne (tgt := 10) X dX2_setVoltage_4 (by decide) (fun c_4 => ?_) (fun c_4 => ?_)
  · refine z_aload_n X dX2_setVoltage_10 0 rfl ?_
    refine z_get X inW2 rfl 0 wS_0 0 (by decide) wd1_132 rfl rfl dX2_setVoltage_11 ?_
    refine z_get X inW0 rfl 5 wS_5 7 (by decide) wd1_45 rfl rfl dX2_setVoltage_14 ?_
    refine z_topi (fun v_17 ev_17 => ?_)
    refine z_istore_n (lv' := [(2, .int v_17), (0, .ref (o 0)), (1, .int a1)]) X dX2_setVoltage_17 (Nat.le_of_ble_eq_true rfl) rfl ?_
    refine z_iload_n X dX2_setVoltage_18 0 rfl ?_
    refine z_iload_n X dX2_setVoltage_19 2 rfl ?_
    refine z_icmp_ne (tgt := 26) X dX2_setVoltage_20 (by decide) (fun c_20 => ?_) (fun c_20 => ?_)
    · refine z_aload_n X dX2_setVoltage_26 1 rfl ?_
      refine zS_Rv X (c_S_recordState l D kI kC kQ o r ad S hO) (gV wd1_163 wd1_165 wd0_0 wd1_1 wd1_166) k_S_recordState rfl rfl ⟨Nat.le_of_ble_eq_true rfl, Nat.le_of_ble_eq_true rfl⟩ ⟨Nat.zero_le _, Nat.zero_le _⟩ rfl rfl (Nat.le_of_ble_eq_true rfl) dX2_setVoltage_27 (fun r_27 ad_27 er_27 => ?_)
      refine z_aload_n X dX2_setVoltage_30 1 rfl ?_
      refine z_get X inW2 rfl 0 wS_0 0 (by decide) wd1_132 rfl rfl dX2_setVoltage_31 ?_
      refine z_iload_n X dX2_setVoltage_34 2 rfl ?_
      refine zS_pc_0_7 X wd1_45 dX2_setVoltage_35 (fun S_35 eS_35 => ?_)
      refine z_iload_n X dX2_setVoltage_38 0 rfl ?_
      exact z_iret X hQ rfl ((v_17, S_35), ad_27) rfl rfl (by subst er_1 ev_17 er_27 eS_35; simp only [F_S_setVoltage, if_neg c_4, if_neg c_20]) dX2_setVoltage_39
    · refine z_bipush (v := (-5 : Int32)) X dX2_setVoltage_23 (by decide) ?_
      exact z_iret X hQ rfl (((-5 : Int32), S), ad) rfl rfl (by subst er_1 ev_17; simp only [F_S_setVoltage, if_neg c_4, if_pos c_20]) dX2_setVoltage_25
  · refine z_bipush (v := (-2 : Int32)) X dX2_setVoltage_7 (by decide) ?_
    exact z_iret X hQ rfl (((-2 : Int32), S), ad) rfl rfl (by subst er_1; simp only [F_S_setVoltage, if_pos c_4]) dX2_setVoltage_9
set_option maxRecDepth 100000 in
set_option maxHeartbeats 4000000 in
theorem c_S_govern (l : Launch) (D : va_G) (kI kC kQ : ClassId) (o r : Nat → Nat) (ad : ADT) (S : SLS) (a1 : Int32) (hO : OKS S) (hb1 : a1 = 0 ∨ a1 = 1) : CtI (U := (Int32 × SLS) × ADT) l yX2_govern cX2_govern 2 (some .int) { frames := 3, cells := 0, slots := 0, locals := 101 } D (tysG kI kC kQ) (wS kI kC kQ o r ad S) [.ref (o 0), .int a1] (fun u => u.1.1) (fun u => wS kI kC kQ o r u.2 u.1.2) (fun u => u.1 = F_S_govern S a1) := by
  refine met_Zi (own := "ShadowLatches") (by decide +kernel) rfl (Nat.le_of_ble_eq_true rfl) ?_
  intro p e s m args below meth c A Q X hQ
  show Z p l e { frames := 3, cells := 0, slots := 0, locals := 101 } s m args below meth c D A 2 0 0 Q (wS kI kC kQ o r ad S) [(0, .ref (o 0)), (1, .int a1)] 0 []
  refine z_aload_n X dX2_govern_0 0 rfl ?_
  refine z_get X inW2 rfl 0 wS_0 0 (by decide) wd1_132 rfl rfl dX2_govern_1 ?_
  refine z_get X inW0 rfl 5 wS_5 9 (by decide) wd1_49 rfl rfl dX2_govern_4 ?_
  refine z_iload_n X dX2_govern_7 1 rfl ?_
  refine z_icmp_ne (tgt := 14) X dX2_govern_8 (by decide) (fun c_8 => ?_) (fun c_8 => ?_)
  · refine z_aload_n X dX2_govern_14 0 rfl ?_
    refine zS_Rv X (c_S_recordState l D kI kC kQ o r ad S hO) (gV wd1_163 wd1_165 wd0_0 wd1_1 wd1_166) k_S_recordState rfl rfl ⟨Nat.le_of_ble_eq_true rfl, Nat.le_of_ble_eq_true rfl⟩ ⟨Nat.zero_le _, Nat.zero_le _⟩ rfl rfl (Nat.le_of_ble_eq_true rfl) dX2_govern_15 (fun r_15 ad_15 er_15 => ?_)
    refine z_aload_n X dX2_govern_18 0 rfl ?_
    refine z_get X inW2 rfl 0 wS_0 0 (by decide) wd1_132 rfl rfl dX2_govern_19 ?_
    refine z_iload_n X dX2_govern_22 1 rfl ?_
    refine zS_pc_0_9 X hb1 wd1_49 dX2_govern_23 (fun S_23 eS_23 => ?_)
    refine z_aload_n X dX2_govern_26 0 rfl ?_
    refine z_get X inW2 rfl 0 wS_0 0 (by decide) wd1_132 rfl rfl dX2_govern_27 ?_
    refine zS_cv0 X (c_C_beginWindow l D kI kC kQ (ad_15 0) (S_23.1 0)) (gV wd2_81 wd2_64 wd2_65 wd1_2 wd2_66) k_C_beginWindow rfl rfl ⟨Nat.le_of_ble_eq_true rfl, Nat.le_of_ble_eq_true rfl⟩ ⟨Nat.zero_le _, Nat.zero_le _⟩ rfl rfl (Nat.le_of_ble_eq_true rfl) dX2_govern_30 (fun r_30 er_30 => ?_)
    refine zS_nm (fun S_30 eS_30 => ?_)
    refine z_aload_n X dX2_govern_33 0 rfl ?_
    refine z_get X inW2 rfl 0 wS_0 0 (by decide) wd1_132 rfl rfl dX2_govern_34 ?_
    refine z_get X inW0 rfl 5 wS_5 7 (by decide) wd1_45 rfl rfl dX2_govern_37 ?_
    exact z_iret X hQ rfl ((((S_30.1 0).1 4 7), S_30), ad_15) rfl rfl (by subst er_15 eS_23 er_30 eS_30; simp only [F_S_govern, if_neg c_8]) dX2_govern_40
  · refine z_bipush (v := (-5 : Int32)) X dX2_govern_11 (by decide) ?_
    exact z_iret X hQ rfl (((-5 : Int32), S), ad) rfl rfl (by simp only [F_S_govern, if_pos c_8]) dX2_govern_13
set_option maxRecDepth 100000 in
set_option maxHeartbeats 4000000 in
theorem c_S_run (l : Launch) (D : va_G) (kI kC kQ : ClassId) (o r : Nat → Nat) (ad : ADT) (S : SLS) (a1 : Int32) (hO : OKS S) : CtI (U := (Int32 × SLS) × ADT) l yX2_run cX2_run 3 (some .int) { frames := 5, cells := 0, slots := 0, locals := 107 } D (tysG kI kC kQ) (wS kI kC kQ o r ad S) [.ref (o 0), .int a1] (fun u => u.1.1) (fun u => wS kI kC kQ o r u.2 u.1.2) (fun u => u.1 = F_S_run S a1) := by
  refine met_Zi (own := "ShadowLatches") (by decide +kernel) rfl (Nat.le_of_ble_eq_true rfl) ?_
  intro p e s m args below meth c A Q X hQ
  show Z p l e { frames := 5, cells := 0, slots := 0, locals := 107 } s m args below meth c D A 3 0 0 Q (wS kI kC kQ o r ad S) [(0, .ref (o 0)), (1, .int a1)] 0 []
  refine z_iload_n X dX2_run_0 1 rfl ?_
  refine z_iconst (v := (1 : Int32)) X dX2_run_1 (by decide) ?_
  refine z_sipush (v := (2000 : Int32)) X dX2_run_2 (by decide) ?_
  refine z_callSiN X (c_S_isWithin l D kI kC kQ a1 (1 : Int32) (2000 : Int32)) (gS wd1_160 wd1_161 wd1_1 wd1_162) k_S_isWithin rfl rfl ⟨Nat.le_of_ble_eq_true rfl, Nat.le_of_ble_eq_true rfl⟩ ⟨Nat.zero_le _, Nat.zero_le _⟩ rfl rfl (Nat.le_of_ble_eq_true rfl) dX2_run_5 rfl (fun _ => rfl) (fun r_5 er_5 => ?_)
  refine z_if_ne (tgt := 14) X dX2_run_8 (by decide) (fun c_8 => ?_) (fun c_8 => ?_)
  · refine z_aload_n X dX2_run_14 0 rfl ?_
    refine zS_Rv X (c_S_recordState l D kI kC kQ o r ad S hO) (gV wd1_163 wd1_165 wd0_0 wd1_1 wd1_166) k_S_recordState rfl rfl ⟨Nat.le_of_ble_eq_true rfl, Nat.le_of_ble_eq_true rfl⟩ ⟨Nat.zero_le _, Nat.zero_le _⟩ rfl rfl (Nat.le_of_ble_eq_true rfl) dX2_run_15 (fun r_15 ad_15 er_15 => ?_)
    refine z_aload_n X dX2_run_18 0 rfl ?_
    refine z_get X inW2 rfl 0 wS_0 0 (by decide) wd1_132 rfl rfl dX2_run_19 ?_
    refine z_get X inW0 rfl 5 wS_5 14 (by decide) wd1_59 rfl rfl dX2_run_22 ?_
    refine z_topi (fun v_25 ev_25 => ?_)
    refine z_istore_n (lv' := [(2, .int v_25), (0, .ref (o 0)), (1, .int a1)]) X dX2_run_25 (Nat.le_of_ble_eq_true rfl) rfl ?_
    refine z_aload_n X dX2_run_26 1 rfl ?_
    refine z_get X inW2 rfl 0 wS_0 0 (by decide) wd1_132 rfl rfl dX2_run_27 ?_
    refine z_iload_n X dX2_run_30 2 rfl ?_
    refine zS_cv0 X (c_C_runCycles l D kI kC kQ (ad_15 0) (r_15.1 0) a1 (by rw [er_15]; exact recP_O hO) (wi_bn 1 2000 (by omega) er_5 c_8)) (gV wd2_19 wd2_20 wd2_21 wd1_2 wd2_22) k_C_runCycles rfl rfl ⟨Nat.le_of_ble_eq_true rfl, Nat.le_of_ble_eq_true rfl⟩ ⟨Nat.zero_le _, Nat.zero_le _⟩ rfl rfl (Nat.le_of_ble_eq_true rfl) dX2_run_31 (fun r_31 er_31 => ?_)
    refine zS_nm (fun S_31 eS_31 => ?_)
    refine z_aload_n X dX2_run_34 1 rfl ?_
    refine z_get X inW2 rfl 0 wS_0 0 (by decide) wd1_132 rfl rfl dX2_run_35 ?_
    refine z_get X inW0 rfl 5 wS_5 14 (by decide) wd1_59 rfl rfl dX2_run_38 ?_
    refine z_iload_n X dX2_run_41 0 rfl ?_
    refine z_isub X dX2_run_42 ?_
    exact z_iret X hQ rfl (((((S_31.1 0).1 4 14) - v_25), S_31), ad_15) rfl rfl (by subst er_5 er_15 ev_25 er_31 eS_31; simp only [F_S_run, if_neg c_8]) dX2_run_43
  · refine z_bipush (v := (-2 : Int32)) X dX2_run_11 (by decide) ?_
    exact z_iret X hQ rfl (((-2 : Int32), S), ad) rfl rfl (by subst er_5; simp only [F_S_run, if_pos c_8]) dX2_run_13
set_option maxRecDepth 100000 in
set_option maxHeartbeats 4000000 in
theorem c_S_type (l : Launch) (D : va_G) (kI kC kQ : ClassId) (o r : Nat → Nat) (ad : ADT) (S : SLS) (a1 : Int32) (hO : OKS S) (hx : narrow .char (.int a1) = .int a1) : CtI (U := Int32 × SLS) l yX2_type cX2_type 2 (some .int) { frames := 1, cells := 0, slots := 0, locals := 21 } D (tysG kI kC kQ) (wS kI kC kQ o r ad S) [.ref (o 0), .int a1] (fun u => u.1) (fun u => (wS kI kC kQ o r ad u.2)) (fun u => u = F_S_type S a1) := by
  refine met_Zi (own := "ShadowLatches") (by decide +kernel) rfl (Nat.le_of_ble_eq_true rfl) ?_
  intro p e s m args below meth c A Q X hQ
  show Z p l e { frames := 1, cells := 0, slots := 0, locals := 21 } s m args below meth c D A 2 0 0 Q (wS kI kC kQ o r ad S) [(0, .ref (o 0)), (1, .int a1)] 0 []
  refine z_aload_n X dX2_type_0 0 rfl ?_
  refine z_get X inW2 rfl 0 wS_0 4 (by decide) wd1_136 rfl rfl dX2_type_1 ?_
  refine z_iload_n X dX2_type_4 1 rfl ?_
  refine zS_tb X (c_T_append l D kI kC kQ r S.2.1 a1 hx hO.t) (gV wd1_235 wd1_236 wd1_237 wd1_3 wd1_238) k_T_append rfl rfl ⟨Nat.le_of_ble_eq_true rfl, Nat.le_of_ble_eq_true rfl⟩ ⟨Nat.zero_le _, Nat.zero_le _⟩ rfl rfl (Nat.le_of_ble_eq_true rfl) dX2_type_5 (fun r_5 er_5 => ?_)
  refine zS_nm (fun S_5 eS_5 => ?_)
  have J_j_23 : ∀ (j_23 : Int32), j_23 = (if r_5.1 = (0 : Int32) then ((-3 : Int32)) else ((S_5.2.1 2 1))) → Z p l e { frames := 1, cells := 0, slots := 0, locals := 21 } s m args below meth c D A 2 0 0 Q (wS kI kC kQ o r ad S_5) [] 23 [.int j_23] := by
    intro j_23 ej_23
    exact z_iret X hQ rfl (j_23, S_5) rfl rfl (by subst er_5 eS_5 ej_23; simp only [F_S_type]) dX2_type_23
  refine z_if_eq (tgt := 21) X dX2_type_8 (by decide) (fun c_8 => ?_) (fun c_8 => ?_)
  · refine z_bipush (v := (-3 : Int32)) X dX2_type_21 (by decide) ?_
    refine z_lv (lv' := []) [] rfl ?_
    exact J_j_23 (-3 : Int32) (by simp only [if_pos c_8])
  · refine z_aload_n X dX2_type_11 0 rfl ?_
    refine z_get X inW2 rfl 0 wS_0 4 (by decide) wd1_136 rfl rfl dX2_type_12 ?_
    refine z_get X inW1 rfl 2 wS_2 1 (by decide) wd1_117 rfl rfl dX2_type_15 ?_
    refine z_goto (tgt := 23) X dX2_type_18 (by decide) ?_
    refine z_lv (lv' := []) [] rfl ?_
    exact J_j_23 (S_5.2.1 2 1) (by simp only [if_neg c_8])
set_option maxRecDepth 100000 in
set_option maxHeartbeats 4000000 in
theorem c_S_clearText (l : Launch) (D : va_G) (kI kC kQ : ClassId) (o r : Nat → Nat) (ad : ADT) (S : SLS) : CtI (U := Int32 × SLS) l yX2_clearText cX2_clearText 2 (some .int) { frames := 0, cells := 0, slots := 0, locals := 0 } D (tysG kI kC kQ) (wS kI kC kQ o r ad S) [.ref (o 0)] (fun u => u.1) (fun u => (wS kI kC kQ o r ad u.2)) (fun u => u = F_S_clearText S) := by
  refine met_Zi (own := "ShadowLatches") (by decide +kernel) rfl (Nat.le_of_ble_eq_true rfl) ?_
  intro p e s m args below meth c A Q X hQ
  show Z p l e { frames := 0, cells := 0, slots := 0, locals := 0 } s m args below meth c D A 2 0 0 Q (wS kI kC kQ o r ad S) [(0, .ref (o 0))] 0 []
  refine z_aload_n X dX2_clearText_0 0 rfl ?_
  refine z_get X inW2 rfl 0 wS_0 4 (by decide) wd1_136 rfl rfl dX2_clearText_1 ?_
  refine z_get X inW1 rfl 2 wS_2 1 (by decide) wd1_117 rfl rfl dX2_clearText_4 ?_
  refine z_topi (fun v_7 ev_7 => ?_)
  refine z_istore_n (lv' := [(1, .int v_7), (0, .ref (o 0))]) X dX2_clearText_7 (Nat.le_of_ble_eq_true rfl) rfl ?_
  refine z_aload_n X dX2_clearText_8 1 rfl ?_
  refine z_get X inW2 rfl 0 wS_0 4 (by decide) wd1_136 rfl rfl dX2_clearText_9 ?_
  refine z_iconst (v := (0 : Int32)) X dX2_clearText_12 (by decide) ?_
  refine zS_t1 X wd1_117 dX2_clearText_13 (fun S_13 eS_13 => ?_)
  refine z_iload_n X dX2_clearText_16 0 rfl ?_
  exact z_iret X hQ rfl (v_7, S_13) rfl rfl (by subst ev_7 eS_13; simp only [F_S_clearText]) dX2_clearText_17
set_option maxRecDepth 100000 in
set_option maxHeartbeats 4000000 in
theorem c_S_path (l : Launch) (D : va_G) (kI kC kQ : ClassId) (o r : Nat → Nat) (ad : ADT) (S : SLS) (a1 : Int32) (a2 : Int32) (hO : OKS S) : CtI (U := Int32) l yX2_path cX2_path 3 (some .int) { frames := 2, cells := 0, slots := 0, locals := 44 } D (tysG kI kC kQ) (wS kI kC kQ o r ad S) [.ref (o 0), .int a1, .int a2] (fun u => u) (fun _ => (wS kI kC kQ o r ad S)) (fun u => u = F_S_path S a1 a2) := by
  refine met_Zi (own := "ShadowLatches") (by decide +kernel) rfl (Nat.le_of_ble_eq_true rfl) ?_
  intro p e s m args below meth c A Q X hQ
  show Z p l e { frames := 2, cells := 0, slots := 0, locals := 44 } s m args below meth c D A 3 0 0 Q (wS kI kC kQ o r ad S) [(0, .ref (o 0)), (1, .int a1), (2, .int a2)] 0 []
  refine z_aload_n X dX2_path_0 0 rfl ?_
  refine z_iload_n X dX2_path_1 1 rfl ?_
  refine z_callVi0 X (c_S_isPath l D kI kC kQ o r ad S a1) (gV wd1_213 wd1_215 wd0_2 wd1_1 wd1_216) k_S_isPath rfl rfl ⟨Nat.le_of_ble_eq_true rfl, Nat.le_of_ble_eq_true rfl⟩ ⟨Nat.zero_le _, Nat.zero_le _⟩ 2 0 wS_0 rfl rfl rfl rfl (Nat.le_of_ble_eq_true rfl) dX2_path_2 (fun r_2 er_2 => ?_)
  refine z_if_ne (tgt := 10) X dX2_path_5 (by decide) (fun c_5 => ?_) (fun c_5 => ?_)
  · refine z_iload_n X dX2_path_10 2 rfl ?_
    by_cases c_11_0 : a2 = (0 : Int32)
    · refine z_tableIn (tgt := 44) X dX2_path_11 (by rw [c_11_0]; decide) (by rw [c_11_0]; decide) (by rw [c_11_0]; rfl) (by decide) ?_
      refine z_aload_n X dX2_path_44 0 rfl ?_
      refine z_get X inW2 rfl 0 wS_0 0 (by decide) wd1_132 rfl rfl dX2_path_45 ?_
      refine z_get X inW0 rfl 5 wS_5 0 (by decide) wd1_31 rfl rfl dX2_path_48 ?_
      refine z_iload_n X dX2_path_51 1 rfl ?_
      refine z_iald X 6 0 wS_6 rfl (vin_k (S_path_lt hO.o.p er_2 c_5) (by omega) (by omega)) rfl dX2_path_52 ?_
      exact z_iret X hQ rfl ((S.1 0).1 0 (a1.toNatClampNeg)) rfl rfl (by subst er_2; simp only [F_S_path, if_neg c_5, if_pos c_11_0]) dX2_path_53
    by_cases c_11_1 : a2 = (1 : Int32)
    · refine z_tableIn (tgt := 54) X dX2_path_11 (by rw [c_11_1]; decide) (by rw [c_11_1]; decide) (by rw [c_11_1]; rfl) (by decide) ?_
      refine z_aload_n X dX2_path_54 0 rfl ?_
      refine z_get X inW2 rfl 0 wS_0 0 (by decide) wd1_132 rfl rfl dX2_path_55 ?_
      refine z_iload_n X dX2_path_58 1 rfl ?_
      refine zS_ci0 X (c_C_delayNow l D kI kC kQ (ad 0) (S.1 0) a1 (vin_k (S_path_lt hO.o.p er_2 c_5) (by omega) (by omega)) hO.o.v) (gV wd1_221 wd1_195 wd1_196 wd1_2 wd1_197) k_C_delayNow rfl rfl ⟨Nat.le_of_ble_eq_true rfl, Nat.le_of_ble_eq_true rfl⟩ ⟨Nat.zero_le _, Nat.zero_le _⟩ rfl rfl (Nat.le_of_ble_eq_true rfl) dX2_path_59 (fun r_59 er_59 => ?_)
      exact z_iret X hQ rfl r_59 rfl rfl (by subst er_2 er_59; simp only [F_S_path, if_neg c_5, if_neg c_11_0, if_pos c_11_1]) dX2_path_62
    by_cases c_11_2 : a2 = (2 : Int32)
    · refine z_tableIn (tgt := 63) X dX2_path_11 (by rw [c_11_2]; decide) (by rw [c_11_2]; decide) (by rw [c_11_2]; rfl) (by decide) ?_
      refine z_aload_n X dX2_path_63 0 rfl ?_
      refine z_get X inW2 rfl 0 wS_0 0 (by decide) wd1_132 rfl rfl dX2_path_64 ?_
      refine z_aload_n X dX2_path_67 0 rfl ?_
      refine z_get X inW2 rfl 0 wS_0 0 (by decide) wd1_132 rfl rfl dX2_path_68 ?_
      refine z_iload_n X dX2_path_71 1 rfl ?_
      refine zS_ci0 X (c_C_delayNow l D kI kC kQ (ad 0) (S.1 0) a1 (vin_k (S_path_lt hO.o.p er_2 c_5) (by omega) (by omega)) hO.o.v) (gV wd1_221 wd1_195 wd1_196 wd1_2 wd1_197) k_C_delayNow rfl rfl ⟨Nat.le_of_ble_eq_true rfl, Nat.le_of_ble_eq_true rfl⟩ ⟨Nat.zero_le _, Nat.zero_le _⟩ rfl rfl (Nat.le_of_ble_eq_true rfl) dX2_path_72 (fun r_72 er_72 => ?_)
      refine zS_ci0 X (c_C_judge l D kI kC kQ (ad 0) (S.1 0) r_72) (gV wd1_222 wd1_202 wd1_203 wd1_2 wd1_204) k_C_judge rfl rfl ⟨Nat.le_of_ble_eq_true rfl, Nat.le_of_ble_eq_true rfl⟩ ⟨Nat.zero_le _, Nat.zero_le _⟩ rfl rfl (Nat.le_of_ble_eq_true rfl) dX2_path_75 (fun r_75 er_75 => ?_)
      exact z_iret X hQ rfl r_75 rfl rfl (by subst er_2 er_72 er_75; simp only [F_S_path, if_neg c_5, if_neg c_11_0, if_neg c_11_1, if_pos c_11_2]) dX2_path_78
    by_cases c_11_3 : a2 = (3 : Int32)
    · refine z_tableIn (tgt := 79) X dX2_path_11 (by rw [c_11_3]; decide) (by rw [c_11_3]; decide) (by rw [c_11_3]; rfl) (by decide) ?_
      refine z_aload_n X dX2_path_79 0 rfl ?_
      refine z_get X inW2 rfl 0 wS_0 0 (by decide) wd1_132 rfl rfl dX2_path_80 ?_
      refine z_get X inW0 rfl 5 wS_5 1 (by decide) wd1_33 rfl rfl dX2_path_83 ?_
      refine z_iload_n X dX2_path_86 1 rfl ?_
      refine z_iald X 7 0 wS_7 rfl (vin_k (S_path_lt hO.o.p er_2 c_5) (by omega) (by omega)) rfl dX2_path_87 ?_
      exact z_iret X hQ rfl ((S.1 0).1 1 (a1.toNatClampNeg)) rfl rfl (by subst er_2; simp only [F_S_path, if_neg c_5, if_neg c_11_0, if_neg c_11_1, if_neg c_11_2, if_pos c_11_3]) dX2_path_88
    by_cases c_11_4 : a2 = (4 : Int32)
    · refine z_tableIn (tgt := 89) X dX2_path_11 (by rw [c_11_4]; decide) (by rw [c_11_4]; decide) (by rw [c_11_4]; rfl) (by decide) ?_
      refine z_aload_n X dX2_path_89 0 rfl ?_
      refine z_get X inW2 rfl 0 wS_0 0 (by decide) wd1_132 rfl rfl dX2_path_90 ?_
      refine z_iload_n X dX2_path_93 1 rfl ?_
      refine zS_ci0 X (c_C_setsWith l D kI kC kQ (ad 0) (S.1 0) a1 hO.o.c) (gV wd1_223 wd1_224 wd1_225 wd1_2 wd1_226) k_C_setsWith rfl rfl ⟨Nat.le_of_ble_eq_true rfl, Nat.le_of_ble_eq_true rfl⟩ ⟨Nat.zero_le _, Nat.zero_le _⟩ rfl rfl (Nat.le_of_ble_eq_true rfl) dX2_path_94 (fun r_94 er_94 => ?_)
      exact z_iret X hQ rfl r_94 rfl rfl (by subst er_2 er_94; simp only [F_S_path, if_neg c_5, if_neg c_11_0, if_neg c_11_1, if_neg c_11_2, if_neg c_11_3, if_pos c_11_4]) dX2_path_97
    refine z_tableOut (tgt := 98) X dX2_path_11 (by have t0 : a2.toInt ≠ 0 := fun q => c_11_0 (Int32.toInt_inj.mp q); have t1 : a2.toInt ≠ 1 := fun q => c_11_1 (Int32.toInt_inj.mp q); have t2 : a2.toInt ≠ 2 := fun q => c_11_2 (Int32.toInt_inj.mp q); have t3 : a2.toInt ≠ 3 := fun q => c_11_3 (Int32.toInt_inj.mp q); have t4 : a2.toInt ≠ 4 := fun q => c_11_4 (Int32.toInt_inj.mp q); omega) (by decide) ?_
    refine z_bipush (v := (-2 : Int32)) X dX2_path_98 (by decide) ?_
    exact z_iret X hQ rfl (-2 : Int32) rfl rfl (by subst er_2; simp only [F_S_path, if_neg c_5, if_neg c_11_0, if_neg c_11_1, if_neg c_11_2, if_neg c_11_3, if_neg c_11_4]) dX2_path_100
  · refine z_iconst (v := (-1 : Int32)) X dX2_path_8 (by decide) ?_
    exact z_iret X hQ rfl (-1 : Int32) rfl rfl (by subst er_2; simp only [F_S_path, if_pos c_5]) dX2_path_9
set_option maxRecDepth 100000 in
set_option maxHeartbeats 4000000 in
theorem c_S_delay (l : Launch) (D : va_G) (kI kC kQ : ClassId) (o r : Nat → Nat) (ad : ADT) (S : SLS) (a1 : Int32) (a2 : Int32) (a3 : Int32) (hO : OKS S) : CtI (U := Int32) l yX2_delay cX2_delay 4 (some .int) { frames := 2, cells := 0, slots := 0, locals := 43 } D (tysG kI kC kQ) (wS kI kC kQ o r ad S) [.ref (o 0), .int a1, .int a2, .int a3] (fun u => u) (fun _ => (wS kI kC kQ o r ad S)) (fun u => u = F_S_delay S a1 a2 a3) := by
  refine met_Zi (own := "ShadowLatches") (by decide +kernel) rfl (Nat.le_of_ble_eq_true rfl) ?_
  intro p e s m args below meth c A Q X hQ
  show Z p l e { frames := 2, cells := 0, slots := 0, locals := 43 } s m args below meth c D A 4 0 0 Q (wS kI kC kQ o r ad S) [(0, .ref (o 0)), (1, .int a1), (2, .int a2), (3, .int a3)] 0 []
  refine z_aload_n X dX2_delay_0 0 rfl ?_
  refine z_iload_n X dX2_delay_1 1 rfl ?_
  refine z_callVi0 X (c_S_isPath l D kI kC kQ o r ad S a1) (gV wd1_213 wd1_215 wd0_2 wd1_1 wd1_216) k_S_isPath rfl rfl ⟨Nat.le_of_ble_eq_true rfl, Nat.le_of_ble_eq_true rfl⟩ ⟨Nat.zero_le _, Nat.zero_le _⟩ 2 0 wS_0 rfl rfl rfl rfl (Nat.le_of_ble_eq_true rfl) dX2_delay_2 (fun r_2 er_2 => ?_)
  refine z_if_ne (tgt := 10) X dX2_delay_5 (by decide) (fun c_5 => ?_) (fun c_5 => ?_)
  · refine z_iload_n X dX2_delay_10 2 rfl ?_
    refine z_callSiN X (c_S_isVoltage l D kI kC kQ a2) (gS wd2_74 wd2_75 wd1_1 wd2_76) k_S_isVoltage rfl rfl ⟨Nat.le_of_ble_eq_true rfl, Nat.le_of_ble_eq_true rfl⟩ ⟨Nat.zero_le _, Nat.zero_le _⟩ rfl rfl (Nat.le_of_ble_eq_true rfl) dX2_delay_11 rfl (fun _ => rfl) (fun r_11 er_11 => ?_)
    refine z_if_eq (tgt := 28) X dX2_delay_14 (by decide) (fun c_14 => ?_) (fun c_14 => ?_)
    · refine z_bipush (v := (-2 : Int32)) X dX2_delay_28 (by decide) ?_
      exact z_iret X hQ rfl (-2 : Int32) rfl rfl (by subst er_2 er_11; simp only [F_S_delay, if_neg c_5, if_pos c_14]) dX2_delay_30
    · refine z_iload_n X dX2_delay_17 3 rfl ?_
      refine z_bipush (v := (20 : Int32)) X dX2_delay_18 (by decide) ?_
      refine z_bipush (v := (120 : Int32)) X dX2_delay_20 (by decide) ?_
      refine z_callSiN X (c_S_isWithin l D kI kC kQ a3 (20 : Int32) (120 : Int32)) (gS wd1_160 wd1_161 wd1_1 wd1_162) k_S_isWithin rfl rfl ⟨Nat.le_of_ble_eq_true rfl, Nat.le_of_ble_eq_true rfl⟩ ⟨Nat.zero_le _, Nat.zero_le _⟩ rfl rfl (Nat.le_of_ble_eq_true rfl) dX2_delay_22 rfl (fun _ => rfl) (fun r_22 er_22 => ?_)
      refine z_if_ne (tgt := 31) X dX2_delay_25 (by decide) (fun c_25 => ?_) (fun c_25 => ?_)
      · refine z_aload_n X dX2_delay_31 0 rfl ?_
        refine z_get X inW2 rfl 0 wS_0 0 (by decide) wd1_132 rfl rfl dX2_delay_32 ?_
        refine z_get X inW0 rfl 5 wS_5 0 (by decide) wd1_31 rfl rfl dX2_delay_35 ?_
        refine z_iload_n X dX2_delay_38 1 rfl ?_
        refine z_iald X 6 0 wS_6 rfl (vin_k (S_path_lt hO.o.p er_2 c_5) (by omega) (by omega)) rfl dX2_delay_39 ?_
        refine z_iload_n X dX2_delay_40 2 rfl ?_
        refine z_iload_n X dX2_delay_41 3 rfl ?_
        refine z_callSiN X (c_C_delayOf l D kI kC kQ ((S.1 0).1 0 (a1.toNatClampNeg)) a2 a3 (vne (wi_bn 500 1200 (by omega) er_11 c_14))) (gS wd2_98 wd1_199 wd1_2 wd1_200) k_C_delayOf rfl rfl ⟨Nat.le_of_ble_eq_true rfl, Nat.le_of_ble_eq_true rfl⟩ ⟨Nat.zero_le _, Nat.zero_le _⟩ rfl rfl (Nat.le_of_ble_eq_true rfl) dX2_delay_42 rfl (fun _ => rfl) (fun r_42 er_42 => ?_)
        exact z_iret X hQ rfl r_42 rfl rfl (by subst er_2 er_11 er_22 er_42; simp only [F_S_delay, if_neg c_5, if_neg c_14, if_neg c_25]) dX2_delay_45
      · refine z_bipush (v := (-2 : Int32)) X dX2_delay_28 (by decide) ?_
        exact z_iret X hQ rfl (-2 : Int32) rfl rfl (by subst er_2 er_11 er_22; simp only [F_S_delay, if_neg c_5, if_neg c_14, if_pos c_25]) dX2_delay_30
  · refine z_iconst (v := (-1 : Int32)) X dX2_delay_8 (by decide) ?_
    exact z_iret X hQ rfl (-1 : Int32) rfl rfl (by subst er_2; simp only [F_S_delay, if_pos c_5]) dX2_delay_9
set_option maxRecDepth 100000 in
set_option maxHeartbeats 4000000 in
theorem c_S_workload (l : Launch) (D : va_G) (kI kC kQ : ClassId) (o r : Nat → Nat) (ad : ADT) (S : SLS) (a1 : Int32) (hO : OKS S) : CtI (U := Int32) l yX2_workload cX2_workload 2 (some .int) { frames := 0, cells := 0, slots := 0, locals := 0 } D (tysG kI kC kQ) (wS kI kC kQ o r ad S) [.ref (o 0), .int a1] (fun u => u) (fun _ => (wS kI kC kQ o r ad S)) (fun u => u = F_S_workload S a1) := by
  refine met_Zi (own := "ShadowLatches") (by decide +kernel) rfl (Nat.le_of_ble_eq_true rfl) ?_
  intro p e s m args below meth c A Q X hQ
  show Z p l e { frames := 0, cells := 0, slots := 0, locals := 0 } s m args below meth c D A 2 0 0 Q (wS kI kC kQ o r ad S) [(0, .ref (o 0)), (1, .int a1)] 0 []
  refine z_iload_n X dX2_workload_0 1 rfl ?_
  refine z_if_ge (tgt := 7) X dX2_workload_1 (by decide) (fun c_1 => ?_) (fun c_1 => ?_)
  · refine z_iload_n X dX2_workload_7 1 rfl ?_
    refine z_aload_n X dX2_workload_8 0 rfl ?_
    refine z_get X inW2 rfl 0 wS_0 0 (by decide) wd1_132 rfl rfl dX2_workload_9 ?_
    refine z_get X inW0 rfl 5 wS_5 4 (by decide) wd1_39 rfl rfl dX2_workload_12 ?_
    have J_j_32 : ∀ (j_32 : Int32), j_32 = (if ((S.1 0).1 4 4) ≤ a1 then ((-5 : Int32)) else (((S.1 0).1 2 (a1.toNatClampNeg)))) → Z p l e { frames := 0, cells := 0, slots := 0, locals := 0 } s m args below meth c D A 2 0 0 Q (wS kI kC kQ o r ad S) [] 32 [.int j_32] := by
      intro j_32 ej_32
      exact z_iret X hQ rfl j_32 rfl rfl (by subst ej_32; simp only [F_S_workload, if_pos c_1]) dX2_workload_32
    refine z_icmp_ge (tgt := 30) X dX2_workload_15 (by decide) (fun c_15 => ?_) (fun c_15 => ?_)
    · refine z_bipush (v := (-5 : Int32)) X dX2_workload_30 (by decide) ?_
      refine z_lv (lv' := []) [] rfl ?_
      exact J_j_32 (-5 : Int32) (by simp only [if_pos c_15])
    · refine z_aload_n X dX2_workload_18 0 rfl ?_
      refine z_get X inW2 rfl 0 wS_0 0 (by decide) wd1_132 rfl rfl dX2_workload_19 ?_
      refine z_get X inW0 rfl 5 wS_5 3 (by decide) wd1_37 rfl rfl dX2_workload_22 ?_
      refine z_iload_n X dX2_workload_25 1 rfl ?_
      refine z_iald X 8 0 wS_8 rfl (vin_k (wl_i c_1 hO.o.c c_15) (by omega) (by omega)) rfl dX2_workload_26 ?_
      refine z_goto (tgt := 32) X dX2_workload_27 (by decide) ?_
      refine z_lv (lv' := []) [] rfl ?_
      exact J_j_32 ((S.1 0).1 2 (a1.toNatClampNeg)) (by simp only [if_neg c_15])
  · refine z_bipush (v := (-2 : Int32)) X dX2_workload_4 (by decide) ?_
    exact z_iret X hQ rfl (-2 : Int32) rfl rfl (by simp only [F_S_workload, if_neg c_1]) dX2_workload_6
set_option maxRecDepth 100000 in
set_option maxHeartbeats 4000000 in
theorem c_S_least (l : Launch) (D : va_G) (kI kC kQ : ClassId) (o r : Nat → Nat) (ad : ADT) (S : SLS) (a1 : Int32) (hO : OKS S) : CtI (U := Int32) l yX2_least cX2_least 5 (some .int) { frames := 3, cells := 0, slots := 0, locals := 66 } D (tysG kI kC kQ) (wS kI kC kQ o r ad S) [.ref (o 0), .int a1] (fun u => u) (fun _ => (wS kI kC kQ o r ad S)) (fun u => u = F_S_least S a1) := by
  refine met_Zi (own := "ShadowLatches") (by decide +kernel) rfl (Nat.le_of_ble_eq_true rfl) ?_
  intro p e s m args below meth c A Q X hQ
  show Z p l e { frames := 3, cells := 0, slots := 0, locals := 66 } s m args below meth c D A 5 0 0 Q (wS kI kC kQ o r ad S) [(0, .ref (o 0)), (1, .int a1)] 0 []
  refine z_aload_n X dX2_least_0 0 rfl ?_
  refine z_get X inW2 rfl 0 wS_0 0 (by decide) wd1_132 rfl rfl dX2_least_1 ?_
  refine zS_ci0 X (c_C_longestInWorkload l D kI kC kQ (ad 0) (S.1 0) hO.o.c hO.o.p) (gV wd2_94 wd2_95 wd2_96 wd1_2 wd2_97) k_C_longestInWorkload rfl rfl ⟨Nat.le_of_ble_eq_true rfl, Nat.le_of_ble_eq_true rfl⟩ ⟨Nat.zero_le _, Nat.zero_le _⟩ rfl rfl (Nat.le_of_ble_eq_true rfl) dX2_least_4 (fun r_4 er_4 => ?_)
  refine z_istore_n (lv' := [(2, .int r_4), (0, .ref (o 0)), (1, .int a1)]) X dX2_least_7 (Nat.le_of_ble_eq_true rfl) rfl ?_
  refine z_iload_n X dX2_least_8 2 rfl ?_
  have J_j_17 : ∀ (j_17 : Int32), j_17 = (if a1 = (0 : Int32) then ((0 : Int32)) else ((1 : Int32))) → Z p l e { frames := 3, cells := 0, slots := 0, locals := 66 } s m args below meth c D A 5 0 0 Q (wS kI kC kQ o r ad S) [(0, .ref (o 0)), (2, .int r_4)] 17 [.int j_17] := by
    intro j_17 ej_17
    refine z_istore_n (lv' := [(3, .int j_17), (0, .ref (o 0)), (2, .int r_4)]) X dX2_least_17 (Nat.le_of_ble_eq_true rfl) rfl ?_
    refine z_sipush (v := (500 : Int32)) X dX2_least_18 (by decide) ?_
    refine z_istore (lv' := [(4, .int (500 : Int32)), (3, .int j_17), (0, .ref (o 0)), (2, .int r_4)]) X dX2_least_21 (Nat.le_of_ble_eq_true rfl) rfl ?_
    refine z_lv (lv' := [(0, .ref (o 0)), (2, .int r_4), (3, .int j_17), (4, .int (500 : Int32))]) [2, 3, 1, 0] rfl ?_
    have Lp_23 : ∀ (n : Nat) (x4_23 : Int32), (lv7 n x4_23) → (F_S_least S a1 = L_S_least_23 S r_4 j_17 n x4_23) → Z p l e { frames := 3, cells := 0, slots := 0, locals := 66 } s m args below meth c D A 5 0 0 Q (wS kI kC kQ o r ad S) [(0, .ref (o 0)), (2, .int r_4), (3, .int j_17), (4, .int x4_23)] 23 [] := by
      intro n
      induction n with
      | zero =>
        intro x4_23 hi hF_23
        exfalso
        obtain ⟨k, _, h1, h2, h3⟩ := hi
        omega
      | succ n ih_23 =>
        intro x4_23 hi hF_23
        refine z_iload X dX2_least_23 3 rfl ?_
        refine z_sipush (v := (1200 : Int32)) X dX2_least_25 (by decide) ?_
        refine z_icmp_gt (tgt := 64) X dX2_least_28 (by decide) (fun c_28 => ?_) (fun c_28 => ?_)
        · refine z_bipush (v := (-5 : Int32)) X dX2_least_64 (by decide) ?_
          exact z_iret X hQ rfl (-5 : Int32) rfl rfl (by rw [hF_23]; simp only [L_S_least_23, if_pos c_28]) dX2_least_66
        · refine z_aload_n X dX2_least_31 0 rfl ?_
          refine z_get X inW2 rfl 0 wS_0 0 (by decide) wd1_132 rfl rfl dX2_least_32 ?_
          refine z_iload_n X dX2_least_35 1 rfl ?_
          refine z_iload X dX2_least_36 3 rfl ?_
          refine z_aload_n X dX2_least_38 0 rfl ?_
          refine z_get X inW2 rfl 0 wS_0 0 (by decide) wd1_132 rfl rfl dX2_least_39 ?_
          refine z_get X inW0 rfl 5 wS_5 8 (by decide) wd1_47 rfl rfl dX2_least_42 ?_
          refine z_callSiN X (c_C_delayOf l D kI kC kQ r_4 x4_23 ((S.1 0).1 4 8) (vne (lv7_v hi c_28))) (gS wd2_98 wd1_199 wd1_2 wd1_200) k_C_delayOf rfl rfl ⟨Nat.le_of_ble_eq_true rfl, Nat.le_of_ble_eq_true rfl⟩ ⟨Nat.zero_le _, Nat.zero_le _⟩ rfl rfl (Nat.le_of_ble_eq_true rfl) dX2_least_45 rfl (fun _ => rfl) (fun r_45 er_45 => ?_)
          refine zS_ci0 X (c_C_judge l D kI kC kQ (ad 0) (S.1 0) r_45) (gV wd1_222 wd1_202 wd1_203 wd1_2 wd1_204) k_C_judge rfl rfl ⟨Nat.le_of_ble_eq_true rfl, Nat.le_of_ble_eq_true rfl⟩ ⟨Nat.zero_le _, Nat.zero_le _⟩ rfl rfl (Nat.le_of_ble_eq_true rfl) dX2_least_48 (fun r_48 er_48 => ?_)
          refine z_iload_n X dX2_least_51 2 rfl ?_
          refine z_icmp_gt (tgt := 58) X dX2_least_52 (by decide) (fun c_52 => ?_) (fun c_52 => ?_)
          · obtain ⟨v_58, ev_58⟩ : ∃ y : Int32, y = x4_23 + (1 : Int32) := ⟨_, rfl⟩
            refine z_iinc (v := v_58) (lv' := [(4, .int v_58), (0, .ref (o 0)), (2, .int r_4), (3, .int j_17)]) X dX2_least_58 3 rfl (by rw [ev_58]; rfl) (Nat.le_of_ble_eq_true rfl) rfl ?_
            refine z_goto (tgt := 23) X dX2_least_61 (by decide) ?_
            refine z_lv (lv' := [(0, .ref (o 0)), (2, .int r_4), (3, .int j_17), (4, .int v_58)]) [1, 2, 3, 0] rfl ?_
            exact ih_23 v_58 (lv7_b hi c_28 ev_58) (hF_23.trans (by subst er_45 er_48 ev_58; simp only [L_S_least_23, if_neg c_28, if_pos c_52]))
          · refine z_iload X dX2_least_55 3 rfl ?_
            exact z_iret X hQ rfl x4_23 rfl rfl (by rw [hF_23]; subst er_45 er_48; simp only [L_S_least_23, if_neg c_28, if_neg c_52]) dX2_least_57
    exact Lp_23 702 (500 : Int32) ⟨500, rfl, by omega, by omega, by omega⟩ (by subst er_4 ej_17; simp only [F_S_least])
  refine z_if_eq (tgt := 16) X dX2_least_9 (by decide) (fun c_9 => ?_) (fun c_9 => ?_)
  · refine z_iconst (v := (0 : Int32)) X dX2_least_16 (by decide) ?_
    refine z_lv (lv' := [(0, .ref (o 0)), (2, .int r_4)]) [1, 0] rfl ?_
    exact J_j_17 (0 : Int32) (by simp only [if_pos c_9])
  · refine z_iconst (v := (1 : Int32)) X dX2_least_12 (by decide) ?_
    refine z_goto (tgt := 17) X dX2_least_13 (by decide) ?_
    refine z_lv (lv' := [(0, .ref (o 0)), (2, .int r_4)]) [1, 0] rfl ?_
    exact J_j_17 (1 : Int32) (by simp only [if_neg c_9])
set_option maxRecDepth 100000 in
set_option maxHeartbeats 4000000 in
theorem c_S_tryCycles (l : Launch) (D : va_G) (kI kC kQ : ClassId) (o r : Nat → Nat) (ad : ADT) (S : SLS) (a1 : Int32) (a2 : Int32) (hO : OKS S) (hv : bn 500 1200 a1) (hc : bn 1 2000 a2) : CtV (U := SLS) l yX2_tryCycles cX2_tryCycles 3 none { frames := 5, cells := 0, slots := 0, locals := 107 } D (tysG kI kC kQ) (wS kI kC kQ o r ad S) [.ref (o 0), .int a1, .int a2] (fun u => (wS kI kC kQ o r ad u)) (fun u => u = F_S_tryCycles S a1 a2) := by
  refine met_Zv (own := "ShadowLatches") (by decide +kernel) rfl (Nat.le_of_ble_eq_true rfl) ?_
  intro p e s m args below meth c A Q X hQ
  show Z p l e { frames := 5, cells := 0, slots := 0, locals := 107 } s m args below meth c D A 3 0 0 Q (wS kI kC kQ o r ad S) [(0, .ref (o 0)), (1, .int a1), (2, .int a2)] 0 []
  refine z_aload_n X dX2_tryCycles_0 0 rfl ?_
  refine z_get X inW2 rfl 0 wS_0 2 (by decide) wd1_134 rfl rfl dX2_tryCycles_1 ?_
  refine z_aload_n X dX2_tryCycles_4 0 rfl ?_
  refine z_get X inW2 rfl 0 wS_0 0 (by decide) wd1_132 rfl rfl dX2_tryCycles_5 ?_
  refine zS_cp_2_0 X ((hO.b 0 (by omega))) (gV wd1_171 wd1_172 wd1_173 wd1_2 wd1_174) ⟨Nat.le_of_ble_eq_true rfl, Nat.le_of_ble_eq_true rfl⟩ ⟨Nat.zero_le _, Nat.zero_le _⟩ (Nat.le_of_ble_eq_true rfl) dX2_tryCycles_8 (fun S_8 eS_8 => ?_)
  refine z_aload_n X dX2_tryCycles_11 0 rfl ?_
  refine z_get X inW2 rfl 0 wS_0 2 (by decide) wd1_134 rfl rfl dX2_tryCycles_12 ?_
  refine z_iconst (v := (0 : Int32)) X dX2_tryCycles_15 (by decide) ?_
  refine zS_pc_2_9 X (Or.inl rfl) wd1_49 dX2_tryCycles_16 (fun S_16 eS_16 => ?_)
  refine z_aload_n X dX2_tryCycles_19 0 rfl ?_
  refine z_get X inW2 rfl 0 wS_0 2 (by decide) wd1_134 rfl rfl dX2_tryCycles_20 ?_
  refine z_iload_n X dX2_tryCycles_23 1 rfl ?_
  refine zS_pc_2_7 X wd1_45 dX2_tryCycles_24 (fun S_24 eS_24 => ?_)
  refine z_aload_n X dX2_tryCycles_27 0 rfl ?_
  refine z_get X inW2 rfl 0 wS_0 2 (by decide) wd1_134 rfl rfl dX2_tryCycles_28 ?_
  refine z_iload_n X dX2_tryCycles_31 2 rfl ?_
  refine zS_cv2 X (c_C_runCycles l D kI kC kQ (ad 2) (S_24.1 2) a2 (by rw [eS_24, eS_16, eS_8, sSC_e, sSC_e, sSC_e]; exact OKC_try hO.o hv _) hc) (gV wd2_19 wd2_20 wd2_21 wd1_2 wd2_22) k_C_runCycles rfl rfl ⟨Nat.le_of_ble_eq_true rfl, Nat.le_of_ble_eq_true rfl⟩ ⟨Nat.zero_le _, Nat.zero_le _⟩ rfl rfl (Nat.le_of_ble_eq_true rfl) dX2_tryCycles_32 (fun r_32 er_32 => ?_)
  refine zS_nm (fun S_32 eS_32 => ?_)
  exact z_vret X hQ rfl S_32 rfl (by subst eS_8 eS_16 eS_24 er_32 eS_32; simp only [F_S_tryCycles]) dX2_tryCycles_35
set_option maxRecDepth 100000 in
set_option maxHeartbeats 4000000 in
theorem c_S_would (l : Launch) (D : va_G) (kI kC kQ : ClassId) (o r : Nat → Nat) (ad : ADT) (S : SLS) (a1 : Int32) (a2 : Int32) (a3 : Int32) (hO : OKS S) : CtI (U := Int32 × SLS) l yX2_would cX2_would 4 (some .int) { frames := 6, cells := 0, slots := 0, locals := 129 } D (tysG kI kC kQ) (wS kI kC kQ o r ad S) [.ref (o 0), .int a1, .int a2, .int a3] (fun u => u.1) (fun u => (wS kI kC kQ o r ad u.2)) (fun u => u = F_S_would S a1 a2 a3) := by
  refine met_Zi (own := "ShadowLatches") (by decide +kernel) rfl (Nat.le_of_ble_eq_true rfl) ?_
  intro p e s m args below meth c A Q X hQ
  show Z p l e { frames := 6, cells := 0, slots := 0, locals := 129 } s m args below meth c D A 4 0 0 Q (wS kI kC kQ o r ad S) [(0, .ref (o 0)), (1, .int a1), (2, .int a2), (3, .int a3)] 0 []
  refine z_iload_n X dX2_would_0 1 rfl ?_
  refine z_callSiN X (c_S_isVoltage l D kI kC kQ a1) (gS wd2_74 wd2_75 wd1_1 wd2_76) k_S_isVoltage rfl rfl ⟨Nat.le_of_ble_eq_true rfl, Nat.le_of_ble_eq_true rfl⟩ ⟨Nat.zero_le _, Nat.zero_le _⟩ rfl rfl (Nat.le_of_ble_eq_true rfl) dX2_would_1 rfl (fun _ => rfl) (fun r_1 er_1 => ?_)
  refine z_if_eq (tgt := 27) X dX2_would_4 (by decide) (fun c_4 => ?_) (fun c_4 => ?_)
  · refine z_bipush (v := (-2 : Int32)) X dX2_would_27 (by decide) ?_
    exact z_iret X hQ rfl ((-2 : Int32), S) rfl rfl (by subst er_1; simp only [F_S_would, if_pos c_4]) dX2_would_29
  · refine z_iload_n X dX2_would_7 2 rfl ?_
    refine z_iconst (v := (1 : Int32)) X dX2_would_8 (by decide) ?_
    refine z_sipush (v := (500 : Int32)) X dX2_would_9 (by decide) ?_
    refine z_callSiN X (c_S_isWithin l D kI kC kQ a2 (1 : Int32) (500 : Int32)) (gS wd1_160 wd1_161 wd1_1 wd1_162) k_S_isWithin rfl rfl ⟨Nat.le_of_ble_eq_true rfl, Nat.le_of_ble_eq_true rfl⟩ ⟨Nat.zero_le _, Nat.zero_le _⟩ rfl rfl (Nat.le_of_ble_eq_true rfl) dX2_would_12 rfl (fun _ => rfl) (fun r_12 er_12 => ?_)
    refine z_if_eq (tgt := 27) X dX2_would_15 (by decide) (fun c_15 => ?_) (fun c_15 => ?_)
    · refine z_bipush (v := (-2 : Int32)) X dX2_would_27 (by decide) ?_
      exact z_iret X hQ rfl ((-2 : Int32), S) rfl rfl (by subst er_1 er_12; simp only [F_S_would, if_neg c_4, if_pos c_15]) dX2_would_29
    · refine z_iload_n X dX2_would_18 3 rfl ?_
      refine z_iconst (v := (0 : Int32)) X dX2_would_19 (by decide) ?_
      refine z_iconst (v := (4 : Int32)) X dX2_would_20 (by decide) ?_
      refine z_callSiN X (c_S_isWithin l D kI kC kQ a3 (0 : Int32) (4 : Int32)) (gS wd1_160 wd1_161 wd1_1 wd1_162) k_S_isWithin rfl rfl ⟨Nat.le_of_ble_eq_true rfl, Nat.le_of_ble_eq_true rfl⟩ ⟨Nat.zero_le _, Nat.zero_le _⟩ rfl rfl (Nat.le_of_ble_eq_true rfl) dX2_would_21 rfl (fun _ => rfl) (fun r_21 er_21 => ?_)
      refine z_if_ne (tgt := 30) X dX2_would_24 (by decide) (fun c_24 => ?_) (fun c_24 => ?_)
      · refine z_aload_n X dX2_would_30 0 rfl ?_
        refine z_iload_n X dX2_would_31 1 rfl ?_
        refine z_iload_n X dX2_would_32 2 rfl ?_
        refine z_callVv0 X (c_S_tryCycles l D kI kC kQ o r ad S a1 a2 hO (wi_bn 500 1200 (by omega) er_1 c_4) (bn_w (wi_bn 1 500 (by omega) er_12 c_15) (by omega) (by omega))) (gV wd2_103 wd2_105 wd0_9 wd1_1 wd2_106) k_S_tryCycles rfl rfl ⟨Nat.le_of_ble_eq_true rfl, Nat.le_of_ble_eq_true rfl⟩ ⟨Nat.zero_le _, Nat.zero_le _⟩ 2 0 wS_0 rfl rfl rfl rfl (Nat.le_of_ble_eq_true rfl) dX2_would_33 (fun r_33 er_33 => ?_)
        refine z_iload_n X dX2_would_36 3 rfl ?_
        by_cases c_37_0 : a3 = (0 : Int32)
        · refine z_tableIn (tgt := 68) X dX2_would_37 (by rw [c_37_0]; decide) (by rw [c_37_0]; decide) (by rw [c_37_0]; rfl) (by decide) ?_
          refine z_aload_n X dX2_would_68 0 rfl ?_
          refine z_get X inW2 rfl 0 wS_0 2 (by decide) wd1_134 rfl rfl dX2_would_69 ?_
          refine z_get X inW0 rfl 15 wS_15 14 (by decide) wd1_59 rfl rfl dX2_would_72 ?_
          refine z_aload_n X dX2_would_75 0 rfl ?_
          refine z_get X inW2 rfl 0 wS_0 0 (by decide) wd1_132 rfl rfl dX2_would_76 ?_
          refine z_get X inW0 rfl 5 wS_5 14 (by decide) wd1_59 rfl rfl dX2_would_79 ?_
          refine z_isub X dX2_would_82 ?_
          exact z_iret X hQ rfl ((((r_33.1 2).1 4 14) - ((r_33.1 0).1 4 14)), r_33) rfl rfl (by subst er_1 er_12 er_21 er_33; simp only [F_S_would, if_neg c_4, if_neg c_15, if_neg c_24, if_pos c_37_0]) dX2_would_83
        by_cases c_37_1 : a3 = (1 : Int32)
        · refine z_tableIn (tgt := 84) X dX2_would_37 (by rw [c_37_1]; decide) (by rw [c_37_1]; decide) (by rw [c_37_1]; rfl) (by decide) ?_
          refine z_aload_n X dX2_would_84 0 rfl ?_
          refine z_get X inW2 rfl 0 wS_0 2 (by decide) wd1_134 rfl rfl dX2_would_85 ?_
          refine z_get X inW0 rfl 15 wS_15 15 (by decide) wd1_61 rfl rfl dX2_would_88 ?_
          refine z_aload_n X dX2_would_91 0 rfl ?_
          refine z_get X inW2 rfl 0 wS_0 0 (by decide) wd1_132 rfl rfl dX2_would_92 ?_
          refine z_get X inW0 rfl 5 wS_5 15 (by decide) wd1_61 rfl rfl dX2_would_95 ?_
          refine z_isub X dX2_would_98 ?_
          exact z_iret X hQ rfl ((((r_33.1 2).1 4 15) - ((r_33.1 0).1 4 15)), r_33) rfl rfl (by subst er_1 er_12 er_21 er_33; simp only [F_S_would, if_neg c_4, if_neg c_15, if_neg c_24, if_neg c_37_0, if_pos c_37_1]) dX2_would_99
        by_cases c_37_2 : a3 = (2 : Int32)
        · refine z_tableIn (tgt := 100) X dX2_would_37 (by rw [c_37_2]; decide) (by rw [c_37_2]; decide) (by rw [c_37_2]; rfl) (by decide) ?_
          refine z_aload_n X dX2_would_100 0 rfl ?_
          refine z_get X inW2 rfl 0 wS_0 2 (by decide) wd1_134 rfl rfl dX2_would_101 ?_
          refine z_get X inW0 rfl 15 wS_15 16 (by decide) wd1_63 rfl rfl dX2_would_104 ?_
          refine z_aload_n X dX2_would_107 0 rfl ?_
          refine z_get X inW2 rfl 0 wS_0 0 (by decide) wd1_132 rfl rfl dX2_would_108 ?_
          refine z_get X inW0 rfl 5 wS_5 16 (by decide) wd1_63 rfl rfl dX2_would_111 ?_
          refine z_lsub X dX2_would_114 ?_
          refine z_l2i X dX2_would_115 ?_
          exact z_iret X hQ rfl (((((r_33.1 2).2) - ((r_33.1 0).2)).toInt32), r_33) rfl rfl (by subst er_1 er_12 er_21 er_33; simp only [F_S_would, if_neg c_4, if_neg c_15, if_neg c_24, if_neg c_37_0, if_neg c_37_1, if_pos c_37_2]) dX2_would_116
        by_cases c_37_3 : a3 = (3 : Int32)
        · refine z_tableIn (tgt := 117) X dX2_would_37 (by rw [c_37_3]; decide) (by rw [c_37_3]; decide) (by rw [c_37_3]; rfl) (by decide) ?_
          refine z_aload_n X dX2_would_117 0 rfl ?_
          refine z_get X inW2 rfl 0 wS_0 2 (by decide) wd1_134 rfl rfl dX2_would_118 ?_
          refine z_get X inW0 rfl 15 wS_15 12 (by decide) wd1_55 rfl rfl dX2_would_121 ?_
          refine z_aload_n X dX2_would_124 0 rfl ?_
          refine z_get X inW2 rfl 0 wS_0 0 (by decide) wd1_132 rfl rfl dX2_would_125 ?_
          refine z_get X inW0 rfl 5 wS_5 12 (by decide) wd1_55 rfl rfl dX2_would_128 ?_
          refine z_isub X dX2_would_131 ?_
          exact z_iret X hQ rfl ((((r_33.1 2).1 4 12) - ((r_33.1 0).1 4 12)), r_33) rfl rfl (by subst er_1 er_12 er_21 er_33; simp only [F_S_would, if_neg c_4, if_neg c_15, if_neg c_24, if_neg c_37_0, if_neg c_37_1, if_neg c_37_2, if_pos c_37_3]) dX2_would_132
        refine z_tableOut (tgt := 133) X dX2_would_37 (by have t0 : a3.toInt ≠ 0 := fun q => c_37_0 (Int32.toInt_inj.mp q); have t1 : a3.toInt ≠ 1 := fun q => c_37_1 (Int32.toInt_inj.mp q); have t2 : a3.toInt ≠ 2 := fun q => c_37_2 (Int32.toInt_inj.mp q); have t3 : a3.toInt ≠ 3 := fun q => c_37_3 (Int32.toInt_inj.mp q); omega) (by decide) ?_
        refine z_aload_n X dX2_would_133 0 rfl ?_
        refine z_get X inW2 rfl 0 wS_0 2 (by decide) wd1_134 rfl rfl dX2_would_134 ?_
        refine z_get X inW0 rfl 15 wS_15 8 (by decide) wd1_47 rfl rfl dX2_would_137 ?_
        exact z_iret X hQ rfl (((r_33.1 2).1 4 8), r_33) rfl rfl (by subst er_1 er_12 er_21 er_33; simp only [F_S_would, if_neg c_4, if_neg c_15, if_neg c_24, if_neg c_37_0, if_neg c_37_1, if_neg c_37_2, if_neg c_37_3]) dX2_would_140
      · refine z_bipush (v := (-2 : Int32)) X dX2_would_27 (by decide) ?_
        exact z_iret X hQ rfl ((-2 : Int32), S) rfl rfl (by subst er_1 er_12 er_21; simp only [F_S_would, if_neg c_4, if_neg c_15, if_pos c_24]) dX2_would_29
set_option maxRecDepth 100000 in
set_option maxHeartbeats 4000000 in
theorem c_S_best (l : Launch) (D : va_G) (kI kC kQ : ClassId) (o r : Nat → Nat) (ad : ADT) (S : SLS) (a1 : Int32) (hO : OKS S) : CtI (U := Int32 × SLS) l yX2_best cX2_best 8 (some .int) { frames := 6, cells := 0, slots := 0, locals := 129 } D (tysG kI kC kQ) (wS kI kC kQ o r ad S) [.ref (o 0), .int a1] (fun u => u.1) (fun u => (wS kI kC kQ o r ad u.2)) (fun u => u = F_S_best S a1) := by
  refine met_Zi (own := "ShadowLatches") (by decide +kernel) rfl (Nat.le_of_ble_eq_true rfl) ?_
  intro p e s m args below meth c A Q X hQ
  show Z p l e { frames := 6, cells := 0, slots := 0, locals := 129 } s m args below meth c D A 8 0 0 Q (wS kI kC kQ o r ad S) [(0, .ref (o 0)), (1, .int a1)] 0 []
  refine z_iload_n X dX2_best_0 1 rfl ?_
  refine z_iconst (v := (1 : Int32)) X dX2_best_1 (by decide) ?_
  refine z_sipush (v := (200 : Int32)) X dX2_best_2 (by decide) ?_
  refine z_callSiN X (c_S_isWithin l D kI kC kQ a1 (1 : Int32) (200 : Int32)) (gS wd1_160 wd1_161 wd1_1 wd1_162) k_S_isWithin rfl rfl ⟨Nat.le_of_ble_eq_true rfl, Nat.le_of_ble_eq_true rfl⟩ ⟨Nat.zero_le _, Nat.zero_le _⟩ rfl rfl (Nat.le_of_ble_eq_true rfl) dX2_best_5 rfl (fun _ => rfl) (fun r_5 er_5 => ?_)
  refine z_if_ne (tgt := 14) X dX2_best_8 (by decide) (fun c_8 => ?_) (fun c_8 => ?_)
  · refine z_bipush (v := (-5 : Int32)) X dX2_best_14 (by decide) ?_
    refine z_istore_n (lv' := [(2, .int (-5 : Int32)), (0, .ref (o 0)), (1, .int a1)]) X dX2_best_16 (Nat.le_of_ble_eq_true rfl) rfl ?_
    refine z_lconst (v := (0 : Int64)) X dX2_best_17 (by decide) ?_
    refine z_lstore_n (lv' := [(3, .long (0 : Int64)), (2, .int (-5 : Int32)), (0, .ref (o 0)), (1, .int a1)]) X dX2_best_18 (Nat.le_of_ble_eq_true rfl) rfl ?_
    refine z_sipush (v := (500 : Int32)) X dX2_best_19 (by decide) ?_
    refine z_istore (lv' := [(5, .int (500 : Int32)), (3, .long (0 : Int64)), (2, .int (-5 : Int32)), (0, .ref (o 0)), (1, .int a1)]) X dX2_best_22 (Nat.le_of_ble_eq_true rfl) rfl ?_
    refine z_lv (lv' := [(0, .ref (o 0)), (1, .int a1), (2, .int (-5 : Int32)), (3, .long (0 : Int64)), (5, .int (500 : Int32))]) [3, 4, 2, 1, 0] rfl ?_
    have Lp_24 : ∀ (n : Nat) (x2_24 : Int32) (x3_24 : Int64) (x5_24 : Int32) (S_24 : SLS), (bs5 n x5_24) → (OKS S_24) → (∀ (q_24 : Int32 × SLS), q_24 = L_S_best_24 a1 n x2_24 x3_24 x5_24 S_24 → Z p l e { frames := 6, cells := 0, slots := 0, locals := 129 } s m args below meth c D A 8 0 0 Q (wS kI kC kQ o r ad q_24.2) [(2, .int q_24.1)] 98 []) → Z p l e { frames := 6, cells := 0, slots := 0, locals := 129 } s m args below meth c D A 8 0 0 Q (wS kI kC kQ o r ad S_24) [(0, .ref (o 0)), (1, .int a1), (2, .int x2_24), (3, .long x3_24), (5, .int x5_24)] 24 [] := by
      intro n
      induction n with
      | zero =>
        intro x2_24 x3_24 x5_24 S_24 hi hJ kk_24
        exfalso
        obtain ⟨j, _, h1, h2⟩ := hi
        omega
      | succ n ih_24 =>
        intro x2_24 x3_24 x5_24 S_24 hi hJ kk_24
        refine z_iload X dX2_best_24 4 rfl ?_
        refine z_sipush (v := (1200 : Int32)) X dX2_best_26 (by decide) ?_
        refine z_icmp_gt (tgt := 98) X dX2_best_29 (by decide) (fun c_29 => ?_) (fun c_29 => ?_)
        · refine z_lv (lv' := [(2, .int x2_24)]) [2] rfl ?_
          exact kk_24 (x2_24, S_24) (by simp only [L_S_best_24, if_pos c_29]) 
        · refine z_aload_n X dX2_best_32 0 rfl ?_
          refine z_iload X dX2_best_33 4 rfl ?_
          refine z_iload_n X dX2_best_35 1 rfl ?_
          refine z_callVv0 X (c_S_tryCycles l D kI kC kQ o r ad S_24 x5_24 a1 hJ (bs5_v hi c_29) (bn_w (wi_bn 1 200 (by omega) er_5 c_8) (by omega) (by omega))) (gV wd2_103 wd2_105 wd0_9 wd1_1 wd2_106) k_S_tryCycles rfl rfl ⟨Nat.le_of_ble_eq_true rfl, Nat.le_of_ble_eq_true rfl⟩ ⟨Nat.zero_le _, Nat.zero_le _⟩ 2 0 wS_0 rfl rfl rfl rfl (Nat.le_of_ble_eq_true rfl) dX2_best_36 (fun r_36 er_36 => ?_)
          refine z_aload_n X dX2_best_39 0 rfl ?_
          refine z_get X inW2 rfl 0 wS_0 2 (by decide) wd1_134 rfl rfl dX2_best_40 ?_
          refine z_get X inW0 rfl 15 wS_15 16 (by decide) wd1_63 rfl rfl dX2_best_43 ?_
          refine z_aload_n X dX2_best_46 0 rfl ?_
          refine z_get X inW2 rfl 0 wS_0 0 (by decide) wd1_132 rfl rfl dX2_best_47 ?_
          refine z_get X inW0 rfl 5 wS_5 16 (by decide) wd1_63 rfl rfl dX2_best_50 ?_
          refine z_lsub X dX2_best_53 ?_
          refine z_topl (fun v_54 ev_54 => ?_)
          refine z_lstore (lv' := [(6, .long v_54), (0, .ref (o 0)), (1, .int a1), (2, .int x2_24), (3, .long x3_24), (5, .int x5_24)]) X dX2_best_54 (Nat.le_of_ble_eq_true rfl) rfl ?_
          refine z_aload_n X dX2_best_56 1 rfl ?_
          refine z_get X inW2 rfl 0 wS_0 2 (by decide) wd1_134 rfl rfl dX2_best_57 ?_
          refine z_get X inW0 rfl 15 wS_15 15 (by decide) wd1_61 rfl rfl dX2_best_60 ?_
          refine z_aload_n X dX2_best_63 1 rfl ?_
          refine z_get X inW2 rfl 0 wS_0 0 (by decide) wd1_132 rfl rfl dX2_best_64 ?_
          refine z_get X inW0 rfl 5 wS_5 15 (by decide) wd1_61 rfl rfl dX2_best_67 ?_
          have J_j_92 : ∀ (j_92 : Int32 × Int64), j_92 = (if ((r_36.1 2).1 4 15) = ((r_36.1 0).1 4 15) then (if x2_24 = (-5 : Int32) then ((x5_24, v_54)) else (if (0 : Int32) ≤ (lg_cmp v_54 x3_24) then ((x2_24, x3_24)) else ((x5_24, v_54)))) else ((x2_24, x3_24))) → Z p l e { frames := 6, cells := 0, slots := 0, locals := 129 } s m args below meth c D A 8 0 0 Q (wS kI kC kQ o r ad r_36) [(0, .ref (o 0)), (1, .int a1), (2, .int j_92.1), (3, .long j_92.2), (5, .int x5_24)] 92 [] := by
            intro j_92 ej_92
            obtain ⟨v_92, ev_92⟩ : ∃ y : Int32, y = x5_24 + (50 : Int32) := ⟨_, rfl⟩
            refine z_iinc (v := v_92) (lv' := [(5, .int v_92), (0, .ref (o 0)), (1, .int a1), (2, .int j_92.1), (3, .long j_92.2)]) X dX2_best_92 4 rfl (by rw [ev_92]; rfl) (Nat.le_of_ble_eq_true rfl) rfl ?_
            refine z_goto (tgt := 24) X dX2_best_95 (by decide) ?_
            refine z_lv (lv' := [(0, .ref (o 0)), (1, .int a1), (2, .int j_92.1), (3, .long j_92.2), (5, .int v_92)]) [1, 2, 3, 4, 0] rfl ?_
            exact ih_24 j_92.1 j_92.2 v_92 r_36 (bs5_b hi c_29 ev_92) (by rw [er_36]; exact OKS_try hJ (bs5_v hi c_29) (bn_w (wi_bn 1 200 (by omega) er_5 c_8) (by omega) (by omega))) (fun q_24 eq_24 => kk_24 q_24 (eq_24.trans (by subst er_36 ev_54 ej_92 ev_92; simp only [L_S_best_24, if_neg c_29])))
          refine z_icmp_ne (tgt := 92) X dX2_best_70 (by decide) (fun c_70 => ?_) (fun c_70 => ?_)
          · refine z_lv (lv' := [(0, .ref (o 0)), (1, .int a1), (2, .int x2_24), (3, .long x3_24), (5, .int x5_24)]) [1, 2, 3, 4, 5] rfl ?_
            exact J_j_92 (x2_24, x3_24) (by simp only [if_neg c_70])
          · refine z_iload_n X dX2_best_73 3 rfl ?_
            refine z_bipush (v := (-5 : Int32)) X dX2_best_74 (by decide) ?_
            refine z_icmp_eq (tgt := 86) X dX2_best_76 (by decide) (fun c_76 => ?_) (fun c_76 => ?_)
            · refine z_iload X dX2_best_86 5 rfl ?_
              refine z_istore_n (lv' := [(2, .int x5_24), (6, .long v_54), (0, .ref (o 0)), (1, .int a1), (3, .long x3_24), (5, .int x5_24)]) X dX2_best_88 (Nat.le_of_ble_eq_true rfl) rfl ?_
              refine z_lload X dX2_best_89 1 rfl ?_
              refine z_lstore_n (lv' := [(3, .long v_54), (2, .int x5_24), (6, .long v_54), (0, .ref (o 0)), (1, .int a1), (5, .int x5_24)]) X dX2_best_91 (Nat.le_of_ble_eq_true rfl) rfl ?_
              refine z_lv (lv' := [(0, .ref (o 0)), (1, .int a1), (2, .int x5_24), (3, .long v_54), (5, .int x5_24)]) [3, 4, 1, 0, 5] rfl ?_
              exact J_j_92 (x5_24, v_54) (by simp only [if_pos c_70, if_pos c_76])
            · refine z_lload X dX2_best_79 0 rfl ?_
              refine z_lload_n X dX2_best_81 4 rfl ?_
              refine z_lcmp X dX2_best_82 ?_
              refine z_if_ge (tgt := 92) X dX2_best_83 (by decide) (fun c_83 => ?_) (fun c_83 => ?_)
              · refine z_lv (lv' := [(0, .ref (o 0)), (1, .int a1), (2, .int x2_24), (3, .long x3_24), (5, .int x5_24)]) [1, 2, 3, 4, 5] rfl ?_
                exact J_j_92 (x2_24, x3_24) (by simp only [if_pos c_70, if_neg c_76, if_pos c_83])
              · refine z_iload X dX2_best_86 5 rfl ?_
                refine z_istore_n (lv' := [(2, .int x5_24), (6, .long v_54), (0, .ref (o 0)), (1, .int a1), (3, .long x3_24), (5, .int x5_24)]) X dX2_best_88 (Nat.le_of_ble_eq_true rfl) rfl ?_
                refine z_lload X dX2_best_89 1 rfl ?_
                refine z_lstore_n (lv' := [(3, .long v_54), (2, .int x5_24), (6, .long v_54), (0, .ref (o 0)), (1, .int a1), (5, .int x5_24)]) X dX2_best_91 (Nat.le_of_ble_eq_true rfl) rfl ?_
                refine z_lv (lv' := [(0, .ref (o 0)), (1, .int a1), (2, .int x5_24), (3, .long v_54), (5, .int x5_24)]) [3, 4, 1, 0, 5] rfl ?_
                exact J_j_92 (x5_24, v_54) (by simp only [if_pos c_70, if_neg c_76, if_neg c_83])
    refine Lp_24 16 (-5 : Int32) (0 : Int64) (500 : Int32) S ⟨0, rfl, by omega, by omega⟩ hO (fun q_24 eq_24 => ?_)
    refine z_iload_n X dX2_best_98 0 rfl ?_
    exact z_iret X hQ rfl (q_24.1, q_24.2) rfl rfl (by subst er_5 eq_24; simp only [F_S_best, if_neg c_8]) dX2_best_99
  · refine z_bipush (v := (-2 : Int32)) X dX2_best_11 (by decide) ?_
    exact z_iret X hQ rfl ((-2 : Int32), S) rfl rfl (by subst er_5; simp only [F_S_best, if_pos c_8]) dX2_best_13
set_option maxRecDepth 100000 in
set_option maxHeartbeats 4000000 in
theorem c_S_count (l : Launch) (D : va_G) (kI kC kQ : ClassId) (o r : Nat → Nat) (ad : ADT) (S : SLS) (a1 : Int32) (hO : OKS S) : CtI (U := Int32) l yX2_count cX2_count 2 (some .int) { frames := 3, cells := 0, slots := 0, locals := 67 } D (tysG kI kC kQ) (wS kI kC kQ o r ad S) [.ref (o 0), .int a1] (fun u => u) (fun _ => (wS kI kC kQ o r ad S)) (fun u => u = F_S_count S a1) := by
  refine met_Zi (own := "ShadowLatches") (by decide +kernel) rfl (Nat.le_of_ble_eq_true rfl) ?_
  intro p e s m args below meth c A Q X hQ
  show Z p l e { frames := 3, cells := 0, slots := 0, locals := 67 } s m args below meth c D A 2 0 0 Q (wS kI kC kQ o r ad S) [(0, .ref (o 0)), (1, .int a1)] 0 []
  refine z_iload_n X dX2_count_0 1 rfl ?_
  refine z_bipush (v := (17 : Int32)) X dX2_count_1 (by decide) ?_
  refine z_bipush (v := (23 : Int32)) X dX2_count_3 (by decide) ?_
  refine z_callSiN X (c_S_isWithin l D kI kC kQ a1 (17 : Int32) (23 : Int32)) (gS wd1_160 wd1_161 wd1_1 wd1_162) k_S_isWithin rfl rfl ⟨Nat.le_of_ble_eq_true rfl, Nat.le_of_ble_eq_true rfl⟩ ⟨Nat.zero_le _, Nat.zero_le _⟩ rfl rfl (Nat.le_of_ble_eq_true rfl) dX2_count_5 rfl (fun _ => rfl) (fun r_5 er_5 => ?_)
  refine z_if_eq (tgt := 24) X dX2_count_8 (by decide) (fun c_8 => ?_) (fun c_8 => ?_)
  · refine z_iload_n X dX2_count_24 1 rfl ?_
    by_cases c_25_0 : a1 = (0 : Int32)
    · refine z_tableIn (tgt := 144) X dX2_count_25 (by rw [c_25_0]; decide) (by rw [c_25_0]; decide) (by rw [c_25_0]; rfl) (by decide) ?_
      refine z_aload_n X dX2_count_144 0 rfl ?_
      refine z_get X inW2 rfl 0 wS_0 0 (by decide) wd1_132 rfl rfl dX2_count_145 ?_
      refine z_get X inW0 rfl 5 wS_5 7 (by decide) wd1_45 rfl rfl dX2_count_148 ?_
      exact z_iret X hQ rfl ((S.1 0).1 4 7) rfl rfl (by subst er_5; simp only [F_S_count, if_pos c_8, if_pos c_25_0]) dX2_count_151
    by_cases c_25_1 : a1 = (1 : Int32)
    · refine z_tableIn (tgt := 152) X dX2_count_25 (by rw [c_25_1]; decide) (by rw [c_25_1]; decide) (by rw [c_25_1]; rfl) (by decide) ?_
      refine z_aload_n X dX2_count_152 0 rfl ?_
      refine z_get X inW2 rfl 0 wS_0 0 (by decide) wd1_132 rfl rfl dX2_count_153 ?_
      refine z_get X inW0 rfl 5 wS_5 8 (by decide) wd1_47 rfl rfl dX2_count_156 ?_
      exact z_iret X hQ rfl ((S.1 0).1 4 8) rfl rfl (by subst er_5; simp only [F_S_count, if_pos c_8, if_neg c_25_0, if_pos c_25_1]) dX2_count_159
    by_cases c_25_2 : a1 = (2 : Int32)
    · refine z_tableIn (tgt := 160) X dX2_count_25 (by rw [c_25_2]; decide) (by rw [c_25_2]; decide) (by rw [c_25_2]; rfl) (by decide) ?_
      refine z_aload_n X dX2_count_160 0 rfl ?_
      refine z_get X inW2 rfl 0 wS_0 0 (by decide) wd1_132 rfl rfl dX2_count_161 ?_
      refine z_get X inW0 rfl 5 wS_5 9 (by decide) wd1_49 rfl rfl dX2_count_164 ?_
      have J_j_175 : ∀ (j_175 : Int32), j_175 = (if ((S.1 0).1 4 9) = (0 : Int32) then ((0 : Int32)) else ((1 : Int32))) → Z p l e { frames := 3, cells := 0, slots := 0, locals := 67 } s m args below meth c D A 2 0 0 Q (wS kI kC kQ o r ad S) [] 175 [.int j_175] := by
        intro j_175 ej_175
        exact z_iret X hQ rfl j_175 rfl rfl (by subst er_5 ej_175; simp only [F_S_count, if_pos c_8, if_neg c_25_0, if_neg c_25_1, if_pos c_25_2]) dX2_count_175
      refine z_if_eq (tgt := 174) X dX2_count_167 (by decide) (fun c_167 => ?_) (fun c_167 => ?_)
      · refine z_iconst (v := (0 : Int32)) X dX2_count_174 (by decide) ?_
        refine z_lv (lv' := []) [] rfl ?_
        exact J_j_175 (0 : Int32) (by simp only [if_pos c_167])
      · refine z_iconst (v := (1 : Int32)) X dX2_count_170 (by decide) ?_
        refine z_goto (tgt := 175) X dX2_count_171 (by decide) ?_
        refine z_lv (lv' := []) [] rfl ?_
        exact J_j_175 (1 : Int32) (by simp only [if_neg c_167])
    by_cases c_25_3 : a1 = (3 : Int32)
    · refine z_tableIn (tgt := 176) X dX2_count_25 (by rw [c_25_3]; decide) (by rw [c_25_3]; decide) (by rw [c_25_3]; rfl) (by decide) ?_
      refine z_aload_n X dX2_count_176 0 rfl ?_
      refine z_get X inW2 rfl 0 wS_0 0 (by decide) wd1_132 rfl rfl dX2_count_177 ?_
      refine z_get X inW0 rfl 5 wS_5 12 (by decide) wd1_55 rfl rfl dX2_count_180 ?_
      exact z_iret X hQ rfl ((S.1 0).1 4 12) rfl rfl (by subst er_5; simp only [F_S_count, if_pos c_8, if_neg c_25_0, if_neg c_25_1, if_neg c_25_2, if_pos c_25_3]) dX2_count_183
    by_cases c_25_4 : a1 = (4 : Int32)
    · refine z_tableIn (tgt := 184) X dX2_count_25 (by rw [c_25_4]; decide) (by rw [c_25_4]; decide) (by rw [c_25_4]; rfl) (by decide) ?_
      refine z_aload_n X dX2_count_184 0 rfl ?_
      refine z_get X inW2 rfl 0 wS_0 0 (by decide) wd1_132 rfl rfl dX2_count_185 ?_
      refine z_get X inW0 rfl 5 wS_5 13 (by decide) wd1_57 rfl rfl dX2_count_188 ?_
      exact z_iret X hQ rfl ((S.1 0).1 4 13) rfl rfl (by subst er_5; simp only [F_S_count, if_pos c_8, if_neg c_25_0, if_neg c_25_1, if_neg c_25_2, if_neg c_25_3, if_pos c_25_4]) dX2_count_191
    by_cases c_25_5 : a1 = (5 : Int32)
    · refine z_tableIn (tgt := 192) X dX2_count_25 (by rw [c_25_5]; decide) (by rw [c_25_5]; decide) (by rw [c_25_5]; rfl) (by decide) ?_
      refine z_aload_n X dX2_count_192 0 rfl ?_
      refine z_get X inW2 rfl 0 wS_0 0 (by decide) wd1_132 rfl rfl dX2_count_193 ?_
      refine z_get X inW0 rfl 5 wS_5 14 (by decide) wd1_59 rfl rfl dX2_count_196 ?_
      exact z_iret X hQ rfl ((S.1 0).1 4 14) rfl rfl (by subst er_5; simp only [F_S_count, if_pos c_8, if_neg c_25_0, if_neg c_25_1, if_neg c_25_2, if_neg c_25_3, if_neg c_25_4, if_pos c_25_5]) dX2_count_199
    by_cases c_25_6 : a1 = (6 : Int32)
    · refine z_tableIn (tgt := 200) X dX2_count_25 (by rw [c_25_6]; decide) (by rw [c_25_6]; decide) (by rw [c_25_6]; rfl) (by decide) ?_
      refine z_aload_n X dX2_count_200 0 rfl ?_
      refine z_get X inW2 rfl 0 wS_0 0 (by decide) wd1_132 rfl rfl dX2_count_201 ?_
      refine z_get X inW0 rfl 5 wS_5 15 (by decide) wd1_61 rfl rfl dX2_count_204 ?_
      exact z_iret X hQ rfl ((S.1 0).1 4 15) rfl rfl (by subst er_5; simp only [F_S_count, if_pos c_8, if_neg c_25_0, if_neg c_25_1, if_neg c_25_2, if_neg c_25_3, if_neg c_25_4, if_neg c_25_5, if_pos c_25_6]) dX2_count_207
    by_cases c_25_7 : a1 = (7 : Int32)
    · refine z_tableIn (tgt := 208) X dX2_count_25 (by rw [c_25_7]; decide) (by rw [c_25_7]; decide) (by rw [c_25_7]; rfl) (by decide) ?_
      refine z_aload_n X dX2_count_208 0 rfl ?_
      refine z_get X inW2 rfl 0 wS_0 0 (by decide) wd1_132 rfl rfl dX2_count_209 ?_
      refine z_get X inW0 rfl 5 wS_5 16 (by decide) wd1_63 rfl rfl dX2_count_212 ?_
      refine z_ldc2 X dX2_count_215 wd1_189 ?_
      refine z_ldiv X dX2_count_218 (by decide) ?_
      refine z_l2i X dX2_count_219 ?_
      exact z_iret X hQ rfl ((((S.1 0).2) / (1000 : Int64)).toInt32) rfl rfl (by subst er_5; simp only [F_S_count, if_pos c_8, if_neg c_25_0, if_neg c_25_1, if_neg c_25_2, if_neg c_25_3, if_neg c_25_4, if_neg c_25_5, if_neg c_25_6, if_pos c_25_7]) dX2_count_220
    by_cases c_25_8 : a1 = (8 : Int32)
    · refine z_tableIn (tgt := 221) X dX2_count_25 (by rw [c_25_8]; decide) (by rw [c_25_8]; decide) (by rw [c_25_8]; rfl) (by decide) ?_
      refine z_aload_n X dX2_count_221 0 rfl ?_
      refine z_get X inW2 rfl 0 wS_0 0 (by decide) wd1_132 rfl rfl dX2_count_222 ?_
      refine z_get X inW0 rfl 5 wS_5 10 (by decide) wd1_51 rfl rfl dX2_count_225 ?_
      exact z_iret X hQ rfl ((S.1 0).1 4 10) rfl rfl (by subst er_5; simp only [F_S_count, if_pos c_8, if_neg c_25_0, if_neg c_25_1, if_neg c_25_2, if_neg c_25_3, if_neg c_25_4, if_neg c_25_5, if_neg c_25_6, if_neg c_25_7, if_pos c_25_8]) dX2_count_228
    by_cases c_25_9 : a1 = (9 : Int32)
    · refine z_tableIn (tgt := 229) X dX2_count_25 (by rw [c_25_9]; decide) (by rw [c_25_9]; decide) (by rw [c_25_9]; rfl) (by decide) ?_
      refine z_aload_n X dX2_count_229 0 rfl ?_
      refine z_get X inW2 rfl 0 wS_0 0 (by decide) wd1_132 rfl rfl dX2_count_230 ?_
      refine z_get X inW0 rfl 5 wS_5 11 (by decide) wd1_53 rfl rfl dX2_count_233 ?_
      exact z_iret X hQ rfl ((S.1 0).1 4 11) rfl rfl (by subst er_5; simp only [F_S_count, if_pos c_8, if_neg c_25_0, if_neg c_25_1, if_neg c_25_2, if_neg c_25_3, if_neg c_25_4, if_neg c_25_5, if_neg c_25_6, if_neg c_25_7, if_neg c_25_8, if_pos c_25_9]) dX2_count_236
    by_cases c_25_10 : a1 = (10 : Int32)
    · refine z_tableIn (tgt := 237) X dX2_count_25 (by rw [c_25_10]; decide) (by rw [c_25_10]; decide) (by rw [c_25_10]; rfl) (by decide) ?_
      refine z_aload_n X dX2_count_237 0 rfl ?_
      refine z_get X inW2 rfl 0 wS_0 0 (by decide) wd1_132 rfl rfl dX2_count_238 ?_
      refine z_get X inW0 rfl 5 wS_5 4 (by decide) wd1_39 rfl rfl dX2_count_241 ?_
      exact z_iret X hQ rfl ((S.1 0).1 4 4) rfl rfl (by subst er_5; simp only [F_S_count, if_pos c_8, if_neg c_25_0, if_neg c_25_1, if_neg c_25_2, if_neg c_25_3, if_neg c_25_4, if_neg c_25_5, if_neg c_25_6, if_neg c_25_7, if_neg c_25_8, if_neg c_25_9, if_pos c_25_10]) dX2_count_244
    by_cases c_25_11 : a1 = (11 : Int32)
    · refine z_tableIn (tgt := 245) X dX2_count_25 (by rw [c_25_11]; decide) (by rw [c_25_11]; decide) (by rw [c_25_11]; rfl) (by decide) ?_
      refine z_aload_n X dX2_count_245 0 rfl ?_
      refine z_get X inW2 rfl 0 wS_0 0 (by decide) wd1_132 rfl rfl dX2_count_246 ?_
      refine z_get X inW0 rfl 5 wS_5 5 (by decide) wd1_41 rfl rfl dX2_count_249 ?_
      exact z_iret X hQ rfl ((S.1 0).1 4 5) rfl rfl (by subst er_5; simp only [F_S_count, if_pos c_8, if_neg c_25_0, if_neg c_25_1, if_neg c_25_2, if_neg c_25_3, if_neg c_25_4, if_neg c_25_5, if_neg c_25_6, if_neg c_25_7, if_neg c_25_8, if_neg c_25_9, if_neg c_25_10, if_pos c_25_11]) dX2_count_252
    by_cases c_25_12 : a1 = (12 : Int32)
    · refine z_tableIn (tgt := 253) X dX2_count_25 (by rw [c_25_12]; decide) (by rw [c_25_12]; decide) (by rw [c_25_12]; rfl) (by decide) ?_
      refine z_aload_n X dX2_count_253 0 rfl ?_
      refine z_get X inW2 rfl 0 wS_0 0 (by decide) wd1_132 rfl rfl dX2_count_254 ?_
      refine z_get X inW0 rfl 5 wS_5 2 (by decide) wd1_35 rfl rfl dX2_count_257 ?_
      exact z_iret X hQ rfl ((S.1 0).1 4 2) rfl rfl (by subst er_5; simp only [F_S_count, if_pos c_8, if_neg c_25_0, if_neg c_25_1, if_neg c_25_2, if_neg c_25_3, if_neg c_25_4, if_neg c_25_5, if_neg c_25_6, if_neg c_25_7, if_neg c_25_8, if_neg c_25_9, if_neg c_25_10, if_neg c_25_11, if_pos c_25_12]) dX2_count_260
    by_cases c_25_13 : a1 = (13 : Int32)
    · refine z_tableIn (tgt := 261) X dX2_count_25 (by rw [c_25_13]; decide) (by rw [c_25_13]; decide) (by rw [c_25_13]; rfl) (by decide) ?_
      refine z_aload_n X dX2_count_261 0 rfl ?_
      refine z_get X inW2 rfl 0 wS_0 0 (by decide) wd1_132 rfl rfl dX2_count_262 ?_
      refine z_iconst (v := (1 : Int32)) X dX2_count_265 (by decide) ?_
      refine zS_ci0 X (c_C_pathsJudged l D kI kC kQ (ad 0) (S.1 0) (1 : Int32) hO.o.p hO.o.v) (gV wd1_190 wd1_191 wd1_192 wd1_2 wd1_193) k_C_pathsJudged rfl rfl ⟨Nat.le_of_ble_eq_true rfl, Nat.le_of_ble_eq_true rfl⟩ ⟨Nat.zero_le _, Nat.zero_le _⟩ rfl rfl (Nat.le_of_ble_eq_true rfl) dX2_count_266 (fun r_266 er_266 => ?_)
      exact z_iret X hQ rfl r_266 rfl rfl (by subst er_5 er_266; simp only [F_S_count, if_pos c_8, if_neg c_25_0, if_neg c_25_1, if_neg c_25_2, if_neg c_25_3, if_neg c_25_4, if_neg c_25_5, if_neg c_25_6, if_neg c_25_7, if_neg c_25_8, if_neg c_25_9, if_neg c_25_10, if_neg c_25_11, if_neg c_25_12, if_pos c_25_13]) dX2_count_269
    by_cases c_25_14 : a1 = (14 : Int32)
    · refine z_tableIn (tgt := 270) X dX2_count_25 (by rw [c_25_14]; decide) (by rw [c_25_14]; decide) (by rw [c_25_14]; rfl) (by decide) ?_
      refine z_aload_n X dX2_count_270 0 rfl ?_
      refine z_get X inW2 rfl 0 wS_0 0 (by decide) wd1_132 rfl rfl dX2_count_271 ?_
      refine z_iconst (v := (2 : Int32)) X dX2_count_274 (by decide) ?_
      refine zS_ci0 X (c_C_pathsJudged l D kI kC kQ (ad 0) (S.1 0) (2 : Int32) hO.o.p hO.o.v) (gV wd1_190 wd1_191 wd1_192 wd1_2 wd1_193) k_C_pathsJudged rfl rfl ⟨Nat.le_of_ble_eq_true rfl, Nat.le_of_ble_eq_true rfl⟩ ⟨Nat.zero_le _, Nat.zero_le _⟩ rfl rfl (Nat.le_of_ble_eq_true rfl) dX2_count_275 (fun r_275 er_275 => ?_)
      exact z_iret X hQ rfl r_275 rfl rfl (by subst er_5 er_275; simp only [F_S_count, if_pos c_8, if_neg c_25_0, if_neg c_25_1, if_neg c_25_2, if_neg c_25_3, if_neg c_25_4, if_neg c_25_5, if_neg c_25_6, if_neg c_25_7, if_neg c_25_8, if_neg c_25_9, if_neg c_25_10, if_neg c_25_11, if_neg c_25_12, if_neg c_25_13, if_pos c_25_14]) dX2_count_278
    by_cases c_25_15 : a1 = (15 : Int32)
    · refine z_tableIn (tgt := 279) X dX2_count_25 (by rw [c_25_15]; decide) (by rw [c_25_15]; decide) (by rw [c_25_15]; rfl) (by decide) ?_
      refine z_aload_n X dX2_count_279 0 rfl ?_
      refine z_get X inW2 rfl 0 wS_0 0 (by decide) wd1_132 rfl rfl dX2_count_280 ?_
      refine z_get X inW0 rfl 5 wS_5 17 (by decide) wd1_65 rfl rfl dX2_count_283 ?_
      exact z_iret X hQ rfl ((S.1 0).1 4 17) rfl rfl (by subst er_5; simp only [F_S_count, if_pos c_8, if_neg c_25_0, if_neg c_25_1, if_neg c_25_2, if_neg c_25_3, if_neg c_25_4, if_neg c_25_5, if_neg c_25_6, if_neg c_25_7, if_neg c_25_8, if_neg c_25_9, if_neg c_25_10, if_neg c_25_11, if_neg c_25_12, if_neg c_25_13, if_neg c_25_14, if_pos c_25_15]) dX2_count_286
    by_cases c_25_16 : a1 = (16 : Int32)
    · refine z_tableIn (tgt := 287) X dX2_count_25 (by rw [c_25_16]; decide) (by rw [c_25_16]; decide) (by rw [c_25_16]; rfl) (by decide) ?_
      refine z_aload_n X dX2_count_287 0 rfl ?_
      refine z_get X inW2 rfl 0 wS_0 0 (by decide) wd1_132 rfl rfl dX2_count_288 ?_
      refine z_get X inW0 rfl 5 wS_5 18 (by decide) wd1_67 rfl rfl dX2_count_291 ?_
      exact z_iret X hQ rfl ((S.1 0).1 4 18) rfl rfl (by subst er_5; simp only [F_S_count, if_pos c_8, if_neg c_25_0, if_neg c_25_1, if_neg c_25_2, if_neg c_25_3, if_neg c_25_4, if_neg c_25_5, if_neg c_25_6, if_neg c_25_7, if_neg c_25_8, if_neg c_25_9, if_neg c_25_10, if_neg c_25_11, if_neg c_25_12, if_neg c_25_13, if_neg c_25_14, if_neg c_25_15, if_pos c_25_16]) dX2_count_294
    by_cases c_25_17 : a1 = (17 : Int32)
    · refine z_tableIn (tgt := 308) X dX2_count_25 (by rw [c_25_17]; decide) (by rw [c_25_17]; decide) (by rw [c_25_17]; rfl) (by decide) ?_
      refine z_bipush (v := (-2 : Int32)) X dX2_count_308 (by decide) ?_
      exact z_iret X hQ rfl (-2 : Int32) rfl rfl (by subst er_5; simp only [F_S_count, if_pos c_8, if_neg (show ¬ a1 = (0 : Int32) by rw [c_25_17]; decide), if_neg (show ¬ a1 = (1 : Int32) by rw [c_25_17]; decide), if_neg (show ¬ a1 = (2 : Int32) by rw [c_25_17]; decide), if_neg (show ¬ a1 = (3 : Int32) by rw [c_25_17]; decide), if_neg (show ¬ a1 = (4 : Int32) by rw [c_25_17]; decide), if_neg (show ¬ a1 = (5 : Int32) by rw [c_25_17]; decide), if_neg (show ¬ a1 = (6 : Int32) by rw [c_25_17]; decide), if_neg (show ¬ a1 = (7 : Int32) by rw [c_25_17]; decide), if_neg (show ¬ a1 = (8 : Int32) by rw [c_25_17]; decide), if_neg (show ¬ a1 = (9 : Int32) by rw [c_25_17]; decide), if_neg (show ¬ a1 = (10 : Int32) by rw [c_25_17]; decide), if_neg (show ¬ a1 = (11 : Int32) by rw [c_25_17]; decide), if_neg (show ¬ a1 = (12 : Int32) by rw [c_25_17]; decide), if_neg (show ¬ a1 = (13 : Int32) by rw [c_25_17]; decide), if_neg (show ¬ a1 = (14 : Int32) by rw [c_25_17]; decide), if_neg (show ¬ a1 = (15 : Int32) by rw [c_25_17]; decide), if_neg (show ¬ a1 = (16 : Int32) by rw [c_25_17]; decide), if_neg (show ¬ a1 = (24 : Int32) by rw [c_25_17]; decide), if_neg (show ¬ a1 = (25 : Int32) by rw [c_25_17]; decide)]) dX2_count_310
    by_cases c_25_18 : a1 = (18 : Int32)
    · refine z_tableIn (tgt := 308) X dX2_count_25 (by rw [c_25_18]; decide) (by rw [c_25_18]; decide) (by rw [c_25_18]; rfl) (by decide) ?_
      refine z_bipush (v := (-2 : Int32)) X dX2_count_308 (by decide) ?_
      exact z_iret X hQ rfl (-2 : Int32) rfl rfl (by subst er_5; simp only [F_S_count, if_pos c_8, if_neg (show ¬ a1 = (0 : Int32) by rw [c_25_18]; decide), if_neg (show ¬ a1 = (1 : Int32) by rw [c_25_18]; decide), if_neg (show ¬ a1 = (2 : Int32) by rw [c_25_18]; decide), if_neg (show ¬ a1 = (3 : Int32) by rw [c_25_18]; decide), if_neg (show ¬ a1 = (4 : Int32) by rw [c_25_18]; decide), if_neg (show ¬ a1 = (5 : Int32) by rw [c_25_18]; decide), if_neg (show ¬ a1 = (6 : Int32) by rw [c_25_18]; decide), if_neg (show ¬ a1 = (7 : Int32) by rw [c_25_18]; decide), if_neg (show ¬ a1 = (8 : Int32) by rw [c_25_18]; decide), if_neg (show ¬ a1 = (9 : Int32) by rw [c_25_18]; decide), if_neg (show ¬ a1 = (10 : Int32) by rw [c_25_18]; decide), if_neg (show ¬ a1 = (11 : Int32) by rw [c_25_18]; decide), if_neg (show ¬ a1 = (12 : Int32) by rw [c_25_18]; decide), if_neg (show ¬ a1 = (13 : Int32) by rw [c_25_18]; decide), if_neg (show ¬ a1 = (14 : Int32) by rw [c_25_18]; decide), if_neg (show ¬ a1 = (15 : Int32) by rw [c_25_18]; decide), if_neg (show ¬ a1 = (16 : Int32) by rw [c_25_18]; decide), if_neg (show ¬ a1 = (24 : Int32) by rw [c_25_18]; decide), if_neg (show ¬ a1 = (25 : Int32) by rw [c_25_18]; decide)]) dX2_count_310
    by_cases c_25_19 : a1 = (19 : Int32)
    · refine z_tableIn (tgt := 308) X dX2_count_25 (by rw [c_25_19]; decide) (by rw [c_25_19]; decide) (by rw [c_25_19]; rfl) (by decide) ?_
      refine z_bipush (v := (-2 : Int32)) X dX2_count_308 (by decide) ?_
      exact z_iret X hQ rfl (-2 : Int32) rfl rfl (by subst er_5; simp only [F_S_count, if_pos c_8, if_neg (show ¬ a1 = (0 : Int32) by rw [c_25_19]; decide), if_neg (show ¬ a1 = (1 : Int32) by rw [c_25_19]; decide), if_neg (show ¬ a1 = (2 : Int32) by rw [c_25_19]; decide), if_neg (show ¬ a1 = (3 : Int32) by rw [c_25_19]; decide), if_neg (show ¬ a1 = (4 : Int32) by rw [c_25_19]; decide), if_neg (show ¬ a1 = (5 : Int32) by rw [c_25_19]; decide), if_neg (show ¬ a1 = (6 : Int32) by rw [c_25_19]; decide), if_neg (show ¬ a1 = (7 : Int32) by rw [c_25_19]; decide), if_neg (show ¬ a1 = (8 : Int32) by rw [c_25_19]; decide), if_neg (show ¬ a1 = (9 : Int32) by rw [c_25_19]; decide), if_neg (show ¬ a1 = (10 : Int32) by rw [c_25_19]; decide), if_neg (show ¬ a1 = (11 : Int32) by rw [c_25_19]; decide), if_neg (show ¬ a1 = (12 : Int32) by rw [c_25_19]; decide), if_neg (show ¬ a1 = (13 : Int32) by rw [c_25_19]; decide), if_neg (show ¬ a1 = (14 : Int32) by rw [c_25_19]; decide), if_neg (show ¬ a1 = (15 : Int32) by rw [c_25_19]; decide), if_neg (show ¬ a1 = (16 : Int32) by rw [c_25_19]; decide), if_neg (show ¬ a1 = (24 : Int32) by rw [c_25_19]; decide), if_neg (show ¬ a1 = (25 : Int32) by rw [c_25_19]; decide)]) dX2_count_310
    by_cases c_25_20 : a1 = (20 : Int32)
    · refine z_tableIn (tgt := 308) X dX2_count_25 (by rw [c_25_20]; decide) (by rw [c_25_20]; decide) (by rw [c_25_20]; rfl) (by decide) ?_
      refine z_bipush (v := (-2 : Int32)) X dX2_count_308 (by decide) ?_
      exact z_iret X hQ rfl (-2 : Int32) rfl rfl (by subst er_5; simp only [F_S_count, if_pos c_8, if_neg (show ¬ a1 = (0 : Int32) by rw [c_25_20]; decide), if_neg (show ¬ a1 = (1 : Int32) by rw [c_25_20]; decide), if_neg (show ¬ a1 = (2 : Int32) by rw [c_25_20]; decide), if_neg (show ¬ a1 = (3 : Int32) by rw [c_25_20]; decide), if_neg (show ¬ a1 = (4 : Int32) by rw [c_25_20]; decide), if_neg (show ¬ a1 = (5 : Int32) by rw [c_25_20]; decide), if_neg (show ¬ a1 = (6 : Int32) by rw [c_25_20]; decide), if_neg (show ¬ a1 = (7 : Int32) by rw [c_25_20]; decide), if_neg (show ¬ a1 = (8 : Int32) by rw [c_25_20]; decide), if_neg (show ¬ a1 = (9 : Int32) by rw [c_25_20]; decide), if_neg (show ¬ a1 = (10 : Int32) by rw [c_25_20]; decide), if_neg (show ¬ a1 = (11 : Int32) by rw [c_25_20]; decide), if_neg (show ¬ a1 = (12 : Int32) by rw [c_25_20]; decide), if_neg (show ¬ a1 = (13 : Int32) by rw [c_25_20]; decide), if_neg (show ¬ a1 = (14 : Int32) by rw [c_25_20]; decide), if_neg (show ¬ a1 = (15 : Int32) by rw [c_25_20]; decide), if_neg (show ¬ a1 = (16 : Int32) by rw [c_25_20]; decide), if_neg (show ¬ a1 = (24 : Int32) by rw [c_25_20]; decide), if_neg (show ¬ a1 = (25 : Int32) by rw [c_25_20]; decide)]) dX2_count_310
    by_cases c_25_21 : a1 = (21 : Int32)
    · refine z_tableIn (tgt := 308) X dX2_count_25 (by rw [c_25_21]; decide) (by rw [c_25_21]; decide) (by rw [c_25_21]; rfl) (by decide) ?_
      refine z_bipush (v := (-2 : Int32)) X dX2_count_308 (by decide) ?_
      exact z_iret X hQ rfl (-2 : Int32) rfl rfl (by subst er_5; simp only [F_S_count, if_pos c_8, if_neg (show ¬ a1 = (0 : Int32) by rw [c_25_21]; decide), if_neg (show ¬ a1 = (1 : Int32) by rw [c_25_21]; decide), if_neg (show ¬ a1 = (2 : Int32) by rw [c_25_21]; decide), if_neg (show ¬ a1 = (3 : Int32) by rw [c_25_21]; decide), if_neg (show ¬ a1 = (4 : Int32) by rw [c_25_21]; decide), if_neg (show ¬ a1 = (5 : Int32) by rw [c_25_21]; decide), if_neg (show ¬ a1 = (6 : Int32) by rw [c_25_21]; decide), if_neg (show ¬ a1 = (7 : Int32) by rw [c_25_21]; decide), if_neg (show ¬ a1 = (8 : Int32) by rw [c_25_21]; decide), if_neg (show ¬ a1 = (9 : Int32) by rw [c_25_21]; decide), if_neg (show ¬ a1 = (10 : Int32) by rw [c_25_21]; decide), if_neg (show ¬ a1 = (11 : Int32) by rw [c_25_21]; decide), if_neg (show ¬ a1 = (12 : Int32) by rw [c_25_21]; decide), if_neg (show ¬ a1 = (13 : Int32) by rw [c_25_21]; decide), if_neg (show ¬ a1 = (14 : Int32) by rw [c_25_21]; decide), if_neg (show ¬ a1 = (15 : Int32) by rw [c_25_21]; decide), if_neg (show ¬ a1 = (16 : Int32) by rw [c_25_21]; decide), if_neg (show ¬ a1 = (24 : Int32) by rw [c_25_21]; decide), if_neg (show ¬ a1 = (25 : Int32) by rw [c_25_21]; decide)]) dX2_count_310
    by_cases c_25_22 : a1 = (22 : Int32)
    · refine z_tableIn (tgt := 308) X dX2_count_25 (by rw [c_25_22]; decide) (by rw [c_25_22]; decide) (by rw [c_25_22]; rfl) (by decide) ?_
      refine z_bipush (v := (-2 : Int32)) X dX2_count_308 (by decide) ?_
      exact z_iret X hQ rfl (-2 : Int32) rfl rfl (by subst er_5; simp only [F_S_count, if_pos c_8, if_neg (show ¬ a1 = (0 : Int32) by rw [c_25_22]; decide), if_neg (show ¬ a1 = (1 : Int32) by rw [c_25_22]; decide), if_neg (show ¬ a1 = (2 : Int32) by rw [c_25_22]; decide), if_neg (show ¬ a1 = (3 : Int32) by rw [c_25_22]; decide), if_neg (show ¬ a1 = (4 : Int32) by rw [c_25_22]; decide), if_neg (show ¬ a1 = (5 : Int32) by rw [c_25_22]; decide), if_neg (show ¬ a1 = (6 : Int32) by rw [c_25_22]; decide), if_neg (show ¬ a1 = (7 : Int32) by rw [c_25_22]; decide), if_neg (show ¬ a1 = (8 : Int32) by rw [c_25_22]; decide), if_neg (show ¬ a1 = (9 : Int32) by rw [c_25_22]; decide), if_neg (show ¬ a1 = (10 : Int32) by rw [c_25_22]; decide), if_neg (show ¬ a1 = (11 : Int32) by rw [c_25_22]; decide), if_neg (show ¬ a1 = (12 : Int32) by rw [c_25_22]; decide), if_neg (show ¬ a1 = (13 : Int32) by rw [c_25_22]; decide), if_neg (show ¬ a1 = (14 : Int32) by rw [c_25_22]; decide), if_neg (show ¬ a1 = (15 : Int32) by rw [c_25_22]; decide), if_neg (show ¬ a1 = (16 : Int32) by rw [c_25_22]; decide), if_neg (show ¬ a1 = (24 : Int32) by rw [c_25_22]; decide), if_neg (show ¬ a1 = (25 : Int32) by rw [c_25_22]; decide)]) dX2_count_310
    by_cases c_25_23 : a1 = (23 : Int32)
    · refine z_tableIn (tgt := 308) X dX2_count_25 (by rw [c_25_23]; decide) (by rw [c_25_23]; decide) (by rw [c_25_23]; rfl) (by decide) ?_
      refine z_bipush (v := (-2 : Int32)) X dX2_count_308 (by decide) ?_
      exact z_iret X hQ rfl (-2 : Int32) rfl rfl (by subst er_5; simp only [F_S_count, if_pos c_8, if_neg (show ¬ a1 = (0 : Int32) by rw [c_25_23]; decide), if_neg (show ¬ a1 = (1 : Int32) by rw [c_25_23]; decide), if_neg (show ¬ a1 = (2 : Int32) by rw [c_25_23]; decide), if_neg (show ¬ a1 = (3 : Int32) by rw [c_25_23]; decide), if_neg (show ¬ a1 = (4 : Int32) by rw [c_25_23]; decide), if_neg (show ¬ a1 = (5 : Int32) by rw [c_25_23]; decide), if_neg (show ¬ a1 = (6 : Int32) by rw [c_25_23]; decide), if_neg (show ¬ a1 = (7 : Int32) by rw [c_25_23]; decide), if_neg (show ¬ a1 = (8 : Int32) by rw [c_25_23]; decide), if_neg (show ¬ a1 = (9 : Int32) by rw [c_25_23]; decide), if_neg (show ¬ a1 = (10 : Int32) by rw [c_25_23]; decide), if_neg (show ¬ a1 = (11 : Int32) by rw [c_25_23]; decide), if_neg (show ¬ a1 = (12 : Int32) by rw [c_25_23]; decide), if_neg (show ¬ a1 = (13 : Int32) by rw [c_25_23]; decide), if_neg (show ¬ a1 = (14 : Int32) by rw [c_25_23]; decide), if_neg (show ¬ a1 = (15 : Int32) by rw [c_25_23]; decide), if_neg (show ¬ a1 = (16 : Int32) by rw [c_25_23]; decide), if_neg (show ¬ a1 = (24 : Int32) by rw [c_25_23]; decide), if_neg (show ¬ a1 = (25 : Int32) by rw [c_25_23]; decide)]) dX2_count_310
    by_cases c_25_24 : a1 = (24 : Int32)
    · refine z_tableIn (tgt := 295) X dX2_count_25 (by rw [c_25_24]; decide) (by rw [c_25_24]; decide) (by rw [c_25_24]; rfl) (by decide) ?_
      refine z_aload_n X dX2_count_295 0 rfl ?_
      refine z_get X inW2 rfl 0 wS_0 5 (by decide) wd1_137 rfl rfl dX2_count_296 ?_
      exact z_iret X hQ rfl (S.2.2 5) rfl rfl (by subst er_5; simp only [F_S_count, if_pos c_8, if_neg c_25_0, if_neg c_25_1, if_neg c_25_2, if_neg c_25_3, if_neg c_25_4, if_neg c_25_5, if_neg c_25_6, if_neg c_25_7, if_neg c_25_8, if_neg c_25_9, if_neg c_25_10, if_neg c_25_11, if_neg c_25_12, if_neg c_25_13, if_neg c_25_14, if_neg c_25_15, if_neg c_25_16, if_pos c_25_24]) dX2_count_299
    by_cases c_25_25 : a1 = (25 : Int32)
    · refine z_tableIn (tgt := 300) X dX2_count_25 (by rw [c_25_25]; decide) (by rw [c_25_25]; decide) (by rw [c_25_25]; rfl) (by decide) ?_
      refine z_aload_n X dX2_count_300 0 rfl ?_
      refine z_get X inW2 rfl 0 wS_0 4 (by decide) wd1_136 rfl rfl dX2_count_301 ?_
      refine z_get X inW1 rfl 2 wS_2 1 (by decide) wd1_117 rfl rfl dX2_count_304 ?_
      exact z_iret X hQ rfl (S.2.1 2 1) rfl rfl (by subst er_5; simp only [F_S_count, if_pos c_8, if_neg c_25_0, if_neg c_25_1, if_neg c_25_2, if_neg c_25_3, if_neg c_25_4, if_neg c_25_5, if_neg c_25_6, if_neg c_25_7, if_neg c_25_8, if_neg c_25_9, if_neg c_25_10, if_neg c_25_11, if_neg c_25_12, if_neg c_25_13, if_neg c_25_14, if_neg c_25_15, if_neg c_25_16, if_neg c_25_24, if_pos c_25_25]) dX2_count_307
    refine z_tableOut (tgt := 308) X dX2_count_25 (by have t0 : a1.toInt ≠ 0 := fun q => c_25_0 (Int32.toInt_inj.mp q); have t1 : a1.toInt ≠ 1 := fun q => c_25_1 (Int32.toInt_inj.mp q); have t2 : a1.toInt ≠ 2 := fun q => c_25_2 (Int32.toInt_inj.mp q); have t3 : a1.toInt ≠ 3 := fun q => c_25_3 (Int32.toInt_inj.mp q); have t4 : a1.toInt ≠ 4 := fun q => c_25_4 (Int32.toInt_inj.mp q); have t5 : a1.toInt ≠ 5 := fun q => c_25_5 (Int32.toInt_inj.mp q); have t6 : a1.toInt ≠ 6 := fun q => c_25_6 (Int32.toInt_inj.mp q); have t7 : a1.toInt ≠ 7 := fun q => c_25_7 (Int32.toInt_inj.mp q); have t8 : a1.toInt ≠ 8 := fun q => c_25_8 (Int32.toInt_inj.mp q); have t9 : a1.toInt ≠ 9 := fun q => c_25_9 (Int32.toInt_inj.mp q); have t10 : a1.toInt ≠ 10 := fun q => c_25_10 (Int32.toInt_inj.mp q); have t11 : a1.toInt ≠ 11 := fun q => c_25_11 (Int32.toInt_inj.mp q); have t12 : a1.toInt ≠ 12 := fun q => c_25_12 (Int32.toInt_inj.mp q); have t13 : a1.toInt ≠ 13 := fun q => c_25_13 (Int32.toInt_inj.mp q); have t14 : a1.toInt ≠ 14 := fun q => c_25_14 (Int32.toInt_inj.mp q); have t15 : a1.toInt ≠ 15 := fun q => c_25_15 (Int32.toInt_inj.mp q); have t16 : a1.toInt ≠ 16 := fun q => c_25_16 (Int32.toInt_inj.mp q); have t17 : a1.toInt ≠ 17 := fun q => c_25_17 (Int32.toInt_inj.mp q); have t18 : a1.toInt ≠ 18 := fun q => c_25_18 (Int32.toInt_inj.mp q); have t19 : a1.toInt ≠ 19 := fun q => c_25_19 (Int32.toInt_inj.mp q); have t20 : a1.toInt ≠ 20 := fun q => c_25_20 (Int32.toInt_inj.mp q); have t21 : a1.toInt ≠ 21 := fun q => c_25_21 (Int32.toInt_inj.mp q); have t22 : a1.toInt ≠ 22 := fun q => c_25_22 (Int32.toInt_inj.mp q); have t23 : a1.toInt ≠ 23 := fun q => c_25_23 (Int32.toInt_inj.mp q); have t24 : a1.toInt ≠ 24 := fun q => c_25_24 (Int32.toInt_inj.mp q); have t25 : a1.toInt ≠ 25 := fun q => c_25_25 (Int32.toInt_inj.mp q); omega) (by decide) ?_
    refine z_bipush (v := (-2 : Int32)) X dX2_count_308 (by decide) ?_
    exact z_iret X hQ rfl (-2 : Int32) rfl rfl (by subst er_5; simp only [F_S_count, if_pos c_8, if_neg c_25_0, if_neg c_25_1, if_neg c_25_2, if_neg c_25_3, if_neg c_25_4, if_neg c_25_5, if_neg c_25_6, if_neg c_25_7, if_neg c_25_8, if_neg c_25_9, if_neg c_25_10, if_neg c_25_11, if_neg c_25_12, if_neg c_25_13, if_neg c_25_14, if_neg c_25_15, if_neg c_25_16, if_neg c_25_24, if_neg c_25_25]) dX2_count_310
  · refine z_aload_n X dX2_count_11 0 rfl ?_
    refine z_get X inW2 rfl 0 wS_0 0 (by decide) wd1_132 rfl rfl dX2_count_12 ?_
    refine z_get X inW0 rfl 5 wS_5 6 (by decide) wd1_43 rfl rfl dX2_count_15 ?_
    refine z_iload_n X dX2_count_18 1 rfl ?_
    refine z_bipush (v := (17 : Int32)) X dX2_count_19 (by decide) ?_
    refine z_isub X dX2_count_21 ?_
    refine z_iald X 9 0 wS_9 rfl (vin_17 (wi_bn 17 23 (by omega) er_5 c_8)) rfl dX2_count_22 ?_
    exact z_iret X hQ rfl ((S.1 0).1 3 ((a1 - (17 : Int32)).toNatClampNeg)) rfl rfl (by subst er_5; simp only [F_S_count, if_neg c_8]) dX2_count_23
