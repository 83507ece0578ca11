set_option maxRecDepth 100000 in
set_option maxHeartbeats 4000000 in
theorem c_S_set (l : Launch) (D : va_G) (kI kC kQ : ClassId) (o r : Nat → Nat) (ad : ADT) (S : SLS) (a1 : Int32) (a2 : Int32) (hO : OKS S) : CtI (U := (Int32 × SLS) × ADT) l yX2_set cX2_set 4 (some .int) { frames := 3, cells := 0, slots := 0, locals := 101 } D (tysG kI kC kQ) (wS kI kC kQ o r ad S) [.ref (o 0), .int a1, .int a2] (fun u => u.1.1) (fun u => wS kI kC kQ o r u.2 u.1.2) (fun u => u.1 = F_S_set S a1 a2) := by
  refine met_Zi (own := "ShadowLatches") (by decide +kernel) rfl (Nat.le_of_ble_eq_true rfl) ?_
  intro p e s m args below meth c A Q X hQ
  show Z p l e { frames := 3, cells := 0, slots := 0, locals := 101 } s m args below meth c D A 4 0 0 Q (wS kI kC kQ o r ad S) [(0, .ref (o 0)), (1, .int a1), (2, .int a2)] 0 []
  refine z_iload_n X dX2_set_0 1 rfl ?_
  refine z_iconst (v := (0 : Int32)) X dX2_set_1 (by decide) ?_
  refine z_bipush (v := (6 : Int32)) X dX2_set_2 (by decide) ?_
  refine z_callSiN X (c_S_isWithin l D kI kC kQ a1 (0 : Int32) (6 : Int32)) (gS wd1_160 wd1_161 wd1_1 wd1_162) k_S_isWithin rfl rfl ⟨Nat.le_of_ble_eq_true rfl, Nat.le_of_ble_eq_true rfl⟩ ⟨Nat.zero_le _, Nat.zero_le _⟩ rfl rfl (Nat.le_of_ble_eq_true rfl) dX2_set_4 rfl (fun _ => rfl) (fun r_4 er_4 => ?_)
  refine z_if_ne (tgt := 13) X dX2_set_7 (by decide) (fun c_7 => ?_) (fun c_7 => ?_)
  · refine z_iload_n X dX2_set_13 2 rfl ?_
    refine z_getT X X.S.1 wd2_86 dX2_set_14 (fun t_14 ht_14 => ?_)
    refine z_iload_n X dX2_set_17 1 rfl ?_
    refine z_ti X ht_14 (vin_k (bn_lt (wi_bn 0 6 (by omega) er_4 c_7)) (by omega) (by omega)) rfl dX2_set_18 ?_
    refine z_getT X X.S.2.1 wd2_88 dX2_set_19 (fun t_19 ht_19 => ?_)
    refine z_iload_n X dX2_set_22 1 rfl ?_
    refine z_ti X ht_19 (vin_k (bn_lt (wi_bn 0 6 (by omega) er_4 c_7)) (by omega) (by omega)) rfl dX2_set_23 ?_
    refine z_callSiN X (c_S_isWithin l D kI kC kQ a2 (leastS (a1.toNatClampNeg)) (mostS (a1.toNatClampNeg))) (gS wd1_160 wd1_161 wd1_1 wd1_162) k_S_isWithin rfl rfl ⟨Nat.le_of_ble_eq_true rfl, Nat.le_of_ble_eq_true rfl⟩ ⟨Nat.zero_le _, Nat.zero_le _⟩ rfl rfl (Nat.le_of_ble_eq_true rfl) dX2_set_24 rfl (fun _ => rfl) (fun r_24 er_24 => ?_)
    refine z_if_ne (tgt := 33) X dX2_set_27 (by decide) (fun c_27 => ?_) (fun c_27 => ?_)
    · refine z_aload_n X dX2_set_33 0 rfl ?_
      refine z_get X inW2 rfl 0 wS_0 0 (by decide) wd1_132 rfl rfl dX2_set_34 ?_
      refine z_get X inW0 rfl 5 wS_5 6 (by decide) wd1_43 rfl rfl dX2_set_37 ?_
      refine z_iload_n X dX2_set_40 1 rfl ?_
      refine z_iald X 9 0 wS_9 rfl (vin_k (bn_lt (wi_bn 0 6 (by omega) er_4 c_7)) (by omega) (by omega)) rfl dX2_set_41 ?_
      refine z_topi (fun v_42 ev_42 => ?_)
      refine z_istore_n (lv' := [(3, .int v_42), (0, .ref (o 0)), (1, .int a1), (2, .int a2)]) X dX2_set_42 (Nat.le_of_ble_eq_true rfl) rfl ?_
      refine z_iload_n X dX2_set_43 0 rfl ?_
      refine z_iload_n X dX2_set_44 3 rfl ?_
      refine z_icmp_ne (tgt := 51) X dX2_set_45 (by decide) (fun c_45 => ?_) (fun c_45 => ?_)
      · refine z_aload_n X dX2_set_51 1 rfl ?_
        refine zS_Rv X (c_S_recordState l D kI kC kQ o r ad S hO) (gV wd1_163 wd1_165 wd0_0 wd1_1 wd1_166) k_S_recordState rfl rfl ⟨Nat.le_of_ble_eq_true rfl, Nat.le_of_ble_eq_true rfl⟩ ⟨Nat.zero_le _, Nat.zero_le _⟩ rfl rfl (Nat.le_of_ble_eq_true rfl) dX2_set_52 (fun r_52 ad_52 er_52 => ?_)
        refine z_aload_n X dX2_set_55 1 rfl ?_
        refine z_get X inW2 rfl 0 wS_0 0 (by decide) wd1_132 rfl rfl dX2_set_56 ?_
        refine z_get X inW0 rfl 5 wS_5 6 (by decide) wd1_43 rfl rfl dX2_set_59 ?_
        refine z_iload_n X dX2_set_62 2 rfl ?_
        refine z_iload_n X dX2_set_63 3 rfl ?_
        refine zS_sc_0_3 X (vin_k (bn_lt (wi_bn 0 6 (by omega) er_4 c_7)) (by omega) (by omega)) rfl dX2_set_64 (fun S_64 eS_64 => ?_)
        refine z_iload_n X dX2_set_65 0 rfl ?_
        exact z_iret X hQ rfl ((v_42, S_64), ad_52) rfl rfl (by subst er_4 er_24 ev_42 er_52 eS_64; simp only [F_S_set, if_neg c_7, if_neg c_27, if_neg c_45]) dX2_set_66
      · refine z_bipush (v := (-5 : Int32)) X dX2_set_48 (by decide) ?_
        exact z_iret X hQ rfl (((-5 : Int32), S), ad) rfl rfl (by subst er_4 er_24 ev_42; simp only [F_S_set, if_neg c_7, if_neg c_27, if_pos c_45]) dX2_set_50
    · refine z_bipush (v := (-2 : Int32)) X dX2_set_30 (by decide) ?_
      exact z_iret X hQ rfl (((-2 : Int32), S), ad) rfl rfl (by subst er_4 er_24; simp only [F_S_set, if_neg c_7, if_pos c_27]) dX2_set_32
  · refine z_bipush (v := (-2 : Int32)) X dX2_set_10 (by decide) ?_
    exact z_iret X hQ rfl (((-2 : Int32), S), ad) rfl rfl (by subst er_4; simp only [F_S_set, if_pos c_7]) dX2_set_12
