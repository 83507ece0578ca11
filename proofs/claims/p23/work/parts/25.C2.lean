set_option maxRecDepth 100000 in
set_option maxHeartbeats 4000000 in
theorem c_C_runCycles (l : Launch) (D : va_G) (kI kC kQ : ClassId) (q : Nat → Nat) (C : CS) (a1 : Int32) (hO : OKC C) (hn : bn 1 2000 a1) : CtV (U := CS) l yX0_runCycles cX0_runCycles 3 none { frames := 4, cells := 0, slots := 0, locals := 85 } D (tysG kI kC kQ) (wC kI q C) [.ref (q 0), .int a1] (fun u => (wC kI q u)) (fun u => u = F_C_runCycles C a1) := by
  refine met_Zv (own := "ShadowLatches$Circuit") (by decide +kernel) rfl (Nat.le_of_ble_eq_true rfl) ?_
  intro p e s m args below meth c A Q X hQ
  show Z p l e { frames := 4, cells := 0, slots := 0, locals := 85 } s m args below meth c D A 3 0 0 Q (wC kI q C) [(0, .ref (q 0)), (1, .int a1)] 0 []
  obtain ⟨K, hK1, hK2, hK⟩ := hn
  refine z_iconst (v := (0 : Int32)) X dX0_runCycles_0 (by decide) ?_
  refine z_istore_n (lv' := [(2, .int (0 : Int32)), (0, .ref (q 0)), (1, .int a1)]) X dX0_runCycles_1 (Nat.le_of_ble_eq_true rfl) rfl ?_
  refine z_lv (lv' := [(0, .ref (q 0)), (1, .int a1), (2, .int (0 : Int32))]) [1, 2, 0] rfl ?_
  have Lp_2 : ∀ (n : Nat) (x2_2 : Int32) (C_2 : CS), (cu K n x2_2) → (OKC C_2) → (∀ (q_2 : CS), q_2 = L_C_runCycles_2 a1 n x2_2 C_2 → Z p l e { frames := 4, cells := 0, slots := 0, locals := 85 } s m args below meth c D A 3 0 0 Q (wC kI q q_2) [] 41 []) → Z p l e { frames := 4, cells := 0, slots := 0, locals := 85 } s m args below meth c D A 3 0 0 Q (wC kI q C_2) [(0, .ref (q 0)), (1, .int a1), (2, .int x2_2)] 2 [] := by
    intro n
    induction n with
    | zero =>
      intro x2_2 C_2 hi hJ kk_2
      exfalso
      exact cu_0 hi
    | succ n ih_2 =>
      intro x2_2 C_2 hi hJ kk_2
      refine z_iload_n X dX0_runCycles_2 2 rfl ?_
      refine z_iload_n X dX0_runCycles_3 1 rfl ?_
      refine z_icmp_ge (tgt := 41) X dX0_runCycles_4 (by decide) (fun c_4 => ?_) (fun c_4 => ?_)
      · refine z_lv (lv' := []) [] rfl ?_
        exact kk_2 C_2 (by simp only [L_C_runCycles_2, if_pos c_4]) 
      · refine z_aload_n X dX0_runCycles_7 0 rfl ?_
        refine z_callVv0 X (c_C_runOneCycle l D kI kC kQ q C_2 hJ) (gV wd2_23 wd2_25 wd0_3 wd1_2 wd2_26) k_C_runOneCycle rfl rfl ⟨Nat.le_of_ble_eq_true rfl, Nat.le_of_ble_eq_true rfl⟩ ⟨Nat.zero_le _, Nat.zero_le _⟩ 0 0 rfl rfl rfl rfl rfl (Nat.le_of_ble_eq_true rfl) dX0_runCycles_8 (fun r_8 er_8 => ?_)
        refine z_aload_n X dX0_runCycles_11 0 rfl ?_
        refine zC_g9 X wd1_48 dX0_runCycles_12 ?_
        have J_j_35 : ∀ (j_35 : CS), j_35 = (if (r_8.1 4 9) = (0 : Int32) then (r_8) else (if (r_8.1 4 10) < (r_8.1 3 3) then (r_8) else (let r_32 : CS := (F_C_lookAtWindow r_8); r_32))) → Z p l e { frames := 4, cells := 0, slots := 0, locals := 85 } s m args below meth c D A 3 0 0 Q (wC kI q j_35) [(0, .ref (q 0)), (1, .int a1), (2, .int x2_2)] 35 [] := by
          intro j_35 ej_35
          obtain ⟨v_35, ev_35⟩ : ∃ y : Int32, y = x2_2 + (1 : Int32) := ⟨_, rfl⟩
          refine z_iinc (v := v_35) (lv' := [(2, .int v_35), (0, .ref (q 0)), (1, .int a1)]) X dX0_runCycles_35 2 rfl (by rw [ev_35]; rfl) (Nat.le_of_ble_eq_true rfl) rfl ?_
          refine z_goto (tgt := 2) X dX0_runCycles_38 (by decide) ?_
          refine z_lv (lv' := [(0, .ref (q 0)), (1, .int a1), (2, .int v_35)]) [1, 2, 0] rfl ?_
          exact ih_2 v_35 j_35 (cu_b hi (by omega) hK c_4 ev_35) (by rw [ej_35, er_8]; exact OKC_step hJ) (fun q_2 eq_2 => kk_2 q_2 (eq_2.trans (by subst er_8 ej_35 ev_35; simp only [L_C_runCycles_2, if_neg c_4])))
        refine z_if_eq (tgt := 35) X dX0_runCycles_15 (by decide) (fun c_15 => ?_) (fun c_15 => ?_)
        · exact J_j_35 r_8 (by simp only [if_pos c_15])
        · refine z_aload_n X dX0_runCycles_18 0 rfl ?_
          refine zC_g10 X wd1_50 dX0_runCycles_19 ?_
          refine z_aload_n X dX0_runCycles_22 0 rfl ?_
          refine zC_g6 X wd1_42 dX0_runCycles_23 ?_
          refine z_iconst (v := (3 : Int32)) X dX0_runCycles_26 (by decide) ?_
          refine zC_l3 X vi_3_7 cl_3 dX0_runCycles_27 ?_
          refine z_icmp_lt (tgt := 35) X dX0_runCycles_28 (by decide) (fun c_28 => ?_) (fun c_28 => ?_)
          · exact J_j_35 r_8 (by simp only [if_neg c_15, if_pos c_28])
          · refine z_aload_n X dX0_runCycles_31 0 rfl ?_
            refine z_callVv0 X (c_C_lookAtWindow l D kI kC kQ q r_8) (gV wd2_59 wd2_61 wd0_8 wd1_2 wd2_62) k_C_lookAtWindow rfl rfl ⟨Nat.le_of_ble_eq_true rfl, Nat.le_of_ble_eq_true rfl⟩ ⟨Nat.zero_le _, Nat.zero_le _⟩ 0 0 rfl rfl rfl rfl rfl (Nat.le_of_ble_eq_true rfl) dX0_runCycles_32 (fun r_32 er_32 => ?_)
            exact J_j_35 r_32 (by subst er_32; simp only [if_neg c_15, if_neg c_28])
  refine Lp_2 2001 (0 : Int32) C (cu_i (by omega)) hO (fun q_2 eq_2 => ?_)
  exact z_vret X hQ rfl q_2 rfl (by subst eq_2; simp only [F_C_runCycles]) dX0_runCycles_41
