theorem vi_0_4 : vp_in (0 : Int32) 4 := vin_c (by decide +kernel)
theorem vi_1_4 : vp_in (1 : Int32) 4 := vin_c (by decide +kernel)
theorem vi_2_4 : vp_in (2 : Int32) 4 := vin_c (by decide +kernel)
theorem vi_3_4 : vp_in (3 : Int32) 4 := vin_c (by decide +kernel)
section
variable {p : Program} {l : Launch} {e : Env} {R : Room} {s : State} {m : MethodId} {args : Array Value} {below : List Frame} {meth : Method} {c : Code} {D : va_G} {kI kC kQ : ClassId} {A : Nat → Prop} {cc : ByteArray} {nL ce sl : Nat} {ret : Option FieldType} {own : String} {Q : State → Prop} {w : va_W} {lv : List (Nat × Value)} {pc : Nat} {st : List Value} {o r : Nat → Nat} {ad : Nat → Nat → Nat} {S : SLS} {C C2 : CS} {q : Nat → Nat} {wt : va_W}
theorem zS_cph (X : CX p s m args meth c D (tysG kI kC kQ) A cc nL ret own) {k : Nat} (hk : k < 4) {index : Nat} (hb : (S.1 (0)).1 4 9 = 0 ∨ (S.1 (0)).1 4 9 = 1) (hG : GoodIn WS (wsV own index "ShadowLatches$Circuit" yX0_copyFrom (Cond.code yX0_copyFrom cX0_copyFrom 2 none :: WS))) (hR : 1 + 1 ≤ R.frames ∧ 8 + (2 + 11) + 60 ≤ R.locals) (hf : ce ≤ R.cells ∧ sl ≤ R.slots) (hW : (st.map fun v => v.category).sum ≤ 8) (hdg : decode cc pc = .ok (.invokevirtual index, 3)) (kk : ∀ y : SLS, y = sSC S (3 + k) (cpC (S.1 (3 + k)) (S.1 (0))) → Z p l e R s m args below meth c D A nL ce sl Q (wS kI kC kQ o r ad y) lv (pc + 3) st) : Z p l e R s m args below meth c D A nL ce sl Q (wS kI kC kQ o r ad S) lv pc (.ref (ad (0) 0) :: .ref (ad (3 + k) 0) :: st) := by
  match k, hk with
  | 0, _ => exact zS_cp_3_0 X hb hG hR hf hW hdg kk
  | 1, _ => exact zS_cp_4_0 X hb hG hR hf hW hdg kk
  | 2, _ => exact zS_cp_5_0 X hb hG hR hf hW hdg kk
  | 3, _ => exact zS_cp_6_0 X hb hG hR hf hW hdg kk
theorem zS_cpu (X : CX p s m args meth c D (tysG kI kC kQ) A cc nL ret own) {k : Nat} (hk : k < 4) {index : Nat} (hb : (S.1 (3 + k)).1 4 9 = 0 ∨ (S.1 (3 + k)).1 4 9 = 1) (hG : GoodIn WS (wsV own index "ShadowLatches$Circuit" yX0_copyFrom (Cond.code yX0_copyFrom cX0_copyFrom 2 none :: WS))) (hR : 1 + 1 ≤ R.frames ∧ 8 + (2 + 11) + 60 ≤ R.locals) (hf : ce ≤ R.cells ∧ sl ≤ R.slots) (hW : (st.map fun v => v.category).sum ≤ 8) (hdg : decode cc pc = .ok (.invokevirtual index, 3)) (kk : ∀ y : SLS, y = sSC S (0) (cpC (S.1 (0)) (S.1 (3 + k))) → Z p l e R s m args below meth c D A nL ce sl Q (wS kI kC kQ o r ad y) lv (pc + 3) st) : Z p l e R s m args below meth c D A nL ce sl Q (wS kI kC kQ o r ad S) lv pc (.ref (ad (3 + k) 0) :: .ref (ad (0) 0) :: st) := by
  match k, hk with
  | 0, _ => exact zS_cp_0_3 X hb hG hR hf hW hdg kk
  | 1, _ => exact zS_cp_0_4 X hb hG hR hf hW hdg kk
  | 2, _ => exact zS_cp_0_5 X hb hG hR hf hW hdg kk
  | 3, _ => exact zS_cp_0_6 X hb hG hR hf hW hdg kk
end
def rotA (ad : ADT) : ADT := fun i => if i = 3 then ad 4 else if i = 4 then ad 5 else if i = 5 then ad 6 else if i = 6 then ad 3 else ad i
/-- the oldest state's circuit goes to the end -/
def F_S_dropOldestState (S : SLS) : SLS := (fun i => if i = 3 then S.1 4 else if i = 4 then S.1 5 else if i = 5 then S.1 6 else if i = 6 then S.1 3 else S.1 i, S.2.1, upd S.2.2 5 3)
def wG (kI kC kQ : ClassId) (o r : Nat → Nat) (ad : ADT) (S : SLS) (f : Nat → Option Nat) : va_W := [(o 0, .inr (2, [.ref (ad 0 0), .ref (ad 1 0), .ref (ad 2 0), .ref (o 1), .ref (r 0), .int (S.2.2 5), .int (S.2.2 6)])), (o 1, .inl (kQ, 4, .inr (.inr (.inr (.inr f)))))] ++ (wT kI kC r S.2.1 ++ (wC kI (ad 0) (S.1 0) ++ (wC kI (ad 1) (S.1 1) ++ (wC kI (ad 2) (S.1 2) ++ (wC kI (ad 3) (S.1 3) ++ (wC kI (ad 4) (S.1 4) ++ (wC kI (ad 5) (S.1 5) ++ wC kI (ad 6) (S.1 6))))))))
theorem rot_f (ad : ADT) : va_up (va_up (va_up (va_up (fun j => some (ad (3 + j) 0)) 0 (some (ad 4 0))) 1 (some (ad 5 0))) 2 (some (ad 6 0))) 3 (some (ad 3 0)) = fun j => some (rotA ad (3 + j) 0) := by
  funext j
  match j with
  | 0 => rfl
  | 1 => rfl
  | 2 => rfl
  | 3 => rfl
  | n + 4 =>
    simp only [va_up, rotA]
    rw [if_neg (by omega), if_neg (by omega), if_neg (by omega), if_neg (by omega), if_neg (by omega), if_neg (by omega), if_neg (by omega), if_neg (by omega)]
set_option maxRecDepth 100000 in
set_option maxHeartbeats 4000000 in
theorem c_S_dropOldestState (l : Launch) (D : va_G) (kI kC kQ : ClassId) (o r : Nat → Nat) (ad : ADT) (S : SLS) : CtV (U := SLS × ADT) l yX2_dropOldestState cX2_dropOldestState 3 none { frames := 0, cells := 0, slots := 0, locals := 0 } D (tysG kI kC kQ) (wS kI kC kQ o r ad S) [.ref (o 0)] (fun u => wS kI kC kQ o r u.2 u.1) (fun u => u.1 = F_S_dropOldestState S) := by
  refine met_Zv (own := "ShadowLatches") (by decide +kernel) rfl (Nat.le_of_ble_eq_true rfl) ?_
  intro p e s m args below meth c A Q X hQ
  show Z p l e { frames := 0, cells := 0, slots := 0, locals := 0 } s m args below meth c D A 3 0 0 Q (wG kI kC kQ o r ad S (fun j => some (ad (3 + j) 0))) [(0, .ref (o 0))] 0 []
  refine z_aload_n X dX2_dropOldestState_0 0 rfl ?_
  refine z_get X inW2 rfl 0 rfl 3 (by decide) wd1_135 rfl rfl dX2_dropOldestState_1 ?_
  refine z_iconst (v := (0 : Int32)) X dX2_dropOldestState_4 (by decide) ?_
  refine z_aald (v := ad 3 0) X 1 2 rfl rfl vi_0_4 cl_0 rfl dX2_dropOldestState_5 ?_
  refine z_astore_n (lv' := [(1, .ref (ad 3 0)), (0, .ref (o 0))]) X dX2_dropOldestState_6 (Nat.le_of_ble_eq_true rfl) rfl ?_
  refine z_iconst (v := (1 : Int32)) X dX2_dropOldestState_7 (by decide) ?_
  refine z_istore_n (lv' := [(2, .int 1), (1, .ref (ad 3 0)), (0, .ref (o 0))]) X dX2_dropOldestState_8 (Nat.le_of_ble_eq_true rfl) rfl ?_
  refine z_iload_n X dX2_dropOldestState_9 0 rfl ?_
  refine z_iconst (v := (4 : Int32)) X dX2_dropOldestState_10 (by decide) ?_
  refine z_icmp_ge (tgt := 34) X dX2_dropOldestState_11 (by decide) (fun c_11 => absurd c_11 (by decide)) (fun _ => ?_)
  refine z_aload_n X dX2_dropOldestState_14 2 rfl ?_
  refine z_get X inW2 rfl 0 rfl 3 (by decide) wd1_135 rfl rfl dX2_dropOldestState_15 ?_
  refine z_iload_n X dX2_dropOldestState_18 0 rfl ?_
  refine z_iconst (v := (1 : Int32)) X dX2_dropOldestState_19 (by decide) ?_
  refine z_isub X dX2_dropOldestState_20 ?_
  refine z_aload_n X dX2_dropOldestState_21 2 rfl ?_
  refine z_get X inW2 rfl 0 rfl 3 (by decide) wd1_135 rfl rfl dX2_dropOldestState_22 ?_
  refine z_iload_n X dX2_dropOldestState_25 0 rfl ?_
  refine z_aald (v := ad 4 0) X 1 2 rfl rfl vi_1_4 cl_1 rfl dX2_dropOldestState_26 ?_
  refine z_aast (r := (RX0, TX0, 19)) X 1 2 25 0 rfl rfl rfl rfl (i := (1 : Int32) - 1) (j := 0) (vin_c (by decide +kernel)) (by decide +kernel) (w' := wG kI kC kQ o r ad S (va_up (fun j => some (ad (3 + j) 0)) 0 (some (ad 4 0)))) rfl dX2_dropOldestState_27 ?_
  refine z_iinc (v := (2 : Int32)) (lv' := [(2, .int 2), (1, .ref (ad 3 0)), (0, .ref (o 0))]) X dX2_dropOldestState_28 0 rfl (by decide) (Nat.le_of_ble_eq_true rfl) rfl ?_
  refine z_goto (tgt := 9) X dX2_dropOldestState_31 (by decide) ?_
  refine z_iload_n X dX2_dropOldestState_9 0 rfl ?_
  refine z_iconst (v := (4 : Int32)) X dX2_dropOldestState_10 (by decide) ?_
  refine z_icmp_ge (tgt := 34) X dX2_dropOldestState_11 (by decide) (fun c_11 => absurd c_11 (by decide)) (fun _ => ?_)
  refine z_aload_n X dX2_dropOldestState_14 2 rfl ?_
  refine z_get X inW2 rfl 0 rfl 3 (by decide) wd1_135 rfl rfl dX2_dropOldestState_15 ?_
  refine z_iload_n X dX2_dropOldestState_18 0 rfl ?_
  refine z_iconst (v := (1 : Int32)) X dX2_dropOldestState_19 (by decide) ?_
  refine z_isub X dX2_dropOldestState_20 ?_
  refine z_aload_n X dX2_dropOldestState_21 2 rfl ?_
  refine z_get X inW2 rfl 0 rfl 3 (by decide) wd1_135 rfl rfl dX2_dropOldestState_22 ?_
  refine z_iload_n X dX2_dropOldestState_25 0 rfl ?_
  refine z_aald (v := ad 5 0) X 1 2 rfl rfl vi_2_4 cl_2 rfl dX2_dropOldestState_26 ?_
  refine z_aast (r := (RX0, TX0, 19)) X 1 2 30 0 rfl rfl rfl rfl (i := (2 : Int32) - 1) (j := 1) (vin_c (by decide +kernel)) (by decide +kernel) (w' := wG kI kC kQ o r ad S (va_up (va_up (fun j => some (ad (3 + j) 0)) 0 (some (ad 4 0))) 1 (some (ad 5 0)))) rfl dX2_dropOldestState_27 ?_
  refine z_iinc (v := (3 : Int32)) (lv' := [(2, .int 3), (1, .ref (ad 3 0)), (0, .ref (o 0))]) X dX2_dropOldestState_28 0 rfl (by decide) (Nat.le_of_ble_eq_true rfl) rfl ?_
  refine z_goto (tgt := 9) X dX2_dropOldestState_31 (by decide) ?_
  refine z_iload_n X dX2_dropOldestState_9 0 rfl ?_
  refine z_iconst (v := (4 : Int32)) X dX2_dropOldestState_10 (by decide) ?_
  refine z_icmp_ge (tgt := 34) X dX2_dropOldestState_11 (by decide) (fun c_11 => absurd c_11 (by decide)) (fun _ => ?_)
  refine z_aload_n X dX2_dropOldestState_14 2 rfl ?_
  refine z_get X inW2 rfl 0 rfl 3 (by decide) wd1_135 rfl rfl dX2_dropOldestState_15 ?_
  refine z_iload_n X dX2_dropOldestState_18 0 rfl ?_
  refine z_iconst (v := (1 : Int32)) X dX2_dropOldestState_19 (by decide) ?_
  refine z_isub X dX2_dropOldestState_20 ?_
  refine z_aload_n X dX2_dropOldestState_21 2 rfl ?_
  refine z_get X inW2 rfl 0 rfl 3 (by decide) wd1_135 rfl rfl dX2_dropOldestState_22 ?_
  refine z_iload_n X dX2_dropOldestState_25 0 rfl ?_
  refine z_aald (v := ad 6 0) X 1 2 rfl rfl vi_3_4 cl_3 rfl dX2_dropOldestState_26 ?_
  refine z_aast (r := (RX0, TX0, 19)) X 1 2 35 0 rfl rfl rfl rfl (i := (3 : Int32) - 1) (j := 2) (vin_c (by decide +kernel)) (by decide +kernel) (w' := wG kI kC kQ o r ad S (va_up (va_up (va_up (fun j => some (ad (3 + j) 0)) 0 (some (ad 4 0))) 1 (some (ad 5 0))) 2 (some (ad 6 0)))) rfl dX2_dropOldestState_27 ?_
  refine z_iinc (v := (4 : Int32)) (lv' := [(2, .int 4), (1, .ref (ad 3 0)), (0, .ref (o 0))]) X dX2_dropOldestState_28 0 rfl (by decide) (Nat.le_of_ble_eq_true rfl) rfl ?_
  refine z_goto (tgt := 9) X dX2_dropOldestState_31 (by decide) ?_
  refine z_iload_n X dX2_dropOldestState_9 0 rfl ?_
  refine z_iconst (v := (4 : Int32)) X dX2_dropOldestState_10 (by decide) ?_
  refine z_icmp_ge (tgt := 34) X dX2_dropOldestState_11 (by decide) (fun _ => ?_) (fun c_11 => absurd (by decide) c_11)
  refine z_aload_n X dX2_dropOldestState_34 2 rfl ?_
  refine z_get X inW2 rfl 0 rfl 3 (by decide) wd1_135 rfl rfl dX2_dropOldestState_35 ?_
  refine z_iconst (v := (3 : Int32)) X dX2_dropOldestState_38 (by decide) ?_
  refine z_aload_n X dX2_dropOldestState_39 1 rfl ?_
  refine z_aast (r := (RX0, TX0, 19)) X 1 2 20 0 rfl rfl rfl rfl vi_3_4 cl_3 (w' := wG kI kC kQ o r ad S (va_up (va_up (va_up (va_up (fun j => some (ad (3 + j) 0)) 0 (some (ad 4 0))) 1 (some (ad 5 0))) 2 (some (ad 6 0))) 3 (some (ad 3 0)))) rfl dX2_dropOldestState_40 ?_
  refine z_w (w' := wG kI kC kQ o r ad S (fun j => some (rotA ad (3 + j) 0))) (by rw [rot_f]) ?_
  refine z_perm (w' := wS kI kC kQ o r (rotA ad) (fun i => if i = 3 then S.1 4 else if i = 4 then S.1 5 else if i = 5 then S.1 6 else if i = 6 then S.1 3 else S.1 i, S.2.1, S.2.2)) [0, 1, 2, 3, 4, 5, 6, 7, 8, 9, 10, 11, 12, 13, 14, 15, 16, 17, 18, 19, 25, 26, 27, 28, 29, 30, 31, 32, 33, 34, 35, 36, 37, 38, 39, 20, 21, 22, 23, 24] (by decide) rfl rfl ?_
  refine z_aload_n X dX2_dropOldestState_41 2 rfl ?_
  refine z_iconst (v := (3 : Int32)) X dX2_dropOldestState_42 (by decide) ?_
  refine zS_p5 (ad := rotA ad) X wd1_137 dX2_dropOldestState_43 (fun S_43 eS_43 => ?_)
  exact z_vret X hQ rfl (S_43, rotA ad) rfl eS_43 dX2_dropOldestState_46
