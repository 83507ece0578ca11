section
variable {p : Program} {l : Launch} {e : Env} {R : Room} {s : State} {m : MethodId} {args : Array Value} {below : List Frame} {meth : Method} {c : Code} {D : va_G} {kI kC kQ : ClassId} {A : Nat → Prop} {cc : ByteArray} {nL ce sl : Nat} {ret : Option FieldType} {own : String} {Q : State → Prop} {w : va_W} {lv : List (Nat × Value)} {pc : Nat} {st : List Value} {o r : Nat → Nat} {ad : Nat → Nat → Nat} {S : SLS} {C C2 : CS} {q : Nat → Nat} {wt : va_W}
theorem z_copyi (X : CX p s m args meth c D (tysG kI kC kQ) A cc nL ret own) {index : Nat} (hlink : Cond.methodLink own index arraycopyName ∈ WS) (q0 q1 : Nat) {a0 a n0 n1 : Nat} {f g : Nat → Int32} (ha0 : w[q0]? = some (a0, .inl (kI, n0, .inl f))) (ha1 : w[q1]? = some (a, .inl (kI, n1, .inl g))) {n : Int32} {N : Nat} (h3 : ¬ n < 0) (hN : n.toNatClampNeg = N) (h4 : N ≤ n0) (h5 : N ≤ n1) (hR : 1 ≤ R.frames ∧ (st.map fun v => v.category).sum + (nativeFrameWords "java/lang/System" "arraycopy" 5 + 11) ≤ R.locals) {w' : va_W} (hw : w.set q1 (a, .inl (kI, n1, .inl (va_cpy f g 0 0 N))) = w') (hdg : decode cc pc = .ok (.invokestatic index, 3)) (kk : Z p l e R s m args below meth c D A nL ce sl Q w' lv (pc + 3) st) : Z p l e R s m args below meth c D A nL ce sl Q w lv pc (.int n :: .int 0 :: .ref a :: .int 0 :: .ref a0 :: st) := by
  subst hN
  subst hw
  have e0 : (0 : Int32).toNatClampNeg = 0 := rfl
  intro H locs ls hP hD hS hl
  exact va_copyi X.x X.b (X.ml.trans hl.1.symm) X.ow (X.ts _ hlink) (X.ts _ wd1_177) (X.ts _ wd1_176) (X.ts _ wd1_4) X.K hP hD hS q0 q1 0 0 ha0 ha1 rfl rfl rfl (by decide) (by decide) h3 (by rw [e0]; omega) (by rw [e0]; omega) (fun _ _ => rfl) hR.1 hR.2 hdg (fun H1 locs1 h1 h2 h3 => kk H1 locs1 ls h1 h2 h3 hl)
def sRC (C : CS) (i : Nat) (g : Nat → Int32) : CS := (fun a => if a = i then g else C.1 a, C.2)
def cpL : List Nat := [2, 4, 5, 7, 8, 9, 10, 11, 12, 13, 14, 15, 17, 18]
/-- a circuit that takes another's state -/
def cpC (C C2 : CS) : CS := (fun a => if a = 0 then va_cpy (C2.1 0) (C.1 0) 0 0 8 else if a = 1 then va_cpy (C2.1 1) (C.1 1) 0 0 8 else if a = 2 then va_cpy (C2.1 2) (C.1 2) 0 0 16 else if a = 3 then va_cpy (C2.1 3) (C.1 3) 0 0 7 else if a = 4 then (fun j => if j ∈ cpL then C2.1 4 j else C.1 4 j) else C.1 a, C2.2)
theorem zCt_p2 (X : CX p s m args meth c D (tysG kI kC kQ) A cc nL ret own) {x : Int32} {index : Nat} (hlink : Cond.fieldLink own index "ShadowLatches$Circuit" "paths" "I" ∈ WS) (hdg : decode cc pc = .ok (.putfield index, 3)) (kk : ∀ y : CS, y = sC C 4 2 x → Z p l e R s m args below meth c D A nL ce sl Q (wC kI q y ++ wt) lv (pc + 3) st) : Z p l e R s m args below meth c D A nL ce sl Q (wC kI q C ++ wt) lv pc (.int x :: .ref (q 0) :: st) := z_put X inW0 rfl tyX0 tyX0_ok nmX0 0 rfl 2 (by decide) hlink rfl rfl rfl rfl (Nat.le_of_ble_eq_true rfl) (w' := wC kI q (sC C 4 2 x) ++ wt) rfl hdg (kk _ rfl)
theorem zCt_p4 (X : CX p s m args meth c D (tysG kI kC kQ) A cc nL ret own) {x : Int32} {index : Nat} (hlink : Cond.fieldLink own index "ShadowLatches$Circuit" "setCount" "I" ∈ WS) (hdg : decode cc pc = .ok (.putfield index, 3)) (kk : ∀ y : CS, y = sC C 4 4 x → Z p l e R s m args below meth c D A nL ce sl Q (wC kI q y ++ wt) lv (pc + 3) st) : Z p l e R s m args below meth c D A nL ce sl Q (wC kI q C ++ wt) lv pc (.int x :: .ref (q 0) :: st) := z_put X inW0 rfl tyX0 tyX0_ok nmX0 0 rfl 4 (by decide) hlink rfl rfl rfl rfl (Nat.le_of_ble_eq_true rfl) (w' := wC kI q (sC C 4 4 x) ++ wt) rfl hdg (kk _ rfl)
theorem zCt_p5 (X : CX p s m args meth c D (tysG kI kC kQ) A cc nL ret own) {x : Int32} {index : Nat} (hlink : Cond.fieldLink own index "ShadowLatches$Circuit" "place" "I" ∈ WS) (hdg : decode cc pc = .ok (.putfield index, 3)) (kk : ∀ y : CS, y = sC C 4 5 x → Z p l e R s m args below meth c D A nL ce sl Q (wC kI q y ++ wt) lv (pc + 3) st) : Z p l e R s m args below meth c D A nL ce sl Q (wC kI q C ++ wt) lv pc (.int x :: .ref (q 0) :: st) := z_put X inW0 rfl tyX0 tyX0_ok nmX0 0 rfl 5 (by decide) hlink rfl rfl rfl rfl (Nat.le_of_ble_eq_true rfl) (w' := wC kI q (sC C 4 5 x) ++ wt) rfl hdg (kk _ rfl)
theorem zCt_p7 (X : CX p s m args meth c D (tysG kI kC kQ) A cc nL ret own) {x : Int32} {index : Nat} (hlink : Cond.fieldLink own index "ShadowLatches$Circuit" "voltage" "I" ∈ WS) (hdg : decode cc pc = .ok (.putfield index, 3)) (kk : ∀ y : CS, y = sC C 4 7 x → Z p l e R s m args below meth c D A nL ce sl Q (wC kI q y ++ wt) lv (pc + 3) st) : Z p l e R s m args below meth c D A nL ce sl Q (wC kI q C ++ wt) lv pc (.int x :: .ref (q 0) :: st) := z_put X inW0 rfl tyX0 tyX0_ok nmX0 0 rfl 7 (by decide) hlink rfl rfl rfl rfl (Nat.le_of_ble_eq_true rfl) (w' := wC kI q (sC C 4 7 x) ++ wt) rfl hdg (kk _ rfl)
theorem zCt_p8 (X : CX p s m args meth c D (tysG kI kC kQ) A cc nL ret own) {x : Int32} {index : Nat} (hlink : Cond.fieldLink own index "ShadowLatches$Circuit" "heat" "I" ∈ WS) (hdg : decode cc pc = .ok (.putfield index, 3)) (kk : ∀ y : CS, y = sC C 4 8 x → Z p l e R s m args below meth c D A nL ce sl Q (wC kI q y ++ wt) lv (pc + 3) st) : Z p l e R s m args below meth c D A nL ce sl Q (wC kI q C ++ wt) lv pc (.int x :: .ref (q 0) :: st) := z_put X inW0 rfl tyX0 tyX0_ok nmX0 0 rfl 8 (by decide) hlink rfl rfl rfl rfl (Nat.le_of_ble_eq_true rfl) (w' := wC kI q (sC C 4 8 x) ++ wt) rfl hdg (kk _ rfl)
theorem zCt_p9 (X : CX p s m args meth c D (tysG kI kC kQ) A cc nL ret own) {x : Int32} (hx : x = 0 ∨ x = 1) {index : Nat} (hlink : Cond.fieldLink own index "ShadowLatches$Circuit" "governed" "Z" ∈ WS) (hdg : decode cc pc = .ok (.putfield index, 3)) (kk : ∀ y : CS, y = sC C 4 9 x → Z p l e R s m args below meth c D A nL ce sl Q (wC kI q y ++ wt) lv (pc + 3) st) : Z p l e R s m args below meth c D A nL ce sl Q (wC kI q C ++ wt) lv pc (.int x :: .ref (q 0) :: st) := z_put X inW0 rfl tyX0 tyX0_ok nmX0 0 rfl 9 (by decide) hlink rfl rfl (by rcases hx with rfl | rfl <;> rfl) (by rcases hx with rfl | rfl <;> rfl) (Nat.le_of_ble_eq_true rfl) (w' := wC kI q (sC C 4 9 x) ++ wt) rfl hdg (kk _ rfl)
theorem zCt_p10 (X : CX p s m args meth c D (tysG kI kC kQ) A cc nL ret own) {x : Int32} {index : Nat} (hlink : Cond.fieldLink own index "ShadowLatches$Circuit" "windowCycles" "I" ∈ WS) (hdg : decode cc pc = .ok (.putfield index, 3)) (kk : ∀ y : CS, y = sC C 4 10 x → Z p l e R s m args below meth c D A nL ce sl Q (wC kI q y ++ wt) lv (pc + 3) st) : Z p l e R s m args below meth c D A nL ce sl Q (wC kI q C ++ wt) lv pc (.int x :: .ref (q 0) :: st) := z_put X inW0 rfl tyX0 tyX0_ok nmX0 0 rfl 10 (by decide) hlink rfl rfl rfl rfl (Nat.le_of_ble_eq_true rfl) (w' := wC kI q (sC C 4 10 x) ++ wt) rfl hdg (kk _ rfl)
theorem zCt_p11 (X : CX p s m args meth c D (tysG kI kC kQ) A cc nL ret own) {x : Int32} {index : Nat} (hlink : Cond.fieldLink own index "ShadowLatches$Circuit" "windowComplaints" "I" ∈ WS) (hdg : decode cc pc = .ok (.putfield index, 3)) (kk : ∀ y : CS, y = sC C 4 11 x → Z p l e R s m args below meth c D A nL ce sl Q (wC kI q y ++ wt) lv (pc + 3) st) : Z p l e R s m args below meth c D A nL ce sl Q (wC kI q C ++ wt) lv pc (.int x :: .ref (q 0) :: st) := z_put X inW0 rfl tyX0 tyX0_ok nmX0 0 rfl 11 (by decide) hlink rfl rfl rfl rfl (Nat.le_of_ble_eq_true rfl) (w' := wC kI q (sC C 4 11 x) ++ wt) rfl hdg (kk _ rfl)
theorem zCt_p12 (X : CX p s m args meth c D (tysG kI kC kQ) A cc nL ret own) {x : Int32} {index : Nat} (hlink : Cond.fieldLink own index "ShadowLatches$Circuit" "spent" "I" ∈ WS) (hdg : decode cc pc = .ok (.putfield index, 3)) (kk : ∀ y : CS, y = sC C 4 12 x → Z p l e R s m args below meth c D A nL ce sl Q (wC kI q y ++ wt) lv (pc + 3) st) : Z p l e R s m args below meth c D A nL ce sl Q (wC kI q C ++ wt) lv pc (.int x :: .ref (q 0) :: st) := z_put X inW0 rfl tyX0 tyX0_ok nmX0 0 rfl 12 (by decide) hlink rfl rfl rfl rfl (Nat.le_of_ble_eq_true rfl) (w' := wC kI q (sC C 4 12 x) ++ wt) rfl hdg (kk _ rfl)
theorem zCt_p13 (X : CX p s m args meth c D (tysG kI kC kQ) A cc nL ret own) {x : Int32} {index : Nat} (hlink : Cond.fieldLink own index "ShadowLatches$Circuit" "work" "I" ∈ WS) (hdg : decode cc pc = .ok (.putfield index, 3)) (kk : ∀ y : CS, y = sC C 4 13 x → Z p l e R s m args below meth c D A nL ce sl Q (wC kI q y ++ wt) lv (pc + 3) st) : Z p l e R s m args below meth c D A nL ce sl Q (wC kI q C ++ wt) lv pc (.int x :: .ref (q 0) :: st) := z_put X inW0 rfl tyX0 tyX0_ok nmX0 0 rfl 13 (by decide) hlink rfl rfl rfl rfl (Nat.le_of_ble_eq_true rfl) (w' := wC kI q (sC C 4 13 x) ++ wt) rfl hdg (kk _ rfl)
theorem zCt_p14 (X : CX p s m args meth c D (tysG kI kC kQ) A cc nL ret own) {x : Int32} {index : Nat} (hlink : Cond.fieldLink own index "ShadowLatches$Circuit" "complaints" "I" ∈ WS) (hdg : decode cc pc = .ok (.putfield index, 3)) (kk : ∀ y : CS, y = sC C 4 14 x → Z p l e R s m args below meth c D A nL ce sl Q (wC kI q y ++ wt) lv (pc + 3) st) : Z p l e R s m args below meth c D A nL ce sl Q (wC kI q C ++ wt) lv pc (.int x :: .ref (q 0) :: st) := z_put X inW0 rfl tyX0 tyX0_ok nmX0 0 rfl 14 (by decide) hlink rfl rfl rfl rfl (Nat.le_of_ble_eq_true rfl) (w' := wC kI q (sC C 4 14 x) ++ wt) rfl hdg (kk _ rfl)
theorem zCt_p15 (X : CX p s m args meth c D (tysG kI kC kQ) A cc nL ret own) {x : Int32} {index : Nat} (hlink : Cond.fieldLink own index "ShadowLatches$Circuit" "lost" "I" ∈ WS) (hdg : decode cc pc = .ok (.putfield index, 3)) (kk : ∀ y : CS, y = sC C 4 15 x → Z p l e R s m args below meth c D A nL ce sl Q (wC kI q y ++ wt) lv (pc + 3) st) : Z p l e R s m args below meth c D A nL ce sl Q (wC kI q C ++ wt) lv pc (.int x :: .ref (q 0) :: st) := z_put X inW0 rfl tyX0 tyX0_ok nmX0 0 rfl 15 (by decide) hlink rfl rfl rfl rfl (Nat.le_of_ble_eq_true rfl) (w' := wC kI q (sC C 4 15 x) ++ wt) rfl hdg (kk _ rfl)
theorem zCt_p17 (X : CX p s m args meth c D (tysG kI kC kQ) A cc nL ret own) {x : Int32} {index : Nat} (hlink : Cond.fieldLink own index "ShadowLatches$Circuit" "stepsUp" "I" ∈ WS) (hdg : decode cc pc = .ok (.putfield index, 3)) (kk : ∀ y : CS, y = sC C 4 17 x → Z p l e R s m args below meth c D A nL ce sl Q (wC kI q y ++ wt) lv (pc + 3) st) : Z p l e R s m args below meth c D A nL ce sl Q (wC kI q C ++ wt) lv pc (.int x :: .ref (q 0) :: st) := z_put X inW0 rfl tyX0 tyX0_ok nmX0 0 rfl 17 (by decide) hlink rfl rfl rfl rfl (Nat.le_of_ble_eq_true rfl) (w' := wC kI q (sC C 4 17 x) ++ wt) rfl hdg (kk _ rfl)
theorem zCt_p18 (X : CX p s m args meth c D (tysG kI kC kQ) A cc nL ret own) {x : Int32} {index : Nat} (hlink : Cond.fieldLink own index "ShadowLatches$Circuit" "stepsDown" "I" ∈ WS) (hdg : decode cc pc = .ok (.putfield index, 3)) (kk : ∀ y : CS, y = sC C 4 18 x → Z p l e R s m args below meth c D A nL ce sl Q (wC kI q y ++ wt) lv (pc + 3) st) : Z p l e R s m args below meth c D A nL ce sl Q (wC kI q C ++ wt) lv pc (.int x :: .ref (q 0) :: st) := z_put X inW0 rfl tyX0 tyX0_ok nmX0 0 rfl 18 (by decide) hlink rfl rfl rfl rfl (Nat.le_of_ble_eq_true rfl) (w' := wC kI q (sC C 4 18 x) ++ wt) rfl hdg (kk _ rfl)
theorem zCt_p16 (X : CX p s m args meth c D (tysG kI kC kQ) A cc nL ret own) {x : Int64} {index : Nat} (hlink : Cond.fieldLink own index "ShadowLatches$Circuit" "energy" "J" ∈ WS) (hdg : decode cc pc = .ok (.putfield index, 3)) (kk : ∀ y : CS, y = sE C x → Z p l e R s m args below meth c D A nL ce sl Q (wC kI q y ++ wt) lv (pc + 3) st) : Z p l e R s m args below meth c D A nL ce sl Q (wC kI q C ++ wt) lv pc (.long x :: .ref (q 0) :: st) := z_put X inW0 rfl tyX0 tyX0_ok nmX0 0 rfl 16 (by decide) hlink rfl rfl rfl rfl (Nat.le_of_ble_eq_true rfl) (w' := wC kI q (sE C x) ++ wt) rfl hdg (kk _ rfl)
end
set_option maxRecDepth 100000 in
set_option maxHeartbeats 4000000 in
theorem c_C_copyFrom (l : Launch) (D : va_G) (kI kC kQ : ClassId) (q q2 : Nat → Nat) (C C2 : CS) (hb : C2.1 4 9 = 0 ∨ C2.1 4 9 = 1) : CtV (U := CS) l yX0_copyFrom cX0_copyFrom 2 none { frames := 1, cells := 0, slots := 0, locals := 60 } D (tysG kI kC kQ) (wC kI q C ++ wC kI q2 C2) [.ref (q 0), .ref (q2 0)] (fun u => wC kI q u ++ wC kI q2 C2) (fun u => u = cpC C C2) := by
  refine met_Zv (own := "ShadowLatches$Circuit") (by decide +kernel) rfl (Nat.le_of_ble_eq_true rfl) ?_
  intro p e s m args below meth c A Q X hQ
  show Z p l e { frames := 1, cells := 0, slots := 0, locals := 60 } s m args below meth c D A 2 0 0 Q (wC kI q C ++ wC kI q2 C2) [(0, .ref (q 0)), (1, .ref (q2 0))] 0 []
  refine z_aload_n X dX0_copyFrom_0 1 rfl ?_
  refine z_get X inW0 rfl 5 rfl 0 (by decide) wd1_30 rfl rfl dX0_copyFrom_1 ?_
  refine z_iconst (v := (0 : Int32)) X dX0_copyFrom_4 (by decide) ?_
  refine z_aload_n X dX0_copyFrom_5 0 rfl ?_
  refine z_get X inW0 rfl 0 rfl 0 (by decide) wd1_30 rfl rfl dX0_copyFrom_6 ?_
  refine z_iconst (v := (0 : Int32)) X dX0_copyFrom_9 (by decide) ?_
  refine z_bipush (v := (8 : Int32)) X dX0_copyFrom_10 (by decide) ?_
  refine z_copyi (N := 8) X wd1_175 6 1 rfl rfl (by decide) rfl (by omega) (by omega) ⟨Nat.le_of_ble_eq_true rfl, Nat.le_of_ble_eq_true rfl⟩ (w' := wC kI q (sRC C 0 (va_cpy (C2.1 0) (C.1 0) 0 0 8)) ++ wC kI q2 C2) rfl dX0_copyFrom_12 ?_
  generalize eC_12 : sRC C 0 (va_cpy (C2.1 0) (C.1 0) 0 0 8) = C_12
  refine z_aload_n X dX0_copyFrom_15 1 rfl ?_
  refine z_get X inW0 rfl 5 rfl 1 (by decide) wd1_32 rfl rfl dX0_copyFrom_16 ?_
  refine z_iconst (v := (0 : Int32)) X dX0_copyFrom_19 (by decide) ?_
  refine z_aload_n X dX0_copyFrom_20 0 rfl ?_
  refine z_get X inW0 rfl 0 rfl 1 (by decide) wd1_32 rfl rfl dX0_copyFrom_21 ?_
  refine z_iconst (v := (0 : Int32)) X dX0_copyFrom_24 (by decide) ?_
  refine z_bipush (v := (8 : Int32)) X dX0_copyFrom_25 (by decide) ?_
  refine z_copyi (N := 8) X wd1_175 7 2 rfl rfl (by decide) rfl (by omega) (by omega) ⟨Nat.le_of_ble_eq_true rfl, Nat.le_of_ble_eq_true rfl⟩ (w' := wC kI q (sRC C_12 1 (va_cpy (C2.1 1) (C_12.1 1) 0 0 8)) ++ wC kI q2 C2) rfl dX0_copyFrom_27 ?_
  generalize eC_27 : sRC C_12 1 (va_cpy (C2.1 1) (C_12.1 1) 0 0 8) = C_27
  refine z_aload_n X dX0_copyFrom_30 1 rfl ?_
  refine z_get X inW0 rfl 5 rfl 3 (by decide) wd1_36 rfl rfl dX0_copyFrom_31 ?_
  refine z_iconst (v := (0 : Int32)) X dX0_copyFrom_34 (by decide) ?_
  refine z_aload_n X dX0_copyFrom_35 0 rfl ?_
  refine z_get X inW0 rfl 0 rfl 3 (by decide) wd1_36 rfl rfl dX0_copyFrom_36 ?_
  refine z_iconst (v := (0 : Int32)) X dX0_copyFrom_39 (by decide) ?_
  refine z_bipush (v := (16 : Int32)) X dX0_copyFrom_40 (by decide) ?_
  refine z_copyi (N := 16) X wd1_175 8 3 rfl rfl (by decide) rfl (by omega) (by omega) ⟨Nat.le_of_ble_eq_true rfl, Nat.le_of_ble_eq_true rfl⟩ (w' := wC kI q (sRC C_27 2 (va_cpy (C2.1 2) (C_27.1 2) 0 0 16)) ++ wC kI q2 C2) rfl dX0_copyFrom_42 ?_
  generalize eC_42 : sRC C_27 2 (va_cpy (C2.1 2) (C_27.1 2) 0 0 16) = C_42
  refine z_aload_n X dX0_copyFrom_45 1 rfl ?_
  refine z_get X inW0 rfl 5 rfl 6 (by decide) wd1_42 rfl rfl dX0_copyFrom_46 ?_
  refine z_iconst (v := (0 : Int32)) X dX0_copyFrom_49 (by decide) ?_
  refine z_aload_n X dX0_copyFrom_50 0 rfl ?_
  refine z_get X inW0 rfl 0 rfl 6 (by decide) wd1_42 rfl rfl dX0_copyFrom_51 ?_
  refine z_iconst (v := (0 : Int32)) X dX0_copyFrom_54 (by decide) ?_
  refine z_bipush (v := (7 : Int32)) X dX0_copyFrom_55 (by decide) ?_
  refine z_copyi (N := 7) X wd1_175 9 4 rfl rfl (by decide) rfl (by omega) (by omega) ⟨Nat.le_of_ble_eq_true rfl, Nat.le_of_ble_eq_true rfl⟩ (w' := wC kI q (sRC C_42 3 (va_cpy (C2.1 3) (C_42.1 3) 0 0 7)) ++ wC kI q2 C2) rfl dX0_copyFrom_57 ?_
  generalize eC_57 : sRC C_42 3 (va_cpy (C2.1 3) (C_42.1 3) 0 0 7) = C_57
  refine z_aload_n X dX0_copyFrom_60 0 rfl ?_
  refine z_aload_n X dX0_copyFrom_61 1 rfl ?_
  refine z_get X inW0 rfl 5 rfl 2 (by decide) wd1_34 rfl rfl dX0_copyFrom_62 ?_
  refine zCt_p2 X wd1_34 dX0_copyFrom_65 (fun C_65 eC_65 => ?_)
  refine z_aload_n X dX0_copyFrom_68 0 rfl ?_
  refine z_aload_n X dX0_copyFrom_69 1 rfl ?_
  refine z_get X inW0 rfl 5 rfl 4 (by decide) wd1_38 rfl rfl dX0_copyFrom_70 ?_
  refine zCt_p4 X wd1_38 dX0_copyFrom_73 (fun C_73 eC_73 => ?_)
  refine z_aload_n X dX0_copyFrom_76 0 rfl ?_
  refine z_aload_n X dX0_copyFrom_77 1 rfl ?_
  refine z_get X inW0 rfl 5 rfl 5 (by decide) wd1_40 rfl rfl dX0_copyFrom_78 ?_
  refine zCt_p5 X wd1_40 dX0_copyFrom_81 (fun C_81 eC_81 => ?_)
  refine z_aload_n X dX0_copyFrom_84 0 rfl ?_
  refine z_aload_n X dX0_copyFrom_85 1 rfl ?_
  refine z_get X inW0 rfl 5 rfl 7 (by decide) wd1_44 rfl rfl dX0_copyFrom_86 ?_
  refine zCt_p7 X wd1_44 dX0_copyFrom_89 (fun C_89 eC_89 => ?_)
  refine z_aload_n X dX0_copyFrom_92 0 rfl ?_
  refine z_aload_n X dX0_copyFrom_93 1 rfl ?_
  refine z_get X inW0 rfl 5 rfl 8 (by decide) wd1_46 rfl rfl dX0_copyFrom_94 ?_
  refine zCt_p8 X wd1_46 dX0_copyFrom_97 (fun C_97 eC_97 => ?_)
  refine z_aload_n X dX0_copyFrom_100 0 rfl ?_
  refine z_aload_n X dX0_copyFrom_101 1 rfl ?_
  refine z_get X inW0 rfl 5 rfl 9 (by decide) wd1_48 rfl rfl dX0_copyFrom_102 ?_
  refine zCt_p9 X hb wd1_48 dX0_copyFrom_105 (fun C_105 eC_105 => ?_)
  refine z_aload_n X dX0_copyFrom_108 0 rfl ?_
  refine z_aload_n X dX0_copyFrom_109 1 rfl ?_
  refine z_get X inW0 rfl 5 rfl 10 (by decide) wd1_50 rfl rfl dX0_copyFrom_110 ?_
  refine zCt_p10 X wd1_50 dX0_copyFrom_113 (fun C_113 eC_113 => ?_)
  refine z_aload_n X dX0_copyFrom_116 0 rfl ?_
  refine z_aload_n X dX0_copyFrom_117 1 rfl ?_
  refine z_get X inW0 rfl 5 rfl 11 (by decide) wd1_52 rfl rfl dX0_copyFrom_118 ?_
  refine zCt_p11 X wd1_52 dX0_copyFrom_121 (fun C_121 eC_121 => ?_)
  refine z_aload_n X dX0_copyFrom_124 0 rfl ?_
  refine z_aload_n X dX0_copyFrom_125 1 rfl ?_
  refine z_get X inW0 rfl 5 rfl 12 (by decide) wd1_54 rfl rfl dX0_copyFrom_126 ?_
  refine zCt_p12 X wd1_54 dX0_copyFrom_129 (fun C_129 eC_129 => ?_)
  refine z_aload_n X dX0_copyFrom_132 0 rfl ?_
  refine z_aload_n X dX0_copyFrom_133 1 rfl ?_
  refine z_get X inW0 rfl 5 rfl 13 (by decide) wd1_56 rfl rfl dX0_copyFrom_134 ?_
  refine zCt_p13 X wd1_56 dX0_copyFrom_137 (fun C_137 eC_137 => ?_)
  refine z_aload_n X dX0_copyFrom_140 0 rfl ?_
  refine z_aload_n X dX0_copyFrom_141 1 rfl ?_
  refine z_get X inW0 rfl 5 rfl 14 (by decide) wd1_58 rfl rfl dX0_copyFrom_142 ?_
  refine zCt_p14 X wd1_58 dX0_copyFrom_145 (fun C_145 eC_145 => ?_)
  refine z_aload_n X dX0_copyFrom_148 0 rfl ?_
  refine z_aload_n X dX0_copyFrom_149 1 rfl ?_
  refine z_get X inW0 rfl 5 rfl 15 (by decide) wd1_60 rfl rfl dX0_copyFrom_150 ?_
  refine zCt_p15 X wd1_60 dX0_copyFrom_153 (fun C_153 eC_153 => ?_)
  refine z_aload_n X dX0_copyFrom_156 0 rfl ?_
  refine z_aload_n X dX0_copyFrom_157 1 rfl ?_
  refine z_get X inW0 rfl 5 rfl 16 (by decide) wd1_62 rfl rfl dX0_copyFrom_158 ?_
  refine zCt_p16 X wd1_62 dX0_copyFrom_161 (fun C_161 eC_161 => ?_)
  refine z_aload_n X dX0_copyFrom_164 0 rfl ?_
  refine z_aload_n X dX0_copyFrom_165 1 rfl ?_
  refine z_get X inW0 rfl 5 rfl 17 (by decide) wd1_64 rfl rfl dX0_copyFrom_166 ?_
  refine zCt_p17 X wd1_64 dX0_copyFrom_169 (fun C_169 eC_169 => ?_)
  refine z_aload_n X dX0_copyFrom_172 0 rfl ?_
  refine z_aload_n X dX0_copyFrom_173 1 rfl ?_
  refine z_get X inW0 rfl 5 rfl 18 (by decide) wd1_66 rfl rfl dX0_copyFrom_174 ?_
  refine zCt_p18 X wd1_66 dX0_copyFrom_177 (fun C_177 eC_177 => ?_)
  refine z_vret X hQ rfl C_177 rfl ?_ dX0_copyFrom_180
  subst eC_12 eC_27 eC_42 eC_57 eC_65 eC_73 eC_81 eC_89 eC_97 eC_105 eC_113 eC_121 eC_129 eC_137 eC_145 eC_153 eC_161 eC_169 eC_177
  refine Prod.ext ?_ rfl
  funext i
  match i with
  | 0 => rfl
  | 1 => rfl
  | 2 => rfl
  | 3 => rfl
  | 4 =>
    funext j
    show _ = if j ∈ cpL then C2.1 4 j else C.1 4 j
    by_cases hj : j ∈ cpL
    · rw [if_pos hj]
      simp only [cpL, List.mem_cons, List.not_mem_nil, or_false] at hj
      rcases hj with rfl | rfl | rfl | rfl | rfl | rfl | rfl | rfl | rfl | rfl | rfl | rfl | rfl | rfl <;> rfl
    · rw [if_neg hj]
      simp only [cpL, List.mem_cons, List.not_mem_nil, or_false, not_or] at hj
      obtain ⟨h2, h4, h5, h7, h8, h9, h10, h11, h12, h13, h14, h15, h17, h18⟩ := hj
      simp [sC, sA, sE, sRC, upd, h2, h4, h5, h7, h8, h9, h10, h11, h12, h13, h14, h15, h17, h18]
  | n + 5 => rfl
