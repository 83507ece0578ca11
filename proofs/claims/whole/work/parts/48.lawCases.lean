theorem k_S_addPath : yX2_addPath.cls = "ShadowLatches" ∧ yX2_addPath.cls ≠ "java/lang/invoke/MethodHandle" ∧ yX2_addPath.cls ≠ "java/lang/invoke/VarHandle" ∧ (parseMethodDescriptor yX2_addPath.desc).map (fun d => d.parameters.length) = some 1 := by decide +kernel
theorem k_M_addPath : yX3_addPath.cls = "ShadowLatchesModel" ∧ yX3_addPath.cls ≠ "java/lang/invoke/MethodHandle" ∧ yX3_addPath.cls ≠ "java/lang/invoke/VarHandle" ∧ (parseMethodDescriptor yX3_addPath.desc).map (fun d => d.parameters.length) = some 1 := by decide +kernel
theorem k_S_setLength : yX2_setLength.cls = "ShadowLatches" ∧ yX2_setLength.cls ≠ "java/lang/invoke/MethodHandle" ∧ yX2_setLength.cls ≠ "java/lang/invoke/VarHandle" ∧ (parseMethodDescriptor yX2_setLength.desc).map (fun d => d.parameters.length) = some 2 := by decide +kernel
theorem k_M_setLength : yX3_setLength.cls = "ShadowLatchesModel" ∧ yX3_setLength.cls ≠ "java/lang/invoke/MethodHandle" ∧ yX3_setLength.cls ≠ "java/lang/invoke/VarHandle" ∧ (parseMethodDescriptor yX3_setLength.desc).map (fun d => d.parameters.length) = some 2 := by decide +kernel
theorem k_S_takeWorkload : yX2_takeWorkload.cls = "ShadowLatches" ∧ yX2_takeWorkload.cls ≠ "java/lang/invoke/MethodHandle" ∧ yX2_takeWorkload.cls ≠ "java/lang/invoke/VarHandle" ∧ (parseMethodDescriptor yX2_takeWorkload.desc).map (fun d => d.parameters.length) = some 0 := by decide +kernel
theorem k_M_takeWorkload : yX3_takeWorkload.cls = "ShadowLatchesModel" ∧ yX3_takeWorkload.cls ≠ "java/lang/invoke/MethodHandle" ∧ yX3_takeWorkload.cls ≠ "java/lang/invoke/VarHandle" ∧ (parseMethodDescriptor yX3_takeWorkload.desc).map (fun d => d.parameters.length) = some 0 := by decide +kernel
theorem k_S_layWorkload : yX2_layWorkload.cls = "ShadowLatches" ∧ yX2_layWorkload.cls ≠ "java/lang/invoke/MethodHandle" ∧ yX2_layWorkload.cls ≠ "java/lang/invoke/VarHandle" ∧ (parseMethodDescriptor yX2_layWorkload.desc).map (fun d => d.parameters.length) = some 2 := by decide +kernel
theorem k_M_layWorkload : yX3_layWorkload.cls = "ShadowLatchesModel" ∧ yX3_layWorkload.cls ≠ "java/lang/invoke/MethodHandle" ∧ yX3_layWorkload.cls ≠ "java/lang/invoke/VarHandle" ∧ (parseMethodDescriptor yX3_layWorkload.desc).map (fun d => d.parameters.length) = some 2 := by decide +kernel
theorem k_S_setVoltage : yX2_setVoltage.cls = "ShadowLatches" ∧ yX2_setVoltage.cls ≠ "java/lang/invoke/MethodHandle" ∧ yX2_setVoltage.cls ≠ "java/lang/invoke/VarHandle" ∧ (parseMethodDescriptor yX2_setVoltage.desc).map (fun d => d.parameters.length) = some 1 := by decide +kernel
theorem k_M_setVoltage : yX3_setVoltage.cls = "ShadowLatchesModel" ∧ yX3_setVoltage.cls ≠ "java/lang/invoke/MethodHandle" ∧ yX3_setVoltage.cls ≠ "java/lang/invoke/VarHandle" ∧ (parseMethodDescriptor yX3_setVoltage.desc).map (fun d => d.parameters.length) = some 1 := by decide +kernel
theorem k_S_govern : yX2_govern.cls = "ShadowLatches" ∧ yX2_govern.cls ≠ "java/lang/invoke/MethodHandle" ∧ yX2_govern.cls ≠ "java/lang/invoke/VarHandle" ∧ (parseMethodDescriptor yX2_govern.desc).map (fun d => d.parameters.length) = some 1 := by decide +kernel
theorem k_M_govern : yX3_govern.cls = "ShadowLatchesModel" ∧ yX3_govern.cls ≠ "java/lang/invoke/MethodHandle" ∧ yX3_govern.cls ≠ "java/lang/invoke/VarHandle" ∧ (parseMethodDescriptor yX3_govern.desc).map (fun d => d.parameters.length) = some 1 := by decide +kernel
theorem k_S_set : yX2_set.cls = "ShadowLatches" ∧ yX2_set.cls ≠ "java/lang/invoke/MethodHandle" ∧ yX2_set.cls ≠ "java/lang/invoke/VarHandle" ∧ (parseMethodDescriptor yX2_set.desc).map (fun d => d.parameters.length) = some 2 := by decide +kernel
theorem k_M_set : yX3_set.cls = "ShadowLatchesModel" ∧ yX3_set.cls ≠ "java/lang/invoke/MethodHandle" ∧ yX3_set.cls ≠ "java/lang/invoke/VarHandle" ∧ (parseMethodDescriptor yX3_set.desc).map (fun d => d.parameters.length) = some 2 := by decide +kernel
theorem k_S_run : yX2_run.cls = "ShadowLatches" ∧ yX2_run.cls ≠ "java/lang/invoke/MethodHandle" ∧ yX2_run.cls ≠ "java/lang/invoke/VarHandle" ∧ (parseMethodDescriptor yX2_run.desc).map (fun d => d.parameters.length) = some 1 := by decide +kernel
theorem k_M_run : yX3_run.cls = "ShadowLatchesModel" ∧ yX3_run.cls ≠ "java/lang/invoke/MethodHandle" ∧ yX3_run.cls ≠ "java/lang/invoke/VarHandle" ∧ (parseMethodDescriptor yX3_run.desc).map (fun d => d.parameters.length) = some 1 := by decide +kernel
theorem k_S_type : yX2_type.cls = "ShadowLatches" ∧ yX2_type.cls ≠ "java/lang/invoke/MethodHandle" ∧ yX2_type.cls ≠ "java/lang/invoke/VarHandle" ∧ (parseMethodDescriptor yX2_type.desc).map (fun d => d.parameters.length) = some 1 := by decide +kernel
theorem k_M_type : yX3_type.cls = "ShadowLatchesModel" ∧ yX3_type.cls ≠ "java/lang/invoke/MethodHandle" ∧ yX3_type.cls ≠ "java/lang/invoke/VarHandle" ∧ (parseMethodDescriptor yX3_type.desc).map (fun d => d.parameters.length) = some 1 := by decide +kernel
theorem k_S_clearText : yX2_clearText.cls = "ShadowLatches" ∧ yX2_clearText.cls ≠ "java/lang/invoke/MethodHandle" ∧ yX2_clearText.cls ≠ "java/lang/invoke/VarHandle" ∧ (parseMethodDescriptor yX2_clearText.desc).map (fun d => d.parameters.length) = some 0 := by decide +kernel
theorem k_M_clearText : yX3_clearText.cls = "ShadowLatchesModel" ∧ yX3_clearText.cls ≠ "java/lang/invoke/MethodHandle" ∧ yX3_clearText.cls ≠ "java/lang/invoke/VarHandle" ∧ (parseMethodDescriptor yX3_clearText.desc).map (fun d => d.parameters.length) = some 0 := by decide +kernel
theorem k_S_undo : yX2_undo.cls = "ShadowLatches" ∧ yX2_undo.cls ≠ "java/lang/invoke/MethodHandle" ∧ yX2_undo.cls ≠ "java/lang/invoke/VarHandle" ∧ (parseMethodDescriptor yX2_undo.desc).map (fun d => d.parameters.length) = some 0 := by decide +kernel
theorem k_M_undo : yX3_undo.cls = "ShadowLatchesModel" ∧ yX3_undo.cls ≠ "java/lang/invoke/MethodHandle" ∧ yX3_undo.cls ≠ "java/lang/invoke/VarHandle" ∧ (parseMethodDescriptor yX3_undo.desc).map (fun d => d.parameters.length) = some 0 := by decide +kernel
theorem k_S_keep : yX2_keep.cls = "ShadowLatches" ∧ yX2_keep.cls ≠ "java/lang/invoke/MethodHandle" ∧ yX2_keep.cls ≠ "java/lang/invoke/VarHandle" ∧ (parseMethodDescriptor yX2_keep.desc).map (fun d => d.parameters.length) = some 0 := by decide +kernel
theorem k_M_keep : yX3_keep.cls = "ShadowLatchesModel" ∧ yX3_keep.cls ≠ "java/lang/invoke/MethodHandle" ∧ yX3_keep.cls ≠ "java/lang/invoke/VarHandle" ∧ (parseMethodDescriptor yX3_keep.desc).map (fun d => d.parameters.length) = some 0 := by decide +kernel
theorem k_S_restore : yX2_restore.cls = "ShadowLatches" ∧ yX2_restore.cls ≠ "java/lang/invoke/MethodHandle" ∧ yX2_restore.cls ≠ "java/lang/invoke/VarHandle" ∧ (parseMethodDescriptor yX2_restore.desc).map (fun d => d.parameters.length) = some 0 := by decide +kernel
theorem k_M_restore : yX3_restore.cls = "ShadowLatchesModel" ∧ yX3_restore.cls ≠ "java/lang/invoke/MethodHandle" ∧ yX3_restore.cls ≠ "java/lang/invoke/VarHandle" ∧ (parseMethodDescriptor yX3_restore.desc).map (fun d => d.parameters.length) = some 0 := by decide +kernel
theorem k_S_path : yX2_path.cls = "ShadowLatches" ∧ yX2_path.cls ≠ "java/lang/invoke/MethodHandle" ∧ yX2_path.cls ≠ "java/lang/invoke/VarHandle" ∧ (parseMethodDescriptor yX2_path.desc).map (fun d => d.parameters.length) = some 2 := by decide +kernel
theorem k_M_path : yX3_path.cls = "ShadowLatchesModel" ∧ yX3_path.cls ≠ "java/lang/invoke/MethodHandle" ∧ yX3_path.cls ≠ "java/lang/invoke/VarHandle" ∧ (parseMethodDescriptor yX3_path.desc).map (fun d => d.parameters.length) = some 2 := by decide +kernel
theorem k_S_delay : yX2_delay.cls = "ShadowLatches" ∧ yX2_delay.cls ≠ "java/lang/invoke/MethodHandle" ∧ yX2_delay.cls ≠ "java/lang/invoke/VarHandle" ∧ (parseMethodDescriptor yX2_delay.desc).map (fun d => d.parameters.length) = some 3 := by decide +kernel
theorem k_M_delay : yX3_delay.cls = "ShadowLatchesModel" ∧ yX3_delay.cls ≠ "java/lang/invoke/MethodHandle" ∧ yX3_delay.cls ≠ "java/lang/invoke/VarHandle" ∧ (parseMethodDescriptor yX3_delay.desc).map (fun d => d.parameters.length) = some 3 := by decide +kernel
theorem k_S_workload : yX2_workload.cls = "ShadowLatches" ∧ yX2_workload.cls ≠ "java/lang/invoke/MethodHandle" ∧ yX2_workload.cls ≠ "java/lang/invoke/VarHandle" ∧ (parseMethodDescriptor yX2_workload.desc).map (fun d => d.parameters.length) = some 1 := by decide +kernel
theorem k_M_workload : yX3_workload.cls = "ShadowLatchesModel" ∧ yX3_workload.cls ≠ "java/lang/invoke/MethodHandle" ∧ yX3_workload.cls ≠ "java/lang/invoke/VarHandle" ∧ (parseMethodDescriptor yX3_workload.desc).map (fun d => d.parameters.length) = some 1 := by decide +kernel
theorem k_S_least : yX2_least.cls = "ShadowLatches" ∧ yX2_least.cls ≠ "java/lang/invoke/MethodHandle" ∧ yX2_least.cls ≠ "java/lang/invoke/VarHandle" ∧ (parseMethodDescriptor yX2_least.desc).map (fun d => d.parameters.length) = some 1 := by decide +kernel
theorem k_M_least : yX3_least.cls = "ShadowLatchesModel" ∧ yX3_least.cls ≠ "java/lang/invoke/MethodHandle" ∧ yX3_least.cls ≠ "java/lang/invoke/VarHandle" ∧ (parseMethodDescriptor yX3_least.desc).map (fun d => d.parameters.length) = some 1 := by decide +kernel
theorem k_S_would : yX2_would.cls = "ShadowLatches" ∧ yX2_would.cls ≠ "java/lang/invoke/MethodHandle" ∧ yX2_would.cls ≠ "java/lang/invoke/VarHandle" ∧ (parseMethodDescriptor yX2_would.desc).map (fun d => d.parameters.length) = some 3 := by decide +kernel
theorem k_M_would : yX3_would.cls = "ShadowLatchesModel" ∧ yX3_would.cls ≠ "java/lang/invoke/MethodHandle" ∧ yX3_would.cls ≠ "java/lang/invoke/VarHandle" ∧ (parseMethodDescriptor yX3_would.desc).map (fun d => d.parameters.length) = some 3 := by decide +kernel
theorem k_S_best : yX2_best.cls = "ShadowLatches" ∧ yX2_best.cls ≠ "java/lang/invoke/MethodHandle" ∧ yX2_best.cls ≠ "java/lang/invoke/VarHandle" ∧ (parseMethodDescriptor yX2_best.desc).map (fun d => d.parameters.length) = some 1 := by decide +kernel
theorem k_M_best : yX3_best.cls = "ShadowLatchesModel" ∧ yX3_best.cls ≠ "java/lang/invoke/MethodHandle" ∧ yX3_best.cls ≠ "java/lang/invoke/VarHandle" ∧ (parseMethodDescriptor yX3_best.desc).map (fun d => d.parameters.length) = some 1 := by decide +kernel
theorem k_S_count : yX2_count.cls = "ShadowLatches" ∧ yX2_count.cls ≠ "java/lang/invoke/MethodHandle" ∧ yX2_count.cls ≠ "java/lang/invoke/VarHandle" ∧ (parseMethodDescriptor yX2_count.desc).map (fun d => d.parameters.length) = some 1 := by decide +kernel
theorem k_M_count : yX3_count.cls = "ShadowLatchesModel" ∧ yX3_count.cls ≠ "java/lang/invoke/MethodHandle" ∧ yX3_count.cls ≠ "java/lang/invoke/VarHandle" ∧ (parseMethodDescriptor yX3_count.desc).map (fun d => d.parameters.length) = some 1 := by decide +kernel
section
variable {p : Program} {l : Launch} {e : Env} {s : State} {m : MethodId} {args : Array Value} {below : List Frame} {meth : Method} {c : Code} {D : va_G} {kI kC kQ : ClassId} {ty : List (ClassId × FieldType)} {A : Nat → Prop} {ce sl i B : Nat} {ret : Option FieldType} {Q : State → Prop} {o r mo : Nat → Nat} {ad : ADT} {S : SLS} {M : ARR} {b L : Nat} {xs : Nat → Int32} {W1 : va_W}
theorem law_c0 (X : CX p s m args meth c D (tysG kI kC kQ) A cL_law 4 ret "ShadowLatchesLaw") (hX : va_X b L xs s s.heap) (hbl : b < s.heap.size) (hbA : ¬ A b) (hcs : ce ≤ room_1.cells ∧ sl ≤ room_1.slots) (hL : L ≤ 2048) (hi : i + 4 ≤ L) (hB : B < 2 ^ 63) (h : RS B S M) (kk : ∀ (S' : SLS) (M' : ARR) (ad' : ADT), RS (B + 6336000) S' M' → Z p l e room_1 s m args below meth c D A 4 ce sl Q (wS kI kC kQ o r ad' S' ++ wM kI mo M') [(3, .int (nI i)), (2, .ref (mo 0)), (1, .ref (o 0)), (0, .ref b)] 652 []) : Z p l e room_1 s m args below meth c D A 4 ce sl Q (wS kI kC kQ o r ad S ++ wM kI mo M) [(3, .int (nI i)), (2, .ref (mo 0)), (1, .ref (o 0)), (0, .ref b)] 128 [] := by
  refine z_aload_n X dL_law_128 2 rfl ?_
  refine z_aload_n X dL_law_129 3 rfl ?_
  refine z_iload_n X dL_law_130 0 rfl ?_
  refine z_iconst (v := (1 : Int32)) X dL_law_131 (by decide) ?_
  refine z_iadd X dL_law_132 ?_
  refine z_sld X hX hbl hbA (sx hi hL 1 (by omega)) dL_law_133 ?_
  refine zL_S X (c_S_addPath l D kI kC kQ o r ad S (xs (i + 1)) h.ok) (gV wd1_155 wd1_156 wd1_157 wd1_1 wd1_158) k_S_addPath rfl rfl ⟨(Nat.le_of_ble_eq_true rfl), (Nat.le_of_ble_eq_true rfl)⟩ hcs rfl rfl (Nat.le_of_ble_eq_true rfl) dL_law_134 (fun u hu => ?_)
  obtain ⟨u, ad1⟩ := u
  have hu : u = (F_S_addPath S (xs (i + 1))) := hu
  subst hu
  refine z_w (w' := wS kI kC kQ o r ad1 (F_S_addPath S (xs (i + 1))).2 ++ wM kI mo M) rfl ?_
  refine z_aload_n X dL_law_137 1 rfl ?_
  refine z_aload_n X dL_law_138 3 rfl ?_
  refine z_iload_n X dL_law_139 0 rfl ?_
  refine z_iconst (v := (1 : Int32)) X dL_law_140 (by decide) ?_
  refine z_iadd X dL_law_141 ?_
  refine z_sld X hX hbl hbA (sx hi hL 1 (by omega)) dL_law_142 ?_
  refine zL_M X (W1 := wS kI kC kQ o r ad1 (F_S_addPath S (xs (i + 1))).2) (c_M_addPath l D kI kC kQ mo M (xs (i + 1)) h.I h.h4) (gV wd2_163 wd2_164 wd2_165 wd1_4 wd2_166) k_M_addPath rfl rfl ⟨(Nat.le_of_ble_eq_true rfl), (Nat.le_of_ble_eq_true rfl)⟩ hcs rfl rfl (Nat.le_of_ble_eq_true rfl) dL_law_143 (fun v hv => ?_)
  have hv : v = (F_M_addPath M (xs (i + 1))) := hv
  subst hv
  refine z_w (w' := wS kI kC kQ o r ad1 (F_S_addPath S (xs (i + 1))).2 ++ wM kI mo (F_M_addPath M (xs (i + 1))).2) rfl ?_
  obtain ⟨e1, e2⟩ := sim_addPath h (xs (i + 1))
  refine z_icmp_eq (tgt := 652) X dL_law_146 (by decide) (fun _ => ?_) (fun c => absurd e1 c)
  exact kk (F_S_addPath S (xs (i + 1))).2 (F_M_addPath M (xs (i + 1))).2 ad1 (e2.up (by omega))
theorem law_c1 (X : CX p s m args meth c D (tysG kI kC kQ) A cL_law 4 ret "ShadowLatchesLaw") (hX : va_X b L xs s s.heap) (hbl : b < s.heap.size) (hbA : ¬ A b) (hcs : ce ≤ room_1.cells ∧ sl ≤ room_1.slots) (hL : L ≤ 2048) (hi : i + 4 ≤ L) (hB : B < 2 ^ 63) (h : RS B S M) (kk : ∀ (S' : SLS) (M' : ARR) (ad' : ADT), RS (B + 6336000) S' M' → Z p l e room_1 s m args below meth c D A 4 ce sl Q (wS kI kC kQ o r ad' S' ++ wM kI mo M') [(3, .int (nI i)), (2, .ref (mo 0)), (1, .ref (o 0)), (0, .ref b)] 652 []) : Z p l e room_1 s m args below meth c D A 4 ce sl Q (wS kI kC kQ o r ad S ++ wM kI mo M) [(3, .int (nI i)), (2, .ref (mo 0)), (1, .ref (o 0)), (0, .ref b)] 151 [] := by
  refine z_aload_n X dL_law_151 2 rfl ?_
  refine z_aload_n X dL_law_152 3 rfl ?_
  refine z_iload_n X dL_law_153 0 rfl ?_
  refine z_iconst (v := (1 : Int32)) X dL_law_154 (by decide) ?_
  refine z_iadd X dL_law_155 ?_
  refine z_sld X hX hbl hbA (sx hi hL 1 (by omega)) dL_law_156 ?_
  refine z_aload_n X dL_law_157 3 rfl ?_
  refine z_iload_n X dL_law_158 0 rfl ?_
  refine z_iconst (v := (2 : Int32)) X dL_law_159 (by decide) ?_
  refine z_iadd X dL_law_160 ?_
  refine z_sld X hX hbl hbA (sx hi hL 2 (by omega)) dL_law_161 ?_
  refine zL_S X (c_S_setLength l D kI kC kQ o r ad S (xs (i + 1)) (xs (i + 2)) h.ok) (gV wd1_180 wd1_181 wd1_182 wd1_1 wd1_183) k_S_setLength rfl rfl ⟨(Nat.le_of_ble_eq_true rfl), (Nat.le_of_ble_eq_true rfl)⟩ hcs rfl rfl (Nat.le_of_ble_eq_true rfl) dL_law_162 (fun u hu => ?_)
  obtain ⟨u, ad1⟩ := u
  have hu : u = (F_S_setLength S (xs (i + 1)) (xs (i + 2))) := hu
  subst hu
  refine z_w (w' := wS kI kC kQ o r ad1 (F_S_setLength S (xs (i + 1)) (xs (i + 2))).2 ++ wM kI mo M) rfl ?_
  refine z_aload_n X dL_law_165 1 rfl ?_
  refine z_aload_n X dL_law_166 3 rfl ?_
  refine z_iload_n X dL_law_167 0 rfl ?_
  refine z_iconst (v := (1 : Int32)) X dL_law_168 (by decide) ?_
  refine z_iadd X dL_law_169 ?_
  refine z_sld X hX hbl hbA (sx hi hL 1 (by omega)) dL_law_170 ?_
  refine z_aload_n X dL_law_171 3 rfl ?_
  refine z_iload_n X dL_law_172 0 rfl ?_
  refine z_iconst (v := (2 : Int32)) X dL_law_173 (by decide) ?_
  refine z_iadd X dL_law_174 ?_
  refine z_sld X hX hbl hbA (sx hi hL 2 (by omega)) dL_law_175 ?_
  refine zL_M X (W1 := wS kI kC kQ o r ad1 (F_S_setLength S (xs (i + 1)) (xs (i + 2))).2) (c_M_setLength l D kI kC kQ mo M (xs (i + 1)) (xs (i + 2)) h.I h.h4) (gV wd2_186 wd2_187 wd2_188 wd1_4 wd2_189) k_M_setLength rfl rfl ⟨(Nat.le_of_ble_eq_true rfl), (Nat.le_of_ble_eq_true rfl)⟩ hcs rfl rfl (Nat.le_of_ble_eq_true rfl) dL_law_176 (fun v hv => ?_)
  have hv : v = (F_M_setLength M (xs (i + 1)) (xs (i + 2))) := hv
  subst hv
  refine z_w (w' := wS kI kC kQ o r ad1 (F_S_setLength S (xs (i + 1)) (xs (i + 2))).2 ++ wM kI mo (F_M_setLength M (xs (i + 1)) (xs (i + 2))).2) rfl ?_
  obtain ⟨e1, e2⟩ := sim_setLength h (xs (i + 1)) (xs (i + 2))
  refine z_icmp_eq (tgt := 652) X dL_law_179 (by decide) (fun _ => ?_) (fun c => absurd e1 c)
  exact kk (F_S_setLength S (xs (i + 1)) (xs (i + 2))).2 (F_M_setLength M (xs (i + 1)) (xs (i + 2))).2 ad1 (e2.up (by omega))
theorem law_c2 (X : CX p s m args meth c D (tysG kI kC kQ) A cL_law 4 ret "ShadowLatchesLaw") (hX : va_X b L xs s s.heap) (hbl : b < s.heap.size) (hbA : ¬ A b) (hcs : ce ≤ room_1.cells ∧ sl ≤ room_1.slots) (hL : L ≤ 2048) (hi : i + 4 ≤ L) (hB : B < 2 ^ 63) (h : RS B S M) (kk : ∀ (S' : SLS) (M' : ARR) (ad' : ADT), RS (B + 6336000) S' M' → Z p l e room_1 s m args below meth c D A 4 ce sl Q (wS kI kC kQ o r ad' S' ++ wM kI mo M') [(3, .int (nI i)), (2, .ref (mo 0)), (1, .ref (o 0)), (0, .ref b)] 652 []) : Z p l e room_1 s m args below meth c D A 4 ce sl Q (wS kI kC kQ o r ad S ++ wM kI mo M) [(3, .int (nI i)), (2, .ref (mo 0)), (1, .ref (o 0)), (0, .ref b)] 184 [] := by
  refine z_aload_n X dL_law_184 2 rfl ?_
  refine zL_S X (c_S_takeWorkload l D kI kC kQ o r ad S h.ok) (gV wd1_188 wd1_189 wd1_190 wd1_1 wd1_191) k_S_takeWorkload rfl rfl ⟨(Nat.le_of_ble_eq_true rfl), (Nat.le_of_ble_eq_true rfl)⟩ hcs rfl rfl (Nat.le_of_ble_eq_true rfl) dL_law_185 (fun u hu => ?_)
  obtain ⟨u, ad1⟩ := u
  have hu : u = (F_S_takeWorkload S) := hu
  subst hu
  refine z_w (w' := wS kI kC kQ o r ad1 (F_S_takeWorkload S).2 ++ wM kI mo M) rfl ?_
  refine z_aload_n X dL_law_188 1 rfl ?_
  refine zL_M X (W1 := wS kI kC kQ o r ad1 (F_S_takeWorkload S).2) (c_M_takeWorkload l D kI kC kQ mo M h.I h.h4 h.t6) (gV wd2_219 wd2_220 wd2_221 wd1_4 wd2_222) k_M_takeWorkload rfl rfl ⟨(Nat.le_of_ble_eq_true rfl), (Nat.le_of_ble_eq_true rfl)⟩ hcs rfl rfl (Nat.le_of_ble_eq_true rfl) dL_law_189 (fun v hv => ?_)
  have hv : v = (F_M_takeWorkload M) := hv
  subst hv
  refine z_w (w' := wS kI kC kQ o r ad1 (F_S_takeWorkload S).2 ++ wM kI mo (F_M_takeWorkload M).2) rfl ?_
  obtain ⟨e1, e2⟩ := sim_takeWorkload h
  refine z_icmp_eq (tgt := 652) X dL_law_192 (by decide) (fun _ => ?_) (fun c => absurd e1 c)
  exact kk (F_S_takeWorkload S).2 (F_M_takeWorkload M).2 ad1 (e2.up (by omega))
theorem law_c3 (X : CX p s m args meth c D (tysG kI kC kQ) A cL_law 4 ret "ShadowLatchesLaw") (hX : va_X b L xs s s.heap) (hbl : b < s.heap.size) (hbA : ¬ A b) (hcs : ce ≤ room_1.cells ∧ sl ≤ room_1.slots) (hL : L ≤ 2048) (hi : i + 4 ≤ L) (hB : B < 2 ^ 63) (h : RS B S M) (kk : ∀ (S' : SLS) (M' : ARR) (ad' : ADT), RS (B + 6336000) S' M' → Z p l e room_1 s m args below meth c D A 4 ce sl Q (wS kI kC kQ o r ad' S' ++ wM kI mo M') [(3, .int (nI i)), (2, .ref (mo 0)), (1, .ref (o 0)), (0, .ref b)] 652 []) : Z p l e room_1 s m args below meth c D A 4 ce sl Q (wS kI kC kQ o r ad S ++ wM kI mo M) [(3, .int (nI i)), (2, .ref (mo 0)), (1, .ref (o 0)), (0, .ref b)] 197 [] := by
  refine z_aload_n X dL_law_197 2 rfl ?_
  refine z_aload_n X dL_law_198 3 rfl ?_
  refine z_iload_n X dL_law_199 0 rfl ?_
  refine z_iconst (v := (1 : Int32)) X dL_law_200 (by decide) ?_
  refine z_iadd X dL_law_201 ?_
  refine z_sld X hX hbl hbA (sx hi hL 1 (by omega)) dL_law_202 ?_
  refine z_aload_n X dL_law_203 3 rfl ?_
  refine z_iload_n X dL_law_204 0 rfl ?_
  refine z_iconst (v := (2 : Int32)) X dL_law_205 (by decide) ?_
  refine z_iadd X dL_law_206 ?_
  refine z_sld X hX hbl hbA (sx hi hL 2 (by omega)) dL_law_207 ?_
  refine zL_S X (c_S_layWorkload l D kI kC kQ o r ad S (xs (i + 1)) (xs (i + 2)) h.ok) (gV wd1_200 wd1_201 wd1_202 wd1_1 wd1_203) k_S_layWorkload rfl rfl ⟨(Nat.le_of_ble_eq_true rfl), (Nat.le_of_ble_eq_true rfl)⟩ hcs rfl rfl (Nat.le_of_ble_eq_true rfl) dL_law_208 (fun u hu => ?_)
  obtain ⟨u, ad1⟩ := u
  have hu : u = (F_S_layWorkload S (xs (i + 1)) (xs (i + 2))) := hu
  subst hu
  refine z_w (w' := wS kI kC kQ o r ad1 (F_S_layWorkload S (xs (i + 1)) (xs (i + 2))).2 ++ wM kI mo M) rfl ?_
  refine z_aload_n X dL_law_211 1 rfl ?_
  refine z_aload_n X dL_law_212 3 rfl ?_
  refine z_iload_n X dL_law_213 0 rfl ?_
  refine z_iconst (v := (1 : Int32)) X dL_law_214 (by decide) ?_
  refine z_iadd X dL_law_215 ?_
  refine z_sld X hX hbl hbA (sx hi hL 1 (by omega)) dL_law_216 ?_
  refine z_aload_n X dL_law_217 3 rfl ?_
  refine z_iload_n X dL_law_218 0 rfl ?_
  refine z_iconst (v := (2 : Int32)) X dL_law_219 (by decide) ?_
  refine z_iadd X dL_law_220 ?_
  refine z_sld X hX hbl hbA (sx hi hL 2 (by omega)) dL_law_221 ?_
  refine zL_M X (W1 := wS kI kC kQ o r ad1 (F_S_layWorkload S (xs (i + 1)) (xs (i + 2))).2) (c_M_layWorkload l D kI kC kQ mo M (xs (i + 1)) (xs (i + 2)) h.I h.h4) (gV wd2_198 wd2_199 wd2_200 wd1_4 wd2_201) k_M_layWorkload rfl rfl ⟨(Nat.le_of_ble_eq_true rfl), (Nat.le_of_ble_eq_true rfl)⟩ hcs rfl rfl (Nat.le_of_ble_eq_true rfl) dL_law_222 (fun v hv => ?_)
  have hv : v = (F_M_layWorkload M (xs (i + 1)) (xs (i + 2))) := hv
  subst hv
  refine z_w (w' := wS kI kC kQ o r ad1 (F_S_layWorkload S (xs (i + 1)) (xs (i + 2))).2 ++ wM kI mo (F_M_layWorkload M (xs (i + 1)) (xs (i + 2))).2) rfl ?_
  obtain ⟨e1, e2⟩ := sim_layWorkload h (xs (i + 1)) (xs (i + 2))
  refine z_icmp_eq (tgt := 652) X dL_law_225 (by decide) (fun _ => ?_) (fun c => absurd e1 c)
  exact kk (F_S_layWorkload S (xs (i + 1)) (xs (i + 2))).2 (F_M_layWorkload M (xs (i + 1)) (xs (i + 2))).2 ad1 (e2.up (by omega))
theorem law_c4 (X : CX p s m args meth c D (tysG kI kC kQ) A cL_law 4 ret "ShadowLatchesLaw") (hX : va_X b L xs s s.heap) (hbl : b < s.heap.size) (hbA : ¬ A b) (hcs : ce ≤ room_1.cells ∧ sl ≤ room_1.slots) (hL : L ≤ 2048) (hi : i + 4 ≤ L) (hB : B < 2 ^ 63) (h : RS B S M) (kk : ∀ (S' : SLS) (M' : ARR) (ad' : ADT), RS (B + 6336000) S' M' → Z p l e room_1 s m args below meth c D A 4 ce sl Q (wS kI kC kQ o r ad' S' ++ wM kI mo M') [(3, .int (nI i)), (2, .ref (mo 0)), (1, .ref (o 0)), (0, .ref b)] 652 []) : Z p l e room_1 s m args below meth c D A 4 ce sl Q (wS kI kC kQ o r ad S ++ wM kI mo M) [(3, .int (nI i)), (2, .ref (mo 0)), (1, .ref (o 0)), (0, .ref b)] 230 [] := by
  refine z_aload_n X dL_law_230 2 rfl ?_
  refine z_aload_n X dL_law_231 3 rfl ?_
  refine z_iload_n X dL_law_232 0 rfl ?_
  refine z_iconst (v := (1 : Int32)) X dL_law_233 (by decide) ?_
  refine z_iadd X dL_law_234 ?_
  refine z_sld X hX hbl hbA (sx hi hL 1 (by omega)) dL_law_235 ?_
  refine zL_S X (c_S_setVoltage l D kI kC kQ o r ad S (xs (i + 1)) h.ok) (gV wd1_210 wd1_211 wd1_212 wd1_1 wd1_213) k_S_setVoltage rfl rfl ⟨(Nat.le_of_ble_eq_true rfl), (Nat.le_of_ble_eq_true rfl)⟩ hcs rfl rfl (Nat.le_of_ble_eq_true rfl) dL_law_236 (fun u hu => ?_)
  obtain ⟨u, ad1⟩ := u
  have hu : u = (F_S_setVoltage S (xs (i + 1))) := hu
  subst hu
  refine z_w (w' := wS kI kC kQ o r ad1 (F_S_setVoltage S (xs (i + 1))).2 ++ wM kI mo M) rfl ?_
  refine z_aload_n X dL_law_239 1 rfl ?_
  refine z_aload_n X dL_law_240 3 rfl ?_
  refine z_iload_n X dL_law_241 0 rfl ?_
  refine z_iconst (v := (1 : Int32)) X dL_law_242 (by decide) ?_
  refine z_iadd X dL_law_243 ?_
  refine z_sld X hX hbl hbA (sx hi hL 1 (by omega)) dL_law_244 ?_
  refine zL_M X (W1 := wS kI kC kQ o r ad1 (F_S_setVoltage S (xs (i + 1))).2) (c_M_setVoltage l D kI kC kQ mo M (xs (i + 1)) h.h4) (gV wd2_239 wd3_0 wd3_1 wd1_4 wd3_2) k_M_setVoltage rfl rfl ⟨(Nat.le_of_ble_eq_true rfl), (Nat.le_of_ble_eq_true rfl)⟩ hcs rfl rfl (Nat.le_of_ble_eq_true rfl) dL_law_245 (fun v hv => ?_)
  have hv : v = (F_M_setVoltage M (xs (i + 1))) := hv
  subst hv
  refine z_w (w' := wS kI kC kQ o r ad1 (F_S_setVoltage S (xs (i + 1))).2 ++ wM kI mo (F_M_setVoltage M (xs (i + 1))).2) rfl ?_
  obtain ⟨e1, e2⟩ := sim_setVoltage h (xs (i + 1))
  refine z_icmp_eq (tgt := 652) X dL_law_248 (by decide) (fun _ => ?_) (fun c => absurd e1 c)
  exact kk (F_S_setVoltage S (xs (i + 1))).2 (F_M_setVoltage M (xs (i + 1))).2 ad1 (e2.up (by omega))
theorem law_c5 (X : CX p s m args meth c D (tysG kI kC kQ) A cL_law 4 ret "ShadowLatchesLaw") (hX : va_X b L xs s s.heap) (hbl : b < s.heap.size) (hbA : ¬ A b) (hcs : ce ≤ room_1.cells ∧ sl ≤ room_1.slots) (hL : L ≤ 2048) (hi : i + 4 ≤ L) (hB : B < 2 ^ 63) (h : RS B S M) (kk : ∀ (S' : SLS) (M' : ARR) (ad' : ADT), RS (B + 6336000) S' M' → Z p l e room_1 s m args below meth c D A 4 ce sl Q (wS kI kC kQ o r ad' S' ++ wM kI mo M') [(3, .int (nI i)), (2, .ref (mo 0)), (1, .ref (o 0)), (0, .ref b)] 652 []) : Z p l e room_1 s m args below meth c D A 4 ce sl Q (wS kI kC kQ o r ad S ++ wM kI mo M) [(3, .int (nI i)), (2, .ref (mo 0)), (1, .ref (o 0)), (0, .ref b)] 253 [] := by
  by_cases h0 : xs (i + 1) = 0
  · refine z_aload_n X dL_law_253 2 rfl ?_
    refine z_aload_n X dL_law_254 3 rfl ?_
    refine z_iload_n X dL_law_255 0 rfl ?_
    refine z_iconst (v := (1 : Int32)) X dL_law_256 (by decide) ?_
    refine z_iadd X dL_law_257 ?_
    refine z_sld X hX hbl hbA (sx hi hL 1 (by omega)) dL_law_258 ?_
    refine z_if_eq (tgt := 266) X dL_law_259 (by decide) (fun _ => ?_) (fun c => absurd h0 c)
    refine z_iconst (v := (0 : Int32)) X dL_law_266 (by decide) ?_
    refine zL_S X (c_S_govern l D kI kC kQ o r ad S (0 : Int32) h.ok (Or.inl rfl)) (gV wd1_217 wd1_218 wd1_219 wd1_1 wd1_220) k_S_govern rfl rfl ⟨(Nat.le_of_ble_eq_true rfl), (Nat.le_of_ble_eq_true rfl)⟩ hcs rfl rfl (Nat.le_of_ble_eq_true rfl) dL_law_267 (fun u hu => ?_)
    obtain ⟨u, ad1⟩ := u
    have hu : u = (F_S_govern S (0 : Int32)) := hu
    subst hu
    refine z_w (w' := wS kI kC kQ o r ad1 (F_S_govern S (0 : Int32)).2 ++ wM kI mo M) rfl ?_
    refine z_aload_n X dL_law_270 1 rfl ?_
    refine z_aload_n X dL_law_271 3 rfl ?_
    refine z_iload_n X dL_law_272 0 rfl ?_
    refine z_iconst (v := (1 : Int32)) X dL_law_273 (by decide) ?_
    refine z_iadd X dL_law_274 ?_
    refine z_sld X hX hbl hbA (sx hi hL 1 (by omega)) dL_law_275 ?_
    refine z_if_eq (tgt := 283) X dL_law_276 (by decide) (fun _ => ?_) (fun c => absurd h0 c)
    refine z_iconst (v := (0 : Int32)) X dL_law_283 (by decide) ?_
    refine zL_M X (W1 := wS kI kC kQ o r ad1 (F_S_govern S (0 : Int32)).2) (c_M_govern l D kI kC kQ mo M (0 : Int32) h.h4) (gV wd3_8 wd3_9 wd3_10 wd1_4 wd3_11) k_M_govern rfl rfl ⟨(Nat.le_of_ble_eq_true rfl), (Nat.le_of_ble_eq_true rfl)⟩ hcs rfl rfl (Nat.le_of_ble_eq_true rfl) dL_law_284 (fun v hv => ?_)
    have hv : v = (F_M_govern M (0 : Int32)) := hv
    subst hv
    refine z_w (w' := wS kI kC kQ o r ad1 (F_S_govern S (0 : Int32)).2 ++ wM kI mo (F_M_govern M (0 : Int32)).2) rfl ?_
    obtain ⟨e1, e2⟩ := sim_govern h (Or.inl rfl)
    refine z_icmp_eq (tgt := 652) X dL_law_287 (by decide) (fun _ => ?_) (fun c => absurd e1 c)
    exact kk (F_S_govern S (0 : Int32)).2 (F_M_govern M (0 : Int32)).2 ad1 (e2.up (by omega))
  · refine z_aload_n X dL_law_253 2 rfl ?_
    refine z_aload_n X dL_law_254 3 rfl ?_
    refine z_iload_n X dL_law_255 0 rfl ?_
    refine z_iconst (v := (1 : Int32)) X dL_law_256 (by decide) ?_
    refine z_iadd X dL_law_257 ?_
    refine z_sld X hX hbl hbA (sx hi hL 1 (by omega)) dL_law_258 ?_
    refine z_if_eq (tgt := 266) X dL_law_259 (by decide) (fun c => absurd c h0) (fun _ => ?_)
    refine z_iconst (v := (1 : Int32)) X dL_law_262 (by decide) ?_
    refine z_goto (tgt := 267) X dL_law_263 (by decide) ?_
    refine zL_S X (c_S_govern l D kI kC kQ o r ad S (1 : Int32) h.ok (Or.inr rfl)) (gV wd1_217 wd1_218 wd1_219 wd1_1 wd1_220) k_S_govern rfl rfl ⟨(Nat.le_of_ble_eq_true rfl), (Nat.le_of_ble_eq_true rfl)⟩ hcs rfl rfl (Nat.le_of_ble_eq_true rfl) dL_law_267 (fun u hu => ?_)
    obtain ⟨u, ad1⟩ := u
    have hu : u = (F_S_govern S (1 : Int32)) := hu
    subst hu
    refine z_w (w' := wS kI kC kQ o r ad1 (F_S_govern S (1 : Int32)).2 ++ wM kI mo M) rfl ?_
    refine z_aload_n X dL_law_270 1 rfl ?_
    refine z_aload_n X dL_law_271 3 rfl ?_
    refine z_iload_n X dL_law_272 0 rfl ?_
    refine z_iconst (v := (1 : Int32)) X dL_law_273 (by decide) ?_
    refine z_iadd X dL_law_274 ?_
    refine z_sld X hX hbl hbA (sx hi hL 1 (by omega)) dL_law_275 ?_
    refine z_if_eq (tgt := 283) X dL_law_276 (by decide) (fun c => absurd c h0) (fun _ => ?_)
    refine z_iconst (v := (1 : Int32)) X dL_law_279 (by decide) ?_
    refine z_goto (tgt := 284) X dL_law_280 (by decide) ?_
    refine zL_M X (W1 := wS kI kC kQ o r ad1 (F_S_govern S (1 : Int32)).2) (c_M_govern l D kI kC kQ mo M (1 : Int32) h.h4) (gV wd3_8 wd3_9 wd3_10 wd1_4 wd3_11) k_M_govern rfl rfl ⟨(Nat.le_of_ble_eq_true rfl), (Nat.le_of_ble_eq_true rfl)⟩ hcs rfl rfl (Nat.le_of_ble_eq_true rfl) dL_law_284 (fun v hv => ?_)
    have hv : v = (F_M_govern M (1 : Int32)) := hv
    subst hv
    refine z_w (w' := wS kI kC kQ o r ad1 (F_S_govern S (1 : Int32)).2 ++ wM kI mo (F_M_govern M (1 : Int32)).2) rfl ?_
    obtain ⟨e1, e2⟩ := sim_govern h (Or.inr rfl)
    refine z_icmp_eq (tgt := 652) X dL_law_287 (by decide) (fun _ => ?_) (fun c => absurd e1 c)
    exact kk (F_S_govern S (1 : Int32)).2 (F_M_govern M (1 : Int32)).2 ad1 (e2.up (by omega))
theorem law_c6 (X : CX p s m args meth c D (tysG kI kC kQ) A cL_law 4 ret "ShadowLatchesLaw") (hX : va_X b L xs s s.heap) (hbl : b < s.heap.size) (hbA : ¬ A b) (hcs : ce ≤ room_1.cells ∧ sl ≤ room_1.slots) (hL : L ≤ 2048) (hi : i + 4 ≤ L) (hB : B < 2 ^ 63) (h : RS B S M) (kk : ∀ (S' : SLS) (M' : ARR) (ad' : ADT), RS (B + 6336000) S' M' → Z p l e room_1 s m args below meth c D A 4 ce sl Q (wS kI kC kQ o r ad' S' ++ wM kI mo M') [(3, .int (nI i)), (2, .ref (mo 0)), (1, .ref (o 0)), (0, .ref b)] 652 []) : Z p l e room_1 s m args below meth c D A 4 ce sl Q (wS kI kC kQ o r ad S ++ wM kI mo M) [(3, .int (nI i)), (2, .ref (mo 0)), (1, .ref (o 0)), (0, .ref b)] 292 [] := by
  refine z_aload_n X dL_law_292 2 rfl ?_
  refine z_aload_n X dL_law_293 3 rfl ?_
  refine z_iload_n X dL_law_294 0 rfl ?_
  refine z_iconst (v := (1 : Int32)) X dL_law_295 (by decide) ?_
  refine z_iadd X dL_law_296 ?_
  refine z_sld X hX hbl hbA (sx hi hL 1 (by omega)) dL_law_297 ?_
  refine z_aload_n X dL_law_298 3 rfl ?_
  refine z_iload_n X dL_law_299 0 rfl ?_
  refine z_iconst (v := (2 : Int32)) X dL_law_300 (by decide) ?_
  refine z_iadd X dL_law_301 ?_
  refine z_sld X hX hbl hbA (sx hi hL 2 (by omega)) dL_law_302 ?_
  refine zL_S X (c_S_set l D kI kC kQ o r ad S (xs (i + 1)) (xs (i + 2)) h.ok) (gV wd1_225 wd1_226 wd1_227 wd1_1 wd1_228) k_S_set rfl rfl ⟨(Nat.le_of_ble_eq_true rfl), (Nat.le_of_ble_eq_true rfl)⟩ hcs rfl rfl (Nat.le_of_ble_eq_true rfl) dL_law_303 (fun u hu => ?_)
  obtain ⟨u, ad1⟩ := u
  have hu : u = (F_S_set S (xs (i + 1)) (xs (i + 2))) := hu
  subst hu
  refine z_w (w' := wS kI kC kQ o r ad1 (F_S_set S (xs (i + 1)) (xs (i + 2))).2 ++ wM kI mo M) rfl ?_
  refine z_aload_n X dL_law_306 1 rfl ?_
  refine z_aload_n X dL_law_307 3 rfl ?_
  refine z_iload_n X dL_law_308 0 rfl ?_
  refine z_iconst (v := (1 : Int32)) X dL_law_309 (by decide) ?_
  refine z_iadd X dL_law_310 ?_
  refine z_sld X hX hbl hbA (sx hi hL 1 (by omega)) dL_law_311 ?_
  refine z_aload_n X dL_law_312 3 rfl ?_
  refine z_iload_n X dL_law_313 0 rfl ?_
  refine z_iconst (v := (2 : Int32)) X dL_law_314 (by decide) ?_
  refine z_iadd X dL_law_315 ?_
  refine z_sld X hX hbl hbA (sx hi hL 2 (by omega)) dL_law_316 ?_
  refine zL_M X (W1 := wS kI kC kQ o r ad1 (F_S_set S (xs (i + 1)) (xs (i + 2))).2) (c_M_set l D kI kC kQ mo M (xs (i + 1)) (xs (i + 2)) h.h4) (gV wd3_12 wd3_13 wd3_14 wd1_4 wd3_15) k_M_set rfl rfl ⟨(Nat.le_of_ble_eq_true rfl), (Nat.le_of_ble_eq_true rfl)⟩ hcs rfl rfl (Nat.le_of_ble_eq_true rfl) dL_law_317 (fun v hv => ?_)
  have hv : v = (F_M_set M (xs (i + 1)) (xs (i + 2))) := hv
  subst hv
  refine z_w (w' := wS kI kC kQ o r ad1 (F_S_set S (xs (i + 1)) (xs (i + 2))).2 ++ wM kI mo (F_M_set M (xs (i + 1)) (xs (i + 2))).2) rfl ?_
  obtain ⟨e1, e2⟩ := sim_set h (xs (i + 1)) (xs (i + 2))
  refine z_icmp_eq (tgt := 652) X dL_law_320 (by decide) (fun _ => ?_) (fun c => absurd e1 c)
  exact kk (F_S_set S (xs (i + 1)) (xs (i + 2))).2 (F_M_set M (xs (i + 1)) (xs (i + 2))).2 ad1 (e2.up (by omega))
theorem law_c7 (X : CX p s m args meth c D (tysG kI kC kQ) A cL_law 4 ret "ShadowLatchesLaw") (hX : va_X b L xs s s.heap) (hbl : b < s.heap.size) (hbA : ¬ A b) (hcs : ce ≤ room_1.cells ∧ sl ≤ room_1.slots) (hL : L ≤ 2048) (hi : i + 4 ≤ L) (hB : B < 2 ^ 63) (h : RS B S M) (kk : ∀ (S' : SLS) (M' : ARR) (ad' : ADT), RS (B + 6336000) S' M' → Z p l e room_1 s m args below meth c D A 4 ce sl Q (wS kI kC kQ o r ad' S' ++ wM kI mo M') [(3, .int (nI i)), (2, .ref (mo 0)), (1, .ref (o 0)), (0, .ref b)] 652 []) : Z p l e room_1 s m args below meth c D A 4 ce sl Q (wS kI kC kQ o r ad S ++ wM kI mo M) [(3, .int (nI i)), (2, .ref (mo 0)), (1, .ref (o 0)), (0, .ref b)] 325 [] := by
  refine z_aload_n X dL_law_325 2 rfl ?_
  refine z_aload_n X dL_law_326 3 rfl ?_
  refine z_iload_n X dL_law_327 0 rfl ?_
  refine z_iconst (v := (1 : Int32)) X dL_law_328 (by decide) ?_
  refine z_iadd X dL_law_329 ?_
  refine z_sld X hX hbl hbA (sx hi hL 1 (by omega)) dL_law_330 ?_
  refine zL_S X (c_S_run l D kI kC kQ o r ad S (xs (i + 1)) h.ok) (gV wd1_233 wd1_234 wd1_235 wd1_1 wd1_236) k_S_run rfl rfl ⟨(Nat.le_of_ble_eq_true rfl), (Nat.le_of_ble_eq_true rfl)⟩ hcs rfl rfl (Nat.le_of_ble_eq_true rfl) dL_law_331 (fun u hu => ?_)
  obtain ⟨u, ad1⟩ := u
  have hu : u = (F_S_run S (xs (i + 1))) := hu
  subst hu
  refine z_w (w' := wS kI kC kQ o r ad1 (F_S_run S (xs (i + 1))).2 ++ wM kI mo M) rfl ?_
  refine z_aload_n X dL_law_334 1 rfl ?_
  refine z_aload_n X dL_law_335 3 rfl ?_
  refine z_iload_n X dL_law_336 0 rfl ?_
  refine z_iconst (v := (1 : Int32)) X dL_law_337 (by decide) ?_
  refine z_iadd X dL_law_338 ?_
  refine z_sld X hX hbl hbA (sx hi hL 1 (by omega)) dL_law_339 ?_
  refine zL_M X (W1 := wS kI kC kQ o r ad1 (F_S_run S (xs (i + 1))).2) (c_M_run l D kI kC kQ mo M (xs (i + 1)) h.I h.h4) (gV wd3_24 wd3_25 wd3_26 wd1_4 wd3_27) k_M_run rfl rfl ⟨(Nat.le_of_ble_eq_true rfl), (Nat.le_of_ble_eq_true rfl)⟩ hcs rfl rfl (Nat.le_of_ble_eq_true rfl) dL_law_340 (fun v hv => ?_)
  have hv : v = (F_M_run M (xs (i + 1))) := hv
  subst hv
  refine z_w (w' := wS kI kC kQ o r ad1 (F_S_run S (xs (i + 1))).2 ++ wM kI mo (F_M_run M (xs (i + 1))).2) rfl ?_
  obtain ⟨e1, e2⟩ := sim_run h (xs (i + 1))
  refine z_icmp_eq (tgt := 652) X dL_law_343 (by decide) (fun _ => ?_) (fun c => absurd e1 c)
  exact kk (F_S_run S (xs (i + 1))).2 (F_M_run M (xs (i + 1))).2 ad1 (e2.up (by omega))
theorem law_c8 (X : CX p s m args meth c D (tysG kI kC kQ) A cL_law 4 ret "ShadowLatchesLaw") (hX : va_X b L xs s s.heap) (hbl : b < s.heap.size) (hbA : ¬ A b) (hcs : ce ≤ room_1.cells ∧ sl ≤ room_1.slots) (hL : L ≤ 2048) (hi : i + 4 ≤ L) (hB : B < 2 ^ 63) (h : RS B S M) (kk : ∀ (S' : SLS) (M' : ARR) (ad' : ADT), RS (B + 6336000) S' M' → Z p l e room_1 s m args below meth c D A 4 ce sl Q (wS kI kC kQ o r ad' S' ++ wM kI mo M') [(3, .int (nI i)), (2, .ref (mo 0)), (1, .ref (o 0)), (0, .ref b)] 652 []) : Z p l e room_1 s m args below meth c D A 4 ce sl Q (wS kI kC kQ o r ad S ++ wM kI mo M) [(3, .int (nI i)), (2, .ref (mo 0)), (1, .ref (o 0)), (0, .ref b)] 348 [] := by
  refine z_aload_n X dL_law_348 2 rfl ?_
  refine z_aload_n X dL_law_349 3 rfl ?_
  refine z_iload_n X dL_law_350 0 rfl ?_
  refine z_iconst (v := (1 : Int32)) X dL_law_351 (by decide) ?_
  refine z_iadd X dL_law_352 ?_
  refine z_sld X hX hbl hbA (sx hi hL 1 (by omega)) dL_law_353 ?_
  refine z_i2c X dL_law_354 ?_
  refine zL_S X (c_S_type l D kI kC kQ o r ad S (((xs (i + 1)).toUInt32 % 65536).toInt32) h.ok (char_ok _).2) (gV wd2_44 wd2_45 wd2_46 wd1_1 wd2_47) k_S_type rfl rfl ⟨(Nat.le_of_ble_eq_true rfl), (Nat.le_of_ble_eq_true rfl)⟩ hcs rfl rfl (Nat.le_of_ble_eq_true rfl) dL_law_355 (fun u hu => ?_)
  have hu : u = (F_S_type S (((xs (i + 1)).toUInt32 % 65536).toInt32)) := hu
  subst hu
  refine z_w (w' := wS kI kC kQ o r ad (F_S_type S (((xs (i + 1)).toUInt32 % 65536).toInt32)).2 ++ wM kI mo M) rfl ?_
  refine z_aload_n X dL_law_358 1 rfl ?_
  refine z_aload_n X dL_law_359 3 rfl ?_
  refine z_iload_n X dL_law_360 0 rfl ?_
  refine z_iconst (v := (1 : Int32)) X dL_law_361 (by decide) ?_
  refine z_iadd X dL_law_362 ?_
  refine z_sld X hX hbl hbA (sx hi hL 1 (by omega)) dL_law_363 ?_
  refine z_i2c X dL_law_364 ?_
  refine zL_M X (W1 := wS kI kC kQ o r ad (F_S_type S (((xs (i + 1)).toUInt32 % 65536).toInt32)).2) (c_M_type l D kI kC kQ mo M (((xs (i + 1)).toUInt32 % 65536).toInt32) h.t6) (gV wd2_211 wd2_212 wd2_213 wd1_4 wd2_214) k_M_type rfl rfl ⟨(Nat.le_of_ble_eq_true rfl), (Nat.le_of_ble_eq_true rfl)⟩ hcs rfl rfl (Nat.le_of_ble_eq_true rfl) dL_law_365 (fun v hv => ?_)
  have hv : v = (F_M_type M (((xs (i + 1)).toUInt32 % 65536).toInt32)) := hv
  subst hv
  refine z_w (w' := wS kI kC kQ o r ad (F_S_type S (((xs (i + 1)).toUInt32 % 65536).toInt32)).2 ++ wM kI mo (F_M_type M (((xs (i + 1)).toUInt32 % 65536).toInt32)).2) rfl ?_
  obtain ⟨e1, e2⟩ := sim_type h (char_ok _).1
  refine z_icmp_eq (tgt := 652) X dL_law_368 (by decide) (fun _ => ?_) (fun c => absurd e1 c)
  exact kk (F_S_type S (((xs (i + 1)).toUInt32 % 65536).toInt32)).2 (F_M_type M (((xs (i + 1)).toUInt32 % 65536).toInt32)).2 ad (e2.up (by omega))
theorem law_c9 (X : CX p s m args meth c D (tysG kI kC kQ) A cL_law 4 ret "ShadowLatchesLaw") (hX : va_X b L xs s s.heap) (hbl : b < s.heap.size) (hbA : ¬ A b) (hcs : ce ≤ room_1.cells ∧ sl ≤ room_1.slots) (hL : L ≤ 2048) (hi : i + 4 ≤ L) (hB : B < 2 ^ 63) (h : RS B S M) (kk : ∀ (S' : SLS) (M' : ARR) (ad' : ADT), RS (B + 6336000) S' M' → Z p l e room_1 s m args below meth c D A 4 ce sl Q (wS kI kC kQ o r ad' S' ++ wM kI mo M') [(3, .int (nI i)), (2, .ref (mo 0)), (1, .ref (o 0)), (0, .ref b)] 652 []) : Z p l e room_1 s m args below meth c D A 4 ce sl Q (wS kI kC kQ o r ad S ++ wM kI mo M) [(3, .int (nI i)), (2, .ref (mo 0)), (1, .ref (o 0)), (0, .ref b)] 373 [] := by
  refine z_aload_n X dL_law_373 2 rfl ?_
  refine zL_S X (c_S_clearText l D kI kC kQ o r ad S) (gV wd2_52 wd2_53 wd2_54 wd1_1 wd2_55) k_S_clearText rfl rfl ⟨(Nat.le_of_ble_eq_true rfl), (Nat.le_of_ble_eq_true rfl)⟩ hcs rfl rfl (Nat.le_of_ble_eq_true rfl) dL_law_374 (fun u hu => ?_)
  have hu : u = (F_S_clearText S) := hu
  subst hu
  refine z_w (w' := wS kI kC kQ o r ad (F_S_clearText S).2 ++ wM kI mo M) rfl ?_
  refine z_aload_n X dL_law_377 1 rfl ?_
  refine zL_M X (W1 := wS kI kC kQ o r ad (F_S_clearText S).2) (c_M_clearText l D kI kC kQ mo M) (gV wd2_215 wd2_216 wd2_217 wd1_4 wd2_218) k_M_clearText rfl rfl ⟨(Nat.le_of_ble_eq_true rfl), (Nat.le_of_ble_eq_true rfl)⟩ hcs rfl rfl (Nat.le_of_ble_eq_true rfl) dL_law_378 (fun v hv => ?_)
  have hv : v = (F_M_clearText M) := hv
  subst hv
  refine z_w (w' := wS kI kC kQ o r ad (F_S_clearText S).2 ++ wM kI mo (F_M_clearText M).2) rfl ?_
  obtain ⟨e1, e2⟩ := sim_clearText h
  refine z_icmp_eq (tgt := 652) X dL_law_381 (by decide) (fun _ => ?_) (fun c => absurd e1 c)
  exact kk (F_S_clearText S).2 (F_M_clearText M).2 ad (e2.up (by omega))
theorem law_c10 (X : CX p s m args meth c D (tysG kI kC kQ) A cL_law 4 ret "ShadowLatchesLaw") (hX : va_X b L xs s s.heap) (hbl : b < s.heap.size) (hbA : ¬ A b) (hcs : ce ≤ room_1.cells ∧ sl ≤ room_1.slots) (hL : L ≤ 2048) (hi : i + 4 ≤ L) (hB : B < 2 ^ 63) (h : RS B S M) (kk : ∀ (S' : SLS) (M' : ARR) (ad' : ADT), RS (B + 6336000) S' M' → Z p l e room_1 s m args below meth c D A 4 ce sl Q (wS kI kC kQ o r ad' S' ++ wM kI mo M') [(3, .int (nI i)), (2, .ref (mo 0)), (1, .ref (o 0)), (0, .ref b)] 652 []) : Z p l e room_1 s m args below meth c D A 4 ce sl Q (wS kI kC kQ o r ad S ++ wM kI mo M) [(3, .int (nI i)), (2, .ref (mo 0)), (1, .ref (o 0)), (0, .ref b)] 386 [] := by
  refine z_aload_n X dL_law_386 2 rfl ?_
  refine zL_S X (c_S_undo l D kI kC kQ o r ad S h.ok) (gV wd2_56 wd2_57 wd2_58 wd1_1 wd2_59) k_S_undo rfl rfl ⟨(Nat.le_of_ble_eq_true rfl), (Nat.le_of_ble_eq_true rfl)⟩ hcs rfl rfl (Nat.le_of_ble_eq_true rfl) dL_law_387 (fun u hu => ?_)
  have hu : u = (F_S_undo S) := hu
  subst hu
  refine z_w (w' := wS kI kC kQ o r ad (F_S_undo S).2 ++ wM kI mo M) rfl ?_
  refine z_aload_n X dL_law_390 1 rfl ?_
  refine zL_M X (W1 := wS kI kC kQ o r ad (F_S_undo S).2) (c_M_undo l D kI kC kQ mo M h.h4) (gV wd3_56 wd3_57 wd3_58 wd1_4 wd3_59) k_M_undo rfl rfl ⟨(Nat.le_of_ble_eq_true rfl), (Nat.le_of_ble_eq_true rfl)⟩ hcs rfl rfl (Nat.le_of_ble_eq_true rfl) dL_law_391 (fun v hv => ?_)
  have hv : v = (F_M_undo M) := hv
  subst hv
  refine z_w (w' := wS kI kC kQ o r ad (F_S_undo S).2 ++ wM kI mo (F_M_undo M).2) rfl ?_
  obtain ⟨e1, e2⟩ := sim_undo h
  refine z_icmp_eq (tgt := 652) X dL_law_394 (by decide) (fun _ => ?_) (fun c => absurd e1 c)
  exact kk (F_S_undo S).2 (F_M_undo M).2 ad (e2.up (by omega))
theorem law_c11 (X : CX p s m args meth c D (tysG kI kC kQ) A cL_law 4 ret "ShadowLatchesLaw") (hX : va_X b L xs s s.heap) (hbl : b < s.heap.size) (hbA : ¬ A b) (hcs : ce ≤ room_1.cells ∧ sl ≤ room_1.slots) (hL : L ≤ 2048) (hi : i + 4 ≤ L) (hB : B < 2 ^ 63) (h : RS B S M) (kk : ∀ (S' : SLS) (M' : ARR) (ad' : ADT), RS (B + 6336000) S' M' → Z p l e room_1 s m args below meth c D A 4 ce sl Q (wS kI kC kQ o r ad' S' ++ wM kI mo M') [(3, .int (nI i)), (2, .ref (mo 0)), (1, .ref (o 0)), (0, .ref b)] 652 []) : Z p l e room_1 s m args below meth c D A 4 ce sl Q (wS kI kC kQ o r ad S ++ wM kI mo M) [(3, .int (nI i)), (2, .ref (mo 0)), (1, .ref (o 0)), (0, .ref b)] 399 [] := by
  refine z_aload_n X dL_law_399 2 rfl ?_
  refine zL_S X (c_S_keep l D kI kC kQ o r ad S h.ok) (gV wd2_60 wd2_61 wd2_62 wd1_1 wd2_63) k_S_keep rfl rfl ⟨(Nat.le_of_ble_eq_true rfl), (Nat.le_of_ble_eq_true rfl)⟩ hcs rfl rfl (Nat.le_of_ble_eq_true rfl) dL_law_400 (fun u hu => ?_)
  have hu : u = (F_S_keep S) := hu
  subst hu
  refine z_w (w' := wS kI kC kQ o r ad (F_S_keep S).2 ++ wM kI mo M) rfl ?_
  refine z_aload_n X dL_law_403 1 rfl ?_
  refine zL_M X (W1 := wS kI kC kQ o r ad (F_S_keep S).2) (c_M_keep l D kI kC kQ mo M) (gV wd3_60 wd3_61 wd3_62 wd1_4 wd3_63) k_M_keep rfl rfl ⟨(Nat.le_of_ble_eq_true rfl), (Nat.le_of_ble_eq_true rfl)⟩ hcs rfl rfl (Nat.le_of_ble_eq_true rfl) dL_law_404 (fun v hv => ?_)
  have hv : v = (F_M_keep M) := hv
  subst hv
  refine z_w (w' := wS kI kC kQ o r ad (F_S_keep S).2 ++ wM kI mo (F_M_keep M).2) rfl ?_
  obtain ⟨e1, e2⟩ := sim_keep h
  refine z_icmp_eq (tgt := 652) X dL_law_407 (by decide) (fun _ => ?_) (fun c => absurd e1 c)
  exact kk (F_S_keep S).2 (F_M_keep M).2 ad (e2.up (by omega))
theorem law_c12 (X : CX p s m args meth c D (tysG kI kC kQ) A cL_law 4 ret "ShadowLatchesLaw") (hX : va_X b L xs s s.heap) (hbl : b < s.heap.size) (hbA : ¬ A b) (hcs : ce ≤ room_1.cells ∧ sl ≤ room_1.slots) (hL : L ≤ 2048) (hi : i + 4 ≤ L) (hB : B < 2 ^ 63) (h : RS B S M) (kk : ∀ (S' : SLS) (M' : ARR) (ad' : ADT), RS (B + 6336000) S' M' → Z p l e room_1 s m args below meth c D A 4 ce sl Q (wS kI kC kQ o r ad' S' ++ wM kI mo M') [(3, .int (nI i)), (2, .ref (mo 0)), (1, .ref (o 0)), (0, .ref b)] 652 []) : Z p l e room_1 s m args below meth c D A 4 ce sl Q (wS kI kC kQ o r ad S ++ wM kI mo M) [(3, .int (nI i)), (2, .ref (mo 0)), (1, .ref (o 0)), (0, .ref b)] 412 [] := by
  refine z_aload_n X dL_law_412 2 rfl ?_
  refine zL_S X (c_S_restore l D kI kC kQ o r ad S h.ok) (gV wd2_64 wd2_65 wd2_66 wd1_1 wd2_67) k_S_restore rfl rfl ⟨(Nat.le_of_ble_eq_true rfl), (Nat.le_of_ble_eq_true rfl)⟩ hcs rfl rfl (Nat.le_of_ble_eq_true rfl) dL_law_413 (fun u hu => ?_)
  obtain ⟨u, ad1⟩ := u
  have hu : u = (F_S_restore S) := hu
  subst hu
  refine z_w (w' := wS kI kC kQ o r ad1 (F_S_restore S).2 ++ wM kI mo M) rfl ?_
  refine z_aload_n X dL_law_416 1 rfl ?_
  refine zL_M X (W1 := wS kI kC kQ o r ad1 (F_S_restore S).2) (c_M_restore l D kI kC kQ mo M h.h4) (gV wd3_64 wd3_65 wd3_66 wd1_4 wd3_67) k_M_restore rfl rfl ⟨(Nat.le_of_ble_eq_true rfl), (Nat.le_of_ble_eq_true rfl)⟩ hcs rfl rfl (Nat.le_of_ble_eq_true rfl) dL_law_417 (fun v hv => ?_)
  have hv : v = (F_M_restore M) := hv
  subst hv
  refine z_w (w' := wS kI kC kQ o r ad1 (F_S_restore S).2 ++ wM kI mo (F_M_restore M).2) rfl ?_
  obtain ⟨e1, e2⟩ := sim_restore h
  refine z_icmp_eq (tgt := 652) X dL_law_420 (by decide) (fun _ => ?_) (fun c => absurd e1 c)
  exact kk (F_S_restore S).2 (F_M_restore M).2 ad1 (e2.up (by omega))
theorem law_c13 (X : CX p s m args meth c D (tysG kI kC kQ) A cL_law 4 ret "ShadowLatchesLaw") (hX : va_X b L xs s s.heap) (hbl : b < s.heap.size) (hbA : ¬ A b) (hcs : ce ≤ room_1.cells ∧ sl ≤ room_1.slots) (hL : L ≤ 2048) (hi : i + 4 ≤ L) (hB : B < 2 ^ 63) (h : RS B S M) (kk : ∀ (S' : SLS) (M' : ARR) (ad' : ADT), RS (B + 6336000) S' M' → Z p l e room_1 s m args below meth c D A 4 ce sl Q (wS kI kC kQ o r ad' S' ++ wM kI mo M') [(3, .int (nI i)), (2, .ref (mo 0)), (1, .ref (o 0)), (0, .ref b)] 652 []) : Z p l e room_1 s m args below meth c D A 4 ce sl Q (wS kI kC kQ o r ad S ++ wM kI mo M) [(3, .int (nI i)), (2, .ref (mo 0)), (1, .ref (o 0)), (0, .ref b)] 425 [] := by
  refine z_aload_n X dL_law_425 2 rfl ?_
  refine z_aload_n X dL_law_426 3 rfl ?_
  refine z_iload_n X dL_law_427 0 rfl ?_
  refine z_iconst (v := (1 : Int32)) X dL_law_428 (by decide) ?_
  refine z_iadd X dL_law_429 ?_
  refine z_sld X hX hbl hbA (sx hi hL 1 (by omega)) dL_law_430 ?_
  refine z_aload_n X dL_law_431 3 rfl ?_
  refine z_iload_n X dL_law_432 0 rfl ?_
  refine z_iconst (v := (2 : Int32)) X dL_law_433 (by decide) ?_
  refine z_iadd X dL_law_434 ?_
  refine z_sld X hX hbl hbA (sx hi hL 2 (by omega)) dL_law_435 ?_
  refine zL_S X (c_S_path l D kI kC kQ o r ad S (xs (i + 1)) (xs (i + 2)) h.ok) (gV wd2_68 wd2_69 wd2_70 wd1_1 wd2_71) k_S_path rfl rfl ⟨(Nat.le_of_ble_eq_true rfl), (Nat.le_of_ble_eq_true rfl)⟩ hcs rfl rfl (Nat.le_of_ble_eq_true rfl) dL_law_436 (fun u hu => ?_)
  have hu : u = (F_S_path S (xs (i + 1)) (xs (i + 2))) := hu
  subst hu
  refine z_w (w' := wS kI kC kQ o r ad S ++ wM kI mo M) rfl ?_
  refine z_aload_n X dL_law_439 1 rfl ?_
  refine z_aload_n X dL_law_440 3 rfl ?_
  refine z_iload_n X dL_law_441 0 rfl ?_
  refine z_iconst (v := (1 : Int32)) X dL_law_442 (by decide) ?_
  refine z_iadd X dL_law_443 ?_
  refine z_sld X hX hbl hbA (sx hi hL 1 (by omega)) dL_law_444 ?_
  refine z_aload_n X dL_law_445 3 rfl ?_
  refine z_iload_n X dL_law_446 0 rfl ?_
  refine z_iconst (v := (2 : Int32)) X dL_law_447 (by decide) ?_
  refine z_iadd X dL_law_448 ?_
  refine z_sld X hX hbl hbA (sx hi hL 2 (by omega)) dL_law_449 ?_
  refine zL_M X (W1 := wS kI kC kQ o r ad S) (c_M_path l D kI kC kQ mo M (xs (i + 1)) (xs (i + 2)) h.I) (gV wd3_68 wd3_69 wd3_70 wd1_4 wd3_71) k_M_path rfl rfl ⟨(Nat.le_of_ble_eq_true rfl), (Nat.le_of_ble_eq_true rfl)⟩ hcs rfl rfl (Nat.le_of_ble_eq_true rfl) dL_law_450 (fun v hv => ?_)
  have hv : v = (F_M_path M (xs (i + 1)) (xs (i + 2))) := hv
  subst hv
  refine z_w (w' := wS kI kC kQ o r ad S ++ wM kI mo M) rfl ?_
  have e1 := sim_path h (xs (i + 1)) (xs (i + 2))
  refine z_icmp_eq (tgt := 652) X dL_law_453 (by decide) (fun _ => ?_) (fun c => absurd e1 c)
  exact kk S M ad (h.up (by omega))
theorem law_c14 (X : CX p s m args meth c D (tysG kI kC kQ) A cL_law 4 ret "ShadowLatchesLaw") (hX : va_X b L xs s s.heap) (hbl : b < s.heap.size) (hbA : ¬ A b) (hcs : ce ≤ room_1.cells ∧ sl ≤ room_1.slots) (hL : L ≤ 2048) (hi : i + 4 ≤ L) (hB : B < 2 ^ 63) (h : RS B S M) (kk : ∀ (S' : SLS) (M' : ARR) (ad' : ADT), RS (B + 6336000) S' M' → Z p l e room_1 s m args below meth c D A 4 ce sl Q (wS kI kC kQ o r ad' S' ++ wM kI mo M') [(3, .int (nI i)), (2, .ref (mo 0)), (1, .ref (o 0)), (0, .ref b)] 652 []) : Z p l e room_1 s m args below meth c D A 4 ce sl Q (wS kI kC kQ o r ad S ++ wM kI mo M) [(3, .int (nI i)), (2, .ref (mo 0)), (1, .ref (o 0)), (0, .ref b)] 458 [] := by
  refine z_aload_n X dL_law_458 2 rfl ?_
  refine z_aload_n X dL_law_459 3 rfl ?_
  refine z_iload_n X dL_law_460 0 rfl ?_
  refine z_iconst (v := (1 : Int32)) X dL_law_461 (by decide) ?_
  refine z_iadd X dL_law_462 ?_
  refine z_sld X hX hbl hbA (sx hi hL 1 (by omega)) dL_law_463 ?_
  refine z_aload_n X dL_law_464 3 rfl ?_
  refine z_iload_n X dL_law_465 0 rfl ?_
  refine z_iconst (v := (2 : Int32)) X dL_law_466 (by decide) ?_
  refine z_iadd X dL_law_467 ?_
  refine z_sld X hX hbl hbA (sx hi hL 2 (by omega)) dL_law_468 ?_
  refine z_aload_n X dL_law_469 3 rfl ?_
  refine z_iload_n X dL_law_470 0 rfl ?_
  refine z_iconst (v := (3 : Int32)) X dL_law_471 (by decide) ?_
  refine z_iadd X dL_law_472 ?_
  refine z_sld X hX hbl hbA (sx hi hL 3 (by omega)) dL_law_473 ?_
  refine zL_S X (c_S_delay l D kI kC kQ o r ad S (xs (i + 1)) (xs (i + 2)) (xs (i + 3)) h.ok) (gV wd2_81 wd2_82 wd2_83 wd1_1 wd2_84) k_S_delay rfl rfl ⟨(Nat.le_of_ble_eq_true rfl), (Nat.le_of_ble_eq_true rfl)⟩ hcs rfl rfl (Nat.le_of_ble_eq_true rfl) dL_law_474 (fun u hu => ?_)
  have hu : u = (F_S_delay S (xs (i + 1)) (xs (i + 2)) (xs (i + 3))) := hu
  subst hu
  refine z_w (w' := wS kI kC kQ o r ad S ++ wM kI mo M) rfl ?_
  refine z_aload_n X dL_law_477 1 rfl ?_
  refine z_aload_n X dL_law_478 3 rfl ?_
  refine z_iload_n X dL_law_479 0 rfl ?_
  refine z_iconst (v := (1 : Int32)) X dL_law_480 (by decide) ?_
  refine z_iadd X dL_law_481 ?_
  refine z_sld X hX hbl hbA (sx hi hL 1 (by omega)) dL_law_482 ?_
  refine z_aload_n X dL_law_483 3 rfl ?_
  refine z_iload_n X dL_law_484 0 rfl ?_
  refine z_iconst (v := (2 : Int32)) X dL_law_485 (by decide) ?_
  refine z_iadd X dL_law_486 ?_
  refine z_sld X hX hbl hbA (sx hi hL 2 (by omega)) dL_law_487 ?_
  refine z_aload_n X dL_law_488 3 rfl ?_
  refine z_iload_n X dL_law_489 0 rfl ?_
  refine z_iconst (v := (3 : Int32)) X dL_law_490 (by decide) ?_
  refine z_iadd X dL_law_491 ?_
  refine z_sld X hX hbl hbA (sx hi hL 3 (by omega)) dL_law_492 ?_
  refine zL_M X (W1 := wS kI kC kQ o r ad S) (c_M_delay l D kI kC kQ mo M (xs (i + 1)) (xs (i + 2)) (xs (i + 3)) h.I) (gV wd3_76 wd3_77 wd3_78 wd1_4 wd3_79) k_M_delay rfl rfl ⟨(Nat.le_of_ble_eq_true rfl), (Nat.le_of_ble_eq_true rfl)⟩ hcs rfl rfl (Nat.le_of_ble_eq_true rfl) dL_law_493 (fun v hv => ?_)
  have hv : v = (F_M_delay M (xs (i + 1)) (xs (i + 2)) (xs (i + 3))) := hv
  subst hv
  refine z_w (w' := wS kI kC kQ o r ad S ++ wM kI mo M) rfl ?_
  have e1 := sim_delay h (xs (i + 1)) (xs (i + 2)) (xs (i + 3))
  refine z_icmp_eq (tgt := 652) X dL_law_496 (by decide) (fun _ => ?_) (fun c => absurd e1 c)
  exact kk S M ad (h.up (by omega))
theorem law_c15 (X : CX p s m args meth c D (tysG kI kC kQ) A cL_law 4 ret "ShadowLatchesLaw") (hX : va_X b L xs s s.heap) (hbl : b < s.heap.size) (hbA : ¬ A b) (hcs : ce ≤ room_1.cells ∧ sl ≤ room_1.slots) (hL : L ≤ 2048) (hi : i + 4 ≤ L) (hB : B < 2 ^ 63) (h : RS B S M) (kk : ∀ (S' : SLS) (M' : ARR) (ad' : ADT), RS (B + 6336000) S' M' → Z p l e room_1 s m args below meth c D A 4 ce sl Q (wS kI kC kQ o r ad' S' ++ wM kI mo M') [(3, .int (nI i)), (2, .ref (mo 0)), (1, .ref (o 0)), (0, .ref b)] 652 []) : Z p l e room_1 s m args below meth c D A 4 ce sl Q (wS kI kC kQ o r ad S ++ wM kI mo M) [(3, .int (nI i)), (2, .ref (mo 0)), (1, .ref (o 0)), (0, .ref b)] 501 [] := by
  refine z_aload_n X dL_law_501 2 rfl ?_
  refine z_aload_n X dL_law_502 3 rfl ?_
  refine z_iload_n X dL_law_503 0 rfl ?_
  refine z_iconst (v := (1 : Int32)) X dL_law_504 (by decide) ?_
  refine z_iadd X dL_law_505 ?_
  refine z_sld X hX hbl hbA (sx hi hL 1 (by omega)) dL_law_506 ?_
  refine zL_S X (c_S_workload l D kI kC kQ o r ad S (xs (i + 1)) h.ok) (gV wd2_86 wd2_87 wd2_88 wd1_1 wd2_89) k_S_workload rfl rfl ⟨(Nat.le_of_ble_eq_true rfl), (Nat.le_of_ble_eq_true rfl)⟩ hcs rfl rfl (Nat.le_of_ble_eq_true rfl) dL_law_507 (fun u hu => ?_)
  have hu : u = (F_S_workload S (xs (i + 1))) := hu
  subst hu
  refine z_w (w' := wS kI kC kQ o r ad S ++ wM kI mo M) rfl ?_
  refine z_aload_n X dL_law_510 1 rfl ?_
  refine z_aload_n X dL_law_511 3 rfl ?_
  refine z_iload_n X dL_law_512 0 rfl ?_
  refine z_iconst (v := (1 : Int32)) X dL_law_513 (by decide) ?_
  refine z_iadd X dL_law_514 ?_
  refine z_sld X hX hbl hbA (sx hi hL 1 (by omega)) dL_law_515 ?_
  refine zL_M X (W1 := wS kI kC kQ o r ad S) (c_M_workload l D kI kC kQ mo M (xs (i + 1)) h.I) (gV wd3_81 wd3_82 wd3_83 wd1_4 wd3_84) k_M_workload rfl rfl ⟨(Nat.le_of_ble_eq_true rfl), (Nat.le_of_ble_eq_true rfl)⟩ hcs rfl rfl (Nat.le_of_ble_eq_true rfl) dL_law_516 (fun v hv => ?_)
  have hv : v = (F_M_workload M (xs (i + 1))) := hv
  subst hv
  refine z_w (w' := wS kI kC kQ o r ad S ++ wM kI mo M) rfl ?_
  have e1 := sim_workload h (xs (i + 1))
  refine z_icmp_eq (tgt := 652) X dL_law_519 (by decide) (fun _ => ?_) (fun c => absurd e1 c)
  exact kk S M ad (h.up (by omega))
theorem law_c16 (X : CX p s m args meth c D (tysG kI kC kQ) A cL_law 4 ret "ShadowLatchesLaw") (hX : va_X b L xs s s.heap) (hbl : b < s.heap.size) (hbA : ¬ A b) (hcs : ce ≤ room_1.cells ∧ sl ≤ room_1.slots) (hL : L ≤ 2048) (hi : i + 4 ≤ L) (hB : B < 2 ^ 63) (h : RS B S M) (kk : ∀ (S' : SLS) (M' : ARR) (ad' : ADT), RS (B + 6336000) S' M' → Z p l e room_1 s m args below meth c D A 4 ce sl Q (wS kI kC kQ o r ad' S' ++ wM kI mo M') [(3, .int (nI i)), (2, .ref (mo 0)), (1, .ref (o 0)), (0, .ref b)] 652 []) : Z p l e room_1 s m args below meth c D A 4 ce sl Q (wS kI kC kQ o r ad S ++ wM kI mo M) [(3, .int (nI i)), (2, .ref (mo 0)), (1, .ref (o 0)), (0, .ref b)] 524 [] := by
  by_cases h0 : xs (i + 1) = 0
  · refine z_aload_n X dL_law_524 2 rfl ?_
    refine z_aload_n X dL_law_525 3 rfl ?_
    refine z_iload_n X dL_law_526 0 rfl ?_
    refine z_iconst (v := (1 : Int32)) X dL_law_527 (by decide) ?_
    refine z_iadd X dL_law_528 ?_
    refine z_sld X hX hbl hbA (sx hi hL 1 (by omega)) dL_law_529 ?_
    refine z_if_eq (tgt := 537) X dL_law_530 (by decide) (fun _ => ?_) (fun c => absurd h0 c)
    refine z_iconst (v := (0 : Int32)) X dL_law_537 (by decide) ?_
    refine zL_S X (c_S_least l D kI kC kQ o r ad S (0 : Int32) h.ok) (gV wd2_90 wd2_91 wd2_92 wd1_1 wd2_93) k_S_least rfl rfl ⟨(Nat.le_of_ble_eq_true rfl), (Nat.le_of_ble_eq_true rfl)⟩ hcs rfl rfl (Nat.le_of_ble_eq_true rfl) dL_law_538 (fun u hu => ?_)
    have hu : u = (F_S_least S (0 : Int32)) := hu
    subst hu
    refine z_w (w' := wS kI kC kQ o r ad S ++ wM kI mo M) rfl ?_
    refine z_aload_n X dL_law_541 1 rfl ?_
    refine z_aload_n X dL_law_542 3 rfl ?_
    refine z_iload_n X dL_law_543 0 rfl ?_
    refine z_iconst (v := (1 : Int32)) X dL_law_544 (by decide) ?_
    refine z_iadd X dL_law_545 ?_
    refine z_sld X hX hbl hbA (sx hi hL 1 (by omega)) dL_law_546 ?_
    refine z_if_eq (tgt := 554) X dL_law_547 (by decide) (fun _ => ?_) (fun c => absurd h0 c)
    refine z_iconst (v := (0 : Int32)) X dL_law_554 (by decide) ?_
    refine zL_M X (W1 := wS kI kC kQ o r ad S) (c_M_least l D kI kC kQ mo M (0 : Int32) h.I) (gV wd3_85 wd3_86 wd3_87 wd1_4 wd3_88) k_M_least rfl rfl ⟨(Nat.le_of_ble_eq_true rfl), (Nat.le_of_ble_eq_true rfl)⟩ hcs rfl rfl (Nat.le_of_ble_eq_true rfl) dL_law_555 (fun v hv => ?_)
    have hv : v = (F_M_least M (0 : Int32)) := hv
    subst hv
    refine z_w (w' := wS kI kC kQ o r ad S ++ wM kI mo M) rfl ?_
    have e1 := sim_least h (0 : Int32)
    refine z_icmp_eq (tgt := 652) X dL_law_558 (by decide) (fun _ => ?_) (fun c => absurd e1 c)
    exact kk S M ad (h.up (by omega))
  · refine z_aload_n X dL_law_524 2 rfl ?_
    refine z_aload_n X dL_law_525 3 rfl ?_
    refine z_iload_n X dL_law_526 0 rfl ?_
    refine z_iconst (v := (1 : Int32)) X dL_law_527 (by decide) ?_
    refine z_iadd X dL_law_528 ?_
    refine z_sld X hX hbl hbA (sx hi hL 1 (by omega)) dL_law_529 ?_
    refine z_if_eq (tgt := 537) X dL_law_530 (by decide) (fun c => absurd c h0) (fun _ => ?_)
    refine z_iconst (v := (1 : Int32)) X dL_law_533 (by decide) ?_
    refine z_goto (tgt := 538) X dL_law_534 (by decide) ?_
    refine zL_S X (c_S_least l D kI kC kQ o r ad S (1 : Int32) h.ok) (gV wd2_90 wd2_91 wd2_92 wd1_1 wd2_93) k_S_least rfl rfl ⟨(Nat.le_of_ble_eq_true rfl), (Nat.le_of_ble_eq_true rfl)⟩ hcs rfl rfl (Nat.le_of_ble_eq_true rfl) dL_law_538 (fun u hu => ?_)
    have hu : u = (F_S_least S (1 : Int32)) := hu
    subst hu
    refine z_w (w' := wS kI kC kQ o r ad S ++ wM kI mo M) rfl ?_
    refine z_aload_n X dL_law_541 1 rfl ?_
    refine z_aload_n X dL_law_542 3 rfl ?_
    refine z_iload_n X dL_law_543 0 rfl ?_
    refine z_iconst (v := (1 : Int32)) X dL_law_544 (by decide) ?_
    refine z_iadd X dL_law_545 ?_
    refine z_sld X hX hbl hbA (sx hi hL 1 (by omega)) dL_law_546 ?_
    refine z_if_eq (tgt := 554) X dL_law_547 (by decide) (fun c => absurd c h0) (fun _ => ?_)
    refine z_iconst (v := (1 : Int32)) X dL_law_550 (by decide) ?_
    refine z_goto (tgt := 555) X dL_law_551 (by decide) ?_
    refine zL_M X (W1 := wS kI kC kQ o r ad S) (c_M_least l D kI kC kQ mo M (1 : Int32) h.I) (gV wd3_85 wd3_86 wd3_87 wd1_4 wd3_88) k_M_least rfl rfl ⟨(Nat.le_of_ble_eq_true rfl), (Nat.le_of_ble_eq_true rfl)⟩ hcs rfl rfl (Nat.le_of_ble_eq_true rfl) dL_law_555 (fun v hv => ?_)
    have hv : v = (F_M_least M (1 : Int32)) := hv
    subst hv
    refine z_w (w' := wS kI kC kQ o r ad S ++ wM kI mo M) rfl ?_
    have e1 := sim_least h (1 : Int32)
    refine z_icmp_eq (tgt := 652) X dL_law_558 (by decide) (fun _ => ?_) (fun c => absurd e1 c)
    exact kk S M ad (h.up (by omega))
theorem law_c17 (X : CX p s m args meth c D (tysG kI kC kQ) A cL_law 4 ret "ShadowLatchesLaw") (hX : va_X b L xs s s.heap) (hbl : b < s.heap.size) (hbA : ¬ A b) (hcs : ce ≤ room_1.cells ∧ sl ≤ room_1.slots) (hL : L ≤ 2048) (hi : i + 4 ≤ L) (hB : B < 2 ^ 63) (h : RS B S M) (kk : ∀ (S' : SLS) (M' : ARR) (ad' : ADT), RS (B + 6336000) S' M' → Z p l e room_1 s m args below meth c D A 4 ce sl Q (wS kI kC kQ o r ad' S' ++ wM kI mo M') [(3, .int (nI i)), (2, .ref (mo 0)), (1, .ref (o 0)), (0, .ref b)] 652 []) : Z p l e room_1 s m args below meth c D A 4 ce sl Q (wS kI kC kQ o r ad S ++ wM kI mo M) [(3, .int (nI i)), (2, .ref (mo 0)), (1, .ref (o 0)), (0, .ref b)] 563 [] := by
  refine z_aload_n X dL_law_563 2 rfl ?_
  refine z_aload_n X dL_law_564 3 rfl ?_
  refine z_iload_n X dL_law_565 0 rfl ?_
  refine z_iconst (v := (1 : Int32)) X dL_law_566 (by decide) ?_
  refine z_iadd X dL_law_567 ?_
  refine z_sld X hX hbl hbA (sx hi hL 1 (by omega)) dL_law_568 ?_
  refine z_aload_n X dL_law_569 3 rfl ?_
  refine z_iload_n X dL_law_570 0 rfl ?_
  refine z_iconst (v := (2 : Int32)) X dL_law_571 (by decide) ?_
  refine z_iadd X dL_law_572 ?_
  refine z_sld X hX hbl hbA (sx hi hL 2 (by omega)) dL_law_573 ?_
  refine z_aload_n X dL_law_574 3 rfl ?_
  refine z_iload_n X dL_law_575 0 rfl ?_
  refine z_iconst (v := (3 : Int32)) X dL_law_576 (by decide) ?_
  refine z_iadd X dL_law_577 ?_
  refine z_sld X hX hbl hbA (sx hi hL 3 (by omega)) dL_law_578 ?_
  refine zL_S X (c_S_would l D kI kC kQ o r ad S (xs (i + 1)) (xs (i + 2)) (xs (i + 3)) h.ok) (gV wd2_98 wd2_99 wd2_100 wd1_1 wd2_101) k_S_would rfl rfl ⟨(Nat.le_of_ble_eq_true rfl), (Nat.le_of_ble_eq_true rfl)⟩ hcs rfl rfl (Nat.le_of_ble_eq_true rfl) dL_law_579 (fun u hu => ?_)
  have hu : u = (F_S_would S (xs (i + 1)) (xs (i + 2)) (xs (i + 3))) := hu
  subst hu
  refine z_w (w' := wS kI kC kQ o r ad (F_S_would S (xs (i + 1)) (xs (i + 2)) (xs (i + 3))).2 ++ wM kI mo M) rfl ?_
  refine z_aload_n X dL_law_582 1 rfl ?_
  refine z_aload_n X dL_law_583 3 rfl ?_
  refine z_iload_n X dL_law_584 0 rfl ?_
  refine z_iconst (v := (1 : Int32)) X dL_law_585 (by decide) ?_
  refine z_iadd X dL_law_586 ?_
  refine z_sld X hX hbl hbA (sx hi hL 1 (by omega)) dL_law_587 ?_
  refine z_aload_n X dL_law_588 3 rfl ?_
  refine z_iload_n X dL_law_589 0 rfl ?_
  refine z_iconst (v := (2 : Int32)) X dL_law_590 (by decide) ?_
  refine z_iadd X dL_law_591 ?_
  refine z_sld X hX hbl hbA (sx hi hL 2 (by omega)) dL_law_592 ?_
  refine z_aload_n X dL_law_593 3 rfl ?_
  refine z_iload_n X dL_law_594 0 rfl ?_
  refine z_iconst (v := (3 : Int32)) X dL_law_595 (by decide) ?_
  refine z_iadd X dL_law_596 ?_
  refine z_sld X hX hbl hbA (sx hi hL 3 (by omega)) dL_law_597 ?_
  refine zL_M X (W1 := wS kI kC kQ o r ad (F_S_would S (xs (i + 1)) (xs (i + 2)) (xs (i + 3))).2) (c_M_would l D kI kC kQ mo M (xs (i + 1)) (xs (i + 2)) (xs (i + 3)) h.I) (gV wd3_93 wd3_94 wd3_95 wd1_4 wd3_96) k_M_would rfl rfl ⟨(Nat.le_of_ble_eq_true rfl), (Nat.le_of_ble_eq_true rfl)⟩ hcs rfl rfl (Nat.le_of_ble_eq_true rfl) dL_law_598 (fun v hv => ?_)
  have hv : v = (F_M_would M (xs (i + 1)) (xs (i + 2)) (xs (i + 3))) := hv
  subst hv
  refine z_w (w' := wS kI kC kQ o r ad (F_S_would S (xs (i + 1)) (xs (i + 2)) (xs (i + 3))).2 ++ wM kI mo (F_M_would M (xs (i + 1)) (xs (i + 2)) (xs (i + 3))).2) rfl ?_
  obtain ⟨e1, e2⟩ := sim_would h (xs (i + 1)) (xs (i + 2)) (xs (i + 3))
  refine z_icmp_eq (tgt := 652) X dL_law_601 (by decide) (fun _ => ?_) (fun c => absurd e1 c)
  exact kk (F_S_would S (xs (i + 1)) (xs (i + 2)) (xs (i + 3))).2 (F_M_would M (xs (i + 1)) (xs (i + 2)) (xs (i + 3))).2 ad (e2.up (by omega))
theorem law_c18 (X : CX p s m args meth c D (tysG kI kC kQ) A cL_law 4 ret "ShadowLatchesLaw") (hX : va_X b L xs s s.heap) (hbl : b < s.heap.size) (hbA : ¬ A b) (hcs : ce ≤ room_1.cells ∧ sl ≤ room_1.slots) (hL : L ≤ 2048) (hi : i + 4 ≤ L) (hB : B < 2 ^ 63) (h : RS B S M) (kk : ∀ (S' : SLS) (M' : ARR) (ad' : ADT), RS (B + 6336000) S' M' → Z p l e room_1 s m args below meth c D A 4 ce sl Q (wS kI kC kQ o r ad' S' ++ wM kI mo M') [(3, .int (nI i)), (2, .ref (mo 0)), (1, .ref (o 0)), (0, .ref b)] 652 []) : Z p l e room_1 s m args below meth c D A 4 ce sl Q (wS kI kC kQ o r ad S ++ wM kI mo M) [(3, .int (nI i)), (2, .ref (mo 0)), (1, .ref (o 0)), (0, .ref b)] 606 [] := by
  refine z_aload_n X dL_law_606 2 rfl ?_
  refine z_aload_n X dL_law_607 3 rfl ?_
  refine z_iload_n X dL_law_608 0 rfl ?_
  refine z_iconst (v := (1 : Int32)) X dL_law_609 (by decide) ?_
  refine z_iadd X dL_law_610 ?_
  refine z_sld X hX hbl hbA (sx hi hL 1 (by omega)) dL_law_611 ?_
  refine zL_S X (c_S_best l D kI kC kQ o r ad S (xs (i + 1)) h.ok) (gV wd2_106 wd2_107 wd2_108 wd1_1 wd2_109) k_S_best rfl rfl ⟨(Nat.le_of_ble_eq_true rfl), (Nat.le_of_ble_eq_true rfl)⟩ hcs rfl rfl (Nat.le_of_ble_eq_true rfl) dL_law_612 (fun u hu => ?_)
  have hu : u = (F_S_best S (xs (i + 1))) := hu
  subst hu
  refine z_w (w' := wS kI kC kQ o r ad (F_S_best S (xs (i + 1))).2 ++ wM kI mo M) rfl ?_
  refine z_aload_n X dL_law_615 1 rfl ?_
  refine z_aload_n X dL_law_616 3 rfl ?_
  refine z_iload_n X dL_law_617 0 rfl ?_
  refine z_iconst (v := (1 : Int32)) X dL_law_618 (by decide) ?_
  refine z_iadd X dL_law_619 ?_
  refine z_sld X hX hbl hbA (sx hi hL 1 (by omega)) dL_law_620 ?_
  refine zL_M X (W1 := wS kI kC kQ o r ad (F_S_best S (xs (i + 1))).2) (c_M_best l D kI kC kQ mo M (xs (i + 1)) h.I) (gV wd3_106 wd3_107 wd3_108 wd1_4 wd3_109) k_M_best rfl rfl ⟨(Nat.le_of_ble_eq_true rfl), (Nat.le_of_ble_eq_true rfl)⟩ hcs rfl rfl (Nat.le_of_ble_eq_true rfl) dL_law_621 (fun v hv => ?_)
  have hv : v = (F_M_best M (xs (i + 1))) := hv
  subst hv
  refine z_w (w' := wS kI kC kQ o r ad (F_S_best S (xs (i + 1))).2 ++ wM kI mo (F_M_best M (xs (i + 1))).2) rfl ?_
  obtain ⟨e1, e2⟩ := sim_best h (xs (i + 1))
  refine z_icmp_eq (tgt := 652) X dL_law_624 (by decide) (fun _ => ?_) (fun c => absurd e1 c)
  exact kk (F_S_best S (xs (i + 1))).2 (F_M_best M (xs (i + 1))).2 ad (e2.up (by omega))
theorem law_c19 (X : CX p s m args meth c D (tysG kI kC kQ) A cL_law 4 ret "ShadowLatchesLaw") (hX : va_X b L xs s s.heap) (hbl : b < s.heap.size) (hbA : ¬ A b) (hcs : ce ≤ room_1.cells ∧ sl ≤ room_1.slots) (hL : L ≤ 2048) (hi : i + 4 ≤ L) (hB : B < 2 ^ 63) (h : RS B S M) (kk : ∀ (S' : SLS) (M' : ARR) (ad' : ADT), RS (B + 6336000) S' M' → Z p l e room_1 s m args below meth c D A 4 ce sl Q (wS kI kC kQ o r ad' S' ++ wM kI mo M') [(3, .int (nI i)), (2, .ref (mo 0)), (1, .ref (o 0)), (0, .ref b)] 652 []) : Z p l e room_1 s m args below meth c D A 4 ce sl Q (wS kI kC kQ o r ad S ++ wM kI mo M) [(3, .int (nI i)), (2, .ref (mo 0)), (1, .ref (o 0)), (0, .ref b)] 629 [] := by
  refine z_aload_n X dL_law_629 2 rfl ?_
  refine z_aload_n X dL_law_630 3 rfl ?_
  refine z_iload_n X dL_law_631 0 rfl ?_
  refine z_iconst (v := (1 : Int32)) X dL_law_632 (by decide) ?_
  refine z_iadd X dL_law_633 ?_
  refine z_sld X hX hbl hbA (sx hi hL 1 (by omega)) dL_law_634 ?_
  refine zL_S X (c_S_count l D kI kC kQ o r ad S (xs (i + 1)) h.ok) (gV wd2_110 wd2_111 wd2_112 wd1_1 wd2_113) k_S_count rfl rfl ⟨(Nat.le_of_ble_eq_true rfl), (Nat.le_of_ble_eq_true rfl)⟩ hcs rfl rfl (Nat.le_of_ble_eq_true rfl) dL_law_635 (fun u hu => ?_)
  have hu : u = (F_S_count S (xs (i + 1))) := hu
  subst hu
  refine z_w (w' := wS kI kC kQ o r ad S ++ wM kI mo M) rfl ?_
  refine z_aload_n X dL_law_638 1 rfl ?_
  refine z_aload_n X dL_law_639 3 rfl ?_
  refine z_iload_n X dL_law_640 0 rfl ?_
  refine z_iconst (v := (1 : Int32)) X dL_law_641 (by decide) ?_
  refine z_iadd X dL_law_642 ?_
  refine z_sld X hX hbl hbA (sx hi hL 1 (by omega)) dL_law_643 ?_
  refine zL_M X (W1 := wS kI kC kQ o r ad S) (c_M_count l D kI kC kQ mo M (xs (i + 1)) h.I) (gV wd3_110 wd3_111 wd3_112 wd1_4 wd3_113) k_M_count rfl rfl ⟨(Nat.le_of_ble_eq_true rfl), (Nat.le_of_ble_eq_true rfl)⟩ hcs rfl rfl (Nat.le_of_ble_eq_true rfl) dL_law_644 (fun v hv => ?_)
  have hv : v = (F_M_count M (xs (i + 1))) := hv
  subst hv
  refine z_w (w' := wS kI kC kQ o r ad S ++ wM kI mo M) rfl ?_
  have e1 := sim_count hB h (xs (i + 1))
  refine z_icmp_eq (tgt := 652) X dL_law_647 (by decide) (fun _ => ?_) (fun c => absurd e1 c)
  exact kk S M ad (h.up (by omega))
end
