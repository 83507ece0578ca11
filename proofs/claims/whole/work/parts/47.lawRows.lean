section
variable {p : Program} {l : Launch} {e : Env} {R : Room} {s : State} {m : MethodId} {args : Array Value} {below : List Frame} {meth : Method} {c : Code} {D : va_G} {kI kC kQ : ClassId} {ty : List (ClassId × FieldType)} {A : Nat → Prop} {cc : ByteArray} {nL ce sl : Nat} {ret : Option FieldType} {own : String} {Q : State → Prop} {lv : List (Nat × Value)} {pc : Nat} {st : List Value} {o r mo : Nat → Nat} {ad : ADT} {S : SLS} {M : ARR} {b L : Nat} {xs : Nat → Int32} {W1 : va_W}
theorem z_sld (X : CX p s m args meth c D ty A cc nL ret own) {w : va_W} (hX : va_X b L xs s s.heap) (hbl : b < s.heap.size) (hbA : ¬ A b) {i : Int32} {j : Nat} (h : vp_in i L ∧ i.toNatClampNeg = j) (hdg : decode cc pc = .ok (.iaload, 1)) (kk : Z p l e R s m args below meth c D A nL ce sl Q w lv (pc + 1) (.int (xs j) :: st)) : Z p l e R s m args below meth c D A nL ce sl Q w lv pc (.int i :: .ref b :: st) := by
  obtain ⟨hin, rfl⟩ := h
  exact fun H locs ls hP hD hS hl => va_sld X.x X.b hX hbl hbA hS hin hdg (kk H locs ls hP hD hS hl)
theorem z_slen (X : CX p s m args meth c D ty A cc nL ret own) {w : va_W} (hX : va_X b L xs s s.heap) (hbl : b < s.heap.size) (hbA : ¬ A b) (hdg : decode cc pc = .ok (.arraylength, 1)) (kk : Z p l e R s m args below meth c D A nL ce sl Q w lv (pc + 1) (.int (nI L) :: st)) : Z p l e R s m args below meth c D A nL ce sl Q w lv pc (.ref b :: st) := fun H locs ls hP hD hS hl => va_slen X.x X.b hX hbl hbA hS hdg (kk H locs ls hP hD hS hl)
theorem zL_S (X : CX p s m args meth c D (tysG kI kC kQ) A cc nL ret own) {U : Type} {y : MethodName} {rm : Room} {As : List Value} {rf : U → Int32} {wf : U → va_W} {Pu : U → Prop} {bytes : ByteArray} {maxL index n : Nat} {ret' : Option FieldType} (hC : CtI (U := U) l y bytes maxL ret' rm D (tysG kI kC kQ) (wS kI kC kQ o r ad S) (.ref (o 0) :: As) rf wf Pu) (hG : GoodIn WS (wsV own index "ShadowLatches" y (Cond.code y bytes maxL ret' :: WS))) (hd : y.cls = "ShadowLatches" ∧ y.cls ≠ "java/lang/invoke/MethodHandle" ∧ y.cls ≠ "java/lang/invoke/VarHandle" ∧ (parseMethodDescriptor y.desc).map (fun d => d.parameters.length) = some n) (hrc : rm.cells = 0) (hrs : rm.slots = 0) (hR : rm.frames + 1 ≤ R.frames ∧ 8 + (maxL + 11) + rm.locals ≤ R.locals) (hf : ce ≤ R.cells ∧ sl ≤ R.slots) (hn : As.length = n) {st0 : List Value} (hst : st0 = As.reverse ++ .ref (o 0) :: st) (hW : (st.map fun v => v.category).sum ≤ 8) (hdg : decode cc pc = .ok (.invokevirtual index, 3)) (kk : ∀ u : U, Pu u → Z p l e R s m args below meth c D A nL ce sl Q (wf u ++ wM kI mo M) lv (pc + 3) (.int (rf u) :: st)) : Z p l e R s m args below meth c D A nL ce sl Q (wS kI kC kQ o r ad S ++ wM kI mo M) lv pc st0 := z_callVi X hC hG hd hrc hrs hR hf 2 0 wS_0 rfl rfl hn hst hW hdg (wl := []) (wr := wM kI mo M) rfl kk
theorem zL_M (X : CX p s m args meth c D (tysG kI kC kQ) A cc nL ret own) {U : Type} {y : MethodName} {rm : Room} {As : List Value} {rf : U → Int32} {wf : U → va_W} {Pu : U → Prop} {bytes : ByteArray} {maxL index n : Nat} {ret' : Option FieldType} (hC : CtI (U := U) l y bytes maxL ret' rm D (tysG kI kC kQ) (wM kI mo M) (.ref (mo 0) :: As) rf wf Pu) (hG : GoodIn WS (wsV own index "ShadowLatchesModel" y (Cond.code y bytes maxL ret' :: WS))) (hd : y.cls = "ShadowLatchesModel" ∧ y.cls ≠ "java/lang/invoke/MethodHandle" ∧ y.cls ≠ "java/lang/invoke/VarHandle" ∧ (parseMethodDescriptor y.desc).map (fun d => d.parameters.length) = some n) (hrc : rm.cells = 0) (hrs : rm.slots = 0) (hR : rm.frames + 1 ≤ R.frames ∧ 8 + (maxL + 11) + rm.locals ≤ R.locals) (hf : ce ≤ R.cells ∧ sl ≤ R.slots) (hn : As.length = n) {st0 : List Value} (hst : st0 = As.reverse ++ .ref (mo 0) :: st) (hW : (st.map fun v => v.category).sum ≤ 8) (hdg : decode cc pc = .ok (.invokevirtual index, 3)) (kk : ∀ u : U, Pu u → Z p l e R s m args below meth c D A nL ce sl Q (W1 ++ wf u) lv (pc + 3) (.int (rf u) :: st)) : Z p l e R s m args below meth c D A nL ce sl Q (W1 ++ wM kI mo M) lv pc st0 := z_callVi X hC hG hd hrc hrs hR hf 3 0 rfl rfl rfl hn hst hW hdg (wl := W1) (wr := []) (by rw [List.append_nil]) (fun u hu => z_w (w' := W1 ++ wf u) (by rw [List.append_nil]) (kk u hu))
end
theorem sx {i L : Nat} (hi : i + 4 ≤ L) (hL : L ≤ 2048) (k : Nat) (hk : k < 4) : vp_in (nI i + nI k) L ∧ (nI i + nI k).toNatClampNeg = i + k := by
  rw [nI_add]
  exact ⟨vp_in_nI (by omega) (by omega), nI_clamp (by omega)⟩
theorem sx0 {i L : Nat} (hi : i + 4 ≤ L) (hL : L ≤ 2048) : vp_in (nI i) L ∧ (nI i).toNatClampNeg = i := ⟨vp_in_nI (by omega) (by omega), nI_clamp (by omega)⟩
theorem lim_in {i L : Nat} (hL : L ≤ 2048) (hi : i ≤ L) (h4 : L < 4 → i = 0) (h : ¬ (nI L - (4 : Int32) < nI i)) : i + 4 ≤ L := by
  by_cases c : L < 4
  · exfalso
    rw [h4 c] at h
    revert h
    match L, c with
    | 0, _ => decide +kernel
    | 1, _ => decide +kernel
    | 2, _ => decide +kernel
    | 3, _ => decide +kernel
  · rw [show nI L - (4 : Int32) = nI (L - 4) from pk_sub (a := L) (b := 4) (by omega)] at h
    rcases Nat.lt_or_ge (L - 4) i with q | q
    · exact absurd (nI_lt q (by omega)) h
    · omega
theorem char_ok (x : Int32) : bn 0 65535 ((x.toUInt32 % 65536).toInt32) ∧ narrow .char (.int ((x.toUInt32 % 65536).toInt32)) = .int ((x.toUInt32 % 65536).toInt32) := by
  rw [pk_char]
  have h : x.toBitVec.toNat % 65536 < 65536 := Nat.mod_lt _ (by decide)
  exact ⟨⟨_, by omega, by omega, rfl⟩, (pk_charN h).1⟩
