theorem k_M_copy : yX3_copy.cls ≠ "java/lang/invoke/MethodHandle" ∧ yX3_copy.cls ≠ "java/lang/invoke/VarHandle" ∧ (parseMethodDescriptor yX3_copy.desc).map (fun d => d.parameters.length) = some 2 := by decide +kernel
set_option maxRecDepth 100000 in
set_option maxHeartbeats 4000000 in
theorem c_M_copy (l : Launch) (D : va_G) (kI kC kQ : ClassId) (b1 b2 : Nat) (f g : Nat → Int32) : CtV (U := Nat → Int32) l yX3_copy cX3_copy 3 none { frames := 0, cells := 0, slots := 0, locals := 0 } D (tysG kI kC kQ) [(b1, .inl (kI, 55, .inl f)), (b2, .inl (kI, 55, .inl g))] [.ref b1, .ref b2] (fun u => [(b1, .inl (kI, 55, .inl f)), (b2, .inl (kI, 55, .inl u))]) (fun u => u = cpy55 f g) := by
  refine met_Zv (own := "ShadowLatchesModel") (by decide +kernel) rfl (Nat.le_of_ble_eq_true rfl) ?_
  intro p e s m args below meth c A Q X hQ
  show Z p l e { frames := 0, cells := 0, slots := 0, locals := 0 } s m args below meth c D A 3 0 0 Q [(b1, .inl (kI, 55, .inl f)), (b2, .inl (kI, 55, .inl g))] [(0, .ref b1), (1, .ref b2)] 0 []
  have Lp : ∀ (n k : Nat) (h : Nat → Int32) (x : Int32), x = nI k → k ≤ 55 → 56 ≤ k + n → h = (fun j => if j < k then f j else g j) → Z p l e { frames := 0, cells := 0, slots := 0, locals := 0 } s m args below meth c D A 3 0 0 Q [(b1, .inl (kI, 55, .inl f)), (b2, .inl (kI, 55, .inl h))] [(2, .int x), (0, .ref b1), (1, .ref b2)] 2 [] := by
    intro n
    induction n with
    | zero => intro k h x _ h1 h2; exact absurd h2 (by omega)
    | succ n ih =>
      intro k h x hx hk hn hh
      refine z_iload_n X dX3_copy_2 0 rfl ?_
      refine z_bipush (v := (55 : Int32)) X dX3_copy_3 (by decide) ?_
      refine z_icmp_ge (tgt := 20) X dX3_copy_5 (by decide) (fun c_5 => ?_) (fun c_5 => ?_)
      · have hk2 : k = 55 := by
          rcases Nat.lt_or_ge k 55 with q | q
          · exact absurd (by rw [hx] at c_5; exact c_5) (nI_ge (a := k) (b := 55) q (by omega))
          · omega
        refine z_vret X hQ rfl h rfl (by subst hk2; subst hh; rfl) dX3_copy_20
      · have hk2 : k < 55 := by
          rcases Nat.lt_or_ge k 55 with q | q
          · exact q
          · exact absurd (by rw [hx]; exact nI_le (a := 55) (b := k) q (by omega)) c_5
        have hin : vp_in x 55 := by rw [hx]; exact vp_in_nI hk2 (by omega)
        have hcl : x.toNatClampNeg = k := by rw [hx]; exact nI_clamp (by omega)
        refine z_aload_n X dX3_copy_8 2 rfl ?_
        refine z_iload_n X dX3_copy_9 0 rfl ?_
        refine z_aload_n X dX3_copy_10 1 rfl ?_
        refine z_iload_n X dX3_copy_11 0 rfl ?_
        refine z_iald X 0 0 rfl rfl hin hcl dX3_copy_12 ?_
        refine z_iast X 1 0 rfl rfl hin hcl (w' := [(b1, .inl (kI, 55, .inl f)), (b2, .inl (kI, 55, .inl (upd h k (f k))))]) rfl dX3_copy_13 ?_
        refine z_iinc (v := x + 1) (lv' := [(2, .int (x + 1)), (0, .ref b1), (1, .ref b2)]) X dX3_copy_14 0 rfl rfl (Nat.le_of_ble_eq_true rfl) rfl ?_
        refine z_goto (tgt := 2) X dX3_copy_17 (by decide) ?_
        refine ih (k + 1) _ _ (by rw [hx]; exact nI_1 k) hk2 (by omega) ?_
        funext j
        rw [hh]
        unfold upd
        by_cases h1 : j = k
        · subst h1; simp
        · rw [if_neg h1]
          by_cases h2 : j < k
          · simp [h2, Nat.lt_succ_of_lt h2]
          · show (if j < k then f j else g j) = _
            rw [if_neg h2, if_neg (by omega)]
  refine z_iconst (v := (0 : Int32)) X dX3_copy_0 (by decide) ?_
  refine z_istore_n (lv' := [(2, .int 0), (0, .ref b1), (1, .ref b2)]) X dX3_copy_1 (Nat.le_of_ble_eq_true rfl) rfl ?_
  exact Lp 56 0 g 0 nI_0.symm (Nat.zero_le _) (by omega) (by funext j; simp)
section
variable {p : Program} {l : Launch} {e : Env} {R : Room} {s : State} {m : MethodId} {args : Array Value} {below : List Frame} {meth : Method} {c : Code} {D : va_G} {kI kC kQ : ClassId} {A : Nat → Prop} {cc : ByteArray} {nL ce sl : Nat} {ret : Option FieldType} {own : String} {Q : State → Prop} {lv : List (Nat × Value)} {pc : Nat} {st : List Value} {o : Nat → Nat} {M : ARR}
set_option maxRecDepth 100000 in
theorem zM_cp_0_1 (X : CX p s m args meth c D (tysG kI kC kQ) A cc nL ret own) {index : Nat} (hG : GoodIn WS (va_wsS own index yX3_copy (Cond.code yX3_copy cX3_copy 3 none :: WS))) (hR : 0 + 1 ≤ R.frames ∧ 8 + (3 + 11) + 0 ≤ R.locals) (hf : ce ≤ R.cells ∧ sl ≤ R.slots) (hW : (st.map fun v => v.category).sum ≤ 8) (hdg : decode cc pc = .ok (.invokestatic index, 3)) (kk : ∀ y : ARR, y = sR M 1 (cpy55 (M 0) (M 1)) → Z p l e R s m args below meth c D A nL ce sl Q (wM kI o y) lv (pc + 3) st) : Z p l e R s m args below meth c D A nL ce sl Q (wM kI o M) lv pc (.ref (o 2) :: .ref (o 1) :: st) := by
  refine z_perm (w' := [(o 1, .inl (kI, 55, .inl (M 0))), (o 2, .inl (kI, 55, .inl (M 1)))] ++ [(o 0, .inr (3, [.ref (o 1), .ref (o 2), .ref (o 3), .ref (o 4), .int (M 7 4), .ref (o 5), .int (M 7 6), .ref (o 6), .int (M 7 8), .int (M 7 9), .ref (o 7), .int (M 7 11)])), (o 3, .inl (kI, 55, .inl (M 2))), (o 4, .inl (kI, 220, .inl (M 3))), (o 5, .inl (kI, 55, .inl (M 4))), (o 6, .inl (kI, 60, .inl (M 5))), (o 7, .inl (kI, 16, .inl (M 6)))]) [1, 2, 0, 3, 4, 5, 6, 7] (by decide) rfl rfl ?_
  refine z_callSv X (c_M_copy l D kI kC kQ (o 1) (o 2) (M 0) (M 1)) hG k_M_copy rfl rfl hR hf rfl rfl hW hdg (wl := []) (wr := [(o 0, .inr (3, [.ref (o 1), .ref (o 2), .ref (o 3), .ref (o 4), .int (M 7 4), .ref (o 5), .int (M 7 6), .ref (o 6), .int (M 7 8), .int (M 7 9), .ref (o 7), .int (M 7 11)])), (o 3, .inl (kI, 55, .inl (M 2))), (o 4, .inl (kI, 220, .inl (M 3))), (o 5, .inl (kI, 55, .inl (M 4))), (o 6, .inl (kI, 60, .inl (M 5))), (o 7, .inl (kI, 16, .inl (M 6)))]) rfl (fun u hu => ?_)
  subst hu
  refine z_perm (w' := wM kI o (sR M 1 (cpy55 (M 0) (M 1)))) [2, 0, 1, 3, 4, 5, 6, 7] (by decide) rfl rfl ?_
  exact kk _ rfl
set_option maxRecDepth 100000 in
theorem zM_cp_0_4 (X : CX p s m args meth c D (tysG kI kC kQ) A cc nL ret own) {index : Nat} (hG : GoodIn WS (va_wsS own index yX3_copy (Cond.code yX3_copy cX3_copy 3 none :: WS))) (hR : 0 + 1 ≤ R.frames ∧ 8 + (3 + 11) + 0 ≤ R.locals) (hf : ce ≤ R.cells ∧ sl ≤ R.slots) (hW : (st.map fun v => v.category).sum ≤ 8) (hdg : decode cc pc = .ok (.invokestatic index, 3)) (kk : ∀ y : ARR, y = sR M 4 (cpy55 (M 0) (M 4)) → Z p l e R s m args below meth c D A nL ce sl Q (wM kI o y) lv (pc + 3) st) : Z p l e R s m args below meth c D A nL ce sl Q (wM kI o M) lv pc (.ref (o 5) :: .ref (o 1) :: st) := by
  refine z_perm (w' := [(o 1, .inl (kI, 55, .inl (M 0))), (o 5, .inl (kI, 55, .inl (M 4)))] ++ [(o 0, .inr (3, [.ref (o 1), .ref (o 2), .ref (o 3), .ref (o 4), .int (M 7 4), .ref (o 5), .int (M 7 6), .ref (o 6), .int (M 7 8), .int (M 7 9), .ref (o 7), .int (M 7 11)])), (o 2, .inl (kI, 55, .inl (M 1))), (o 3, .inl (kI, 55, .inl (M 2))), (o 4, .inl (kI, 220, .inl (M 3))), (o 6, .inl (kI, 60, .inl (M 5))), (o 7, .inl (kI, 16, .inl (M 6)))]) [1, 5, 0, 2, 3, 4, 6, 7] (by decide) rfl rfl ?_
  refine z_callSv X (c_M_copy l D kI kC kQ (o 1) (o 5) (M 0) (M 4)) hG k_M_copy rfl rfl hR hf rfl rfl hW hdg (wl := []) (wr := [(o 0, .inr (3, [.ref (o 1), .ref (o 2), .ref (o 3), .ref (o 4), .int (M 7 4), .ref (o 5), .int (M 7 6), .ref (o 6), .int (M 7 8), .int (M 7 9), .ref (o 7), .int (M 7 11)])), (o 2, .inl (kI, 55, .inl (M 1))), (o 3, .inl (kI, 55, .inl (M 2))), (o 4, .inl (kI, 220, .inl (M 3))), (o 6, .inl (kI, 60, .inl (M 5))), (o 7, .inl (kI, 16, .inl (M 6)))]) rfl (fun u hu => ?_)
  subst hu
  refine z_perm (w' := wM kI o (sR M 4 (cpy55 (M 0) (M 4)))) [2, 0, 3, 4, 5, 1, 6, 7] (by decide) rfl rfl ?_
  exact kk _ rfl
set_option maxRecDepth 100000 in
theorem zM_cp_4_0 (X : CX p s m args meth c D (tysG kI kC kQ) A cc nL ret own) {index : Nat} (hG : GoodIn WS (va_wsS own index yX3_copy (Cond.code yX3_copy cX3_copy 3 none :: WS))) (hR : 0 + 1 ≤ R.frames ∧ 8 + (3 + 11) + 0 ≤ R.locals) (hf : ce ≤ R.cells ∧ sl ≤ R.slots) (hW : (st.map fun v => v.category).sum ≤ 8) (hdg : decode cc pc = .ok (.invokestatic index, 3)) (kk : ∀ y : ARR, y = sR M 0 (cpy55 (M 4) (M 0)) → Z p l e R s m args below meth c D A nL ce sl Q (wM kI o y) lv (pc + 3) st) : Z p l e R s m args below meth c D A nL ce sl Q (wM kI o M) lv pc (.ref (o 1) :: .ref (o 5) :: st) := by
  refine z_perm (w' := [(o 5, .inl (kI, 55, .inl (M 4))), (o 1, .inl (kI, 55, .inl (M 0)))] ++ [(o 0, .inr (3, [.ref (o 1), .ref (o 2), .ref (o 3), .ref (o 4), .int (M 7 4), .ref (o 5), .int (M 7 6), .ref (o 6), .int (M 7 8), .int (M 7 9), .ref (o 7), .int (M 7 11)])), (o 2, .inl (kI, 55, .inl (M 1))), (o 3, .inl (kI, 55, .inl (M 2))), (o 4, .inl (kI, 220, .inl (M 3))), (o 6, .inl (kI, 60, .inl (M 5))), (o 7, .inl (kI, 16, .inl (M 6)))]) [5, 1, 0, 2, 3, 4, 6, 7] (by decide) rfl rfl ?_
  refine z_callSv X (c_M_copy l D kI kC kQ (o 5) (o 1) (M 4) (M 0)) hG k_M_copy rfl rfl hR hf rfl rfl hW hdg (wl := []) (wr := [(o 0, .inr (3, [.ref (o 1), .ref (o 2), .ref (o 3), .ref (o 4), .int (M 7 4), .ref (o 5), .int (M 7 6), .ref (o 6), .int (M 7 8), .int (M 7 9), .ref (o 7), .int (M 7 11)])), (o 2, .inl (kI, 55, .inl (M 1))), (o 3, .inl (kI, 55, .inl (M 2))), (o 4, .inl (kI, 220, .inl (M 3))), (o 6, .inl (kI, 60, .inl (M 5))), (o 7, .inl (kI, 16, .inl (M 6)))]) rfl (fun u hu => ?_)
  subst hu
  refine z_perm (w' := wM kI o (sR M 0 (cpy55 (M 4) (M 0)))) [2, 1, 3, 4, 5, 0, 6, 7] (by decide) rfl rfl ?_
  exact kk _ rfl
set_option maxRecDepth 100000 in
theorem zM_cp_0_2 (X : CX p s m args meth c D (tysG kI kC kQ) A cc nL ret own) {index : Nat} (hG : GoodIn WS (va_wsS own index yX3_copy (Cond.code yX3_copy cX3_copy 3 none :: WS))) (hR : 0 + 1 ≤ R.frames ∧ 8 + (3 + 11) + 0 ≤ R.locals) (hf : ce ≤ R.cells ∧ sl ≤ R.slots) (hW : (st.map fun v => v.category).sum ≤ 8) (hdg : decode cc pc = .ok (.invokestatic index, 3)) (kk : ∀ y : ARR, y = sR M 2 (cpy55 (M 0) (M 2)) → Z p l e R s m args below meth c D A nL ce sl Q (wM kI o y) lv (pc + 3) st) : Z p l e R s m args below meth c D A nL ce sl Q (wM kI o M) lv pc (.ref (o 3) :: .ref (o 1) :: st) := by
  refine z_perm (w' := [(o 1, .inl (kI, 55, .inl (M 0))), (o 3, .inl (kI, 55, .inl (M 2)))] ++ [(o 0, .inr (3, [.ref (o 1), .ref (o 2), .ref (o 3), .ref (o 4), .int (M 7 4), .ref (o 5), .int (M 7 6), .ref (o 6), .int (M 7 8), .int (M 7 9), .ref (o 7), .int (M 7 11)])), (o 2, .inl (kI, 55, .inl (M 1))), (o 4, .inl (kI, 220, .inl (M 3))), (o 5, .inl (kI, 55, .inl (M 4))), (o 6, .inl (kI, 60, .inl (M 5))), (o 7, .inl (kI, 16, .inl (M 6)))]) [1, 3, 0, 2, 4, 5, 6, 7] (by decide) rfl rfl ?_
  refine z_callSv X (c_M_copy l D kI kC kQ (o 1) (o 3) (M 0) (M 2)) hG k_M_copy rfl rfl hR hf rfl rfl hW hdg (wl := []) (wr := [(o 0, .inr (3, [.ref (o 1), .ref (o 2), .ref (o 3), .ref (o 4), .int (M 7 4), .ref (o 5), .int (M 7 6), .ref (o 6), .int (M 7 8), .int (M 7 9), .ref (o 7), .int (M 7 11)])), (o 2, .inl (kI, 55, .inl (M 1))), (o 4, .inl (kI, 220, .inl (M 3))), (o 5, .inl (kI, 55, .inl (M 4))), (o 6, .inl (kI, 60, .inl (M 5))), (o 7, .inl (kI, 16, .inl (M 6)))]) rfl (fun u hu => ?_)
  subst hu
  refine z_perm (w' := wM kI o (sR M 2 (cpy55 (M 0) (M 2)))) [2, 0, 3, 1, 4, 5, 6, 7] (by decide) rfl rfl ?_
  exact kk _ rfl
set_option maxRecDepth 100000 in
theorem zM_cp_2_0 (X : CX p s m args meth c D (tysG kI kC kQ) A cc nL ret own) {index : Nat} (hG : GoodIn WS (va_wsS own index yX3_copy (Cond.code yX3_copy cX3_copy 3 none :: WS))) (hR : 0 + 1 ≤ R.frames ∧ 8 + (3 + 11) + 0 ≤ R.locals) (hf : ce ≤ R.cells ∧ sl ≤ R.slots) (hW : (st.map fun v => v.category).sum ≤ 8) (hdg : decode cc pc = .ok (.invokestatic index, 3)) (kk : ∀ y : ARR, y = sR M 0 (cpy55 (M 2) (M 0)) → Z p l e R s m args below meth c D A nL ce sl Q (wM kI o y) lv (pc + 3) st) : Z p l e R s m args below meth c D A nL ce sl Q (wM kI o M) lv pc (.ref (o 1) :: .ref (o 3) :: st) := by
  refine z_perm (w' := [(o 3, .inl (kI, 55, .inl (M 2))), (o 1, .inl (kI, 55, .inl (M 0)))] ++ [(o 0, .inr (3, [.ref (o 1), .ref (o 2), .ref (o 3), .ref (o 4), .int (M 7 4), .ref (o 5), .int (M 7 6), .ref (o 6), .int (M 7 8), .int (M 7 9), .ref (o 7), .int (M 7 11)])), (o 2, .inl (kI, 55, .inl (M 1))), (o 4, .inl (kI, 220, .inl (M 3))), (o 5, .inl (kI, 55, .inl (M 4))), (o 6, .inl (kI, 60, .inl (M 5))), (o 7, .inl (kI, 16, .inl (M 6)))]) [3, 1, 0, 2, 4, 5, 6, 7] (by decide) rfl rfl ?_
  refine z_callSv X (c_M_copy l D kI kC kQ (o 3) (o 1) (M 2) (M 0)) hG k_M_copy rfl rfl hR hf rfl rfl hW hdg (wl := []) (wr := [(o 0, .inr (3, [.ref (o 1), .ref (o 2), .ref (o 3), .ref (o 4), .int (M 7 4), .ref (o 5), .int (M 7 6), .ref (o 6), .int (M 7 8), .int (M 7 9), .ref (o 7), .int (M 7 11)])), (o 2, .inl (kI, 55, .inl (M 1))), (o 4, .inl (kI, 220, .inl (M 3))), (o 5, .inl (kI, 55, .inl (M 4))), (o 6, .inl (kI, 60, .inl (M 5))), (o 7, .inl (kI, 16, .inl (M 6)))]) rfl (fun u hu => ?_)
  subst hu
  refine z_perm (w' := wM kI o (sR M 0 (cpy55 (M 2) (M 0)))) [2, 1, 3, 0, 4, 5, 6, 7] (by decide) rfl rfl ?_
  exact kk _ rfl
end
