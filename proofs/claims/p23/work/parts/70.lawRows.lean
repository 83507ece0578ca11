section
variable {p : Program} {l : Launch} {e : Env} {R : Room} {s : State} {m : MethodId} {args : Array Value} {below : List Frame} {meth : Method} {c : Code} {D : va_G} {kI kC kQ : ClassId} {ty : List (ClassId × FieldType)} {A : Nat → Prop} {cc : ByteArray} {nL ce sl : Nat} {ret : Option FieldType} {own : String} {Q : State → Prop} {lv : List (Nat × Value)} {pc : Nat} {st : List Value} {o r o9 r9 : Nat → Nat} {a9 : Nat} {ao ap : ADT} {b L : Nat} {xs : Nat → Int32}
theorem z_sld (X : CX p s m args meth c D ty A cc nL ret own) {w : va_W} (hX : va_X b L xs s s.heap) (hbl : b < s.heap.size) (hbA : ¬ A b) {i : Int32} {j : Nat} (h : vp_in i L ∧ i.toNatClampNeg = j) (hdg : decode cc pc = .ok (.iaload, 1)) (kk : Z p l e R s m args below meth c D A nL ce sl Q w lv (pc + 1) (.int (xs j) :: st)) : Z p l e R s m args below meth c D A nL ce sl Q w lv pc (.int i :: .ref b :: st) := by
  obtain ⟨hin, rfl⟩ := h
  exact fun H locs ls hP hD hS hl => va_sld X.x X.b hX hbl hbA hS hin hdg (kk H locs ls hP hD hS hl)
theorem z_slen (X : CX p s m args meth c D ty A cc nL ret own) {w : va_W} (hX : va_X b L xs s s.heap) (hbl : b < s.heap.size) (hbA : ¬ A b) (hdg : decode cc pc = .ok (.arraylength, 1)) (kk : Z p l e R s m args below meth c D A nL ce sl Q w lv (pc + 1) (.int (nI L) :: st)) : Z p l e R s m args below meth c D A nL ce sl Q w lv pc (.ref b :: st) := fun H locs ls hP hD hS hl => va_slen X.x X.b hX hbl hbA hS hdg (kk H locs ls hP hD hS hl)
end
/-! cell: it reads the script -/
def PcX (D : va_G) (ty : List (ClassId × FieldType)) (sz b L : Nat) (xs : Nat → Int32) (av : List Value) : Array Value → State → Prop := va_Pc av (fun U => U.heap.size = sz ∧ va_P D vwCl [] U.heap ∧ va_K D vwCl ty U ∧ va_D (fun _ => True) [] ∧ ST (va_A [] sz) U U.heap ∧ va_X b L xs U U.heap ∧ b < sz)
theorem PcX_blind {D : va_G} {ty : List (ClassId × FieldType)} {sz b L : Nat} {xs : Nat → Int32} {av : List Value} : FrameBlind (PcX D ty sz b L xs av) := fun a U g mk q => by
  obtain ⟨q0, q1, qP, qK, qD, qS, qX, qb⟩ := q
  exact ⟨q0, q1, qP, va_K.moved (u := U) (U := U.calling g mk a) (Vm.Alike.refl U.vm) qK, qD, ST.moved (u := U) (U := U.calling g mk a) (Vm.Alike.refl U.vm) qS, va_X.moved (u := U) (U := U.calling g mk a) (Vm.Alike.refl U.vm) qX, qb⟩
theorem k_L_cell : yL_cell.cls ≠ "java/lang/invoke/MethodHandle" ∧ yL_cell.cls ≠ "java/lang/invoke/VarHandle" ∧ (parseMethodDescriptor yL_cell.desc).map (fun d => d.parameters.length) = some 2 := by decide +kernel
set_option maxRecDepth 100000 in
set_option maxHeartbeats 4000000 in
theorem c_cell (l : Launch) (D : va_G) (kI kC kQ : ClassId) (b L : Nat) (xs : Nat → Int32) (hL : L ≤ 260) (i : Nat) (hi : i < 44) : ∀ sz : Nat, Met l yL_cell (Cond.code yL_cell cL_cell 2 (some .int) :: WS) { frames := 0, cells := 0, slots := 0, locals := 0 } (PcX D (tysG kI kC kQ) sz b L xs [.ref b, .int (nI i)]) (QiA D (tysG kI kC kQ) (va_A [] sz) (fun u : Int32 => u) (fun _ => []) (fun _ => True)) 0 0 (va_A [] sz) := by
  intro sz
  refine Met.ofW (cc := cL_cell) (maxL := 2) (ret := some .int) (by decide +kernel) rfl ?_
  intro p e s m args below meth c s₁ B hml hv
  obtain ⟨rfl, hsz, hP, hK, hD0, hST, hX, hb⟩ := hv
  have hts : ∀ w ∈ WS, w.before ([.ref b, .int (nI i)] : List Value).toArray s = true := fun w h => atoms_spec (ws := Cond.code yL_cell cL_cell 2 (some .int) :: WS) B.pre w (List.mem_cons_of_mem _ h)
  have hown : s.vm.findClass "ShadowLatchesLaw" = some m.cls := findClass_of_methodNamed B.named
  subst hsz
  have hl := lv_entry ([.ref b, .int (nI i)] : List Value) (n := 2) (Nat.le_of_ble_eq_true rfl)
  rw [lg_entry_eq]
  have X : CX p s m ([.ref b, .int (nI i)] : List Value).toArray meth c D (tysG kI kC kQ) (va_A [] s.heap.size) cL_cell 2 (some .int) "ShadowLatchesLaw" := ⟨B.exec, B.bytes, B.returns, hml, hown, hts, B.notSynchronized, hK, fun q h => Or.inr h, hST⟩
  have hbA : ¬ va_A [] s.heap.size b := by
    rintro (⟨k, e, h⟩ | h)
    · simp at h
    · omega
  suffices hz : Z p l e { frames := 0, cells := 0, slots := 0, locals := 0 } s m ([.ref b, .int (nI i)] : List Value).toArray below meth c D (va_A [] s.heap.size) 2 0 0 (MQ below (QiA D (tysG kI kC kQ) (va_A [] s.heap.size) (fun u : Int32 => u) (fun _ => []) (fun _ => True)) ([.ref b, .int (nI i)] : List Value).toArray s 0 0 (va_A [] s.heap.size)) [] [(0, .ref b), (1, .int (nI i))] 0 [] from hz s.heap [] _ hP hD0.self va_S.rf hl
  refine z_iload_n X dL_cell_0 1 rfl ?_
  refine z_aload_n X dL_cell_1 0 rfl ?_
  refine z_slen X hX hb hbA dL_cell_2 ?_
  refine z_icmp_ge (tgt := 12) X dL_cell_3 (by decide) (fun c_3 => ?_) (fun c_3 => ?_)
  · refine z_ldc X dL_cell_12 wd1_181 ?_
    refine z_iload_n X dL_cell_14 1 rfl ?_
    refine z_sipush (v := (1109 : Int32)) X dL_cell_15 (by decide) ?_
    refine z_iadd X dL_cell_18 ?_
    refine z_imul X dL_cell_19 ?_
    exact z_iret X rfl rfl _ rfl rfl trivial dL_cell_20
  · have hiL : i < L := by
      rcases Nat.lt_or_ge i L with q | q
      · exact q
      · exact absurd (nI_le q (by omega)) c_3
    refine z_aload_n X dL_cell_6 0 rfl ?_
    refine z_iload_n X dL_cell_7 1 rfl ?_
    refine z_sld X hX hb hbA ⟨vp_in_nI hiL (by omega), nI_clamp (by omega)⟩ dL_cell_8 ?_
    refine z_goto (tgt := 20) X dL_cell_9 (by decide) ?_
    exact z_iret X rfl rfl _ rfl rfl trivial dL_cell_20
section
variable {p : Program} {l : Launch} {e : Env} {R : Room} {s : State} {m : MethodId} {args : Array Value} {below : List Frame} {meth : Method} {c : Code} {D : va_G} {kI kC kQ : ClassId} {ty : List (ClassId × FieldType)} {A : Nat → Prop} {cc : ByteArray} {nL ce sl : Nat} {ret : Option FieldType} {own : String} {Q : State → Prop} {lv : List (Nat × Value)} {pc : Nat} {st : List Value} {o r o9 r9 : Nat → Nat} {a9 : Nat} {ao ap : ADT} {b L : Nat} {xs : Nat → Int32}
theorem z_cell (X : CX p s m args meth c D (tysG kI kC kQ) A cc nL ret own) {w : va_W} (hL : L ≤ 260) (hX : va_X b L xs s s.heap) (hbl : b < s.heap.size) (hbA : ¬ A b) {i index : Nat} (hi : i < 44) (hG : GoodIn WS (va_wsS own index yL_cell (Cond.code yL_cell cL_cell 2 (some .int) :: WS))) (hR : 0 + 1 ≤ R.frames ∧ 8 + (2 + 11) + 0 ≤ R.locals) (hf : ce ≤ R.cells ∧ sl ≤ R.slots) (hW : (st.map fun v => v.category).sum ≤ 8) (hdg : decode cc pc = .ok (.invokestatic index, 3)) (kk : ∀ x : Int32, Z p l e R s m args below meth c D A nL ce sl Q w lv (pc + 3) (.int x :: st)) : Z p l e R s m args below meth c D A nL ce sl Q w lv pc (.int (nI i) :: .ref b :: st) := by
  intro H locs ls hP hD hS hl
  obtain ⟨hPc, hDc⟩ := fr_part (wl := []) (wc := []) (wr := w) hP hD
  have hFc := fr_free (wl := []) (wc := []) (wr := w) hD hS X.hA
  refine va_calli (va_runS X.fix (c_cell l D kI kC kQ b L xs hL i hi H.size) (va_cwS 2 X.ts hG rfl rfl rfl k_L_cell hR) ⟨PcX_blind, fun U hU hW => ⟨rfl, by rw [hU], by rw [hU]; exact hPc, va_K.moved hW.alike X.K, hDc, by rw [hU]; exact ((X.S.kept hS.2.1).moved hW.alike).narrow hFc, by rw [hU]; exact (hX.kept (hS.2.1 b hbl hbA)).moved hW.alike, Nat.lt_of_lt_of_le hbl hS.1⟩⟩ rfl rfl hl.1 rfl (lv_room hW) hdg hf) hS (fun q _ h => hFc q h) hFc (fun r1 u t H1 locs1 ht hvm hw hB hz1 hk1 hS1 => ?_)
  obtain ⟨rfl, hu⟩ := hw
  obtain ⟨hP1, hK1, hD1⟩ := hB
  rw [ht] at hP1
  obtain ⟨hP2, hD2⟩ := fr_join (wl := []) (wc := []) (wr := w) hP hD hk1 hFc hP1 hD1
  exact kk _ H1 locs1 ls hP2 hD2 hS1 hl
end
theorem wq_first : Cond.laysStatic "ShadowLatches$Circuit" "FIRST_SETTINGS" "[I" ∈ lw_tbl := tb1 _ (List.mem_of_getElem? (i := 22) (by decide +kernel))
theorem wq_least : Cond.laysStatic "ShadowLatches$Circuit" "LEAST_SETTINGS" "[I" ∈ lw_tbl := tb2 _ (List.mem_of_getElem? (i := 87) (by decide +kernel))
theorem wq_most : Cond.laysStatic "ShadowLatches$Circuit" "MOST_SETTINGS" "[I" ∈ lw_tbl := tb2 _ (List.mem_of_getElem? (i := 89) (by decide +kernel))
theorem WS_sub (w : Cond) (h : w ∈ WS) : w ∈ lw_tbl := (List.mem_filter.mp h).1
theorem len_exact {args : Array Value} {s : State} {t : Term} {N : Nat} (hN : N < 2 ^ 31) (h : (Term.length t).eval args s none [] s = some (.int (Int32.ofNat N))) : ∃ (a : Nat) (cell : Cell), t.eval args s none [] s = some (.ref a) ∧ s.arrayAt? a = some cell ∧ cell.slots.size = N := by
  simp only [Term.eval, Option.bind_eq_bind] at h
  cases ht : t.eval args s none [] s with
  | none => simp [ht] at h
  | some x =>
    cases x <;> simp [ht] at h
    case ref a =>
      obtain ⟨cell, hcell, h⟩ := Option.bind_eq_some_iff.mp h
      by_cases hn : cell.slots.size < 2147483648
      · rw [if_pos hn] at h
        refine ⟨a, cell, rfl, hcell, ?_⟩
        have h2 : Int32.ofNat cell.slots.size = Int32.ofNat N := by
          have := Option.some.inj h
          exact Value.int.inj this
        exact (nI_eq (by omega) hN).mp h2
      · rw [if_neg hn] at h; cases h
theorem law_ST {s : State} {b : Nat} (hts : ∀ w ∈ lw_tbl, w.before #[Value.ref b] s = true) (hg : (Jvm.Cond.and given_1 narrow_1).before #[Value.ref b] s = true) : ST (fun q => s.heap.size ≤ q) s s.heap := by
  have hs := flat_of_before _ hg
  have hA : ∀ a : Nat, a < s.heap.size → ¬ s.heap.size ≤ a := fun a h q => by omega
  have hini : (Cond.initialized "ShadowLatches$Circuit").before #[Value.ref b] s = true := hts _ (WS_sub _ wd1_2)
  obtain ⟨t1, e1, T1⟩ :=
    va_Tof (tm := .static "ShadowLatches$Circuit" "LEAST_SETTINGS" "[I") (ty := .int) (N := 7) (f := fun j => .int (leastS j)) (A := fun q => s.heap.size ≤ q) (by decide) (hs (.arrayOf (.static "ShadowLatches$Circuit" "LEAST_SETTINGS" "[I") .int) (by decide +kernel)) (va_eqt (hs (.eq (.length (.static "ShadowLatches$Circuit" "LEAST_SETTINGS" "[I")) (.int 7)) (by decide +kernel))) (by
      intro j hj
      match j, hj with
      | 0, _ => exact va_eqt (hs (.eq (.elem (.static "ShadowLatches$Circuit" "LEAST_SETTINGS" "[I") (.int 0)) (.int 50)) (by decide +kernel))
      | 1, _ => exact va_eqt (hs (.eq (.elem (.static "ShadowLatches$Circuit" "LEAST_SETTINGS" "[I") (.int 1)) (.int 0)) (by decide +kernel))
      | 2, _ => exact va_eqt (hs (.eq (.elem (.static "ShadowLatches$Circuit" "LEAST_SETTINGS" "[I") (.int 2)) (.int 1)) (by decide +kernel))
      | 3, _ => exact va_eqt (hs (.eq (.elem (.static "ShadowLatches$Circuit" "LEAST_SETTINGS" "[I") (.int 3)) (.int 10)) (by decide +kernel))
      | 4, _ => exact va_eqt (hs (.eq (.elem (.static "ShadowLatches$Circuit" "LEAST_SETTINGS" "[I") (.int 4)) (.int 0)) (by decide +kernel))
      | 5, _ => exact va_eqt (hs (.eq (.elem (.static "ShadowLatches$Circuit" "LEAST_SETTINGS" "[I") (.int 5)) (.int 1)) (by decide +kernel))
      | 6, _ => exact va_eqt (hs (.eq (.elem (.static "ShadowLatches$Circuit" "LEAST_SETTINGS" "[I") (.int 6)) (.int 1)) (by decide +kernel))) hA
  obtain ⟨t2, e2, T2⟩ :=
    va_Tof (tm := .static "ShadowLatches$Circuit" "MOST_SETTINGS" "[I") (ty := .int) (N := 7) (f := fun j => .int (mostS j)) (A := fun q => s.heap.size ≤ q) (by decide) (hs (.arrayOf (.static "ShadowLatches$Circuit" "MOST_SETTINGS" "[I") .int) (by decide +kernel)) (va_eqt (hs (.eq (.length (.static "ShadowLatches$Circuit" "MOST_SETTINGS" "[I")) (.int 7)) (by decide +kernel))) (by
      intro j hj
      match j, hj with
      | 0, _ => exact va_eqt (hs (.eq (.elem (.static "ShadowLatches$Circuit" "MOST_SETTINGS" "[I") (.int 0)) (.int 1000)) (by decide +kernel))
      | 1, _ => exact va_eqt (hs (.eq (.elem (.static "ShadowLatches$Circuit" "MOST_SETTINGS" "[I") (.int 1)) (.int 200)) (by decide +kernel))
      | 2, _ => exact va_eqt (hs (.eq (.elem (.static "ShadowLatches$Circuit" "MOST_SETTINGS" "[I") (.int 2)) (.int 20)) (by decide +kernel))
      | 3, _ => exact va_eqt (hs (.eq (.elem (.static "ShadowLatches$Circuit" "MOST_SETTINGS" "[I") (.int 3)) (.int 500)) (by decide +kernel))
      | 4, _ => exact va_eqt (hs (.eq (.elem (.static "ShadowLatches$Circuit" "MOST_SETTINGS" "[I") (.int 4)) (.int 100)) (by decide +kernel))
      | 5, _ => exact va_eqt (hs (.eq (.elem (.static "ShadowLatches$Circuit" "MOST_SETTINGS" "[I") (.int 5)) (.int 50)) (by decide +kernel))
      | 6, _ => exact va_eqt (hs (.eq (.elem (.static "ShadowLatches$Circuit" "MOST_SETTINGS" "[I") (.int 6)) (.int 10)) (by decide +kernel))) hA
  obtain ⟨t3, e3, T3⟩ :=
    va_Tof (tm := .static "ShadowLatches$Circuit" "FIRST_SETTINGS" "[I") (ty := .int) (N := 7) (f := fun j => .int (firstS j)) (A := fun q => s.heap.size ≤ q) (by decide) (hs (.arrayOf (.static "ShadowLatches$Circuit" "FIRST_SETTINGS" "[I") .int) (by decide +kernel)) (va_eqt (hs (.eq (.length (.static "ShadowLatches$Circuit" "FIRST_SETTINGS" "[I")) (.int 7)) (by decide +kernel))) (by
      intro j hj
      match j, hj with
      | 0, _ => exact va_eqt (hs (.eq (.elem (.static "ShadowLatches$Circuit" "FIRST_SETTINGS" "[I") (.int 0)) (.int 200)) (by decide +kernel))
      | 1, _ => exact va_eqt (hs (.eq (.elem (.static "ShadowLatches$Circuit" "FIRST_SETTINGS" "[I") (.int 1)) (.int 40)) (by decide +kernel))
      | 2, _ => exact va_eqt (hs (.eq (.elem (.static "ShadowLatches$Circuit" "FIRST_SETTINGS" "[I") (.int 2)) (.int 5)) (by decide +kernel))
      | 3, _ => exact va_eqt (hs (.eq (.elem (.static "ShadowLatches$Circuit" "FIRST_SETTINGS" "[I") (.int 3)) (.int 100)) (by decide +kernel))
      | 4, _ => exact va_eqt (hs (.eq (.elem (.static "ShadowLatches$Circuit" "FIRST_SETTINGS" "[I") (.int 4)) (.int 2)) (by decide +kernel))
      | 5, _ => exact va_eqt (hs (.eq (.elem (.static "ShadowLatches$Circuit" "FIRST_SETTINGS" "[I") (.int 5)) (.int 10)) (by decide +kernel))
      | 6, _ => exact va_eqt (hs (.eq (.elem (.static "ShadowLatches$Circuit" "FIRST_SETTINGS" "[I") (.int 6)) (.int 4)) (by decide +kernel))) hA
  refine ⟨⟨t1, va_Zof (hts _ wq_least) hini e1 hA, T1⟩, ⟨t2, va_Zof (hts _ wq_most) hini e2 hA, T2⟩, ?_, va_Nw.of rfl (hts _ wq_cast), va_AO.of (hts _ wq_ao)⟩
  obtain ⟨a0, k, cell, kk, g1, g2, g3, g4, g5, g6, g7⟩ := Cond.exactly_spec (hs (.exactly (.static "ShadowLatches$Circuit" "FIRST_SETTINGS" "[I") "[I") (by decide +kernel))
  obtain ⟨a1, cell1, f1, f2, f3⟩ := len_exact (s := s) (t := .static "ShadowLatches$Circuit" "FIRST_SETTINGS" "[I") (N := 7) (by decide) (va_eqt (hs (.eq (.length (.static "ShadowLatches$Circuit" "FIRST_SETTINGS" "[I")) (.int 7)) (by decide +kernel)))
  obtain ⟨f4, f5, f6, -⟩ := State.arrayAt?_spec f2
  obtain ⟨cell2, c1, c2, c3, c4, c5, c6, c7⟩ := T3
  cases e3.symm.trans g1
  cases e3.symm.trans f1
  cases f4.symm.trans g3
  cases f4.symm.trans c1
  refine ⟨t3, k, va_Zof (hts _ wq_first) hini e3 hA, g2, cell, g3, g6, f6, f5, ?_, c7⟩
  apply Array.ext_getElem?
  intro i
  by_cases hi : i < 7
  · rw [c6 i hi]
    exact (arrV_read k (fun j => .int (firstS j)) hi).symm
  · rw [Array.getElem?_eq_none (by omega), Array.getElem?_eq_none (by rw [show (vp_cell k (7, .inl firstS)).slots.size = 7 from arrV_size _ _ _]; omega)]
