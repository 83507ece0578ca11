theorem WS_sub (w : Cond) (h : w ∈ WS) : w ∈ lw_tbl := (List.mem_filter.mp h).1
theorem wq_first : Cond.laysStatic "ShadowLatches$Circuit" "FIRST_SETTINGS" "[I" ∈ lw_tbl := tb1 _ (List.mem_of_getElem? (i := 23) (by decide +kernel))
theorem wq_least : Cond.laysStatic "ShadowLatches$Circuit" "LEAST_SETTINGS" "[I" ∈ lw_tbl := tb1 _ (List.mem_of_getElem? (i := 230) (by decide +kernel))
theorem wq_most : Cond.laysStatic "ShadowLatches$Circuit" "MOST_SETTINGS" "[I" ∈ lw_tbl := tb1 _ (List.mem_of_getElem? (i := 232) (by decide +kernel))
theorem len_exact {args : Array Value} {s : State} {t : Term} {N : Nat} (hN : N < 2 ^ 31) (h : (Term.length t).eval args s none [] s = some (.int (Int32.ofNat N))) : ∃ (a : Nat) (cell : Cell), t.eval args s none [] s = some (.ref a) ∧ s.arrayAt? a = some cell ∧ cell.slots.size = N := by
  simp only [Term.eval, Option.bind_eq_bind] at h
  cases ht : t.eval args s none [] s with
  | none => simp [ht] at h
  | some x =>
    cases x <;> simp [ht] at h
    case ref a =>
      obtain ⟨cell, hcell, h⟩ := Option.bind_eq_some_iff.mp h
      by_cases hn : cell.slots.size < 2147483648
      · rw [if_pos hn] at h
        refine ⟨a, cell, rfl, hcell, ?_⟩
        have h2 : Int32.ofNat cell.slots.size = Int32.ofNat N := by
          have := Option.some.inj h
          exact Value.int.inj this
        exact (nI_eq (by omega) hN).mp h2
      · rw [if_neg hn] at h; cases h
theorem law_ST {s : State} {b : Nat} (hts : ∀ w ∈ lw_tbl, w.before #[Value.ref b] s = true) (hg : (Jvm.Cond.and given_1 narrow_1).before #[Value.ref b] s = true) : ST (fun q => s.heap.size ≤ q) s s.heap := by
  have hs := flat_of_before _ hg
  have hA : ∀ a : Nat, a < s.heap.size → ¬ s.heap.size ≤ a := fun a h q => by omega
  have hini : (Cond.initialized "ShadowLatches$Circuit").before #[Value.ref b] s = true := hts _ (WS_sub _ wd1_2)
  obtain ⟨t1, e1, T1⟩ :=
    va_Tof (tm := .static "ShadowLatches$Circuit" "LEAST_SETTINGS" "[I") (ty := .int) (N := 7) (f := fun j => .int (leastS j)) (A := fun q => s.heap.size ≤ q) (by decide) (hs (.arrayOf (.static "ShadowLatches$Circuit" "LEAST_SETTINGS" "[I") .int) (by decide +kernel)) (va_eqt (hs (.eq (.length (.static "ShadowLatches$Circuit" "LEAST_SETTINGS" "[I")) (.int 7)) (by decide +kernel))) (by
      intro j hj
      match j, hj with
      | 0, _ => exact va_eqt (hs (.eq (.elem (.static "ShadowLatches$Circuit" "LEAST_SETTINGS" "[I") (.int 0)) (.int 50)) (by decide +kernel))
      | 1, _ => exact va_eqt (hs (.eq (.elem (.static "ShadowLatches$Circuit" "LEAST_SETTINGS" "[I") (.int 1)) (.int 0)) (by decide +kernel))
      | 2, _ => exact va_eqt (hs (.eq (.elem (.static "ShadowLatches$Circuit" "LEAST_SETTINGS" "[I") (.int 2)) (.int 1)) (by decide +kernel))
      | 3, _ => exact va_eqt (hs (.eq (.elem (.static "ShadowLatches$Circuit" "LEAST_SETTINGS" "[I") (.int 3)) (.int 10)) (by decide +kernel))
      | 4, _ => exact va_eqt (hs (.eq (.elem (.static "ShadowLatches$Circuit" "LEAST_SETTINGS" "[I") (.int 4)) (.int 0)) (by decide +kernel))
      | 5, _ => exact va_eqt (hs (.eq (.elem (.static "ShadowLatches$Circuit" "LEAST_SETTINGS" "[I") (.int 5)) (.int 1)) (by decide +kernel))
      | 6, _ => exact va_eqt (hs (.eq (.elem (.static "ShadowLatches$Circuit" "LEAST_SETTINGS" "[I") (.int 6)) (.int 1)) (by decide +kernel))) hA
  obtain ⟨t2, e2, T2⟩ :=
    va_Tof (tm := .static "ShadowLatches$Circuit" "MOST_SETTINGS" "[I") (ty := .int) (N := 7) (f := fun j => .int (mostS j)) (A := fun q => s.heap.size ≤ q) (by decide) (hs (.arrayOf (.static "ShadowLatches$Circuit" "MOST_SETTINGS" "[I") .int) (by decide +kernel)) (va_eqt (hs (.eq (.length (.static "ShadowLatches$Circuit" "MOST_SETTINGS" "[I")) (.int 7)) (by decide +kernel))) (by
      intro j hj
      match j, hj with
      | 0, _ => exact va_eqt (hs (.eq (.elem (.static "ShadowLatches$Circuit" "MOST_SETTINGS" "[I") (.int 0)) (.int 1000)) (by decide +kernel))
      | 1, _ => exact va_eqt (hs (.eq (.elem (.static "ShadowLatches$Circuit" "MOST_SETTINGS" "[I") (.int 1)) (.int 200)) (by decide +kernel))
      | 2, _ => exact va_eqt (hs (.eq (.elem (.static "ShadowLatches$Circuit" "MOST_SETTINGS" "[I") (.int 2)) (.int 20)) (by decide +kernel))
      | 3, _ => exact va_eqt (hs (.eq (.elem (.static "ShadowLatches$Circuit" "MOST_SETTINGS" "[I") (.int 3)) (.int 500)) (by decide +kernel))
      | 4, _ => exact va_eqt (hs (.eq (.elem (.static "ShadowLatches$Circuit" "MOST_SETTINGS" "[I") (.int 4)) (.int 100)) (by decide +kernel))
      | 5, _ => exact va_eqt (hs (.eq (.elem (.static "ShadowLatches$Circuit" "MOST_SETTINGS" "[I") (.int 5)) (.int 50)) (by decide +kernel))
      | 6, _ => exact va_eqt (hs (.eq (.elem (.static "ShadowLatches$Circuit" "MOST_SETTINGS" "[I") (.int 6)) (.int 10)) (by decide +kernel))) hA
  obtain ⟨t3, e3, T3⟩ :=
    va_Tof (tm := .static "ShadowLatches$Circuit" "FIRST_SETTINGS" "[I") (ty := .int) (N := 7) (f := fun j => .int (firstS j)) (A := fun q => s.heap.size ≤ q) (by decide) (hs (.arrayOf (.static "ShadowLatches$Circuit" "FIRST_SETTINGS" "[I") .int) (by decide +kernel)) (va_eqt (hs (.eq (.length (.static "ShadowLatches$Circuit" "FIRST_SETTINGS" "[I")) (.int 7)) (by decide +kernel))) (by
      intro j hj
      match j, hj with
      | 0, _ => exact va_eqt (hs (.eq (.elem (.static "ShadowLatches$Circuit" "FIRST_SETTINGS" "[I") (.int 0)) (.int 200)) (by decide +kernel))
      | 1, _ => exact va_eqt (hs (.eq (.elem (.static "ShadowLatches$Circuit" "FIRST_SETTINGS" "[I") (.int 1)) (.int 40)) (by decide +kernel))
      | 2, _ => exact va_eqt (hs (.eq (.elem (.static "ShadowLatches$Circuit" "FIRST_SETTINGS" "[I") (.int 2)) (.int 5)) (by decide +kernel))
      | 3, _ => exact va_eqt (hs (.eq (.elem (.static "ShadowLatches$Circuit" "FIRST_SETTINGS" "[I") (.int 3)) (.int 100)) (by decide +kernel))
      | 4, _ => exact va_eqt (hs (.eq (.elem (.static "ShadowLatches$Circuit" "FIRST_SETTINGS" "[I") (.int 4)) (.int 2)) (by decide +kernel))
      | 5, _ => exact va_eqt (hs (.eq (.elem (.static "ShadowLatches$Circuit" "FIRST_SETTINGS" "[I") (.int 5)) (.int 10)) (by decide +kernel))
      | 6, _ => exact va_eqt (hs (.eq (.elem (.static "ShadowLatches$Circuit" "FIRST_SETTINGS" "[I") (.int 6)) (.int 4)) (by decide +kernel))) hA
  refine ⟨⟨t1, va_Zof (hts _ wq_least) hini e1 hA, T1⟩, ⟨t2, va_Zof (hts _ wq_most) hini e2 hA, T2⟩, ?_, va_Nw.of rfl (hts _ wq1_29), va_AO.of (hts _ wq1_109)⟩
  obtain ⟨a0, k, cell, kk, g1, g2, g3, g4, g5, g6, g7⟩ := Cond.exactly_spec (hs (.exactly (.static "ShadowLatches$Circuit" "FIRST_SETTINGS" "[I") "[I") (by decide +kernel))
  obtain ⟨a1, cell1, f1, f2, f3⟩ := len_exact (s := s) (t := .static "ShadowLatches$Circuit" "FIRST_SETTINGS" "[I") (N := 7) (by decide) (va_eqt (hs (.eq (.length (.static "ShadowLatches$Circuit" "FIRST_SETTINGS" "[I")) (.int 7)) (by decide +kernel)))
  obtain ⟨f4, f5, f6, -⟩ := State.arrayAt?_spec f2
  obtain ⟨cell2, c1, c2, c3, c4, c5, c6, c7⟩ := T3
  cases e3.symm.trans g1
  cases e3.symm.trans f1
  cases f4.symm.trans g3
  cases f4.symm.trans c1
  refine ⟨t3, k, va_Zof (hts _ wq_first) hini e3 hA, g2, cell, g3, g6, f6, f5, ?_, c7⟩
  apply Array.ext_getElem?
  intro i
  by_cases hi : i < 7
  · rw [c6 i hi]
    exact (arrV_read k (fun j => .int (firstS j)) hi).symm
  · rw [Array.getElem?_eq_none (by omega), Array.getElem?_eq_none (by rw [show (vp_cell k (7, .inl firstS)).slots.size = 7 from arrV_size _ _ _]; omega)]
section
variable {p : Program} {l : Launch} {e : Env} {s : State} {m : MethodId} {args : Array Value} {below : List Frame} {meth : Method} {c : Code} {D : va_G} {kI kC kQ : ClassId} {ty : List (ClassId × FieldType)} {A : Nat → Prop} {ce sl i B : Nat} {Q : State → Prop} {o r mo : Nat → Nat} {ad : ADT} {S : SLS} {M : ARR} {b L : Nat} {xs : Nat → Int32} {W1 : va_W}
theorem z_end (hx : p.tables.exec = Jvm.exec) (hb : c.code = code) (hr : meth.sig.returnType = ret) (hlocks : meth.locks = false) {w : va_W} {lv : List (Nat × Value)} {b : Nat} (hce : ce ≤ 600000) (hsl : sl ≤ 7302249) {pc : Nat} (hdg : decode code pc = .ok (.ireturn, 1)) : Z p l e room_1 s m #[Value.ref b] below meth c D (fun q => s.heap.size ≤ q) 4 ce sl (lw_Z below #[Value.ref b] s) w lv pc [.int 1] :=
  fun H locs ls hP hD hS hl => va_forget hS.2.2 (W.widen hce hsl (lw_ret hx hb hr hlocks hdg))
set_option maxRecDepth 100000 in
set_option maxHeartbeats 4000000 in
theorem law_loop (X : CX p s m #[Value.ref b] meth c D (tysG kI kC kQ) (fun q => s.heap.size ≤ q) cL_law 4 ret "ShadowLatchesLaw") (hX : va_X b L xs s s.heap) (hbl : b < s.heap.size) (hcs : ce ≤ 600000 ∧ sl ≤ 7302249) (hcs2 : ce ≤ room_1.cells ∧ sl ≤ room_1.slots) (hL : L ≤ 2048) : ∀ (n i B : Nat) (S : SLS) (M : ARR) (ad : ADT), i ≤ L → L + 1 ≤ i + n → (L < 4 → i = 0) → B ≤ 6336000 * i → RS B S M → Z p l e room_1 s m #[Value.ref b] below meth c D (fun q => s.heap.size ≤ q) 4 ce sl (lw_Z below #[Value.ref b] s) (wS kI kC kQ o r ad S ++ wM kI mo M) [(3, .int (nI i)), (2, .ref (mo 0)), (1, .ref (o 0)), (0, .ref b)] 18 []
  | 0, i, B, S, M, ad, h1, h2, _, _, _ => absurd h2 (by omega)
  | n + 1, i, B, S, M, ad, h1, h2, h3, h4, h => by
    have hbA : ¬ s.heap.size ≤ b := by omega
    refine z_iload_n X dL_law_18 0 rfl ?_
    refine z_aload_n X dL_law_19 3 rfl ?_
    refine z_slen X hX hbl hbA dL_law_20 ?_
    refine z_iconst (v := (4 : Int32)) X dL_law_21 (by decide) ?_
    refine z_isub X dL_law_22 ?_
    refine z_icmp_gt (tgt := 658) X dL_law_23 (by decide) (fun _ => ?_) (fun c23 => ?_)
    · refine z_iconst (v := (1 : Int32)) X dL_law_658 (by decide) ?_
      exact z_end X.x X.b X.r X.lk hcs.1 hcs.2 dL_law_659
    have hi : i + 4 ≤ L := lim_in hL h1 h3 c23
    have K : ∀ (S' : SLS) (M' : ARR) (ad' : ADT), RS (B + 6336000) S' M' → Z p l e room_1 s m #[Value.ref b] below meth c D (fun q => s.heap.size ≤ q) 4 ce sl (lw_Z below #[Value.ref b] s) (wS kI kC kQ o r ad' S' ++ wM kI mo M') [(3, .int (nI i)), (2, .ref (mo 0)), (1, .ref (o 0)), (0, .ref b)] 652 [] := by
      intro S' M' ad' h'
      refine z_iinc (v := nI (i + 4)) (lv' := [(3, .int (nI (i + 4))), (2, .ref (mo 0)), (1, .ref (o 0)), (0, .ref b)]) X dL_law_652 0 rfl (show nI i + nI 4 = nI (i + 4) from nI_add i 4) (Nat.le_of_ble_eq_true rfl) rfl ?_
      refine z_goto (tgt := 18) X dL_law_655 (by decide) ?_
      exact law_loop X hX hbl hcs hcs2 hL n (i + 4) (B + 6336000) S' M' ad' hi (by omega) (fun q => absurd q (by omega)) (by omega) h'
    refine z_aload_n X dL_law_26 3 rfl ?_
    refine z_iload_n X dL_law_27 0 rfl ?_
    refine z_sld X hX hbl hbA (sx0 hi hL) dL_law_28 ?_
    refine z_bipush (v := (31 : Int32)) X dL_law_29 (by decide) ?_
    refine z_iand X dL_law_31 ?_
    have hB : B < 2 ^ 63 := by omega
    obtain ⟨j, hj, ej⟩ := pk_andE (xs i) (m := 31) 5 (by decide)
    refine z_topi (fun y ey => ?_)
    rw [ej] at ey
    subst ey
    match j, hj with
    | 0, _ => exact z_tableIn (off := 96) (tgt := 128) X dL_law_32 (by decide +kernel) (by decide +kernel) (by decide +kernel) (by decide) (law_c0 X hX hbl hbA hcs2 hL hi hB h K)
    | 1, _ => exact z_tableIn (off := 119) (tgt := 151) X dL_law_32 (by decide +kernel) (by decide +kernel) (by decide +kernel) (by decide) (law_c1 X hX hbl hbA hcs2 hL hi hB h K)
    | 2, _ => exact z_tableIn (off := 152) (tgt := 184) X dL_law_32 (by decide +kernel) (by decide +kernel) (by decide +kernel) (by decide) (law_c2 X hX hbl hbA hcs2 hL hi hB h K)
    | 3, _ => exact z_tableIn (off := 165) (tgt := 197) X dL_law_32 (by decide +kernel) (by decide +kernel) (by decide +kernel) (by decide) (law_c3 X hX hbl hbA hcs2 hL hi hB h K)
    | 4, _ => exact z_tableIn (off := 198) (tgt := 230) X dL_law_32 (by decide +kernel) (by decide +kernel) (by decide +kernel) (by decide) (law_c4 X hX hbl hbA hcs2 hL hi hB h K)
    | 5, _ => exact z_tableIn (off := 221) (tgt := 253) X dL_law_32 (by decide +kernel) (by decide +kernel) (by decide +kernel) (by decide) (law_c5 X hX hbl hbA hcs2 hL hi hB h K)
    | 6, _ => exact z_tableIn (off := 260) (tgt := 292) X dL_law_32 (by decide +kernel) (by decide +kernel) (by decide +kernel) (by decide) (law_c6 X hX hbl hbA hcs2 hL hi hB h K)
    | 7, _ => exact z_tableIn (off := 293) (tgt := 325) X dL_law_32 (by decide +kernel) (by decide +kernel) (by decide +kernel) (by decide) (law_c7 X hX hbl hbA hcs2 hL hi hB h K)
    | 8, _ => exact z_tableIn (off := 316) (tgt := 348) X dL_law_32 (by decide +kernel) (by decide +kernel) (by decide +kernel) (by decide) (law_c8 X hX hbl hbA hcs2 hL hi hB h K)
    | 9, _ => exact z_tableIn (off := 341) (tgt := 373) X dL_law_32 (by decide +kernel) (by decide +kernel) (by decide +kernel) (by decide) (law_c9 X hX hbl hbA hcs2 hL hi hB h K)
    | 10, _ => exact z_tableIn (off := 354) (tgt := 386) X dL_law_32 (by decide +kernel) (by decide +kernel) (by decide +kernel) (by decide) (law_c10 X hX hbl hbA hcs2 hL hi hB h K)
    | 11, _ => exact z_tableIn (off := 367) (tgt := 399) X dL_law_32 (by decide +kernel) (by decide +kernel) (by decide +kernel) (by decide) (law_c11 X hX hbl hbA hcs2 hL hi hB h K)
    | 12, _ => exact z_tableIn (off := 380) (tgt := 412) X dL_law_32 (by decide +kernel) (by decide +kernel) (by decide +kernel) (by decide) (law_c12 X hX hbl hbA hcs2 hL hi hB h K)
    | 13, _ => exact z_tableIn (off := 393) (tgt := 425) X dL_law_32 (by decide +kernel) (by decide +kernel) (by decide +kernel) (by decide) (law_c13 X hX hbl hbA hcs2 hL hi hB h K)
    | 14, _ => exact z_tableIn (off := 426) (tgt := 458) X dL_law_32 (by decide +kernel) (by decide +kernel) (by decide +kernel) (by decide) (law_c14 X hX hbl hbA hcs2 hL hi hB h K)
    | 15, _ => exact z_tableIn (off := 469) (tgt := 501) X dL_law_32 (by decide +kernel) (by decide +kernel) (by decide +kernel) (by decide) (law_c15 X hX hbl hbA hcs2 hL hi hB h K)
    | 16, _ => exact z_tableIn (off := 492) (tgt := 524) X dL_law_32 (by decide +kernel) (by decide +kernel) (by decide +kernel) (by decide) (law_c16 X hX hbl hbA hcs2 hL hi hB h K)
    | 17, _ => exact z_tableIn (off := 531) (tgt := 563) X dL_law_32 (by decide +kernel) (by decide +kernel) (by decide +kernel) (by decide) (law_c17 X hX hbl hbA hcs2 hL hi hB h K)
    | 18, _ => exact z_tableIn (off := 574) (tgt := 606) X dL_law_32 (by decide +kernel) (by decide +kernel) (by decide +kernel) (by decide) (law_c18 X hX hbl hbA hcs2 hL hi hB h K)
    | 19, _ => exact z_tableIn (off := 597) (tgt := 629) X dL_law_32 (by decide +kernel) (by decide +kernel) (by decide +kernel) (by decide) (law_c19 X hX hbl hbA hcs2 hL hi hB h K)
    | q + 20, hq => exact z_tableOut (tgt := 652) X dL_law_32 (Or.inr (by rw [nI_toInt (by omega)]; omega)) (by decide) (K S M ad (h.up (by omega)))
end
set_option maxRecDepth 100000 in
set_option maxHeartbeats 4000000 in
/-- from the entry, for every script of at most 2048 ints, the law comes to its end with true -/
theorem whole_start {p : Program} {e : Env} {s : State} {m : MethodId} {below : List Frame} {meth : Method} {c : Code} (l : Launch) (hflags : l.flags = flags0) {b L : Nat} {xs : Nat → Int32} (hL : L ≤ 2048) (C0 : lw_At p s m meth c b L xs) : W p l e room_1 s m #[Value.ref b] below meth c s.heap [] 0 0 (lw_Z below #[Value.ref b] s) (entryFrame m ([Value.ref b] : List Value).toArray 4) := by
  obtain ⟨hx, hbc, hr, hml, hown, hts, hX, hbl, hlk, hg⟩ := C0
  have htw : ∀ w ∈ WS, w.before #[Value.ref b] s = true := fun w hw => hts w (WS_sub w hw)
  obtain ⟨c0, i0, K0⟩ := u_known (C := RX0) (T := TX0) (N := 19) (n := 19) htw inW0 (htw _ wd1_17)
  obtain ⟨c1, i1, K1⟩ := u_known (C := RX1) (T := TX1) (N := 4) (n := 4) htw inW1 (htw _ wd1_111)
  obtain ⟨c2, i2, K2⟩ := u_known (C := RX2) (T := TX2) (N := 7) (n := 7) htw inW2 (htw _ wd1_9)
  obtain ⟨c3, i3, K3⟩ := u_known (C := RX3) (T := TX3) (N := 12) (n := 12) htw inW3 (htw _ wd2_121)
  obtain ⟨kI, kkI, coI, n1, n2, n3⟩ := Cond.arrayClass_spec (htw _ wd1_108)
  obtain ⟨kC, kkC, coC, n4, n5, n6⟩ := Cond.arrayClass_spec (htw _ wd1_132)
  obtain ⟨coQ, kQ, kkQ, n7, n8, n9, n10, n11⟩ := Cond.arrayOver_spec (hts _ wq1_109)
  obtain ⟨D, hD⟩ : ∃ D : va_G, D = ((fun q => match q with | 0 => c0 | 1 => c1 | 2 => c2 | _ => c3), (fun q => match q with | 0 => i0 | 1 => i1 | 2 => i2 | _ => i3)) := ⟨_, rfl⟩
  have hK : va_K D vwCl (tysG kI kC kQ) s := by
    rw [hD]
    refine ⟨fun q u hq => ?_, fun q u hq => ?_⟩
    · match q, hq with
      | 0, hq => cases hq; exact K0
      | 1, hq => cases hq; exact K1
      | 2, hq => cases hq; exact K2
      | 3, hq => cases hq; exact K3
    · match q, hq with
      | 0, hq => cases hq; exact ⟨fun _ _ => ⟨(fun k h => by cases h), kkI, n2, coI, n3⟩, n1⟩
      | 1, hq => cases hq; exact ⟨fun _ _ => ⟨(fun k h => by cases h), kkC, n5, coC, n6⟩, n4⟩
      | 2, hq => cases hq; exact ⟨fun _ _ => ⟨(fun k h => by cases h), kkQ, n9, coQ, n10⟩, kkQ, coQ, n9, n10, n7, n11⟩
  have X : CX p s m #[Value.ref b] meth c D (tysG kI kC kQ) (fun q => s.heap.size ≤ q) cL_law 4 ret "ShadowLatchesLaw" := ⟨hx, hbc, hr, hml, hown, htw, hlk, hK, fun _ h => h, law_ST hts hg⟩
  have hl := lv_entry [Value.ref b] (n := 4) (Nat.le_of_ble_eq_true rfl)
  rw [lg_entry_eq]
  have hP0 : va_P D vwCl [] s.heap := fun k q h => by simp at h
  have hD0 : va_D (fun q => s.heap.size ≤ q) [] := ⟨fun i j p q h => by simp at h, fun k q h => by simp at h⟩
  suffices hz : Z p l e room_1 s m #[Value.ref b] below meth c D (fun q => s.heap.size ≤ q) 4 0 0 (lw_Z below #[Value.ref b] s) [] [(0, .ref b)] 0 [] by
    exact hz s.heap [] _ hP0 hD0 va_S.rf hl
  refine z_new X inW2 tyX2 tyX2_ok wd1_8 wd1_9 wd1_1 rfl [.null, .null, .null, .null, .null, .int 0, .int 0] (fun j hj => by revert j; exact hfsX2) (Nat.le_of_ble_eq_true rfl) (Nat.le_of_ble_eq_true rfl) (fun q0 => [(q0, .inr (2, [.null, .null, .null, .null, .null, .int 0, .int 0]))]) (fun _ => rfl) dL_law_0 (fun q0 => ?_)
  refine z_dup X dL_law_3 rfl ?_
  refine z_callI X (c_S_init l D kI kC kQ q0) wd1_12 wd1_1 wd1_10 wd1_11 rfl (by decide +kernel) rfl rfl ⟨Nat.le_of_ble_eq_true rfl, Nat.le_of_ble_eq_true rfl⟩ ⟨Nat.le_of_ble_eq_true rfl, Nat.le_of_ble_eq_true rfl⟩ rfl rfl (Nat.le_of_ble_eq_true rfl) dL_law_4 (wl := []) (wr := []) rfl (fun u hu => ?_)
  obtain ⟨⟨o, r⟩, ad⟩ := u
  have hu : o 0 = q0 := hu
  subst hu
  refine z_w (w' := wS kI kC kQ o r ad S0) (by rw [List.append_nil]; rfl) ?_
  refine z_astore_n (lv' := [(1, .ref (o 0)), (0, .ref b)]) X dL_law_7 (Nat.le_of_ble_eq_true rfl) rfl ?_
  refine z_new X inW3 tyX3 tyX3_ok wd2_120 wd2_121 wd1_4 rfl [.null, .null, .null, .null, .int 0, .null, .int 0, .null, .int 0, .int 0, .null, .int 0] (fun j hj => by revert j; exact hfsX3) (Nat.le_of_ble_eq_true rfl) (Nat.le_of_ble_eq_true rfl) (fun q1 => wS kI kC kQ o r ad S0 ++ [(q1, .inr (3, [.null, .null, .null, .null, .int 0, .null, .int 0, .null, .int 0, .int 0, .null, .int 0]))]) (fun _ => rfl) dL_law_8 (fun q1 => ?_)
  refine z_dup X dL_law_11 rfl ?_
  refine z_callI X (c_M_init l D kI kC kQ q1) wd2_124 wd1_4 wd2_122 wd2_123 rfl (by decide +kernel) rfl rfl ⟨Nat.le_of_ble_eq_true rfl, Nat.le_of_ble_eq_true rfl⟩ ⟨Nat.le_of_ble_eq_true rfl, Nat.le_of_ble_eq_true rfl⟩ rfl rfl (Nat.le_of_ble_eq_true rfl) dL_law_12 (wl := wS kI kC kQ o r ad S0) (wr := []) rfl (fun mo hu => ?_)
  subst hu
  refine z_w (w' := wS kI kC kQ o r ad S0 ++ wM kI mo M0) (by rw [List.append_nil]) ?_
  refine z_astore_n (lv' := [(2, .ref (mo 0)), (1, .ref (o 0)), (0, .ref b)]) X dL_law_15 (Nat.le_of_ble_eq_true rfl) rfl ?_
  refine z_iconst (v := (0 : Int32)) X dL_law_16 (by decide) ?_
  refine z_istore_n (lv' := [(3, .int (nI 0)), (2, .ref (mo 0)), (1, .ref (o 0)), (0, .ref b)]) X dL_law_17 (Nat.le_of_ble_eq_true rfl) rfl ?_
  exact law_loop X hX hbl ⟨Nat.le_of_ble_eq_true rfl, Nat.le_of_ble_eq_true rfl⟩ ⟨Nat.le_of_ble_eq_true rfl, Nat.le_of_ble_eq_true rfl⟩ hL (L + 1) 0 0 S0 M0 ad (by omega) (by omega) (fun _ => rfl) (by omega) init_RS
