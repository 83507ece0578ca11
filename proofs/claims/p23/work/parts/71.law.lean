theorem k_L_isWell : yL_isWell.cls ≠ "java/lang/invoke/MethodHandle" ∧ yL_isWell.cls ≠ "java/lang/invoke/VarHandle" ∧ (parseMethodDescriptor yL_isWell.desc).map (fun d => d.parameters.length) = some 1 := by decide +kernel
theorem k_L_areAlike : yL_areAlike.cls ≠ "java/lang/invoke/MethodHandle" ∧ yL_areAlike.cls ≠ "java/lang/invoke/VarHandle" ∧ (parseMethodDescriptor yL_areAlike.desc).map (fun d => d.parameters.length) = some 2 := by decide +kernel
theorem k_L_isStep : yL_isStep.cls ≠ "java/lang/invoke/MethodHandle" ∧ yL_isStep.cls ≠ "java/lang/invoke/VarHandle" ∧ (parseMethodDescriptor yL_isStep.desc).map (fun d => d.parameters.length) = some 4 := by decide +kernel
theorem k_S_addPath : yX2_addPath.cls = "ShadowLatches" ∧ yX2_addPath.cls ≠ "java/lang/invoke/MethodHandle" ∧ yX2_addPath.cls ≠ "java/lang/invoke/VarHandle" ∧ (parseMethodDescriptor yX2_addPath.desc).map (fun d => d.parameters.length) = some 1 := by decide +kernel
/-! the six paths at the beginning -/
theorem add_P {S : SLS} {P l : Nat} (hP : (S.1 0).1 4 2 = nI P) (p8 : P < 8) (l1 : 10 ≤ l) (l2 : l ≤ 400) : (F_S_addPath S (nI l)).1 = nI P ∧ (F_S_addPath S (nI l)).2.1 0 = sC (sC (S.1 0) 0 P (nI l)) 4 2 (nI (P + 1)) ∧ (F_S_addPath S (nI l)).2.2.1 = S.2.1 := by
  unfold F_S_addPath F_S_isLength
  dsimp only
  rw [show F_S_isWithin (nI l) (10 : Int32) (400 : Int32) = 1 from wi_1 (lo := 10) (hi := 400) l1 l2 (by omega), hP]
  simp only [if_neg (show ¬ (1 : Int32) = 0 by decide), if_pos (show nI P < (8 : Int32) from nI_lt (b := 8) p8 (by omega))]
  rw [rec_1 S (by omega), hP, nI_clamp (show P < 2 ^ 31 by omega), sSC_e, sSC_e, nI_1]
  exact ⟨rfl, rfl, rec_T S⟩
def So : SLS := (F_S_addPath (F_S_addPath S0 (nI 120)).2 (nI 90)).2
def Sp2 : SLS := (F_S_addPath (F_S_addPath S0 (nI 120)).2 (nI 90)).2
def Sp3 : SLS := (F_S_addPath Sp2 (nI 400)).2
def Sp4 : SLS := (F_S_addPath Sp3 (nI 10)).2
def Co : CS := sC (sC (sC (sC C0 0 1 (nI 120)) 4 2 (nI 2)) 0 2 (nI 90)) 4 2 (nI 3)
def Cp : CS := sC (sC (sC (sC Co 0 3 (nI 400)) 4 2 (nI 4)) 0 4 (nI 10)) 4 2 (nI 5)
theorem S0_p : (S0.1 0).1 4 2 = nI 1 := by decide +kernel
theorem add_1 : (F_S_addPath S0 (nI 120)).1 = nI 1 ∧ (F_S_addPath S0 (nI 120)).2.1 0 = sC (sC C0 0 1 (nI 120)) 4 2 (nI 2) ∧ (F_S_addPath S0 (nI 120)).2.2.1 = T0 := add_P S0_p (by omega) (by omega) (by omega)
theorem add_2 : (F_S_addPath (F_S_addPath S0 (nI 120)).2 (nI 90)).1 = nI 2 ∧ So.1 0 = Co ∧ So.2.1 = T0 := by
  obtain ⟨a1, a2, a3⟩ := add_1
  obtain ⟨b1, b2, b3⟩ := add_P (S := (F_S_addPath S0 (nI 120)).2) (P := 2) (l := 90) (by rw [a2, sC_e]) (by omega) (by omega) (by omega)
  exact ⟨b1, by unfold So Co; rw [b2, a2], by unfold So; rw [b3, a3]⟩
theorem add_3 : (F_S_addPath Sp2 (nI 400)).1 = nI 3 ∧ Sp3.1 0 = sC (sC Co 0 3 (nI 400)) 4 2 (nI 4) ∧ Sp3.2.1 = T0 := by
  obtain ⟨a1, a2, a3⟩ := add_2
  have a2 : Sp2.1 0 = Co := a2
  have a3 : Sp2.2.1 = T0 := a3
  obtain ⟨b1, b2, b3⟩ := add_P (S := Sp2) (P := 3) (l := 400) (by rw [a2]; unfold Co; rw [sC_e]) (by omega) (by omega) (by omega)
  exact ⟨b1, by unfold Sp3; rw [b2, a2], by unfold Sp3; rw [b3, a3]⟩
theorem add_4 : (F_S_addPath Sp3 (nI 10)).1 = nI 4 ∧ Sp4.1 0 = Cp ∧ Sp4.2.1 = T0 := by
  obtain ⟨a1, a2, a3⟩ := add_3
  obtain ⟨b1, b2, b3⟩ := add_P (S := Sp3) (P := 4) (l := 10) (by rw [a2, sC_e]) (by omega) (by omega) (by omega)
  exact ⟨b1, by unfold Sp4 Cp; rw [b2, a2], by unfold Sp4; rw [b3, a3]⟩
theorem ROK_o : ROK So := (ROK_0.addPath _).addPath _
theorem ROK_p : ROK Sp4 := (ROK_o.addPath _).addPath _
theorem Co_set : ∀ k : Nat, k < 16 → Co.1 2 k = nI 0 := by decide +kernel
theorem tw_0 : TWC Co Cp := by
  refine ⟨⟨by decide +kernel, by decide +kernel⟩, by decide +kernel, by decide +kernel, ⟨by decide +kernel, by decide +kernel⟩, by decide +kernel, fun k hk => ⟨0, by omega, by omega, Co_set k hk⟩, by decide +kernel, by decide +kernel, by decide +kernel⟩
theorem NUM_0 : NUM 0 Co := ⟨0, 0, 0, 0, 0, 0, by decide +kernel, by decide +kernel, by decide +kernel, by decide +kernel, by decide +kernel, by decide +kernel, by omega, by omega, by omega, by omega, by omega, fun _ => ⟨rfl, rfl⟩⟩
theorem INV_0 (f : Nat → Int32) : INV 0 (So, Sp4, f) := by
  refine ⟨ROK_o, ROK_p, ?_, ?_, ?_⟩
  · show TWC (So.1 0) (Sp4.1 0)
    rw [add_2.2.1, add_4.2.1]; exact tw_0
  · show Sp4.2.1 = So.2.1
    rw [add_2.2.2, add_4.2.2]
  · show NUM 0 (So.1 0)
    rw [add_2.2.1]; exact NUM_0
section
variable {p : Program} {l : Launch} {e : Env} {s : State} {m : MethodId} {below : List Frame} {meth : Method} {c : Code} {D : va_G} {kI kC kQ : ClassId} {ce sl : Nat} {o r o9 r9 : Nat → Nat} {a9 : Nat} {ao ap : ADT} {b L : Nat} {xs : Nat → Int32}
theorem z_end (hx : p.tables.exec = Jvm.exec) (hb : c.code = code) (hr : meth.sig.returnType = ret) (hlocks : meth.locks = false) {w : va_W} {lv : List (Nat × Value)} (hce : ce ≤ 600000) (hsl : sl ≤ 7302249) {pc : Nat} (hdg : decode code pc = .ok (.ireturn, 1)) : Z p l e room_1 s m #[Value.ref b] below meth c D (fun q => s.heap.size ≤ q) 6 ce sl (lw_Z below #[Value.ref b] s) w lv pc [.int 1] :=
  fun H locs ls hP hD hS hl => va_forget hS.2.2 (W.widen hce hsl (lw_ret hx hb hr hlocks hdg))
set_option maxRecDepth 100000 in
set_option maxHeartbeats 4000000 in
theorem law_loop (X : CX p s m #[Value.ref b] meth c D (tysG kI kC kQ) (fun q => s.heap.size ≤ q) cL_law 6 ret "ShadowLatchesLaw") (hL : L ≤ 260) (hX : va_X b L xs s s.heap) (hbl : b < s.heap.size) (hcs : ce ≤ 600000 ∧ sl ≤ 7302249) (hcs2 : ce ≤ room_1.cells ∧ sl ≤ room_1.slots) : ∀ (n k B : Nat) (V : LW) (ao ap : ADT), k ≤ 44 → 45 ≤ k + n → B ≤ 4200 * k → INV B V → Z p l e room_1 s m #[Value.ref b] below meth c D (fun q => s.heap.size ≤ q) 6 ce sl (lw_Z below #[Value.ref b] s) (wV kI kC kQ o r o9 r9 a9 ao ap V) [(5, .int (nI k)), (4, .int 1), (3, .ref a9), (2, .ref (o9 0)), (1, .ref (o 0)), (0, .ref b)] 92 []
  | 0, k, B, V, ao, ap, h1, h2, _, _ => absurd h2 (by omega)
  | n + 1, k, B, V, ao, ap, h1, h2, h3, h => by
    have hbA : ¬ s.heap.size ≤ b := by omega
    refine z_iload X dL_law_92 0 rfl ?_
    refine z_bipush (v := (44 : Int32)) X dL_law_94 (by decide) ?_
    refine z_icmp_ge (tgt := 146) X dL_law_96 (by decide) (fun c96 => ?_) (fun c96 => ?_)
    · refine z_iload X dL_law_146 1 rfl ?_
      refine z_if_eq (tgt := 170) X dL_law_148 (by decide) (fun q => absurd q (by decide)) (fun _ => ?_)
      refine z_aload_n X dL_law_151 4 rfl ?_
      refine zVs_or X (c_L_isWell l D kI kC kQ o r ao V.1 (h).1.ok) (gS wd2_114 wd2_115 wd1_0 wd2_116) k_L_isWell rfl rfl ⟨(Nat.le_of_ble_eq_true rfl), (Nat.le_of_ble_eq_true rfl)⟩ hcs2 rfl rfl (Nat.le_of_ble_eq_true rfl) dL_law_152 (fun u hu => ?_)
      rw [well_true h.1.ok h.2.2.1.p h.2.2.2.2 (by omega)] at hu
      rw [hu]
      refine z_if_eq (tgt := 170) X dL_law_155 (by decide) (fun q => absurd q (by decide)) (fun _ => ?_)
      refine z_aload_n X dL_law_158 4 rfl ?_
      refine z_aload_n X dL_law_159 3 rfl ?_
      refine z_callSi0 X (c_L_areAlike l D kI kC kQ o r o9 r9 a9 ao ap V h.1 h.2.1) (gS wd2_111 wd2_112 wd1_0 wd2_113) k_L_areAlike rfl rfl ⟨(Nat.le_of_ble_eq_true rfl), (Nat.le_of_ble_eq_true rfl)⟩ hcs2 rfl rfl (Nat.le_of_ble_eq_true rfl) dL_law_160 (fun u hu => ?_)
      have hu : u = F_L_areAlike V := hu
      rw [alike_true h.2.2.1 h.1.ok.o] at hu
      rw [hu]
      refine z_if_eq (tgt := 170) X dL_law_163 (by decide) (fun q => absurd q (by decide)) (fun _ => ?_)
      refine z_iconst (v := (1 : Int32)) X dL_law_166 (by decide) ?_
      refine z_goto (tgt := 171) X dL_law_167 (by decide) ?_
      exact z_end X.x X.b X.r X.lk hcs.1 hcs.2 dL_law_171
    have hk : k < 44 := by
      rcases Nat.lt_or_ge k 44 with q | q
      · exact q
      · exact absurd (show (44 : Int32) ≤ nI k from nI_le (a := 44) q (by omega)) c96
    refine z_iload X dL_law_99 1 rfl ?_
    refine z_if_eq (tgt := 146) X dL_law_101 (by decide) (fun q => absurd q (by decide)) (fun _ => ?_)
    refine z_aload_n X dL_law_104 4 rfl ?_
    refine z_aload_n X dL_law_105 3 rfl ?_
    refine z_aload_n X dL_law_106 2 rfl ?_
    refine z_aload_n X dL_law_107 5 rfl ?_
    refine z_iload X dL_law_108 0 rfl ?_
    refine z_cell X hL hX hbl hbA hk (gS wd1_178 wd1_179 wd1_0 wd1_180) ⟨(Nat.le_of_ble_eq_true rfl), (Nat.le_of_ble_eq_true rfl)⟩ hcs2 (Nat.le_of_ble_eq_true rfl) dL_law_110 (fun x => ?_)
    refine z_callSi0 X (c_L_isStep l D kI kC kQ o r o9 r9 a9 ao ap V x h.1 h.2.1) (gS wd1_182 wd1_183 wd1_0 wd1_184) k_L_isStep rfl rfl ⟨(Nat.le_of_ble_eq_true rfl), (Nat.le_of_ble_eq_true rfl)⟩ hcs2 rfl rfl (Nat.le_of_ble_eq_true rfl) dL_law_113 (fun u hu => ?_)
    obtain ⟨⟨rr, V'⟩, ao', ap'⟩ := u
    have hu : (rr, V') = F_L_isStep V x := hu
    have e := step_true h (by omega) x
    rw [← hu] at e
    obtain ⟨e1, e2⟩ := e
    have e1 : rr = 1 := e1
    have e2 : INV (B + 4200) V' := e2
    rw [e1]
    clear hu e1
    refine z_w (w' := (wV kI kC kQ o r o9 r9 a9 ao' ap' V')) rfl ?_
    have K : Z p l e room_1 s m #[Value.ref b] below meth c D (fun q => s.heap.size ≤ q) 6 ce sl (lw_Z below #[Value.ref b] s) (wV kI kC kQ o r o9 r9 a9 ao' ap' V') [(5, .int (nI k)), (4, .int 1), (3, .ref a9), (2, .ref (o9 0)), (1, .ref (o 0)), (0, .ref b)] 133 [] := by
      refine z_iconst (v := (1 : Int32)) X dL_law_133 (by decide) ?_
      refine z_goto (tgt := 138) X dL_law_134 (by decide) ?_
      refine z_istore (lv' := [(4, .int 1), (5, .int (nI k)), (3, .ref a9), (2, .ref (o9 0)), (1, .ref (o 0)), (0, .ref b)]) X dL_law_138 (Nat.le_of_ble_eq_true rfl) rfl ?_
      refine z_iinc (v := nI (k + 1)) (lv' := [(5, .int (nI (k + 1))), (4, .int 1), (3, .ref a9), (2, .ref (o9 0)), (1, .ref (o 0)), (0, .ref b)]) X dL_law_140 1 rfl (nI_1 k) (Nat.le_of_ble_eq_true rfl) rfl ?_
      refine z_goto (tgt := 92) X dL_law_143 (by decide) ?_
      exact law_loop X hL hX hbl hcs hcs2 n (k + 1) (B + 4200) V' ao' ap' hk (by omega) (by omega) e2
    refine z_topi (fun y ey => ?_)
    have ey : y = 1 := ey
    rw [ey]
    refine z_if_eq (tgt := 137) X dL_law_116 (by decide) (fun q => absurd q (by decide)) (fun _ => ?_)
    refine z_iload X dL_law_119 0 rfl ?_
    refine z_iconst (v := (5 : Int32)) X dL_law_121 (by decide) ?_
    refine z_irem X dL_law_122 (by decide) ?_
    refine z_if_gt (tgt := 133) X dL_law_123 (by decide) (fun _ => K) (fun _ => ?_)
    refine z_aload_n X dL_law_126 4 rfl ?_
    refine zVs_or X (c_L_isWell l D kI kC kQ o r ao' V'.1 (e2).1.ok) (gS wd2_114 wd2_115 wd1_0 wd2_116) k_L_isWell rfl rfl ⟨(Nat.le_of_ble_eq_true rfl), (Nat.le_of_ble_eq_true rfl)⟩ hcs2 rfl rfl (Nat.le_of_ble_eq_true rfl) dL_law_127 (fun u hu => ?_)
    rw [well_true e2.1.ok e2.2.2.1.p e2.2.2.2.2 (by omega)] at hu
    rw [hu]
    exact z_if_eq (tgt := 137) X dL_law_130 (by decide) (fun q => absurd q (by decide)) (fun _ => K)
end
set_option maxRecDepth 100000 in
set_option maxHeartbeats 4000000 in
/-- from the entry, for every script of at most 260 ints, the law comes to its end with true -/
theorem whole_start {p : Program} {e : Env} {s : State} {m : MethodId} {below : List Frame} {meth : Method} {c : Code} (l : Launch) (hflags : l.flags = flags0) {b L : Nat} {xs : Nat → Int32} (hL : L ≤ 260) (C0 : lw_At p s m meth c b L xs) : W p l e room_1 s m #[Value.ref b] below meth c s.heap [] 0 0 (lw_Z below #[Value.ref b] s) (entryFrame m ([Value.ref b] : List Value).toArray 6) := by
  obtain ⟨hx, hbc, hr, hml, hown, hts, hX, hbl, hlk, hg⟩ := C0
  have htw : ∀ w ∈ WS, w.before #[Value.ref b] s = true := fun w hw => hts w (WS_sub w hw)
  obtain ⟨c0, i0, K0⟩ := u_known (C := RX0) (T := TX0) (N := 19) (n := 19) htw inW0 (htw _ wd1_16)
  obtain ⟨c1, i1, K1⟩ := u_known (C := RX1) (T := TX1) (N := 4) (n := 4) htw inW1 (htw _ wd1_110)
  obtain ⟨c2, i2, K2⟩ := u_known (C := RX2) (T := TX2) (N := 7) (n := 7) htw inW2 (htw _ wd1_8)
  obtain ⟨kI, kkI, coI, n1, n2, n3⟩ := Cond.arrayClass_spec (htw _ wd1_107)
  obtain ⟨kC, kkC, coC, n4, n5, n6⟩ := Cond.arrayClass_spec (htw _ wd1_131)
  obtain ⟨coQ, kQ, kkQ, n7, n8, n9, n10, n11⟩ := Cond.arrayOver_spec (hts _ wq_ao)
  obtain ⟨D, hD⟩ : ∃ D : va_G, D = ((fun q => match q with | 0 => c0 | 1 => c1 | _ => c2), (fun q => match q with | 0 => i0 | 1 => i1 | _ => i2)) := ⟨_, rfl⟩
  have hK : va_K D vwCl (tysG kI kC kQ) s := by
    rw [hD]
    refine ⟨fun q u hq => ?_, fun q u hq => ?_⟩
    · match q, hq with
      | 0, hq => cases hq; exact K0
      | 1, hq => cases hq; exact K1
      | 2, hq => cases hq; exact K2
    · match q, hq with
      | 0, hq => cases hq; exact ⟨fun _ _ => ⟨(fun k h => by cases h), kkI, n2, coI, n3⟩, n1⟩
      | 1, hq => cases hq; exact ⟨fun _ _ => ⟨(fun k h => by cases h), kkC, n5, coC, n6⟩, n4⟩
      | 2, hq => cases hq; exact ⟨fun _ _ => ⟨(fun k h => by cases h), kkQ, n9, coQ, n10⟩, kkQ, coQ, n9, n10, n7, n11⟩
  have X : CX p s m #[Value.ref b] meth c D (tysG kI kC kQ) (fun q => s.heap.size ≤ q) cL_law 6 ret "ShadowLatchesLaw" := ⟨hx, hbc, hr, hml, hown, htw, hlk, hK, fun _ h => h, law_ST hts hg⟩
  have hl := lv_entry [Value.ref b] (n := 6) (Nat.le_of_ble_eq_true rfl)
  rw [lg_entry_eq]
  have hP0 : va_P D vwCl [] s.heap := fun k q h => by simp at h
  have hD0 : va_D (fun q => s.heap.size ≤ q) [] := ⟨fun i j p q h => by simp at h, fun k q h => by simp at h⟩
  suffices hz : Z p l e room_1 s m #[Value.ref b] below meth c D (fun q => s.heap.size ≤ q) 6 0 0 (lw_Z below #[Value.ref b] s) [] [(0, .ref b)] 0 [] by
    exact hz s.heap [] _ hP0 hD0 va_S.rf hl
  refine z_new X inW2 tyX2 tyX2_ok wd1_7 wd1_8 wd1_1 rfl [.null, .null, .null, .null, .null, .int 0, .int 0] (fun j hj => by revert j; exact hfsX2) (Nat.le_of_ble_eq_true rfl) (Nat.le_of_ble_eq_true rfl) (fun q0 => [(q0, .inr (2, [.null, .null, .null, .null, .null, .int 0, .int 0]))]) (fun _ => rfl) dL_law_0 (fun q0 => ?_)
  refine z_dup X dL_law_3 rfl ?_
  refine z_callI X (c_S_init l D kI kC kQ q0) wd1_11 wd1_1 wd1_9 wd1_10 rfl (by decide +kernel) rfl rfl ⟨(Nat.le_of_ble_eq_true rfl), (Nat.le_of_ble_eq_true rfl)⟩ ⟨(Nat.le_of_ble_eq_true rfl), (Nat.le_of_ble_eq_true rfl)⟩ rfl rfl (Nat.le_of_ble_eq_true rfl) dL_law_4 (wl := []) (wr := []) rfl (fun u hu => ?_)
  obtain ⟨⟨o, r⟩, ao⟩ := u
  have hu : o 0 = q0 := hu
  subst hu
  refine z_w (w' := wS kI kC kQ o r ao S0) (by rw [List.append_nil]; rfl) ?_
  refine z_astore_n (lv' := [(1, .ref (o 0)), (0, .ref b)]) X dL_law_7 (Nat.le_of_ble_eq_true rfl) rfl ?_
  refine z_new X inW2 tyX2 tyX2_ok wd1_7 wd1_8 wd1_1 rfl [.null, .null, .null, .null, .null, .int 0, .int 0] (fun j hj => by revert j; exact hfsX2) (Nat.le_of_ble_eq_true rfl) (Nat.le_of_ble_eq_true rfl) (fun q1 => wS kI kC kQ o r ao S0 ++ [(q1, .inr (2, [.null, .null, .null, .null, .null, .int 0, .int 0]))]) (fun _ => rfl) dL_law_8 (fun q1 => ?_)
  refine z_dup X dL_law_11 rfl ?_
  refine z_callI X (c_S_init l D kI kC kQ q1) wd1_11 wd1_1 wd1_9 wd1_10 rfl (by decide +kernel) rfl rfl ⟨(Nat.le_of_ble_eq_true rfl), (Nat.le_of_ble_eq_true rfl)⟩ ⟨(Nat.le_of_ble_eq_true rfl), (Nat.le_of_ble_eq_true rfl)⟩ rfl rfl (Nat.le_of_ble_eq_true rfl) dL_law_12 (wl := wS kI kC kQ o r ao S0) (wr := []) rfl (fun u hu => ?_)
  obtain ⟨⟨o9, r9⟩, ap⟩ := u
  have hu : o9 0 = q1 := hu
  subst hu
  refine z_w (w' := wS kI kC kQ o r ao S0 ++ wS kI kC kQ o9 r9 ap S0) (by rw [List.append_nil]) ?_
  refine z_astore_n (lv' := [(2, .ref (o9 0)), (1, .ref (o 0)), (0, .ref b)]) X dL_law_15 (Nat.le_of_ble_eq_true rfl) rfl ?_
  refine z_bipush (v := (6 : Int32)) X dL_law_16 (by decide) ?_
  refine z_newI X (by decide) (N' := 6) (by decide +kernel) (by decide +kernel) (Nat.le_of_ble_eq_true rfl) (Nat.le_of_ble_eq_true rfl) (fun a9 => (wS kI kC kQ o r ao S0 ++ wS kI kC kQ o9 r9 ap S0) ++ [(a9, .inl (kI, 6, .inl (fun _ => 0)))]) (fun _ => rfl) dL_law_18 (fun a9 => ?_)
  refine z_perm (w' := wV kI kC kQ o r o9 r9 a9 ao ap (S0, S0, fun _ => 0)) [80, 0, 1, 2, 3, 4, 5, 6, 7, 8, 9, 10, 11, 12, 13, 14, 15, 16, 17, 18, 19, 20, 21, 22, 23, 24, 25, 26, 27, 28, 29, 30, 31, 32, 33, 34, 35, 36, 37, 38, 39, 40, 41, 42, 43, 44, 45, 46, 47, 48, 49, 50, 51, 52, 53, 54, 55, 56, 57, 58, 59, 60, 61, 62, 63, 64, 65, 66, 67, 68, 69, 70, 71, 72, 73, 74, 75, 76, 77, 78, 79] (by decide +kernel) rfl rfl ?_
  refine z_astore_n (lv' := [(3, .ref a9), (2, .ref (o9 0)), (1, .ref (o 0)), (0, .ref b)]) X dL_law_20 (Nat.le_of_ble_eq_true rfl) rfl ?_
  refine z_aload_n X dL_law_21 2 rfl ?_
  refine z_bipush (v := nI 120) X dL_law_22 (by decide) ?_
  refine zV_oc (V := (S0, S0, fun _ => 0)) X (c_S_addPath l D kI kC kQ o r ao S0 (nI 120) ROK_0.ok) (gV wd1_153 wd1_154 wd1_155 wd1_1 wd1_156) k_S_addPath rfl rfl ⟨(Nat.le_of_ble_eq_true rfl), (Nat.le_of_ble_eq_true rfl)⟩ ⟨(Nat.le_of_ble_eq_true rfl), (Nat.le_of_ble_eq_true rfl)⟩ rfl rfl (Nat.le_of_ble_eq_true rfl) dL_law_24 (fun u ao hu => ?_)
  rw [hu]; clear hu u
  refine z_w (w' := wV kI kC kQ o r o9 r9 a9 ao ap ((F_S_addPath S0 (nI 120)).2, S0, fun _ => 0)) rfl ?_
  refine z_iconst (v := nI 1) X dL_law_27 (by decide) ?_
  refine z_icmp_ne (tgt := 86) X dL_law_28 (by decide) (fun q => absurd add_1.1 q) (fun _ => ?_)
  refine z_aload_n X dL_law_31 1 rfl ?_
  refine z_bipush (v := nI 120) X dL_law_32 (by decide) ?_
  refine zV_pc (V := ((F_S_addPath S0 (nI 120)).2, S0, fun _ => 0)) X (c_S_addPath l D kI kC kQ o9 r9 ap S0 (nI 120) ROK_0.ok) (gV wd1_153 wd1_154 wd1_155 wd1_1 wd1_156) k_S_addPath rfl rfl ⟨(Nat.le_of_ble_eq_true rfl), (Nat.le_of_ble_eq_true rfl)⟩ ⟨(Nat.le_of_ble_eq_true rfl), (Nat.le_of_ble_eq_true rfl)⟩ rfl rfl (Nat.le_of_ble_eq_true rfl) dL_law_34 (fun u ap hu => ?_)
  rw [hu]; clear hu u
  refine z_w (w' := wV kI kC kQ o r o9 r9 a9 ao ap ((F_S_addPath S0 (nI 120)).2, (F_S_addPath S0 (nI 120)).2, fun _ => 0)) rfl ?_
  refine z_iconst (v := nI 1) X dL_law_37 (by decide) ?_
  refine z_icmp_ne (tgt := 86) X dL_law_38 (by decide) (fun q => absurd add_1.1 q) (fun _ => ?_)
  refine z_aload_n X dL_law_41 2 rfl ?_
  refine z_bipush (v := nI 90) X dL_law_42 (by decide) ?_
  refine zV_oc (V := ((F_S_addPath S0 (nI 120)).2, (F_S_addPath S0 (nI 120)).2, fun _ => 0)) X (c_S_addPath l D kI kC kQ o r ao (F_S_addPath S0 (nI 120)).2 (nI 90) (ROK_0.addPath _).ok) (gV wd1_153 wd1_154 wd1_155 wd1_1 wd1_156) k_S_addPath rfl rfl ⟨(Nat.le_of_ble_eq_true rfl), (Nat.le_of_ble_eq_true rfl)⟩ ⟨(Nat.le_of_ble_eq_true rfl), (Nat.le_of_ble_eq_true rfl)⟩ rfl rfl (Nat.le_of_ble_eq_true rfl) dL_law_44 (fun u ao hu => ?_)
  rw [hu]; clear hu u
  refine z_w (w' := wV kI kC kQ o r o9 r9 a9 ao ap (So, (F_S_addPath S0 (nI 120)).2, fun _ => 0)) rfl ?_
  refine z_iconst (v := nI 2) X dL_law_47 (by decide) ?_
  refine z_icmp_ne (tgt := 86) X dL_law_48 (by decide) (fun q => absurd add_2.1 q) (fun _ => ?_)
  refine z_aload_n X dL_law_51 1 rfl ?_
  refine z_bipush (v := nI 90) X dL_law_52 (by decide) ?_
  refine zV_pc (V := (So, (F_S_addPath S0 (nI 120)).2, fun _ => 0)) X (c_S_addPath l D kI kC kQ o9 r9 ap (F_S_addPath S0 (nI 120)).2 (nI 90) (ROK_0.addPath _).ok) (gV wd1_153 wd1_154 wd1_155 wd1_1 wd1_156) k_S_addPath rfl rfl ⟨(Nat.le_of_ble_eq_true rfl), (Nat.le_of_ble_eq_true rfl)⟩ ⟨(Nat.le_of_ble_eq_true rfl), (Nat.le_of_ble_eq_true rfl)⟩ rfl rfl (Nat.le_of_ble_eq_true rfl) dL_law_54 (fun u ap hu => ?_)
  rw [hu]; clear hu u
  refine z_w (w' := wV kI kC kQ o r o9 r9 a9 ao ap (So, Sp2, fun _ => 0)) rfl ?_
  refine z_iconst (v := nI 2) X dL_law_57 (by decide) ?_
  refine z_icmp_ne (tgt := 86) X dL_law_58 (by decide) (fun q => absurd add_2.1 q) (fun _ => ?_)
  refine z_aload_n X dL_law_61 1 rfl ?_
  refine z_sipush (v := nI 400) X dL_law_62 (by decide) ?_
  refine zV_pc (V := (So, Sp2, fun _ => 0)) X (c_S_addPath l D kI kC kQ o9 r9 ap Sp2 (nI 400) ROK_o.ok) (gV wd1_153 wd1_154 wd1_155 wd1_1 wd1_156) k_S_addPath rfl rfl ⟨(Nat.le_of_ble_eq_true rfl), (Nat.le_of_ble_eq_true rfl)⟩ ⟨(Nat.le_of_ble_eq_true rfl), (Nat.le_of_ble_eq_true rfl)⟩ rfl rfl (Nat.le_of_ble_eq_true rfl) dL_law_65 (fun u ap hu => ?_)
  rw [hu]; clear hu u
  refine z_w (w' := wV kI kC kQ o r o9 r9 a9 ao ap (So, Sp3, fun _ => 0)) rfl ?_
  refine z_iconst (v := nI 3) X dL_law_68 (by decide) ?_
  refine z_icmp_ne (tgt := 86) X dL_law_69 (by decide) (fun q => absurd add_3.1 q) (fun _ => ?_)
  refine z_aload_n X dL_law_72 1 rfl ?_
  refine z_bipush (v := nI 10) X dL_law_73 (by decide) ?_
  refine zV_pc (V := (So, Sp3, fun _ => 0)) X (c_S_addPath l D kI kC kQ o9 r9 ap Sp3 (nI 10) (ROK_o.addPath _).ok) (gV wd1_153 wd1_154 wd1_155 wd1_1 wd1_156) k_S_addPath rfl rfl ⟨(Nat.le_of_ble_eq_true rfl), (Nat.le_of_ble_eq_true rfl)⟩ ⟨(Nat.le_of_ble_eq_true rfl), (Nat.le_of_ble_eq_true rfl)⟩ rfl rfl (Nat.le_of_ble_eq_true rfl) dL_law_75 (fun u ap hu => ?_)
  rw [hu]; clear hu u
  refine z_w (w' := wV kI kC kQ o r o9 r9 a9 ao ap (So, Sp4, fun _ => 0)) rfl ?_
  refine z_iconst (v := nI 4) X dL_law_78 (by decide) ?_
  refine z_icmp_ne (tgt := 86) X dL_law_79 (by decide) (fun q => absurd add_4.1 q) (fun _ => ?_)
  refine z_iconst (v := (1 : Int32)) X dL_law_82 (by decide) ?_
  refine z_goto (tgt := 87) X dL_law_83 (by decide) ?_
  refine z_istore (lv' := [(4, .int 1), (3, .ref a9), (2, .ref (o9 0)), (1, .ref (o 0)), (0, .ref b)]) X dL_law_87 (Nat.le_of_ble_eq_true rfl) rfl ?_
  refine z_iconst (v := (0 : Int32)) X dL_law_89 (by decide) ?_
  refine z_istore (lv' := [(5, .int (nI 0)), (4, .int 1), (3, .ref a9), (2, .ref (o9 0)), (1, .ref (o 0)), (0, .ref b)]) X dL_law_90 (Nat.le_of_ble_eq_true rfl) rfl ?_
  exact law_loop X hL hX hbl ⟨(Nat.le_of_ble_eq_true rfl), (Nat.le_of_ble_eq_true rfl)⟩ ⟨(Nat.le_of_ble_eq_true rfl), (Nat.le_of_ble_eq_true rfl)⟩ 45 0 0 (So, Sp4, fun _ => 0) ao ap (by omega) (by omega) (by omega) (INV_0 _)
