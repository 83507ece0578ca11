/-! the governor's look -/
theorem sA3 (M : ARR) {i k : Nat} (x y z : Int32) (h : i ≠ k) : sA (sA (sA M 0 i x) 0 k y) 0 i z = sA (sA M 0 i z) 0 k y := by
  funext a j
  by_cases ha : a = 0
  · subst ha
    by_cases h1 : j = i
    · subst h1
      rw [sA_e, sA_ne _ _ _ _ h, sA_e]
    · rw [sA_ne _ _ _ _ h1]
      by_cases h2 : j = k
      · subst h2
        rw [sA_e, sA_e]
      · rw [sA_ne _ _ _ _ h2, sA_ne _ _ _ _ h1, sA_ne _ _ _ _ h2, sA_ne _ _ _ _ h1]
  · rw [sA_o _ _ _ _ ha, sA_o _ _ _ _ ha, sA_o _ _ _ _ ha, sA_o _ _ _ _ ha, sA_o _ _ _ _ ha]
theorem rel_setC {d : Int32} {C : CS} {a : Nat → Int32} (i k : Nat) {v : Int32} (h : RelD d C a) (hv : v = C.1 i k) : RelD d (sC C i k v) a := by
  refine rel_c h ?_
  funext q j
  by_cases e : q = i
  · subst e
    by_cases e2 : j = k
    · subst e2; rw [sC_e, hv]
    · rw [sC_ne _ _ _ _ e2]
  · rw [sC_o _ _ _ _ e]
theorem min1200 {x : Nat} (h : 500 ≤ x) (hx : x < 2 ^ 31) : F_J_min 1200 (nI x) = clampV (nI x) := by
  unfold F_J_min clampV
  dsimp only
  rw [if_pos (show (500 : Int32) ≤ nI x from nI_le (a := 500) h hx)]
  by_cases c : x < 1200
  · rw [if_pos (show nI x < (1200 : Int32) from nI_lt (b := 1200) c (by omega)), if_pos (show nI x ≤ (1200 : Int32) from nI_le (b := 1200) (by omega) (by omega))]
  · rw [if_neg (show ¬ nI x < (1200 : Int32) from nI_nlt (b := 1200) (by omega) hx)]
    by_cases c2 : x ≤ 1200
    · rw [if_pos (show nI x ≤ (1200 : Int32) from nI_le (b := 1200) c2 (by omega)), show x = 1200 by omega]; rfl
    · rw [if_neg (show ¬ nI x ≤ (1200 : Int32) from nI_ge (a := 1200) (by omega) hx)]
theorem max500 {x : Nat} (hx : x ≤ 1200) : F_J_max 500 (nI x) = clampV (nI x) := by
  unfold F_J_max clampV
  dsimp only
  rw [if_pos (show nI x ≤ (1200 : Int32) from nI_le (b := 1200) hx (by omega))]
  by_cases c : 500 < x
  · rw [if_pos (show (500 : Int32) < nI x from nI_lt (a := 500) c (by omega)), if_pos (show (500 : Int32) ≤ nI x from nI_le (a := 500) (by omega) (by omega))]
  · rw [if_neg (show ¬ (500 : Int32) < nI x from nI_nlt (a := 500) (by omega) (by omega))]
    by_cases c2 : 500 ≤ x
    · rw [if_pos (show (500 : Int32) ≤ nI x from nI_le (a := 500) c2 (by omega)), show x = 500 by omega]; rfl
    · rw [if_neg (show ¬ (500 : Int32) ≤ nI x from nI_ge (b := 500) (by omega) (by omega))]
theorem clampV_id {x : Nat} (h1 : 500 ≤ x) (h2 : x ≤ 1200) : clampV (nI x) = nI x := by
  unfold clampV
  rw [if_pos (show (500 : Int32) ≤ nI x from nI_le (a := 500) h1 (by omega)), if_pos (show nI x ≤ (1200 : Int32) from nI_le (b := 1200) h2 (by omega))]
theorem steps_eq {b u : Int32} (h0 : ¬ b ≤ 0) (hu : bn 1 10 u) : ∃ s : Nat, s ≤ 10 ∧ F_J_min b u = nI s ∧ (if u ≤ b then u else b) = nI s := by
  obtain ⟨n, h1, h2, rfl⟩ := hu
  obtain ⟨j, hj, rfl⟩ := nI_of (x := b) (fun q => h0 (Int32.le_of_lt q))
  unfold F_J_min
  dsimp only
  by_cases c : n < j
  · exact ⟨n, h2, by rw [if_pos (nI_lt c hj)], by rw [if_pos (nI_le (by omega) hj)]⟩
  · refine ⟨j, by omega, by rw [if_neg (nI_nlt (by omega) (by omega))], ?_⟩
    by_cases c2 : n ≤ j
    · rw [if_pos (nI_le c2 hj), show n = j by omega]
    · rw [if_neg (nI_ge (by omega) (by omega))]
theorem sim_begin {d : Int32} {C : CS} {M : ARR} (h : RelD d C (M 0)) : RelD d (F_C_beginWindow C) (sA (sA M 0 47 0) 0 48 0 0) :=
  rel_put 11 48 (rel_put 10 47 h (by decide) (by decide) rfl) (by decide) (by decide) rfl
theorem sim_look {d : Int32} {C : CS} {M : ARR} (h : RelD d C (M 0)) (hI : IA (M 0)) : RelD d (F_C_lookAtWindow C) (F_M_looks M 0) := by
  obtain ⟨v, hv1, hv2, hv⟩ := hI.v
  obtain ⟨t, ht1, ht2, ht⟩ := hI.s5
  have e7 : C.1 4 7 = M 0 39 := h.f 7 39 (by decide)
  have e11 : C.1 4 11 = M 0 48 := h.f 11 48 (by decide)
  have e17 : C.1 4 17 = M 0 52 := h.f 17 52 (by decide)
  have e18 : C.1 4 18 = M 0 53 := h.f 18 53 (by decide)
  have s4 : C.1 3 4 = M 0 36 := h.e 4 (by omega)
  have s5 : C.1 3 5 = M 0 37 := h.e 5 (by omega)
  have s6 : C.1 3 6 = M 0 38 := h.e 6 (by omega)
  unfold F_C_lookAtWindow F_M_looks
  dsimp only
  rw [e11, s4, s5, s6, e7]
  refine sim_begin ?_
  show RelD d _ (sA _ 0 39 (clampV _) 0)
  by_cases c0 : (0 : Int32) ≤ M 0 48 - M 0 36
  · rw [if_pos c0]
    simp only [if_pos c0]
    by_cases c1 : M 0 48 - M 0 36 ≤ 0
    · simp only [if_pos c1]
      have ez : M 0 48 - M 0 36 = 0 := Int32.le_antisymm c1 c0
      obtain ⟨mu, m1, m2, m3⟩ := hI.s6
      have em : F_J_min (M 0 48 - M 0 36) (M 0 38) = 0 := by
        rw [ez, m3]
        unfold F_J_min
        dsimp only
        rw [if_neg (nI_pos (by omega))]
      rw [em]
      have ev : F_J_min 1200 (M 0 39 + 0 * M 0 37) = M 0 39 := by
        rw [Int32.zero_mul, Int32.add_zero, hv, min1200 hv1 (by omega), clampV_id hv1 hv2]
      rw [ev]
      have ec : clampV (M 0 39) = M 0 39 := by rw [hv, clampV_id hv1 hv2]
      rw [ec]
      refine rel_setC 4 17 (rel_put 7 39 h (by decide) (by decide) rfl) ?_
      rw [Int32.add_zero]
    · simp only [if_neg c1]
      obtain ⟨s, hs, a1, a2⟩ := steps_eq c1 hI.s6
      rw [a1, a2]
      rw [sA_ne _ _ _ _ (show (39 : Nat) ≠ 52 by decide), sA_e, sA3 _ _ _ _ (by decide)]
      have ex : M 0 39 + nI s * M 0 37 = nI (v + s * t) := by rw [hv, ht, pk_mul, nI_add]
      have hst : s * t ≤ 10 * 50 := Nat.mul_le_mul hs ht2
      rw [ex, min1200 (by omega) (by omega)]
      refine rel_put 17 52 (rel_put 7 39 h (by decide) (by decide) rfl) (by decide) (by decide) ?_
      rw [sC_ne _ _ _ _ (by decide), e17, sA_ne _ _ _ _ (by decide)]
  · rw [if_neg c0]
    simp only [if_neg c0]
    rw [sA_ne _ _ _ _ (show (39 : Nat) ≠ 53 by decide), sA_e, sA3 _ _ _ _ (by decide)]
    have ex : M 0 39 - M 0 37 = nI (v - t) := by rw [hv, ht]; exact pk_sub (by omega)
    rw [ex, max500 (by omega)]
    refine rel_put 18 53 (rel_put 7 39 h (by decide) (by decide) rfl) (by decide) (by decide) ?_
    rw [sC_ne _ _ _ _ (by decide), e18, sA_ne _ _ _ _ (by decide)]
/-! energy: whole thousands and what is left over -/
theorem relE_c {B : Nat} {C C' : CS} {a b : Nat → Int32} (h : RelE B C a) (e : C'.2 = C.2) (e1 : b 46 = a 46) (e2 : b 54 = a 54) : RelE B C' b := by
  obtain ⟨E, h1, h2, h3, h4⟩ := h
  exact ⟨E, h1, e.trans h2, e1.trans h3, e2.trans h4⟩
theorem Cspend_2 (C : CS) (n : Int32) : (F_C_spendCycle C n).2 = C.2 + (((C.1 4 7) * (C.1 4 7)) / (10000 : Int32)).toInt64 := by
  unfold F_C_spendCycle
  dsimp only
  repeat' split
  all_goals first | rfl | (rw [Cheat_2]; rfl)
theorem spends_46 (M : ARR) (u : Int32) : F_M_spends M u 0 46 = M 0 46 + ((M 0 54) + (((M 0 39) * (M 0 39)) / (10000 : Int32))) / (1000 : Int32) := by
  unfold F_M_spends
  dsimp only
  split
  · rw [sA_ne _ _ _ _ (by decide), sA_ne _ _ _ _ (by decide), sA_ne _ _ _ _ (by decide), sA_ne _ _ _ _ (by decide), sA_e]
  · rw [sA_ne _ _ _ _ (by decide), sA_ne _ _ _ _ (by decide), sA_ne _ _ _ _ (by decide), sA_e]
theorem spends_54 (M : ARR) (u : Int32) : F_M_spends M u 0 54 = ((M 0 54) + (((M 0 39) * (M 0 39)) / (10000 : Int32))) - ((M 0 54) + (((M 0 39) * (M 0 39)) / (10000 : Int32))) / (1000 : Int32) * (1000 : Int32) := by
  unfold F_M_spends
  dsimp only
  split
  · rw [sA_ne _ _ _ _ (by decide), sA_ne _ _ _ _ (by decide), sA_ne _ _ _ _ (by decide), sA_e]
  · rw [sA_ne _ _ _ _ (by decide), sA_ne _ _ _ _ (by decide), sA_e]
theorem simE_spend {B : Nat} {d : Int32} {C : CS} {M : ARR} (n : Int32) (h : RelE B C (M 0)) (hD : RelD d C (M 0)) (hv : bn 500 1200 (M 0 39)) : RelE (B + 144) (F_C_spendCycle C n) (F_M_spends M n 0) := by
  obtain ⟨v, hv1, hv2, hv⟩ := hv
  obtain ⟨E, h1, h2, h3, h4⟩ := h
  have e7 : C.1 4 7 = nI v := (hD.f 7 39 (by decide)).trans hv
  have hvv : v * v ≤ 1200 * 1200 := Nat.mul_le_mul hv2 hv2
  have ee : nI v * nI v / (10000 : Int32) = nI (v * v / 10000) := by
    rw [pk_mul]
    exact pk_div (d := 10000) (by omega) (by omega) (by omega)
  have hb : v * v / 10000 ≤ 144 := by omega
  refine ⟨E + v * v / 10000, by omega, ?_, ?_, ?_⟩
  · rw [Cspend_2, e7, ee, h2, nI_l (by omega), lN_add]
  · rw [spends_46, hv, ee, h3, h4, nI_add, show nI (E % 1000 + v * v / 10000) / (1000 : Int32) = nI ((E % 1000 + v * v / 10000) / 1000) from pk_div (d := 1000) (by omega) (by omega) (by omega), nI_add]
    congr 1
    omega
  · rw [spends_54, hv, ee, h4, nI_add, show nI (E % 1000 + v * v / 10000) - nI (E % 1000 + v * v / 10000) / (1000 : Int32) * (1000 : Int32) = nI ((E % 1000 + v * v / 10000) % 1000) from pk_rem (d := 1000) (by omega) (by omega) (by omega)]
    congr 1
    omega
/-! replays -/
theorem sim_replay {d : Int32} {R9 : Nat} (hR : R9 ≤ 20) : ∀ (n : Nat) (x : Int32) (C : CS) (M : ARR) (B : Nat), cu R9 n x → M 0 34 = nI R9 → (M 0 41 = 0 ∨ M 0 41 = 1) → bn 500 1200 (M 0 39) → RelD d C (M 0) → RelE B C (M 0) → RelD d (L_C_complain_29 n x C) (L_M_cycles_163 n x M 0) ∧ RelE (B + 144 * n) (L_C_complain_29 n x C) (L_M_cycles_163 n x M 0)
  | 0, _, _, _, _, h, _, _, _, _, _ => (cu_0 h).elim
  | n + 1, x, C, M, B, hc, hp, hg, hv, h, hE => by
    simp only [L_C_complain_29, L_M_cycles_163]
    rw [h.e 2 (by omega)]
    by_cases c : M 0 (32 + 2) ≤ x
    · rw [if_pos c, if_pos c]
      obtain ⟨E, a1, a2⟩ := hE
      exact ⟨h, E, by omega, a2⟩
    · rw [if_neg c, if_neg c]
      have hp2 : F_M_spends M 0 0 34 = nI R9 := by rw [spends_at _ _ (by decide) (by decide) (by decide) (by decide) (by decide)]; exact hp
      have hg2 : F_M_spends M 0 0 41 = 0 ∨ F_M_spends M 0 0 41 = 1 := by rw [spends_at _ _ (by decide) (by decide) (by decide) (by decide) (by decide)]; exact hg
      have hv2 : bn 500 1200 (F_M_spends M 0 0 39) := by rw [spends_at _ _ (by decide) (by decide) (by decide) (by decide) (by decide)]; exact hv
      obtain ⟨r1, r2⟩ := sim_replay hR n _ _ _ (B + 144) (cu_b hc (by omega) hp c rfl) hp2 hg2 hv2 (sim_spend 0 h hg) (simE_spend 0 hE h hv)
      refine ⟨r1, ?_⟩
      obtain ⟨E, a1, a2⟩ := r2
      exact ⟨E, by omega, a2⟩
