/-! a whole cycle -/
def oneM (M : ARR) : ARR :=
  let v_15 : Int32 := (M 0 (((16 : Int32) + (M 0 50)).toNatClampNeg))
  let r_18 : Int32 := (F_M_worstOf M v_15)
  let M_45 : ARR := sA M 0 50 (((M 0 50) + (1 : Int32)) - ((M 0 50) + (1 : Int32)) / (M 0 49) * (M 0 49))
  let q_48 : ARR := L_M_cycles_48 v_15 9 (0 : Int32) M_45
  let r_92 : Int32 := (F_M_many v_15)
  let r_95 : ARR := (F_M_spends q_48 r_92)
  let j_128 : ARR := if r_18 = (2 : Int32) then sA r_95 0 45 ((r_95 0 45) + (1 : Int32)) else sA r_95 0 43 ((r_95 0 43) + (1 : Int32))
  if r_18 = (1 : Int32) then
    let M_143 : ARR := sA j_128 0 44 ((j_128 0 44) + (1 : Int32))
    let M_160 : ARR := sA M_143 0 48 ((M_143 0 48) + (M_143 0 41))
    L_M_cycles_163 21 (0 : Int32) M_160
  else j_128
theorem cycles_one (M : ARR) : F_M_cycles M = if (oneM M 0 41) = (1 : Int32) then (if (oneM M 0 47) < (oneM M 0 35) then oneM M else F_M_looks (oneM M)) else oneM M := rfl
theorem IA_one {M : ARR} (h : IA (M 0)) : IA (oneM M 0) := by
  obtain ⟨P, hP1, hP2, hP⟩ := h.p
  have h1 := IA_place h
  have h2 := IA_L48 (M 0 (((16 : Int32) + (M 0 50)).toNatClampNeg)) h1 hP2 (by rw [sA_ne _ _ _ _ (by omega)]; exact hP)
  have h3 := IA_spends h2 (many_bn (set_bn h))
  have h4 : ∀ x : ARR, IA (x 0) → IA ((if F_M_worstOf M (M 0 (((16 : Int32) + (M 0 50)).toNatClampNeg)) = (2 : Int32) then sA x 0 45 ((x 0 45) + (1 : Int32)) else sA x 0 43 ((x 0 43) + (1 : Int32))) 0) := fun x hx => IA_ite (IA_put hx 45 _ (by omega)) (IA_put hx 43 _ (by omega))
  unfold oneM
  dsimp only
  exact IA_ite (IA_L163 _ _ _ (IA_put (IA_put (h4 _ h3) 44 _ (by omega)) 48 _ (by omega))) (h4 _ h3)
theorem Llongest_congr {C C' : CS} (e0 : C'.1 0 = C.1 0) (e2 : C'.1 4 2 = C.1 4 2) (u : Int32) : ∀ (n : Nat) (x y : Int32), L_C_longestOf_4 C' u n x y = L_C_longestOf_4 C u n x y
  | 0, _, _ => rfl
  | n + 1, x, y => by
    simp only [L_C_longestOf_4]
    rw [e0, e2]
    split
    · rfl
    · exact Llongest_congr e0 e2 u n _ _
theorem longest_congr {C C' : CS} (e0 : C'.1 0 = C.1 0) (e2 : C'.1 4 2 = C.1 4 2) (u : Int32) : F_C_longestOf C' u = F_C_longestOf C u := Llongest_congr e0 e2 u 9 0 0
theorem judge_congr {C C' : CS} (e : C'.1 3 = C.1 3) (d : Int32) : F_C_judge C' d = F_C_judge C d := by
  unfold F_C_judge
  dsimp only
  rw [e]
theorem LCuses_2 (a : Int32) : ∀ (n : Nat) (x : Int32) (C : CS), (L_C_countUses_2 a n x C).2 = C.2
  | 0, _, _ => rfl
  | n + 1, x, C => by
    simp only [L_C_countUses_2]
    split
    · rfl
    · rw [LCuses_2 a n]; rfl
theorem place_eq {P N : Nat} (h1 : P < N) (h2 : N ≤ 16) : (if nI N ≤ nI P + (1 : Int32) then (0 : Int32) else nI P + (1 : Int32)) = (nI P + (1 : Int32)) - (nI P + (1 : Int32)) / nI N * nI N := by
  rw [nI_1, pk_rem (by omega) (by omega) (by omega)]
  by_cases c : N ≤ P + 1
  · rw [if_pos (nI_le c (by omega)), show P + 1 = N by omega, Nat.mod_self]; rfl
  · rw [if_neg (nI_ge (by omega) (by omega)), Nat.mod_eq_of_lt (by omega)]
theorem sim_one {B : Nat} {C : CS} {M : ARR} (h : RelD 0 C (M 0)) (hI : IA (M 0)) (hE : RelE B C (M 0)) : RelD 0 (F_C_runOneCycle C) (oneM M 0) ∧ RelE (B + 3168) (F_C_runOneCycle C) (oneM M 0) := by
  obtain ⟨P, N, hPN, hN16, hK, hN⟩ := hI.w
  obtain ⟨P9, hP1, hP2, hP⟩ := hI.p
  obtain ⟨R9, hR1, hR2, hR⟩ := hI.s2
  have e5 : C.1 4 5 = M 0 50 := h.f 5 50 (by decide)
  have e4 : C.1 4 4 = M 0 49 := h.f 4 49 (by decide)
  have ecl : ((16 : Int32) + (M 0 50)).toNatClampNeg = 16 + P := by rw [hK, show (16 : Int32) + nI P = nI (16 + P) from nI_add 16 P, nI_clamp (by omega)]
  have ev : C.1 2 ((C.1 4 5).toNatClampNeg) = M 0 (((16 : Int32) + (M 0 50)).toNatClampNeg) := by
    rw [ecl, e5, hK, nI_clamp (by omega)]
    exact h.s P N hN hN16 hPN
  have hv8 := set_bn hI
  have ew := worst_eq h hI (M 0 (((16 : Int32) + (M 0 50)).toNatClampNeg))
  unfold F_C_runOneCycle oneM
  dsimp only
  rw [ev]
  generalize hv : M 0 (((16 : Int32) + (M 0 50)).toNatClampNeg) = v at hv8 ew ⊢
  have ep : (if (C.1 4 4) ≤ ((C.1 4 5) + (1 : Int32)) then (0 : Int32) else ((C.1 4 5) + (1 : Int32))) = ((M 0 50) + (1 : Int32)) - ((M 0 50) + (1 : Int32)) / (M 0 49) * (M 0 49) := by
    rw [e4, e5, hK, hN]; exact place_eq hPN hN16
  have D1 := rel_put 5 50 h (by decide) (by decide) ep
  have I1 := IA_place hI
  have E1 : RelE B (sC C 4 5 (if (C.1 4 4) ≤ ((C.1 4 5) + (1 : Int32)) then (0 : Int32) else ((C.1 4 5) + (1 : Int32)))) (sA M 0 50 (((M 0 50) + (1 : Int32)) - ((M 0 50) + (1 : Int32)) / (M 0 49) * (M 0 49)) 0) := relE_c hE rfl (sA_ne _ _ _ _ (by decide)) (sA_ne _ _ _ _ (by decide))
  have p1 : sA M 0 50 (((M 0 50) + (1 : Int32)) - ((M 0 50) + (1 : Int32)) / (M 0 49) * (M 0 49)) 0 51 = nI P9 := by rw [sA_ne _ _ _ _ (by decide)]; exact hP
  have q1 : sA M 0 50 (((M 0 50) + (1 : Int32)) - ((M 0 50) + (1 : Int32)) / (M 0 49) * (M 0 49)) 0 34 = nI R9 := by rw [sA_ne _ _ _ _ (by decide)]; exact hR
  have ej : F_C_judge (sC C 4 5 (if (C.1 4 4) ≤ ((C.1 4 5) + (1 : Int32)) then (0 : Int32) else ((C.1 4 5) + (1 : Int32)))) (F_C_delayOf (F_C_longestOf (sC C 4 5 (if (C.1 4 4) ≤ ((C.1 4 5) + (1 : Int32)) then (0 : Int32) else ((C.1 4 5) + (1 : Int32)))) v) ((sC C 4 5 (if (C.1 4 4) ≤ ((C.1 4 5) + (1 : Int32)) then (0 : Int32) else ((C.1 4 5) + (1 : Int32)))).1 4 7) ((sC C 4 5 (if (C.1 4 4) ≤ ((C.1 4 5) + (1 : Int32)) then (0 : Int32) else ((C.1 4 5) + (1 : Int32)))).1 4 8)) = F_M_worstOf M v := by
    rw [judge_congr (sC_o C 4 5 _ (by decide)), longest_congr (sC_o C 4 5 _ (by decide)) (sC_ne C 4 5 _ (by decide)), sC_ne C 4 5 _ (by decide), sC_ne C 4 5 _ (by decide)]
    exact ew.symm
  rw [ej]
  clear ej ep ew
  generalize sC C 4 5 (if (C.1 4 4) ≤ ((C.1 4 5) + (1 : Int32)) then (0 : Int32) else ((C.1 4 5) + (1 : Int32))) = C1 at D1 E1 ⊢
  generalize sA M 0 50 (((M 0 50) + (1 : Int32)) - ((M 0 50) + (1 : Int32)) / (M 0 49) * (M 0 49)) = M1 at D1 E1 I1 p1 q1 ⊢
  generalize F_M_worstOf M v = r
  have at48 := L48_at v hP2 9 0 M1 (cu_i (by omega)) p1
  have D2 : RelD 0 (F_C_countUses C1 v) (L_M_cycles_48 v 9 0 M1 0) := sim_uses v hP2 9 0 C1 M1 (cu_i (by omega)) p1 D1
  have I2 := IA_L48 v I1 hP2 p1
  have E2 : RelE B (F_C_countUses C1 v) (L_M_cycles_48 v 9 0 M1 0) := relE_c E1 (LCuses_2 v 9 0 C1) (at48 46 (by omega)) (at48 54 (by omega))
  have q2 : L_M_cycles_48 v 9 0 M1 0 34 = nI R9 := (at48 34 (by omega)).trans q1
  generalize F_C_countUses C1 v = C2 at D2 E2 ⊢
  generalize L_M_cycles_48 v 9 0 M1 = M2 at D2 E2 I2 q2 ⊢
  rw [bits_many hv8]
  have D3 := sim_spend (F_M_many v) D2 (bn01 I2.g)
  have E3 := simE_spend (F_M_many v) E2 D2 I2.v
  have I3 := IA_spends I2 (many_bn hv8)
  have q3 : F_M_spends M2 (F_M_many v) 0 34 = nI R9 := by rw [spends_at _ _ (by decide) (by decide) (by decide) (by decide) (by decide)]; exact q2
  generalize F_C_spendCycle C2 (F_M_many v) = C3 at D3 E3 ⊢
  generalize F_M_spends M2 (F_M_many v) = M3 at D3 E3 I3 q3 ⊢
  by_cases c2 : r = 2
  · rw [if_pos c2, if_pos c2, if_neg (by rw [c2]; decide)]
    refine ⟨rel_put 15 45 D3 (by decide) (by decide) (by rw [D3.f 15 45 (by decide)]), ?_⟩
    obtain ⟨E, a1, a2⟩ := E3
    exact relE_c (a := M3 0) (C := C3) ⟨E, by omega, a2⟩ rfl (sA_ne _ _ _ _ (by decide)) (sA_ne _ _ _ _ (by decide))
  · rw [if_neg c2, if_neg c2]
    have D4 := rel_w1 D3 (w := (M3 0 43) + (1 : Int32)) rfl
    have E4 : RelE (B + 144) C3 (sA M3 0 43 ((M3 0 43) + (1 : Int32)) 0) := relE_c E3 rfl (sA_ne _ _ _ _ (by decide)) (sA_ne _ _ _ _ (by decide))
    have I4 := IA_put I3 43 ((M3 0 43) + (1 : Int32)) (by omega)
    have q4 : sA M3 0 43 ((M3 0 43) + (1 : Int32)) 0 34 = nI R9 := by rw [sA_ne _ _ _ _ (by decide)]; exact q3
    generalize sA M3 0 43 ((M3 0 43) + (1 : Int32)) = M4 at D4 E4 I4 q4 ⊢
    by_cases c1 : r = 1
    · simp only [if_pos c1]
      have D5 := rel_put 14 44 (v := (C3.1 4 14) + (1 : Int32)) (w := (M4 0 44) + (1 : Int32)) D4 (by decide) (by decide) (by rw [D4.f 14 44 (by decide)])
      have E5 : RelE (B + 144) (sC C3 4 14 ((C3.1 4 14) + (1 : Int32))) (sA M4 0 44 ((M4 0 44) + (1 : Int32)) 0) := relE_c E4 rfl (sA_ne _ _ _ _ (by decide)) (sA_ne _ _ _ _ (by decide))
      have I5 := IA_put I4 44 ((M4 0 44) + (1 : Int32)) (by omega)
      have q5 : sA M4 0 44 ((M4 0 44) + (1 : Int32)) 0 34 = nI R9 := by rw [sA_ne _ _ _ _ (by decide)]; exact q4
      unfold F_C_complain
      dsimp only
      generalize sC C3 4 14 ((C3.1 4 14) + (1 : Int32)) = C5 at D5 E5 ⊢
      generalize sA M4 0 44 ((M4 0 44) + (1 : Int32)) = M5 at D5 E5 I5 q5 ⊢
      have g9 := D5.f 9 41 (by decide)
      have g11 := D5.f 11 48 (by decide)
      have D6 : RelD 1 (if (C5.1 4 9) = (0 : Int32) then C5 else sC C5 4 11 ((C5.1 4 11) + (1 : Int32))) (sA M5 0 48 ((M5 0 48) + (M5 0 41)) 0) := by
        rcases bn01 I5.g with q | q
        · rw [if_pos (g9.trans q), q]
          exact rel_set 11 48 D5 (by decide) (by rw [g11, Int32.add_zero])
        · rw [if_neg (by rw [g9, q]; decide), q]
          exact rel_put 11 48 D5 (by decide) (by decide) (by rw [g11])
      have E6 : RelE (B + 144) (if (C5.1 4 9) = (0 : Int32) then C5 else sC C5 4 11 ((C5.1 4 11) + (1 : Int32))) (sA M5 0 48 ((M5 0 48) + (M5 0 41)) 0) := relE_c E5 (by split <;> rfl) (sA_ne _ _ _ _ (by decide)) (sA_ne _ _ _ _ (by decide))
      have I6 := IA_put I5 48 ((M5 0 48) + (M5 0 41)) (by omega)
      have q6 : sA M5 0 48 ((M5 0 48) + (M5 0 41)) 0 34 = nI R9 := by rw [sA_ne _ _ _ _ (by decide)]; exact q5
      generalize (if (C5.1 4 9) = (0 : Int32) then C5 else sC C5 4 11 ((C5.1 4 11) + (1 : Int32))) = C6 at D6 E6 ⊢
      generalize sA M5 0 48 ((M5 0 48) + (M5 0 41)) = M6 at D6 E6 I6 q6 ⊢
      obtain ⟨D7, E7⟩ := sim_replay hR2 21 0 C6 M6 (B + 144) (cu_i (by omega)) q6 (bn01 I6.g) I6.v D6 E6
      refine ⟨rel_w2 D7, ?_⟩
      obtain ⟨E, a1, a2⟩ := E7
      exact ⟨E, by omega, a2⟩
    · simp only [if_neg c1]
      refine ⟨rel_w2 D4, ?_⟩
      obtain ⟨E, a1, a2⟩ := E4
      exact ⟨E, by omega, a2⟩
/-- what a circuit does in a cycle, with the governor's look -/
def stepC (C : CS) : CS := if ((F_C_runOneCycle C).1 4 9) = (0 : Int32) then F_C_runOneCycle C else (if ((F_C_runOneCycle C).1 4 10) < ((F_C_runOneCycle C).1 3 3) then F_C_runOneCycle C else F_C_lookAtWindow (F_C_runOneCycle C))
theorem Clook_2 (C : CS) : (F_C_lookAtWindow C).2 = C.2 := by
  unfold F_C_lookAtWindow F_C_beginWindow
  dsimp only
  split <;> rfl
theorem sim_cycle {B : Nat} {C : CS} {M : ARR} (h : RelD 0 C (M 0)) (hI : IA (M 0)) (hE : RelE B C (M 0)) : RelD 0 (stepC C) (F_M_cycles M 0) ∧ RelE (B + 3168) (stepC C) (F_M_cycles M 0) := by
  obtain ⟨D, E⟩ := sim_one h hI hE
  have I := IA_one hI
  rw [cycles_one]
  unfold stepC
  generalize F_C_runOneCycle C = C1 at D E ⊢
  generalize oneM M = M1 at D E I ⊢
  rw [D.f 9 41 (by decide), D.f 10 47 (by decide), D.e 3 (by omega)]
  rcases bn01 I.g with q | q
  · rw [if_pos q, if_neg (by rw [q]; decide)]
    exact ⟨D, E⟩
  · rw [if_neg (by rw [q]; decide), if_pos q]
    by_cases c : M1 0 47 < M1 0 35
    · rw [if_pos (show M1 0 47 < M1 0 (32 + 3) from c), if_pos c]
      exact ⟨D, E⟩
    · rw [if_neg (show ¬ M1 0 47 < M1 0 (32 + 3) from c), if_neg c]
      exact ⟨sim_look D I, relE_c E (Clook_2 C1) (looks_at M1 (by decide) (by decide) (by decide) (by decide) (by decide)) (looks_at M1 (by decide) (by decide) (by decide) (by decide) (by decide))⟩
theorem OKC_step {C : CS} (h : OKC C) : OKC (stepC C) := by
  obtain ⟨a, h, hI, B, hE⟩ := h
  obtain ⟨D, E⟩ := sim_cycle (M := fun _ => a) h hI hE
  exact ⟨F_M_cycles (fun _ => a) 0, D, IA_cycles (M := fun _ => a) hI, _, E⟩
/-! many cycles -/
theorem LrunCycles_step (a : Int32) (n : Nat) (x : Int32) (C : CS) : L_C_runCycles_2 a (n + 1) x C = if a ≤ x then C else L_C_runCycles_2 a n (x + (1 : Int32)) (stepC C) := by
  simp only [L_C_runCycles_2, stepC]
theorem Lrun_step (a : Int32) (n : Nat) (x : Int32) (M : ARR) : L_M_run_21 a (n + 1) x M = if a ≤ x then M else L_M_run_21 a n (x + (1 : Int32)) (F_M_cycles M) := by
  simp only [L_M_run_21]
theorem Lbrings_step (a : Int32) (n : Nat) (x : Int32) (M : ARR) : L_M_brings_30 a (n + 1) x M = if a ≤ x then M else L_M_brings_30 a n (x + (1 : Int32)) (F_M_cycles M) := by
  simp only [L_M_brings_30]
/-- n cycles of the reference -/
def cycN : Nat → ARR → ARR
  | 0, M => M
  | n + 1, M => cycN n (F_M_cycles M)
def stepN : Nat → CS → CS
  | 0, C => C
  | n + 1, C => stepN n (stepC C)
theorem run_cycN {K : Nat} {a : Int32} (hK : K < 2 ^ 31) (ha : a = nI K) : ∀ (n : Nat) (x : Int32) (M : ARR) (k : Nat), x = nI k → k ≤ K → K + 1 ≤ k + n → L_M_run_21 a n x M = cycN (K - k) M
  | 0, _, _, k, _, h1, h2 => absurd h2 (by omega)
  | n + 1, x, M, k, hx, h1, h2 => by
    rw [Lrun_step, ha, hx]
    by_cases c : K ≤ k
    · rw [if_pos (nI_le c (by omega)), show K - k = 0 by omega]; rfl
    · rw [if_neg (nI_ge (by omega) (by omega)), ← ha, run_cycN hK ha n (nI k + 1) _ (k + 1) (nI_1 k) (by omega) (by omega)]
      rw [show K - k = (K - (k + 1)) + 1 by omega]; rfl
theorem brings_cycN {K : Nat} {a : Int32} (hK : K < 2 ^ 31) (ha : a = nI K) : ∀ (n : Nat) (x : Int32) (M : ARR) (k : Nat), x = nI k → k ≤ K → K + 1 ≤ k + n → L_M_brings_30 a n x M = cycN (K - k) M
  | 0, _, _, k, _, h1, h2 => absurd h2 (by omega)
  | n + 1, x, M, k, hx, h1, h2 => by
    rw [Lbrings_step, ha, hx]
    by_cases c : K ≤ k
    · rw [if_pos (nI_le c (by omega)), show K - k = 0 by omega]; rfl
    · rw [if_neg (nI_ge (by omega) (by omega)), ← ha, brings_cycN hK ha n (nI k + 1) _ (k + 1) (nI_1 k) (by omega) (by omega)]
      rw [show K - k = (K - (k + 1)) + 1 by omega]; rfl
theorem runC_stepN {K : Nat} {a : Int32} (hK : K < 2 ^ 31) (ha : a = nI K) : ∀ (n : Nat) (x : Int32) (C : CS) (k : Nat), x = nI k → k ≤ K → K + 1 ≤ k + n → L_C_runCycles_2 a n x C = stepN (K - k) C
  | 0, _, _, k, _, h1, h2 => absurd h2 (by omega)
  | n + 1, x, C, k, hx, h1, h2 => by
    rw [LrunCycles_step, ha, hx]
    by_cases c : K ≤ k
    · rw [if_pos (nI_le c (by omega)), show K - k = 0 by omega]; rfl
    · rw [if_neg (nI_ge (by omega) (by omega)), ← ha, runC_stepN hK ha n (nI k + 1) _ (k + 1) (nI_1 k) (by omega) (by omega)]
      rw [show K - k = (K - (k + 1)) + 1 by omega]; rfl
theorem sim_cycN : ∀ (n : Nat) (B : Nat) (C : CS) (M : ARR), RelD 0 C (M 0) → IA (M 0) → RelE B C (M 0) → RelD 0 (stepN n C) (cycN n M 0) ∧ IA (cycN n M 0) ∧ RelE (B + 3168 * n) (stepN n C) (cycN n M 0)
  | 0, _, _, _, h, hI, hE => ⟨h, hI, hE⟩
  | n + 1, B, C, M, h, hI, hE => by
    obtain ⟨D, E⟩ := sim_cycle h hI hE
    obtain ⟨a1, a2, E2, a3, a4⟩ := sim_cycN n (B + 3168) (stepC C) (F_M_cycles M) D (IA_cycles hI) E
    exact ⟨a1, a2, E2, by omega, a4⟩
theorem cycN_o : ∀ (n : Nat) (M : ARR) {i : Nat}, i ≠ 0 → cycN n M i = M i
  | 0, _, _, _ => rfl
  | n + 1, M, i, h => (cycN_o n (F_M_cycles M) h).trans (cycles_o M h)
