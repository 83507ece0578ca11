/-! a circuit keeps beside its row: one change on both sides -/
theorem SF_r : ∀ p ∈ SF, 39 ≤ p.2 ∧ p.2 ≠ 43 ∧ p.2 ≠ 46 ∧ p.2 ≠ 54 ∧ p.1 ≠ 13 := by decide
theorem SF_i : ∀ p ∈ SF, ∀ q ∈ SF, (p.1 = q.1 → p.2 = q.2) ∧ (p.2 = q.2 → p.1 = q.1) := by decide
theorem rel_put {d : Int32} {C : CS} {M : ARR} (i j : Nat) {v w : Int32} (h : RelD d C (M 0)) (hij : (i, j) ∈ SF) (h4 : j ≠ 49) (hv : v = w) : RelD d (sC C 4 i v) (sA M 0 j w 0) := by
  subst hv
  obtain ⟨r1, r2, r3, r4, r5⟩ := SF_r _ hij
  refine ⟨fun k hk => ?_, fun k hk => ?_, fun k N hN h16 hk => ?_, fun k hk => ?_, fun k hk => ?_, ?_, fun i' j' q => ?_⟩
  · rw [sC_o _ _ _ _ (by decide), sA_ne _ _ _ _ (by dsimp only at *; omega)]; exact h.l k hk
  · rw [sC_o _ _ _ _ (by decide), sA_ne _ _ _ _ (by dsimp only at *; omega)]; exact h.u k hk
  · rw [sC_o _ _ _ _ (by decide), sA_ne _ _ _ _ (by dsimp only at *; omega)]
    rw [sA_ne _ _ _ _ (Ne.symm h4)] at hN
    exact h.s k N hN h16 hk
  · rw [sC_o _ _ _ _ (by decide)]; exact h.t k hk
  · rw [sC_o _ _ _ _ (by decide), sA_ne _ _ _ _ (by dsimp only at *; omega)]; exact h.e k hk
  · rw [sC_ne _ _ _ _ (Ne.symm r5), sA_ne _ _ _ _ (Ne.symm r2)]; exact h.w
  · by_cases e : i' = i
    · have e2 : j' = j := (SF_i _ q _ hij).1 e
      subst e; subst e2
      rw [sC_e, sA_e]
    · have e2 : j' ≠ j := fun z => e ((SF_i _ q _ hij).2 z)
      rw [sC_ne _ _ _ _ e, sA_ne _ _ _ _ e2]
      exact h.f i' j' q
theorem rel_set {d : Int32} {C : CS} {M : ARR} (i j : Nat) {w : Int32} (h : RelD d C (M 0)) (hij : (i, j) ∈ SF) (hv : C.1 4 i = w) : RelD d C (sA M 0 j w 0) := by
  have e : ∀ q, sA M 0 j w 0 q = M 0 q := fun q => by
    by_cases z : q = j
    · subst z
      rw [sA_e, ← hv, h.f i q hij]
    · exact sA_ne _ _ _ _ z
  have e2 : sA M 0 j w 0 = M 0 := funext e
  rw [e2]
  exact h
theorem rel_ign {d : Int32} {C : CS} {M : ARR} (j : Nat) {w : Int32} (h : RelD d C (M 0)) (hj : j = 46 ∨ j = 54) : RelD d C (sA M 0 j w 0) := by
  refine ⟨fun k hk => ?_, fun k hk => ?_, fun k N hN h16 hk => ?_, h.t, fun k hk => ?_, ?_, fun i' j' q => ?_⟩
  · rw [sA_ne _ _ _ _ (by omega)]; exact h.l k hk
  · rw [sA_ne _ _ _ _ (by omega)]; exact h.u k hk
  · rw [sA_ne _ _ _ _ (by omega)]
    rw [sA_ne _ _ _ _ (by omega)] at hN
    exact h.s k N hN h16 hk
  · rw [sA_ne _ _ _ _ (by omega)]; exact h.e k hk
  · rw [sA_ne _ _ _ _ (by omega)]; exact h.w
  · obtain ⟨r1, r2, r3, r4, r5⟩ := SF_r _ q
    rw [sA_ne _ _ _ _ (by dsimp only at *; omega)]
    exact h.f i' j' q
theorem rel_c {d : Int32} {C C' : CS} {a : Nat → Int32} (h : RelD d C a) (e : C'.1 = C.1) : RelD d C' a := by
  unfold RelD
  rw [e]
  exact h
theorem rel_a {d : Int32} {C : CS} {a b : Nat → Int32} (h : RelD d C a) (e : ∀ j, j < 55 → b j = a j) : RelD d C b := by
  refine ⟨fun k hk => ?_, fun k hk => ?_, fun k N hN h16 hk => ?_, h.t, fun k hk => ?_, ?_, fun i' j' q => ?_⟩
  · rw [e _ (by omega)]; exact h.l k hk
  · rw [e _ (by omega)]; exact h.u k hk
  · rw [e _ (by omega)]
    rw [e _ (by omega)] at hN
    exact h.s k N hN h16 hk
  · rw [e _ (by omega)]; exact h.e k hk
  · rw [e _ (by omega)]; exact h.w
  · have : ∀ p ∈ SF, p.2 < 55 := by decide
    rw [e _ (this _ q)]
    exact h.f i' j' q
/-- the reference counts the work first, the circuit last -/
theorem rel_w1 {C : CS} {M : ARR} {w : Int32} (h : RelD 0 C (M 0)) (hw : w = M 0 43 + 1) : RelD 1 C (sA M 0 43 w 0) := by
  subst hw
  refine ⟨fun k hk => ?_, fun k hk => ?_, fun k N hN h16 hk => ?_, h.t, fun k hk => ?_, ?_, fun i' j' q => ?_⟩
  · rw [sA_ne _ _ _ _ (by omega)]; exact h.l k hk
  · rw [sA_ne _ _ _ _ (by omega)]; exact h.u k hk
  · rw [sA_ne _ _ _ _ (by omega)]
    rw [sA_ne _ _ _ _ (by omega)] at hN
    exact h.s k N hN h16 hk
  · rw [sA_ne _ _ _ _ (by omega)]; exact h.e k hk
  · rw [sA_e, ← h.w, Int32.add_zero]
  · obtain ⟨r1, r2, r3, r4, r5⟩ := SF_r _ q
    rw [sA_ne _ _ _ _ r2]
    exact h.f i' j' q
theorem rel_w2 {C : CS} {a : Nat → Int32} (h : RelD 1 C a) : RelD 0 (sC C 4 13 (C.1 4 13 + (1 : Int32))) a := by
  refine ⟨fun k hk => ?_, fun k hk => ?_, fun k N hN h16 hk => ?_, fun k hk => ?_, fun k hk => ?_, ?_, fun i' j' q => ?_⟩
  · rw [sC_o _ _ _ _ (by decide)]; exact h.l k hk
  · rw [sC_o _ _ _ _ (by decide)]; exact h.u k hk
  · rw [sC_o _ _ _ _ (by decide)]; exact h.s k N hN h16 hk
  · rw [sC_o _ _ _ _ (by decide)]; exact h.t k hk
  · rw [sC_o _ _ _ _ (by decide)]; exact h.e k hk
  · rw [sC_e, Int32.add_zero]; exact h.w
  · obtain ⟨r1, r2, r3, r4, r5⟩ := SF_r _ q
    rw [sC_ne _ _ _ _ r5]
    exact h.f i' j' q
/-! a spent cycle -/
theorem min120 (v : Int32) : F_J_min 120 v = (if v ≤ 120 then v else 120) := by
  unfold F_J_min
  dsimp only
  by_cases h : v < 120
  · rw [if_pos h, if_pos (Int32.le_of_lt h)]
  · rw [if_neg h]
    by_cases h2 : v ≤ 120
    · rw [if_pos h2]
      exact Int32.le_antisymm (Int32.not_lt.mp h) h2
    · rw [if_neg h2]
theorem sub1 (h : Int32) : h + (-1) = h - 1 := by rw [Int32.sub_eq_add_neg]
theorem sim_heat {d : Int32} {C : CS} {M : ARR} {n n' : Int32} (h : RelD d C (M 0)) (e : n = n') : RelD d (F_C_changeHeat C n) (sA M 0 40 ((M 0 40) + (if n' ≤ (M 0 40) then (if (M 0 40) ≤ n' then (0 : Int32) else (-1 : Int32)) else (1 : Int32))) 0) := by
  subst e
  have e8 : C.1 4 8 = M 0 40 := h.f 8 40 (by decide)
  unfold F_C_changeHeat
  dsimp only
  rw [e8]
  by_cases c1 : n ≤ M 0 40
  · simp only [if_pos c1]
    by_cases c2 : M 0 40 ≤ n
    · simp only [if_pos c2]
      exact rel_set 8 40 h (by decide) (by rw [e8, Int32.add_zero])
    · simp only [if_neg c2]
      exact rel_put 8 40 h (by decide) (by decide) (sub1 _).symm
  · simp only [if_neg c1]
    exact rel_put 8 40 h (by decide) (by decide) rfl
theorem sim_spend {d : Int32} {C : CS} {M : ARR} (n : Int32) (h : RelD d C (M 0)) (hg : M 0 41 = 0 ∨ M 0 41 = 1) : RelD d (F_C_spendCycle C n) (F_M_spends M n 0) := by
  have e12 := h.f 12 42 (by decide)
  have e9 := h.f 9 41 (by decide)
  have e10 := h.f 10 47 (by decide)
  have e7 := h.f 7 39 (by decide)
  unfold F_C_spendCycle F_M_spends
  dsimp only
  generalize ((M 0 46) + (((M 0 54) + (((M 0 39) * (M 0 39)) / (10000 : Int32))) / (1000 : Int32))) = w1
  generalize ((M 0 54) + (((M 0 39) * (M 0 39)) / (10000 : Int32))) - ((M 0 54) + (((M 0 39) * (M 0 39)) / (10000 : Int32))) / (1000 : Int32) * (1000 : Int32) = w2
  have h1 := rel_ign 46 (w := w1) h (Or.inl rfl)
  have h2 := rel_ign 54 (w := w2) h1 (Or.inr rfl)
  generalize hM2 : sA (sA M 0 46 w1) 0 54 w2 = M2 at h2 ⊢
  have f42 : M2 0 42 = M 0 42 := by rw [← hM2, sA_ne _ _ _ _ (by decide), sA_ne _ _ _ _ (by decide)]
  have f41 : M2 0 41 = M 0 41 := by rw [← hM2, sA_ne _ _ _ _ (by decide), sA_ne _ _ _ _ (by decide)]
  have h3 := rel_put 12 42 (v := C.1 4 12 + (1 : Int32)) (w := M2 0 42 + (1 : Int32)) h2 (by decide) (by decide) (by rw [f42, e12])
  generalize hC3 : sC C 4 12 (C.1 4 12 + (1 : Int32)) = C3 at h3 ⊢
  generalize hM3 : sA M2 0 42 (M2 0 42 + (1 : Int32)) = M3 at h3 ⊢
  have g9 := h3.f 9 41 (by decide)
  have g10 := h3.f 10 47 (by decide)
  have g41 : M3 0 41 = 0 ∨ M3 0 41 = 1 := by rw [← hM3, sA_ne _ _ _ _ (by decide), f41]; exact hg
  have h4 : RelD d (if (C3.1 4 9) = (0 : Int32) then C3 else sC C3 4 10 ((C3.1 4 10) + (1 : Int32))) (sA M3 0 47 ((M3 0 47) + (M3 0 41)) 0) := by
    rcases g41 with q | q
    · rw [if_pos (g9.trans q), q]
      exact rel_set 10 47 h3 (by decide) (by rw [g10, Int32.add_zero])
    · rw [if_neg (by rw [g9, q]; decide), q]
      exact rel_put 10 47 h3 (by decide) (by decide) (by rw [g10])
  generalize hC4 : (if (C3.1 4 9) = (0 : Int32) then C3 else sC C3 4 10 ((C3.1 4 10) + (1 : Int32))) = C4 at h4 ⊢
  generalize hM4 : sA M3 0 47 ((M3 0 47) + (M3 0 41)) = M4 at h4 ⊢
  generalize hC5 : sE C4 (C4.2 + (((C4.1 4 7) * (C4.1 4 7)) / (10000 : Int32)).toInt64) = C5
  have h5 : RelD d C5 (M4 0) := rel_c h4 (by rw [← hC5]; rfl)
  have k12 := h5.f 12 42 (by decide)
  have k7 := h5.f 7 39 (by decide)
  rw [k12, k7]
  by_cases c : ((M4 0 42) - (M4 0 42) / (4 : Int32) * (4 : Int32)) = (0 : Int32)
  · simp only [if_pos c]
    exact sim_heat h5 (min120 _)
  · simp only [if_neg c]
    exact h5
