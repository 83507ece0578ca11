/-! the least voltage: the slowest used path decides -/
def bitv (x k : Int32) : Int32 := (x >>> (k &&& 31)) &&& (1 : Int32)
theorem bl_bit (x k : Int32) : bitv x k = 0 ∨ bitv x k = 1 := and1 _
theorem has_bit (x k : Int32) : F_M_has x k = bitv x k := by
  have e := has_v x k
  have e2 : bitv x k = (if F_M_has x k = (0 : Int32) then (0 : Int32) else (1 : Int32)) := e.symm
  rw [e2]
  rcases bl_has x k with q | q <;> rw [q] <;> rfl
theorem and_or32 (x y k : Int32) : (x ||| y) &&& k = (x &&& k) ||| (y &&& k) := by
  apply Int32.toBitVec_inj.mp
  simp only [Int32.toBitVec_or, Int32.toBitVec_and]
  ext i
  simp [Bool.and_or_distrib_right]
theorem bit_or (x y k : Int32) : bitv (x ||| y) k = bitv x k ||| bitv y k := by
  unfold bitv
  rw [Int32.shiftRight_or, and_or32]
theorem or01 {x y : Int32} (hx : x = 0 ∨ x = 1) (hy : y = 0 ∨ y = 1) : (x ||| y = 0) ↔ (x = 0 ∧ y = 0) := by
  rcases hx with rfl | rfl <;> rcases hy with rfl | rfl <;> decide
theorem lw_or {C : CS} {N : Nat} (hN : C.1 4 4 = nI N) (n16 : N ≤ 16) (k : Int32) : ∀ (n : Nat) (x y : Int32) (j : Nat), y = nI j → j ≤ N → N + 1 ≤ j + n → (bitv (L_C_longestInWorkload_4 C n x y) k = 0 ↔ bitv x k = 0 ∧ ∀ q, j ≤ q → q < N → bitv (C.1 2 q) k = 0)
  | 0, _, _, j, _, h1, h2 => absurd h2 (by omega)
  | n + 1, x, y, j, hy, h1, h2 => by
    subst hy
    simp only [L_C_longestInWorkload_4]
    rw [hN]
    by_cases c : N ≤ j
    · rw [if_pos (nI_le c (by omega))]
      exact ⟨fun h => ⟨h, fun q a b => absurd b (by omega)⟩, fun h => h.1⟩
    · rw [if_neg (nI_ge (by omega) (by omega)), nI_clamp (show j < 2 ^ 31 by omega), lw_or hN n16 k n _ _ (j + 1) (nI_1 j) (by omega) (by omega), bit_or, or01 (bl_bit _ _) (bl_bit _ _)]
      constructor
      · rintro ⟨⟨a, b⟩, g⟩
        refine ⟨a, fun q q1 q2 => ?_⟩
        by_cases z : q = j
        · rw [z]; exact b
        · exact g q (by omega) q2
      · rintro ⟨a, g⟩
        exact ⟨⟨a, g j (Nat.le_refl _) (by omega)⟩, fun q q1 q2 => g q (by omega) q2⟩
theorem sw_zero {C : CS} {N : Nat} (hN : C.1 4 4 = nI N) (n16 : N ≤ 16) (k : Int32) : ∀ (n : Nat) (s : Nat) (y : Int32) (j : Nat), y = nI j → j ≤ N → N + 1 ≤ j + n → s ≤ j → (L_C_setsWith_4 C k n (nI s) y = 0 ↔ s = 0 ∧ ∀ q, j ≤ q → q < N → bitv (C.1 2 q) k = 0)
  | 0, _, _, j, _, h1, h2, _ => absurd h2 (by omega)
  | n + 1, s, y, j, hy, h1, h2, hs => by
    subst hy
    simp only [L_C_setsWith_4]
    rw [hN]
    by_cases c : N ≤ j
    · rw [if_pos (nI_le c (by omega))]
      constructor
      · intro h
        refine ⟨?_, fun q a b => absurd b (by omega)⟩
        rcases Nat.eq_zero_or_pos s with z | z
        · exact z
        · exact absurd h (nI_ne0 z (by omega))
      · rintro ⟨rfl, _⟩
        exact nI_0
    · rw [if_neg (nI_ge (by omega) (by omega)), nI_clamp (show j < 2 ^ 31 by omega)]
      rw [show ((C.1 2 j) >>> (k &&& 31)) &&& (1 : Int32) = bitv (C.1 2 j) k from rfl]
      rcases bl_bit (C.1 2 j) k with b | b
      · rw [b, Int32.add_zero, sw_zero hN n16 k n s _ (j + 1) (nI_1 j) (by omega) (by omega) (by omega)]
        constructor
        · rintro ⟨a, g⟩
          refine ⟨a, fun q q1 q2 => ?_⟩
          by_cases z : q = j
          · rw [z]; exact b
          · exact g q (by omega) q2
        · rintro ⟨a, g⟩
          exact ⟨a, fun q q1 q2 => g q (by omega) q2⟩
      · rw [b, nI_1, sw_zero hN n16 k n (s + 1) _ (j + 1) (nI_1 j) (by omega) (by omega) (by omega)]
        constructor
        · rintro ⟨a, _⟩
          exact absurd a (by omega)
        · rintro ⟨_, g⟩
          have := g j (Nat.le_refl _) (by omega)
          rw [b] at this
          exact absurd this (by decide)
theorem wo_le {M : ARR} {P : Nat} (hP : M 0 51 = nI P) (p8 : P ≤ 8) (u : Int32) {al : Int32} (hal : (0 : Int32) ≤ al) : ∀ (n : Nat) (x y : Int32) (j : Nat), y = nI j → j ≤ P → P + 1 ≤ j + n → (L_M_worstOf_4 M u n x y ≤ al ↔ x ≤ al ∧ ∀ q, j ≤ q → q < P → F_M_has u (nI q) = 0 ∨ F_M_stateWith M (nI q) (M 0 39) ≤ al)
  | 0, _, _, j, _, h1, h2 => absurd h2 (by omega)
  | n + 1, x, y, j, hy, h1, h2 => by
    subst hy
    simp only [L_M_worstOf_4]
    rw [hP]
    by_cases c : P ≤ j
    · rw [if_pos (nI_le c (by omega))]
      exact ⟨fun h => ⟨h, fun q a b => absurd b (by omega)⟩, fun h => h.1⟩
    · rw [if_neg (nI_ge (by omega) (by omega)), wo_le hP p8 u hal n _ _ (j + 1) (nI_1 j) (by omega) (by omega)]
      have key : ∀ w : Int32, ((if w ≤ x then x else w) ≤ al ↔ x ≤ al ∧ w ≤ al) := fun w => by
        by_cases z : w ≤ x
        · rw [if_pos z]
          exact ⟨fun h => ⟨h, Int32.le_trans z h⟩, fun h => h.1⟩
        · rw [if_neg z]
          exact ⟨fun h => ⟨Int32.le_trans (Int32.le_of_lt (Int32.not_le.mp z)) h, h⟩, fun h => h.2⟩
      rw [key]
      have hj : ((if F_M_has u (nI j) = (0 : Int32) then (0 : Int32) else F_M_stateWith M (nI j) (M 0 39)) ≤ al) ↔ (F_M_has u (nI j) = 0 ∨ F_M_stateWith M (nI j) (M 0 39) ≤ al) := by
        by_cases z : F_M_has u (nI j) = 0
        · rw [if_pos z]
          exact ⟨fun _ => Or.inl z, fun _ => hal⟩
        · rw [if_neg z]
          exact ⟨fun h => Or.inr h, fun h => h.resolve_left z⟩
      rw [hj]
      constructor
      · rintro ⟨⟨a, b⟩, g⟩
        refine ⟨a, fun q q1 q2 => ?_⟩
        by_cases z : q = j
        · rw [z]; exact b
        · exact g q (by omega) q2
      · rintro ⟨a, g⟩
        exact ⟨⟨a, g j (Nat.le_refl _) (by omega)⟩, fun q q1 q2 => g q (by omega) q2⟩
theorem aw_zero {M : ARR} {P : Nat} (hP : M 0 51 = nI P) (p8 : P ≤ 8) (v al : Int32) : ∀ (n : Nat) (x y : Int32) (j : Nat), y = nI j → j ≤ P → P + 1 ≤ j + n → (L_M_areWell_5 M v al n x y = 0 ↔ x = 0 ∨ ∃ q, j ≤ q ∧ q < P ∧ ¬ F_M_setsWith M (nI q) = 0 ∧ al < F_M_stateWith M (nI q) v)
  | 0, _, _, j, _, h1, h2 => absurd h2 (by omega)
  | n + 1, x, y, j, hy, h1, h2 => by
    subst hy
    simp only [L_M_areWell_5]
    rw [hP]
    by_cases c : P ≤ j
    · rw [if_pos (nI_le c (by omega))]
      exact ⟨fun h => Or.inl h, fun h => h.elim id (fun ⟨q, a, b, _⟩ => absurd b (by omega))⟩
    · rw [if_neg (nI_ge (by omega) (by omega)), aw_zero hP p8 v al n _ _ (j + 1) (nI_1 j) (by omega) (by omega)]
      have hj : ((if x = (0 : Int32) then (0 : Int32) else if F_M_setsWith M (nI j) = (0 : Int32) then (1 : Int32) else if al < F_M_stateWith M (nI j) v then (0 : Int32) else (1 : Int32)) = 0) ↔ (x = 0 ∨ (¬ F_M_setsWith M (nI j) = 0 ∧ al < F_M_stateWith M (nI j) v)) := by
        by_cases z : x = 0
        · rw [if_pos z]; exact ⟨fun _ => Or.inl z, fun _ => rfl⟩
        rw [if_neg z]
        by_cases z2 : F_M_setsWith M (nI j) = 0
        · rw [if_pos z2]; exact ⟨fun h => absurd h (by decide), fun h => h.elim (fun q => absurd q z) (fun q => absurd z2 q.1)⟩
        rw [if_neg z2]
        by_cases z3 : al < F_M_stateWith M (nI j) v
        · rw [if_pos z3]; exact ⟨fun _ => Or.inr ⟨z2, z3⟩, fun _ => rfl⟩
        · rw [if_neg z3]; exact ⟨fun h => absurd h (by decide), fun h => h.elim (fun q => absurd q z) (fun q => absurd q.2 z3)⟩
      rw [hj]
      constructor
      · rintro ((a | ⟨a, b⟩) | ⟨q, q1, q2, q3⟩)
        · exact Or.inl a
        · exact Or.inr ⟨j, Nat.le_refl _, by omega, a, b⟩
        · exact Or.inr ⟨q, by omega, q2, q3⟩
      · rintro (a | ⟨q, q1, q2, q3⟩)
        · exact Or.inl (Or.inl a)
        · by_cases z : q = j
          · subst z; exact Or.inl (Or.inr q3)
          · exact Or.inr ⟨q, by omega, q2, q3⟩
theorem least_step {C : CS} {M : ARR} (h : RelD 0 C (M 0)) (hI : IA (M 0)) {v : Int32} (hv : bn 500 1200 v) {al : Int32} (hal : (0 : Int32) ≤ al) : (al < F_C_judge C (F_C_delayOf (F_C_longestInWorkload C) v (C.1 4 8))) ↔ F_M_areWell M v al = 0 := by
  obtain ⟨P, p1, p8, hP⟩ := hI.p
  obtain ⟨N, n1, n16, hN⟩ := hI.c
  have hNC : C.1 4 4 = nI N := by rw [h.f 4 49 (by decide)]; exact hN
  obtain ⟨u, eu⟩ : ∃ u : Int32, u = L_C_longestInWorkload_4 C 17 0 0 := ⟨_, rfl⟩
  have el : F_C_longestInWorkload C = F_C_longestOf C u := by rw [eu]; rfl
  have h' : RelD 0 (sC C 4 7 v) (sA M 0 39 v 0) := rel_put 7 39 h (by decide) (by decide) rfl
  have hI' : IA (sA M 0 39 v 0) := IA_set hI 39 v (IV_39 hv)
  have hP' : sA M 0 39 v 0 51 = nI P := by rw [sA_ne _ _ _ _ (by decide)]; exact hP
  have ew := worst_eq (M := sA M 0 39 v) h' hI' u
  rw [longest_congr (C := C) (by rw [sC_o _ _ _ _ (by decide)]) (by rw [sC_ne _ _ _ _ (by decide)]), judge_congr (C := C) (by rw [sC_o _ _ _ _ (by decide)]), sC_e, sC_ne _ _ _ _ (show 8 ≠ 7 by decide)] at ew
  rw [el, ← ew]
  have hst : ∀ q : Nat, q < P → F_M_stateWith (sA M 0 39 v) (nI q) v = F_M_stateWith M (nI q) v := fun q hq => by
    rw [state_eq (M := sA M 0 39 v) h' (show q < 8 by omega) rfl, state_eq h (show q < 8 by omega) rfl, judge_congr (C := C) (by rw [sC_o _ _ _ _ (by decide)]), sC_o _ _ _ _ (show 0 ≠ 4 by decide), sC_ne _ _ _ _ (show 8 ≠ 7 by decide)]
  have hsw : ∀ q : Nat, (F_M_has u (nI q) = 0 ↔ F_M_setsWith M (nI q) = 0) := fun q => by
    rw [has_bit, eu, lw_or hNC n16 (nI q) 17 0 0 0 nI_0.symm (by omega) (by omega), ← setsW_eq h hI (nI q)]
    show _ ↔ L_C_setsWith_4 C (nI q) 17 (nI 0) (nI 0) = 0
    rw [sw_zero hNC n16 (nI q) 17 0 (nI 0) 0 rfl (by omega) (by omega) (by omega)]
    have z0 : bitv 0 (nI q) = 0 := by
      unfold bitv
      rw [Int32.zero_shiftRight]; rfl
    exact ⟨fun g => ⟨rfl, g.2⟩, fun g => ⟨z0, g.2⟩⟩
  have eW : F_M_worstOf (sA M 0 39 v) u = L_M_worstOf_4 (sA M 0 39 v) u 9 0 0 := rfl
  have eA : F_M_areWell M v al = L_M_areWell_5 M v al 9 1 0 := rfl
  rw [eW, eA, aw_zero hP p8 v al 9 1 0 0 nI_0.symm (by omega) (by omega), ← Int32.not_le, wo_le hP' p8 u hal 9 0 0 0 nI_0.symm (by omega) (by omega), sA_e]
  constructor
  · intro g
    right
    by_cases z : ∃ q, 0 ≤ q ∧ q < P ∧ ¬ F_M_setsWith M (nI q) = 0 ∧ al < F_M_stateWith M (nI q) v
    · exact z
    · exfalso
      refine g ⟨hal, fun q q1 q2 => ?_⟩
      rw [hsw q, hst q q2]
      by_cases z2 : F_M_setsWith M (nI q) = 0
      · exact Or.inl z2
      · by_cases z3 : F_M_stateWith M (nI q) v ≤ al
        · exact Or.inr z3
        · exact absurd ⟨q, q1, q2, z2, Int32.not_le.mp z3⟩ z
  · rintro (g | ⟨q, q1, q2, q3, q4⟩) ⟨_, f⟩
    · exact absurd g (by decide)
    · have := f q q1 q2
      rw [hsw q, hst q q2] at this
      rcases this with z | z
      · exact q3 z
      · exact Int32.not_le.mpr q4 z
theorem sim_leastL {S : SLS} {M : ARR} (h : RelD 0 (S.1 0) (M 0)) (hI : IA (M 0)) (a : Int32) : ∀ (n : Nat) (x : Int32), lv7 n x → L_S_least_23 S (F_C_longestInWorkload (S.1 0)) (if a = (0 : Int32) then (0 : Int32) else (1 : Int32)) n x = L_M_least_4 M a n x
  | 0, x, hi => by
    obtain ⟨k, _, h1, h2, h3⟩ := hi
    omega
  | n + 1, x, hi => by
    simp only [L_S_least_23, L_M_least_4]
    by_cases c1 : (1200 : Int32) < x
    · rw [if_pos c1, if_pos c1]
    rw [if_neg c1, if_neg c1]
    have hal : (0 : Int32) ≤ (if a = (0 : Int32) then (0 : Int32) else (1 : Int32)) := by split <;> decide
    have hst := least_step h hI (lv7_v hi c1) hal
    by_cases c2 : F_M_areWell M x (if a = (0 : Int32) then (0 : Int32) else (1 : Int32)) = 0
    · rw [if_pos c2, if_pos (hst.mpr c2)]
      exact sim_leastL h hI a n _ (lv7_b hi c1 rfl)
    · rw [if_neg c2, if_neg (fun q => c2 (hst.mp q))]
theorem sim_least {B : Nat} {S : SLS} {M : ARR} (h : RS B S M) (a : Int32) : F_S_least S a = F_M_least M a :=
  sim_leastL h.c.1 h.I a 702 500 ⟨500, rfl, by omega, by omega, by omega⟩
