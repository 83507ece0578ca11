/-! what a cycle changes -/
def HD (f : Nat) (x y : Int32) : Prop := ∃ z : Int, -(f : Int) ≤ z ∧ z ≤ f ∧ y = x + Int32.ofInt z
theorem HD.rf (x : Int32) : HD 0 x x := ⟨0, by omega, by omega, (Int32.add_zero x).symm⟩
theorem HD.tr {f g : Nat} {x y w : Int32} (h : HD f x y) (k : HD g y w) : HD (f + g) x w := by
  obtain ⟨a, a1, a2, rfl⟩ := h
  obtain ⟨b, b1, b2, rfl⟩ := k
  exact ⟨a + b, by omega, by omega, by rw [Int32.ofInt_add, Int32.add_assoc]⟩
theorem HD.eq {f g : Nat} {x y : Int32} (h : HD f x y) (e : f = g) : HD g x y := e ▸ h
theorem heat_HD (C : CS) (n : Int32) : HD 1 (C.1 4 8) ((F_C_changeHeat C n).1 4 8) := by
  unfold F_C_changeHeat
  dsimp only
  by_cases c1 : n ≤ C.1 4 8
  · simp only [if_pos c1]
    by_cases c2 : C.1 4 8 ≤ n
    · simp only [if_pos c2]; exact ⟨0, by omega, by omega, (Int32.add_zero _).symm⟩
    · simp only [if_neg c2]
      rw [sC_e]
      exact ⟨-1, by omega, by omega, by rw [Int32.sub_eq_add_neg]; rfl⟩
  · simp only [if_neg c1]
    rw [sC_e]
    exact ⟨1, by omega, by omega, rfl⟩
theorem spend_f (C : CS) (n : Int32) {j : Nat} (h8 : j ≠ 8) (h10 : j ≠ 10) (h12 : j ≠ 12) : (F_C_spendCycle C n).1 4 j = C.1 4 j := by
  unfold F_C_spendCycle
  dsimp only
  repeat' split
  all_goals simp only [Cheat_at _ _ h8, sE_1, sC_ne _ _ _ _ h10, sC_ne _ _ _ _ h12]
theorem spend_12 (C : CS) (n : Int32) : (F_C_spendCycle C n).1 4 12 = C.1 4 12 + (1 : Int32) := by
  unfold F_C_spendCycle
  dsimp only
  repeat' split
  all_goals simp only [Cheat_at _ _ (show 12 ≠ 8 by decide), sE_1, sC_ne _ _ _ _ (show 12 ≠ 10 by decide), sC_e]
theorem spend_10 (C : CS) (n : Int32) : (F_C_spendCycle C n).1 4 10 = if C.1 4 9 = 0 then C.1 4 10 else C.1 4 10 + (1 : Int32) := by
  unfold F_C_spendCycle
  dsimp only
  rw [sC_ne C 4 12 _ (show 9 ≠ 12 by decide)]
  by_cases c : C.1 4 9 = 0
  · simp only [if_pos c]
    split
    · simp only [Cheat_at _ _ (show 10 ≠ 8 by decide), sE_1, sC_ne _ _ _ _ (show 10 ≠ 12 by decide)]
    · simp only [sE_1, sC_ne _ _ _ _ (show 10 ≠ 12 by decide)]
  · simp only [if_neg c]
    split
    · simp only [Cheat_at _ _ (show 10 ≠ 8 by decide), sE_1, sC_e, sC_ne _ _ _ _ (show 10 ≠ 12 by decide)]
    · simp only [sE_1, sC_e, sC_ne _ _ _ _ (show 10 ≠ 12 by decide)]
theorem spend_8 (C : CS) (n : Int32) {s : Nat} (hs : C.1 4 12 = nI s) (sb : s + 1 < 2 ^ 31) : HD ((s + 1) / 4 - s / 4) (C.1 4 8) ((F_C_spendCycle C n).1 4 8) := by
  unfold F_C_spendCycle
  dsimp only
  have d12 : (sC C 4 12 ((C.1 4 12) + (1 : Int32))).1 4 12 = nI (s + 1) := by rw [sC_e, hs, nI_1]
  have d8 : (sC C 4 12 ((C.1 4 12) + (1 : Int32))).1 4 8 = C.1 4 8 := sC_ne _ _ _ _ (by decide)
  generalize sC C 4 12 ((C.1 4 12) + (1 : Int32)) = D at d12 d8 ⊢
  have e12 : (if (D.1 4 9) = (0 : Int32) then D else sC D 4 10 ((D.1 4 10) + (1 : Int32))).1 4 12 = nI (s + 1) := by
    split
    · exact d12
    · rw [sC_ne _ _ _ _ (by decide)]; exact d12
  have e8 : (if (D.1 4 9) = (0 : Int32) then D else sC D 4 10 ((D.1 4 10) + (1 : Int32))).1 4 8 = C.1 4 8 := by
    split
    · exact d8
    · rw [sC_ne _ _ _ _ (by decide)]; exact d8
  generalize (if (D.1 4 9) = (0 : Int32) then D else sC D 4 10 ((D.1 4 10) + (1 : Int32))) = E at e12 e8 ⊢
  have g12 : (sE E (E.2 + (((E.1 4 7) * (E.1 4 7)) / (10000 : Int32)).toInt64)).1 4 12 = nI (s + 1) := e12
  have g8 : (sE E (E.2 + (((E.1 4 7) * (E.1 4 7)) / (10000 : Int32)).toInt64)).1 4 8 = C.1 4 8 := e8
  generalize sE E (E.2 + (((E.1 4 7) * (E.1 4 7)) / (10000 : Int32)).toInt64) = G at g12 g8 ⊢
  have er : nI (s + 1) - nI (s + 1) / (4 : Int32) * (4 : Int32) = nI ((s + 1) % 4) := pk_rem (a := s + 1) (d := 4) sb (by omega) (by omega)
  rw [g12, er]
  by_cases c : (s + 1) % 4 = 0
  · simp only [if_pos (show nI ((s + 1) % 4) = (0 : Int32) by rw [c]; rfl)]
    rw [← g8]
    exact (heat_HD G _).eq (by omega)
  · simp only [if_neg (nI_ne0 (show 0 < (s + 1) % 4 by omega) (by omega))]
    rw [g8]
    exact (HD.rf _).eq (by omega)
theorem replay_eff {R : Nat} (r20 : R ≤ 20) : ∀ (n : Nat) (x : Int32) (C : CS) (k s : Nat), x = nI k → k ≤ R → R + 1 ≤ k + n → C.1 3 2 = nI R → C.1 4 12 = nI s → s + 20 < 2 ^ 30 + k →
    (L_C_complain_29 n x C).1 4 12 = nI (s + (R - k)) ∧ (L_C_complain_29 n x C).1 4 10 = (if C.1 4 9 = 0 then C.1 4 10 else C.1 4 10 + nI (R - k)) ∧ (∀ j, j ≠ 8 → j ≠ 10 → j ≠ 12 → (L_C_complain_29 n x C).1 4 j = C.1 4 j) ∧ (∀ i, i ≠ 4 → (L_C_complain_29 n x C).1 i = C.1 i) ∧ HD ((s + (R - k)) / 4 - s / 4) (C.1 4 8) ((L_C_complain_29 n x C).1 4 8)
  | 0, _, _, k, _, _, h1, h2, _, _, _ => absurd h2 (by omega)
  | n + 1, x, C, k, s, hx, h1, h2, hR, hs, sb => by
    subst hx
    simp only [L_C_complain_29]
    rw [hR]
    by_cases c : R ≤ k
    · rw [if_pos (nI_le c (by omega)), show R - k = 0 by omega]
      refine ⟨hs, ?_, fun _ _ _ _ => rfl, fun _ _ => rfl, (HD.rf _).eq (by omega)⟩
      split
      · rfl
      · exact (Int32.add_zero _).symm
    · rw [if_neg (nI_ge (by omega) (by omega)), nI_1]
      obtain ⟨a1, a2, a3, a4, a5⟩ := replay_eff r20 n (nI (k + 1)) (F_C_spendCycle C 0) (k + 1) (s + 1) rfl (by omega) (by omega) (by rw [Cspend_3]; exact hR) (by rw [spend_12, hs, nI_1]) (by omega)
      refine ⟨by rw [a1]; congr 1; omega, ?_, fun j h8 h10 h12 => by rw [a3 j h8 h10 h12, spend_f _ _ h8 h10 h12], fun i hi => by rw [a4 i hi, Cspend_o _ _ hi], ((spend_8 C 0 hs (by omega)).tr a5).eq (by omega)⟩
      rw [a2, spend_f C 0 (by decide) (by decide) (by decide), spend_10]
      by_cases c9 : C.1 4 9 = 0
      · rw [if_pos c9, if_pos c9, if_pos c9]
      · rw [if_neg c9, if_neg c9, if_neg c9, Int32.add_assoc, show (1 : Int32) + nI (R - (k + 1)) = nI (1 + (R - (k + 1))) from nI_add 1 _, show 1 + (R - (k + 1)) = R - k by omega]
/-- the set of the cycle, and how it is judged -/
def uOf (C : CS) : Int32 := C.1 2 ((C.1 4 5).toNatClampNeg)
def jC (C : CS) : Int32 := F_C_judge C (F_C_delayOf (F_C_longestOf C (uOf C)) (C.1 4 7) (C.1 4 8))
def cyN (C : CS) (R : Nat) : Nat := if jC C = 1 then 1 + R else 1
def coN (C : CS) : Nat := if jC C = 1 then 1 else 0
/-- what runOneCycle changes -/
theorem one_eff {C : CS} {s R : Nat} (hs : C.1 4 12 = nI s) (sb : s + 30 < 2 ^ 30) (hR : C.1 3 2 = nI R) (r20 : R ≤ 20) :
    (F_C_runOneCycle C).1 4 12 = nI (s + cyN C R) ∧
    (F_C_runOneCycle C).1 4 10 = (if C.1 4 9 = 0 then C.1 4 10 else C.1 4 10 + nI (cyN C R)) ∧
    (F_C_runOneCycle C).1 4 11 = (if C.1 4 9 = 0 then C.1 4 11 else C.1 4 11 + nI (coN C)) ∧
    (F_C_runOneCycle C).1 4 13 = C.1 4 13 + (if jC C = (2 : Int32) then (0 : Int32) else (1 : Int32)) ∧
    (F_C_runOneCycle C).1 4 14 = C.1 4 14 + nI (coN C) ∧
    (F_C_runOneCycle C).1 4 15 = C.1 4 15 + (if jC C = (2 : Int32) then (1 : Int32) else (0 : Int32)) ∧
    (F_C_runOneCycle C).1 4 5 = (if (C.1 4 4) ≤ ((C.1 4 5) + (1 : Int32)) then (0 : Int32) else ((C.1 4 5) + (1 : Int32))) ∧
    (∀ j, j ∈ [2, 4, 7, 9, 17, 18] → (F_C_runOneCycle C).1 4 j = C.1 4 j) ∧
    (∀ i, i ≠ 4 → i ≠ 1 → (F_C_runOneCycle C).1 i = C.1 i) ∧
    (∀ P k : Nat, P ≤ 8 → C.1 4 2 = nI P → k < P → (F_C_runOneCycle C).1 1 k = C.1 1 k + ((uOf C >>> (nI k &&& 31)) &&& (1 : Int32))) ∧
    HD ((s + cyN C R) / 4 - s / 4) (C.1 4 8) ((F_C_runOneCycle C).1 4 8) := by
  obtain ⟨X, hX⟩ : ∃ X, X = F_C_runOneCycle C := ⟨_, rfl⟩
  rw [← hX]
  unfold F_C_runOneCycle at hX
  dsimp only at hX
  generalize hpl : (if (C.1 4 4) ≤ ((C.1 4 5) + (1 : Int32)) then (0 : Int32) else ((C.1 4 5) + (1 : Int32))) = pl at hX
  have hu : C.1 2 ((C.1 4 5).toNatClampNeg) = uOf C := rfl
  have ej : F_C_judge (sC C 4 5 pl) (F_C_delayOf (F_C_longestOf (sC C 4 5 pl) (uOf C)) ((sC C 4 5 pl).1 4 7) ((sC C 4 5 pl).1 4 8)) = jC C := by
    rw [judge_congr (sC_o C 4 5 _ (by decide)), longest_congr (sC_o C 4 5 _ (by decide)) (sC_ne C 4 5 _ (by decide)), sC_ne C 4 5 _ (by decide), sC_ne C 4 5 _ (by decide)]
    rfl
  rw [hu, ej] at hX
  -- the set is used, one cycle spent
  have f4 : ∀ j, j ≠ 5 → (F_C_countUses (sC C 4 5 pl) (uOf C)).1 4 j = C.1 4 j := fun j hj => by rw [Cuses_o _ _ (by decide), sC_ne _ _ _ _ hj]
  have f5 : (F_C_countUses (sC C 4 5 pl) (uOf C)).1 4 5 = pl := by rw [Cuses_o _ _ (by decide), sC_e]
  have fo : ∀ i, i ≠ 4 → i ≠ 1 → (F_C_countUses (sC C 4 5 pl) (uOf C)).1 i = C.1 i := fun i h4 h1 => by rw [Cuses_o _ _ h1, sC_o _ _ _ _ h4]
  have fu : ∀ P k : Nat, P ≤ 8 → C.1 4 2 = nI P → k < P → (F_C_countUses (sC C 4 5 pl) (uOf C)).1 1 k = C.1 1 k + ((uOf C >>> (nI k &&& 31)) &&& (1 : Int32)) := fun P k p8 hP hk => by
    rw [uses_spec (C := sC C 4 5 pl) (uOf C) p8 (by rw [sC_ne _ _ _ _ (by decide)]; exact hP), if_pos ⟨rfl, hk⟩, sC_o _ _ _ _ (by decide)]
  generalize F_C_countUses (sC C 4 5 pl) (uOf C) = D at hX f4 f5 fo fu
  have e12 : (F_C_spendCycle D (F_J_bitCount (uOf C))).1 4 12 = nI (s + 1) := by rw [spend_12, f4 12 (by decide), hs, nI_1]
  have e10 : (F_C_spendCycle D (F_J_bitCount (uOf C))).1 4 10 = if C.1 4 9 = 0 then C.1 4 10 else C.1 4 10 + (1 : Int32) := by rw [spend_10, f4 9 (by decide), f4 10 (by decide)]
  have e8 : HD ((s + 1) / 4 - s / 4) (C.1 4 8) ((F_C_spendCycle D (F_J_bitCount (uOf C))).1 4 8) := by
    rw [← f4 8 (by decide)]
    exact spend_8 D _ (by rw [f4 12 (by decide)]; exact hs) (by omega)
  have e4 : ∀ j, j ≠ 5 → j ≠ 8 → j ≠ 10 → j ≠ 12 → (F_C_spendCycle D (F_J_bitCount (uOf C))).1 4 j = C.1 4 j := fun j h5 h8 h10 h12 => by rw [spend_f _ _ h8 h10 h12, f4 j h5]
  have e5 : (F_C_spendCycle D (F_J_bitCount (uOf C))).1 4 5 = pl := by rw [spend_f _ _ (by decide) (by decide) (by decide), f5]
  have eo : ∀ i, i ≠ 4 → i ≠ 1 → (F_C_spendCycle D (F_J_bitCount (uOf C))).1 i = C.1 i := fun i h4 h1 => by rw [Cspend_o _ _ h4, fo i h4 h1]
  have eu : ∀ P k : Nat, P ≤ 8 → C.1 4 2 = nI P → k < P → (F_C_spendCycle D (F_J_bitCount (uOf C))).1 1 k = C.1 1 k + ((uOf C >>> (nI k &&& 31)) &&& (1 : Int32)) := fun P k p8 hP hk => by rw [Cspend_o _ _ (by decide), fu P k p8 hP hk]
  generalize F_C_spendCycle D (F_J_bitCount (uOf C)) = E at hX e12 e10 e8 e4 e5 eo eu
  clear f4 f5 fo fu
  have hlist : ∀ j, j ∈ [2, 4, 7, 9, 17, 18] → j ≠ 5 ∧ j ≠ 8 ∧ j ≠ 10 ∧ j ≠ 11 ∧ j ≠ 12 ∧ j ≠ 13 ∧ j ≠ 14 ∧ j ≠ 15 := by decide
  by_cases c2 : jC C = 2
  · have n1 : ¬ jC C = 1 := by rw [c2]; decide
    have hc : cyN C R = 1 := if_neg n1
    have hk : coN C = 0 := if_neg n1
    rw [if_pos c2] at hX
    rw [hX, hc, hk]
    refine ⟨?_, ?_, ?_, ?_, ?_, ?_, ?_, fun j hj => ?_, fun i h4 h1 => ?_, fun P k p8 hP hk => ?_, ?_⟩
    · rw [sC_ne _ _ _ _ (by decide)]; exact e12
    · rw [sC_ne _ _ _ _ (by decide)]; exact e10
    · rw [sC_ne _ _ _ _ (by decide), e4 11 (by decide) (by decide) (by decide) (by decide)]
      split
      · rfl
      · exact (Int32.add_zero _).symm
    · rw [sC_ne _ _ _ _ (by decide), e4 13 (by decide) (by decide) (by decide) (by decide), if_pos c2]; exact (Int32.add_zero _).symm
    · rw [sC_ne _ _ _ _ (by decide), e4 14 (by decide) (by decide) (by decide) (by decide)]; exact (Int32.add_zero _).symm
    · rw [sC_e, e4 15 (by decide) (by decide) (by decide) (by decide), if_pos c2]
    · rw [sC_ne _ _ _ _ (by decide)]; exact e5
    · obtain ⟨q5, q8, q10, q11, q12, q13, q14, q15⟩ := hlist j hj
      rw [sC_ne _ _ _ _ q15]; exact e4 j q5 q8 q10 q12
    · rw [sC_o _ _ _ _ h4]; exact eo i h4 h1
    · rw [sC_o _ _ _ _ (by decide)]; exact eu P k p8 hP hk
    · rw [sC_ne _ _ _ _ (by decide)]; exact e8
  · rw [if_neg c2] at hX
    by_cases c1 : jC C = 1
    · have hc : cyN C R = 1 + R := if_pos c1
      have hk : coN C = 1 := if_pos c1
      simp only [if_pos c1] at hX
      unfold F_C_complain at hX
      dsimp only at hX
      rw [sC_ne E 4 14 _ (show 9 ≠ 14 by decide), sC_ne E 4 14 _ (show 11 ≠ 14 by decide), e4 9 (by decide) (by decide) (by decide) (by decide), e4 11 (by decide) (by decide) (by decide) (by decide), e4 14 (by decide) (by decide) (by decide) (by decide)] at hX
      have g4 : ∀ j, j ≠ 11 → j ≠ 14 → (if C.1 4 9 = (0 : Int32) then sC E 4 14 ((C.1 4 14) + (1 : Int32)) else sC (sC E 4 14 ((C.1 4 14) + (1 : Int32))) 4 11 ((C.1 4 11) + (1 : Int32))).1 4 j = E.1 4 j := fun j h11 h14 => by
        split
        · rw [sC_ne _ _ _ _ h14]
        · rw [sC_ne _ _ _ _ h11, sC_ne _ _ _ _ h14]
      have g14 : (if C.1 4 9 = (0 : Int32) then sC E 4 14 ((C.1 4 14) + (1 : Int32)) else sC (sC E 4 14 ((C.1 4 14) + (1 : Int32))) 4 11 ((C.1 4 11) + (1 : Int32))).1 4 14 = C.1 4 14 + (1 : Int32) := by
        split
        · rw [sC_e]
        · rw [sC_ne _ _ _ _ (by decide), sC_e]
      have g11 : (if C.1 4 9 = (0 : Int32) then sC E 4 14 ((C.1 4 14) + (1 : Int32)) else sC (sC E 4 14 ((C.1 4 14) + (1 : Int32))) 4 11 ((C.1 4 11) + (1 : Int32))).1 4 11 = if C.1 4 9 = 0 then C.1 4 11 else C.1 4 11 + (1 : Int32) := by
        by_cases c9 : C.1 4 9 = 0
        · rw [if_pos c9, if_pos c9, sC_ne _ _ _ _ (by decide)]; exact e4 11 (by decide) (by decide) (by decide) (by decide)
        · rw [if_neg c9, if_neg c9, sC_e]
      have go : ∀ i, i ≠ 4 → (if C.1 4 9 = (0 : Int32) then sC E 4 14 ((C.1 4 14) + (1 : Int32)) else sC (sC E 4 14 ((C.1 4 14) + (1 : Int32))) 4 11 ((C.1 4 11) + (1 : Int32))).1 i = E.1 i := fun i hi => by
        split
        · rw [sC_o _ _ _ _ hi]
        · rw [sC_o _ _ _ _ hi, sC_o _ _ _ _ hi]
      generalize (if C.1 4 9 = (0 : Int32) then sC E 4 14 ((C.1 4 14) + (1 : Int32)) else sC (sC E 4 14 ((C.1 4 14) + (1 : Int32))) 4 11 ((C.1 4 11) + (1 : Int32))) = G at hX g4 g14 g11 go
      obtain ⟨a1, a2, a3, a4, a5⟩ := replay_eff r20 21 0 G 0 (s + 1) nI_0.symm (by omega) (by omega) (by rw [go 3 (by decide), eo 3 (by decide) (by decide)]; exact hR) (by rw [g4 12 (by decide) (by decide)]; exact e12) (by omega)
      generalize L_C_complain_29 21 0 G = K at hX a1 a2 a3 a4 a5
      rw [hX, hc, hk]
      refine ⟨?_, ?_, ?_, ?_, ?_, ?_, ?_, fun j hj => ?_, fun i h4 h1 => ?_, fun P k p8 hP hk => ?_, ?_⟩
      · rw [sC_ne _ _ _ _ (by decide), a1]; congr 1; omega
      · rw [sC_ne _ _ _ _ (by decide), a2, g4 9 (by decide) (by decide), g4 10 (by decide) (by decide), e4 9 (by decide) (by decide) (by decide) (by decide), e10]
        by_cases c9 : C.1 4 9 = 0
        · rw [if_pos c9, if_pos c9, if_pos c9]
        · rw [if_neg c9, if_neg c9, if_neg c9, Int32.add_assoc, show (1 : Int32) + nI (R - 0) = nI (1 + (R - 0)) from nI_add 1 _, Nat.sub_zero]
      · rw [sC_ne _ _ _ _ (by decide), a3 11 (by decide) (by decide) (by decide), g11]; rfl
      · rw [sC_e, a3 13 (by decide) (by decide) (by decide), g4 13 (by decide) (by decide), e4 13 (by decide) (by decide) (by decide) (by decide), if_neg c2]
      · rw [sC_ne _ _ _ _ (by decide), a3 14 (by decide) (by decide) (by decide), g14]; rfl
      · rw [sC_ne _ _ _ _ (by decide), a3 15 (by decide) (by decide) (by decide), g4 15 (by decide) (by decide), e4 15 (by decide) (by decide) (by decide) (by decide), if_neg c2]; exact (Int32.add_zero _).symm
      · rw [sC_ne _ _ _ _ (by decide), a3 5 (by decide) (by decide) (by decide), g4 5 (by decide) (by decide)]; exact e5
      · obtain ⟨q5, q8, q10, q11, q12, q13, q14, q15⟩ := hlist j hj
        rw [sC_ne _ _ _ _ q13, a3 j q8 q10 q12, g4 j q11 q14]; exact e4 j q5 q8 q10 q12
      · rw [sC_o _ _ _ _ h4, a4 i h4, go i h4]; exact eo i h4 h1
      · rw [sC_o _ _ _ _ (by decide), a4 1 (by decide), go 1 (by decide)]; exact eu P k p8 hP hk
      · rw [sC_ne _ _ _ _ (by decide)]
        rw [g4 8 (by decide) (by decide)] at a5
        exact (e8.tr a5).eq (by omega)
    · have hc : cyN C R = 1 := if_neg c1
      have hk : coN C = 0 := if_neg c1
      simp only [if_neg c1] at hX
      rw [hX, hc, hk]
      refine ⟨?_, ?_, ?_, ?_, ?_, ?_, ?_, fun j hj => ?_, fun i h4 h1 => ?_, fun P k p8 hP hk => ?_, ?_⟩
      · rw [sC_ne _ _ _ _ (by decide)]; exact e12
      · rw [sC_ne _ _ _ _ (by decide)]; exact e10
      · rw [sC_ne _ _ _ _ (by decide), e4 11 (by decide) (by decide) (by decide) (by decide)]
        split
        · rfl
        · exact (Int32.add_zero _).symm
      · rw [sC_e, e4 13 (by decide) (by decide) (by decide) (by decide), if_neg c2]
      · rw [sC_ne _ _ _ _ (by decide), e4 14 (by decide) (by decide) (by decide) (by decide)]; exact (Int32.add_zero _).symm
      · rw [sC_ne _ _ _ _ (by decide), e4 15 (by decide) (by decide) (by decide) (by decide), if_neg c2]; exact (Int32.add_zero _).symm
      · rw [sC_ne _ _ _ _ (by decide)]; exact e5
      · obtain ⟨q5, q8, q10, q11, q12, q13, q14, q15⟩ := hlist j hj
        rw [sC_ne _ _ _ _ q13]; exact e4 j q5 q8 q10 q12
      · rw [sC_o _ _ _ _ h4]; exact eo i h4 h1
      · rw [sC_o _ _ _ _ (by decide)]; exact eu P k p8 hP hk
      · rw [sC_ne _ _ _ _ (by decide)]; exact e8
