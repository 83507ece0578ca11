/-! the governor's look, as the law tells it -/
theorem min_nI {a b : Nat} (ha : a < 2 ^ 31) (hb : b < 2 ^ 31) : F_J_min (nI a) (nI b) = nI (min a b) := by
  unfold F_J_min
  dsimp only
  by_cases c : b < a
  · rw [if_pos (nI_lt c ha), Nat.min_eq_right (by omega)]
  · rw [if_neg (nI_nlt (by omega) hb), Nat.min_eq_left (by omega)]
def vvN (v b A T U : Nat) : Nat := if b < A then max 500 (v - T) else min 1200 (v + min (b - A) U * T)
def stN (b A U : Nat) : Nat := if b < A then 1 else min (b - A) U
theorem mT {m T : Nat} (h : m ≤ 10) (hT : T ≤ 50) : m * T ≤ 500 := Nat.le_trans (Nat.mul_le_mul h hT) (by decide)
theorem look_eff {C : CS} {v b A T U : Nat} (hv : C.1 4 7 = nI v) (v1 : 500 ≤ v) (v2 : v ≤ 1200) (hb : C.1 4 11 = nI b) (bb : b < 2 ^ 30) (hA : C.1 3 4 = nI A) (A1 : A ≤ 100) (hT : C.1 3 5 = nI T) (T1 : T ≤ 50) (hU : C.1 3 6 = nI U) (U1 : U ≤ 10) :
    (F_C_lookAtWindow C).1 4 10 = 0 ∧ (F_C_lookAtWindow C).1 4 11 = 0 ∧ (∀ j, j ∈ [2, 4, 5, 8, 9, 12, 13, 14, 15] → (F_C_lookAtWindow C).1 4 j = C.1 4 j) ∧ (∀ i, i ≠ 4 → (F_C_lookAtWindow C).1 i = C.1 i) ∧ (F_C_lookAtWindow C).1 4 7 = nI (vvN v b A T U) ∧ (F_C_lookAtWindow C).1 4 17 + (F_C_lookAtWindow C).1 4 18 = C.1 4 17 + C.1 4 18 + nI (stN b A U) := by
  have hlist : ∀ j, j ∈ [2, 4, 5, 8, 9, 12, 13, 14, 15] → j ≠ 7 ∧ j ≠ 10 ∧ j ≠ 11 ∧ j ≠ 17 ∧ j ≠ 18 := by decide
  unfold F_C_lookAtWindow F_C_beginWindow
  dsimp only
  rw [hb, hA, hT, hU, hv]
  by_cases c : b < A
  · have hneg : ¬ (0 : Int32) ≤ nI b - nI A := Int32.not_le.mpr (pk_sneg (by omega) c)
    simp only [if_neg hneg]
    have em : F_J_max 500 (nI v - nI T) = nI (vvN v b A T U) := by
      rw [pk_sub (by omega), show (500 : Int32) = nI 500 from rfl, max_nI (by omega) (by omega)]
      unfold vvN; rw [if_pos c]
    rw [em]
    have es : stN b A U = 1 := if_pos c
    rw [es]
    refine ⟨?_, ?_, fun j hj => ?_, fun i hi => ?_, ?_, ?_⟩
    · rw [sC_ne _ _ _ _ (by decide), sC_e]
    · rw [sC_e]
    · obtain ⟨q1, q2, q3, q4, q5⟩ := hlist j hj
      rw [sC_ne _ _ _ _ q3, sC_ne _ _ _ _ q2, sC_ne _ _ _ _ q5, sC_ne _ _ _ _ q1]
    · rw [sC_o _ _ _ _ hi, sC_o _ _ _ _ hi, sC_o _ _ _ _ hi, sC_o _ _ _ _ hi]
    · rw [sC_ne _ _ _ _ (by decide), sC_ne _ _ _ _ (by decide), sC_ne _ _ _ _ (by decide), sC_e]
    · rw [sC_ne _ _ _ _ (show 17 ≠ 11 by decide), sC_ne _ _ _ _ (show 17 ≠ 10 by decide), sC_ne _ _ _ _ (show 17 ≠ 18 by decide), sC_ne _ _ _ _ (show 17 ≠ 7 by decide), sC_ne _ _ _ _ (show 18 ≠ 11 by decide), sC_ne _ _ _ _ (show 18 ≠ 10 by decide), sC_e, sC_ne _ _ _ _ (show 18 ≠ 7 by decide), ← Int32.add_assoc]
      rfl
  · have hm : nI b - nI A = nI (b - A) := pk_sub (by omega)
    rw [hm]
    simp only [if_pos (nI_pos' (n := b - A) (by omega))]
    have hmin : min (b - A) U ≤ 10 := Nat.le_trans (Nat.min_le_right _ _) U1
    have hmT := mT hmin T1
    rw [min_nI (by omega) (by omega), pk_mul, nI_add, show (1200 : Int32) = nI 1200 from rfl, min_nI (by omega) (by omega)]
    have em : min 1200 (v + min (b - A) U * T) = vvN v b A T U := by unfold vvN; rw [if_neg c]
    have es : min (b - A) U = stN b A U := by unfold stN; rw [if_neg c]
    rw [em, es]
    refine ⟨?_, ?_, fun j hj => ?_, fun i hi => ?_, ?_, ?_⟩
    · rw [sC_ne _ _ _ _ (by decide), sC_e]
    · rw [sC_e]
    · obtain ⟨q1, q2, q3, q4, q5⟩ := hlist j hj
      rw [sC_ne _ _ _ _ q3, sC_ne _ _ _ _ q2, sC_ne _ _ _ _ q4, sC_ne _ _ _ _ q1]
    · rw [sC_o _ _ _ _ hi, sC_o _ _ _ _ hi, sC_o _ _ _ _ hi, sC_o _ _ _ _ hi]
    · rw [sC_ne _ _ _ _ (by decide), sC_ne _ _ _ _ (by decide), sC_ne _ _ _ _ (by decide), sC_e]
    · rw [sC_ne _ _ _ _ (show 17 ≠ 11 by decide), sC_ne _ _ _ _ (show 17 ≠ 10 by decide), sC_e, sC_ne _ _ _ _ (show 17 ≠ 7 by decide), sC_ne _ _ _ _ (show 18 ≠ 11 by decide), sC_ne _ _ _ _ (show 18 ≠ 10 by decide), sC_ne _ _ _ _ (show 18 ≠ 17 by decide), sC_ne _ _ _ _ (show 18 ≠ 7 by decide)]
      generalize C.1 4 17 = x
      generalize C.1 4 18 = y
      generalize nI (stN b A U) = z
      rw [Int32.add_assoc, Int32.add_comm z y, ← Int32.add_assoc]
/-- the law's own next voltage and steps -/
def lRise (c a m : Int32) : Int32 := if (c - a) ≤ m then (c - a) else m
def lNext (v c a m t : Int32) : Int32 := if a ≤ c then (v + ((if (lRise c a m) ≤ (0 : Int32) then (0 : Int32) else (lRise c a m)) * t)) else (v - t)
def lClamp (x : Int32) : Int32 := if (500 : Int32) ≤ x then (if x ≤ (1200 : Int32) then x else (1200 : Int32)) else (500 : Int32)
def lSteps (c a m : Int32) : Int32 := if a ≤ c then (if (lRise c a m) ≤ (0 : Int32) then (0 : Int32) else (lRise c a m)) else (1 : Int32)
theorem lRise_nI {b A U : Nat} (h : A ≤ b) (bb : b < 2 ^ 30) (U1 : U ≤ 10) : lRise (nI b) (nI A) (nI U) = nI (min (b - A) U) := by
  unfold lRise
  rw [pk_sub h]
  by_cases c : b - A ≤ U
  · rw [if_pos (nI_le c (by omega)), Nat.min_eq_left c]
  · rw [if_neg (nI_ge (by omega) (by omega)), Nat.min_eq_right (by omega)]
theorem lRise_0 {m : Nat} (h : m < 2 ^ 31) : (if nI m ≤ (0 : Int32) then (0 : Int32) else nI m) = nI m := by
  by_cases c : m = 0
  · subst c; rfl
  · rw [if_neg (nI_nle (by omega) h)]
theorem lClamp_nI {x : Nat} (h : x < 2 ^ 31) : lClamp (nI x) = nI (max 500 (min 1200 x)) := by
  unfold lClamp
  by_cases c1 : 500 ≤ x
  · rw [if_pos (show (500 : Int32) ≤ nI x from nI_le (a := 500) c1 h)]
    by_cases c2 : x ≤ 1200
    · rw [if_pos (show nI x ≤ (1200 : Int32) from nI_le (b := 1200) c2 (by omega))]; congr 1; omega
    · rw [if_neg (show ¬ nI x ≤ (1200 : Int32) from nI_ge (a := 1200) (by omega) h), show max 500 (min 1200 x) = 1200 by omega]; rfl
  · rw [if_neg (show ¬ (500 : Int32) ≤ nI x from nI_ge (b := 500) (by omega) (by omega)), show max 500 (min 1200 x) = 500 by omega]; rfl
theorem lNext_nI {v b A T U : Nat} (v1 : 500 ≤ v) (v2 : v ≤ 1200) (bb : b < 2 ^ 30) (A1 : A ≤ 100) (T1 : T ≤ 50) (U1 : U ≤ 10) : lClamp (lNext (nI v) (nI b) (nI A) (nI U) (nI T)) = nI (vvN v b A T U) := by
  unfold lNext vvN
  by_cases c : b < A
  · rw [if_neg (nI_ge c (by omega)), if_pos c, pk_sub (by omega), lClamp_nI (by omega)]; congr 1; omega
  · have hmin : min (b - A) U ≤ 10 := Nat.le_trans (Nat.min_le_right _ _) U1
    have hmT := mT hmin T1
    rw [if_pos (nI_le (by omega) (by omega)), if_neg c, lRise_nI (by omega) bb U1, lRise_0 (by omega), pk_mul, nI_add, lClamp_nI (by omega)]; congr 1; omega
theorem lSteps_nI {b A U : Nat} (bb : b < 2 ^ 30) (A1 : A ≤ 100) (U1 : U ≤ 10) : lSteps (nI b) (nI A) (nI U) = nI (stN b A U) := by
  unfold lSteps stN
  by_cases c : b < A
  · rw [if_neg (nI_ge c (by omega)), if_pos c]; rfl
  · have hmin : min (b - A) U ≤ 10 := Nat.le_trans (Nat.min_le_right _ _) U1
    rw [if_pos (nI_le (by omega) (by omega)), if_neg c, lRise_nI (by omega) bb U1, lRise_0 (by omega)]
/-! the numbers of a circuit -/
def NUM (B : Nat) (C : CS) : Prop := ∃ s w c l a b : Nat, C.1 4 12 = nI s ∧ C.1 4 13 = nI w ∧ C.1 4 14 = nI c ∧ C.1 4 15 = nI l ∧ C.1 4 10 = nI a ∧ C.1 4 11 = nI b ∧ s ≤ B ∧ w + l ≤ s ∧ c ≤ w ∧ a ≤ s ∧ b ≤ c ∧ (C.1 4 9 = 0 → a = 0 ∧ b = 0)
theorem NUM.up {B B' : Nat} {C : CS} (h : NUM B C) (hb : B ≤ B') : NUM B' C := by
  obtain ⟨s, w, c, l, a, b, h1, h2, h3, h4, h5, h6, h7, h8⟩ := h
  exact ⟨s, w, c, l, a, b, h1, h2, h3, h4, h5, h6, by omega, h8⟩
theorem NUM.cg {B : Nat} {C D : CS} (h : NUM B C) (e : ∀ j, j ∈ [9, 10, 11, 12, 13, 14, 15] → D.1 4 j = C.1 4 j) : NUM B D := by
  unfold NUM
  rw [e 9 (by decide), e 10 (by decide), e 11 (by decide), e 12 (by decide), e 13 (by decide), e 14 (by decide), e 15 (by decide)]
  exact h
theorem OKC.sett {C : CS} (h : OKC C) : ∃ s0 s1 R W A T U : Nat, C.1 3 0 = nI s0 ∧ C.1 3 1 = nI s1 ∧ C.1 3 2 = nI R ∧ C.1 3 3 = nI W ∧ C.1 3 4 = nI A ∧ C.1 3 5 = nI T ∧ C.1 3 6 = nI U ∧ 50 ≤ s0 ∧ s0 ≤ 1000 ∧ s1 ≤ 200 ∧ 1 ≤ R ∧ R ≤ 20 ∧ 10 ≤ W ∧ W ≤ 500 ∧ A ≤ 100 ∧ T ≤ 50 ∧ U ≤ 10 := by
  obtain ⟨a, h, hI, -⟩ := h
  obtain ⟨s0, a1, a2, a3⟩ := hI.s0
  obtain ⟨s1, b1, b2, b3⟩ := hI.s1
  obtain ⟨R, c1, c2, c3⟩ := hI.s2
  obtain ⟨W, d1, d2, d3⟩ := hI.s3
  obtain ⟨A, e1, e2, e3⟩ := hI.s4
  obtain ⟨T, f1, f2, f3⟩ := hI.s5
  obtain ⟨U, g1, g2, g3⟩ := hI.s6
  exact ⟨s0, s1, R, W, A, T, U, by rw [h.e 0 (by omega)]; exact a3, by rw [h.e 1 (by omega)]; exact b3, by rw [h.e 2 (by omega)]; exact c3, by rw [h.e 3 (by omega)]; exact d3, by rw [h.e 4 (by omega)]; exact e3, by rw [h.e 5 (by omega)]; exact f3, by rw [h.e 6 (by omega)]; exact g3, a1, a2, b2, c1, c2, d1, d2, e2, f2, g2⟩
theorem OKC.heat {C : CS} (h : OKC C) : bn 20 120 (C.1 4 8) := by
  obtain ⟨a, h, hI, -⟩ := h
  rw [h.f 8 40 (by decide)]; exact hI.h
theorem OKC.len {C : CS} (h : OKC C) : ∀ k, k < 8 → bn 0 400 (C.1 0 k) := fun k hk => by
  obtain ⟨a, h, hI, -⟩ := h
  rw [h.l k hk]; exact hI.l k hk
theorem cyN_le {C : CS} {R : Nat} (h : R ≤ 20) : 1 ≤ cyN C R ∧ cyN C R ≤ 21 := by
  unfold cyN
  split <;> omega
theorem coN_le (C : CS) : coN C ≤ 1 := by
  unfold coN
  split <;> omega
theorem cyN_I {C : CS} {R : Nat} (hR : C.1 3 2 = nI R) : nI (cyN C R) = (if jC C = (1 : Int32) then ((1 : Int32) + C.1 3 2) else (1 : Int32)) := by
  unfold cyN
  rw [hR]
  split
  · exact (nI_add 1 R).symm
  · rfl
theorem coN_I (C : CS) : nI (coN C) = (if jC C = (1 : Int32) then (1 : Int32) else (0 : Int32)) := by
  unfold coN
  split <;> rfl
theorem place_law {P N : Nat} (h1 : P < N) (h2 : N ≤ 16) : (if nI N ≤ nI P + (1 : Int32) then (0 : Int32) else nI P + (1 : Int32)) = (nI P + (1 : Int32)) - (nI P + (1 : Int32)) / nI N * nI N := place_eq h1 h2
theorem small_ofInt {z : Int} (h1 : -100 ≤ z) (h2 : z ≤ 100) : (Int32.ofInt z).toInt = z := Int32.toInt_ofInt_of_le (by omega) (by omega)
theorem HD.law {f : Nat} {x y : Int32} (h : HD f x y) (hf : f ≤ 50) : ¬ nI f < y - x ∧ ¬ nI f < -(y - x) := by
  obtain ⟨z, z1, z2, rfl⟩ := h
  have e : x + Int32.ofInt z - x = Int32.ofInt z := by grind
  rw [e, ← Int32.ofInt_neg]
  refine ⟨fun q => ?_, fun q => ?_⟩
  · have q := Int32.lt_iff_toInt_lt.mp q
    rw [nI_toInt (by omega), small_ofInt (by omega) (by omega)] at q
    omega
  · have q := Int32.lt_iff_toInt_lt.mp q
    rw [nI_toInt (by omega), small_ofInt (by omega) (by omega)] at q
    omega
/-- what a cycle with the governor's look changes, as the law asks it -/
def SL (C X : CS) : Prop :=
  X.1 4 14 - C.1 4 14 = (if jC C = (1 : Int32) then (1 : Int32) else (0 : Int32)) ∧
  X.1 4 12 = C.1 4 12 + (if jC C = (1 : Int32) then ((1 : Int32) + C.1 3 2) else (1 : Int32)) ∧
  X.1 4 13 = C.1 4 13 + (if jC C = (2 : Int32) then (0 : Int32) else (1 : Int32)) ∧
  X.1 4 15 = C.1 4 15 + (if jC C = (2 : Int32) then (1 : Int32) else (0 : Int32)) ∧
  X.1 4 5 = (C.1 4 5 + (1 : Int32)) - (C.1 4 5 + (1 : Int32)) / X.1 4 4 * X.1 4 4 ∧
  (¬ (((C.1 4 12 + (if jC C = (1 : Int32) then ((1 : Int32) + C.1 3 2) else (1 : Int32))) / (4 : Int32)) - (C.1 4 12 / (4 : Int32))) < X.1 4 8 - C.1 4 8 ∧ ¬ (((C.1 4 12 + (if jC C = (1 : Int32) then ((1 : Int32) + C.1 3 2) else (1 : Int32))) / (4 : Int32)) - (C.1 4 12 / (4 : Int32))) < -(X.1 4 8 - C.1 4 8)) ∧
  (∀ P k : Nat, P ≤ 8 → C.1 4 2 = nI P → k < P → X.1 1 k = C.1 1 k + ((uOf C >>> (nI k &&& 31)) &&& (1 : Int32))) ∧
  (X.1 4 2 = C.1 4 2 ∧ X.1 4 4 = C.1 4 4 ∧ X.1 4 9 = C.1 4 9 ∧ (∀ i, i ≠ 4 → i ≠ 1 → X.1 i = C.1 i)) ∧
  (C.1 4 9 = 0 → X.1 4 10 = 0 ∧ X.1 4 11 = 0 ∧ X.1 4 7 = C.1 4 7 ∧ X.1 4 17 + X.1 4 18 = C.1 4 17 + C.1 4 18) ∧
  (¬ C.1 4 9 = 0 → (C.1 4 10 + (if jC C = (1 : Int32) then ((1 : Int32) + C.1 3 2) else (1 : Int32))) < C.1 3 3 → X.1 4 10 = C.1 4 10 + (if jC C = (1 : Int32) then ((1 : Int32) + C.1 3 2) else (1 : Int32)) ∧ X.1 4 11 = C.1 4 11 + (if jC C = (1 : Int32) then (1 : Int32) else (0 : Int32)) ∧ X.1 4 7 = C.1 4 7) ∧
  (¬ C.1 4 9 = 0 → ¬ (C.1 4 10 + (if jC C = (1 : Int32) then ((1 : Int32) + C.1 3 2) else (1 : Int32))) < C.1 3 3 → X.1 4 10 = 0 ∧ X.1 4 11 = 0 ∧ X.1 4 7 = lClamp (lNext (C.1 4 7) (C.1 4 11 + (if jC C = (1 : Int32) then (1 : Int32) else (0 : Int32))) (C.1 3 4) (C.1 3 6) (C.1 3 5)) ∧ X.1 4 17 + X.1 4 18 = (C.1 4 17 + C.1 4 18) + lSteps (C.1 4 11 + (if jC C = (1 : Int32) then (1 : Int32) else (0 : Int32))) (C.1 3 4) (C.1 3 6))
/-- counts of a cycle: spent, complaints -/
def PR (n : Nat) (C X : CS) : Prop := ∃ s c s' c' : Nat, C.1 4 12 = nI s ∧ C.1 4 14 = nI c ∧ X.1 4 12 = nI s' ∧ X.1 4 14 = nI c' ∧ s + n ≤ s' ∧ s' ≤ s + 21 * n ∧ c ≤ c' ∧ c' ≤ c + n ∧ c ≤ s ∧ c' ≤ s' ∧ s' < 2 ^ 30
theorem step_eff {C : CS} {B : Nat} (hO : OKC C) (hN : NUM B C) (hB : B < 2 ^ 29) : SL C (stepC C) ∧ NUM (B + 21) (stepC C) ∧ PR 1 C (stepC C) := by
  obtain ⟨s, w, c, l, a, b, n12, n13, n14, n15, n10, n11, n1, n2, n3, n4, n5, n6⟩ := hN
  obtain ⟨s0, s1, R, W, A, T, U, q0, q1, q2, q3, q4, q5, q6, t0, t1, t2, t3, t4, t5, t6, t7, t8, t9⟩ := hO.sett
  obtain ⟨P, N, hPN, hN16, hK, hNN⟩ := hO.w
  obtain ⟨v, v1, v2, hv⟩ := hO.v
  obtain ⟨e12, e10, e11, e13, e14, e15, e5, ej, eo, eu, e8⟩ := one_eff n12 (by omega) q2 t4
  have hcy := cyN_le (C := C) t4
  have hco := coN_le C
  have hci := cyN_I q2
  have hck := coN_I C
  obtain ⟨X, hX⟩ : ∃ X, X = F_C_runOneCycle C := ⟨_, rfl⟩
  have hst : stepC C = if (X.1 4 9) = (0 : Int32) then X else (if (X.1 4 10) < (X.1 3 3) then X else F_C_lookAtWindow X) := by rw [hX]; rfl
  rw [← hX] at e12 e10 e11 e13 e14 e15 e5 ej eo eu e8
  have x2 := ej 2 (by decide)
  have x4 := ej 4 (by decide)
  have x7 := ej 7 (by decide)
  have x9 := ej 9 (by decide)
  have x17 := ej 17 (by decide)
  have x18 := ej 18 (by decide)
  have x3 : X.1 3 = C.1 3 := eo 3 (by decide) (by decide)
  have l5 : X.1 4 5 = (C.1 4 5 + (1 : Int32)) - (C.1 4 5 + (1 : Int32)) / X.1 4 4 * X.1 4 4 := by rw [e5, x4, hK, hNN]; exact place_law hPN hN16
  have l14 : X.1 4 14 - C.1 4 14 = (if jC C = (1 : Int32) then (1 : Int32) else (0 : Int32)) := by rw [e14, ← hck]; grind
  have l12 : X.1 4 12 = C.1 4 12 + (if jC C = (1 : Int32) then ((1 : Int32) + C.1 3 2) else (1 : Int32)) := by rw [e12, ← hci, n12, nI_add]
  have l8 : ¬ (((C.1 4 12 + (if jC C = (1 : Int32) then ((1 : Int32) + C.1 3 2) else (1 : Int32))) / (4 : Int32)) - (C.1 4 12 / (4 : Int32))) < X.1 4 8 - C.1 4 8 ∧ ¬ (((C.1 4 12 + (if jC C = (1 : Int32) then ((1 : Int32) + C.1 3 2) else (1 : Int32))) / (4 : Int32)) - (C.1 4 12 / (4 : Int32))) < -(X.1 4 8 - C.1 4 8) := by
    rw [← hci, n12, nI_add, show nI (s + cyN C R) / (4 : Int32) = nI ((s + cyN C R) / 4) from pk_div (d := 4) (by omega) (by omega) (by omega), show nI s / (4 : Int32) = nI (s / 4) from pk_div (d := 4) (by omega) (by omega) (by omega), pk_sub (by omega)]
    exact e8.law (by omega)
  have hw : X.1 4 13 = nI (w + (if jC C = (2 : Int32) then 0 else 1)) := by
    rw [e13, n13]
    split
    · exact nI_add w 0
    · exact nI_add w 1
  have hl : X.1 4 15 = nI (l + (if jC C = (2 : Int32) then 1 else 0)) := by
    rw [e15, n15]
    split
    · exact nI_add l 1
    · exact nI_add l 0
  have hwl : (if jC C = (2 : Int32) then 0 else 1) + (if jC C = (2 : Int32) then 1 else 0) = 1 ∧ coN C ≤ (if jC C = (2 : Int32) then 0 else 1) := by
    by_cases k : jC C = 2
    · rw [if_pos k, if_pos k]
      refine ⟨rfl, ?_⟩
      unfold coN
      rw [if_neg (by rw [k]; decide)]
      exact Nat.zero_le _
    · rw [if_neg k, if_neg k]
      exact ⟨rfl, hco⟩
  generalize (if jC C = (2 : Int32) then 0 else 1) = dw at hw hwl
  generalize (if jC C = (2 : Int32) then 1 else 0) = dl at hl hwl
  have h14 : X.1 4 14 = nI (c + coN C) := by rw [e14, n14, nI_add]
  by_cases c9 : C.1 4 9 = 0
  · obtain ⟨a0, b0⟩ := n6 c9
    subst a0 b0
    rw [if_pos c9] at e10 e11
    have hst2 : stepC C = X := by rw [hst, if_pos (x9.trans c9)]
    rw [hst2]
    refine ⟨⟨l14, l12, e13, e15, l5, l8, eu, ⟨x2, x4, x9, eo⟩, fun _ => ⟨e10.trans n10, e11.trans n11, x7, by rw [x17, x18]⟩, fun q => absurd c9 q, fun q => absurd c9 q⟩, ⟨s + cyN C R, w + dw, c + coN C, l + dl, 0, 0, e12, hw, h14, hl, e10.trans n10, e11.trans n11, by omega, by omega, by omega, by omega, by omega, fun _ => ⟨rfl, rfl⟩⟩, ⟨s, c, s + cyN C R, c + coN C, n12, n14, e12, h14, by omega, by omega, by omega, by omega, by omega, by omega, by omega⟩⟩
  · rw [if_neg c9] at e10 e11
    have y10 : X.1 4 10 = nI (a + cyN C R) := by rw [e10, n10, nI_add]
    have y11 : X.1 4 11 = nI (b + coN C) := by rw [e11, n11, nI_add]
    have y9 : ¬ X.1 4 9 = 0 := by rw [x9]; exact c9
    rw [if_neg y9] at hst
    rw [hci] at e10
    rw [hck] at e11
    by_cases cw : X.1 4 10 < X.1 3 3
    · have hst2 : stepC C = X := by rw [hst, if_pos cw]
      rw [hst2]
      refine ⟨⟨l14, l12, e13, e15, l5, l8, eu, ⟨x2, x4, x9, eo⟩, fun q => absurd q c9, fun _ _ => ⟨e10, e11, x7⟩, fun _ q => absurd (by rw [← e10, ← x3]; exact cw) q⟩, ⟨s + cyN C R, w + dw, c + coN C, l + dl, a + cyN C R, b + coN C, e12, hw, h14, hl, y10, y11, by omega, by omega, by omega, by omega, by omega, fun q => absurd q y9⟩, ⟨s, c, s + cyN C R, c + coN C, n12, n14, e12, h14, by omega, by omega, by omega, by omega, by omega, by omega, by omega⟩⟩
    · have hst2 : stepC C = F_C_lookAtWindow X := by rw [hst, if_neg cw]
      rw [hst2]
      obtain ⟨k10, k11, kj, ko, k7, k17⟩ := look_eff (C := X) (x7.trans hv) v1 v2 y11 (by omega) (by rw [x3]; exact q4) t7 (by rw [x3]; exact q5) t8 (by rw [x3]; exact q6) t9
      generalize F_C_lookAtWindow X = Y at k10 k11 kj ko k7 k17 ⊢
      have z2 := kj 2 (by decide)
      have z4 := kj 4 (by decide)
      have z5 := kj 5 (by decide)
      have z8 := kj 8 (by decide)
      have z9 := kj 9 (by decide)
      have z12 := kj 12 (by decide)
      have z13 := kj 13 (by decide)
      have z14 := kj 14 (by decide)
      have z15 := kj 15 (by decide)
      have hcc : C.1 4 11 + (if jC C = (1 : Int32) then (1 : Int32) else (0 : Int32)) = nI (b + coN C) := by rw [← hck, n11, nI_add]
      refine ⟨⟨by rw [z14]; exact l14, by rw [z12]; exact l12, by rw [z13]; exact e13, by rw [z15]; exact e15, by rw [z5, z4]; exact l5, by rw [z8]; exact l8, fun P k p8 hP hk => by rw [ko 1 (by decide)]; exact eu P k p8 hP hk, ⟨z2.trans x2, z4.trans x4, z9.trans x9, fun i h4 h1 => (ko i h4).trans (eo i h4 h1)⟩, fun q => absurd q c9, fun _ q => absurd (by rw [x3, e10]; exact q) cw, fun _ _ => ⟨k10, k11, ?_, ?_⟩⟩, ⟨s + cyN C R, w + dw, c + coN C, l + dl, 0, 0, z12.trans e12, z13.trans hw, z14.trans h14, z15.trans hl, k10, k11, by omega, by omega, by omega, by omega, by omega, fun _ => ⟨rfl, rfl⟩⟩, ⟨s, c, s + cyN C R, c + coN C, n12, n14, z12.trans e12, z14.trans h14, by omega, by omega, by omega, by omega, by omega, by omega, by omega⟩⟩
      · rw [k7, hcc, hv, q4, q5, q6, lNext_nI v1 v2 (by omega) t7 t8 t9]
      · rw [k17, hcc, q4, q6, lSteps_nI (by omega) t7 t9, x17, x18]
theorem PR.tr {n m : Nat} {C D X : CS} (h : PR n C D) (k : PR m D X) : PR (n + m) C X := by
  obtain ⟨s, c, s1, c1, a1, a2, a3, a4, a5, a6, a7, a8, a9, a10, a11⟩ := h
  obtain ⟨s', c', s2, c2, b1, b2, b3, b4, b5, b6, b7, b8, b9, b10, b11⟩ := k
  have e1 : s1 = s' := (nI_eq (by omega) (by omega)).mp (a3.symm.trans b1)
  have e2 : c1 = c' := (nI_eq (by omega) (by omega)).mp (a4.symm.trans b2)
  subst e1 e2
  exact ⟨s, c, s2, c2, a1, a2, b3, b4, by omega, by omega, by omega, by omega, by omega, by omega, by omega⟩
theorem runs_eff : ∀ (n : Nat) (C : CS) (B : Nat), OKC C → NUM B C → B + 21 * n < 2 ^ 29 → NUM (B + 21 * n) (stepN n C) ∧ PR n C (stepN n C)
  | 0, C, B, hO, hN, hB => by
    refine ⟨hN.up (by omega), ?_⟩
    obtain ⟨s, w, c, l, a, b, n12, n13, n14, n15, n10, n11, n1, n2, n3, n4, n5, n6⟩ := hN
    exact ⟨s, c, s, c, n12, n14, n12, n14, by omega, by omega, by omega, by omega, by omega, by omega, by omega⟩
  | n + 1, C, B, hO, hN, hB => by
    obtain ⟨-, h1, h2⟩ := step_eff hO hN (by omega)
    obtain ⟨h3, h4⟩ := runs_eff n (stepC C) (B + 21) (OKC_step hO) h1 (by omega)
    refine ⟨h3.up (by omega), ?_⟩
    have h5 := h2.tr h4
    rw [Nat.add_comm] at h5
    exact h5
