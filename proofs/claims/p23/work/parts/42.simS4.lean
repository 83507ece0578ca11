/-! a workload begins -/
theorem L18_spec : ∀ (n : Nat) (x : Int32) (M : ARR) (k : Nat), x = nI k → k ≤ 16 → 17 ≤ k + n → ∀ i j : Nat, L_M_begins_18 n x M i j = if i = 0 ∧ 16 + k ≤ j ∧ j < 32 then 0 else M i j
  | 0, x, M, k, hx, hk, hn, i, j => by exfalso; omega
  | n + 1, x, M, k, hx, hk, hn, i, j => by
    subst hx
    simp only [L_M_begins_18]
    by_cases h : 16 ≤ k
    · rw [if_pos (show (16 : Int32) ≤ nI k from nI_le (a := 16) h (by omega)), if_neg (by omega)]
    · rw [if_neg (show ¬ (16 : Int32) ≤ nI k from fun q => h ((nI_leI (a := 16) (by omega) (by omega)).mp q))]
      have e2 : ((16 : Int32) + nI k).toNatClampNeg = 16 + k := by rw [show (16 : Int32) + nI k = nI (16 + k) from nI_add 16 k, nI_clamp (by omega)]
      rw [L18_spec n _ _ (k + 1) (nI_1 k) (by omega) (by omega) i j, e2]
      by_cases q : i = 0
      · subst q
        by_cases q2 : 16 + (k + 1) ≤ j ∧ j < 32
        · rw [if_pos ⟨rfl, q2⟩, if_pos ⟨rfl, by omega, q2.2⟩]
        · rw [if_neg (fun z => q2 z.2)]
          by_cases q3 : j = 16 + k
          · subst q3
            rw [if_pos ⟨rfl, Nat.le_refl _, by omega⟩, sA_e]
          · rw [if_neg (by omega), sA_ne _ _ _ _ q3]
      · rw [if_neg (fun z => q z.1), if_neg (fun z => q z.1), sA_o _ _ _ _ q]
theorem begins_spec (M : ARR) {N : Nat} (hN : N ≤ 16) (j : Nat) : F_M_begins M (nI N) 0 j = if 16 + N ≤ j ∧ j < 32 then 0 else if j = 50 then 0 else if j = 49 then nI N else M 0 j := by
  have e : F_M_begins M (nI N) = L_M_begins_18 17 (nI N) (sA (sA M 0 49 (nI N)) 0 50 0) := rfl
  rw [e, L18_spec 17 (nI N) _ N rfl hN (by omega) 0 j]
  by_cases q : 16 + N ≤ j ∧ j < 32
  · rw [if_pos ⟨rfl, q⟩, if_pos q]
  · rw [if_neg (fun z => q z.2), if_neg q, sA_if, sA_if]
theorem begin_rel {B : Nat} {C : CS} {M : ARR} (h : CR B C (M 0)) {N : Nat} (n1 : 1 ≤ N) (n16 : N ≤ 16) (hs : ∀ k, k < N → C.1 2 k = M 0 (16 + k)) : CR B (F_C_beginWorkload C (nI N)) (F_M_begins M (nI N) 0) := by
  have e : F_C_beginWorkload C (nI N) = sC (sC C 4 4 (nI N)) 4 5 0 := rfl
  have b : ∀ j, ¬ (16 + N ≤ j ∧ j < 32) → j ≠ 50 → j ≠ 49 → F_M_begins M (nI N) 0 j = M 0 j := fun j q1 q2 q3 => by rw [begins_spec M n16, if_neg q1, if_neg q2, if_neg q3]
  have b49 : F_M_begins M (nI N) 0 49 = nI N := by rw [begins_spec M n16, if_neg (by omega), if_neg (by omega), if_pos rfl]
  have b50 : F_M_begins M (nI N) 0 50 = 0 := by rw [begins_spec M n16, if_neg (by omega), if_pos rfl]
  obtain ⟨h1, hI, h3⟩ := h
  rw [e]
  refine ⟨⟨fun k hk => ?_, fun k hk => ?_, fun k N' hN' h16 hk => ?_, fun k hk => ?_, fun k hk => ?_, ?_, fun i j q => ?_⟩, ⟨?_, ?_, ?_, ?_, ?_, ?_, ?_, ?_, ?_, ?_, ?_, ?_, fun k hk => ?_, fun k hk => ?_⟩, relE_c h3 rfl (b 46 (by omega) (by omega) (by omega)) (b 54 (by omega) (by omega) (by omega))⟩
  · rw [b _ (by omega) (by omega) (by omega), sC_o _ _ _ _ (by decide), sC_o _ _ _ _ (by decide)]; exact h1.l k hk
  · rw [b _ (by omega) (by omega) (by omega), sC_o _ _ _ _ (by decide), sC_o _ _ _ _ (by decide)]; exact h1.u k hk
  · rw [b49] at hN'
    have : N = N' := (nI_eq (by omega) (by omega)).mp hN'
    rw [b _ (by omega) (by omega) (by omega), sC_o _ _ _ _ (by decide), sC_o _ _ _ _ (by decide)]; exact hs k (by omega)
  · rw [sC_o _ _ _ _ (by decide), sC_o _ _ _ _ (by decide)]; exact h1.t k hk
  · rw [b _ (by omega) (by omega) (by omega), sC_o _ _ _ _ (by decide), sC_o _ _ _ _ (by decide)]; exact h1.e k hk
  · rw [b _ (by omega) (by omega) (by omega), sC_ne _ _ _ _ (by decide), sC_ne _ _ _ _ (by decide)]; exact h1.w
  · obtain ⟨r1, r2, r3, r4, r5⟩ := SF_r _ q
    have r1 : 39 ≤ j := r1
    by_cases q5 : i = 5
    · subst q5
      have ej : j = 50 := (SF_i _ q (5, 50) (by decide)).1 rfl
      subst ej
      rw [sC_e, b50]
    · by_cases q4 : i = 4
      · subst q4
        have ej : j = 49 := (SF_i _ q (4, 49) (by decide)).1 rfl
        subst ej
        rw [sC_ne _ _ _ _ (by decide), sC_e, b49]
      · have j50 : j ≠ 50 := fun z => q5 ((SF_i _ q (5, 50) (by decide)).2 z)
        have j49 : j ≠ 49 := fun z => q4 ((SF_i _ q (4, 49) (by decide)).2 z)
        rw [sC_ne _ _ _ _ q5, sC_ne _ _ _ _ q4, b j (by omega) j50 j49]
        exact h1.f i j q
  · rw [b _ (by omega) (by omega) (by omega)]; exact hI.p
  · exact ⟨0, N, by omega, n16, by rw [b50]; exact nI_0.symm, b49⟩
  · rw [b _ (by omega) (by omega) (by omega)]; exact hI.v
  · rw [b _ (by omega) (by omega) (by omega)]; exact hI.h
  · rw [b _ (by omega) (by omega) (by omega)]; exact hI.g
  · rw [b _ (by omega) (by omega) (by omega)]; exact hI.s0
  · rw [b _ (by omega) (by omega) (by omega)]; exact hI.s1
  · rw [b _ (by omega) (by omega) (by omega)]; exact hI.s2
  · rw [b _ (by omega) (by omega) (by omega)]; exact hI.s3
  · rw [b _ (by omega) (by omega) (by omega)]; exact hI.s4
  · rw [b _ (by omega) (by omega) (by omega)]; exact hI.s5
  · rw [b _ (by omega) (by omega) (by omega)]; exact hI.s6
  · rw [b _ (by omega) (by omega) (by omega)]; exact hI.l k hk
  · by_cases q : N ≤ k
    · rw [begins_spec M n16, if_pos ⟨by omega, by omega⟩]; exact ⟨0, by omega, by omega, nI_0.symm⟩
    · rw [b _ (by omega) (by omega) (by omega)]; exact hI.t k hk
/-! a set is written -/
theorem CR_wset {B : Nat} {C : CS} {M : ARR} (h : CR B C (M 0)) (k : Nat) (hk : k < 16) {v : Int32} (hv : bn 0 255 v) : CR B (sC C 2 k v) (sA M 0 (16 + k) v 0) :=
  ⟨rel_wset k hk hv h.1, IA_set h.2.1 _ v (IV_set hk hv), relE_a h.2.2 2 k (16 + k) v v (by omega) (by omega)⟩
