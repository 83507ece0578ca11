/-! two circuits alike: the second has two paths more, which no set uses -/
def FLW : List Nat := [4, 5, 7, 8, 9, 10, 11, 12, 13, 14, 15, 17, 18]
def TWC (C C' : CS) : Prop :=
  (C.1 4 2 = nI 3 ∧ C'.1 4 2 = nI 5) ∧ (∀ k, k < 3 → C'.1 0 k = C.1 0 k) ∧ (∀ k, k < 3 → C'.1 1 k = C.1 1 k) ∧ (C'.1 1 3 = 0 ∧ C'.1 1 4 = 0) ∧ (∀ k, k < 16 → C'.1 2 k = C.1 2 k) ∧ (∀ k, k < 16 → bn 0 7 (C.1 2 k)) ∧ (∀ k, k < 7 → C'.1 3 k = C.1 3 k) ∧ (∀ j, j ∈ FLW → C'.1 4 j = C.1 4 j) ∧ C'.2 = C.2
theorem TWC.p {C C' : CS} (h : TWC C C') : C.1 4 2 = nI 3 := h.1.1
theorem TWC.q {C C' : CS} (h : TWC C C') : C'.1 4 2 = nI 5 := h.1.2
theorem TWC.l {C C' : CS} (h : TWC C C') : ∀ k, k < 3 → C'.1 0 k = C.1 0 k := h.2.1
theorem TWC.u {C C' : CS} (h : TWC C C') : ∀ k, k < 3 → C'.1 1 k = C.1 1 k := h.2.2.1
theorem TWC.z {C C' : CS} (h : TWC C C') : C'.1 1 3 = 0 ∧ C'.1 1 4 = 0 := h.2.2.2.1
theorem TWC.s {C C' : CS} (h : TWC C C') : ∀ k, k < 16 → C'.1 2 k = C.1 2 k := h.2.2.2.2.1
theorem TWC.t {C C' : CS} (h : TWC C C') : ∀ k, k < 16 → bn 0 7 (C.1 2 k) := h.2.2.2.2.2.1
theorem TWC.e {C C' : CS} (h : TWC C C') : ∀ k, k < 7 → C'.1 3 k = C.1 3 k := h.2.2.2.2.2.2.1
theorem TWC.f {C C' : CS} (h : TWC C C') (j : Nat) (hj : j ∈ FLW) : C'.1 4 j = C.1 4 j := h.2.2.2.2.2.2.2.1 j hj
theorem TWC.n {C C' : CS} (h : TWC C C') : C'.2 = C.2 := h.2.2.2.2.2.2.2.2
theorem FLW_2 : ∀ j ∈ FLW, j ≠ 2 := by decide
theorem tw_put {C C' : CS} (h : TWC C C') (j : Nat) (hj : j ∈ FLW) {v v' : Int32} (hv : v' = v) : TWC (sC C 4 j v) (sC C' 4 j v') := by
  subst hv
  have h2 : 2 ≠ j := (FLW_2 j hj).symm
  refine ⟨⟨?_, ?_⟩, fun k hk => ?_, fun k hk => ?_, ⟨?_, ?_⟩, fun k hk => ?_, fun k hk => ?_, fun k hk => ?_, fun i hi => ?_, h.n⟩
  · rw [sC_ne _ _ _ _ h2]; exact h.p
  · rw [sC_ne _ _ _ _ h2]; exact h.q
  · rw [sC_o _ _ _ _ (by decide), sC_o _ _ _ _ (by decide)]; exact h.l k hk
  · rw [sC_o _ _ _ _ (by decide), sC_o _ _ _ _ (by decide)]; exact h.u k hk
  · rw [sC_o _ _ _ _ (by decide)]; exact h.z.1
  · rw [sC_o _ _ _ _ (by decide)]; exact h.z.2
  · rw [sC_o _ _ _ _ (by decide), sC_o _ _ _ _ (by decide)]; exact h.s k hk
  · rw [sC_o _ _ _ _ (by decide)]; exact h.t k hk
  · rw [sC_o _ _ _ _ (by decide), sC_o _ _ _ _ (by decide)]; exact h.e k hk
  · by_cases q : i = j
    · subst q; rw [sC_e, sC_e]
    · rw [sC_ne _ _ _ _ q, sC_ne _ _ _ _ q]; exact h.f i hi
theorem tw_E {C C' : CS} (h : TWC C C') {v v' : Int64} (hv : v' = v) : TWC (sE C v) (sE C' v') := ⟨h.1, h.2.1, h.2.2.1, h.2.2.2.1, h.2.2.2.2.1, h.2.2.2.2.2.1, h.2.2.2.2.2.2.1, h.2.2.2.2.2.2.2.1, hv⟩
theorem tw_len {C C' : CS} (h : TWC C C') (k : Nat) {v : Int32} : TWC (sC C 0 k v) (sC C' 0 k v) := by
  refine ⟨⟨?_, ?_⟩, fun i hi => ?_, fun k hk => ?_, ⟨?_, ?_⟩, fun k hk => ?_, fun k hk => ?_, fun k hk => ?_, fun i hi => ?_, h.n⟩
  · rw [sC_o _ _ _ _ (by decide)]; exact h.p
  · rw [sC_o _ _ _ _ (by decide)]; exact h.q
  · by_cases q : i = k
    · subst q; rw [sC_e, sC_e]
    · rw [sC_ne _ _ _ _ q, sC_ne _ _ _ _ q]; exact h.l i hi
  · rw [sC_o _ _ _ _ (by decide), sC_o _ _ _ _ (by decide)]; exact h.u k hk
  · rw [sC_o _ _ _ _ (by decide)]; exact h.z.1
  · rw [sC_o _ _ _ _ (by decide)]; exact h.z.2
  · rw [sC_o _ _ _ _ (by decide), sC_o _ _ _ _ (by decide)]; exact h.s k hk
  · rw [sC_o _ _ _ _ (by decide)]; exact h.t k hk
  · rw [sC_o _ _ _ _ (by decide), sC_o _ _ _ _ (by decide)]; exact h.e k hk
  · rw [sC_o _ _ _ _ (by decide), sC_o _ _ _ _ (by decide)]; exact h.f i hi
theorem tw_sett {C C' : CS} (h : TWC C C') (k : Nat) {v : Int32} : TWC (sC C 3 k v) (sC C' 3 k v) := by
  refine ⟨⟨?_, ?_⟩, fun k hk => ?_, fun k hk => ?_, ⟨?_, ?_⟩, fun k hk => ?_, fun k hk => ?_, fun i hi => ?_, fun i hi => ?_, h.n⟩
  · rw [sC_o _ _ _ _ (by decide)]; exact h.p
  · rw [sC_o _ _ _ _ (by decide)]; exact h.q
  · rw [sC_o _ _ _ _ (by decide), sC_o _ _ _ _ (by decide)]; exact h.l k hk
  · rw [sC_o _ _ _ _ (by decide), sC_o _ _ _ _ (by decide)]; exact h.u k hk
  · rw [sC_o _ _ _ _ (by decide)]; exact h.z.1
  · rw [sC_o _ _ _ _ (by decide)]; exact h.z.2
  · rw [sC_o _ _ _ _ (by decide), sC_o _ _ _ _ (by decide)]; exact h.s k hk
  · rw [sC_o _ _ _ _ (by decide)]; exact h.t k hk
  · by_cases q : i = k
    · subst q; rw [sC_e, sC_e]
    · rw [sC_ne _ _ _ _ q, sC_ne _ _ _ _ q]; exact h.e i hi
  · rw [sC_o _ _ _ _ (by decide), sC_o _ _ _ _ (by decide)]; exact h.f i hi
theorem tw_wset {C C' : CS} (h : TWC C C') (k : Nat) {v : Int32} (hv : bn 0 7 v) : TWC (sC C 2 k v) (sC C' 2 k v) := by
  refine ⟨⟨?_, ?_⟩, fun k hk => ?_, fun k hk => ?_, ⟨?_, ?_⟩, fun i hi => ?_, fun i hi => ?_, fun i hi => ?_, fun i hi => ?_, h.n⟩
  · rw [sC_o _ _ _ _ (by decide)]; exact h.p
  · rw [sC_o _ _ _ _ (by decide)]; exact h.q
  · rw [sC_o _ _ _ _ (by decide), sC_o _ _ _ _ (by decide)]; exact h.l k hk
  · rw [sC_o _ _ _ _ (by decide), sC_o _ _ _ _ (by decide)]; exact h.u k hk
  · rw [sC_o _ _ _ _ (by decide)]; exact h.z.1
  · rw [sC_o _ _ _ _ (by decide)]; exact h.z.2
  · by_cases q : i = k
    · subst q; rw [sC_e, sC_e]
    · rw [sC_ne _ _ _ _ q, sC_ne _ _ _ _ q]; exact h.s i hi
  · by_cases q : i = k
    · subst q; rw [sC_e]; exact hv
    · rw [sC_ne _ _ _ _ q]; exact h.t i hi
  · rw [sC_o _ _ _ _ (by decide), sC_o _ _ _ _ (by decide)]; exact h.e i hi
  · rw [sC_o _ _ _ _ (by decide), sC_o _ _ _ _ (by decide)]; exact h.f i hi
theorem tw_judge {C C' : CS} (h : TWC C C') (d : Int32) : F_C_judge C' d = F_C_judge C d := by
  unfold F_C_judge
  dsimp only
  rw [h.e 0 (by omega), h.e 1 (by omega)]
theorem tw_heat {C C' : CS} (h : TWC C C') (n : Int32) : TWC (F_C_changeHeat C n) (F_C_changeHeat C' n) := by
  unfold F_C_changeHeat
  dsimp only
  rw [h.f 8 (by decide)]
  by_cases c1 : n ≤ C.1 4 8
  · simp only [if_pos c1]
    by_cases c2 : C.1 4 8 ≤ n
    · simp only [if_pos c2]; exact h
    · simp only [if_neg c2]; exact tw_put h 8 (by decide) rfl
  · simp only [if_neg c1]; exact tw_put h 8 (by decide) rfl
theorem tw_spend {C C' : CS} (h : TWC C C') (n : Int32) : TWC (F_C_spendCycle C n) (F_C_spendCycle C' n) := by
  unfold F_C_spendCycle
  dsimp only
  have h1 : TWC (sC C 4 12 ((C.1 4 12) + (1 : Int32))) (sC C' 4 12 ((C'.1 4 12) + (1 : Int32))) := tw_put h 12 (by decide) (by rw [h.f 12 (by decide)])
  generalize sC C 4 12 ((C.1 4 12) + (1 : Int32)) = D at h1 ⊢
  generalize sC C' 4 12 ((C'.1 4 12) + (1 : Int32)) = D' at h1 ⊢
  have h2 : TWC (if (D.1 4 9) = (0 : Int32) then D else sC D 4 10 ((D.1 4 10) + (1 : Int32))) (if (D'.1 4 9) = (0 : Int32) then D' else sC D' 4 10 ((D'.1 4 10) + (1 : Int32))) := by
    rw [h1.f 9 (by decide)]
    by_cases c : D.1 4 9 = 0
    · rw [if_pos c, if_pos c]; exact h1
    · rw [if_neg c, if_neg c]; exact tw_put h1 10 (by decide) (by rw [h1.f 10 (by decide)])
  generalize (if (D.1 4 9) = (0 : Int32) then D else sC D 4 10 ((D.1 4 10) + (1 : Int32))) = E at h2 ⊢
  generalize (if (D'.1 4 9) = (0 : Int32) then D' else sC D' 4 10 ((D'.1 4 10) + (1 : Int32))) = E' at h2 ⊢
  have h3 : TWC (sE E (E.2 + (((E.1 4 7) * (E.1 4 7)) / (10000 : Int32)).toInt64)) (sE E' (E'.2 + (((E'.1 4 7) * (E'.1 4 7)) / (10000 : Int32)).toInt64)) := tw_E h2 (by rw [h2.n, h2.f 7 (by decide)])
  generalize sE E (E.2 + (((E.1 4 7) * (E.1 4 7)) / (10000 : Int32)).toInt64) = G at h3 ⊢
  generalize sE E' (E'.2 + (((E'.1 4 7) * (E'.1 4 7)) / (10000 : Int32)).toInt64) = G' at h3 ⊢
  rw [h3.f 12 (by decide), h3.f 7 (by decide)]
  by_cases c : ((G.1 4 12) - (G.1 4 12) / (4 : Int32) * (4 : Int32)) = (0 : Int32)
  · simp only [if_pos c]; exact tw_heat h3 _
  · simp only [if_neg c]; exact h3
theorem tw_replay : ∀ (n : Nat) (x : Int32) (C C' : CS), TWC C C' → TWC (L_C_complain_29 n x C) (L_C_complain_29 n x C')
  | 0, _, _, _, h => h
  | n + 1, x, C, C', h => by
    simp only [L_C_complain_29]
    rw [h.e 2 (by omega)]
    by_cases c : C.1 3 2 ≤ x
    · rw [if_pos c, if_pos c]; exact h
    · rw [if_neg c, if_neg c]; exact tw_replay n _ _ _ (tw_spend h 0)
theorem tw_complain {C C' : CS} (h : TWC C C') : TWC (F_C_complain C) (F_C_complain C') := by
  unfold F_C_complain
  dsimp only
  have h1 : TWC (sC C 4 14 ((C.1 4 14) + (1 : Int32))) (sC C' 4 14 ((C'.1 4 14) + (1 : Int32))) := tw_put h 14 (by decide) (by rw [h.f 14 (by decide)])
  generalize sC C 4 14 ((C.1 4 14) + (1 : Int32)) = D at h1 ⊢
  generalize sC C' 4 14 ((C'.1 4 14) + (1 : Int32)) = D' at h1 ⊢
  refine tw_replay 21 0 _ _ ?_
  rw [h1.f 9 (by decide)]
  by_cases c : D.1 4 9 = 0
  · rw [if_pos c, if_pos c]; exact h1
  · rw [if_neg c, if_neg c]; exact tw_put h1 11 (by decide) (by rw [h1.f 11 (by decide)])
theorem tw_beginW {C C' : CS} (h : TWC C C') : TWC (F_C_beginWindow C) (F_C_beginWindow C') := tw_put (tw_put h 10 (by decide) rfl) 11 (by decide) rfl
theorem tw_beginL {C C' : CS} (h : TWC C C') (n : Int32) : TWC (F_C_beginWorkload C n) (F_C_beginWorkload C' n) := tw_put (tw_put h 4 (by decide) rfl) 5 (by decide) rfl
theorem tw_look {C C' : CS} (h : TWC C C') : TWC (F_C_lookAtWindow C) (F_C_lookAtWindow C') := by
  unfold F_C_lookAtWindow
  dsimp only
  rw [h.f 11 (by decide), h.f 7 (by decide), h.e 4 (by omega), h.e 5 (by omega), h.e 6 (by omega)]
  refine tw_beginW ?_
  by_cases c : (0 : Int32) ≤ (C.1 4 11) - (C.1 3 4)
  · simp only [if_pos c]
    exact tw_put (tw_put h 7 (by decide) rfl) 17 (by decide) (by rw [sC_ne _ _ _ _ (by decide), sC_ne _ _ _ _ (by decide), h.f 17 (by decide)])
  · simp only [if_neg c]
    exact tw_put (tw_put h 7 (by decide) rfl) 18 (by decide) (by rw [sC_ne _ _ _ _ (by decide), sC_ne _ _ _ _ (by decide), h.f 18 (by decide)])
/-! how often paths are used -/
theorem Luses_spec (a : Int32) {P : Nat} (p8 : P ≤ 8) : ∀ (n : Nat) (x : Int32) (C : CS) (k : Nat), x = nI k → k ≤ P → P + 1 ≤ k + n → C.1 4 2 = nI P → ∀ i j : Nat, (L_C_countUses_2 a n x C).1 i j = if i = 1 ∧ k ≤ j ∧ j < P then C.1 1 j + ((a >>> (nI j &&& 31)) &&& (1 : Int32)) else C.1 i j
  | 0, _, _, k, _, h1, h2, _, _, _ => absurd h2 (by omega)
  | n + 1, x, C, k, hx, h1, h2, hP, i, j => by
    subst hx
    simp only [L_C_countUses_2]
    rw [hP]
    by_cases c : P ≤ k
    · rw [if_pos (nI_le c (by omega)), if_neg (by omega)]
    · rw [if_neg (nI_ge (by omega) (by omega)), nI_clamp (by omega)]
      rw [Luses_spec a p8 n _ _ (k + 1) (nI_1 k) (by omega) (by omega) (by rw [sC_o _ _ _ _ (by decide)]; exact hP) i j]
      by_cases q : i = 1
      · subst q
        by_cases q2 : k + 1 ≤ j ∧ j < P
        · rw [if_pos ⟨rfl, q2⟩, if_pos ⟨rfl, by omega, q2.2⟩, sC_ne _ _ _ _ (by omega)]
        · rw [if_neg (fun z => q2 z.2)]
          by_cases q3 : j = k
          · subst q3
            rw [if_pos ⟨rfl, Nat.le_refl _, by omega⟩, sC_e]
          · rw [if_neg (by omega), sC_ne _ _ _ _ q3]
      · rw [if_neg (fun z => q z.1), if_neg (fun z => q z.1), sC_o _ _ _ _ q]
theorem uses_spec {C : CS} (a : Int32) {P : Nat} (p8 : P ≤ 8) (hP : C.1 4 2 = nI P) (i j : Nat) : (F_C_countUses C a).1 i j = if i = 1 ∧ j < P then C.1 1 j + ((a >>> (nI j &&& 31)) &&& (1 : Int32)) else C.1 i j := by
  have := Luses_spec a p8 9 0 C 0 nI_0.symm (by omega) (by omega) hP i j
  unfold F_C_countUses
  dsimp only
  rw [this]
  by_cases q : i = 1 ∧ j < P
  · rw [if_pos ⟨q.1, Nat.zero_le _, q.2⟩, if_pos q]
  · rw [if_neg (fun z => q ⟨z.1, z.2.2⟩), if_neg q]
theorem bits34 : ∀ r : Nat, r < 8 → ((nI r >>> (nI 3 &&& 31)) &&& (1 : Int32)) = 0 ∧ ((nI r >>> (nI 4 &&& 31)) &&& (1 : Int32)) = 0 := by decide +kernel
theorem bit3 {u : Int32} (h : bn 0 7 u) : ((u >>> (nI 3 &&& 31)) &&& (1 : Int32)) = 0 := by
  obtain ⟨r, _, h2, rfl⟩ := h
  exact (bits34 r (by omega)).1
theorem bit4 {u : Int32} (h : bn 0 7 u) : ((u >>> (nI 4 &&& 31)) &&& (1 : Int32)) = 0 := by
  obtain ⟨r, _, h2, rfl⟩ := h
  exact (bits34 r (by omega)).2
theorem tw_uses {C C' : CS} (h : TWC C C') {u : Int32} (hu : bn 0 7 u) : TWC (F_C_countUses C u) (F_C_countUses C' u) := by
  have e := fun i j => uses_spec (C := C) u (show 3 ≤ 8 by omega) h.p i j
  have e' := fun i j => uses_spec (C := C') u (show 5 ≤ 8 by omega) h.q i j
  refine ⟨⟨?_, ?_⟩, fun k hk => ?_, fun k hk => ?_, ⟨?_, ?_⟩, fun k hk => ?_, fun k hk => ?_, fun k hk => ?_, fun j hj => ?_, ?_⟩
  · rw [e, if_neg (by omega)]; exact h.p
  · rw [e', if_neg (by omega)]; exact h.q
  · rw [e, e', if_neg (by omega), if_neg (by omega)]; exact h.l k hk
  · rw [e, e', if_pos ⟨rfl, by omega⟩, if_pos ⟨rfl, by omega⟩, h.u k hk]
  · rw [e', if_pos ⟨rfl, by omega⟩, bit3 hu, h.z.1]; rfl
  · rw [e', if_pos ⟨rfl, by omega⟩, bit4 hu, h.z.2]; rfl
  · rw [e, e', if_neg (by omega), if_neg (by omega)]; exact h.s k hk
  · rw [e, if_neg (by omega)]; exact h.t k hk
  · rw [e, e', if_neg (by omega), if_neg (by omega)]; exact h.e k hk
  · rw [e, e', if_neg (by omega), if_neg (by omega)]; exact h.f j hj
  · rw [show (F_C_countUses C' u).2 = C'.2 from LCuses_2 u 9 0 C', show (F_C_countUses C u).2 = C.2 from LCuses_2 u 9 0 C]; exact h.n
/-! the longest path of a set -/
theorem longest_end {C' : CS} (h : C'.1 4 2 = nI 5) {u : Int32} (hu : bn 0 7 u) (n : Nat) (x : Int32) : L_C_longestOf_4 C' u (n + 3) x (nI 3) = x := by
  have z3 : ¬ ((u >>> (nI 3 &&& 31)) &&& (1 : Int32)) = 1 := by rw [bit3 hu]; decide
  have z4 : ¬ ((u >>> (nI 4 &&& 31)) &&& (1 : Int32)) = 1 := by rw [bit4 hu]; decide
  simp only [L_C_longestOf_4]
  rw [h, if_neg (nI_ge (by omega) (by omega)), if_neg z3, nI_1, if_neg (nI_ge (by omega) (by omega)), if_neg z4, nI_1, if_pos (nI_le (by omega) (by omega))]
theorem tw_longestL {C C' : CS} (h : TWC C C') {u : Int32} (hu : bn 0 7 u) : ∀ (n n' : Nat) (x : Int32) (k : Nat), k ≤ 3 → 4 ≤ k + n → 6 ≤ k + n' → L_C_longestOf_4 C' u n' x (nI k) = L_C_longestOf_4 C u n x (nI k)
  | 0, _, _, _, h1, h2, _ => absurd h2 (by omega)
  | n + 1, n', x, k, h1, h2, h3 => by
    by_cases c : k = 3
    · subst c
      obtain ⟨m, rfl⟩ : ∃ m, n' = m + 3 := ⟨n' - 3, by omega⟩
      rw [longest_end h.q hu m x]
      simp only [L_C_longestOf_4]
      rw [h.p, if_pos (nI_le (by omega) (by omega))]
    · obtain ⟨m, rfl⟩ : ∃ m, n' = m + 1 := ⟨n' - 1, by omega⟩
      simp only [L_C_longestOf_4]
      rw [h.p, h.q, if_neg (nI_ge (a := k) (b := 3) (by omega) (by omega)), if_neg (nI_ge (a := k) (b := 5) (by omega) (by omega)), nI_clamp (show k < 2 ^ 31 by omega), h.l k (by omega), nI_1]
      exact tw_longestL h hu n m _ (k + 1) (by omega) (by omega) (by omega)
theorem tw_longest {C C' : CS} (h : TWC C C') {u : Int32} (hu : bn 0 7 u) : F_C_longestOf C' u = F_C_longestOf C u := tw_longestL h hu 9 9 0 0 (by omega) (by omega) (by omega)
/-! a cycle -/
theorem tw_one {C C' : CS} (h : TWC C C') (hO : OKC C) : TWC (F_C_runOneCycle C) (F_C_runOneCycle C') := by
  obtain ⟨P, N, hPN, hN16, hK, hN⟩ := hO.w
  have ev : C'.1 2 ((C'.1 4 5).toNatClampNeg) = C.1 2 ((C.1 4 5).toNatClampNeg) := by
    rw [h.f 5 (by decide), hK, nI_clamp (by omega)]
    exact h.s P (by omega)
  have hu : bn 0 7 (C.1 2 ((C.1 4 5).toNatClampNeg)) := by
    rw [hK, nI_clamp (by omega)]
    exact h.t P (by omega)
  unfold F_C_runOneCycle
  dsimp only
  rw [ev, h.f 4 (by decide), h.f 5 (by decide)]
  generalize C.1 2 ((C.1 4 5).toNatClampNeg) = u at hu ⊢
  have h1 : TWC (sC C 4 5 (if (C.1 4 4) ≤ ((C.1 4 5) + (1 : Int32)) then (0 : Int32) else ((C.1 4 5) + (1 : Int32)))) (sC C' 4 5 (if (C.1 4 4) ≤ ((C.1 4 5) + (1 : Int32)) then (0 : Int32) else ((C.1 4 5) + (1 : Int32)))) := tw_put h 5 (by decide) rfl
  generalize sC C 4 5 (if (C.1 4 4) ≤ ((C.1 4 5) + (1 : Int32)) then (0 : Int32) else ((C.1 4 5) + (1 : Int32))) = D at h1 ⊢
  generalize sC C' 4 5 (if (C.1 4 4) ≤ ((C.1 4 5) + (1 : Int32)) then (0 : Int32) else ((C.1 4 5) + (1 : Int32))) = D' at h1 ⊢
  rw [tw_longest h1 hu, tw_judge h1, h1.f 7 (by decide), h1.f 8 (by decide)]
  generalize F_C_judge D (F_C_delayOf (F_C_longestOf D u) (D.1 4 7) (D.1 4 8)) = r
  have h2 : TWC (F_C_spendCycle (F_C_countUses D u) (F_J_bitCount u)) (F_C_spendCycle (F_C_countUses D' u) (F_J_bitCount u)) := tw_spend (tw_uses h1 hu) _
  generalize F_C_spendCycle (F_C_countUses D u) (F_J_bitCount u) = E at h2 ⊢
  generalize F_C_spendCycle (F_C_countUses D' u) (F_J_bitCount u) = E' at h2 ⊢
  by_cases c2 : r = 2
  · rw [if_pos c2, if_pos c2]
    exact tw_put h2 15 (by decide) (by rw [h2.f 15 (by decide)])
  · rw [if_neg c2, if_neg c2]
    have h3 : TWC (if r = (1 : Int32) then F_C_complain E else E) (if r = (1 : Int32) then F_C_complain E' else E') := by
      by_cases c1 : r = 1
      · rw [if_pos c1, if_pos c1]; exact tw_complain h2
      · rw [if_neg c1, if_neg c1]; exact h2
    generalize (if r = (1 : Int32) then F_C_complain E else E) = G at h3 ⊢
    generalize (if r = (1 : Int32) then F_C_complain E' else E') = G' at h3 ⊢
    exact tw_put h3 13 (by decide) (by rw [h3.f 13 (by decide)])
theorem tw_step {C C' : CS} (h : TWC C C') (hO : OKC C) : TWC (stepC C) (stepC C') := by
  have h1 := tw_one h hO
  unfold stepC
  generalize F_C_runOneCycle C = D at h1 ⊢
  generalize F_C_runOneCycle C' = D' at h1 ⊢
  rw [h1.f 9 (by decide), h1.f 10 (by decide), h1.e 3 (by omega)]
  by_cases c1 : D.1 4 9 = 0
  · rw [if_pos c1, if_pos c1]; exact h1
  · rw [if_neg c1, if_neg c1]
    by_cases c2 : D.1 4 10 < D.1 3 3
    · rw [if_pos c2, if_pos c2]; exact h1
    · rw [if_neg c2, if_neg c2]; exact tw_look h1
theorem tw_stepN : ∀ (n : Nat) (C C' : CS), TWC C C' → OKC C → TWC (stepN n C) (stepN n C')
  | 0, _, _, h, _ => h
  | n + 1, _, _, h, hO => tw_stepN n _ _ (tw_step h hO) (OKC_step hO)
/-! a copy, the longest of the workload, paths judged, sets with a path -/
theorem FLW_cp : ∀ j ∈ FLW, j ∈ cpL := by decide
theorem tw_cp {C C' D D' : CS} (h : TWC C C') : TWC (cpC D C) (cpC D' C') := by
  refine ⟨⟨?_, ?_⟩, fun k hk => ?_, fun k hk => ?_, ⟨?_, ?_⟩, fun k hk => ?_, fun k hk => ?_, fun k hk => ?_, fun j hj => ?_, h.n⟩
  · rw [cpC_4 _ _ (by decide)]; exact h.p
  · rw [cpC_4 _ _ (by decide)]; exact h.q
  · rw [show (cpC D C).1 0 k = C.1 0 k from cpy_lt (C.1 0) (D.1 0) (by omega), show (cpC D' C').1 0 k = C'.1 0 k from cpy_lt (C'.1 0) (D'.1 0) (by omega)]; exact h.l k hk
  · rw [show (cpC D C).1 1 k = C.1 1 k from cpy_lt (C.1 1) (D.1 1) (by omega), show (cpC D' C').1 1 k = C'.1 1 k from cpy_lt (C'.1 1) (D'.1 1) (by omega)]; exact h.u k hk
  · rw [show (cpC D' C').1 1 3 = C'.1 1 3 from cpy_lt (n := 8) (k := 3) (C'.1 1) (D'.1 1) (by omega)]; exact h.z.1
  · rw [show (cpC D' C').1 1 4 = C'.1 1 4 from cpy_lt (n := 8) (k := 4) (C'.1 1) (D'.1 1) (by omega)]; exact h.z.2
  · rw [show (cpC D C).1 2 k = C.1 2 k from cpy_lt (C.1 2) (D.1 2) (by omega), show (cpC D' C').1 2 k = C'.1 2 k from cpy_lt (C'.1 2) (D'.1 2) (by omega)]; exact h.s k hk
  · rw [show (cpC D C).1 2 k = C.1 2 k from cpy_lt (C.1 2) (D.1 2) (by omega)]; exact h.t k hk
  · rw [show (cpC D C).1 3 k = C.1 3 k from cpy_lt (C.1 3) (D.1 3) (by omega), show (cpC D' C').1 3 k = C'.1 3 k from cpy_lt (C'.1 3) (D'.1 3) (by omega)]; exact h.e k hk
  · rw [cpC_4 _ _ (FLW_cp j hj), cpC_4 _ _ (FLW_cp j hj)]; exact h.f j hj
theorem or7 : ∀ a : Nat, a < 8 → ∀ b : Nat, b < 8 → (nI a ||| nI b).toNatClampNeg < 8 ∧ nI a ||| nI b = nI (nI a ||| nI b).toNatClampNeg := by decide +kernel
theorem or7b {x y : Int32} (hx : bn 0 7 x) (hy : bn 0 7 y) : bn 0 7 (x ||| y) := by
  obtain ⟨a, _, a2, rfl⟩ := hx
  obtain ⟨b, _, b2, rfl⟩ := hy
  obtain ⟨h1, h2⟩ := or7 a (by omega) b (by omega)
  exact ⟨_, Nat.zero_le _, by omega, h2⟩
theorem tw_liwL {C C' : CS} (h : TWC C C') {N : Nat} (hN : C.1 4 4 = nI N) (n16 : N ≤ 16) : ∀ (n : Nat) (x y : Int32), cu N n y → bn 0 7 x → L_C_longestInWorkload_4 C' n x y = L_C_longestInWorkload_4 C n x y ∧ bn 0 7 (L_C_longestInWorkload_4 C n x y)
  | 0, _, _, hc, _ => (cu_0 hc).elim
  | n + 1, x, y, hc, hx => by
    simp only [L_C_longestInWorkload_4]
    rw [h.f 4 (by decide)]
    by_cases c : C.1 4 4 ≤ y
    · rw [if_pos c, if_pos c]; exact ⟨rfl, hx⟩
    · rw [if_neg c, if_neg c]
      obtain ⟨k, hk, hy⟩ := cu_lt hc (by omega) hN c
      have ek : y.toNatClampNeg = k := by rw [hy, nI_clamp (by omega)]
      rw [ek, h.s k (by omega)]
      exact tw_liwL h hN n16 n _ _ (cu_b hc (by omega) hN c rfl) (or7b hx (h.t k (by omega)))
theorem tw_liw {C C' : CS} (h : TWC C C') (hO : OKC C) : F_C_longestInWorkload C' = F_C_longestInWorkload C := by
  obtain ⟨N, n1, n2, hN⟩ := hO.c
  obtain ⟨e1, e2⟩ := tw_liwL h hN n2 17 0 0 (cu_i (by omega)) ⟨0, by omega, by omega, rfl⟩
  unfold F_C_longestInWorkload
  dsimp only
  rw [e1, tw_longest h e2]
theorem tw_setsWL {C C' : CS} (h : TWC C C') {N : Nat} (hN : C.1 4 4 = nI N) (n16 : N ≤ 16) (a : Int32) : ∀ (n : Nat) (x y : Int32), cu N n y → L_C_setsWith_4 C' a n x y = L_C_setsWith_4 C a n x y
  | 0, _, _, hc => (cu_0 hc).elim
  | n + 1, x, y, hc => by
    simp only [L_C_setsWith_4]
    rw [h.f 4 (by decide)]
    by_cases c : C.1 4 4 ≤ y
    · rw [if_pos c, if_pos c]
    · rw [if_neg c, if_neg c]
      obtain ⟨k, hk, hy⟩ := cu_lt hc (by omega) hN c
      have ek : y.toNatClampNeg = k := by rw [hy, nI_clamp (by omega)]
      rw [ek, h.s k (by omega)]
      exact tw_setsWL h hN n16 a n _ _ (cu_b hc (by omega) hN c rfl)
theorem tw_setsW {C C' : CS} (h : TWC C C') (hO : OKC C) (a : Int32) : F_C_setsWith C' a = F_C_setsWith C a := by
  obtain ⟨N, n1, n2, hN⟩ := hO.c
  exact tw_setsWL h hN n2 a 17 0 0 (cu_i (by omega))
/-- how path k is judged now -/
def jOf (C : CS) (k : Nat) : Int32 := F_C_judge C (F_C_delayNow C (nI k))
theorem tw_jOf {C C' : CS} (h : TWC C C') (k : Nat) (hk : k < 3) : jOf C' k = jOf C k := by
  unfold jOf F_C_delayNow
  dsimp only
  rw [tw_judge h, nI_clamp (show k < 2 ^ 31 by omega), h.l k hk, h.f 7 (by decide), h.f 8 (by decide)]
theorem pj_step {C : CS} {P : Nat} (hP : C.1 4 2 = nI P) (a : Int32) (n : Nat) (x : Int32) (k : Nat) (hk : k < P) (p8 : P ≤ 8) : L_C_pathsJudged_4 C a (n + 1) x (nI k) = L_C_pathsJudged_4 C a n (if jOf C k = a then x ||| ((1 : Int32) <<< (nI k &&& 31)) else x) (nI (k + 1)) := by
  simp only [L_C_pathsJudged_4]
  rw [hP, if_neg (nI_ge hk (by omega)), nI_1]
  rfl
theorem pj_end {C : CS} {P : Nat} (hP : C.1 4 2 = nI P) (a : Int32) (n : Nat) (x : Int32) (p8 : P ≤ 8) : L_C_pathsJudged_4 C a (n + 1) x (nI P) = x := by
  simp only [L_C_pathsJudged_4]
  rw [hP, if_pos (nI_le (Nat.le_refl _) (by omega))]
def orb (c : Prop) [Decidable c] (k : Nat) (x : Int32) : Int32 := if c then x ||| ((1 : Int32) <<< (nI k &&& 31)) else x
theorem pj_3 {C : CS} (hP : C.1 4 2 = nI 3) (a : Int32) : F_C_pathsJudged C a = orb (jOf C 2 = a) 2 (orb (jOf C 1 = a) 1 (orb (jOf C 0 = a) 0 0)) := by
  show L_C_pathsJudged_4 C a 9 0 (nI 0) = _
  rw [pj_step hP a 8 _ 0 (by omega) (by omega), pj_step hP a 7 _ 1 (by omega) (by omega), pj_step hP a 6 _ 2 (by omega) (by omega), pj_end hP a 5 _ (by omega)]
  rfl
theorem pj_5 {C : CS} (hP : C.1 4 2 = nI 5) (a : Int32) : F_C_pathsJudged C a = orb (jOf C 4 = a) 4 (orb (jOf C 3 = a) 3 (orb (jOf C 2 = a) 2 (orb (jOf C 1 = a) 1 (orb (jOf C 0 = a) 0 0)))) := by
  show L_C_pathsJudged_4 C a 9 0 (nI 0) = _
  rw [pj_step hP a 8 _ 0 (by omega) (by omega), pj_step hP a 7 _ 1 (by omega) (by omega), pj_step hP a 6 _ 2 (by omega) (by omega), pj_step hP a 5 _ 3 (by omega) (by omega), pj_step hP a 4 _ 4 (by omega) (by omega), pj_end hP a 3 _ (by omega)]
  rfl
theorem tw_pj {C C' : CS} (h : TWC C C') (a : Int32) : F_C_pathsJudged C a = F_C_pathsJudged C' a &&& 7 := by
  rw [pj_3 h.p, pj_5 h.q, tw_jOf h 0 (by omega), tw_jOf h 1 (by omega), tw_jOf h 2 (by omega)]
  unfold orb
  by_cases c0 : jOf C 0 = a <;> by_cases c1 : jOf C 1 = a <;> by_cases c2 : jOf C 2 = a <;> by_cases c3 : jOf C' 3 = a <;> by_cases c4 : jOf C' 4 = a <;> simp only [c0, c1, c2, c3, c4, if_true, if_false, eq_self] <;> decide +kernel
theorem pj_bit {C : CS} (hP : C.1 4 2 = nI 3) (a : Int32) (k : Nat) (hk : k < 3) : ((F_C_pathsJudged C a) >>> (nI k &&& 31)) &&& (1 : Int32) = if jOf C k = a then 1 else 0 := by
  rw [pj_3 hP]
  unfold orb
  match k, hk with
  | 0, _ => by_cases c0 : jOf C 0 = a <;> by_cases c1 : jOf C 1 = a <;> by_cases c2 : jOf C 2 = a <;> simp only [c0, c1, c2, if_true, if_false, eq_self] <;> decide +kernel
  | 1, _ => by_cases c0 : jOf C 0 = a <;> by_cases c1 : jOf C 1 = a <;> by_cases c2 : jOf C 2 = a <;> simp only [c0, c1, c2, if_true, if_false, eq_self] <;> decide +kernel
  | 2, _ => by_cases c0 : jOf C 0 = a <;> by_cases c1 : jOf C 1 = a <;> by_cases c2 : jOf C 2 = a <;> simp only [c0, c1, c2, if_true, if_false, eq_self] <;> decide +kernel
