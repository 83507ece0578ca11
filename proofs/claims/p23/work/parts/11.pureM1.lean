/-! pure rows of the reference: what its small methods answer -/
theorem in_eq (a b c : Int64) : F_M_in a b c = if b ≤ a ∧ a ≤ c then 1 else 0 := by
  unfold F_M_in
  simp only [lg_cmp_lt, lg_cmp_gt]
  by_cases h1 : a < b
  · rw [if_pos h1, if_neg (fun h => absurd h.1 (Int64.not_le.mpr h1))]
  · rw [if_neg h1]
    by_cases h2 : c < a
    · rw [if_pos h2, if_neg (fun h => absurd h.2 (Int64.not_le.mpr h2))]
    · rw [if_neg h2, if_pos ⟨Int64.not_lt.mp h1, Int64.not_lt.mp h2⟩]
theorem bl_in (a b c : Int64) : F_M_in a b c = 0 ∨ F_M_in a b c = 1 := by
  rw [in_eq]
  split
  · exact Or.inr rfl
  · exact Or.inl rfl
theorem in_nI {x : Int32} {lo hi : Nat} (hh : hi < 2 ^ 31) (h1 : lN lo ≤ x.toInt64) (h2 : x.toInt64 ≤ lN hi) (hl : lo < 2 ^ 31) : bn lo hi x := by
  rw [Int64.le_iff_toInt_le, lN_toInt hl, Int32.toInt_toInt64] at h1
  rw [Int64.le_iff_toInt_le, lN_toInt hh, Int32.toInt_toInt64] at h2
  have h0 : ¬ x < 0 := fun q => by
    rw [Int32.lt_iff_toInt_lt] at q
    have : (0 : Int32).toInt = 0 := rfl
    omega
  obtain ⟨j, hj, rfl⟩ := nI_of h0
  rw [nI_toInt hj] at h1 h2
  exact ⟨j, by omega, by omega, rfl⟩
theorem in_bn (lo hi : Nat) (hh : lo < 2 ^ 31 ∧ hi < 2 ^ 31) {x r : Int32} (e : r = F_M_in x.toInt64 (lN lo) (lN hi)) (h : ¬ r = 0) : bn lo hi x := by
  rw [e, in_eq] at h
  by_cases q : lN lo ≤ x.toInt64 ∧ x.toInt64 ≤ lN hi
  · exact in_nI hh.2 q.1 q.2 hh.1
  · rw [if_neg q] at h
    exact absurd rfl h
theorem isPath_P {M : ARR} {a r : Int32} {P : Nat} (hP : M 0 51 = nI P) (h1 : 1 ≤ P) (h2 : P ≤ 8) (e : r = F_M_isPath M a) (h : ¬ r = 0) : ∃ k : Nat, k < P ∧ a = nI k := by
  have e2 : r = F_M_in a.toInt64 (lN 0) (lN (P - 1)) := by
    rw [e]
    unfold F_M_isPath
    show F_M_in a.toInt64 (lN 0) ((M 0 51).toInt64 - lN 1) = _
    rw [hP, nI_l (by omega), lN_sub h1]
  obtain ⟨k, _, h3, h4⟩ := in_bn 0 (P - 1) (by omega) e2 h
  exact ⟨k, by omega, h4⟩
theorem isPath_lt {M : ARR} {a r : Int32} (hp : bn 1 8 (M 0 51)) (e : r = F_M_isPath M a) (h : ¬ r = 0) : ∃ k : Nat, k < 8 ∧ a = nI k := by
  obtain ⟨P, h1, h2, hP⟩ := hp
  obtain ⟨k, h3, h4⟩ := isPath_P hP h1 h2 e h
  exact ⟨k, by omega, h4⟩
theorem bl_isPath (M : ARR) (a : Int32) : F_M_isPath M a = 0 ∨ F_M_isPath M a = 1 := bl_in _ _ _
theorem isSetting_lt {a b r : Int32} (e : r = F_M_isSetting a b) (h : ¬ r = 0) : ∃ k : Nat, k < 7 ∧ a = nI k := by
  rw [e] at h
  unfold F_M_isSetting at h
  by_cases h0 : a = 0
  · exact ⟨0, by omega, h0⟩
  by_cases h1 : a = 1
  · exact ⟨1, by omega, h1⟩
  by_cases h2 : a = 2
  · exact ⟨2, by omega, h2⟩
  by_cases h3 : a = 3
  · exact ⟨3, by omega, h3⟩
  by_cases h4 : a = 4
  · exact ⟨4, by omega, h4⟩
  by_cases h5 : a = 5
  · exact ⟨5, by omega, h5⟩
  by_cases h6 : a = 6
  · exact ⟨6, by omega, h6⟩
  simp only [if_neg h0, if_neg h1, if_neg h2, if_neg h3, if_neg h4, if_neg h5, if_neg h6] at h
  exact (h trivial).elim
theorem bl_ite {c : Prop} {h : Decidable c} {x y : Int32} (hx : x = 0 ∨ x = 1) (hy : y = 0 ∨ y = 1) : (ite c x y) = 0 ∨ (ite c x y) = 1 := by
  by_cases q : c
  · rw [if_pos q]; exact hx
  · rw [if_neg q]; exact hy
theorem bl_isSetting (a b : Int32) : F_M_isSetting a b = 0 ∨ F_M_isSetting a b = 1 := by
  unfold F_M_isSetting
  dsimp only
  repeat' first | exact bl_in _ _ _ | apply bl_ite | exact Or.inl rfl | exact Or.inr rfl
theorem bl_isHere (M : ARR) (a b : Int32) : F_M_isHere M a b = 0 ∨ F_M_isHere M a b = 1 := by
  unfold F_M_isHere
  dsimp only
  exact bl_ite (Or.inl rfl) (bl_ite (Or.inl rfl) (Or.inr rfl))
theorem bl_has (a b : Int32) : F_M_has a b = 0 ∨ F_M_has a b = 1 := by
  unfold F_M_has
  exact bl_ite (Or.inr rfl) (Or.inl rfl)
theorem rem_o (M : ARR) {i : Nat} (h : i ≠ 1) : F_M_remember M i = M i := sR_o _ _ _ h
theorem Lbegins_o : ∀ (n : Nat) (x : Int32) (M : ARR) {i : Nat}, i ≠ 0 → L_M_begins_18 n x M i = M i
  | 0, _, _, _, _ => rfl
  | n + 1, x, M, i, h => by
    simp only [L_M_begins_18]
    split
    · rfl
    · rw [Lbegins_o n _ _ h, sA_o _ _ _ _ h]
theorem begins_o (M : ARR) (a : Int32) {i : Nat} (h : i ≠ 0) : F_M_begins M a i = M i := by
  unfold F_M_begins
  show L_M_begins_18 17 a (sA (sA M 0 49 a) 0 50 0) i = M i
  rw [Lbegins_o _ _ _ h, sA_o _ _ _ _ h, sA_o _ _ _ _ h]
theorem kern8 : ∀ r : Nat, r < 256 → r = 0 ∨ ((nI r &&& (nI r - 1)).toNatClampNeg < r ∧ nI r &&& (nI r - 1) = nI (nI r &&& (nI r - 1)).toNatClampNeg) := by decide +kernel
theorem kern_b {n : Nat} {x v : Int32} (h : ∃ r : Nat, r < n + 1 ∧ r < 256 ∧ x = nI r) (hc : ¬ x = 0) (ev : v = x &&& (x - 1)) : ∃ r : Nat, r < n ∧ r < 256 ∧ v = nI r := by
  obtain ⟨r, h1, h2, rfl⟩ := h
  rcases kern8 r h2 with q | ⟨q1, q2⟩
  · subst q
    exact absurd nI_0 hc
  · exact ⟨_, Nat.lt_of_lt_of_le q1 (by omega), by omega, by rw [ev]; exact q2⟩
theorem sh8 : ∀ P : Nat, P < 9 → (1 : Int32) <<< (nI P &&& 31) = nI (2 ^ P) := by decide +kernel
theorem lay_v {x : Int32} (h : bn 0 9999 x) : bn 0 9999 ((((421 : Int32) * x) + (1663 : Int32)) - (((421 : Int32) * x) + (1663 : Int32)) / (10000 : Int32) * (10000 : Int32)) := by
  obtain ⟨k, _, h1, rfl⟩ := h
  have e : (421 : Int32) * nI k + (1663 : Int32) = nI (421 * k + 1663) := by
    rw [show (421 : Int32) * nI k = nI (421 * k) from pk_mul 421 k]
    exact nI_add (421 * k) 1663
  rw [e]
  have e2 := pk_rem (a := 421 * k + 1663) (d := 10000) (by omega) (by omega) (by omega)
  exact ⟨(421 * k + 1663) % 10000, Nat.zero_le _, by omega, e2⟩
theorem lay_ne {x : Int32} {N : Nat} (hN : N ≤ 16) (h : ∃ k : Nat, k < N ∧ x = nI k) : 51 ≠ ((16 : Int32) + x).toNatClampNeg := by
  obtain ⟨k, h1, rfl⟩ := h
  rw [show (16 : Int32) + nI k = nI (16 + k) from nI_add 16 k, nI_clamp (by omega)]
  omega
theorem pow8 {P : Nat} (h : P ≤ 8) : 2 ^ P ≤ 256 := Nat.le_trans (Nat.pow_le_pow_right (by omega) h) (by decide)
theorem lay_d {P : Nat} {y : Int32} (h : P ≤ 8) (hy : y = nI P) : ¬ ((1 : Int32) <<< (y &&& 31)) = 0 := by
  rw [hy, sh8 P (by omega)]
  have := pow8 h
  exact nI_ne0 (Nat.two_pow_pos P) (by omega)
theorem lay_s {P : Nat} {y v : Int32} (h1 : 1 ≤ P) (h : P ≤ 8) (hy : y = nI P) (hv : bn 0 9999 v) : bn 0 255 ((v / (16 : Int32)) - (v / (16 : Int32)) / ((1 : Int32) <<< (y &&& 31)) * ((1 : Int32) <<< (y &&& 31))) := by
  obtain ⟨k, _, h2, rfl⟩ := hv
  have e1 : nI k / (16 : Int32) = nI (k / 16) := pk_div (a := k) (d := 16) (by omega) (by omega) (by omega)
  have hp := pow8 h
  have h0 := Nat.two_pow_pos P
  rw [hy, sh8 P (by omega), e1, pk_rem (by omega) h0 (by omega)]
  have := Nat.mod_lt (k / 16) h0
  exact ⟨_, Nat.zero_le _, by omega, rfl⟩
theorem type_i {x : Int32} (h : bn 0 60 x) (hc : ¬ x = 60) : vp_in x 60 := by
  obtain ⟨k, _, h2, rfl⟩ := h
  refine vp_in_nI ?_ (by omega)
  rcases Nat.lt_or_ge k 60 with q | q
  · exact q
  · exact absurd (by rw [show k = 60 by omega]; rfl) hc
theorem here_i {t x : Int32} (ht : bn 0 60 t) (hs : bn 0 60 x) (hc : ¬ t ≤ x) : vp_in x 60 := by
  obtain ⟨k, _, h2, rfl⟩ := ht
  obtain ⟨j, _, h3, rfl⟩ := hs
  refine vp_in_nI ?_ (by omega)
  rcases Nat.lt_or_ge j k with q | q
  · omega
  · exact absurd (nI_le q (by omega)) hc
theorem bn_ne4 {x : Int32} (h : bn 0 4 x) (hc : ¬ x = 4) : bn 0 3 x := by
  obtain ⟨k, _, h2, rfl⟩ := h
  rcases Nat.lt_or_ge k 4 with q | q
  · exact ⟨k, by omega, by omega, rfl⟩
  · exact absurd (by rw [show k = 4 by omega]; rfl) hc
theorem vin_r (c : Nat) {B N : Nat} {x : Int32} (h : ∃ k : Nat, k < B ∧ x = nI k) (hN : c + B ≤ N) (h2 : N < 2 ^ 31) : vp_in (x + nI c) N := by
  obtain ⟨k, h1, rfl⟩ := h
  rw [nI_add]
  exact vp_in_nI (by omega) h2
theorem vin_h {x y : Int32} (hy : bn 0 3 y) (h : ∃ k : Nat, k < 55 ∧ x = nI k) : vp_in (((55 : Int32) * y) + x) 220 := by
  obtain ⟨k, h1, rfl⟩ := h
  obtain ⟨j, _, h3, rfl⟩ := hy
  rw [show (55 : Int32) * nI j = nI (55 * j) from pk_mul 55 j, nI_add]
  exact vp_in_nI (by omega) (by omega)
