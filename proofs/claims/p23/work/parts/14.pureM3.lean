/-! the text of the reference: spot and length, sets that were read -/
def TP (M : ARR) : Prop := ∃ k t : Nat, k ≤ t ∧ t ≤ 60 ∧ M 7 9 = nI k ∧ M 7 8 = nI t
theorem TP.s {M : ARR} (h : TP M) : bn 0 60 (M 7 9) := by
  obtain ⟨k, t, h1, h2, h3, h4⟩ := h
  exact ⟨k, by omega, by omega, h3⟩
theorem TP.t {M : ARR} (h : TP M) : bn 0 60 (M 7 8) := by
  obtain ⟨k, t, h1, h2, h3, h4⟩ := h
  exact ⟨t, by omega, by omega, h4⟩
theorem TP_0 {M : ARR} (h : bn 0 60 (M 7 8)) (v w : Int32) : TP (sA (sA M 7 9 0) 7 11 w) := by
  obtain ⟨t, _, h2, h3⟩ := h
  exact ⟨0, t, by omega, h2, by rw [sA_ne _ _ _ _ (by decide), sA_e]; rfl, by rw [sA_ne _ _ _ _ (by decide), sA_ne _ _ _ _ (by decide)]; exact h3⟩
theorem isHere_lt {M : ARR} {a b : Int32} (h : ¬ F_M_isHere M a b = 0) : ¬ M 7 8 ≤ M 7 9 := by
  intro q
  apply h
  unfold F_M_isHere
  dsimp only
  rw [if_pos q]
theorem TP_next {M : ARR} (h : TP M) (hc : ¬ M 7 8 ≤ M 7 9) : TP (sA M 7 9 ((M 7 9) + (1 : Int32))) := by
  obtain ⟨k, t, h1, h2, h3, h4⟩ := h
  rw [h3, h4] at hc
  have hlt : k < t := by
    rcases Nat.lt_or_ge k t with q | q
    · exact q
    · exact absurd (nI_le q (by omega)) hc
  exact ⟨k + 1, t, hlt, h2, by rw [sA_e, h3]; exact nI_1 k, by rw [sA_ne _ _ _ _ (by decide)]; exact h4⟩
theorem takes_o (M : ARR) (a : Int32) {i : Nat} (h : i ≠ 7) : (F_M_takes M a).2 i = M i := sA_o _ _ _ _ h
theorem takes_7 (M : ARR) (a : Int32) {j : Nat} (h : j ≠ 9) : (F_M_takes M a).2 7 j = M 7 j := by
  unfold F_M_takes
  exact sA_ne M 7 9 _ h
theorem takes_TP {M : ARR} (a : Int32) (h : TP M) : TP (F_M_takes M a).2 := by
  unfold F_M_takes
  dsimp only
  by_cases hc : F_M_isHere M a a = 0
  · rw [if_pos hc]
    obtain ⟨k, t, h1, h2, h3, h4⟩ := h
    exact ⟨k, t, h1, h2, by rw [sA_e, h3, show (0 : Int32) = nI 0 from rfl, nI_add]; rfl, by rw [sA_ne _ _ _ _ (by decide)]; exact h4⟩
  · rw [if_neg hc]
    exact TP_next h (isHere_lt hc)
theorem L27_o : ∀ (n : Nat) (x y : Int32) (M : ARR) {i : Nat}, i ≠ 7 → (L_M_readsSet_27 n x y M).2 i = M i
  | 0, _, _, _, _, _ => rfl
  | n + 1, x, y, M, i, h => by
    simp only [L_M_readsSet_27]
    split
    · rfl
    · rw [L27_o n _ _ _ h, sA_o _ _ _ _ h]
theorem L27_7 : ∀ (n : Nat) (x y : Int32) (M : ARR) {j : Nat}, j ≠ 9 → (L_M_readsSet_27 n x y M).2 7 j = M 7 j
  | 0, _, _, _, _, _ => rfl
  | n + 1, x, y, M, j, h => by
    simp only [L_M_readsSet_27]
    split
    · rfl
    · rw [L27_7 n _ _ _ h, sA_ne _ _ _ _ h]
theorem L27_TP : ∀ (n : Nat) (x y : Int32) (M : ARR), TP M → TP (L_M_readsSet_27 n x y M).2
  | 0, _, _, _, h => h
  | n + 1, x, y, M, h => by
    simp only [L_M_readsSet_27]
    split
    · exact h
    · rename_i hc
      exact L27_TP n _ _ _ (TP_next h (isHere_lt hc))
theorem TP_put {M : ARR} (h : TP M) (j : Nat) (v : Int32) (h8 : 8 ≠ j) (h9 : 9 ≠ j) : TP (sA M 7 j v) := by
  obtain ⟨k, t, h1, h2, h3, h4⟩ := h
  exact ⟨k, t, h1, h2, by rw [sA_ne _ _ _ _ h9]; exact h3, by rw [sA_ne _ _ _ _ h8]; exact h4⟩
theorem TP_o {M : ARR} (h : TP M) (i j : Nat) (v : Int32) (hi : 7 ≠ i) : TP (sA M i j v) := by
  obtain ⟨k, t, h1, h2, h3, h4⟩ := h
  exact ⟨k, t, h1, h2, by rw [sA_o _ _ _ _ hi]; exact h3, by rw [sA_o _ _ _ _ hi]; exact h4⟩
theorem readsSet_o (M : ARR) {i : Nat} (h6 : i ≠ 6) (h : i ≠ 7) : (F_M_readsSet M).2 i = M i := by
  unfold F_M_readsSet
  dsimp only
  repeat' split
  all_goals simp only [sA_o _ _ _ _ h, sA_o _ _ _ _ h6, L27_o _ _ _ _ h, takes_o _ _ h]
theorem readsSet_7 (M : ARR) {j : Nat} (h9 : j ≠ 9) (h11 : j ≠ 11) : (F_M_readsSet M).2 7 j = M 7 j := by
  unfold F_M_readsSet
  dsimp only
  have o6 : ∀ (N : ARR) (k : Nat) (v : Int32), sA N 6 k v 7 = N 7 := fun N k v => sA_o _ _ _ _ (by decide)
  repeat' split
  all_goals simp only [sA_ne _ _ _ _ h11, o6, L27_7 _ _ _ _ h9, takes_7 _ _ h9]
theorem readsSet_TP {M : ARR} (h : TP M) : TP (F_M_readsSet M).2 := by
  have h1 := takes_TP 45 h
  unfold F_M_readsSet
  dsimp only
  repeat' split
  · exact h1
  · exact TP_put (TP_o (L27_TP _ _ _ _ h1) _ _ _ (by decide)) _ _ (by decide) (by decide)
  · exact TP_put (TP_o h1 _ _ _ (by decide)) _ _ (by decide) (by decide)
theorem readsSet_11 (M : ARR) : ((F_M_readsSet M).1 = 0 ∧ (F_M_readsSet M).2 7 11 = M 7 11) ∨ ((F_M_readsSet M).1 = 1 ∧ (F_M_readsSet M).2 7 11 = M 7 11 + 1) := by
  unfold F_M_readsSet
  dsimp only
  have o6 : ∀ (N : ARR) (k : Nat) (v : Int32), sA N 6 k v 7 = N 7 := fun N k v => sA_o _ _ _ _ (by decide)
  repeat' split
  · exact Or.inl ⟨rfl, takes_7 M 45 (j := 11) (by decide)⟩
  · refine Or.inr ⟨rfl, ?_⟩
    dsimp only
    rw [sA_e, o6, L27_7 _ _ _ _ (by decide), takes_7 _ _ (by decide)]
  · refine Or.inr ⟨rfl, ?_⟩
    dsimp only
    rw [sA_e, o6, takes_7 _ _ (by decide)]
def FK (n : Nat) (x : Int32) (M : ARR) : Prop := TP M ∧ ∃ k : Nat, M 7 11 = nI k ∧ k ≤ 16 ∧ (¬ x = 0 → k < 16) ∧ 17 ≤ k + n
theorem FK_0 {x : Int32} {M : ARR} (h : FK 0 x M) : False := by
  obtain ⟨_, k, _, h1, _, h2⟩ := h
  omega
theorem FK_i {M : ARR} (h : bn 0 60 (M 7 8)) : FK 17 1 (sA (sA M 7 9 0) 7 11 0) := ⟨TP_0 h 0 0, 0, by rw [sA_e]; rfl, by omega, fun _ => by omega, by omega⟩
theorem FK_15 {n : Nat} {x : Int32} {M : ARR} (h : FK n x M) (hx : ¬ x = 0) : bn 0 15 (M 7 11) := by
  obtain ⟨_, k, h1, _, h2, _⟩ := h
  exact ⟨k, by omega, by have := h2 hx; omega, h1⟩
theorem FK_r {n : Nat} {x : Int32} {M : ARR} (h : FK (n + 1) x M) (hx : ¬ x = 0) {r : Int32 × ARR} (e : r = F_M_readsSet M) (hr : ¬ r.1 = 0) : TP r.2 ∧ ∃ k : Nat, r.2 7 11 = nI k ∧ k ≤ 16 ∧ 17 ≤ k + n := by
  obtain ⟨hT, k, h1, h2, h3, h4⟩ := h
  subst e
  refine ⟨readsSet_TP hT, k + 1, ?_, by have := h3 hx; omega, by omega⟩
  rcases readsSet_11 M with ⟨q1, q2⟩ | ⟨q1, q2⟩
  · exact absurd q1 hr
  · rw [q2, h1]; exact nI_1 k
theorem FK_a {n : Nat} {M : ARR} (h : TP M ∧ ∃ k : Nat, M 7 11 = nI k ∧ k ≤ 16 ∧ 17 ≤ k + n) : FK n 0 M := by
  obtain ⟨hT, k, h1, h2, h3⟩ := h
  exact ⟨hT, k, h1, h2, fun q => absurd rfl q, h3⟩
theorem FK_t {n : Nat} {M : ARR} (a : Int32) (h : TP M ∧ ∃ k : Nat, M 7 11 = nI k ∧ k ≤ 16 ∧ 17 ≤ k + n) : TP (F_M_takes M a).2 ∧ ∃ k : Nat, (F_M_takes M a).2 7 11 = nI k ∧ k ≤ 16 ∧ 17 ≤ k + n := by
  obtain ⟨hT, k, h1, h2, h3⟩ := h
  exact ⟨takes_TP a hT, k, by rw [takes_7 _ _ (by decide)]; exact h1, h2, h3⟩
theorem FK_b {n : Nat} {M : ARR} (a : Int32) (h : TP M ∧ ∃ k : Nat, M 7 11 = nI k ∧ k ≤ 16 ∧ 17 ≤ k + n) (hc : ¬ (16 : Int32) ≤ M 7 11) : FK n 1 (F_M_takes M a).2 := by
  obtain ⟨hT, k, h1, h2, h3⟩ := h
  refine ⟨takes_TP a hT, k, by rw [takes_7 _ _ (by decide)]; exact h1, h2, fun _ => ?_, h3⟩
  rcases Nat.lt_or_ge k 16 with q | q
  · exact q
  · exact absurd (by rw [h1]; exact nI_le (a := 16) q (by omega)) hc
theorem fault_L : ∀ (n : Nat) (x : Int32) (M : ARR), FK n x M → TP (L_M_fault_12 n x M).2 ∧ bn 0 16 ((L_M_fault_12 n x M).2 7 11) ∧ (∀ i, i ≠ 6 → i ≠ 7 → (L_M_fault_12 n x M).2 i = M i) ∧ (∀ j, j ≠ 9 → j ≠ 11 → (L_M_fault_12 n x M).2 7 j = M 7 j)
  | 0, _, _, h => (FK_0 h).elim
  | n + 1, x, M, h => by
    simp only [L_M_fault_12]
    by_cases hx : x = 0
    · rw [if_pos hx]
      obtain ⟨hT, k, h1, h2, _, _⟩ := h
      exact ⟨hT, ⟨k, by omega, h2, h1⟩, fun _ _ _ => rfl, fun _ _ _ => rfl⟩
    · rw [if_neg hx]
      have hT := readsSet_TP h.1
      by_cases hr : (F_M_readsSet M).1 = 0
      · rw [if_pos hr]
        refine ⟨hT, ?_, fun i a b => readsSet_o M a b, fun j a b => readsSet_7 M a b⟩
        rcases readsSet_11 M with ⟨q1, q2⟩ | ⟨q1, q2⟩
        · show bn 0 16 ((F_M_readsSet M).2 7 11)
          rw [q2]
          exact bn_w (FK_15 h hx) (by omega) (by omega)
        · rw [q1] at hr
          exact absurd hr (by decide)
      · rw [if_neg hr]
        have h5 := FK_r h hx rfl hr
        by_cases h6 : (16 : Int32) ≤ (F_M_readsSet M).2 7 11
        · simp only [if_pos h6]
          obtain ⟨a1, a2, a3, a4⟩ := fault_L n 0 _ (FK_a h5)
          exact ⟨a1, a2, fun i p q => (a3 i p q).trans (readsSet_o M p q), fun j p q => (a4 j p q).trans (readsSet_7 M p q)⟩
        · simp only [if_neg h6]
          by_cases h7 : (F_M_takes (F_M_readsSet M).2 44).1 = 0
          · simp only [if_pos h7]
            obtain ⟨a1, a2, a3, a4⟩ := fault_L n 0 _ (FK_a (FK_t 44 h5))
            exact ⟨a1, a2, fun i p q => (a3 i p q).trans ((takes_o _ _ q).trans (readsSet_o M p q)), fun j p q => (a4 j p q).trans ((takes_7 _ _ p).trans (readsSet_7 M p q))⟩
          · simp only [if_neg h7]
            obtain ⟨a1, a2, a3, a4⟩ := fault_L n 1 _ (FK_b 44 h5 h6)
            exact ⟨a1, a2, fun i p q => (a3 i p q).trans ((takes_o _ _ q).trans (readsSet_o M p q)), fun j p q => (a4 j p q).trans ((takes_7 _ _ p).trans (readsSet_7 M p q))⟩
theorem fault_TP {M : ARR} (h : bn 0 60 (M 7 8)) : TP (F_M_fault M).2 := (fault_L 17 1 _ (FK_i h)).1
theorem fault_n {M : ARR} (h : bn 0 60 (M 7 8)) : bn 0 16 ((F_M_fault M).2 7 11) := (fault_L 17 1 _ (FK_i h)).2.1
theorem fault_o {M : ARR} (h : bn 0 60 (M 7 8)) {i : Nat} (h6 : i ≠ 6) (h7 : i ≠ 7) : (F_M_fault M).2 i = M i := ((fault_L 17 1 _ (FK_i h)).2.2.1 i h6 h7).trans (by rw [sA_o _ _ _ _ h7, sA_o _ _ _ _ h7])
theorem fault_7 {M : ARR} (h : bn 0 60 (M 7 8)) {j : Nat} (h9 : j ≠ 9) (h11 : j ≠ 11) : (F_M_fault M).2 7 j = M 7 j := ((fault_L 17 1 _ (FK_i h)).2.2.2 j h9 h11).trans (by rw [sA_ne _ _ _ _ h11, sA_ne _ _ _ _ h9])
/-! what would be, tried on the row and taken back -/
theorem L30_o (a : Int32) : ∀ (n : Nat) (x : Int32) (M : ARR) {i : Nat}, i ≠ 0 → L_M_brings_30 a n x M i = M i
  | 0, _, _, _, _ => rfl
  | n + 1, x, M, i, h => by
    simp only [L_M_brings_30]
    split
    · rfl
    · rw [L30_o a n _ _ h, cycles_o _ h]
theorem IA_tr {M : ARR} {v : Int32} (h : IA (M 0)) (hv : bn 500 1200 v) (g : Nat → Int32) : IA (sA (sA (sR M 2 g) 0 39 v) 0 41 0 0) := by
  refine IA_mod h (fun j hj => ?_) ?_ ?_ ?_ ?_
  · rw [sA_ne _ _ _ _ (by omega), sA_ne _ _ _ _ (by omega), sR_o _ _ _ (by decide)]
  · rw [sA_ne _ _ _ _ (by omega), sA_ne _ _ _ _ (by omega), sA_ne _ _ _ _ (by omega), sA_ne _ _ _ _ (by omega), sR_o _ _ _ (by decide)]; exact h.w
  · rw [sA_ne _ _ _ _ (by omega), sA_e]; exact hv
  · rw [sA_ne _ _ _ _ (by omega), sA_ne _ _ _ _ (by omega), sR_o _ _ _ (by decide)]; exact h.h
  · rw [sA_e]; exact ⟨0, by omega, by omega, rfl⟩
theorem brings_row (M : ARR) (v c w : Int32) {j : Nat} (hj : j < 55) : (F_M_brings M v c w).2 0 j = M 0 j := by
  unfold F_M_brings
  dsimp only
  rw [sR_e, cpy55_lt hj, L30_o _ _ _ _ (by decide), sA_o _ _ _ _ (by decide), sA_o _ _ _ _ (by decide), sR_e, cpy55_lt hj]
theorem brings_IA {M : ARR} (h : IA (M 0)) (v c w : Int32) : IA ((F_M_brings M v c w).2 0) := IA_congr h (fun j hj => brings_row M v c w hj)
theorem wl_i {a x : Int32} (h0 : 0 ≤ a) (hx : bn 1 16 x) (hc : ¬ x ≤ a) : ∃ k : Nat, k < 16 ∧ a = nI k := by
  obtain ⟨n, h1, h2, rfl⟩ := hx
  obtain ⟨j, hj, rfl⟩ := nI_of (Int32.not_lt.mpr h0)
  refine ⟨j, ?_, rfl⟩
  rcases Nat.lt_or_ge j 16 with q | q
  · exact q
  · exact absurd (nI_le (show n ≤ j by omega) hj) hc
theorem vin_set {x : Int32} (h : bn 17 23 x) : vp_in (((32 : Int32) + x) - (17 : Int32)) 55 := by
  obtain ⟨k, h1, h2, rfl⟩ := h
  rw [show (32 : Int32) + nI k = nI (32 + k) from nI_add 32 k, show nI (32 + k) - (17 : Int32) = nI (32 + k - 17) from pk_sub (a := 32 + k) (b := 17) (by omega)]
  exact vp_in_nI (by omega) (by omega)
def lv7 (n : Nat) (x : Int32) : Prop := ∃ k : Nat, x = nI k ∧ 500 ≤ k ∧ k ≤ 1201 ∧ 1202 ≤ k + n
theorem lv7_v {n : Nat} {x : Int32} (h : lv7 n x) (hc : ¬ (1200 : Int32) < x) : bn 500 1200 x := by
  obtain ⟨k, rfl, h1, h2, _⟩ := h
  refine ⟨k, h1, ?_, rfl⟩
  rcases Nat.lt_or_ge 1200 k with q | q
  · exact absurd (nI_lt (a := 1200) q (by omega)) hc
  · exact q
theorem lv7_b {n : Nat} {x y : Int32} (h : lv7 (n + 1) x) (hc : ¬ (1200 : Int32) < x) (hy : y = x + 1) : lv7 n y := by
  obtain ⟨k, h1, h2, h3⟩ := lv7_v h hc
  obtain ⟨k', e, _, _, h6⟩ := h
  have : k' = k := by
    rw [e] at h3
    have := congrArg Int32.toNatClampNeg h3
    rw [nI_clamp (by omega), nI_clamp (by omega)] at this
    exact this
  subst this
  exact ⟨k' + 1, by rw [hy, e]; exact nI_1 k', by omega, by omega, by omega⟩
def bs5 (n : Nat) (x : Int32) : Prop := ∃ j : Nat, x = nI (500 + 50 * j) ∧ j ≤ 15 ∧ 16 ≤ j + n
theorem bs5_v {n : Nat} {x : Int32} (h : bs5 n x) (hc : ¬ (1200 : Int32) < x) : bn 500 1200 x := by
  obtain ⟨j, rfl, h1, _⟩ := h
  refine ⟨500 + 50 * j, by omega, ?_, rfl⟩
  rcases Nat.lt_or_ge 1200 (500 + 50 * j) with q | q
  · exact absurd (nI_lt (a := 1200) q (by omega)) hc
  · exact q
theorem bs5_b {n : Nat} {x y : Int32} (h : bs5 (n + 1) x) (hc : ¬ (1200 : Int32) < x) (hy : y = x + (50 : Int32)) : bs5 n y := by
  obtain ⟨k, h1, h2, h3⟩ := bs5_v h hc
  obtain ⟨j, e, _, h6⟩ := h
  have : 500 + 50 * j = k := by
    rw [e] at h3
    have := congrArg Int32.toNatClampNeg h3
    rw [nI_clamp (by omega), nI_clamp (by omega)] at this
    exact this
  exact ⟨j + 1, by rw [hy, e]; exact nI_add (500 + 50 * j) 50, by omega, by omega⟩
theorem hz_next {M : ARR} {n : Nat} (h : ∃ k t : Nat, k ≤ t ∧ t ≤ 60 ∧ M 7 9 = nI k ∧ M 7 8 = nI t ∧ t + 1 ≤ k + (n + 1)) (hc : ¬ M 7 8 ≤ M 7 9) : ∃ k t : Nat, k ≤ t ∧ t ≤ 60 ∧ sA M 7 9 ((M 7 9) + (1 : Int32)) 7 9 = nI k ∧ sA M 7 9 ((M 7 9) + (1 : Int32)) 7 8 = nI t ∧ t + 1 ≤ k + n := by
  obtain ⟨k, t, h1, h2, h3, h4, h5⟩ := h
  rw [h3, h4] at hc
  have hlt : k < t := by
    rcases Nat.lt_or_ge k t with q | q
    · exact q
    · exact absurd (nI_le q (by omega)) hc
  exact ⟨k + 1, t, hlt, h2, by rw [sA_e, h3]; exact nI_1 k, by rw [sA_ne _ _ _ _ (by decide)]; exact h4, by omega⟩
theorem bn_dec {x : Int32} (h : bn 0 4 x) (hc : ¬ x = 0) : bn 0 3 (x - (1 : Int32)) := by
  obtain ⟨k, _, h2, rfl⟩ := h
  have h0 : 1 ≤ k := by
    rcases Nat.lt_or_ge k 1 with q | q
    · exact absurd (by rw [show k = 0 by omega]; rfl) hc
    · exact q
  exact ⟨k - 1, by omega, by omega, pk_sub (b := 1) h0⟩
theorem cy_ne {P : Nat} {x v : Int32} (hP : P ≤ 8) (hv : v = (8 : Int32) + x) (h : ∃ k : Nat, k < P ∧ x = nI k) {j : Nat} (hj : 16 ≤ j) : j ≠ v.toNatClampNeg := by
  obtain ⟨k, h1, rfl⟩ := h
  rw [hv, show (8 : Int32) + nI k = nI (8 + k) from nI_add 8 k, nI_clamp (by omega)]
  omega
