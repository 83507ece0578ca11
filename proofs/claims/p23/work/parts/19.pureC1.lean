/-! a circuit and a row of the reference -/
def SF : List (Nat × Nat) := [(2, 51), (4, 49), (5, 50), (7, 39), (8, 40), (9, 41), (10, 47), (11, 48), (12, 42), (14, 44), (15, 45), (17, 52), (18, 53)]
def RelD (d : Int32) (C : CS) (a : Nat → Int32) : Prop :=
  (∀ k, k < 8 → C.1 0 k = a k) ∧ (∀ k, k < 8 → C.1 1 k = a (8 + k)) ∧ (∀ k N : Nat, a 49 = nI N → N ≤ 16 → k < N → C.1 2 k = a (16 + k)) ∧ (∀ k, k < 16 → bn 0 255 (C.1 2 k)) ∧ (∀ k, k < 7 → C.1 3 k = a (32 + k)) ∧ C.1 4 13 + d = a 43 ∧ ∀ i j, (i, j) ∈ SF → C.1 4 i = a j
theorem RelD.l {d : Int32} {C : CS} {a : Nat → Int32} (h : RelD d C a) : ∀ k, k < 8 → C.1 0 k = a k := h.1
theorem RelD.u {d : Int32} {C : CS} {a : Nat → Int32} (h : RelD d C a) : ∀ k, k < 8 → C.1 1 k = a (8 + k) := h.2.1
theorem RelD.s {d : Int32} {C : CS} {a : Nat → Int32} (h : RelD d C a) : ∀ k N : Nat, a 49 = nI N → N ≤ 16 → k < N → C.1 2 k = a (16 + k) := h.2.2.1
theorem RelD.t {d : Int32} {C : CS} {a : Nat → Int32} (h : RelD d C a) : ∀ k, k < 16 → bn 0 255 (C.1 2 k) := h.2.2.2.1
theorem RelD.e {d : Int32} {C : CS} {a : Nat → Int32} (h : RelD d C a) : ∀ k, k < 7 → C.1 3 k = a (32 + k) := h.2.2.2.2.1
theorem RelD.w {d : Int32} {C : CS} {a : Nat → Int32} (h : RelD d C a) : C.1 4 13 + d = a 43 := h.2.2.2.2.2.1
theorem RelD.f {d : Int32} {C : CS} {a : Nat → Int32} (h : RelD d C a) (i j : Nat) (q : (i, j) ∈ SF) : C.1 4 i = a j := h.2.2.2.2.2.2 i j q
def RelE (B : Nat) (C : CS) (a : Nat → Int32) : Prop := ∃ E : Nat, E ≤ B ∧ C.2 = lN E ∧ a 46 = nI (E / 1000) ∧ a 54 = nI (E % 1000)
def OKC (C : CS) : Prop := ∃ a : Nat → Int32, RelD 0 C a ∧ IA a ∧ ∃ B : Nat, RelE B C a
theorem OKC.p {C : CS} (h : OKC C) : bn 1 8 (C.1 4 2) := by
  obtain ⟨a, h, hI, -⟩ := h
  rw [h.f 2 51 (by decide)]; exact hI.p
theorem OKC.v {C : CS} (h : OKC C) : bn 500 1200 (C.1 4 7) := by
  obtain ⟨a, h, hI, -⟩ := h
  rw [h.f 7 39 (by decide)]; exact hI.v
theorem bn01 {x : Int32} (h : bn 0 1 x) : x = 0 ∨ x = 1 := by
  obtain ⟨n, _, h2, rfl⟩ := h
  rcases Nat.lt_or_ge n 1 with q | q
  · exact Or.inl (by rw [show n = 0 by omega]; rfl)
  · exact Or.inr (by rw [show n = 1 by omega]; rfl)
theorem OKC.g {C : CS} (h : OKC C) : C.1 4 9 = 0 ∨ C.1 4 9 = 1 := by
  obtain ⟨a, h, hI, -⟩ := h
  rw [h.f 9 41 (by decide)]; exact bn01 hI.g
theorem OKC.w {C : CS} (h : OKC C) : ∃ P N : Nat, P < N ∧ N ≤ 16 ∧ C.1 4 5 = nI P ∧ C.1 4 4 = nI N := by
  obtain ⟨a, h, hI, -⟩ := h
  rw [h.f 5 50 (by decide), h.f 4 49 (by decide)]; exact hI.w
theorem OKC.c {C : CS} (h : OKC C) : bn 1 16 (C.1 4 4) := by
  obtain ⟨P, N, h1, h2, h3, h4⟩ := h.w
  exact ⟨N, by omega, h2, h4⟩
theorem OKC.qi {C : CS} (h : OKC C) : vp_in (C.1 4 5) 16 := by
  obtain ⟨P, N, h1, h2, h3, h4⟩ := h.w
  rw [h3]; exact vp_in_nI (by omega) (by omega)
theorem OKC.r {C : CS} (h : OKC C) : bn 1 20 (C.1 3 2) := by
  obtain ⟨a, h, hI, -⟩ := h
  rw [h.e 2 (by omega)]; exact hI.s2
theorem OKC.t {C : CS} (h : OKC C) : ∀ k, k < 16 → bn 0 255 (C.1 2 k) := by
  obtain ⟨a, h, hI, -⟩ := h
  exact h.t
/-! rows of a circuit's numbers -/
theorem sC_e (C : CS) (i k : Nat) (v : Int32) : (sC C i k v).1 i k = v := sA_e C.1 i k v
theorem sC_ne (C : CS) (i k : Nat) (v : Int32) {j : Nat} (h : j ≠ k) : (sC C i k v).1 i j = C.1 i j := sA_ne C.1 i k v h
theorem sC_o (C : CS) (i k : Nat) (v : Int32) {a : Nat} (h : a ≠ i) : (sC C i k v).1 a = C.1 a := sA_o C.1 i k v h
theorem sE_1 (C : CS) (v : Int64) : (sE C v).1 = C.1 := rfl
theorem Cheat_o (C : CS) (n : Int32) {i : Nat} (h : i ≠ 4) : (F_C_changeHeat C n).1 i = C.1 i := by
  unfold F_C_changeHeat
  dsimp only
  repeat' split
  all_goals first | rfl | exact sC_o _ _ _ _ h
theorem Cheat_at (C : CS) (n : Int32) {j : Nat} (h : j ≠ 8) : (F_C_changeHeat C n).1 4 j = C.1 4 j := by
  unfold F_C_changeHeat
  dsimp only
  repeat' split
  all_goals first | rfl | exact sC_ne _ _ _ _ h
theorem Cheat_2 (C : CS) (n : Int32) : (F_C_changeHeat C n).2 = C.2 := by
  unfold F_C_changeHeat
  dsimp only
  repeat' split
  all_goals rfl
theorem Cspend_o (C : CS) (n : Int32) {i : Nat} (h : i ≠ 4) : (F_C_spendCycle C n).1 i = C.1 i := by
  unfold F_C_spendCycle
  dsimp only
  repeat' split
  all_goals simp only [Cheat_o _ _ h, sE_1, sC_o _ _ _ _ h]
theorem Cspend_3 (C : CS) (n : Int32) : (F_C_spendCycle C n).1 3 = C.1 3 := Cspend_o C n (by decide)
theorem LCuses_o (a : Int32) : ∀ (n : Nat) (x : Int32) (C : CS) {i : Nat}, i ≠ 1 → (L_C_countUses_2 a n x C).1 i = C.1 i
  | 0, _, _, _, _ => rfl
  | n + 1, x, C, i, h => by
    simp only [L_C_countUses_2]
    split
    · rfl
    · rw [LCuses_o a n _ _ h, sC_o _ _ _ _ h]
theorem Cuses_o (C : CS) (a : Int32) {i : Nat} (h : i ≠ 1) : (F_C_countUses C a).1 i = C.1 i := LCuses_o a 9 0 C h
theorem lt60_i {x : Int32} (h : bn 0 60 x) (hc : x < (60 : Int32)) : vp_in x 60 := by
  obtain ⟨k, _, h2, rfl⟩ := h
  exact vp_in_nI ((nI_ltI (a := k) (b := 60) (by omega) (by omega)).mp hc) (by omega)
theorem bn_i16 {x : Int32} (h : bn 1 16 x) (hc : ¬ (16 : Int32) ≤ x) : ∃ k : Nat, k < 16 ∧ x = nI k := by
  obtain ⟨k, _, h2, rfl⟩ := h
  refine ⟨k, ?_, rfl⟩
  rcases Nat.lt_or_ge k 16 with q | q
  · exact q
  · exact absurd (nI_le (a := 16) q (by omega)) hc
theorem bn_inc16 {x : Int32} (h : bn 1 16 x) (hc : ¬ (16 : Int32) ≤ x) : bn 1 16 (x + (1 : Int32)) := by
  obtain ⟨k, h1, rfl⟩ := bn_i16 h hc
  exact ⟨k + 1, by omega, by omega, nI_1 k⟩
theorem bn_pred {x : Int32} (h : bn 1 16 x) : vp_in (x - (1 : Int32)) 16 := by
  obtain ⟨k, h1, h2, rfl⟩ := h
  rw [show nI k - (1 : Int32) = nI (k - 1) from pk_sub (b := 1) h1]
  exact vp_in_nI (by omega) (by omega)
