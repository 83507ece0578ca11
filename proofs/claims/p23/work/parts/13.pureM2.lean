/-! the invariant under the methods of the reference -/
theorem IA_mod {a b : Nat → Int32} (h : IA a) (e : ∀ j, (j < 8 ∨ (16 ≤ j ∧ j < 39) ∨ j = 51) → b j = a j) (hw : ∃ P N : Nat, P < N ∧ N ≤ 16 ∧ b 50 = nI P ∧ b 49 = nI N) (hv : bn 500 1200 (b 39)) (hh : bn 20 120 (b 40)) (hg : bn 0 1 (b 41)) : IA b := by
  obtain ⟨h1, -, -, -, -, h6, h7, h8, h9, h10, h11, h12, h13, h14⟩ := h
  refine ⟨?_, hw, hv, hh, hg, ?_, ?_, ?_, ?_, ?_, ?_, ?_, fun k hk => ?_, fun k hk => ?_⟩
  all_goals (rw [e _ (by omega)]; first | assumption | exact h13 k hk | exact h14 k hk)
theorem IA_put {M : ARR} (h : IA (M 0)) (k : Nat) (v : Int32) (hk : 41 < k ∧ k ≠ 49 ∧ k ≠ 50 ∧ k ≠ 51) : IA (sA M 0 k v 0) := by
  refine IA_mod h (fun j hj => sA_ne _ _ _ _ (by omega)) ?_ ?_ ?_ ?_
  · rw [sA_ne _ _ _ _ (by omega), sA_ne _ _ _ _ (by omega)]; exact h.w
  · rw [sA_ne _ _ _ _ (by omega)]; exact h.v
  · rw [sA_ne _ _ _ _ (by omega)]; exact h.h
  · rw [sA_ne _ _ _ _ (by omega)]; exact h.g
theorem spends_o (M : ARR) (u : Int32) {i : Nat} (h : i ≠ 0) : F_M_spends M u i = M i := by
  unfold F_M_spends
  dsimp only
  split <;> simp only [sA_o _ _ _ _ h]
theorem spends_at (M : ARR) (u : Int32) {j : Nat} (h1 : j ≠ 40) (h2 : j ≠ 42) (h3 : j ≠ 46) (h4 : j ≠ 47) (h5 : j ≠ 54) : F_M_spends M u 0 j = M 0 j := by
  unfold F_M_spends
  dsimp only
  split <;> simp only [sA_ne _ _ _ _ h1, sA_ne _ _ _ _ h2, sA_ne _ _ _ _ h3, sA_ne _ _ _ _ h4, sA_ne _ _ _ _ h5]
/-- where the heat goes: nearer by one -/
def hstep (h n : Int32) : Int32 := if n ≤ h then (if h ≤ n then 0 else -1) else 1
theorem spends_heat (M : ARR) (u : Int32) : F_M_spends M u 0 40 = (if ((M 0 42 + 1) - (M 0 42 + 1) / 4 * 4 : Int32) = 0 then M 0 40 + hstep (M 0 40) (if (20 : Int32) + u * M 0 39 / 100 ≤ 120 then (20 : Int32) + u * M 0 39 / 100 else 120) else M 0 40) := by
  have e40 : ∀ v1 v2 v3 v4, sA (sA (sA (sA M 0 46 v1) 0 54 v2) 0 42 v3) 0 47 v4 0 40 = M 0 40 := fun v1 v2 v3 v4 => by
    rw [sA_ne _ _ _ _ (by decide), sA_ne _ _ _ _ (by decide), sA_ne _ _ _ _ (by decide), sA_ne _ _ _ _ (by decide)]
  have e39 : ∀ v1 v2 v3 v4, sA (sA (sA (sA M 0 46 v1) 0 54 v2) 0 42 v3) 0 47 v4 0 39 = M 0 39 := fun v1 v2 v3 v4 => by
    rw [sA_ne _ _ _ _ (by decide), sA_ne _ _ _ _ (by decide), sA_ne _ _ _ _ (by decide), sA_ne _ _ _ _ (by decide)]
  have e42 : ∀ v1 v2 v3 v4, sA (sA (sA (sA M 0 46 v1) 0 54 v2) 0 42 v3) 0 47 v4 0 42 = v3 := fun v1 v2 v3 v4 => by
    rw [sA_ne _ _ _ _ (by decide), sA_e]
  have e42b : ∀ v1 v2, sA (sA M 0 46 v1) 0 54 v2 0 42 = M 0 42 := fun v1 v2 => by
    rw [sA_ne _ _ _ _ (by decide), sA_ne _ _ _ _ (by decide)]
  unfold F_M_spends
  dsimp only
  rw [e42, e42b]
  by_cases hc : ((M 0 42 + 1) - (M 0 42 + 1) / 4 * 4 : Int32) = 0
  · rw [if_pos hc, if_pos hc, sA_e]
    simp only [e40, e39]
    rfl
  · rw [if_neg hc, if_neg hc, e40]
theorem near_bn {u v : Int32} (hu : bn 0 8 u) (hv : bn 500 1200 v) : bn 20 120 (if (20 : Int32) + u * v / 100 ≤ 120 then (20 : Int32) + u * v / 100 else 120) := by
  obtain ⟨a, _, h2, rfl⟩ := hu
  obtain ⟨b, _, h4, rfl⟩ := hv
  have hab : a * b ≤ 8 * 1200 := Nat.mul_le_mul h2 h4
  have e : (20 : Int32) + nI a * nI b / 100 = nI (20 + a * b / 100) := by
    rw [pk_mul, show nI (a * b) / 100 = nI (a * b / 100) from pk_div (a := a * b) (d := 100) (by omega) (by omega) (by omega)]
    exact nI_add 20 _
  rw [e]
  by_cases hc : nI (20 + a * b / 100) ≤ (120 : Int32)
  · rw [if_pos hc]
    have := (nI_leI (a := 20 + a * b / 100) (b := 120) (by omega) (by omega)).mp hc
    exact ⟨_, by omega, this, rfl⟩
  · rw [if_neg hc]
    exact ⟨120, by omega, by omega, rfl⟩
theorem hstep_bn {h n : Int32} (hh : bn 20 120 h) (hn : bn 20 120 n) : bn 20 120 (h + hstep h n) := by
  obtain ⟨a, h1, h2, rfl⟩ := hh
  obtain ⟨b, h3, h4, rfl⟩ := hn
  unfold hstep
  by_cases c1 : nI b ≤ nI a
  · rw [if_pos c1]
    by_cases c2 : nI a ≤ nI b
    · rw [if_pos c2]
      exact ⟨a, h1, h2, by rw [show (0 : Int32) = nI 0 from rfl, nI_add]; rfl⟩
    · rw [if_neg c2]
      have l2 : ¬ a ≤ b := fun q => c2 ((nI_leI (by omega) (by omega)).mpr q)
      obtain ⟨a', rfl⟩ : ∃ a', a = a' + 1 := ⟨a - 1, by omega⟩
      exact ⟨a', by omega, by omega, pk_m1 a'⟩
  · rw [if_neg c1]
    have l1 : ¬ b ≤ a := fun q => c1 ((nI_leI (by omega) (by omega)).mpr q)
    exact ⟨a + 1, by omega, by omega, nI_1 a⟩
theorem IA_spends {M : ARR} {u : Int32} (h : IA (M 0)) (hu : bn 0 8 u) : IA (F_M_spends M u 0) := by
  refine IA_mod h (fun j hj => spends_at M u (by omega) (by omega) (by omega) (by omega) (by omega)) ?_ ?_ ?_ ?_
  · rw [spends_at M u (by omega) (by omega) (by omega) (by omega) (by omega), spends_at M u (by omega) (by omega) (by omega) (by omega) (by omega)]
    exact h.w
  · rw [spends_at M u (by omega) (by omega) (by omega) (by omega) (by omega)]; exact h.v
  · rw [spends_heat]
    split
    · exact hstep_bn h.h (near_bn hu h.v)
    · exact h.h
  · rw [spends_at M u (by omega) (by omega) (by omega) (by omega) (by omega)]; exact h.g
def clampV (x : Int32) : Int32 := if (500 : Int32) ≤ x then (if x ≤ (1200 : Int32) then x else 1200) else 500
theorem clampV_bn (x : Int32) : bn 500 1200 (clampV x) := by
  unfold clampV
  by_cases c1 : (500 : Int32) ≤ x
  · rw [if_pos c1]
    by_cases c2 : x ≤ (1200 : Int32)
    · rw [if_pos c2]
      rw [Int32.le_iff_toInt_le] at c1 c2
      have e1 : (500 : Int32).toInt = 500 := rfl
      have e2 : (1200 : Int32).toInt = 1200 := rfl
      have h0 : ¬ x < 0 := fun q => by
        rw [Int32.lt_iff_toInt_lt] at q
        have : (0 : Int32).toInt = 0 := rfl
        omega
      obtain ⟨j, hj, rfl⟩ := nI_of h0
      rw [nI_toInt hj] at c1 c2
      exact ⟨j, by omega, by omega, rfl⟩
    · rw [if_neg c2]; exact ⟨1200, by omega, by omega, rfl⟩
  · rw [if_neg c1]; exact ⟨500, by omega, by omega, rfl⟩
theorem looks_o (M : ARR) {i : Nat} (h : i ≠ 0) : F_M_looks M i = M i := by
  unfold F_M_looks
  dsimp only
  simp only [sA_o _ _ _ _ h]
  repeat' split
  all_goals simp only [sA_o _ _ _ _ h]
theorem looks_at (M : ARR) {j : Nat} (h1 : j ≠ 39) (h2 : j ≠ 47) (h3 : j ≠ 48) (h4 : j ≠ 52) (h5 : j ≠ 53) : F_M_looks M 0 j = M 0 j := by
  unfold F_M_looks
  dsimp only
  simp only [sA_ne _ _ _ _ h1, sA_ne _ _ _ _ h2, sA_ne _ _ _ _ h3]
  repeat' split
  all_goals simp only [sA_ne _ _ _ _ h1, sA_ne _ _ _ _ h4, sA_ne _ _ _ _ h5]
theorem looks_v (M : ARR) : ∃ x, F_M_looks M 0 39 = clampV x := by
  unfold F_M_looks
  dsimp only
  rw [sA_ne _ _ _ _ (by decide), sA_ne _ _ _ _ (by decide), sA_e]
  exact ⟨_, rfl⟩
theorem IA_looks {M : ARR} (h : IA (M 0)) : IA (F_M_looks M 0) := by
  refine IA_mod h (fun j hj => looks_at M (by omega) (by omega) (by omega) (by omega) (by omega)) ?_ ?_ ?_ ?_
  · rw [looks_at M (by omega) (by omega) (by omega) (by omega) (by omega), looks_at M (by omega) (by omega) (by omega) (by omega) (by omega)]
    exact h.w
  · obtain ⟨x, e⟩ := looks_v M
    rw [e]; exact clampV_bn x
  · rw [looks_at M (by omega) (by omega) (by omega) (by omega) (by omega)]; exact h.h
  · rw [looks_at M (by omega) (by omega) (by omega) (by omega) (by omega)]; exact h.g
theorem L48_o (v : Int32) : ∀ (n : Nat) (x : Int32) (M : ARR) {i : Nat}, i ≠ 0 → L_M_cycles_48 v n x M i = M i
  | 0, _, _, _, _ => rfl
  | n + 1, x, M, i, h => by
    simp only [L_M_cycles_48]
    split
    · rfl
    · rw [L48_o v n _ _ h, sA_o _ _ _ _ h]
theorem L48_at (v : Int32) {P : Nat} (hP : P ≤ 8) : ∀ (n : Nat) (x : Int32) (M : ARR), cu P n x → M 0 51 = nI P → ∀ j, (j < 8 ∨ 16 ≤ j) → L_M_cycles_48 v n x M 0 j = M 0 j
  | 0, _, _, h, _, _, _ => (cu_0 h).elim
  | n + 1, x, M, h, hp, j, hj => by
    simp only [L_M_cycles_48]
    split
    · rfl
    · rename_i hc
      obtain ⟨k, hk, hx⟩ := cu_lt h (by omega) hp hc
      have e : ((8 : Int32) + x).toNatClampNeg = 8 + k := by
        rw [hx, show (8 : Int32) + nI k = nI (8 + k) from nI_add 8 k, nI_clamp (by omega)]
      rw [e]
      rw [L48_at v hP n _ _ (cu_b h (by omega) hp hc rfl) (by rw [sA_ne _ _ _ _ (by omega)]; exact hp) j hj, sA_ne _ _ _ _ (by omega)]
theorem L163_o : ∀ (n : Nat) (x : Int32) (M : ARR) {i : Nat}, i ≠ 0 → L_M_cycles_163 n x M i = M i
  | 0, _, _, _, _ => rfl
  | n + 1, x, M, i, h => by
    simp only [L_M_cycles_163]
    split
    · rfl
    · rw [L163_o n _ _ h, spends_o _ _ h]
theorem IA_L163 : ∀ (n : Nat) (x : Int32) (M : ARR), IA (M 0) → IA (L_M_cycles_163 n x M 0)
  | 0, _, _, h => h
  | n + 1, x, M, h => by
    simp only [L_M_cycles_163]
    split
    · exact h
    · exact IA_L163 n _ _ (IA_spends h ⟨0, by omega, by omega, rfl⟩)
theorem set_bn {M : ARR} (h : IA (M 0)) : bn 0 255 (M 0 (((16 : Int32) + (M 0 50)).toNatClampNeg)) := by
  obtain ⟨P, N, h1, h2, h3, h4⟩ := h.w
  rw [h3, show (16 : Int32) + nI P = nI (16 + P) from nI_add 16 P, nI_clamp (by omega)]
  exact h.t P (by omega)
theorem IA_place {M : ARR} (h : IA (M 0)) : IA (sA M 0 50 (((M 0 50) + (1 : Int32)) - ((M 0 50) + (1 : Int32)) / (M 0 49) * (M 0 49)) 0) := by
  refine IA_mod h (fun j hj => sA_ne _ _ _ _ (by omega)) ?_ ?_ ?_ ?_
  · obtain ⟨P, N, h1, h2, h3, h4⟩ := h.w
    rw [sA_e, sA_ne _ _ _ _ (by omega), h3, h4, nI_1, pk_rem (by omega) (by omega) (by omega)]
    exact ⟨(P + 1) % N, N, Nat.mod_lt _ (by omega), h2, rfl, rfl⟩
  · rw [sA_ne _ _ _ _ (by omega)]; exact h.v
  · rw [sA_ne _ _ _ _ (by omega)]; exact h.h
  · rw [sA_ne _ _ _ _ (by omega)]; exact h.g
theorem IA_L48 {M : ARR} (v : Int32) (h : IA (M 0)) {P : Nat} (hP : P ≤ 8) (hp : M 0 51 = nI P) : IA (L_M_cycles_48 v 9 0 M 0) := by
  have e := L48_at v hP 9 0 M (cu_i (by omega)) hp
  refine IA_mod h (fun j hj => e j (by omega)) ?_ ?_ ?_ ?_
  · rw [e 50 (by omega), e 49 (by omega)]; exact h.w
  · rw [e 39 (by omega)]; exact h.v
  · rw [e 40 (by omega)]; exact h.h
  · rw [e 41 (by omega)]; exact h.g
theorem many8 : ∀ r : Nat, r < 256 → (F_M_many (nI r)).toNatClampNeg ≤ 8 ∧ F_M_many (nI r) = nI (F_M_many (nI r)).toNatClampNeg := by decide +kernel
theorem many_bn {x : Int32} (h : bn 0 255 x) : bn 0 8 (F_M_many x) := by
  obtain ⟨r, _, h2, rfl⟩ := h
  obtain ⟨h3, h4⟩ := many8 r (by omega)
  exact ⟨_, Nat.zero_le _, h3, h4⟩
theorem cycles_o (M : ARR) {i : Nat} (h : i ≠ 0) : F_M_cycles M i = M i := by
  unfold F_M_cycles
  dsimp only
  repeat' split
  all_goals simp only [looks_o _ h, L163_o _ _ _ h, sA_o _ _ _ _ h, spends_o _ _ h, L48_o _ _ _ _ h]
theorem IA_ite {c : Prop} {d : Decidable c} {x y : ARR} (hx : IA (x 0)) (hy : IA (y 0)) : IA ((ite c x y) 0) := by
  by_cases q : c
  · rw [if_pos q]; exact hx
  · rw [if_neg q]; exact hy
theorem IA_cycles {M : ARR} (h : IA (M 0)) : IA (F_M_cycles M 0) := by
  obtain ⟨P, hP1, hP2, hP⟩ := h.p
  have h1 := IA_place h
  have h2 := IA_L48 (M 0 (((16 : Int32) + (M 0 50)).toNatClampNeg)) h1 hP2 (by rw [sA_ne _ _ _ _ (by omega)]; exact hP)
  have h3 := IA_spends h2 (many_bn (set_bn h))
  have h4 : ∀ x : ARR, IA (x 0) → IA ((if F_M_worstOf M (M 0 (((16 : Int32) + (M 0 50)).toNatClampNeg)) = (2 : Int32) then sA x 0 45 ((x 0 45) + (1 : Int32)) else sA x 0 43 ((x 0 43) + (1 : Int32))) 0) := fun x hx => IA_ite (IA_put hx 45 _ (by omega)) (IA_put hx 43 _ (by omega))
  unfold F_M_cycles
  dsimp only
  have h5 : ∀ x : ARR, IA (x 0) → IA ((if (x 0 41) = (1 : Int32) then (if (x 0 47) < (x 0 35) then x else F_M_looks x) else x) 0) := fun x hx => IA_ite (IA_ite hx (IA_looks hx)) hx
  exact h5 _ (IA_ite (IA_L163 _ _ _ (IA_put (IA_put (h4 _ h3) 44 _ (by omega)) 48 _ (by omega))) (h4 _ h3))
