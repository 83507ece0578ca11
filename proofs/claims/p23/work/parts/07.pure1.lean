/-! pure rows: bounded numbers, loops that count up, indices -/
def bn (lo hi : Nat) (x : Int32) : Prop := ∃ n : Nat, lo ≤ n ∧ n ≤ hi ∧ x = nI n
def cu (B n : Nat) (x : Int32) : Prop := ∃ k : Nat, x = nI k ∧ k ≤ B ∧ B + 1 ≤ k + n
theorem cu_0 {B : Nat} {x : Int32} (h : cu B 0 x) : False := by
  obtain ⟨k, _, h1, h2⟩ := h
  omega
theorem cu_i {B n : Nat} (h : B + 1 ≤ n) : cu B n 0 := ⟨0, nI_0.symm, Nat.zero_le _, by omega⟩
theorem cu_lt {B n : Nat} {x b : Int32} (h : cu B (n + 1) x) (hB : B < 2 ^ 31) (hb : b = nI B) (hn : ¬ b ≤ x) : ∃ k : Nat, k < B ∧ x = nI k := by
  obtain ⟨k, hk, h1, h2⟩ := h
  refine ⟨k, ?_, hk⟩
  rcases Nat.lt_or_ge k B with q | q
  · exact q
  · exact absurd (by rw [hb, hk]; exact nI_le q (by omega)) hn
theorem cu_b {B n : Nat} {x y b : Int32} (h : cu B (n + 1) x) (hB : B < 2 ^ 31) (hb : b = nI B) (hn : ¬ b ≤ x) (hy : y = x + 1) : cu B n y := by
  obtain ⟨k, hk, h1, h2⟩ := h
  have hlt : k < B := by
    rcases Nat.lt_or_ge k B with q | q
    · exact q
    · exact absurd (by rw [hb, hk]; exact nI_le q (by omega)) hn
  exact ⟨k + 1, by rw [hy, hk]; exact nI_1 k, hlt, by omega⟩
theorem bn_lt {lo hi : Nat} {x : Int32} (h : bn lo hi x) : ∃ k : Nat, k < hi + 1 ∧ x = nI k := by
  obtain ⟨n, _, h1, h2⟩ := h
  exact ⟨n, by omega, h2⟩
theorem bn_w {lo hi lo' hi' : Nat} {x : Int32} (h : bn lo hi x) (h1 : lo' ≤ lo) (h2 : hi ≤ hi') : bn lo' hi' x := by
  obtain ⟨n, a, b, c⟩ := h
  exact ⟨n, by omega, by omega, c⟩
theorem bn_c {lo hi : Nat} (n : Nat) (h1 : lo ≤ n) (h2 : n ≤ hi) : bn lo hi (nI n) := ⟨n, h1, h2, rfl⟩
theorem vin_k {B N : Nat} {x : Int32} (h : ∃ k : Nat, k < B ∧ x = nI k) (hN : B ≤ N) (h2 : N < 2 ^ 31) : vp_in x N := by
  obtain ⟨k, h1, rfl⟩ := h
  exact vp_in_nI (by omega) h2
theorem vin_a (c : Nat) {B N : Nat} {x : Int32} (h : ∃ k : Nat, k < B ∧ x = nI k) (hN : c + B ≤ N) (h2 : N < 2 ^ 31) : vp_in (nI c + x) N := by
  obtain ⟨k, h1, rfl⟩ := h
  rw [nI_add]
  exact vp_in_nI (by omega) h2
theorem vne {v : Int32} (h : bn 500 1200 v) : ¬ (v - (300 : Int32)) = 0 := by
  obtain ⟨n, h1, h2, rfl⟩ := h
  have e : nI n - (300 : Int32) = nI (n - 300) := pk_sub (a := n) (b := 300) (by omega)
  rw [e]
  exact nI_ne0 (by omega) (by omega)
theorem nb {x : Int32} (h : x = 0 ∨ x = 1) : narrow .boolean (.int x) = .int x := by
  rcases h with rfl | rfl <;> rfl
/-! rows of numbers -/
def sR (M : ARR) (i : Nat) (g : Nat → Int32) : ARR := fun a => if a = i then g else M a
def cpy55 (f g : Nat → Int32) : Nat → Int32 := fun j => if j < 55 then f j else g j
theorem sA_e (M : ARR) (i k : Nat) (v : Int32) : sA M i k v i k = v := by simp [sA, upd]
theorem sA_ne (M : ARR) (i k : Nat) (v : Int32) {j : Nat} (h : j ≠ k) : sA M i k v i j = M i j := by simp [sA, upd, h]
theorem sA_o (M : ARR) (i k : Nat) (v : Int32) {a : Nat} (h : a ≠ i) : sA M i k v a = M a := by simp [sA, h]
theorem sR_e (M : ARR) (i : Nat) (g : Nat → Int32) : sR M i g i = g := by simp [sR]
theorem sR_o (M : ARR) (i : Nat) (g : Nat → Int32) {a : Nat} (h : a ≠ i) : sR M i g a = M a := by simp [sR, h]
theorem cpy55_lt {f g : Nat → Int32} {j : Nat} (h : j < 55) : cpy55 f g j = f j := by simp [cpy55, h]
/-! the invariant of a state: what a row of the 55 numbers keeps to -/
def IA (a : Nat → Int32) : Prop :=
  bn 1 8 (a 51) ∧ (∃ P N : Nat, P < N ∧ N ≤ 16 ∧ a 50 = nI P ∧ a 49 = nI N) ∧ bn 500 1200 (a 39) ∧ bn 20 120 (a 40) ∧ bn 0 1 (a 41) ∧ bn 50 1000 (a 32) ∧ bn 0 200 (a 33) ∧ bn 1 20 (a 34) ∧ bn 10 500 (a 35) ∧ bn 0 100 (a 36) ∧ bn 1 50 (a 37) ∧ bn 1 10 (a 38) ∧ (∀ k, k < 8 → bn 0 400 (a k)) ∧ (∀ k, k < 16 → bn 0 255 (a (16 + k)))
theorem IA.p {a : Nat → Int32} (h : IA a) : bn 1 8 (a 51) := h.1
theorem IA.w {a : Nat → Int32} (h : IA a) : ∃ P N : Nat, P < N ∧ N ≤ 16 ∧ a 50 = nI P ∧ a 49 = nI N := h.2.1
theorem IA.v {a : Nat → Int32} (h : IA a) : bn 500 1200 (a 39) := h.2.2.1
theorem IA.h {a : Nat → Int32} (h : IA a) : bn 20 120 (a 40) := h.2.2.2.1
theorem IA.g {a : Nat → Int32} (h : IA a) : bn 0 1 (a 41) := h.2.2.2.2.1
theorem IA.s0 {a : Nat → Int32} (h : IA a) : bn 50 1000 (a 32) := h.2.2.2.2.2.1
theorem IA.s1 {a : Nat → Int32} (h : IA a) : bn 0 200 (a 33) := h.2.2.2.2.2.2.1
theorem IA.s2 {a : Nat → Int32} (h : IA a) : bn 1 20 (a 34) := h.2.2.2.2.2.2.2.1
theorem IA.s3 {a : Nat → Int32} (h : IA a) : bn 10 500 (a 35) := h.2.2.2.2.2.2.2.2.1
theorem IA.s4 {a : Nat → Int32} (h : IA a) : bn 0 100 (a 36) := h.2.2.2.2.2.2.2.2.2.1
theorem IA.s5 {a : Nat → Int32} (h : IA a) : bn 1 50 (a 37) := h.2.2.2.2.2.2.2.2.2.2.1
theorem IA.s6 {a : Nat → Int32} (h : IA a) : bn 1 10 (a 38) := h.2.2.2.2.2.2.2.2.2.2.2.1
theorem IA.l {a : Nat → Int32} (h : IA a) : ∀ k, k < 8 → bn 0 400 (a k) := h.2.2.2.2.2.2.2.2.2.2.2.2.1
theorem IA.t {a : Nat → Int32} (h : IA a) : ∀ k, k < 16 → bn 0 255 (a (16 + k)) := h.2.2.2.2.2.2.2.2.2.2.2.2.2
theorem IA.c {a : Nat → Int32} (h : IA a) : bn 1 16 (a 49) := by
  obtain ⟨P, N, h1, h2, h3, h4⟩ := h.w
  exact ⟨N, by omega, h2, h4⟩
theorem IA.q {a : Nat → Int32} (h : IA a) : bn 0 15 (a 50) := by
  obtain ⟨P, N, h1, h2, h3, h4⟩ := h.w
  exact ⟨P, by omega, by omega, h3⟩
theorem IA_congr {a b : Nat → Int32} (h : IA a) (e : ∀ j, j < 55 → b j = a j) : IA b := by
  obtain ⟨h1, h2, h3, h4, h5, h6, h7, h8, h9, h10, h11, h12, h13, h14⟩ := h
  refine ⟨?_, ?_, ?_, ?_, ?_, ?_, ?_, ?_, ?_, ?_, ?_, ?_, fun k hk => ?_, fun k hk => ?_⟩
  · rw [e _ (by omega)]; exact h1
  · rw [e 50 (by omega), e 49 (by omega)]; exact h2
  all_goals (rw [e _ (by omega)]; first | assumption | exact h13 k hk | exact h14 k hk)
