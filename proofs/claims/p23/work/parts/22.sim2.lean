/-! how often paths are used; the worst of a set; the governor's look; a whole cycle -/
theorem and1 (x : Int32) : x &&& 1 = 0 ∨ x &&& 1 = 1 := by
  obtain ⟨j, hj, e⟩ := pk_andE x (m := 1) 1 (by decide)
  rcases Nat.lt_or_ge j 1 with q | q
  · exact Or.inl (by rw [e, show j = 0 by omega]; rfl)
  · exact Or.inr (by rw [e, show j = 1 by omega]; rfl)
theorem rel_use {d : Int32} {C : CS} {M : ARR} (k : Nat) (hk : k < 8) {v w : Int32} (h : RelD d C (M 0)) (hv : v = w) : RelD d (sC C 1 k v) (sA M 0 (8 + k) w 0) := by
  subst hv
  refine ⟨fun q hq => ?_, fun q hq => ?_, fun q N hN h16 hq => ?_, fun q hq => ?_, fun q hq => ?_, ?_, fun i' j' z => ?_⟩
  · rw [sC_o _ _ _ _ (by decide), sA_ne _ _ _ _ (by omega)]; exact h.l q hq
  · by_cases e : q = k
    · subst e; rw [sC_e, sA_e]
    · rw [sC_ne _ _ _ _ e, sA_ne _ _ _ _ (by omega)]; exact h.u q hq
  · rw [sC_o _ _ _ _ (by decide), sA_ne _ _ _ _ (by omega)]
    rw [sA_ne _ _ _ _ (by omega)] at hN
    exact h.s q N hN h16 hq
  · rw [sC_o _ _ _ _ (by decide)]; exact h.t q hq
  · rw [sC_o _ _ _ _ (by decide), sA_ne _ _ _ _ (by omega)]; exact h.e q hq
  · rw [sC_o _ _ _ _ (by decide), sA_ne _ _ _ _ (by omega)]; exact h.w
  · obtain ⟨r1, r2, r3, r4, r5⟩ := SF_r _ z
    rw [sC_o _ _ _ _ (by decide), sA_ne _ _ _ _ (by dsimp only at *; omega)]
    exact h.f i' j' z
theorem has_v (v x : Int32) : (if F_M_has v x = (0 : Int32) then (0 : Int32) else (1 : Int32)) = ((v >>> (x &&& 31)) &&& (1 : Int32)) := by
  unfold F_M_has
  dsimp only
  rcases and1 (v >>> (x &&& 31)) with q | q
  · rw [q]; rfl
  · rw [q]; rfl
theorem sim_uses {d : Int32} (v : Int32) {P : Nat} (hP : P ≤ 8) : ∀ (n : Nat) (x : Int32) (C : CS) (M : ARR), cu P n x → M 0 51 = nI P → RelD d C (M 0) → RelD d (L_C_countUses_2 v n x C) (L_M_cycles_48 v n x M 0)
  | 0, _, _, _, h, _, _ => (cu_0 h).elim
  | n + 1, x, C, M, hc, hp, h => by
    have e2 := h.f 2 51 (by decide)
    simp only [L_C_countUses_2, L_M_cycles_48]
    rw [e2]
    by_cases c : M 0 51 ≤ x
    · rw [if_pos c, if_pos c]; exact h
    · rw [if_neg c, if_neg c]
      obtain ⟨k, hk, hx⟩ := cu_lt hc (by omega) hp c
      have e8 : ((8 : Int32) + x).toNatClampNeg = 8 + k := by
        rw [hx, show (8 : Int32) + nI k = nI (8 + k) from nI_add 8 k, nI_clamp (by omega)]
      have ek : x.toNatClampNeg = k := by rw [hx, nI_clamp (by omega)]
      rw [e8, ek]
      exact sim_uses v hP n _ _ _ (cu_b hc (by omega) hp c rfl) (by rw [sA_ne _ _ _ _ (by omega)]; exact hp) (rel_use k (by omega) h (by rw [has_v, h.u k (by omega)]))
theorem bits8 : ∀ r : Nat, r < 256 → F_J_bitCount (nI r) = F_M_many (nI r) := by decide +kernel
theorem bits_many {x : Int32} (h : bn 0 255 x) : F_J_bitCount x = F_M_many x := by
  obtain ⟨r, _, h2, rfl⟩ := h
  exact bits8 r (by omega)
/-! delays: no longer path has a smaller one -/
def dN (l v h : Nat) : Nat := l * 1000 / (v - 300) * (900 + h * 5) / 1000
theorem dN_mono {l l' v h : Nat} (hl : l ≤ l') : dN l v h ≤ dN l' v h := by
  unfold dN
  exact Nat.div_le_div_right (Nat.mul_le_mul_right _ (Nat.div_le_div_right (Nat.mul_le_mul_right _ hl)))
theorem dN_lt {l v h : Nat} (hl : l ≤ 400) (hv : 500 ≤ v) (hh : h ≤ 120) : l * 1000 / (v - 300) ≤ 2000 ∧ l * 1000 / (v - 300) * (900 + h * 5) ≤ 3000000 := by
  have h1 : l * 1000 / (v - 300) ≤ 2000 := by
    refine Nat.le_trans (Nat.div_le_div_right (c := v - 300) (show l * 1000 ≤ 400000 by omega)) ?_
    exact Nat.le_trans (Nat.div_le_div_left (show 200 ≤ v - 300 by omega) (by omega)) (by decide)
  exact ⟨h1, Nat.le_trans (Nat.mul_le_mul h1 (show 900 + h * 5 ≤ 1500 by omega)) (by decide)⟩
theorem delay_nI {l v h : Nat} (hl : l ≤ 400) (hv : 500 ≤ v) (hv2 : v ≤ 1200) (hh : h ≤ 120) : F_C_delayOf (nI l) (nI v) (nI h) = nI (dN l v h) := by
  obtain ⟨h1, h2⟩ := dN_lt (v := v) hl hv hh
  unfold F_C_delayOf dN
  dsimp only
  have e1 : nI l * (1000 : Int32) = nI (l * 1000) := pk_mul l 1000
  have e2 : nI v - (300 : Int32) = nI (v - 300) := pk_sub (b := 300) (by omega)
  have e3 : (900 : Int32) + nI h * (5 : Int32) = nI (900 + h * 5) := by
    rw [show nI h * (5 : Int32) = nI (h * 5) from pk_mul h 5]
    exact nI_add 900 (h * 5)
  rw [e1, e2, e3, pk_div (by omega) (by omega) (by omega), pk_mul]
  exact pk_div (d := 1000) (by omega) (by omega) (by omega)
theorem dN_b {l v h : Nat} (hl : l ≤ 400) (hv : 500 ≤ v) (hh : h ≤ 120) : dN l v h ≤ 3000 := by
  obtain ⟨h1, h2⟩ := dN_lt (v := v) hl hv hh
  unfold dN
  omega
def jN (s0 s1 d : Nat) : Nat := if s0 < d then (if s0 + s1 < d then 2 else 1) else 0
theorem jN_mono {s0 s1 d d' : Nat} (h : d ≤ d') : jN s0 s1 d ≤ jN s0 s1 d' := by
  unfold jN
  repeat' split
  all_goals omega
theorem jN_2 (s0 s1 d : Nat) : jN s0 s1 d ≤ 2 := by
  unfold jN
  repeat' split
  all_goals omega
theorem judge_nI {C : CS} {s0 s1 d : Nat} (h0 : C.1 3 0 = nI s0) (h1 : C.1 3 1 = nI s1) (b0 : s0 ≤ 1000) (b1 : s1 ≤ 200) (hd : d ≤ 3000) : F_C_judge C (nI d) = nI (jN s0 s1 d) := by
  unfold F_C_judge jN
  dsimp only
  rw [h0, h1, nI_add]
  by_cases c : s0 < d
  · rw [if_pos (nI_lt c (by omega)), if_pos c]
    by_cases c2 : s0 + s1 < d
    · rw [if_pos (nI_lt c2 (by omega)), if_pos c2]; rfl
    · rw [if_neg (nI_nlt (by omega) (by omega)), if_neg c2]; rfl
  · rw [if_neg (nI_nlt (by omega) (by omega)), if_neg c]; rfl
theorem state_eq {d : Int32} {C : CS} {M : ARR} (h : RelD d C (M 0)) {x v : Int32} {k : Nat} (hk : k < 8) (hx : x = nI k) : F_M_stateWith M x v = F_C_judge C (F_C_delayOf (C.1 0 k) v (C.1 4 8)) := by
  have e : ((0 : Int32) + x).toNatClampNeg = k := by rw [hx, Int32.zero_add, nI_clamp (by omega)]
  have ed : F_M_delayWith M x v (M 0 40) = F_C_delayOf (C.1 0 k) v (C.1 4 8) := by
    unfold F_M_delayWith F_C_delayOf
    dsimp only
    rw [e, h.l k hk, h.f 8 40 (by decide)]
  unfold F_M_stateWith F_C_judge
  dsimp only
  rw [ed, h.e 0 (by omega), h.e 1 (by omega)]
theorem max_nI {a b : Nat} (ha : a < 2 ^ 31) (hb : b < 2 ^ 31) : F_J_max (nI a) (nI b) = nI (max a b) := by
  unfold F_J_max
  dsimp only
  by_cases c : a < b
  · rw [if_pos (nI_lt c hb), Nat.max_eq_right (by omega)]
  · rw [if_neg (nI_nlt (by omega) ha), Nat.max_eq_left (by omega)]
/-- what a state's numbers are, as it is judged -/
def JB (C : CS) (v s0 s1 h : Nat) : Prop := C.1 3 0 = nI s0 ∧ C.1 3 1 = nI s1 ∧ C.1 4 8 = nI h ∧ s0 ≤ 1000 ∧ s1 ≤ 200 ∧ h ≤ 120 ∧ 500 ≤ v ∧ v ≤ 1200
theorem JB_of {d : Int32} {C : CS} {a : Nat → Int32} (h : RelD d C a) (hI : IA a) {v : Nat} (h1 : 500 ≤ v) (h2 : v ≤ 1200) : ∃ s0 s1 hh : Nat, JB C v s0 s1 hh := by
  obtain ⟨s0, _, a1, a2⟩ := hI.s0
  obtain ⟨s1, _, b1, b2⟩ := hI.s1
  obtain ⟨hh, _, c1, c2⟩ := hI.h
  exact ⟨s0, s1, hh, by rw [h.e 0 (by omega)]; exact a2, by rw [h.e 1 (by omega)]; exact b2, by rw [h.f 8 40 (by decide)]; exact c2, a1, b1, c1, h1, h2⟩
theorem JB.j {C : CS} {v s0 s1 h : Nat} (J : JB C v s0 s1 h) {l : Nat} (hl : l ≤ 400) : F_C_judge C (F_C_delayOf (nI l) (nI v) (C.1 4 8)) = nI (jN s0 s1 (dN l v h)) := by
  obtain ⟨e0, e1, e2, b0, b1, b2, b3, b4⟩ := J
  rw [e2, delay_nI hl b3 b4 b2]
  exact judge_nI e0 e1 b0 b1 (dN_b hl b3 b2)
theorem if_le {a b : Nat} (ha : a < 2 ^ 31) (hb : b < 2 ^ 31) : (if nI a ≤ nI b then nI b else nI a) = nI (max b a) := by
  by_cases c : a ≤ b
  · rw [if_pos (nI_le c hb), Nat.max_eq_left c]
  · rw [if_neg (nI_ge (by omega) ha), Nat.max_eq_right (by omega)]
theorem jmax {s0 s1 v h a b : Nat} : jN s0 s1 (dN (max a b) v h) = max (jN s0 s1 (dN a v h)) (jN s0 s1 (dN b v h)) := by
  rcases Nat.le_total a b with q | q
  · rw [Nat.max_eq_right q, Nat.max_eq_right (jN_mono (dN_mono q))]
  · rw [Nat.max_eq_left q, Nat.max_eq_left (jN_mono (dN_mono q))]
theorem sim_worst {d : Int32} {C : CS} {M : ARR} (h : RelD d C (M 0)) (hI : IA (M 0)) {v s0 s1 hh P : Nat} (J : JB C v s0 s1 hh) (hv : M 0 39 = nI v) (hP : M 0 51 = nI P) (hP8 : P ≤ 8) (u : Int32) :
    ∀ (n : Nat) (L : Nat) (x y w : Int32), L ≤ 400 → x = nI L → w = nI (jN s0 s1 (dN L v hh)) → cu P n y → ∃ L' : Nat, L' ≤ 400 ∧ L_C_longestOf_4 C u n x y = nI L' ∧ L_M_worstOf_4 M u n w y = nI (jN s0 s1 (dN L' v hh))
  | 0, _, _, _, _, _, _, _, hc => (cu_0 hc).elim
  | n + 1, L, x, y, w, hL, hx, hw, hc => by
    have e2 := h.f 2 51 (by decide)
    simp only [L_C_longestOf_4, L_M_worstOf_4]
    rw [e2]
    by_cases c : M 0 51 ≤ y
    · rw [if_pos c, if_pos c]
      exact ⟨L, hL, hx, hw⟩
    · rw [if_neg c, if_neg c]
      obtain ⟨k, hk, hy⟩ := cu_lt hc (by omega) hP c
      have ek : y.toNatClampNeg = k := by rw [hy, nI_clamp (by omega)]
      have hc2 : cu P n (y + 1) := cu_b hc (by omega) hP c rfl
      obtain ⟨lk, _, hlk, elk⟩ := hI.l k (by omega)
      have elC : C.1 0 k = nI lk := by rw [h.l k (by omega)]; exact elk
      have hw2 := jN_2 s0 s1 (dN L v hh)
      by_cases b : ((u >>> (y &&& 31)) &&& (1 : Int32)) = (1 : Int32)
      · have hb : ¬ F_M_has u y = 0 := by
          unfold F_M_has
          dsimp only
          rw [if_pos b]
          decide
        rw [if_pos b]
        simp only [if_neg hb]
        have es : F_M_stateWith M y (M 0 39) = nI (jN s0 s1 (dN lk v hh)) := by
          rw [state_eq h (by omega) hy, elC, hv]
          exact J.j hlk
        have hlk2 := jN_2 s0 s1 (dN lk v hh)
        rw [es, ek, elC, hx, hw, max_nI (by omega) (by omega), if_le (by omega) (by omega), ← jmax]
        exact sim_worst h hI J hv hP hP8 u n (max L lk) _ _ _ (Nat.max_le.mpr ⟨hL, hlk⟩) rfl rfl hc2
      · have hb : F_M_has u y = 0 := by
          unfold F_M_has
          dsimp only
          rw [if_neg b]
        rw [if_neg b]
        simp only [if_pos hb]
        rw [if_pos (show (0 : Int32) ≤ w by rw [hw]; exact nI_pos' (by omega))]
        exact sim_worst h hI J hv hP hP8 u n L _ _ _ hL hx hw hc2
theorem dN_0 (v h : Nat) : dN 0 v h = 0 := by
  unfold dN
  simp
/-- the worst of a set's paths is how its longest one is judged -/
theorem worst_eq {d : Int32} {C : CS} {M : ARR} (h : RelD d C (M 0)) (hI : IA (M 0)) (u : Int32) : F_M_worstOf M u = F_C_judge C (F_C_delayOf (F_C_longestOf C u) (C.1 4 7) (C.1 4 8)) := by
  obtain ⟨v, hv1, hv2, hv⟩ := hI.v
  obtain ⟨P, hP1, hP2, hP⟩ := hI.p
  obtain ⟨s0, s1, hh, J⟩ := JB_of h hI hv1 hv2
  obtain ⟨L, hL, e1, e2⟩ := sim_worst h hI J hv hP hP2 u 9 0 0 0 0 (by omega) rfl (by rw [dN_0]; rfl) (cu_i (by omega))
  unfold F_M_worstOf F_C_longestOf
  dsimp only
  rw [e1, e2, h.f 7 39 (by decide), hv]
  exact (J.j hL).symm
