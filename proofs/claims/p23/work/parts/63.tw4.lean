theorem wi_1 {v lo hi : Nat} (h1 : lo ≤ v) (h2 : v ≤ hi) (hh : hi < 2 ^ 31) : F_S_isWithin (nI v) (nI lo) (nI hi) = 1 := by
  rw [wi_eq, if_pos ⟨nI_le h1 (by omega), nI_le h2 hh⟩]
/-! a path as it is told; a cycle of the law is as it asks -/
theorem isPath_1 {S : SLS} {P k : Nat} (hP : (S.1 0).1 4 2 = nI P) (p8 : P ≤ 8) (hk : k < P) : F_S_isPath S (nI k) = 1 := by
  unfold F_S_isPath
  dsimp only
  rw [hP, show nI P - (1 : Int32) = nI (P - 1) from pk_sub (b := 1) (by omega)]
  exact wi_1 (lo := 0) (by omega) (by omega) (by omega)
theorem path_0 {S : SLS} {P k : Nat} (hP : (S.1 0).1 4 2 = nI P) (p8 : P ≤ 8) (hk : k < P) : F_S_path S (nI k) (0 : Int32) = (S.1 0).1 0 k := by
  unfold F_S_path
  dsimp only
  rw [isPath_1 hP p8 hk, if_neg (by decide), if_pos rfl, nI_clamp (by omega)]
theorem path_1 {S : SLS} {P k : Nat} (hP : (S.1 0).1 4 2 = nI P) (p8 : P ≤ 8) (hk : k < P) : F_S_path S (nI k) (1 : Int32) = F_C_delayNow (S.1 0) (nI k) := by
  unfold F_S_path
  dsimp only
  rw [isPath_1 hP p8 hk, if_neg (by decide), if_neg (by decide), if_pos rfl]
theorem path_2 {S : SLS} {P k : Nat} (hP : (S.1 0).1 4 2 = nI P) (p8 : P ≤ 8) (hk : k < P) : F_S_path S (nI k) (2 : Int32) = jOf (S.1 0) k := by
  unfold F_S_path
  dsimp only
  rw [isPath_1 hP p8 hk, if_neg (by decide), if_neg (by decide), if_neg (by decide), if_pos rfl]
  rfl
theorem path_3 {S : SLS} {P k : Nat} (hP : (S.1 0).1 4 2 = nI P) (p8 : P ≤ 8) (hk : k < P) : F_S_path S (nI k) (3 : Int32) = (S.1 0).1 1 k := by
  unfold F_S_path
  dsimp only
  rw [isPath_1 hP p8 hk, if_neg (by decide), if_neg (by decide), if_neg (by decide), if_neg (by decide), if_pos rfl, nI_clamp (by omega)]
theorem path_4 {S : SLS} {P k : Nat} (hP : (S.1 0).1 4 2 = nI P) (p8 : P ≤ 8) (hk : k < P) : F_S_path S (nI k) (4 : Int32) = F_C_setsWith (S.1 0) (nI k) := by
  unfold F_S_path
  dsimp only
  rw [isPath_1 hP p8 hk, if_neg (by decide), if_neg (by decide), if_neg (by decide), if_neg (by decide), if_neg (by decide), if_pos rfl]
theorem workload_k {S : SLS} {N k : Nat} (hN : (S.1 0).1 4 4 = nI N) (n16 : N ≤ 16) (hk : k < N) : F_S_workload S (nI k) = (S.1 0).1 2 k := by
  unfold F_S_workload
  dsimp only
  rw [if_pos (nI_pos' (by omega)), hN, if_neg (nI_ge (by omega) (by omega)), nI_clamp (by omega)]
theorem cnt_sett (S : SLS) (k : Nat) (hk : k < 7) : F_S_count S (nI (17 + k)) = (S.1 0).1 3 k := by
  unfold F_S_count
  dsimp only
  rw [show F_S_isWithin (nI (17 + k)) (17 : Int32) (23 : Int32) = 1 from wi_1 (lo := 17) (hi := 23) (by omega) (by omega) (by omega), if_neg (by decide), show nI (17 + k) - (17 : Int32) = nI (17 + k - 17) from pk_sub (b := 17) (by omega), Nat.add_sub_cancel_left, nI_clamp (by omega)]
theorem cnt_17 (S : SLS) : F_S_count S (17 : Int32) = (S.1 0).1 3 0 := cnt_sett S 0 (by omega)
theorem cnt_18 (S : SLS) : F_S_count S (18 : Int32) = (S.1 0).1 3 1 := cnt_sett S 1 (by omega)
theorem cnt_19 (S : SLS) : F_S_count S (19 : Int32) = (S.1 0).1 3 2 := cnt_sett S 2 (by omega)
theorem cnt_20 (S : SLS) : F_S_count S (20 : Int32) = (S.1 0).1 3 3 := cnt_sett S 3 (by omega)
theorem cnt_21 (S : SLS) : F_S_count S (21 : Int32) = (S.1 0).1 3 4 := cnt_sett S 4 (by omega)
theorem cnt_22 (S : SLS) : F_S_count S (22 : Int32) = (S.1 0).1 3 5 := cnt_sett S 5 (by omega)
theorem cnt_23 (S : SLS) : F_S_count S (23 : Int32) = (S.1 0).1 3 6 := cnt_sett S 6 (by omega)
theorem JB_ok {C : CS} (h : OKC C) : ∃ v s0 s1 hh : Nat, C.1 4 7 = nI v ∧ 50 ≤ s0 ∧ JB C v s0 s1 hh := by
  obtain ⟨v, v1, v2, hv⟩ := h.v
  obtain ⟨s0, s1, R, W, A, T, U, q0, q1, q2, q3, q4, q5, q6, t0, t1, t2, t3, t4, t5, t6, t7, t8, t9⟩ := h.sett
  obtain ⟨hh, h1, h2, h3⟩ := h.heat
  exact ⟨v, s0, s1, hh, hv, t0, q0, q1, h3, t1, t2, h2, v1, v2⟩
theorem jOf_nI {C : CS} {v s0 s1 hh lk k : Nat} (J : JB C v s0 s1 hh) (hv : C.1 4 7 = nI v) (hl : C.1 0 k = nI lk) (l4 : lk ≤ 400) (hk : k < 8) : jOf C k = nI (jN s0 s1 (dN lk v hh)) := by
  unfold jOf F_C_delayNow
  dsimp only
  rw [nI_clamp (show k < 2 ^ 31 by omega), hl, hv]
  exact J.j l4
theorem cyc_worst {S : SLS} (hO : OKC (S.1 0)) {v s0 s1 hh P : Nat} (J : JB (S.1 0) v s0 s1 hh) (hv : (S.1 0).1 4 7 = nI v) (hP : (S.1 0).1 4 2 = nI P) (p8 : P ≤ 8) (u : Int32) :
    ∀ (n L : Nat) (x w z y : Int32), L ≤ 400 → x = nI L → w = nI (jN s0 s1 (dN L v hh)) → cu P n y → ∃ L' : Nat, L' ≤ 400 ∧ L_C_longestOf_4 (S.1 0) u n x y = nI L' ∧ (L_L_isCycle_21 S u n w z y).1 = nI (jN s0 s1 (dN L' v hh))
  | 0, _, _, _, _, _, _, _, _, hc => (cu_0 hc).elim
  | n + 1, L, x, w, z, y, hL, hx, hw, hc => by
    simp only [L_C_longestOf_4, L_L_isCycle_21]
    rw [cnt_12]
    by_cases c : (S.1 0).1 4 2 ≤ y
    · rw [if_pos c, if_pos c]
      exact ⟨L, hL, hx, hw⟩
    · rw [if_neg c, if_neg c]
      obtain ⟨k, hk, hy⟩ := cu_lt hc (by omega) hP c
      have ek : y.toNatClampNeg = k := by rw [hy, nI_clamp (by omega)]
      have hc2 : cu P n (y + 1) := cu_b hc (by omega) hP c rfl
      obtain ⟨lk, _, hlk, elk⟩ := hO.len k (by omega)
      by_cases b : ((u >>> (y &&& 31)) &&& (1 : Int32)) = (1 : Int32)
      · simp only [if_pos b]
        have hlk2 := jN_2 s0 s1 (dN lk v hh)
        have hw2 := jN_2 s0 s1 (dN L v hh)
        have es : F_S_path S y (2 : Int32) = nI (jN s0 s1 (dN lk v hh)) := by rw [hy, path_2 hP p8 hk]; exact jOf_nI J hv elk hlk (by omega)
        rw [es, ek, elk, hx, hw, max_nI (by omega) (by omega), if_le (by omega) (by omega), ← jmax]
        exact cyc_worst hO J hv hP p8 u n (max L lk) _ _ _ _ (Nat.max_le.mpr ⟨hL, hlk⟩) rfl rfl hc2
      · simp only [if_neg b]
        exact cyc_worst hO J hv hP p8 u n L _ _ _ _ hL hx hw hc2
theorem cyc_worst1 {S : SLS} (hO : OKC (S.1 0)) (u : Int32) : (L_L_isCycle_21 S u 9 (0 : Int32) (0 : Int32) (0 : Int32)).1 = F_C_judge (S.1 0) (F_C_delayOf (F_C_longestOf (S.1 0) u) ((S.1 0).1 4 7) ((S.1 0).1 4 8)) := by
  obtain ⟨v, s0, s1, hh, hv, s50, J⟩ := JB_ok hO
  obtain ⟨P, p1, p8, hP⟩ := hO.p
  obtain ⟨L, hL, e1, e2⟩ := cyc_worst hO J hv hP p8 u 9 0 0 0 0 0 (by omega) rfl (by rw [dN_0]; rfl) (cu_i (by omega))
  unfold F_C_longestOf
  dsimp only
  rw [e1, e2, hv]
  exact (J.j hL).symm
theorem cyc_used {S : SLS} {r : Int32 × SLS} {u : Int32} {P : Nat} (hP : (S.1 0).1 4 2 = nI P) (hP2 : (r.2.1 0).1 4 2 = nI P) (p8 : P ≤ 8) (hu : ∀ k, k < P → (r.2.1 0).1 1 k = (S.1 0).1 1 k + ((u >>> (nI k &&& 31)) &&& (1 : Int32))) :
    ∀ (n : Nat) (w z t m y : Int32), t = z + m → cu P n y → (L_L_isCycle_204 u r n t m y).1 = (L_L_isCycle_21 S u n w z y).2 + (L_L_isCycle_204 u r n t m y).2
  | 0, _, _, _, _, _, _, hc => (cu_0 hc).elim
  | n + 1, w, z, t, m, y, ht, hc => by
    simp only [L_L_isCycle_204, L_L_isCycle_21]
    rw [cnt_12, cnt_12, hP, hP2]
    by_cases c : nI P ≤ y
    · rw [if_pos c, if_pos c]; exact ht
    · rw [if_neg c, if_neg c]
      obtain ⟨k, hk, hy⟩ := cu_lt hc (by omega) rfl c
      have hc2 : cu P n (y + 1) := cu_b hc (by omega) rfl c rfl
      have hb := hu k hk
      rw [← hy] at hb
      by_cases b : ((u >>> (y &&& 31)) &&& (1 : Int32)) = (1 : Int32)
      · simp only [if_pos b]
        have e1 : F_S_path S y (3 : Int32) = (S.1 0).1 1 k := by rw [hy]; exact path_3 hP p8 hk
        have e2 : F_S_path r.2 y (3 : Int32) = (S.1 0).1 1 k + 1 := by rw [hy, path_3 hP2 p8 hk, hb, b]
        rw [e1, e2, b]
        exact cyc_used hP hP2 p8 hu n _ _ _ _ _ (by rw [ht]; grind) hc2
      · simp only [if_neg b]
        have b0 : ((u >>> (y &&& 31)) &&& (1 : Int32)) = 0 := by
          rcases and1 (u >>> (y &&& 31)) with q | q
          · exact q
          · exact absurd q b
        rw [b0, Int32.add_zero, Int32.add_zero]
        exact cyc_used hP hP2 p8 hu n _ _ _ _ _ ht hc2
/-- a run of K cycles -/
theorem run_K (S : SLS) {K : Nat} (k1 : 1 ≤ K) (k2 : K ≤ 2000) : (F_S_run S (nI K)).1 = (stepN K (S.1 0)).1 4 14 - (S.1 0).1 4 14 ∧ (F_S_run S (nI K)).2 = sSC (F_S_recordState S) 0 (stepN K (S.1 0)) := by
  unfold F_S_run
  dsimp only
  rw [show F_S_isWithin (nI K) (1 : Int32) (2000 : Int32) = 1 from wi_1 (lo := 1) (hi := 2000) k1 k2 (by omega), if_neg (by decide), rec_1 S (by omega), runs_stepN k2]
  dsimp only
  rw [sSC_e]
  exact ⟨rfl, rfl⟩
theorem run_1 (S : SLS) : (F_S_run S (1 : Int32)).1 = (stepC (S.1 0)).1 4 14 - (S.1 0).1 4 14 ∧ (F_S_run S (1 : Int32)).2.1 0 = stepC (S.1 0) ∧ (F_S_run S (1 : Int32)).2.2.1 = S.2.1 := by
  obtain ⟨h1, h2⟩ := run_K S (K := 1) (by omega) (by omega)
  refine ⟨h1, ?_, ?_⟩
  · rw [show F_S_run S (1 : Int32) = F_S_run S (nI 1) from rfl, h2, sSC_e]; rfl
  · rw [show F_S_run S (1 : Int32) = F_S_run S (nI 1) from rfl, h2, sSC_2, rec_T]
theorem cycle_true {S : SLS} {B : Nat} (hO : OKS S) (hN : NUM B (S.1 0)) (hB : B < 2 ^ 29) : (F_L_isCycle S).1 = 1 := by
  obtain ⟨h14, h12, h13, h15, h5, ⟨h8a, h8b⟩, hu, ⟨g2, g4, g9, go⟩, q1, q2, q3⟩ := (step_eff hO.o hN hB).1
  obtain ⟨r1, r2, -⟩ := run_1 S
  have hh := (OKC_step hO.o).heat
  have hg := hO.o.g
  obtain ⟨P, N, hPN, hN16, hK, hNN⟩ := hO.o.w
  obtain ⟨P9, p1, p8, hP⟩ := hO.o.p
  have ew : F_S_workload S ((S.1 0).1 4 5) = uOf (S.1 0) := by
    rw [hK, workload_k hNN hN16 hPN]
    unfold uOf
    rw [hK, nI_clamp (by omega)]
  have eJ : (L_L_isCycle_21 S (uOf (S.1 0)) 9 (0 : Int32) (0 : Int32) (0 : Int32)).1 = jC (S.1 0) := cyc_worst1 hO.o (uOf (S.1 0))
  have eU : (L_L_isCycle_204 (uOf (S.1 0)) (F_S_run S (1 : Int32)) 9 (0 : Int32) (0 : Int32) (0 : Int32)).1 = (L_L_isCycle_21 S (uOf (S.1 0)) 9 (0 : Int32) (0 : Int32) (0 : Int32)).2 + (L_L_isCycle_204 (uOf (S.1 0)) (F_S_run S (1 : Int32)) 9 (0 : Int32) (0 : Int32) (0 : Int32)).2 :=
    cyc_used hP (by rw [r2, g2]; exact hP) p8 (fun k hk => by rw [r2]; exact hu P9 k p8 hP hk) 9 _ _ _ _ _ rfl (cu_i (by omega))
  have x3 : (stepC (S.1 0)).1 3 = (S.1 0).1 3 := go 3 (by decide) (by decide)
  obtain ⟨ht, ht1, ht2, hht⟩ := hh
  have h20 : ¬ (stepC (S.1 0)).1 4 8 < (20 : Int32) := by rw [hht]; exact nI_nlt (b := 20) ht1 (by omega)
  have h120 : ¬ (120 : Int32) < (stepC (S.1 0)).1 4 8 := by rw [hht]; exact nI_nlt (a := 120) ht2 (by omega)
  unfold F_L_isCycle
  dsimp only
  simp only [cnt_0, cnt_1, cnt_2, cnt_3, cnt_4, cnt_6, cnt_8, cnt_9, cnt_10, cnt_11, cnt_15, cnt_16, cnt_19, cnt_20, cnt_21, cnt_22, cnt_23, ew, eJ, r2, r1, x3]
  generalize (L_L_isCycle_204 (uOf (S.1 0)) (F_S_run S (1 : Int32)) 9 (0 : Int32) (0 : Int32) (0 : Int32)).1 = th at eU ⊢
  generalize (L_L_isCycle_204 (uOf (S.1 0)) (F_S_run S (1 : Int32)) 9 (0 : Int32) (0 : Int32) (0 : Int32)).2 = ma at eU ⊢
  generalize (L_L_isCycle_21 S (uOf (S.1 0)) 9 (0 : Int32) (0 : Int32) (0 : Int32)).2 = us at eU ⊢
  generalize (F_S_run S (1 : Int32)).2 = SS
  clear r1 r2 eJ ew hu
  generalize stepC (S.1 0) = X at *
  generalize S.1 0 = C at *
  have one0 : ¬ (1 : Int32) = 0 := by decide
  rcases hg with c9 | c9
  · obtain ⟨k10, k11, k7, k17⟩ := q1 c9
    simp only [c9, h14, h12, h13, h15, h5, eU, k10, k11, k7, k17, h20, h120, h8a, h8b, one0, if_true, if_false, eq_self]
    simp
  · have c9n : ¬ C.1 4 9 = 0 := by rw [c9]; exact one0
    by_cases cw : (C.1 4 10 + (if jC C = (1 : Int32) then ((1 : Int32) + C.1 3 2) else (1 : Int32))) < C.1 3 3
    · obtain ⟨k10, k11, k7⟩ := q2 c9n cw
      simp only [c9, h14, h12, h13, h15, h5, eU, k10, k11, k7, h20, h120, h8a, h8b, one0, cw, if_true, if_false, eq_self]
    · obtain ⟨k10, k11, k7, k17⟩ := q3 c9n cw
      unfold lClamp lNext lRise at k7
      unfold lSteps lRise at k17
      simp only [c9, h14, h12, h13, h15, h5, eU, k10, k11, k7, k17, h20, h120, h8a, h8b, one0, cw, if_true, if_false, eq_self]
/-! delays: less with more voltage, more with more heat -/
theorem dN_v {l v v' h : Nat} (h1 : 500 ≤ v) (hv : v ≤ v') : dN l v' h ≤ dN l v h := by
  unfold dN
  exact Nat.div_le_div_right (Nat.mul_le_mul_right _ (Nat.div_le_div_left (by omega) (by omega)))
theorem dN_h {l v h h' : Nat} (hh : h ≤ h') : dN l v h ≤ dN l v h' := by
  unfold dN
  exact Nat.div_le_div_right (Nat.mul_le_mul_left _ (by omega))
theorem delay_k {S : SLS} {P k v h : Nat} (hP : (S.1 0).1 4 2 = nI P) (p8 : P ≤ 8) (hk : k < P) (v1 : 500 ≤ v) (v2 : v ≤ 1200) (h1 : 20 ≤ h) (h2 : h ≤ 120) : F_S_delay S (nI k) (nI v) (nI h) = F_C_delayOf ((S.1 0).1 0 k) (nI v) (nI h) := by
  unfold F_S_delay F_S_isVoltage
  dsimp only
  rw [isPath_1 hP p8 hk, if_neg (by decide), show F_S_isWithin (nI v) (500 : Int32) (1200 : Int32) = 1 from wi_1 (lo := 500) (hi := 1200) v1 v2 (by omega), if_neg (by decide), show F_S_isWithin (nI h) (20 : Int32) (120 : Int32) = 1 from wi_1 (lo := 20) (hi := 120) h1 h2 (by omega), if_neg (by decide), nI_clamp (by omega)]
theorem well_sets {S : SLS} {N : Nat} (hN : (S.1 0).1 4 4 = nI N) (n16 : N ≤ 16) (a : Int32) : ∀ (n : Nat) (x y : Int32), cu N n y → L_L_isWell_143 S a n x y = L_C_setsWith_4 (S.1 0) a n x y
  | 0, _, _, hc => (cu_0 hc).elim
  | n + 1, x, y, hc => by
    simp only [L_L_isWell_143, L_C_setsWith_4]
    rw [cnt_10]
    by_cases c : (S.1 0).1 4 4 ≤ y
    · rw [if_pos c, if_pos c]
    · rw [if_neg c, if_neg c]
      obtain ⟨k, hk, hy⟩ := cu_lt hc (by omega) hN c
      have ek : y.toNatClampNeg = k := by rw [hy, nI_clamp (by omega)]
      have ew : F_S_workload S y = (S.1 0).1 2 k := by rw [hy]; exact workload_k hN n16 hk
      rw [ew, ek]
      exact well_sets hN n16 a n _ _ (cu_b hc (by omega) hN c rfl)
theorem well_loop {S : SLS} (hO : OKS S) (hP : (S.1 0).1 4 2 = nI 3) : ∀ (n k : Nat), k ≤ 3 → 4 ≤ k + n → L_L_isWell_78 S n (1 : Int32) (nI k) = 1
  | 0, k, h1, h2 => absurd h2 (by omega)
  | n + 1, k, h1, h2 => by
    simp only [L_L_isWell_78]
    rw [cnt_12, hP]
    by_cases c : 3 ≤ k
    · rw [if_pos (nI_le c (by omega))]
    · rw [if_neg (nI_ge (by omega) (by omega)), if_neg (by decide)]
      have hk : k < 3 := by omega
      obtain ⟨v, s0, s1, hh, hv, s50, J⟩ := JB_ok hO.o
      obtain ⟨e0, e1, eh, b0, b1, b2, v1, v2⟩ := id J
      obtain ⟨h', hh1, hh2, hh3⟩ := hO.o.heat
      have ehh : h' = hh := (nI_eq (by omega) (by omega)).mp (hh3.symm.trans eh)
      subst ehh
      obtain ⟨N, n1, n16, hN⟩ := hO.o.c
      obtain ⟨lk, _, hlk, elk⟩ := hO.o.len k (by omega)
      have ed : F_S_path S (nI k) (1 : Int32) = nI (dN lk v h') := by
        rw [path_1 hP (by omega) hk]
        unfold F_C_delayNow
        dsimp only
        rw [nI_clamp (by omega), elk, hv, eh]
        exact delay_nI hlk v1 v2 b2
      have ed1 : F_S_delay S (nI k) (nI v) (nI h') = nI (dN lk v h') := by rw [delay_k hP (by omega) hk v1 v2 hh1 b2, elk]; exact delay_nI hlk v1 v2 b2
      have ed2 : F_S_delay S (nI k) (1200 : Int32) (nI h') = nI (dN lk 1200 h') := by rw [show (1200 : Int32) = nI 1200 from rfl, delay_k hP (by omega) hk (by omega) (by omega) hh1 b2, elk]; exact delay_nI hlk (by omega) (by omega) b2
      have ed3 : F_S_delay S (nI k) (nI v) (120 : Int32) = nI (dN lk v 120) := by rw [show (120 : Int32) = nI 120 from rfl, delay_k hP (by omega) hk v1 v2 (by omega) (by omega), elk]; exact delay_nI hlk v1 v2 (by omega)
      have ej : jOf (S.1 0) k = (if (S.1 0).1 3 0 < nI (dN lk v h') then (if ((S.1 0).1 3 0 + (S.1 0).1 3 1) < nI (dN lk v h') then (2 : Int32) else (1 : Int32)) else (0 : Int32)) := by
        have e : F_C_delayNow (S.1 0) (nI k) = nI (dN lk v h') := (path_1 hP (by omega) hk).symm.trans ed
        unfold jOf
        rw [e]
        rfl
      have es : L_L_isWell_143 S (nI k) 17 (0 : Int32) (0 : Int32) = F_C_setsWith (S.1 0) (nI k) := well_sets hN n16 (nI k) 17 0 0 (cu_i (by omega))
      have c1 : ¬ nI (dN lk v h') < nI (dN lk 1200 h') := nI_nlt (dN_v v1 v2) (Nat.lt_of_le_of_lt (dN_b hlk v1 b2) (by decide))
      have c2 : ¬ nI (dN lk v 120) < nI (dN lk v h') := nI_nlt (dN_h b2) (Nat.lt_of_le_of_lt (dN_b hlk v1 (by omega)) (by decide))
      have hb1 := pj_bit hP 1 k hk
      have hb2 := pj_bit hP 2 k hk
      have ih := well_loop hO hP n (k + 1) (by omega) (by omega)
      rw [ed, cnt_17, cnt_18, ← ej, es, cnt_0, cnt_1, hv, eh, ed1, ed2, ed3, path_2 hP (by omega) hk, cnt_13, cnt_14, hb1, hb2, path_4 hP (by omega) hk]
      simp only [c1, c2, if_true, if_false, eq_self, ite_self, nI_1, ih]
theorem well_true {S : SLS} {B : Nat} (hO : OKS S) (hP : (S.1 0).1 4 2 = nI 3) (hN : NUM B (S.1 0)) (hB : B < 2 ^ 29) : F_L_isWell S = 1 := by
  obtain ⟨s, w, c, l, a, b, n12, n13, n14, n15, n10, n11, n1, n2, n3, n4, n5, n6⟩ := hN
  obtain ⟨v, v1, v2, hv⟩ := hO.o.v
  obtain ⟨P, N, hPN, hN16, hK, hNN⟩ := hO.o.w
  unfold F_L_isWell
  dsimp only
  rw [cnt_3, cnt_4, cnt_5, cnt_6, cnt_0, cnt_10, cnt_11, n12, n13, n14, n15, hv, hK, hNN, nI_add, if_neg (nI_nlt (by omega) (by omega)), if_neg (nI_nlt (by omega) (by omega)), if_neg (show ¬ nI v < (500 : Int32) from nI_nlt (b := 500) v1 (by omega)), if_neg (show ¬ (1200 : Int32) < nI v from nI_nlt (a := 1200) v2 (by omega)), if_neg (nI_ge hPN (by omega))]
  exact well_loop hO hP 9 0 (by omega) (by omega)
/-! alike -/
theorem tw_count {S P : SLS} (h : TWC (S.1 0) (P.1 0)) : ∀ k : Nat, k < 24 → k ≠ 12 → k ≠ 13 → k ≠ 14 → F_S_count S (nI k) = F_S_count P (nI k) := by
  intro k hk h12 h13 h14
  by_cases c : 17 ≤ k
  · obtain ⟨j, rfl⟩ : ∃ j, k = 17 + j := ⟨k - 17, by omega⟩
    rw [cnt_sett S j (by omega), cnt_sett P j (by omega), h.e j (by omega)]
  · have hk : k < 17 := by omega
    match k, hk, c, h12, h13, h14 with
    | 12, _, _, z, _, _ => exact absurd rfl z
    | 13, _, _, _, z, _ => exact absurd rfl z
    | 14, _, _, _, _, z => exact absurd rfl z
    | n + 17, q, _, _, _, _ => exact absurd q (by omega)
    | 0, _, _, _, _, _ => exact (cnt_0 S).trans ((h.f 7 (by decide)).symm.trans (cnt_0 P).symm)
    | 1, _, _, _, _, _ => exact (cnt_1 S).trans ((h.f 8 (by decide)).symm.trans (cnt_1 P).symm)
    | 2, _, _, _, _, _ => rw [show nI 2 = (2 : Int32) from rfl, cnt_2, cnt_2, h.f 9 (by decide)]
    | 3, _, _, _, _, _ => exact (cnt_3 S).trans ((h.f 12 (by decide)).symm.trans (cnt_3 P).symm)
    | 4, _, _, _, _, _ => exact (cnt_4 S).trans ((h.f 13 (by decide)).symm.trans (cnt_4 P).symm)
    | 5, _, _, _, _, _ => exact (cnt_5 S).trans ((h.f 14 (by decide)).symm.trans (cnt_5 P).symm)
    | 6, _, _, _, _, _ => exact (cnt_6 S).trans ((h.f 15 (by decide)).symm.trans (cnt_6 P).symm)
    | 7, _, _, _, _, _ => rw [show nI 7 = (7 : Int32) from rfl, cnt_7, cnt_7, h.n]
    | 8, _, _, _, _, _ => exact (cnt_8 S).trans ((h.f 10 (by decide)).symm.trans (cnt_8 P).symm)
    | 9, _, _, _, _, _ => exact (cnt_9 S).trans ((h.f 11 (by decide)).symm.trans (cnt_9 P).symm)
    | 10, _, _, _, _, _ => exact (cnt_10 S).trans ((h.f 4 (by decide)).symm.trans (cnt_10 P).symm)
    | 11, _, _, _, _, _ => exact (cnt_11 S).trans ((h.f 5 (by decide)).symm.trans (cnt_11 P).symm)
    | 15, _, _, _, _, _ => exact (cnt_15 S).trans ((h.f 17 (by decide)).symm.trans (cnt_15 P).symm)
    | 16, _, _, _, _, _ => exact (cnt_16 S).trans ((h.f 18 (by decide)).symm.trans (cnt_16 P).symm)
theorem tw_path {S P : SLS} (h : TWC (S.1 0) (P.1 0)) (hO : OKC (S.1 0)) (k : Nat) (hk : k < 3) : ∀ j : Nat, j < 5 → F_S_path S (nI k) (nI j) = F_S_path P (nI k) (nI j) := by
  intro j hj
  have k5 : k < 5 := by omega
  match j, hj with
  | 0, _ => exact (path_0 h.p (by omega) hk).trans ((h.l k hk).symm.trans (path_0 h.q (by omega) k5).symm)
  | 1, _ =>
    refine (path_1 h.p (by omega) hk).trans (Eq.trans ?_ (path_1 h.q (by omega) k5).symm)
    unfold F_C_delayNow
    dsimp only
    rw [nI_clamp (show k < 2 ^ 31 by omega), h.l k hk, h.f 7 (by decide), h.f 8 (by decide)]
  | 2, _ => exact (path_2 h.p (by omega) hk).trans ((tw_jOf h k hk).symm.trans (path_2 h.q (by omega) k5).symm)
  | 3, _ => exact (path_3 h.p (by omega) hk).trans ((h.u k hk).symm.trans (path_3 h.q (by omega) k5).symm)
  | 4, _ => exact (path_4 h.p (by omega) hk).trans ((tw_setsW h hO _).symm.trans (path_4 h.q (by omega) k5).symm)
theorem alike_64 {V : LW} (h : TWC (V.1.1 0) (V.2.1.1 0)) : ∀ (n k : Nat), k ≤ 24 → 25 ≤ k + n → L_L_areAlike_64 V n (1 : Int32) (nI k) = 1
  | 0, k, h1, h2 => absurd h2 (by omega)
  | n + 1, k, h1, h2 => by
    simp only [L_L_areAlike_64]
    by_cases c : 24 ≤ k
    · rw [if_pos (show (24 : Int32) ≤ nI k from nI_le (a := 24) c (by omega))]
    · rw [if_neg (show ¬ (24 : Int32) ≤ nI k from nI_ge (b := 24) (by omega) (by omega)), if_neg (by decide), nI_1]
      have ih := alike_64 h n (k + 1) (by omega) (by omega)
      have ne : ∀ m : Nat, m < 24 → k ≠ m → ¬ nI k = nI m := fun m hm q z => q ((nI_eq (by omega) (by omega)).mp z)
      by_cases c12 : k = 12
      · subst c12; rw [if_pos (show nI 12 = (12 : Int32) from rfl)]; exact ih
      by_cases c13 : k = 13
      · subst c13; rw [if_neg (show ¬ nI 13 = (12 : Int32) by decide), if_pos (show nI 13 = (13 : Int32) from rfl)]; exact ih
      by_cases c14 : k = 14
      · subst c14; rw [if_neg (show ¬ nI 14 = (12 : Int32) by decide), if_neg (show ¬ nI 14 = (13 : Int32) by decide), if_pos (show nI 14 = (14 : Int32) from rfl)]; exact ih
      rw [if_neg (show ¬ nI k = (12 : Int32) from ne 12 (by omega) c12), if_neg (show ¬ nI k = (13 : Int32) from ne 13 (by omega) c13), if_neg (show ¬ nI k = (14 : Int32) from ne 14 (by omega) c14), tw_count h k (by omega) c12 c13 c14, if_pos rfl]
      exact ih
theorem alike_127 {V : LW} (h : TWC (V.1.1 0) (V.2.1.1 0)) (hO : OKC (V.1.1 0)) (k : Nat) (hk : k < 3) : ∀ (n j : Nat), j ≤ 5 → 6 ≤ j + n → L_L_areAlike_127 V (nI k) n (1 : Int32) (nI j) = 1
  | 0, j, h1, h2 => absurd h2 (by omega)
  | n + 1, j, h1, h2 => by
    simp only [L_L_areAlike_127]
    by_cases c : 5 ≤ j
    · rw [if_pos (show (5 : Int32) ≤ nI j from nI_le (a := 5) c (by omega))]
    · rw [if_neg (show ¬ (5 : Int32) ≤ nI j from nI_ge (b := 5) (by omega) (by omega)), if_neg (by decide), nI_1, tw_path h hO k hk j (by omega), if_pos rfl]
      exact alike_127 h hO k hk n (j + 1) (by omega) (by omega)
theorem alike_119 {V : LW} (h : TWC (V.1.1 0) (V.2.1.1 0)) (hO : OKC (V.1.1 0)) : ∀ (n k : Nat), k ≤ 3 → 4 ≤ k + n → L_L_areAlike_119 V n (1 : Int32) (nI k) = 1
  | 0, k, h1, h2 => absurd h2 (by omega)
  | n + 1, k, h1, h2 => by
    simp only [L_L_areAlike_119]
    by_cases c : 3 ≤ k
    · rw [if_pos (show (3 : Int32) ≤ nI k from nI_le (a := 3) c (by omega))]
    · rw [if_neg (show ¬ (3 : Int32) ≤ nI k from nI_ge (b := 3) (by omega) (by omega)), nI_1, show (0 : Int32) = nI 0 from rfl, alike_127 h hO k (by omega) 6 0 (by omega) (by omega)]
      exact alike_119 h hO n (k + 1) (by omega) (by omega)
theorem alike_true {V : LW} (h : TWC (V.1.1 0) (V.2.1.1 0)) (hO : OKC (V.1.1 0)) : F_L_areAlike V = 1 := by
  unfold F_L_areAlike
  dsimp only
  have e3 : F_S_path V.2.1 (3 : Int32) (3 : Int32) = 0 := (path_3 (k := 3) h.q (by omega) (by omega)).trans h.z.1
  have e4 : F_S_path V.2.1 (4 : Int32) (3 : Int32) = 0 := (path_3 (k := 4) h.q (by omega) (by omega)).trans h.z.2
  rw [cnt_12, cnt_12, h.p, h.q, cnt_13, cnt_13, cnt_14, cnt_14, ← tw_pj h, ← tw_pj h, e3, e4]
  simp only [show (nI 3 = (3 : Int32)) = True from eq_true rfl, show (nI 5 = (5 : Int32)) = True from eq_true rfl, if_true, eq_self]
  rw [show L_L_areAlike_64 V 25 (1 : Int32) (0 : Int32) = 1 from alike_64 h 25 0 (by omega) (by omega), show L_L_areAlike_119 V 4 (1 : Int32) (0 : Int32) = 1 from alike_119 h hO 4 0 (by omega) (by omega)]
  rfl
