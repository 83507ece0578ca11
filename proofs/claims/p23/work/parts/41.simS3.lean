/-! what is told -/
theorem dl_eq {d : Int32} {C : CS} {M : ARR} (h : RelD d C (M 0)) {k : Nat} (hk : k < 8) {x : Int32} (hx : x = nI k) (v t : Int32) : F_M_delayWith M x v t = F_C_delayOf (C.1 0 k) v t := by
  have e : ((0 : Int32) + x).toNatClampNeg = k := by rw [hx, Int32.zero_add, nI_clamp (by omega)]
  unfold F_M_delayWith F_C_delayOf
  dsimp only
  rw [e, h.l k hk]
theorem dnow_eq {d : Int32} {C : CS} {M : ARR} (h : RelD d C (M 0)) {k : Nat} (hk : k < 8) : F_C_delayNow C (nI k) = F_C_delayOf (C.1 0 k) (M 0 39) (C.1 4 8) := by
  unfold F_C_delayNow
  dsimp only
  rw [nI_clamp (show k < 2 ^ 31 by omega), h.f 7 39 (by decide)]
theorem sim_setsW {d : Int32} {C : CS} {M : ARR} (h : RelD d C (M 0)) {N : Nat} (hN : M 0 49 = nI N) (h16 : N ≤ 16) (a : Int32) : ∀ (n : Nat) (x y : Int32), cu N n y → L_C_setsWith_4 C a n x y = L_M_setsWith_4 M a n x y
  | 0, _, _, hc => (cu_0 hc).elim
  | n + 1, x, y, hc => by
    simp only [L_C_setsWith_4, L_M_setsWith_4]
    rw [h.f 4 49 (by decide)]
    by_cases c : M 0 49 ≤ y
    · rw [if_pos c, if_pos c]
    · rw [if_neg c, if_neg c]
      obtain ⟨k, hk, hy⟩ := cu_lt hc (by omega) hN c
      have hc2 : cu N n (y + 1) := cu_b hc (by omega) hN c rfl
      have ek : y.toNatClampNeg = k := by rw [hy, nI_clamp (by omega)]
      have e16 : ((16 : Int32) + y).toNatClampNeg = 16 + k := by rw [hy, show (16 : Int32) + nI k = nI (16 + k) from nI_add 16 k, nI_clamp (by omega)]
      rw [has_v, ek, e16, h.s k N hN h16 hk]
      exact sim_setsW h hN h16 a n _ _ hc2
theorem setsW_eq {d : Int32} {C : CS} {M : ARR} (h : RelD d C (M 0)) (hI : IA (M 0)) (a : Int32) : F_C_setsWith C a = F_M_setsWith M a := by
  obtain ⟨N, n1, n2, hN⟩ := hI.c
  exact sim_setsW h hN n2 a 17 0 0 (cu_i (by omega))
theorem sim_pathsJ {d : Int32} {C : CS} {M : ARR} (h : RelD d C (M 0)) {P : Nat} (hP : M 0 51 = nI P) (p8 : P ≤ 8) (a : Int32) : ∀ (n : Nat) (x y : Int32), cu P n y → L_C_pathsJudged_4 C a n x y = L_M_pathsThat_4 M a n x y
  | 0, _, _, hc => (cu_0 hc).elim
  | n + 1, x, y, hc => by
    simp only [L_C_pathsJudged_4, L_M_pathsThat_4]
    rw [h.f 2 51 (by decide)]
    by_cases c : M 0 51 ≤ y
    · rw [if_pos c, if_pos c]
    · rw [if_neg c, if_neg c]
      obtain ⟨k, hk, hy⟩ := cu_lt hc (by omega) hP c
      have hc2 : cu P n (y + 1) := cu_b hc (by omega) hP c rfl
      rw [state_eq h (by omega) hy, hy, dnow_eq h (by omega), ← hy]
      by_cases b : F_C_judge C (F_C_delayOf (C.1 0 k) (M 0 39) (C.1 4 8)) = a
      · simp only [if_pos b]
        exact sim_pathsJ h hP p8 a n _ _ hc2
      · simp only [if_neg b, Int32.or_zero]
        exact sim_pathsJ h hP p8 a n _ _ hc2
theorem pathsJ_eq {d : Int32} {C : CS} {M : ARR} (h : RelD d C (M 0)) (hI : IA (M 0)) (a : Int32) : F_C_pathsJudged C a = F_M_pathsThat M a := by
  obtain ⟨P, p1, p8, hP⟩ := hI.p
  exact sim_pathsJ h hP p8 a 9 0 0 (cu_i (by omega))
theorem sim_path {B : Nat} {S : SLS} {M : ARR} (h : RS B S M) (a1 a2 : Int32) : F_S_path S a1 a2 = F_M_path M a1 a2 := by
  obtain ⟨P, p1, p8, hS, hM⟩ := h.P
  unfold F_S_path F_M_path
  dsimp only
  rw [isPath_eq hS hM p1 p8 a1]
  by_cases c1 : F_M_isPath M a1 = 0
  · rw [if_pos c1, if_pos c1]
  rw [if_neg c1, if_neg c1]
  obtain ⟨k, hk, rfl⟩ := isPath_P hM p1 p8 rfl c1
  have ek : (nI k).toNatClampNeg = k := nI_clamp (by omega)
  have ek0 : ((0 : Int32) + nI k).toNatClampNeg = k := by rw [Int32.zero_add]; exact ek
  have ek8 : ((8 : Int32) + nI k).toNatClampNeg = 8 + k := by rw [show (8 : Int32) + nI k = nI (8 + k) from nI_add 8 k, nI_clamp (by omega)]
  have hD := h.c.1
  rw [ek, ek0, ek8, hD.l k (by omega), hD.u k (by omega), setsW_eq hD h.I, dnow_eq hD (by omega), state_eq hD (show k < 8 by omega) rfl, dl_eq hD (show k < 8 by omega) rfl, hD.f 8 40 (by decide)]
theorem sim_delay {B : Nat} {S : SLS} {M : ARR} (h : RS B S M) (a1 a2 a3 : Int32) : F_S_delay S a1 a2 a3 = F_M_delay M a1 a2 a3 := by
  obtain ⟨P, p1, p8, hS, hM⟩ := h.P
  unfold F_S_delay F_M_delay
  dsimp only
  rw [isPath_eq hS hM p1 p8 a1, isVoltage_eq, show F_S_isWithin a3 (20 : Int32) (120 : Int32) = F_M_in a3.toInt64 (20 : Int64) (120 : Int64) from wi_in 20 120 (by omega) a3]
  by_cases c1 : F_M_isPath M a1 = 0
  · rw [if_pos c1, if_pos c1]
  rw [if_neg c1, if_neg c1]
  obtain ⟨k, hk, rfl⟩ := isPath_P hM p1 p8 rfl c1
  rw [nI_clamp (show k < 2 ^ 31 by omega), dl_eq h.c.1 (show k < 8 by omega) rfl]
theorem sim_workload {B : Nat} {S : SLS} {M : ARR} (h : RS B S M) (a : Int32) : F_S_workload S a = F_M_workload M a := by
  unfold F_S_workload F_M_workload
  dsimp only
  obtain ⟨N, n1, n2, hN⟩ := h.I.c
  rw [h.c.1.f 4 49 (by decide)]
  by_cases c1 : (0 : Int32) ≤ a
  · rw [if_pos c1, if_pos c1]
    by_cases c2 : M 0 49 ≤ a
    · rw [if_pos c2, if_pos c2]
    · rw [if_neg c2, if_neg c2]
      obtain ⟨k, hk, rfl⟩ := wl_i c1 h.I.c c2
      have hkN : k < N := by
        rcases Nat.lt_or_ge k N with q | q
        · exact q
        · exact absurd (by rw [hN]; exact nI_le q (by omega)) c2
      rw [nI_clamp (show k < 2 ^ 31 by omega), show (16 : Int32) + nI k = nI (16 + k) from nI_add 16 k, nI_clamp (show 16 + k < 2 ^ 31 by omega), h.c.1.s k N hN n2 hkN]
  · rw [if_neg c1, if_neg c1]
theorem cnt_0 (S : SLS) : F_S_count S (0 : Int32) = ((S.1 0).1 4 7) := by
  unfold F_S_count
  dsimp only
  rw [if_pos (by decide +kernel), if_pos rfl]
theorem cnt_1 (S : SLS) : F_S_count S (1 : Int32) = ((S.1 0).1 4 8) := by
  unfold F_S_count
  dsimp only
  rw [if_pos (by decide +kernel), if_neg (by decide +kernel), if_pos rfl]
theorem cnt_2 (S : SLS) : F_S_count S (2 : Int32) = (if ((S.1 0).1 4 9) = (0 : Int32) then (0 : Int32) else (1 : Int32)) := by
  unfold F_S_count
  dsimp only
  rw [if_pos (by decide +kernel), if_neg (by decide +kernel), if_neg (by decide +kernel), if_pos rfl]
theorem cnt_3 (S : SLS) : F_S_count S (3 : Int32) = ((S.1 0).1 4 12) := by
  unfold F_S_count
  dsimp only
  rw [if_pos (by decide +kernel), if_neg (by decide +kernel), if_neg (by decide +kernel), if_neg (by decide +kernel), if_pos rfl]
theorem cnt_4 (S : SLS) : F_S_count S (4 : Int32) = ((S.1 0).1 4 13) := by
  unfold F_S_count
  dsimp only
  rw [if_pos (by decide +kernel), if_neg (by decide +kernel), if_neg (by decide +kernel), if_neg (by decide +kernel), if_neg (by decide +kernel), if_pos rfl]
theorem cnt_5 (S : SLS) : F_S_count S (5 : Int32) = ((S.1 0).1 4 14) := by
  unfold F_S_count
  dsimp only
  rw [if_pos (by decide +kernel), if_neg (by decide +kernel), if_neg (by decide +kernel), if_neg (by decide +kernel), if_neg (by decide +kernel), if_neg (by decide +kernel), if_pos rfl]
theorem cnt_6 (S : SLS) : F_S_count S (6 : Int32) = ((S.1 0).1 4 15) := by
  unfold F_S_count
  dsimp only
  rw [if_pos (by decide +kernel), if_neg (by decide +kernel), if_neg (by decide +kernel), if_neg (by decide +kernel), if_neg (by decide +kernel), if_neg (by decide +kernel), if_neg (by decide +kernel), if_pos rfl]
theorem cnt_7 (S : SLS) : F_S_count S (7 : Int32) = ((((S.1 0).2) / (1000 : Int64)).toInt32) := by
  unfold F_S_count
  dsimp only
  rw [if_pos (by decide +kernel), if_neg (by decide +kernel), if_neg (by decide +kernel), if_neg (by decide +kernel), if_neg (by decide +kernel), if_neg (by decide +kernel), if_neg (by decide +kernel), if_neg (by decide +kernel), if_pos rfl]
theorem cnt_8 (S : SLS) : F_S_count S (8 : Int32) = ((S.1 0).1 4 10) := by
  unfold F_S_count
  dsimp only
  rw [if_pos (by decide +kernel), if_neg (by decide +kernel), if_neg (by decide +kernel), if_neg (by decide +kernel), if_neg (by decide +kernel), if_neg (by decide +kernel), if_neg (by decide +kernel), if_neg (by decide +kernel), if_neg (by decide +kernel), if_pos rfl]
theorem cnt_9 (S : SLS) : F_S_count S (9 : Int32) = ((S.1 0).1 4 11) := by
  unfold F_S_count
  dsimp only
  rw [if_pos (by decide +kernel), if_neg (by decide +kernel), if_neg (by decide +kernel), if_neg (by decide +kernel), if_neg (by decide +kernel), if_neg (by decide +kernel), if_neg (by decide +kernel), if_neg (by decide +kernel), if_neg (by decide +kernel), if_neg (by decide +kernel), if_pos rfl]
theorem cnt_10 (S : SLS) : F_S_count S (10 : Int32) = ((S.1 0).1 4 4) := by
  unfold F_S_count
  dsimp only
  rw [if_pos (by decide +kernel), if_neg (by decide +kernel), if_neg (by decide +kernel), if_neg (by decide +kernel), if_neg (by decide +kernel), if_neg (by decide +kernel), if_neg (by decide +kernel), if_neg (by decide +kernel), if_neg (by decide +kernel), if_neg (by decide +kernel), if_neg (by decide +kernel), if_pos rfl]
theorem cnt_11 (S : SLS) : F_S_count S (11 : Int32) = ((S.1 0).1 4 5) := by
  unfold F_S_count
  dsimp only
  rw [if_pos (by decide +kernel), if_neg (by decide +kernel), if_neg (by decide +kernel), if_neg (by decide +kernel), if_neg (by decide +kernel), if_neg (by decide +kernel), if_neg (by decide +kernel), if_neg (by decide +kernel), if_neg (by decide +kernel), if_neg (by decide +kernel), if_neg (by decide +kernel), if_neg (by decide +kernel), if_pos rfl]
theorem cnt_12 (S : SLS) : F_S_count S (12 : Int32) = ((S.1 0).1 4 2) := by
  unfold F_S_count
  dsimp only
  rw [if_pos (by decide +kernel), if_neg (by decide +kernel), if_neg (by decide +kernel), if_neg (by decide +kernel), if_neg (by decide +kernel), if_neg (by decide +kernel), if_neg (by decide +kernel), if_neg (by decide +kernel), if_neg (by decide +kernel), if_neg (by decide +kernel), if_neg (by decide +kernel), if_neg (by decide +kernel), if_neg (by decide +kernel), if_pos rfl]
theorem cnt_13 (S : SLS) : F_S_count S (13 : Int32) = (F_C_pathsJudged (S.1 0) (1 : Int32)) := by
  unfold F_S_count
  dsimp only
  rw [if_pos (by decide +kernel), if_neg (by decide +kernel), if_neg (by decide +kernel), if_neg (by decide +kernel), if_neg (by decide +kernel), if_neg (by decide +kernel), if_neg (by decide +kernel), if_neg (by decide +kernel), if_neg (by decide +kernel), if_neg (by decide +kernel), if_neg (by decide +kernel), if_neg (by decide +kernel), if_neg (by decide +kernel), if_neg (by decide +kernel), if_pos rfl]
theorem cnt_14 (S : SLS) : F_S_count S (14 : Int32) = (F_C_pathsJudged (S.1 0) (2 : Int32)) := by
  unfold F_S_count
  dsimp only
  rw [if_pos (by decide +kernel), if_neg (by decide +kernel), if_neg (by decide +kernel), if_neg (by decide +kernel), if_neg (by decide +kernel), if_neg (by decide +kernel), if_neg (by decide +kernel), if_neg (by decide +kernel), if_neg (by decide +kernel), if_neg (by decide +kernel), if_neg (by decide +kernel), if_neg (by decide +kernel), if_neg (by decide +kernel), if_neg (by decide +kernel), if_neg (by decide +kernel), if_pos rfl]
theorem cnt_15 (S : SLS) : F_S_count S (15 : Int32) = ((S.1 0).1 4 17) := by
  unfold F_S_count
  dsimp only
  rw [if_pos (by decide +kernel), if_neg (by decide +kernel), if_neg (by decide +kernel), if_neg (by decide +kernel), if_neg (by decide +kernel), if_neg (by decide +kernel), if_neg (by decide +kernel), if_neg (by decide +kernel), if_neg (by decide +kernel), if_neg (by decide +kernel), if_neg (by decide +kernel), if_neg (by decide +kernel), if_neg (by decide +kernel), if_neg (by decide +kernel), if_neg (by decide +kernel), if_neg (by decide +kernel), if_pos rfl]
theorem cnt_16 (S : SLS) : F_S_count S (16 : Int32) = ((S.1 0).1 4 18) := by
  unfold F_S_count
  dsimp only
  rw [if_pos (by decide +kernel), if_neg (by decide +kernel), if_neg (by decide +kernel), if_neg (by decide +kernel), if_neg (by decide +kernel), if_neg (by decide +kernel), if_neg (by decide +kernel), if_neg (by decide +kernel), if_neg (by decide +kernel), if_neg (by decide +kernel), if_neg (by decide +kernel), if_neg (by decide +kernel), if_neg (by decide +kernel), if_neg (by decide +kernel), if_neg (by decide +kernel), if_neg (by decide +kernel), if_neg (by decide +kernel), if_pos rfl]
theorem cnt_24 (S : SLS) : F_S_count S (24 : Int32) = S.2.2 5 := by
  unfold F_S_count
  dsimp only
  rw [if_pos (by decide +kernel), if_neg (by decide +kernel), if_neg (by decide +kernel), if_neg (by decide +kernel), if_neg (by decide +kernel), if_neg (by decide +kernel), if_neg (by decide +kernel), if_neg (by decide +kernel), if_neg (by decide +kernel), if_neg (by decide +kernel), if_neg (by decide +kernel), if_neg (by decide +kernel), if_neg (by decide +kernel), if_neg (by decide +kernel), if_neg (by decide +kernel), if_neg (by decide +kernel), if_neg (by decide +kernel), if_neg (by decide +kernel), if_pos rfl]
theorem cnt_25 (S : SLS) : F_S_count S (25 : Int32) = S.2.1 2 1 := by
  unfold F_S_count
  dsimp only
  rw [if_pos (by decide +kernel), if_neg (by decide +kernel), if_neg (by decide +kernel), if_neg (by decide +kernel), if_neg (by decide +kernel), if_neg (by decide +kernel), if_neg (by decide +kernel), if_neg (by decide +kernel), if_neg (by decide +kernel), if_neg (by decide +kernel), if_neg (by decide +kernel), if_neg (by decide +kernel), if_neg (by decide +kernel), if_neg (by decide +kernel), if_neg (by decide +kernel), if_neg (by decide +kernel), if_neg (by decide +kernel), if_neg (by decide +kernel), if_neg (by decide +kernel), if_pos rfl]
theorem cntM_0 (M : ARR) : F_M_count M (0 : Int32) = M 0 39 := by
  unfold F_M_count
  dsimp only
  rw [if_neg (by decide +kernel), show ((39 : Int32) + (0 : Int32)).toNatClampNeg = 39 by decide +kernel]
theorem cntM_1 (M : ARR) : F_M_count M (1 : Int32) = M 0 40 := by
  unfold F_M_count
  dsimp only
  rw [if_neg (by decide +kernel), show ((39 : Int32) + (1 : Int32)).toNatClampNeg = 40 by decide +kernel]
theorem cntM_2 (M : ARR) : F_M_count M (2 : Int32) = M 0 41 := by
  unfold F_M_count
  dsimp only
  rw [if_neg (by decide +kernel), show ((39 : Int32) + (2 : Int32)).toNatClampNeg = 41 by decide +kernel]
theorem cntM_3 (M : ARR) : F_M_count M (3 : Int32) = M 0 42 := by
  unfold F_M_count
  dsimp only
  rw [if_neg (by decide +kernel), show ((39 : Int32) + (3 : Int32)).toNatClampNeg = 42 by decide +kernel]
theorem cntM_4 (M : ARR) : F_M_count M (4 : Int32) = M 0 43 := by
  unfold F_M_count
  dsimp only
  rw [if_neg (by decide +kernel), show ((39 : Int32) + (4 : Int32)).toNatClampNeg = 43 by decide +kernel]
theorem cntM_5 (M : ARR) : F_M_count M (5 : Int32) = M 0 44 := by
  unfold F_M_count
  dsimp only
  rw [if_neg (by decide +kernel), show ((39 : Int32) + (5 : Int32)).toNatClampNeg = 44 by decide +kernel]
theorem cntM_6 (M : ARR) : F_M_count M (6 : Int32) = M 0 45 := by
  unfold F_M_count
  dsimp only
  rw [if_neg (by decide +kernel), show ((39 : Int32) + (6 : Int32)).toNatClampNeg = 45 by decide +kernel]
theorem cntM_7 (M : ARR) : F_M_count M (7 : Int32) = M 0 46 := by
  unfold F_M_count
  dsimp only
  rw [if_neg (by decide +kernel), show ((39 : Int32) + (7 : Int32)).toNatClampNeg = 46 by decide +kernel]
theorem cntM_8 (M : ARR) : F_M_count M (8 : Int32) = M 0 47 := by
  unfold F_M_count
  dsimp only
  rw [if_neg (by decide +kernel), show ((39 : Int32) + (8 : Int32)).toNatClampNeg = 47 by decide +kernel]
theorem cntM_9 (M : ARR) : F_M_count M (9 : Int32) = M 0 48 := by
  unfold F_M_count
  dsimp only
  rw [if_neg (by decide +kernel), show ((39 : Int32) + (9 : Int32)).toNatClampNeg = 48 by decide +kernel]
theorem cntM_10 (M : ARR) : F_M_count M (10 : Int32) = M 0 49 := by
  unfold F_M_count
  dsimp only
  rw [if_neg (by decide +kernel), show ((39 : Int32) + (10 : Int32)).toNatClampNeg = 49 by decide +kernel]
theorem cntM_11 (M : ARR) : F_M_count M (11 : Int32) = M 0 50 := by
  unfold F_M_count
  dsimp only
  rw [if_neg (by decide +kernel), show ((39 : Int32) + (11 : Int32)).toNatClampNeg = 50 by decide +kernel]
theorem cntM_12 (M : ARR) : F_M_count M (12 : Int32) = M 0 51 := by
  unfold F_M_count
  dsimp only
  rw [if_neg (by decide +kernel), show ((39 : Int32) + (12 : Int32)).toNatClampNeg = 51 by decide +kernel]
theorem sim_count12 {B : Nat} (hB : B < 2 ^ 63) {S : SLS} {M : ARR} (h : RS B S M) : ∀ k : Nat, k < 13 → F_S_count S (nI k) = F_M_count M (nI k)
  | 0, _ => (cnt_0 S).trans ((h.c.1.f 7 39 (by decide)).trans (cntM_0 M).symm)
  | 1, _ => (cnt_1 S).trans ((h.c.1.f 8 40 (by decide)).trans (cntM_1 M).symm)
  | 2, _ => (cnt_2 S).trans (Eq.trans (by have q := bn01 h.I.g; rw [h.c.1.f 9 41 (by decide)]; rcases q with q | q <;> rw [q] <;> rfl) (cntM_2 M).symm)
  | 3, _ => (cnt_3 S).trans ((h.c.1.f 12 42 (by decide)).trans (cntM_3 M).symm)
  | 4, _ => (cnt_4 S).trans ((by have q := h.c.1.w; rwa [Int32.add_zero] at q : (S.1 0).1 4 13 = M 0 43).trans (cntM_4 M).symm)
  | 5, _ => (cnt_5 S).trans ((h.c.1.f 14 44 (by decide)).trans (cntM_5 M).symm)
  | 6, _ => (cnt_6 S).trans ((h.c.1.f 15 45 (by decide)).trans (cntM_6 M).symm)
  | 7, _ => (cnt_7 S).trans (Eq.trans (by obtain ⟨E, e1, e2, e3, e4⟩ := h.c.2.2; rw [e2, e3, show (1000 : Int64) = lN 1000 from rfl, pk_lDiv (by omega) (by omega) (by omega), lN_i]) (cntM_7 M).symm)
  | 8, _ => (cnt_8 S).trans ((h.c.1.f 10 47 (by decide)).trans (cntM_8 M).symm)
  | 9, _ => (cnt_9 S).trans ((h.c.1.f 11 48 (by decide)).trans (cntM_9 M).symm)
  | 10, _ => (cnt_10 S).trans ((h.c.1.f 4 49 (by decide)).trans (cntM_10 M).symm)
  | 11, _ => (cnt_11 S).trans ((h.c.1.f 5 50 (by decide)).trans (cntM_11 M).symm)
  | 12, _ => (cnt_12 S).trans ((h.c.1.f 2 51 (by decide)).trans (cntM_12 M).symm)
theorem sim_count {B : Nat} (hB : B < 2 ^ 63) {S : SLS} {M : ARR} (h : RS B S M) (a : Int32) : F_S_count S a = F_M_count M a := by
  by_cases c1 : F_M_in a.toInt64 (0 : Int64) (12 : Int64) = 0
  · by_cases c2 : F_M_in a.toInt64 (17 : Int64) (23 : Int64) = 0
    · have hne : ∀ k : Nat, k < 13 → ¬ a = nI k := fun k hk q => by
        rw [q, show (0 : Int64) = lN 0 from rfl, show (12 : Int64) = lN 12 from rfl, ← wi_in 0 12 (by omega), wi_eq, if_pos ⟨nI_le (by omega) (by omega), nI_le (by omega) (by omega)⟩] at c1
        exact absurd c1 (by decide)
      unfold F_S_count F_M_count
      dsimp only
      rw [show F_S_isWithin a (17 : Int32) (23 : Int32) = F_M_in a.toInt64 (17 : Int64) (23 : Int64) from wi_in 17 23 (by omega) a]
      rw [if_pos c2, if_pos c1, if_pos c2]
      rw [if_neg (show ¬ a = (0 : Int32) from hne 0 (by omega)), if_neg (show ¬ a = (1 : Int32) from hne 1 (by omega)), if_neg (show ¬ a = (2 : Int32) from hne 2 (by omega)), if_neg (show ¬ a = (3 : Int32) from hne 3 (by omega)), if_neg (show ¬ a = (4 : Int32) from hne 4 (by omega)), if_neg (show ¬ a = (5 : Int32) from hne 5 (by omega)), if_neg (show ¬ a = (6 : Int32) from hne 6 (by omega)), if_neg (show ¬ a = (7 : Int32) from hne 7 (by omega)), if_neg (show ¬ a = (8 : Int32) from hne 8 (by omega)), if_neg (show ¬ a = (9 : Int32) from hne 9 (by omega)), if_neg (show ¬ a = (10 : Int32) from hne 10 (by omega)), if_neg (show ¬ a = (11 : Int32) from hne 11 (by omega)), if_neg (show ¬ a = (12 : Int32) from hne 12 (by omega))]
      by_cases d13 : a = 13
      · subst d13
        rw [if_pos rfl, if_pos rfl]
        exact pathsJ_eq h.c.1 h.I 1
      by_cases d14 : a = 14
      · subst d14
        rw [if_neg d13, if_neg d13, if_pos rfl, if_pos rfl]
        exact pathsJ_eq h.c.1 h.I 2
      rw [if_neg d13, if_neg d13, if_neg d14, if_neg d14, h.c.1.f 17 52 (by decide), h.c.1.f 18 53 (by decide)]
      obtain ⟨n, _, a2, a3, _⟩ := h.h
      obtain ⟨t, _, t2, t3, _⟩ := h.t
      rw [a2, a3, t2, t3]
    · obtain ⟨k, k1, k2, rfl⟩ := in_bn 17 23 (by omega) (x := a) rfl c2
      unfold F_S_count F_M_count
      dsimp only
      rw [show F_S_isWithin (nI k) (17 : Int32) (23 : Int32) = F_M_in (nI k).toInt64 (17 : Int64) (23 : Int64) from wi_in 17 23 (by omega) _]
      rw [if_neg c2, if_pos c1, if_neg c2]
      have e1 : nI k - (17 : Int32) = nI (k - 17) := pk_sub (a := k) (b := 17) k1
      have e2 : (32 : Int32) + nI k - (17 : Int32) = nI (32 + (k - 17)) := by
        rw [show (32 : Int32) + nI k = nI (32 + k) from nI_add 32 k, show nI (32 + k) - (17 : Int32) = nI (32 + k - 17) from pk_sub (a := 32 + k) (b := 17) (by omega)]
        congr 1
        omega
      rw [e1, e2, nI_clamp (by omega), nI_clamp (by omega), h.c.1.e (k - 17) (by omega)]
  · obtain ⟨k, _, k2, rfl⟩ := in_bn 0 12 (by omega) (x := a) rfl c1
    exact sim_count12 hB h k (by omega)
/-! how the energy grows -/
def EN (k : Nat) (C C' : CS) : Prop := ∃ e : Nat, e ≤ k ∧ C'.2 = C.2 + lN e
theorem EN.rf {C C' : CS} (h : C'.2 = C.2) : EN 0 C C' := ⟨0, Nat.le_refl _, by rw [h]; exact (Int64.add_zero _).symm⟩
theorem EN.tr {j k : Nat} {C C' C'' : CS} (h : EN j C C') (g : EN k C' C'') : EN (j + k) C C'' := by
  obtain ⟨e, h1, h2⟩ := h
  obtain ⟨f, h3, h4⟩ := g
  exact ⟨e + f, by omega, by rw [h4, h2, Int64.add_assoc, lN_add]⟩
theorem EN.up {j k : Nat} {C C' : CS} (h : EN j C C') (q : j ≤ k) : EN k C C' := by
  obtain ⟨e, h1, h2⟩ := h
  exact ⟨e, by omega, h2⟩
theorem Cspend_v (C : CS) (n : Int32) : (F_C_spendCycle C n).1 4 7 = C.1 4 7 := by
  unfold F_C_spendCycle
  dsimp only
  repeat' split
  all_goals simp only [Cheat_at _ _ (show 7 ≠ 8 by decide), sE_1, sC_ne _ _ _ _ (show 7 ≠ 12 by decide), sC_ne _ _ _ _ (show 7 ≠ 10 by decide)]
theorem EN_spend {C : CS} (n : Int32) (hv : bn 500 1200 (C.1 4 7)) : EN 144 C (F_C_spendCycle C n) := by
  obtain ⟨v, v1, v2, hv⟩ := hv
  have hvv : v * v ≤ 1200 * 1200 := Nat.mul_le_mul v2 v2
  refine ⟨v * v / 10000, by omega, ?_⟩
  rw [Cspend_2, hv, show nI v * nI v = nI (v * v) from (Int32.ofNat_mul v v).symm, show nI (v * v) / (10000 : Int32) = nI (v * v / 10000) from pk_div (a := v * v) (d := 10000) (by omega) (by omega) (by omega), nI_l (by omega)]
theorem EN_replay {R9 : Nat} (hR : R9 ≤ 20) : ∀ (n : Nat) (x : Int32) (C : CS) (k : Nat), x = nI k → k ≤ R9 → R9 + 1 ≤ k + n → C.1 3 2 = nI R9 → bn 500 1200 (C.1 4 7) → EN (144 * (R9 - k)) C (L_C_complain_29 n x C)
  | 0, _, _, k, _, h1, h2, _, _ => absurd h2 (by omega)
  | n + 1, x, C, k, hx, h1, h2, h3, hv => by
    subst hx
    simp only [L_C_complain_29]
    rw [h3]
    by_cases c : R9 ≤ k
    · rw [if_pos (nI_le c (by omega))]
      exact (EN.rf rfl).up (by omega)
    · rw [if_neg (nI_ge (by omega) (by omega))]
      have g := EN_replay hR n (nI k + 1) (F_C_spendCycle C 0) (k + 1) (nI_1 k) (by omega) (by omega) (by rw [Cspend_3]; exact h3) (by rw [Cspend_v]; exact hv)
      exact ((EN_spend 0 hv).tr g).up (by omega)
theorem Cuses_2 (C : CS) (a : Int32) : (F_C_countUses C a).2 = C.2 := LCuses_2 a 9 0 C
theorem EN_complain {C : CS} (hv : bn 500 1200 (C.1 4 7)) (hr : bn 1 20 (C.1 3 2)) : EN 2880 C (F_C_complain C) := by
  obtain ⟨R9, r1, r2, hR⟩ := hr
  obtain ⟨C1, e1⟩ : ∃ C1 : CS, C1 = (if ((sC C 4 14 ((C.1 4 14) + (1 : Int32))).1 4 9) = (0 : Int32) then sC C 4 14 ((C.1 4 14) + (1 : Int32)) else sC (sC C 4 14 ((C.1 4 14) + (1 : Int32))) 4 11 (((sC C 4 14 ((C.1 4 14) + (1 : Int32))).1 4 11) + (1 : Int32))) := ⟨_, rfl⟩
  have h : C1.2 = C.2 ∧ C1.1 3 2 = nI R9 ∧ C1.1 4 7 = C.1 4 7 := by
    rw [e1]
    split
    · exact ⟨rfl, by rw [sC_o _ _ _ _ (by decide)]; exact hR, sC_ne _ _ _ _ (by decide)⟩
    · exact ⟨rfl, by rw [sC_o _ _ _ _ (by decide), sC_o _ _ _ _ (by decide)]; exact hR, by rw [sC_ne _ _ _ _ (by decide), sC_ne _ _ _ _ (by decide)]⟩
  have e : F_C_complain C = L_C_complain_29 21 (0 : Int32) C1 := by rw [e1]; rfl
  rw [e]
  have g := EN_replay r2 21 0 C1 0 nI_0.symm (by omega) (by omega) h.2.1 (by rw [h.2.2]; exact hv)
  exact ((EN.rf h.1).tr g).up (by omega)
theorem EN_one {C : CS} (hO : OKC C) : EN 3168 C (F_C_runOneCycle C) := by
  have hv := hO.v
  have hr := hO.r
  unfold F_C_runOneCycle
  dsimp only
  generalize (if (C.1 4 4) ≤ ((C.1 4 5) + (1 : Int32)) then (0 : Int32) else ((C.1 4 5) + (1 : Int32))) = pl
  generalize C.1 2 ((C.1 4 5).toNatClampNeg) = u
  generalize F_C_judge (sC C 4 5 pl) (F_C_delayOf (F_C_longestOf (sC C 4 5 pl) u) ((sC C 4 5 pl).1 4 7) ((sC C 4 5 pl).1 4 8)) = jd
  obtain ⟨C1, e1⟩ : ∃ C1 : CS, C1 = F_C_countUses (sC C 4 5 pl) u := ⟨_, rfl⟩
  obtain ⟨C2, e2⟩ : ∃ C2 : CS, C2 = F_C_spendCycle C1 (F_J_bitCount u) := ⟨_, rfl⟩
  rw [← e1, ← e2]
  have h1 : C1.2 = C.2 := by rw [e1, Cuses_2]; rfl
  have h1v : C1.1 4 7 = C.1 4 7 := by rw [e1, Cuses_o _ _ (by decide), sC_ne _ _ _ _ (by decide)]
  have h13 : C1.1 3 = C.1 3 := by rw [e1, Cuses_o _ _ (by decide), sC_o _ _ _ _ (by decide)]
  have h2 : EN 144 C C2 := by
    rw [e2]
    exact ((EN.rf h1).tr (EN_spend _ (by rw [h1v]; exact hv))).up (by omega)
  have h2v : C2.1 4 7 = C.1 4 7 := by rw [e2, Cspend_v, h1v]
  have h23 : C2.1 3 = C.1 3 := by rw [e2, Cspend_3, h13]
  by_cases c1 : jd = 2
  · rw [if_pos c1]
    exact (h2.tr (EN.rf (C' := C2) rfl)).up (by omega)
  rw [if_neg c1]
  by_cases c2 : jd = 1
  · simp only [if_pos c2]
    exact ((h2.tr (EN_complain (C := C2) (by rw [h2v]; exact hv) (by rw [h23]; exact hr))).tr (EN.rf (C := F_C_complain C2) rfl)).up (by omega)
  · simp only [if_neg c2]
    exact (h2.tr (EN.rf (C := C2) rfl)).up (by omega)
theorem EN_step {C : CS} (hO : OKC C) : EN 3168 C (stepC C) := by
  unfold stepC
  have h := EN_one hO
  split
  · exact h
  · split
    · exact h
    · exact (h.tr (EN.rf (Clook_2 _))).up (by omega)
theorem EN_stepN : ∀ (n : Nat) (C : CS), OKC C → EN (3168 * n) C (stepN n C)
  | 0, C, _ => EN.rf rfl
  | n + 1, C, hO => ((EN_step hO).tr (EN_stepN n (stepC C) (OKC_step hO))).up (by omega)
/-! what would be -/
theorem brings_o (M : ARR) (v c w : Int32) {i : Nat} (h0 : i ≠ 0) (h2 : i ≠ 2) : (F_M_brings M v c w).2 i = M i := by
  unfold F_M_brings
  dsimp only
  rw [sR_o _ _ _ h0, L30_o _ _ _ _ h0, sA_o _ _ _ _ h0, sA_o _ _ _ _ h0, sR_o _ _ _ h2]
theorem RS_tr {B : Nat} {S S' : SLS} {M M' : ARR} (h : RS B S M) (hS0 : ∀ i, i ≠ 2 → S'.1 i = S.1 i) (hS2 : S'.2 = S.2) (hg : (S'.1 2).1 4 9 = 0 ∨ (S'.1 2).1 4 9 = 1) (hM0 : ∀ j, j < 55 → M' 0 j = M 0 j) (hMo : ∀ i, i ≠ 0 → i ≠ 2 → M' i = M i) : RS B S' M' := by
  obtain ⟨n, n4, a2, a3, a4⟩ := h.h
  obtain ⟨t, t1, t2, t3, t4⟩ := h.t
  refine ⟨?_, ⟨n, n4, ?_, ?_, fun k hk => ?_⟩, ⟨?_, ?_, fun q => ?_⟩, ⟨t, t1, ?_, ?_, fun k hk => ?_⟩, fun i hi => ?_⟩
  · rw [hS0 0 (by decide)]; exact h.c.cg hM0
  · rw [hS2]; exact a2
  · rw [hMo 7 (by decide) (by decide)]; exact a3
  · rw [hS0 _ (by omega), hMo 3 (by decide) (by decide)]; exact a4 k hk
  · rw [hS2, hMo 7 (by decide) (by decide)]; exact h.k.1
  · rw [hS2]; exact h.k.2.1
  · rw [hS2] at q
    rw [hS0 1 (by decide), hMo 4 (by decide) (by decide)]; exact h.k.2.2 q
  · rw [hS2]; exact t2
  · rw [hMo 7 (by decide) (by decide)]; exact t3
  · rw [hS2, hMo 5 (by decide) (by decide)]; exact t4 k hk
  · by_cases q : i = 2
    · subst q; exact hg
    · rw [hS0 i q]; exact h.g i hi
def tryC (C C' : CS) (v : Int32) (K : Nat) : CS := stepN K (sC (sC (cpC C' C) 4 9 0) 4 7 v)
theorem sub_E (E E' : Nat) : (lN E' - lN E).toInt32 = ((((nI (E' / 1000)) - (nI (E / 1000))) * (1000 : Int32)) + (nI (E' % 1000))) - (nI (E % 1000)) := by
  have h : ∀ e : Nat, nI e = (1000 : Int32) * nI (e / 1000) + nI (e % 1000) := fun e => by
    have q : e = 1000 * (e / 1000) + e % 1000 := (Nat.div_add_mod e 1000).symm
    rw [show (1000 : Int32) * nI (e / 1000) = nI (1000 * (e / 1000)) from (Int32.ofNat_mul 1000 _).symm, nI_add, ← q]
  rw [Int64.toInt32_sub, lN_i, lN_i, h E', h E]
  generalize nI (E' / 1000) = a
  generalize nI (E / 1000) = b
  generalize nI (E' % 1000) = c
  generalize nI (E % 1000) = d
  grind
theorem brings_val {B : Nat} {C : CS} {M : ARR} (h : CR B C (M 0)) {v : Int32} (hv : bn 500 1200 v) {K : Nat} (k1 : K ≤ 500) (w : Int32) (C' : CS) : (F_M_brings M v (nI K) w).1 = (if w = (0 : Int32) then ((tryC C C' v K).1 4 14) - (C.1 4 14) else if w = (1 : Int32) then ((tryC C C' v K).1 4 15) - (C.1 4 15) else if w = (2 : Int32) then (((tryC C C' v K).2) - (C.2)).toInt32 else if w = (3 : Int32) then ((tryC C C' v K).1 4 12) - (C.1 4 12) else (tryC C C' v K).1 4 8) := by
  obtain ⟨M2, e2⟩ : ∃ M2 : ARR, M2 = sA (sA (sR M 2 (cpy55 (M 0) (M 2))) 0 39 v) 0 41 (0 : Int32) := ⟨_, rfl⟩
  obtain ⟨q, eq⟩ : ∃ q : ARR, q = cycN K M2 := ⟨_, rfl⟩
  have hL : L_M_brings_30 (nI K) 501 (0 : Int32) M2 = q := by
    rw [brings_cycN (K := K) (by omega) rfl 501 0 M2 0 nI_0.symm (by omega) (by omega), eq]; rfl
  obtain ⟨d1, d2, E', d3, d4, d5, d6⟩ := sim_cycN K B (sC (sC (cpC C' C) 4 9 0) 4 7 v) M2 (by rw [e2]; exact try_rel h.1 _) (by rw [e2]; exact IA_tr h.2.1 hv _) (by rw [e2]; exact try_E h.2.2 _)
  have hq2 : ∀ j, j < 55 → q 2 j = M 0 j := fun j hj => by
    rw [eq, cycN_o K _ (by decide), e2, sA_o _ _ _ _ (by decide), sA_o _ _ _ _ (by decide), sR_e, cpy55_lt hj]
  rw [← eq] at d1 d5 d6
  have d1 : RelD 0 (tryC C C' v K) (q 0) := d1
  have d4 : (tryC C C' v K).2 = lN E' := d4
  obtain ⟨E, f1, f2, f3, f4⟩ := h.2.2
  have eF : (F_M_brings M v (nI K) w).1 = (if w = (0 : Int32) then ((q 0 44) - (q 2 44)) else if w = (1 : Int32) then ((q 0 45) - (q 2 45)) else if w = (2 : Int32) then F_M_energySince q else if w = (3 : Int32) then ((q 0 42) - (q 2 42)) else (q 0 40)) := by
    rw [← hL, e2]; rfl
  rw [eF, hq2 44 (by omega), hq2 45 (by omega), hq2 42 (by omega), d1.f 14 44 (by decide), d1.f 15 45 (by decide), d1.f 12 42 (by decide), d1.f 8 40 (by decide), h.1.f 14 44 (by decide), h.1.f 15 45 (by decide), h.1.f 12 42 (by decide), d4, f2, sub_E]
  unfold F_M_energySince
  rw [hq2 46 (by omega), hq2 54 (by omega), d5, d6, f3, f4]
theorem tryC_eq2 (S : SLS) (v : Int32) {K : Nat} (hK : K ≤ 2000) : (F_S_tryCycles S v (nI K)).1 2 = tryC (S.1 0) (S.1 2) v K := by
  rw [tryC_2, runs_stepN hK]; rfl
theorem RS_try {B : Nat} {S : SLS} {M : ARR} (h : RS B S M) {v c : Int32} (hv : bn 500 1200 v) (hc : bn 1 2000 c) (w : Int32) : RS B (F_S_tryCycles S v c) (F_M_brings M v c w).2 :=
  RS_tr h (fun i hi => tryC_o S v c hi) (tryC_s S v c) ((OKS_try h.ok hv hc).b 2 (by omega)) (fun j hj => brings_row M v c w hj) (fun i h0 h2 => brings_o M v c w h0 h2)
theorem sim_would {B : Nat} {S : SLS} {M : ARR} (h : RS B S M) (a1 a2 a3 : Int32) : (F_S_would S a1 a2 a3).1 = (F_M_would M a1 a2 a3).1 ∧ RS B (F_S_would S a1 a2 a3).2 (F_M_would M a1 a2 a3).2 := by
  unfold F_S_would F_M_would
  dsimp only
  rw [isVoltage_eq, show F_S_isWithin a2 (1 : Int32) (500 : Int32) = F_M_in a2.toInt64 (1 : Int64) (500 : Int64) from wi_in 1 500 (by omega) a2, show F_S_isWithin a3 (0 : Int32) (4 : Int32) = F_M_in a3.toInt64 (0 : Int64) (4 : Int64) from wi_in 0 4 (by omega) a3]
  by_cases c1 : F_M_isVoltage a1 = 0
  · simp only [if_pos c1]; exact ⟨trivial, h⟩
  simp only [if_neg c1]
  by_cases c2 : F_M_in a2.toInt64 (1 : Int64) (500 : Int64) = 0
  · simp only [if_pos c2]; exact ⟨trivial, h⟩
  simp only [if_neg c2]
  by_cases c3 : F_M_in a3.toInt64 (0 : Int64) (4 : Int64) = 0
  · simp only [if_pos c3]; exact ⟨trivial, h⟩
  simp only [if_neg c3]
  have hv : bn 500 1200 a1 := in_bn 500 1200 (by omega) (x := a1) rfl c1
  obtain ⟨K, k1, k2, rfl⟩ := in_bn 1 500 (by omega) (x := a2) rfl c2
  have hR := RS_try h hv (c := nI K) ⟨K, k1, by omega, rfl⟩ a3
  rw [brings_val h.c hv k2 a3 (S.1 2), tryC_eq2 S a1 (by omega), tryC_o _ _ _ (show 0 ≠ 2 by decide)]
  by_cases d0 : a3 = 0
  · simp only [if_pos d0]; exact ⟨trivial, hR⟩
  simp only [if_neg d0]
  by_cases d1 : a3 = 1
  · simp only [if_pos d1]; exact ⟨trivial, hR⟩
  simp only [if_neg d1]
  by_cases d2 : a3 = 2
  · simp only [if_pos d2]; exact ⟨trivial, hR⟩
  simp only [if_neg d2]
  by_cases d3 : a3 = 3
  · simp only [if_pos d3]; exact ⟨trivial, hR⟩
  simp only [if_neg d3]; exact ⟨trivial, hR⟩
theorem sub0 (x y : Int32) : (x - y = 0) ↔ x = y := by grind
theorem addsub (x y : Int64) : x + y - x = y := by grind
theorem sim_bestL {B K : Nat} (k1 : 1 ≤ K) (k2 : K ≤ 200) : ∀ (n : Nat) (x2 : Int32) (f : Nat) (x5 : Int32) (S : SLS) (M : ARR), RS B S M → bs5 n x5 → f ≤ 633600 → (L_S_best_24 (nI K) n x2 (lN f) x5 S).1 = (L_M_best_25 (nI K) n x2 (nI f) x5 M).1 ∧ RS B (L_S_best_24 (nI K) n x2 (lN f) x5 S).2 (L_M_best_25 (nI K) n x2 (nI f) x5 M).2
  | 0, x2, f, x5, S, M, h, hi, hf => by
    obtain ⟨j, _, h1, h2⟩ := hi
    omega
  | n + 1, x2, f, x5, S, M, h, hi, hf => by
    simp only [L_S_best_24, L_M_best_25]
    by_cases c1 : (1200 : Int32) < x5
    · simp only [if_pos c1]; exact ⟨trivial, h⟩
    simp only [if_neg c1]
    have hv := bs5_v hi c1
    have hi2 : bs5 n (x5 + (50 : Int32)) := bs5_b hi c1 rfl
    have hK : bn 1 2000 (nI K) := ⟨K, k1, by omega, rfl⟩
    have hR1 := RS_try h hv hK 2
    have hc2 : CR B (S.1 0) ((F_M_brings M x5 (nI K) 2).2 0) := h.c.cg (fun j hj => brings_row M x5 (nI K) 2 hj)
    have hR2 : RS B (F_S_tryCycles S x5 (nI K)) (F_M_brings (F_M_brings M x5 (nI K) 2).2 x5 (nI K) 1).2 := RS_tr hR1 (fun _ _ => rfl) rfl (hR1.g 2 (by omega)) (fun j hj => brings_row _ _ _ _ hj) (fun i h0 h2 => brings_o _ _ _ _ h0 h2)
    obtain ⟨e, e1, e2⟩ := EN_stepN K _ (OKC_try h.ok.o hv (S.1 2))
    have e2 : (tryC (S.1 0) (S.1 2) x5 K).2 = (S.1 0).2 + lN e := e2
    have he : e ≤ 633600 := by omega
    rw [brings_val h.c hv (show K ≤ 500 by omega) 2 (S.1 2), brings_val hc2 hv (show K ≤ 500 by omega) 1 (S.1 2), tryC_eq2 S x5 (by omega), tryC_o _ _ _ (show 0 ≠ 2 by decide), e2, addsub, lN_i]
    rw [if_neg (show ¬ (1 : Int32) = 0 by decide), if_pos (rfl : (1 : Int32) = 1), if_neg (show ¬ (2 : Int32) = 0 by decide), if_neg (show ¬ (2 : Int32) = 1 by decide), if_pos (rfl : (2 : Int32) = 2)]
    simp only [sub0, lg_cmp_ge]
    by_cases c2 : (tryC (S.1 0) (S.1 2) x5 K).1 4 15 = (S.1 0).1 4 15
    · simp only [if_pos c2]
      by_cases c3 : x2 = (-5 : Int32)
      · simp only [if_pos c3]
        exact sim_bestL k1 k2 n x5 e _ _ _ hR2 hi2 he
      · simp only [if_neg c3]
        by_cases c4 : f ≤ e
        · simp only [if_pos ((lN_le (a := f) (b := e) (by omega) (by omega)).mpr c4), if_pos (nI_le (a := f) (b := e) c4 (by omega))]
          exact sim_bestL k1 k2 n x2 f _ _ _ hR2 hi2 hf
        · simp only [if_neg (fun q => c4 ((lN_le (a := f) (b := e) (by omega) (by omega)).mp q)), if_neg (fun q => c4 ((nI_leI (a := f) (b := e) (by omega) (by omega)).mp q))]
          exact sim_bestL k1 k2 n x5 e _ _ _ hR2 hi2 he
    · simp only [if_neg c2]
      exact sim_bestL k1 k2 n x2 f _ _ _ hR2 hi2 hf
theorem sim_best {B : Nat} {S : SLS} {M : ARR} (h : RS B S M) (a : Int32) : (F_S_best S a).1 = (F_M_best M a).1 ∧ RS B (F_S_best S a).2 (F_M_best M a).2 := by
  unfold F_S_best F_M_best
  dsimp only
  rw [show F_S_isWithin a (1 : Int32) (200 : Int32) = F_M_in a.toInt64 (1 : Int64) (200 : Int64) from wi_in 1 200 (by omega) a]
  by_cases c1 : F_M_in a.toInt64 (1 : Int64) (200 : Int64) = 0
  · simp only [if_pos c1]; exact ⟨trivial, h⟩
  simp only [if_neg c1]
  obtain ⟨K, k1, k2, rfl⟩ := in_bn 1 200 (by omega) (x := a) rfl c1
  exact sim_bestL k1 k2 16 _ 0 _ _ _ h ⟨0, rfl, by omega, by omega⟩ (by omega)
