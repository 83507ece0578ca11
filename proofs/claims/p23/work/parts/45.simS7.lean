/-! a typed workload is taken -/
theorem RS_text {B : Nat} {S : SLS} {M : ARR} (h : RS B S M) {T' : ARR} {M' : ARR} (t1 : T' 2 1 = S.2.1 2 1) (t0 : T' 0 = S.2.1 0) (mo : ∀ i, i ≠ 6 → i ≠ 7 → M' i = M i) (m7 : ∀ j, j ≠ 9 → j ≠ 11 → M' 7 j = M 7 j) : RS B (sT S T') M' := by
  obtain ⟨n, n4, a2, a3, a4⟩ := h.h
  obtain ⟨t, t60, t2, t3, t4⟩ := h.t
  refine ⟨?_, ⟨n, n4, a2, ?_, fun k hk => ?_⟩, ⟨?_, h.k.2.1, fun q => ?_⟩, ⟨t, t60, ?_, ?_, fun k hk => ?_⟩, h.g⟩
  · rw [mo 0 (by decide) (by decide)]; exact h.c
  · rw [m7 4 (by decide) (by decide)]; exact a3
  · rw [mo 3 (by decide) (by decide)]; exact a4 k hk
  · rw [m7 6 (by decide) (by decide)]; exact h.k.1
  · rw [mo 4 (by decide) (by decide)]; exact h.k.2.2 q
  · rw [sT_T, t1]; exact t2
  · rw [m7 8 (by decide) (by decide)]; exact t3
  · rw [sT_T, t0, mo 5 (by decide) (by decide)]; exact t4 k hk
theorem take_loop {B m : Nat} (m16 : m ≤ 16) : ∀ (n : Nat) (y : Int32) (S : SLS) (M : ARR) (k : Nat), y = nI k → k ≤ m → m + 1 ≤ k + n → S.2.1 2 3 = nI m → M 7 11 = nI m → (∀ q, q < m → S.2.1 1 q = M 6 q ∧ bn 0 255 (M 6 q)) → CR B (S.1 0) (M 0) → (∀ q, q < k → (S.1 0).1 2 q = M 0 (16 + q)) →
    (∃ C' : CS, L_S_takeWorkload_66 n y S = sSC S 0 C' ∧ CR B C' (L_M_takeWorkload_58 n y M 0) ∧ ∀ q, q < m → C'.1 2 q = L_M_takeWorkload_58 n y M 0 (16 + q)) ∧ ∀ i, i ≠ 0 → L_M_takeWorkload_58 n y M i = M i
  | 0, _, _, _, k, _, h1, h2, _, _, _, _, _ => absurd h2 (by omega)
  | n + 1, y, S, M, k, hy, h1, h2, hm, hr, hset, hC, hs => by
    subst hy
    simp only [L_S_takeWorkload_66, L_M_takeWorkload_58]
    rw [hm, hr]
    by_cases c : m ≤ k
    · have ck : nI m ≤ nI k := nI_le c (by omega)
      rw [if_pos ck, if_pos ck]
      have e : S = sSC S 0 (S.1 0) := by
        show (S.1, S.2) = ((fun j => if j = 0 then S.1 0 else S.1 j), S.2)
        congr 1
        funext j
        by_cases q : j = 0
        · subst q; rfl
        · rw [if_neg q]
      exact ⟨⟨S.1 0, e, hC, fun q hq => hs q (by omega)⟩, fun _ _ => rfl⟩
    · have ck : ¬ nI m ≤ nI k := nI_ge (by omega) (by omega)
      rw [if_neg ck, if_neg ck]
      have ek : (nI k).toNatClampNeg = k := nI_clamp (by omega)
      have ek16 : ((16 : Int32) + nI k).toNatClampNeg = 16 + k := by rw [show (16 : Int32) + nI k = nI (16 + k) from nI_add 16 k, nI_clamp (by omega)]
      obtain ⟨v1, v2⟩ := hset k (by omega)
      rw [ek, ek16, v1]
      obtain ⟨⟨C', g2, g3, g4⟩, g5⟩ := take_loop m16 n (nI k + (1 : Int32)) (sSC S 0 (sC (S.1 0) 2 k (M 6 k))) (sA M 0 (16 + k) (M 6 k)) (k + 1) (nI_1 k) (by omega) (by omega) hm (by rw [sA_o _ _ _ _ (by decide)]; exact hr) (fun q hq => by rw [sA_o _ _ _ _ (by decide)]; exact hset q hq) (by rw [sSC_e]; exact CR_wset hC k (by omega) v2) (fun q hq => by
        rw [sSC_e]
        by_cases z : q = k
        · subst z; rw [sC_e, sA_e]
        · rw [sC_ne _ _ _ _ z, sA_ne _ _ _ _ (by omega)]; exact hs q (by omega))
      exact ⟨⟨C', by rw [g2, sSC_SC], g3, g4⟩, fun i hi => by rw [g5 i hi, sA_o _ _ _ _ hi]⟩
theorem take_go {B m : Nat} (m1 : 1 ≤ m) (m16 : m ≤ 16) {S : SLS} {r : Int32 × ARR} (h : RS B S r.2) (hm : S.2.1 2 3 = nI m) (hr : r.2 7 11 = nI m) (hset : ∀ q, q < m → S.2.1 1 q = r.2 6 q ∧ bn 0 255 (r.2 6 q)) : ∀ (n : Nat) (y : Int32) (k : Nat), y = nI k → k ≤ m → m + 1 ≤ k + n → (L_S_takeWorkload_20 S n y).1 = (L_M_takeWorkload_18 r n y).1 ∧ RS B (L_S_takeWorkload_20 S n y).2 (L_M_takeWorkload_18 r n y).2
  | 0, _, k, _, h1, h2 => absurd h2 (by omega)
  | n + 1, y, k, hy, h1, h2 => by
    subst hy
    simp only [L_S_takeWorkload_20, L_M_takeWorkload_18]
    rw [hm, hr]
    by_cases c : m ≤ k
    · have ck : nI m ≤ nI k := nI_le c (by omega)
      rw [if_pos ck, if_pos ck]
      obtain ⟨⟨C', g2, g3, g4⟩, g5⟩ := take_loop (B := B) m16 17 0 (F_S_recordState S) (F_M_remember r.2) 0 nI_0.symm (by omega) (by omega) (by rw [rec_T]; exact hm) (by rw [rem_o _ (by decide)]; exact hr) (fun q hq => by rw [rec_T, rem_o _ (by decide)]; exact hset q hq) (by rw [rec_1 S (by omega), rem_0]; exact h.c) (fun q hq => absurd hq (by omega))
      rw [g2, sSC_e, sSC_SC, sSC_2, sSC_2, rec_T, hm, g5 7 (by decide), rem_o r.2 (show 7 ≠ 1 by decide), hr, begins_o _ _ (show 7 ≠ 0 by decide), g5 7 (by decide), rem_o r.2 (show 7 ≠ 1 by decide), hr]
      obtain ⟨e1, e2⟩ := sim_act (M2 := F_M_begins (L_M_takeWorkload_58 17 0 (F_M_remember r.2)) (nI m)) h (Nat.le_refl B) (fun j hj => by rw [begins_o _ _ (by decide), g5 1 (by decide)]; exact rem_1 r.2 hj) (fun i h0 h1 => by rw [begins_o _ _ h0, g5 i h0]; exact rem_o r.2 h1) (begin_rel g3 m1 m16 g4) (nI m)
      exact ⟨e1.symm, e2⟩
    · have ck : ¬ nI m ≤ nI k := nI_ge (by omega) (by omega)
      rw [if_neg ck, if_neg ck, nI_clamp (show k < 2 ^ 31 by omega), (hset k (by omega)).1, h.c.1.f 2 51 (by decide)]
      by_cases d : (r.2 6 k) < ((1 : Int32) <<< ((r.2 0 51) &&& 31))
      · rw [if_pos d, if_pos d]
        exact take_go m1 m16 h hm hr hset n _ (k + 1) (nI_1 k) (by omega) (by omega)
      · rw [if_neg d, if_neg d]
        exact ⟨rfl, h⟩
theorem sim_takeWorkload {B : Nat} {S : SLS} {M : ARR} (h : RS B S M) : (F_S_takeWorkload S).1 = (F_M_takeWorkload M).1 ∧ RS B (F_S_takeWorkload S).2 (F_M_takeWorkload M).2 := by
  unfold F_S_takeWorkload F_M_takeWorkload
  dsimp only
  obtain ⟨t, t60, t2, t3, t4⟩ := h.t
  obtain ⟨p1, p2, p3⟩ := read_P h.ok.t
  have hR : RS B (sT S (F_T_read S.2.1).2) (F_M_fault M).2 := RS_text h p1 p3 (fun i h6 h7 => fault_o h.t6 h6 h7) (fun j h9 h11 => fault_7 h.t6 h9 h11)
  have neg1 : ∀ e : Nat, e ≤ 60 → ¬ nI e = (-1 : Int32) ∧ ¬ nI e = (-5 : Int32) := fun e he => by
    refine ⟨fun q => ?_, fun q => ?_⟩
    · have := congrArg Int32.toInt q
      rw [nI_toInt (by omega)] at this
      have e1 : (-1 : Int32).toInt = -1 := by decide
      omega
    · have := congrArg Int32.toInt q
      rw [nI_toInt (by omega)] at this
      have e1 : (-5 : Int32).toInt = -5 := by decide
      omega
  rcases sim_read t60 t2 t3 t4 with ⟨e, e1, e2, e3⟩ | ⟨e2, e3, m, m1, m16, hm, hr, hset⟩
  · rw [e2, e3, if_neg (neg1 e e1).1, if_neg (neg1 e e1).2]
    exact ⟨rfl, hR⟩
  · rw [e2, e3, if_pos rfl, if_pos rfl]
    exact take_go m1 m16 hR hm hr hset 17 0 0 nI_0.symm (by omega) (by omega)
/-! the beginning -/
theorem init_CR : CR 0 C0 (M0 0) := by
  refine ⟨⟨fun k hk => ?_, fun k hk => ?_, fun k N hN h16 hk => ?_, fun k hk => ⟨0, by omega, by omega, nI_0.symm⟩, fun k hk => ?_, by decide +kernel, fun i j q => ?_⟩, ⟨⟨1, by decide +kernel⟩, ⟨0, 1, by decide +kernel⟩, ⟨1000, by decide +kernel⟩, ⟨20, by decide +kernel⟩, ⟨0, by decide +kernel⟩, ⟨200, by decide +kernel⟩, ⟨40, by decide +kernel⟩, ⟨5, by decide +kernel⟩, ⟨100, by decide +kernel⟩, ⟨2, by decide +kernel⟩, ⟨10, by decide +kernel⟩, ⟨4, by decide +kernel⟩, fun k hk => ?_, fun k hk => ?_⟩, ⟨0, by omega, by decide +kernel, by decide +kernel, by decide +kernel⟩⟩
  · revert k; decide +kernel
  · revert k; decide +kernel
  · have : ∀ q : Nat, q < 16 → C0.1 2 q = M0 0 (16 + q) := by decide +kernel
    exact this k (by omega)
  · revert k; decide +kernel
  · have : ∀ p ∈ SF, C0.1 4 p.1 = M0 0 p.2 := by decide +kernel
    exact this (i, j) q
  · have : ∀ q : Nat, q < 8 → (M0 0 q = nI 100 ∨ M0 0 q = nI 0) := by decide +kernel
    rcases this k hk with z | z
    · exact ⟨100, by omega, by omega, z⟩
    · exact ⟨0, by omega, by omega, z⟩
  · have : ∀ q : Nat, q < 16 → M0 0 (16 + q) = nI 0 := by decide +kernel
    exact ⟨0, by omega, by omega, this k hk⟩
theorem init_RS : RS 0 S0 M0 := by
  refine ⟨init_CR, ⟨0, by omega, nI_0.symm, nI_0.symm, fun k hk => absurd hk (by omega)⟩, ⟨rfl, Or.inl rfl, fun q => absurd q (by decide)⟩, ⟨0, by omega, nI_0.symm, nI_0.symm, fun k hk => absurd hk (by omega)⟩, fun i _ => Or.inl (show C0.1 4 9 = 0 by decide +kernel)⟩
